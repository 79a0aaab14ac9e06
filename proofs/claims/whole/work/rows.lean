section
-- ===== PART A: goes FIRST, ahead of the names: the tables' words, and 'selects' of the private methods out of them =====
/-- a private method of a class that the tables say can be made, by its rows of tables_1 -/
def lw_okq (q : MethodName × Nat) : Prop := (q.1.cls ≠ "java/lang/invoke/MethodHandle" ∧ q.1.cls ≠ "java/lang/invoke/VarHandle") ∧ Cond.instantiable q.1.cls q.2 ∈ tables_1 ∧ Cond.privateMethod q.1 ∈ tables_1 ∧ Cond.instanceMethod q.1 ∈ tables_1
theorem lw_p0 : lw_okq (⟨"HandRelay$Ways", "take", "(IIJ)V"⟩, 10) := ⟨⟨by decide +kernel, by decide +kernel⟩, List.mem_of_getElem? (i := 154) (by decide +kernel), List.mem_of_getElem? (i := 363) (by decide +kernel), List.mem_of_getElem? (i := 364) (by decide +kernel)⟩
theorem lw_p1 : lw_okq (⟨"HandRelay$Ways", "isBetter", "(IIJ)Z"⟩, 10) := ⟨⟨by decide +kernel, by decide +kernel⟩, List.mem_of_getElem? (i := 154) (by decide +kernel), List.mem_of_getElem? (i := 367) (by decide +kernel), List.mem_of_getElem? (i := 368) (by decide +kernel)⟩
theorem lw_p2 : lw_okq (⟨"HandRelay$Text", "takeClause", "(I)Z"⟩, 6) := ⟨⟨by decide +kernel, by decide +kernel⟩, List.mem_of_getElem? (i := 197) (by decide +kernel), List.mem_of_getElem? (i := 406) (by decide +kernel), List.mem_of_getElem? (i := 407) (by decide +kernel)⟩
theorem lw_p3 : lw_okq (⟨"HandRelay$Text", "wordHere", "()I"⟩, 6) := ⟨⟨by decide +kernel, by decide +kernel⟩, List.mem_of_getElem? (i := 197) (by decide +kernel), List.mem_of_getElem? (i := 410) (by decide +kernel), List.mem_of_getElem? (i := 411) (by decide +kernel)⟩
theorem lw_p4 : lw_okq (⟨"HandRelay$Text", "sign", "(I)I"⟩, 6) := ⟨⟨by decide +kernel, by decide +kernel⟩, List.mem_of_getElem? (i := 197) (by decide +kernel), List.mem_of_getElem? (i := 414) (by decide +kernel), List.mem_of_getElem? (i := 415) (by decide +kernel)⟩
theorem lw_p5 : lw_okq (⟨"HandRelay$Text", "isSpelt", "(Ljava/lang/String;I)Z"⟩, 6) := ⟨⟨by decide +kernel, by decide +kernel⟩, List.mem_of_getElem? (i := 197) (by decide +kernel), List.mem_of_getElem? (i := 429) (by decide +kernel), List.mem_of_getElem? (i := 430) (by decide +kernel)⟩
theorem lw_p6 : lw_okq (⟨"HandRelay$Text", "takeNumber", "(I)I"⟩, 6) := ⟨⟨by decide +kernel, by decide +kernel⟩, List.mem_of_getElem? (i := 197) (by decide +kernel), List.mem_of_getElem? (i := 491) (by decide +kernel), List.mem_of_getElem? (i := 492) (by decide +kernel)⟩
theorem lw_p7 : lw_okq (⟨"HandRelay", "obey", "(I)I"⟩, 8) := ⟨⟨by decide +kernel, by decide +kernel⟩, List.mem_of_getElem? (i := 19) (by decide +kernel), List.mem_of_getElem? (i := 499) (by decide +kernel), List.mem_of_getElem? (i := 500) (by decide +kernel)⟩
theorem lw_p8 : lw_okq (⟨"HandRelay$Reaches", "handOn", "(LHandRelay$Setup;II)Z"⟩, 1) := ⟨⟨by decide +kernel, by decide +kernel⟩, List.mem_of_getElem? (i := 144) (by decide +kernel), List.mem_of_getElem? (i := 560) (by decide +kernel), List.mem_of_getElem? (i := 561) (by decide +kernel)⟩
theorem lw_p9 : lw_okq (⟨"HandRelay$Reaches", "give", "(LHandRelay$Setup;III)Z"⟩, 1) := ⟨⟨by decide +kernel, by decide +kernel⟩, List.mem_of_getElem? (i := 144) (by decide +kernel), List.mem_of_getElem? (i := 565) (by decide +kernel), List.mem_of_getElem? (i := 566) (by decide +kernel)⟩
theorem lw_p10 : lw_okq (⟨"HandRelay", "latest", "()I"⟩, 8) := ⟨⟨by decide +kernel, by decide +kernel⟩, List.mem_of_getElem? (i := 19) (by decide +kernel), List.mem_of_getElem? (i := 607) (by decide +kernel), List.mem_of_getElem? (i := 608) (by decide +kernel)⟩
theorem lw_p11 : lw_okq (⟨"HandRelay", "points", "()I"⟩, 8) := ⟨⟨by decide +kernel, by decide +kernel⟩, List.mem_of_getElem? (i := 19) (by decide +kernel), List.mem_of_getElem? (i := 611) (by decide +kernel), List.mem_of_getElem? (i := 612) (by decide +kernel)⟩
theorem lw_p12 : lw_okq (⟨"HandRelay", "mayCut", "(I)Z"⟩, 8) := ⟨⟨by decide +kernel, by decide +kernel⟩, List.mem_of_getElem? (i := 19) (by decide +kernel), List.mem_of_getElem? (i := 615) (by decide +kernel), List.mem_of_getElem? (i := 616) (by decide +kernel)⟩
theorem lw_p13 : lw_okq (⟨"HandRelay", "cutsAll", "(I)Z"⟩, 8) := ⟨⟨by decide +kernel, by decide +kernel⟩, List.mem_of_getElem? (i := 19) (by decide +kernel), List.mem_of_getElem? (i := 620) (by decide +kernel), List.mem_of_getElem? (i := 621) (by decide +kernel)⟩
theorem lw_p14 : lw_okq (⟨"HandRelay", "leastCut", "()I"⟩, 8) := ⟨⟨by decide +kernel, by decide +kernel⟩, List.mem_of_getElem? (i := 19) (by decide +kernel), List.mem_of_getElem? (i := 625) (by decide +kernel), List.mem_of_getElem? (i := 626) (by decide +kernel)⟩
theorem lw_p15 : lw_okq (⟨"HandRelay", "reached", "()I"⟩, 8) := ⟨⟨by decide +kernel, by decide +kernel⟩, List.mem_of_getElem? (i := 19) (by decide +kernel), List.mem_of_getElem? (i := 635) (by decide +kernel), List.mem_of_getElem? (i := 636) (by decide +kernel)⟩
def lw_privs_1 : List (MethodName × Nat) := [(⟨"HandRelay$Ways", "take", "(IIJ)V"⟩, 10), (⟨"HandRelay$Ways", "isBetter", "(IIJ)Z"⟩, 10), (⟨"HandRelay$Text", "takeClause", "(I)Z"⟩, 6), (⟨"HandRelay$Text", "wordHere", "()I"⟩, 6), (⟨"HandRelay$Text", "sign", "(I)I"⟩, 6), (⟨"HandRelay$Text", "isSpelt", "(Ljava/lang/String;I)Z"⟩, 6), (⟨"HandRelay$Text", "takeNumber", "(I)I"⟩, 6), (⟨"HandRelay", "obey", "(I)I"⟩, 8), (⟨"HandRelay$Reaches", "handOn", "(LHandRelay$Setup;II)Z"⟩, 1), (⟨"HandRelay$Reaches", "give", "(LHandRelay$Setup;III)Z"⟩, 1), (⟨"HandRelay", "latest", "()I"⟩, 8), (⟨"HandRelay", "points", "()I"⟩, 8), (⟨"HandRelay", "mayCut", "(I)Z"⟩, 8), (⟨"HandRelay", "cutsAll", "(I)Z"⟩, 8), (⟨"HandRelay", "leastCut", "()I"⟩, 8), (⟨"HandRelay", "reached", "()I"⟩, 8)]
theorem lw_r1 : ∀ q ∈ lw_privs_1, lw_okq q := List.forall_mem_cons.mpr ⟨lw_p0, List.forall_mem_cons.mpr ⟨lw_p1, List.forall_mem_cons.mpr ⟨lw_p2, List.forall_mem_cons.mpr ⟨lw_p3, List.forall_mem_cons.mpr ⟨lw_p4, List.forall_mem_cons.mpr ⟨lw_p5, List.forall_mem_cons.mpr ⟨lw_p6, List.forall_mem_cons.mpr ⟨lw_p7, List.forall_mem_cons.mpr ⟨lw_p8, List.forall_mem_cons.mpr ⟨lw_p9, List.forall_mem_cons.mpr ⟨lw_p10, List.forall_mem_cons.mpr ⟨lw_p11, List.forall_mem_cons.mpr ⟨lw_p12, List.forall_mem_cons.mpr ⟨lw_p13, List.forall_mem_cons.mpr ⟨lw_p14, List.forall_mem_cons.mpr ⟨lw_p15, fun _ h => absurd h List.not_mem_nil⟩⟩⟩⟩⟩⟩⟩⟩⟩⟩⟩⟩⟩⟩⟩⟩
theorem lw_p16 : lw_okq (⟨"HandRelay", "refusalOf", "(II)I"⟩, 8) := ⟨⟨by decide +kernel, by decide +kernel⟩, List.mem_of_getElem? (i := 19) (by decide +kernel), List.mem_of_getElem? (i := 648) (by decide +kernel), List.mem_of_getElem? (i := 649) (by decide +kernel)⟩
theorem lw_p17 : lw_okq (⟨"HandRelay", "isAsSeen", "(I)Z"⟩, 8) := ⟨⟨by decide +kernel, by decide +kernel⟩, List.mem_of_getElem? (i := 19) (by decide +kernel), List.mem_of_getElem? (i := 660) (by decide +kernel), List.mem_of_getElem? (i := 661) (by decide +kernel)⟩
theorem lw_p18 : lw_okq (⟨"HandRelay", "eventRefusal", "(II)I"⟩, 8) := ⟨⟨by decide +kernel, by decide +kernel⟩, List.mem_of_getElem? (i := 19) (by decide +kernel), List.mem_of_getElem? (i := 676) (by decide +kernel), List.mem_of_getElem? (i := 677) (by decide +kernel)⟩
theorem lw_p19 : lw_okq (⟨"HandRelay", "judgeFrom", "(II)I"⟩, 8) := ⟨⟨by decide +kernel, by decide +kernel⟩, List.mem_of_getElem? (i := 19) (by decide +kernel), List.mem_of_getElem? (i := 727) (by decide +kernel), List.mem_of_getElem? (i := 728) (by decide +kernel)⟩
theorem lw_p20 : lw_okq (⟨"HandRelayModel", "areTwo", "(II)Z"⟩, 51) := ⟨⟨by decide +kernel, by decide +kernel⟩, List.mem_of_getElem? (i := 784) (by decide +kernel), List.mem_of_getElem? (i := 959) (by decide +kernel), List.mem_of_getElem? (i := 960) (by decide +kernel)⟩
theorem lw_p21 : lw_okq (⟨"HandRelayModel", "isPerson", "(I)Z"⟩, 51) := ⟨⟨by decide +kernel, by decide +kernel⟩, List.mem_of_getElem? (i := 784) (by decide +kernel), List.mem_of_getElem? (i := 963) (by decide +kernel), List.mem_of_getElem? (i := 964) (by decide +kernel)⟩
theorem lw_p22 : lw_okq (⟨"HandRelayModel", "refusal", "(I)I"⟩, 51) := ⟨⟨by decide +kernel, by decide +kernel⟩, List.mem_of_getElem? (i := 784) (by decide +kernel), List.mem_of_getElem? (i := 976) (by decide +kernel), List.mem_of_getElem? (i := 977) (by decide +kernel)⟩
theorem lw_p23 : lw_okq (⟨"HandRelayModel", "left", "()I"⟩, 51) := ⟨⟨by decide +kernel, by decide +kernel⟩, List.mem_of_getElem? (i := 784) (by decide +kernel), List.mem_of_getElem? (i := 980) (by decide +kernel), List.mem_of_getElem? (i := 981) (by decide +kernel)⟩
theorem lw_p24 : lw_okq (⟨"HandRelayModel", "ways", "()I"⟩, 51) := ⟨⟨by decide +kernel, by decide +kernel⟩, List.mem_of_getElem? (i := 784) (by decide +kernel), List.mem_of_getElem? (i := 1002) (by decide +kernel), List.mem_of_getElem? (i := 1003) (by decide +kernel)⟩
theorem lw_p25 : lw_okq (⟨"HandRelayModel", "finds", "(IIIIZ)V"⟩, 51) := ⟨⟨by decide +kernel, by decide +kernel⟩, List.mem_of_getElem? (i := 784) (by decide +kernel), List.mem_of_getElem? (i := 1006) (by decide +kernel), List.mem_of_getElem? (i := 1007) (by decide +kernel)⟩
theorem lw_p26 : lw_okq (⟨"HandRelayModel", "goes", "(IIII)V"⟩, 51) := ⟨⟨by decide +kernel, by decide +kernel⟩, List.mem_of_getElem? (i := 784) (by decide +kernel), List.mem_of_getElem? (i := 1010) (by decide +kernel), List.mem_of_getElem? (i := 1011) (by decide +kernel)⟩
theorem lw_p27 : lw_okq (⟨"HandRelayModel", "comes", "(I)V"⟩, 51) := ⟨⟨by decide +kernel, by decide +kernel⟩, List.mem_of_getElem? (i := 784) (by decide +kernel), List.mem_of_getElem? (i := 1014) (by decide +kernel), List.mem_of_getElem? (i := 1015) (by decide +kernel)⟩
theorem lw_p28 : lw_okq (⟨"HandRelayModel", "sureOf", "([II)J"⟩, 51) := ⟨⟨by decide +kernel, by decide +kernel⟩, List.mem_of_getElem? (i := 784) (by decide +kernel), List.mem_of_getElem? (i := 1018) (by decide +kernel), List.mem_of_getElem? (i := 1019) (by decide +kernel)⟩
theorem lw_p29 : lw_okq (⟨"HandRelayModel", "isBetter", "(IIJ)Z"⟩, 51) := ⟨⟨by decide +kernel, by decide +kernel⟩, List.mem_of_getElem? (i := 784) (by decide +kernel), List.mem_of_getElem? (i := 1022) (by decide +kernel), List.mem_of_getElem? (i := 1023) (by decide +kernel)⟩
theorem lw_p30 : lw_okq (⟨"HandRelayModel", "otherBy", "(II)I"⟩, 51) := ⟨⟨by decide +kernel, by decide +kernel⟩, List.mem_of_getElem? (i := 784) (by decide +kernel), List.mem_of_getElem? (i := 1027) (by decide +kernel), List.mem_of_getElem? (i := 1028) (by decide +kernel)⟩
theorem lw_p31 : lw_okq (⟨"HandRelayModel", "clauseRead", "()V"⟩, 51) := ⟨⟨by decide +kernel, by decide +kernel⟩, List.mem_of_getElem? (i := 784) (by decide +kernel), List.mem_of_getElem? (i := 1043) (by decide +kernel), List.mem_of_getElem? (i := 1044) (by decide +kernel)⟩
def lw_privs_2 : List (MethodName × Nat) := [(⟨"HandRelay", "refusalOf", "(II)I"⟩, 8), (⟨"HandRelay", "isAsSeen", "(I)Z"⟩, 8), (⟨"HandRelay", "eventRefusal", "(II)I"⟩, 8), (⟨"HandRelay", "judgeFrom", "(II)I"⟩, 8), (⟨"HandRelayModel", "areTwo", "(II)Z"⟩, 51), (⟨"HandRelayModel", "isPerson", "(I)Z"⟩, 51), (⟨"HandRelayModel", "refusal", "(I)I"⟩, 51), (⟨"HandRelayModel", "left", "()I"⟩, 51), (⟨"HandRelayModel", "ways", "()I"⟩, 51), (⟨"HandRelayModel", "finds", "(IIIIZ)V"⟩, 51), (⟨"HandRelayModel", "goes", "(IIII)V"⟩, 51), (⟨"HandRelayModel", "comes", "(I)V"⟩, 51), (⟨"HandRelayModel", "sureOf", "([II)J"⟩, 51), (⟨"HandRelayModel", "isBetter", "(IIJ)Z"⟩, 51), (⟨"HandRelayModel", "otherBy", "(II)I"⟩, 51), (⟨"HandRelayModel", "clauseRead", "()V"⟩, 51)]
theorem lw_r2 : ∀ q ∈ lw_privs_2, lw_okq q := List.forall_mem_cons.mpr ⟨lw_p16, List.forall_mem_cons.mpr ⟨lw_p17, List.forall_mem_cons.mpr ⟨lw_p18, List.forall_mem_cons.mpr ⟨lw_p19, List.forall_mem_cons.mpr ⟨lw_p20, List.forall_mem_cons.mpr ⟨lw_p21, List.forall_mem_cons.mpr ⟨lw_p22, List.forall_mem_cons.mpr ⟨lw_p23, List.forall_mem_cons.mpr ⟨lw_p24, List.forall_mem_cons.mpr ⟨lw_p25, List.forall_mem_cons.mpr ⟨lw_p26, List.forall_mem_cons.mpr ⟨lw_p27, List.forall_mem_cons.mpr ⟨lw_p28, List.forall_mem_cons.mpr ⟨lw_p29, List.forall_mem_cons.mpr ⟨lw_p30, List.forall_mem_cons.mpr ⟨lw_p31, fun _ h => absurd h List.not_mem_nil⟩⟩⟩⟩⟩⟩⟩⟩⟩⟩⟩⟩⟩⟩⟩⟩
theorem lw_p32 : lw_okq (⟨"HandRelayModel", "wordRead", "()I"⟩, 51) := ⟨⟨by decide +kernel, by decide +kernel⟩, List.mem_of_getElem? (i := 784) (by decide +kernel), List.mem_of_getElem? (i := 1047) (by decide +kernel), List.mem_of_getElem? (i := 1048) (by decide +kernel)⟩
theorem lw_p33 : lw_okq (⟨"HandRelayModel", "signAt", "(I)I"⟩, 51) := ⟨⟨by decide +kernel, by decide +kernel⟩, List.mem_of_getElem? (i := 784) (by decide +kernel), List.mem_of_getElem? (i := 1051) (by decide +kernel), List.mem_of_getElem? (i := 1052) (by decide +kernel)⟩
theorem lw_p34 : lw_okq (⟨"HandRelayModel", "isWord", "(Ljava/lang/String;I)Z"⟩, 51) := ⟨⟨by decide +kernel, by decide +kernel⟩, List.mem_of_getElem? (i := 784) (by decide +kernel), List.mem_of_getElem? (i := 1058) (by decide +kernel), List.mem_of_getElem? (i := 1059) (by decide +kernel)⟩
theorem lw_p35 : lw_okq (⟨"HandRelayModel", "numberRead", "(I)I"⟩, 51) := ⟨⟨by decide +kernel, by decide +kernel⟩, List.mem_of_getElem? (i := 784) (by decide +kernel), List.mem_of_getElem? (i := 1068) (by decide +kernel), List.mem_of_getElem? (i := 1069) (by decide +kernel)⟩
theorem lw_p36 : lw_okq (⟨"HandRelayModel", "done", "(I)I"⟩, 51) := ⟨⟨by decide +kernel, by decide +kernel⟩, List.mem_of_getElem? (i := 784) (by decide +kernel), List.mem_of_getElem? (i := 1074) (by decide +kernel), List.mem_of_getElem? (i := 1075) (by decide +kernel)⟩
theorem lw_p37 : lw_okq (⟨"HandRelayModel", "reachOf", "(I)I"⟩, 51) := ⟨⟨by decide +kernel, by decide +kernel⟩, List.mem_of_getElem? (i := 784) (by decide +kernel), List.mem_of_getElem? (i := 1109) (by decide +kernel), List.mem_of_getElem? (i := 1110) (by decide +kernel)⟩
theorem lw_p38 : lw_okq (⟨"HandRelayModel", "tellReaches", "()V"⟩, 51) := ⟨⟨by decide +kernel, by decide +kernel⟩, List.mem_of_getElem? (i := 784) (by decide +kernel), List.mem_of_getElem? (i := 1126) (by decide +kernel), List.mem_of_getElem? (i := 1127) (by decide +kernel)⟩
theorem lw_p39 : lw_okq (⟨"HandRelayModel", "latest", "()I"⟩, 51) := ⟨⟨by decide +kernel, by decide +kernel⟩, List.mem_of_getElem? (i := 784) (by decide +kernel), List.mem_of_getElem? (i := 1138) (by decide +kernel), List.mem_of_getElem? (i := 1139) (by decide +kernel)⟩
theorem lw_p40 : lw_okq (⟨"HandRelayModel", "isThereOne", "(I)Z"⟩, 51) := ⟨⟨by decide +kernel, by decide +kernel⟩, List.mem_of_getElem? (i := 784) (by decide +kernel), List.mem_of_getElem? (i := 1142) (by decide +kernel), List.mem_of_getElem? (i := 1143) (by decide +kernel)⟩
theorem lw_p41 : lw_okq (⟨"HandRelayModel", "points", "()I"⟩, 51) := ⟨⟨by decide +kernel, by decide +kernel⟩, List.mem_of_getElem? (i := 784) (by decide +kernel), List.mem_of_getElem? (i := 1146) (by decide +kernel), List.mem_of_getElem? (i := 1147) (by decide +kernel)⟩
theorem lw_p42 : lw_okq (⟨"HandRelayModel", "mayBeIn", "(I)Z"⟩, 51) := ⟨⟨by decide +kernel, by decide +kernel⟩, List.mem_of_getElem? (i := 784) (by decide +kernel), List.mem_of_getElem? (i := 1150) (by decide +kernel), List.mem_of_getElem? (i := 1151) (by decide +kernel)⟩
theorem lw_p43 : lw_okq (⟨"HandRelayModel", "leastCut", "()I"⟩, 51) := ⟨⟨by decide +kernel, by decide +kernel⟩, List.mem_of_getElem? (i := 784) (by decide +kernel), List.mem_of_getElem? (i := 1154) (by decide +kernel), List.mem_of_getElem? (i := 1155) (by decide +kernel)⟩
theorem lw_p44 : lw_okq (⟨"HandRelayModel", "isSet", "(I)Z"⟩, 51) := ⟨⟨by decide +kernel, by decide +kernel⟩, List.mem_of_getElem? (i := 784) (by decide +kernel), List.mem_of_getElem? (i := 1161) (by decide +kernel), List.mem_of_getElem? (i := 1162) (by decide +kernel)⟩
theorem lw_p45 : lw_okq (⟨"HandRelayModel", "reachedSet", "()I"⟩, 51) := ⟨⟨by decide +kernel, by decide +kernel⟩, List.mem_of_getElem? (i := 784) (by decide +kernel), List.mem_of_getElem? (i := 1165) (by decide +kernel), List.mem_of_getElem? (i := 1166) (by decide +kernel)⟩
theorem lw_p46 : lw_okq (⟨"HandRelayModel", "isAsSeen", "()Z"⟩, 51) := ⟨⟨by decide +kernel, by decide +kernel⟩, List.mem_of_getElem? (i := 784) (by decide +kernel), List.mem_of_getElem? (i := 1181) (by decide +kernel), List.mem_of_getElem? (i := 1182) (by decide +kernel)⟩
theorem lw_p47 : lw_okq (⟨"HandRelayModel", "happens", "(II)V"⟩, 51) := ⟨⟨by decide +kernel, by decide +kernel⟩, List.mem_of_getElem? (i := 784) (by decide +kernel), List.mem_of_getElem? (i := 1201) (by decide +kernel), List.mem_of_getElem? (i := 1202) (by decide +kernel)⟩
def lw_privs_3 : List (MethodName × Nat) := [(⟨"HandRelayModel", "wordRead", "()I"⟩, 51), (⟨"HandRelayModel", "signAt", "(I)I"⟩, 51), (⟨"HandRelayModel", "isWord", "(Ljava/lang/String;I)Z"⟩, 51), (⟨"HandRelayModel", "numberRead", "(I)I"⟩, 51), (⟨"HandRelayModel", "done", "(I)I"⟩, 51), (⟨"HandRelayModel", "reachOf", "(I)I"⟩, 51), (⟨"HandRelayModel", "tellReaches", "()V"⟩, 51), (⟨"HandRelayModel", "latest", "()I"⟩, 51), (⟨"HandRelayModel", "isThereOne", "(I)Z"⟩, 51), (⟨"HandRelayModel", "points", "()I"⟩, 51), (⟨"HandRelayModel", "mayBeIn", "(I)Z"⟩, 51), (⟨"HandRelayModel", "leastCut", "()I"⟩, 51), (⟨"HandRelayModel", "isSet", "(I)Z"⟩, 51), (⟨"HandRelayModel", "reachedSet", "()I"⟩, 51), (⟨"HandRelayModel", "isAsSeen", "()Z"⟩, 51), (⟨"HandRelayModel", "happens", "(II)V"⟩, 51)]
theorem lw_r3 : ∀ q ∈ lw_privs_3, lw_okq q := List.forall_mem_cons.mpr ⟨lw_p32, List.forall_mem_cons.mpr ⟨lw_p33, List.forall_mem_cons.mpr ⟨lw_p34, List.forall_mem_cons.mpr ⟨lw_p35, List.forall_mem_cons.mpr ⟨lw_p36, List.forall_mem_cons.mpr ⟨lw_p37, List.forall_mem_cons.mpr ⟨lw_p38, List.forall_mem_cons.mpr ⟨lw_p39, List.forall_mem_cons.mpr ⟨lw_p40, List.forall_mem_cons.mpr ⟨lw_p41, List.forall_mem_cons.mpr ⟨lw_p42, List.forall_mem_cons.mpr ⟨lw_p43, List.forall_mem_cons.mpr ⟨lw_p44, List.forall_mem_cons.mpr ⟨lw_p45, List.forall_mem_cons.mpr ⟨lw_p46, List.forall_mem_cons.mpr ⟨lw_p47, fun _ h => absurd h List.not_mem_nil⟩⟩⟩⟩⟩⟩⟩⟩⟩⟩⟩⟩⟩⟩⟩⟩
theorem lw_p48 : lw_okq (⟨"HandRelayModel", "row", "(I)[I"⟩, 51) := ⟨⟨by decide +kernel, by decide +kernel⟩, List.mem_of_getElem? (i := 784) (by decide +kernel), List.mem_of_getElem? (i := 1225) (by decide +kernel), List.mem_of_getElem? (i := 1226) (by decide +kernel)⟩
theorem lw_p49 : lw_okq (⟨"HandRelayModel", "refusal", "(II)I"⟩, 51) := ⟨⟨by decide +kernel, by decide +kernel⟩, List.mem_of_getElem? (i := 784) (by decide +kernel), List.mem_of_getElem? (i := 1247) (by decide +kernel), List.mem_of_getElem? (i := 1248) (by decide +kernel)⟩
def lw_privs_4 : List (MethodName × Nat) := [(⟨"HandRelayModel", "row", "(I)[I"⟩, 51), (⟨"HandRelayModel", "refusal", "(II)I"⟩, 51)]
theorem lw_r4 : ∀ q ∈ lw_privs_4, lw_okq q := List.forall_mem_cons.mpr ⟨lw_p48, List.forall_mem_cons.mpr ⟨lw_p49, fun _ h => absurd h List.not_mem_nil⟩⟩
def lw_privs : List (MethodName × Nat) := lw_privs_1 ++ (lw_privs_2 ++ (lw_privs_3 ++ (lw_privs_4)))
def lw_tbl : List Cond := k2_sels lw_privs ++ tables_1
theorem lw_privs_ok : ∀ q ∈ lw_privs, lw_okq q := by
  show ∀ q ∈ lw_privs_1 ++ (lw_privs_2 ++ (lw_privs_3 ++ (lw_privs_4))), lw_okq q
  exact List.forall_mem_append.mpr ⟨lw_r1, List.forall_mem_append.mpr ⟨lw_r2, List.forall_mem_append.mpr ⟨lw_r3, lw_r4⟩⟩⟩
/-! ===== BEGIN words of one list among another's, by their places ===== -/
theorem goodIn_r {big : List Cond} (ws : List Cond) (ps : List Nat) (hp : ws = ps.filterMap (fun i => big[i]?)) (h : ws.all goodWord = true) : GoodIn big ws := by
  intro w hw
  have h1 := List.all_eq_true.mp h w hw
  rw [hp] at hw
  obtain ⟨i, -, hi⟩ := List.mem_filterMap.mp hw
  have hm : w ∈ big := by first | exact List.mem_of_getElem? hi | exact List.getElem?_mem hi
  exact ⟨hm, good_of_word h1⟩
theorem goodIn_app {big a b : List Cond} (ha : GoodIn big a) (hb : GoodIn big b) : GoodIn big (a ++ b) := fun w h => (List.mem_append.mp h).elim (ha w) (hb w)
theorem goodIn_ca {big a b : List Cond} {c : Cond} (ha : GoodIn big (c :: a)) (hb : GoodIn big b) : GoodIn big (c :: (a ++ b)) := fun w h => (List.mem_cons.mp h).elim (fun e => ha w (List.mem_cons.mpr (Or.inl e))) (fun h => (List.mem_append.mp h).elim (fun h => ha w (List.mem_cons.mpr (Or.inr h))) (hb w))
theorem goodIn_sub {big ws : List Cond} (hm : ∀ w ∈ ws, w ∈ big) (h : ws.all goodWord = true) : GoodIn big ws := fun w hw => ⟨hm w hw, good_of_word (List.all_eq_true.mp h w hw)⟩
/-! ===== END ===== -/

/-! ===== BEGIN new T[n][m]: the outer array a place, the inner ones among the pooled ===== -/
/-- f, but v at every address of l -/
def vr_up {α : Type} (f : Nat → α) (l : List Nat) (v : α) : Nat → α := fun a => if a ∈ l then v else f a
theorem vr_up_in {α : Type} {f : Nat → α} {l : List Nat} {v : α} {a : Nat} (h : a ∈ l) : vr_up f l v a = v := if_pos h
theorem vr_up_ne {α : Type} {f : Nat → α} {l : List Nat} {v : α} {a : Nat} (h : a ∉ l) : vr_up f l v a = f a := if_neg h
theorem vr_rows {L l : List Nat} {f : Nat → va_E} {e : va_E} (h : ∀ a, a ∈ l → a ∉ L) : va_pl L f ++ l.map (fun a => (a, e)) = va_pl (L ++ l) (vr_up f l e) := by
  unfold va_pl
  rw [List.map_append]
  congr 1
  · apply List.map_congr_left
    intro a ha
    rw [vr_up_ne (fun q => h a q ha)]
  · apply List.map_congr_left
    intro a ha
    rw [vr_up_in ha]
theorem vr_lay {X rows : va_W} {x : Nat × va_E} {pl : va_W} {D : va_G} {cl : List vw_C} {H : Heap} (hP : va_P D cl (((X ++ pl) ++ [x]) ++ rows) H) : va_P D cl ((X ++ [x]) ++ (pl ++ rows)) H := by
  rw [List.append_assoc (X ++ pl)] at hP
  have h := va_P.swap hP
  rw [← List.append_assoc X] at h
  have h2 := va_P.swap h
  rw [List.append_assoc (X ++ [x])] at h2
  exact h2
theorem vr_layD {X rows : va_W} {x : Nat × va_E} {pl : va_W} {A : Nat → Prop} (hD : va_D A (((X ++ pl) ++ [x]) ++ rows)) : va_D A ((X ++ [x]) ++ (pl ++ rows)) := by
  rw [List.append_assoc (X ++ pl)] at hD
  have h := va_D.swap hD
  rw [← List.append_assoc X] at h
  have h2 := va_D.swap h
  rw [List.append_assoc (X ++ [x])] at h2
  exact h2
theorem vr_outer (c : ClassId) (N h0 : Nat) : ∀ i : Nat, Jvm.Free.Multi.outerC c N h0 i = arrV c N (fun j => va_rf (if j < i then some (h0 + 1 + j) else none))
  | 0 => by
    show ({ cls := c, slots := Array.replicate N .null, vm := .none } : Cell) = _
    rw [arrV_new]
    refine congrArg (arrV c N) (funext fun j => ?_)
    simp [va_rf]
  | i + 1 => by
    show (Jvm.Free.Multi.outerC c N h0 i).setSlot i (.ref (h0 + 1 + i)) = _
    rw [vr_outer c N h0 i, arrV_store]
    refine congrArg (arrV c N) (funext fun j => ?_)
    by_cases e : j = i
    · subst e
      simp [updV, va_rf]
    · by_cases h : j < i
      · simp [updV, e, h, Nat.lt_succ_of_lt h]
      · simp [updV, e, h, show ¬ j < i + 1 by omega]
def va_AOA (ty : FieldType) (U : State) : Prop := (Cond.arrayOver (.array ty)).before #[] U = true
theorem va_AOA.of {ty : FieldType} {A : Array Value} {U : State} (h : (Cond.arrayOver (.array ty)).before A U = true) : va_AOA ty U := h
theorem va_AOA.use {ty : FieldType} {A : Array Value} {U : State} (h : va_AOA ty U) : (Cond.arrayOver (.array ty)).before A U = true := h
section VGM
variable {p : Program} {l : Launch} {e : Env} {R : Room} {s : State} {m : MethodId} {args : Array Value} {below : List Frame} {meth : Method} {c : Code} {H : Heap} {locs : List Loc} {cells slots : Nat} {Q : State → Prop}
variable {cc : ByteArray} {pc : Nat} {ls : Array Slot} {rest : List Value} {D : va_G} {cl : List vw_C} {A : Nat → Prop} {a : Nat} {tys : List (ClassId × FieldType)} {ws : va_W} {H0 : Heap}
theorem va_mna {X : va_W} {L : List Nat} {f : Nat → va_E} {cc : ByteArray} (hexec : p.tables.exec = Jvm.exec) (hb : c.code = cc) {own : String} {index : Nat} {ty : FieldType} {cy : ClassId} (hown : s.vm.findClass own = some m.cls) (hclink : (Cond.classLink own index ("[" ++ (FieldType.array ty).toString)).before args s = true) (hover : va_AOA ty s) (harr : (Cond.arrayClass ty).before args s = true) (hcy : s.vm.findClass (FieldType.array ty).toString = some cy)
    (hK : va_K D cl tys s) (hP : va_P D cl (X ++ va_pl L f) H) (hD : va_D A (X ++ va_pl L f)) (hS : va_S A H0 H locs) (hA : ∀ q, H0.size ≤ q → A q) {n k : Int32} {N' K' : Nat} {z : vp_A} (hn : ¬ n < 0) (hk : ¬ k < 0) (hN : n.toNatClampNeg = N') (hM : k.toNatClampNeg = K')
    (hb1 : N' * 4 ≤ 536870912) (hb2 : K' * componentBytes ty ≤ 536870912) (hb3 : K' ≤ 536870912) (hdf : fits ty (defaultValue ty) = true) (hdd : (defaultValue ty).isDefault = true) (hcells : cells + (1 + N') ≤ R.cells) (hslots : slots + (N' + N' * K') ≤ R.slots) (hz : ∀ c : ClassId, Jvm.Free.Multi.innerC c K' (defaultValue ty) = vp_cell c z) (hdg : decode cc pc = .ok (.multianewarray index 2, 4))
    (kk : ∀ (q : Nat) (r : Nat → Nat) (cA : ClassId) (H1 : Heap), (∀ i j : Nat, i < N' → j < N' → r i = r j → i = j) → (∀ i : Nat, i < N' → r i ∉ L) → va_K D cl (tys ++ [(cA, .array ty)]) s →
      va_P D cl ((X ++ [(q, .inl (cA, N', .inr (.inr (.inr (.inr (fun i => if i < N' then some (r i) else none))))))]) ++ va_pl (L ++ (List.range N').map r) (vr_up f ((List.range N').map r) (.inl (cy, z)))) H1 → va_D A ((X ++ [(q, .inl (cA, N', .inr (.inr (.inr (.inr (fun i => if i < N' then some (r i) else none))))))]) ++ va_pl (L ++ (List.range N').map r) (vr_up f ((List.range N').map r) (.inl (cy, z)))) → va_S A H0 H1 locs →
      W p l e R s m args below meth c H1 locs (cells + 1 + N') (slots + N' + N' * K') Q (F0 m (pc + 4) ls (.ref q :: rest))) : W p l e R s m args below meth c H locs cells slots Q (F0 m pc ls (.int k :: .int n :: rest)) := by
  subst hN
  subst hM
  intro T hT Xs
  obtain ⟨vm₁, cA, comp, -, fA, fC, hO, -, X', step⟩ := Xs.multianewarray2F hexec hown hclink (va_AOA.use hover) harr (g := F0 m pc ls (.int k :: .int n :: rest)) rfl (by rw [hb]; exact hdg) rfl hn hk hb1 hb2 hb3 hdf hdd hcells hslots
  have ec : some cy = some comp := hcy.symm.trans fC
  cases ec
  generalize hF : Jvm.Free.Multi.fill (T.setVm vm₁) cA cy n.toNatClampNeg k.toNatClampNeg (defaultValue ty) n.toNatClampNeg = F at X' step
  have hTh : (T.setVm vm₁).heap = H := hT
  obtain ⟨f1, f2, -, -⟩ := Jvm.Free.Multi.fill_facts (T.setVm vm₁) cA cy n.toNatClampNeg k.toNatClampNeg (defaultValue ty) n.toNatClampNeg
  rw [hF, hTh] at f1 f2
  have hold : ∀ x : Nat, x < H.size → F.heap[x]? = H[x]? := fun x hx => by
    have := Jvm.Free.Multi.fill_old (T.setVm vm₁) cA cy n.toNatClampNeg k.toNatClampNeg (defaultValue ty) (a := x) (by rw [hTh]; exact hx) n.toNatClampNeg
    rw [hF, hTh] at this
    exact this
  have hrow : ∀ j : Nat, j < n.toNatClampNeg → F.heap[H.size + 1 + j]? = some (vp_cell cy z) := fun j hj => by
    have := Jvm.Free.Multi.fill_inner (T.setVm vm₁) cA cy n.toNatClampNeg k.toNatClampNeg (defaultValue ty) n.toNatClampNeg j hj
    rw [hF, hTh, hz] at this
    exact this
  have hout : Jvm.Free.Multi.outerC cA n.toNatClampNeg H.size n.toNatClampNeg = vp_cell cA (n.toNatClampNeg, .inr (.inr (.inr (.inr (fun i => if i < n.toNatClampNeg then some (H.size + 1 + i) else none))))) := by
    rw [vp_cell_q]
    exact vr_outer cA n.toNatClampNeg H.size n.toNatClampNeg
  rw [hout] at f2
  have hlt : ∀ a, a ∈ L → a < H.size := fun a ha => by
    obtain ⟨k9, hk9⟩ := va_pl_get (X := X) (f := f) ha
    exact (hP k9 _ hk9).lt
  have hnl : ∀ i : Nat, i < n.toNatClampNeg → H.size + 1 + i ∉ L := fun i _ h => by
    have := hlt _ h
    omega
  have hnm : ∀ a, a ∈ (List.range n.toNatClampNeg).map (fun i => H.size + 1 + i) → a ∉ L := fun a ha h => by
    obtain ⟨i, -, rfl⟩ := List.mem_map.mp ha
    have := hlt _ h
    omega
  have hP0 : va_P D cl (X ++ va_pl L f) F.heap := hP.kept (fun k9 x hx => hold x.1 ((hP k9 x hx).lt))
  have hP1 : va_P D cl ((X ++ va_pl L f) ++ [(H.size, .inl (cA, n.toNatClampNeg, .inr (.inr (.inr (.inr (fun i => if i < n.toNatClampNeg then some (H.size + 1 + i) else none))))))]) F.heap := hP0.app (fun k9 x hx => by
    have h0 : k9 < 1 := (List.getElem?_eq_some_iff.mp hx).1
    rw [show k9 = 0 by omega] at hx
    cases hx
    exact f2)
  have hP2 : va_P D cl (((X ++ va_pl L f) ++ [(H.size, .inl (cA, n.toNatClampNeg, .inr (.inr (.inr (.inr (fun i => if i < n.toNatClampNeg then some (H.size + 1 + i) else none))))))]) ++ ((List.range n.toNatClampNeg).map (fun i => H.size + 1 + i)).map (fun a => (a, .inl (cy, z)))) F.heap := hP1.app (fun k9 x hx => by
    obtain ⟨a, ha, rfl⟩ := List.mem_map.mp (List.mem_of_getElem? hx)
    obtain ⟨i, hi, rfl⟩ := List.mem_map.mp ha
    exact hrow i (List.mem_range.mp hi))
  have hD2 : va_D A (((X ++ va_pl L f) ++ [(H.size, .inl (cA, n.toNatClampNeg, .inr (.inr (.inr (.inr (fun i => if i < n.toNatClampNeg then some (H.size + 1 + i) else none))))))]) ++ ((List.range n.toNatClampNeg).map (fun i => H.size + 1 + i)).map (fun a => (a, .inl (cy, z)))) := by
    have hD1 := hD.push (e := .inl (cA, n.toNatClampNeg, .inr (.inr (.inr (.inr (fun i => if i < n.toNatClampNeg then some (H.size + 1 + i) else none)))))) hP rfl (hA _ hS.1)
    generalize hW1 : (X ++ va_pl L f) ++ [(H.size, .inl (cA, n.toNatClampNeg, .inr (.inr (.inr (.inr (fun i => if i < n.toNatClampNeg then some (H.size + 1 + i) else none))))))] = W1 at hD1 hP1 ⊢
    have hle : ∀ (k9 : Nat) (x : Nat × va_E), W1[k9]? = some x → x.1 ≤ H.size := fun k9 x hx => by
      rw [← hW1] at hx
      by_cases hl : k9 < (X ++ va_pl L f).length
      · rw [List.getElem?_append_left hl] at hx
        exact Nat.le_of_lt ((hP k9 x hx).lt)
      · rw [List.getElem?_append_right (by omega)] at hx
        have h0 : k9 - (X ++ va_pl L f).length < 1 := (List.getElem?_eq_some_iff.mp hx).1
        rw [show k9 - (X ++ va_pl L f).length = 0 by omega] at hx
        cases hx
        exact Nat.le_refl _
    have hr : ∀ (k9 : Nat) (x : Nat × va_E), (((List.range n.toNatClampNeg).map (fun i => H.size + 1 + i)).map (fun a => ((a, .inl (cy, z)) : Nat × va_E)))[k9]? = some x → x.1 = H.size + 1 + k9 := fun k9 x hx => by
      rw [List.getElem?_map, List.getElem?_map] at hx
      by_cases h9 : k9 < n.toNatClampNeg
      · rw [List.getElem?_range h9] at hx
        cases hx
        rfl
      · have hn0 : (List.range n.toNatClampNeg)[k9]? = none := List.getElem?_eq_none (by rw [List.length_range]; omega)
        rw [hn0] at hx
        cases hx
    refine ⟨fun i j x y hi hj hxy => ?_, fun k9 x hx => ?_⟩
    · by_cases h1 : i < W1.length <;> by_cases h2 : j < W1.length
      · rw [List.getElem?_append_left h1] at hi
        rw [List.getElem?_append_left h2] at hj
        exact hD1.1 i j x y hi hj hxy
      · rw [List.getElem?_append_left h1] at hi
        rw [List.getElem?_append_right (by omega)] at hj
        have := hle _ _ hi
        have := hr _ _ hj
        omega
      · rw [List.getElem?_append_right (by omega)] at hi
        rw [List.getElem?_append_left h2] at hj
        have := hle _ _ hj
        have := hr _ _ hi
        omega
      · rw [List.getElem?_append_right (by omega)] at hi hj
        have := hr _ _ hi
        have := hr _ _ hj
        omega
    · by_cases h1 : k9 < W1.length
      · rw [List.getElem?_append_left h1] at hx
        exact hD1.2 k9 x hx
      · rw [List.getElem?_append_right (by omega)] at hx
        have := hr _ _ hx
        exact hA _ (by have := hS.1; omega)
  have hAr : ArrOfT s cA (.array ty) := fun N9 z9 => by
    obtain ⟨-, k9, hk9, cm9, hkk9⟩ := (hO 0 0 0).1
    exact ⟨(fun q hq => by cases hq), k9, hk9, cm9, hkk9⟩
  have hK2 : va_K D cl (tys ++ [(cA, .array ty)]) s := ⟨hK.1, fun k9 x hx => by
    by_cases hl : k9 < tys.length
    · rw [List.getElem?_append_left hl] at hx
      exact hK.2 k9 x hx
    · rw [List.getElem?_append_right (by omega)] at hx
      have h0 : k9 - tys.length < 1 := (List.getElem?_eq_some_iff.mp hx).1
      rw [show k9 - tys.length = 0 by omega] at hx
      cases hx
      exact ⟨hAr, fA⟩⟩
  obtain ⟨t, a1, b1⟩ := kk H.size (fun i => H.size + 1 + i) cA F.heap (fun i j _ _ h => by have h9 : H.size + 1 + i = H.size + 1 + j := h; omega) hnl hK2 (by rw [← vr_rows hnm]; exact vr_lay hP2) (by rw [← vr_rows hnm]; exact vr_layD hD2) ⟨by rw [f1]; have := hS.1; omega, fun x h1 h2 => (hold x (Nat.lt_of_lt_of_le h1 hS.1)).trans (hS.2.1 x h1 h2), hS.2.2⟩ F rfl X'
  refine ⟨t, step t ?_, b1⟩
  have e : T.heap.size = H.size := by rw [hT]
  rw [e]
  exact a1
end VGM
/-! ===== END ===== -/

def RX0 : String := "HandRelay$Meetings"
def TX0 : u_T := fun k => match k with
  | 0 => ("HandRelay$Meetings", "came", "I", false)
  | 1 => ("HandRelay$Meetings", "time", "[I", true)
  | 2 => ("HandRelay$Meetings", "first", "[I", true)
  | 3 => ("HandRelay$Meetings", "second", "[I", true)
  | 4 => ("HandRelay$Meetings", "sure", "[I", true)
  | _ => ("HandRelay$Meetings", "dropped", "[Z", true)
def tyX0 : Nat → FieldType := fun k => match k with
  | 0 => .int
  | 1 => .array .int
  | 2 => .array .int
  | 3 => .array .int
  | 4 => .array .int
  | _ => .array .boolean
theorem nmX0 : ∀ a, a < 6 → ∀ b, b < 6 → a ≠ b → (TX0 a).2.1 ≠ (TX0 b).2.1 := by decide +kernel
theorem tyX0_ok : ∀ k, k < 6 → parseFieldDescriptor (TX0 k).2.2.1 = some (tyX0 k) := by decide +kernel
abbrev cX0_init : ByteArray := prog_2_method_1_code
def yX0_init : MethodName := ⟨RX0, "<init>", "()V"⟩
abbrev cX0_become : ByteArray := prog_2_method_2_code
def yX0_become : MethodName := ⟨RX0, "become", "(LHandRelay$Meetings;)V"⟩
abbrev cX0_add : ByteArray := prog_2_method_3_code
def yX0_add : MethodName := ⟨RX0, "add", "(IIII)I"⟩
abbrev cX0_hasCome : ByteArray := prog_2_method_4_code
def yX0_hasCome : MethodName := ⟨RX0, "hasCome", "(I)Z"⟩
abbrev cX0_isThere : ByteArray := prog_2_method_5_code
def yX0_isThere : MethodName := ⟨RX0, "isThere", "(I)Z"⟩
abbrev cX0_refusal : ByteArray := prog_2_method_6_code
def yX0_refusal : MethodName := ⟨RX0, "refusal", "(I)I"⟩
abbrev cX0_remove : ByteArray := prog_2_method_7_code
def yX0_remove : MethodName := ⟨RX0, "remove", "(I)V"⟩
abbrev cX0_removeAllOf : ByteArray := prog_2_method_8_code
def yX0_removeAllOf : MethodName := ⟨RX0, "removeAllOf", "(I)V"⟩
abbrev cX0_left : ByteArray := prog_2_method_9_code
def yX0_left : MethodName := ⟨RX0, "left", "()I"⟩
abbrev cX0_change : ByteArray := prog_2_method_10_code
def yX0_change : MethodName := ⟨RX0, "change", "(III)I"⟩
abbrev cX0_other : ByteArray := prog_2_method_11_code
def yX0_other : MethodName := ⟨RX0, "other", "(II)I"⟩
abbrev cX0_taker : ByteArray := prog_2_method_12_code
def yX0_taker : MethodName := ⟨RX0, "taker", "(IIII)I"⟩
abbrev cX0_howManyAhead : ByteArray := prog_2_method_13_code
def yX0_howManyAhead : MethodName := ⟨RX0, "howManyAhead", "(I)I"⟩
def RX1 : String := "HandRelay$Reaches"
def TX1 : u_T := fun k => match k with
  | _ => ("HandRelay$Reaches", "at", "[I", true)
def tyX1 : Nat → FieldType := fun k => match k with
  | _ => .array .int
theorem nmX1 : ∀ a, a < 1 → ∀ b, b < 1 → a ≠ b → (TX1 a).2.1 ≠ (TX1 b).2.1 := by decide +kernel
theorem tyX1_ok : ∀ k, k < 1 → parseFieldDescriptor (TX1 k).2.2.1 = some (tyX1 k) := by decide +kernel
abbrev cX1_init : ByteArray := prog_3_method_1_code
def yX1_init : MethodName := ⟨RX1, "<init>", "()V"⟩
abbrev cX1_of : ByteArray := prog_3_method_2_code
def yX1_of : MethodName := ⟨RX1, "of", "(I)I"⟩
abbrev cX1_fill : ByteArray := prog_3_method_3_code
def yX1_fill : MethodName := ⟨RX1, "fill", "(LHandRelay$Setup;I)V"⟩
abbrev cX1_fillWithout : ByteArray := prog_3_method_4_code
def yX1_fillWithout : MethodName := ⟨RX1, "fillWithout", "(LHandRelay$Setup;III)V"⟩
abbrev cX1_handOn : ByteArray := prog_3_method_5_code
def yX1_handOn : MethodName := ⟨RX1, "handOn", "(LHandRelay$Setup;II)Z"⟩
abbrev cX1_give : ByteArray := prog_3_method_6_code
def yX1_give : MethodName := ⟨RX1, "give", "(LHandRelay$Setup;III)Z"⟩
abbrev cX1_howManyAhead : ByteArray := prog_3_method_7_code
def yX1_howManyAhead : MethodName := ⟨RX1, "howManyAhead", "(I)I"⟩
def RX2 : String := "HandRelay$Rows"
def TX2 : u_T := fun k => match k with
  | 0 => ("HandRelay$Rows", "count", "I", false)
  | 1 => ("HandRelay$Rows", "most", "I", true)
  | 2 => ("HandRelay$Rows", "key", "[I", true)
  | 3 => ("HandRelay$Rows", "value", "[I", true)
  | _ => ("HandRelay$Rows", "flag", "[I", true)
def tyX2 : Nat → FieldType := fun k => match k with
  | 0 => .int
  | 1 => .int
  | 2 => .array .int
  | 3 => .array .int
  | _ => .array .int
theorem nmX2 : ∀ a, a < 5 → ∀ b, b < 5 → a ≠ b → (TX2 a).2.1 ≠ (TX2 b).2.1 := by decide +kernel
theorem tyX2_ok : ∀ k, k < 5 → parseFieldDescriptor (TX2 k).2.2.1 = some (tyX2 k) := by decide +kernel
abbrev cX2_init : ByteArray := prog_4_method_1_code
def yX2_init : MethodName := ⟨RX2, "<init>", "(I)V"⟩
abbrev cX2_become : ByteArray := prog_4_method_2_code
def yX2_become : MethodName := ⟨RX2, "become", "(LHandRelay$Rows;)V"⟩
abbrev cX2_clear : ByteArray := prog_4_method_3_code
def yX2_clear : MethodName := ⟨RX2, "clear", "()I"⟩
abbrev cX2_add : ByteArray := prog_4_method_4_code
def yX2_add : MethodName := ⟨RX2, "add", "(III)I"⟩
def RX3 : String := "HandRelay$Setup"
def TX3 : u_T := fun k => match k with
  | 0 => ("HandRelay$Setup", "n", "I", false)
  | 1 => ("HandRelay$Setup", "delay", "I", false)
  | 2 => ("HandRelay$Setup", "from", "I", false)
  | 3 => ("HandRelay$Setup", "to", "I", false)
  | 4 => ("HandRelay$Setup", "start", "I", false)
  | 5 => ("HandRelay$Setup", "meetings", "LHandRelay$Meetings;", true)
  | 6 => ("HandRelay$Setup", "seen", "LHandRelay$Rows;", true)
  | 7 => ("HandRelay$Setup", "events", "LHandRelay$Rows;", true)
  | _ => ("HandRelay$Setup", "book", "LHandRelay$Rows;", true)
def tyX3 : Nat → FieldType := fun k => match k with
  | 0 => .int
  | 1 => .int
  | 2 => .int
  | 3 => .int
  | 4 => .int
  | 5 => .object "HandRelay$Meetings"
  | 6 => .object "HandRelay$Rows"
  | 7 => .object "HandRelay$Rows"
  | _ => .object "HandRelay$Rows"
theorem nmX3 : ∀ a, a < 9 → ∀ b, b < 9 → a ≠ b → (TX3 a).2.1 ≠ (TX3 b).2.1 := by decide +kernel
theorem tyX3_ok : ∀ k, k < 9 → parseFieldDescriptor (TX3 k).2.2.1 = some (tyX3 k) := by decide +kernel
abbrev cX3_init : ByteArray := prog_5_method_1_code
def yX3_init : MethodName := ⟨RX3, "<init>", "()V"⟩
abbrev cX3_startAnew : ByteArray := prog_5_method_2_code
def yX3_startAnew : MethodName := ⟨RX3, "startAnew", "(I)V"⟩
abbrev cX3_become : ByteArray := prog_5_method_3_code
def yX3_become : MethodName := ⟨RX3, "become", "(LHandRelay$Setup;)V"⟩
abbrev cX3_isPerson : ByteArray := prog_5_method_4_code
def yX3_isPerson : MethodName := ⟨RX3, "isPerson", "(I)Z"⟩
abbrev cX3_isPair : ByteArray := prog_5_method_5_code
def yX3_isPair : MethodName := ⟨RX3, "isPair", "(II)Z"⟩
abbrev cX3_undergo : ByteArray := prog_5_method_6_code
def yX3_undergo : MethodName := ⟨RX3, "undergo", "(II)V"⟩
def RX4 : String := "HandRelay$Tapes"
def TX4 : u_T := fun k => match k with
  | 0 => ("HandRelay$Tapes", "sort", "[I", true)
  | 1 => ("HandRelay$Tapes", "size", "[I", true)
  | _ => ("HandRelay$Tapes", "row", "[[J", true)
def tyX4 : Nat → FieldType := fun k => match k with
  | 0 => .array .int
  | 1 => .array .int
  | _ => .array (.array .long)
theorem nmX4 : ∀ a, a < 3 → ∀ b, b < 3 → a ≠ b → (TX4 a).2.1 ≠ (TX4 b).2.1 := by decide +kernel
theorem tyX4_ok : ∀ k, k < 3 → parseFieldDescriptor (TX4 k).2.2.1 = some (tyX4 k) := by decide +kernel
abbrev cX4_init : ByteArray := prog_6_method_1_code
def yX4_init : MethodName := ⟨RX4, "<init>", "()V"⟩
abbrev cX4_isTape : ByteArray := prog_6_method_2_code
def yX4_isTape : MethodName := ⟨RX4, "isTape", "(I)Z"⟩
abbrev cX4_holds : ByteArray := prog_6_method_3_code
def yX4_holds : MethodName := ⟨RX4, "holds", "(I)Z"⟩
abbrev cX4_hasPlace : ByteArray := prog_6_method_4_code
def yX4_hasPlace : MethodName := ⟨RX4, "hasPlace", "(II)Z"⟩
abbrev cX4_hasRun : ByteArray := prog_6_method_5_code
def yX4_hasRun : MethodName := ⟨RX4, "hasRun", "(III)Z"⟩
abbrev cX4_become : ByteArray := prog_6_method_6_code
def yX4_become : MethodName := ⟨RX4, "become", "(III)I"⟩
abbrev cX4_put : ByteArray := prog_6_method_7_code
def yX4_put : MethodName := ⟨RX4, "put", "(IIJ)I"⟩
abbrev cX4_cutTo : ByteArray := prog_6_method_8_code
def yX4_cutTo : MethodName := ⟨RX4, "cutTo", "(IJ)J"⟩
def RX5 : String := "HandRelay$Text"
def TX5 : u_T := fun k => match k with
  | 0 => ("HandRelay$Text", "size", "I", false)
  | 1 => ("HandRelay$Text", "clauses", "I", false)
  | 2 => ("HandRelay$Text", "signs", "[I", true)
  | 3 => ("HandRelay$Text", "words", "[I", true)
  | 4 => ("HandRelay$Text", "numbers", "[[I", true)
  | _ => ("HandRelay$Text", "at", "I", false)
def tyX5 : Nat → FieldType := fun k => match k with
  | 0 => .int
  | 1 => .int
  | 2 => .array .int
  | 3 => .array .int
  | 4 => .array (.array .int)
  | _ => .int
theorem nmX5 : ∀ a, a < 6 → ∀ b, b < 6 → a ≠ b → (TX5 a).2.1 ≠ (TX5 b).2.1 := by decide +kernel
theorem tyX5_ok : ∀ k, k < 6 → parseFieldDescriptor (TX5 k).2.2.1 = some (tyX5 k) := by decide +kernel
abbrev cX5_init : ByteArray := prog_7_method_1_code
def yX5_init : MethodName := ⟨RX5, "<init>", "()V"⟩
abbrev cX5_add : ByteArray := prog_7_method_2_code
def yX5_add : MethodName := ⟨RX5, "add", "(I)I"⟩
abbrev cX5_empty : ByteArray := prog_7_method_3_code
def yX5_empty : MethodName := ⟨RX5, "empty", "()V"⟩
abbrev cX5_word : ByteArray := prog_7_method_4_code
def yX5_word : MethodName := ⟨RX5, "word", "(I)I"⟩
abbrev cX5_number : ByteArray := prog_7_method_5_code
def yX5_number : MethodName := ⟨RX5, "number", "(II)I"⟩
abbrev cX5_parse : ByteArray := prog_7_method_6_code
def yX5_parse : MethodName := ⟨RX5, "parse", "()I"⟩
abbrev cX5_takeClause : ByteArray := prog_7_method_7_code
def yX5_takeClause : MethodName := ⟨RX5, "takeClause", "(I)Z"⟩
abbrev cX5_takeNumber : ByteArray := prog_7_method_8_code
def yX5_takeNumber : MethodName := ⟨RX5, "takeNumber", "(I)I"⟩
abbrev cX5_wordHere : ByteArray := prog_7_method_9_code
def yX5_wordHere : MethodName := ⟨RX5, "wordHere", "()I"⟩
abbrev cX5_isSpelt : ByteArray := prog_7_method_10_code
def yX5_isSpelt : MethodName := ⟨RX5, "isSpelt", "(Ljava/lang/String;I)Z"⟩
abbrev cX5_sign : ByteArray := prog_7_method_11_code
def yX5_sign : MethodName := ⟨RX5, "sign", "(I)I"⟩
abbrev cX5_isDigit : ByteArray := prog_7_method_12_code
def yX5_isDigit : MethodName := ⟨RX5, "isDigit", "(I)Z"⟩
abbrev cX5_isLetter : ByteArray := prog_7_method_13_code
def yX5_isLetter : MethodName := ⟨RX5, "isLetter", "(I)Z"⟩
abbrev cX5_spelling : ByteArray := prog_7_method_14_code
def yX5_spelling : MethodName := ⟨RX5, "spelling", "(I)Ljava/lang/String;"⟩
abbrev cX5_widths : ByteArray := prog_7_method_15_code
def yX5_widths : MethodName := ⟨RX5, "widths", "(I)Ljava/lang/String;"⟩
def RX6 : String := "HandRelay$Ways"
def TX6 : u_T := fun k => match k with
  | 0 => ("HandRelay$Ways", "rule", "I", false)
  | 1 => ("HandRelay$Ways", "count", "I", false)
  | 2 => ("HandRelay$Ways", "hands", "I", false)
  | 3 => ("HandRelay$Ways", "arrival", "I", false)
  | 4 => ("HandRelay$Ways", "sureness", "J", false)
  | 5 => ("HandRelay$Ways", "meetings", "[I", true)
  | 6 => ("HandRelay$Ways", "holders", "[I", true)
  | 7 => ("HandRelay$Ways", "byHands", "[I", true)
  | 8 => ("HandRelay$Ways", "tried", "[I", true)
  | _ => ("HandRelay$Ways", "held", "[I", true)
def tyX6 : Nat → FieldType := fun k => match k with
  | 0 => .int
  | 1 => .int
  | 2 => .int
  | 3 => .int
  | 4 => .long
  | 5 => .array .int
  | 6 => .array .int
  | 7 => .array .int
  | 8 => .array .int
  | _ => .array .int
theorem nmX6 : ∀ a, a < 10 → ∀ b, b < 10 → a ≠ b → (TX6 a).2.1 ≠ (TX6 b).2.1 := by decide +kernel
theorem tyX6_ok : ∀ k, k < 10 → parseFieldDescriptor (TX6 k).2.2.1 = some (tyX6 k) := by decide +kernel
abbrev cX6_init : ByteArray := prog_8_method_1_code
def yX6_init : MethodName := ⟨RX6, "<init>", "()V"⟩
abbrev cX6_search : ByteArray := prog_8_method_2_code
def yX6_search : MethodName := ⟨RX6, "search", "(LHandRelay$Setup;I)V"⟩
abbrev cX6_goOn : ByteArray := prog_8_method_3_code
def yX6_goOn : MethodName := ⟨RX6, "goOn", "(LHandRelay$Ways;LHandRelay$Setup;IIIJ)V"⟩
abbrev cX6_take : ByteArray := prog_8_method_4_code
def yX6_take : MethodName := ⟨RX6, "take", "(IIJ)V"⟩
abbrev cX6_isBetter : ByteArray := prog_8_method_5_code
def yX6_isBetter : MethodName := ⟨RX6, "isBetter", "(IIJ)Z"⟩
abbrev cX6_leastBy : ByteArray := prog_8_method_6_code
def yX6_leastBy : MethodName := ⟨RX6, "leastBy", "(I)I"⟩
def RX7 : String := "HandRelay"
def TX7 : u_T := fun k => match k with
  | 0 => ("HandRelay", "now", "LHandRelay$Setup;", true)
  | 1 => ("HandRelay", "kept", "LHandRelay$Setup;", true)
  | 2 => ("HandRelay", "later", "LHandRelay$Setup;", true)
  | 3 => ("HandRelay", "reaches", "LHandRelay$Reaches;", true)
  | 4 => ("HandRelay", "ways", "LHandRelay$Ways;", true)
  | 5 => ("HandRelay", "text", "LHandRelay$Text;", true)
  | 6 => ("HandRelay", "tapes", "LHandRelay$Tapes;", true)
  | _ => ("HandRelay", "isKept", "Z", false)
def tyX7 : Nat → FieldType := fun k => match k with
  | 0 => .object "HandRelay$Setup"
  | 1 => .object "HandRelay$Setup"
  | 2 => .object "HandRelay$Setup"
  | 3 => .object "HandRelay$Reaches"
  | 4 => .object "HandRelay$Ways"
  | 5 => .object "HandRelay$Text"
  | 6 => .object "HandRelay$Tapes"
  | _ => .boolean
theorem nmX7 : ∀ a, a < 8 → ∀ b, b < 8 → a ≠ b → (TX7 a).2.1 ≠ (TX7 b).2.1 := by decide +kernel
theorem tyX7_ok : ∀ k, k < 8 → parseFieldDescriptor (TX7 k).2.2.1 = some (tyX7 k) := by decide +kernel
abbrev cX7_init : ByteArray := prog_1_method_1_code
def yX7_init : MethodName := ⟨RX7, "<init>", "()V"⟩
abbrev cX7_people : ByteArray := prog_1_method_2_code
def yX7_people : MethodName := ⟨RX7, "people", "(I)I"⟩
abbrev cX7_meet : ByteArray := prog_1_method_3_code
def yX7_meet : MethodName := ⟨RX7, "meet", "(IIII)I"⟩
abbrev cX7_drop : ByteArray := prog_1_method_4_code
def yX7_drop : MethodName := ⟨RX7, "drop", "(I)I"⟩
abbrev cX7_renew : ByteArray := prog_1_method_5_code
def yX7_renew : MethodName := ⟨RX7, "renew", "(III)I"⟩
abbrev cX7_meeting : ByteArray := prog_1_method_6_code
def yX7_meeting : MethodName := ⟨RX7, "meeting", "(II)I"⟩
abbrev cX7_delay : ByteArray := prog_1_method_7_code
def yX7_delay : MethodName := ⟨RX7, "delay", "(I)I"⟩
abbrev cX7_ask : ByteArray := prog_1_method_8_code
def yX7_ask : MethodName := ⟨RX7, "ask", "(III)I"⟩
abbrev cX7_feed : ByteArray := prog_1_method_9_code
def yX7_feed : MethodName := ⟨RX7, "feed", "(I)I"⟩
abbrev cX7_read : ByteArray := prog_1_method_10_code
def yX7_read : MethodName := ⟨RX7, "read", "()I"⟩
abbrev cX7_way : ByteArray := prog_1_method_11_code
def yX7_way : MethodName := ⟨RX7, "way", "(II)I"⟩
abbrev cX7_holder : ByteArray := prog_1_method_12_code
def yX7_holder : MethodName := ⟨RX7, "holder", "(II)I"⟩
abbrev cX7_sureness : ByteArray := prog_1_method_13_code
def yX7_sureness : MethodName := ⟨RX7, "sureness", "(II)J"⟩
abbrev cX7_reach : ByteArray := prog_1_method_14_code
def yX7_reach : MethodName := ⟨RX7, "reach", "(I)I"⟩
abbrev cX7_by : ByteArray := prog_1_method_15_code
def yX7_by : MethodName := ⟨RX7, "by", "(I)I"⟩
abbrev cX7_agenda : ByteArray := prog_1_method_16_code
def yX7_agenda : MethodName := ⟨RX7, "agenda", "(I)I"⟩
abbrev cX7_rank : ByteArray := prog_1_method_17_code
def yX7_rank : MethodName := ⟨RX7, "rank", "(I)I"⟩
abbrev cX7_between : ByteArray := prog_1_method_18_code
def yX7_between : MethodName := ⟨RX7, "between", "(II)I"⟩
abbrev cX7_told : ByteArray := prog_1_method_19_code
def yX7_told : MethodName := ⟨RX7, "told", "(I)I"⟩
abbrev cX7_cut : ByteArray := prog_1_method_20_code
def yX7_cut : MethodName := ⟨RX7, "cut", "(I)I"⟩
abbrev cX7_see : ByteArray := prog_1_method_21_code
def yX7_see : MethodName := ⟨RX7, "see", "(IIZ)I"⟩
abbrev cX7_fits : ByteArray := prog_1_method_22_code
def yX7_fits : MethodName := ⟨RX7, "fits", "(I)I"⟩
abbrev cX7_odds : ByteArray := prog_1_method_23_code
def yX7_odds : MethodName := ⟨RX7, "odds", "(I)J"⟩
abbrev cX7_mean : ByteArray := prog_1_method_24_code
def yX7_mean : MethodName := ⟨RX7, "mean", "(I)J"⟩
abbrev cX7_event : ByteArray := prog_1_method_25_code
def yX7_event : MethodName := ⟨RX7, "event", "(II)I"⟩
abbrev cX7_after : ByteArray := prog_1_method_26_code
def yX7_after : MethodName := ⟨RX7, "after", "(I)I"⟩
abbrev cX7_book : ByteArray := prog_1_method_27_code
def yX7_book : MethodName := ⟨RX7, "book", "(II)I"⟩
abbrev cX7_looked : ByteArray := prog_1_method_28_code
def yX7_looked : MethodName := ⟨RX7, "looked", "()I"⟩
abbrev cX7_judge : ByteArray := prog_1_method_29_code
def yX7_judge : MethodName := ⟨RX7, "judge", "(II)I"⟩
abbrev cX7_image : ByteArray := prog_1_method_30_code
def yX7_image : MethodName := ⟨RX7, "image", "()I"⟩
abbrev cX7_undo : ByteArray := prog_1_method_31_code
def yX7_undo : MethodName := ⟨RX7, "undo", "()I"⟩
abbrev cX7_count : ByteArray := prog_1_method_32_code
def yX7_count : MethodName := ⟨RX7, "count", "(I)I"⟩
abbrev cX7_tape : ByteArray := prog_1_method_33_code
def yX7_tape : MethodName := ⟨RX7, "tape", "(III)I"⟩
abbrev cX7_item : ByteArray := prog_1_method_34_code
def yX7_item : MethodName := ⟨RX7, "item", "(IIJ)I"⟩
abbrev cX7_peek : ByteArray := prog_1_method_35_code
def yX7_peek : MethodName := ⟨RX7, "peek", "(II)J"⟩
abbrev cX7_shift : ByteArray := prog_1_method_36_code
def yX7_shift : MethodName := ⟨RX7, "shift", "(IIIII)I"⟩
abbrev cX7_isTime : ByteArray := prog_1_method_37_code
def yX7_isTime : MethodName := ⟨RX7, "isTime", "(I)Z"⟩
abbrev cX7_isSure : ByteArray := prog_1_method_38_code
def yX7_isSure : MethodName := ⟨RX7, "isSure", "(I)Z"⟩
abbrev cX7_isDelay : ByteArray := prog_1_method_39_code
def yX7_isDelay : MethodName := ⟨RX7, "isDelay", "(I)Z"⟩
abbrev cX7_isRule : ByteArray := prog_1_method_40_code
def yX7_isRule : MethodName := ⟨RX7, "isRule", "(I)Z"⟩
abbrev cX7_isPart : ByteArray := prog_1_method_41_code
def yX7_isPart : MethodName := ⟨RX7, "isPart", "(I)Z"⟩
abbrev cX7_hasBit : ByteArray := prog_1_method_42_code
def yX7_hasBit : MethodName := ⟨RX7, "hasBit", "(II)Z"⟩
abbrev cX7_lowest : ByteArray := prog_1_method_43_code
def yX7_lowest : MethodName := ⟨RX7, "lowest", "(JJI)J"⟩
abbrev cX7_commonDivisor : ByteArray := prog_1_method_44_code
def yX7_commonDivisor : MethodName := ⟨RX7, "commonDivisor", "(JJ)J"⟩
abbrev cX7_obey : ByteArray := prog_1_method_45_code
def yX7_obey : MethodName := ⟨RX7, "obey", "(I)I"⟩
abbrev cX7_refusalOf : ByteArray := prog_1_method_46_code
def yX7_refusalOf : MethodName := ⟨RX7, "refusalOf", "(II)I"⟩
abbrev cX7_eventRefusal : ByteArray := prog_1_method_47_code
def yX7_eventRefusal : MethodName := ⟨RX7, "eventRefusal", "(II)I"⟩
abbrev cX7_latest : ByteArray := prog_1_method_48_code
def yX7_latest : MethodName := ⟨RX7, "latest", "()I"⟩
abbrev cX7_reached : ByteArray := prog_1_method_49_code
def yX7_reached : MethodName := ⟨RX7, "reached", "()I"⟩
abbrev cX7_mayCut : ByteArray := prog_1_method_50_code
def yX7_mayCut : MethodName := ⟨RX7, "mayCut", "(I)Z"⟩
abbrev cX7_cutsAll : ByteArray := prog_1_method_51_code
def yX7_cutsAll : MethodName := ⟨RX7, "cutsAll", "(I)Z"⟩
abbrev cX7_points : ByteArray := prog_1_method_52_code
def yX7_points : MethodName := ⟨RX7, "points", "()I"⟩
abbrev cX7_leastCut : ByteArray := prog_1_method_53_code
def yX7_leastCut : MethodName := ⟨RX7, "leastCut", "()I"⟩
abbrev cX7_isAsSeen : ByteArray := prog_1_method_54_code
def yX7_isAsSeen : MethodName := ⟨RX7, "isAsSeen", "(I)Z"⟩
abbrev cX7_judgeFrom : ByteArray := prog_1_method_55_code
def yX7_judgeFrom : MethodName := ⟨RX7, "judgeFrom", "(II)I"⟩
def RX8 : String := "HandRelayModel"
def TX8 : u_T := fun k => match k with
  | 0 => ("HandRelayModel", "people", "I", false)
  | 1 => ("HandRelayModel", "came", "I", false)
  | 2 => ("HandRelayModel", "isThere", "[Z", true)
  | 3 => ("HandRelayModel", "times", "[I", true)
  | 4 => ("HandRelayModel", "ones", "[I", true)
  | 5 => ("HandRelayModel", "others", "[I", true)
  | 6 => ("HandRelayModel", "sures", "[I", true)
  | 7 => ("HandRelayModel", "delay", "I", false)
  | 8 => ("HandRelayModel", "from", "I", false)
  | 9 => ("HandRelayModel", "to", "I", false)
  | 10 => ("HandRelayModel", "start", "I", false)
  | 11 => ("HandRelayModel", "seen", "I", false)
  | 12 => ("HandRelayModel", "events", "I", false)
  | 13 => ("HandRelayModel", "booked", "I", false)
  | 14 => ("HandRelayModel", "seenWho", "[I", true)
  | 15 => ("HandRelayModel", "seenTime", "[I", true)
  | 16 => ("HandRelayModel", "eventWhat", "[I", true)
  | 17 => ("HandRelayModel", "eventOf", "[I", true)
  | 18 => ("HandRelayModel", "bookWho", "[I", true)
  | 19 => ("HandRelayModel", "bookTime", "[I", true)
  | 20 => ("HandRelayModel", "seenSo", "[Z", true)
  | 21 => ("HandRelayModel", "text", "[I", true)
  | 22 => ("HandRelayModel", "texted", "I", false)
  | 23 => ("HandRelayModel", "at", "I", false)
  | 24 => ("HandRelayModel", "fault", "I", false)
  | 25 => ("HandRelayModel", "clauses", "I", false)
  | 26 => ("HandRelayModel", "words", "[I", true)
  | 27 => ("HandRelayModel", "numbers", "[I", true)
  | 28 => ("HandRelayModel", "goal", "I", false)
  | 29 => ("HandRelayModel", "barred", "I", false)
  | 30 => ("HandRelayModel", "handsMost", "I", false)
  | 31 => ("HandRelayModel", "rule", "I", false)
  | 32 => ("HandRelayModel", "many", "I", false)
  | 33 => ("HandRelayModel", "bestHands", "I", false)
  | 34 => ("HandRelayModel", "bestArrival", "I", false)
  | 35 => ("HandRelayModel", "bestSure", "J", false)
  | 36 => ("HandRelayModel", "isEnough", "Z", false)
  | 37 => ("HandRelayModel", "isFound", "Z", false)
  | 38 => ("HandRelayModel", "path", "[I", true)
  | 39 => ("HandRelayModel", "best", "[I", true)
  | 40 => ("HandRelayModel", "reaches", "[I", true)
  | 41 => ("HandRelayModel", "wasThere", "[Z", true)
  | 42 => ("HandRelayModel", "hasImage", "Z", false)
  | 43 => ("HandRelayModel", "imageNumbers", "[I", true)
  | 44 => ("HandRelayModel", "imageThere", "[Z", true)
  | 45 => ("HandRelayModel", "imageSo", "[Z", true)
  | 46 => ("HandRelayModel", "imageRows", "[[I", true)
  | 47 => ("HandRelayModel", "sorts", "[I", true)
  | 48 => ("HandRelayModel", "lengths", "[I", true)
  | 49 => ("HandRelayModel", "items", "[[J", true)
  | _ => ("HandRelayModel", "passed", "[J", true)
def tyX8 : Nat → FieldType := fun k => match k with
  | 0 => .int
  | 1 => .int
  | 2 => .array .boolean
  | 3 => .array .int
  | 4 => .array .int
  | 5 => .array .int
  | 6 => .array .int
  | 7 => .int
  | 8 => .int
  | 9 => .int
  | 10 => .int
  | 11 => .int
  | 12 => .int
  | 13 => .int
  | 14 => .array .int
  | 15 => .array .int
  | 16 => .array .int
  | 17 => .array .int
  | 18 => .array .int
  | 19 => .array .int
  | 20 => .array .boolean
  | 21 => .array .int
  | 22 => .int
  | 23 => .int
  | 24 => .int
  | 25 => .int
  | 26 => .array .int
  | 27 => .array .int
  | 28 => .int
  | 29 => .int
  | 30 => .int
  | 31 => .int
  | 32 => .int
  | 33 => .int
  | 34 => .int
  | 35 => .long
  | 36 => .boolean
  | 37 => .boolean
  | 38 => .array .int
  | 39 => .array .int
  | 40 => .array .int
  | 41 => .array .boolean
  | 42 => .boolean
  | 43 => .array .int
  | 44 => .array .boolean
  | 45 => .array .boolean
  | 46 => .array (.array .int)
  | 47 => .array .int
  | 48 => .array .int
  | 49 => .array (.array .long)
  | _ => .array .long
theorem nmX8 : ∀ a, a < 51 → ∀ b, b < 51 → a ≠ b → (TX8 a).2.1 ≠ (TX8 b).2.1 := by decide +kernel
theorem tyX8_ok : ∀ k, k < 51 → parseFieldDescriptor (TX8 k).2.2.1 = some (tyX8 k) := by decide +kernel
abbrev cX8_init : ByteArray := prog_10_method_1_code
def yX8_init : MethodName := ⟨RX8, "<init>", "()V"⟩
abbrev cX8_in : ByteArray := prog_10_method_2_code
def yX8_in : MethodName := ⟨RX8, "in", "(JJJ)Z"⟩
abbrev cX8_isPerson : ByteArray := prog_10_method_3_code
def yX8_isPerson : MethodName := ⟨RX8, "isPerson", "(I)Z"⟩
abbrev cX8_areTwo : ByteArray := prog_10_method_4_code
def yX8_areTwo : MethodName := ⟨RX8, "areTwo", "(II)Z"⟩
abbrev cX8_isTime : ByteArray := prog_10_method_5_code
def yX8_isTime : MethodName := ⟨RX8, "isTime", "(I)Z"⟩
abbrev cX8_has : ByteArray := prog_10_method_6_code
def yX8_has : MethodName := ⟨RX8, "has", "(II)Z"⟩
abbrev cX8_people : ByteArray := prog_10_method_7_code
def yX8_people : MethodName := ⟨RX8, "people", "(I)I"⟩
abbrev cX8_meet : ByteArray := prog_10_method_8_code
def yX8_meet : MethodName := ⟨RX8, "meet", "(IIII)I"⟩
abbrev cX8_left : ByteArray := prog_10_method_9_code
def yX8_left : MethodName := ⟨RX8, "left", "()I"⟩
abbrev cX8_refusal : ByteArray := prog_10_method_10_code
def yX8_refusal : MethodName := ⟨RX8, "refusal", "(I)I"⟩
abbrev cX8_drop : ByteArray := prog_10_method_11_code
def yX8_drop : MethodName := ⟨RX8, "drop", "(I)I"⟩
abbrev cX8_renew : ByteArray := prog_10_method_12_code
def yX8_renew : MethodName := ⟨RX8, "renew", "(III)I"⟩
abbrev cX8_meeting : ByteArray := prog_10_method_13_code
def yX8_meeting : MethodName := ⟨RX8, "meeting", "(II)I"⟩
abbrev cX8_delay : ByteArray := prog_10_method_14_code
def yX8_delay : MethodName := ⟨RX8, "delay", "(I)I"⟩
abbrev cX8_ask : ByteArray := prog_10_method_15_code
def yX8_ask : MethodName := ⟨RX8, "ask", "(III)I"⟩
abbrev cX8_feed : ByteArray := prog_10_method_16_code
def yX8_feed : MethodName := ⟨RX8, "feed", "(I)I"⟩
abbrev cX8_signAt : ByteArray := prog_10_method_17_code
def yX8_signAt : MethodName := ⟨RX8, "signAt", "(I)I"⟩
abbrev cX8_isWord : ByteArray := prog_10_method_18_code
def yX8_isWord : MethodName := ⟨RX8, "isWord", "(Ljava/lang/String;I)Z"⟩
abbrev cX8_wordRead : ByteArray := prog_10_method_19_code
def yX8_wordRead : MethodName := ⟨RX8, "wordRead", "()I"⟩
abbrev cX8_numberRead : ByteArray := prog_10_method_20_code
def yX8_numberRead : MethodName := ⟨RX8, "numberRead", "(I)I"⟩
abbrev cX8_clauseRead : ByteArray := prog_10_method_21_code
def yX8_clauseRead : MethodName := ⟨RX8, "clauseRead", "()V"⟩
abbrev cX8_done : ByteArray := prog_10_method_22_code
def yX8_done : MethodName := ⟨RX8, "done", "(I)I"⟩
abbrev cX8_read : ByteArray := prog_10_method_23_code
def yX8_read : MethodName := ⟨RX8, "read", "()I"⟩
abbrev cX8_sureOf : ByteArray := prog_10_method_24_code
def yX8_sureOf : MethodName := ⟨RX8, "sureOf", "([II)J"⟩
abbrev cX8_isBetter : ByteArray := prog_10_method_25_code
def yX8_isBetter : MethodName := ⟨RX8, "isBetter", "(IIJ)Z"⟩
abbrev cX8_comes : ByteArray := prog_10_method_26_code
def yX8_comes : MethodName := ⟨RX8, "comes", "(I)V"⟩
abbrev cX8_otherBy : ByteArray := prog_10_method_27_code
def yX8_otherBy : MethodName := ⟨RX8, "otherBy", "(II)I"⟩
abbrev cX8_goes : ByteArray := prog_10_method_28_code
def yX8_goes : MethodName := ⟨RX8, "goes", "(IIII)V"⟩
abbrev cX8_finds : ByteArray := prog_10_method_29_code
def yX8_finds : MethodName := ⟨RX8, "finds", "(IIIIZ)V"⟩
abbrev cX8_ways : ByteArray := prog_10_method_30_code
def yX8_ways : MethodName := ⟨RX8, "ways", "()I"⟩
abbrev cX8_isThereOne : ByteArray := prog_10_method_31_code
def yX8_isThereOne : MethodName := ⟨RX8, "isThereOne", "(I)Z"⟩
abbrev cX8_reachOf : ByteArray := prog_10_method_32_code
def yX8_reachOf : MethodName := ⟨RX8, "reachOf", "(I)I"⟩
abbrev cX8_isRule : ByteArray := prog_10_method_33_code
def yX8_isRule : MethodName := ⟨RX8, "isRule", "(I)Z"⟩
abbrev cX8_way : ByteArray := prog_10_method_34_code
def yX8_way : MethodName := ⟨RX8, "way", "(II)I"⟩
abbrev cX8_holder : ByteArray := prog_10_method_35_code
def yX8_holder : MethodName := ⟨RX8, "holder", "(II)I"⟩
abbrev cX8_lowest : ByteArray := prog_10_method_36_code
def yX8_lowest : MethodName := ⟨RX8, "lowest", "(JJI)J"⟩
abbrev cX8_isPart : ByteArray := prog_10_method_37_code
def yX8_isPart : MethodName := ⟨RX8, "isPart", "(I)Z"⟩
abbrev cX8_sureness : ByteArray := prog_10_method_38_code
def yX8_sureness : MethodName := ⟨RX8, "sureness", "(II)J"⟩
abbrev cX8_reach : ByteArray := prog_10_method_39_code
def yX8_reach : MethodName := ⟨RX8, "reach", "(I)I"⟩
abbrev cX8_by : ByteArray := prog_10_method_40_code
def yX8_by : MethodName := ⟨RX8, "by", "(I)I"⟩
abbrev cX8_agenda : ByteArray := prog_10_method_41_code
def yX8_agenda : MethodName := ⟨RX8, "agenda", "(I)I"⟩
abbrev cX8_tellReaches : ByteArray := prog_10_method_42_code
def yX8_tellReaches : MethodName := ⟨RX8, "tellReaches", "()V"⟩
abbrev cX8_rank : ByteArray := prog_10_method_43_code
def yX8_rank : MethodName := ⟨RX8, "rank", "(I)I"⟩
abbrev cX8_between : ByteArray := prog_10_method_44_code
def yX8_between : MethodName := ⟨RX8, "between", "(II)I"⟩
abbrev cX8_latest : ByteArray := prog_10_method_45_code
def yX8_latest : MethodName := ⟨RX8, "latest", "()I"⟩
abbrev cX8_mayBeIn : ByteArray := prog_10_method_46_code
def yX8_mayBeIn : MethodName := ⟨RX8, "mayBeIn", "(I)Z"⟩
abbrev cX8_points : ByteArray := prog_10_method_47_code
def yX8_points : MethodName := ⟨RX8, "points", "()I"⟩
abbrev cX8_bits : ByteArray := prog_10_method_48_code
def yX8_bits : MethodName := ⟨RX8, "bits", "(I)I"⟩
abbrev cX8_isSet : ByteArray := prog_10_method_49_code
def yX8_isSet : MethodName := ⟨RX8, "isSet", "(I)Z"⟩
abbrev cX8_leastCut : ByteArray := prog_10_method_50_code
def yX8_leastCut : MethodName := ⟨RX8, "leastCut", "()I"⟩
abbrev cX8_reachedSet : ByteArray := prog_10_method_51_code
def yX8_reachedSet : MethodName := ⟨RX8, "reachedSet", "()I"⟩
abbrev cX8_told : ByteArray := prog_10_method_52_code
def yX8_told : MethodName := ⟨RX8, "told", "(I)I"⟩
abbrev cX8_cut : ByteArray := prog_10_method_53_code
def yX8_cut : MethodName := ⟨RX8, "cut", "(I)I"⟩
abbrev cX8_see : ByteArray := prog_10_method_54_code
def yX8_see : MethodName := ⟨RX8, "see", "(IIZ)I"⟩
abbrev cX8_isAsSeen : ByteArray := prog_10_method_55_code
def yX8_isAsSeen : MethodName := ⟨RX8, "isAsSeen", "()Z"⟩
abbrev cX8_fits : ByteArray := prog_10_method_56_code
def yX8_fits : MethodName := ⟨RX8, "fits", "(I)I"⟩
abbrev cX8_odds : ByteArray := prog_10_method_57_code
def yX8_odds : MethodName := ⟨RX8, "odds", "(I)J"⟩
abbrev cX8_mean : ByteArray := prog_10_method_58_code
def yX8_mean : MethodName := ⟨RX8, "mean", "(I)J"⟩
abbrev cX8_event : ByteArray := prog_10_method_59_code
def yX8_event : MethodName := ⟨RX8, "event", "(II)I"⟩
abbrev cX8_happens : ByteArray := prog_10_method_60_code
def yX8_happens : MethodName := ⟨RX8, "happens", "(II)V"⟩
abbrev cX8_after : ByteArray := prog_10_method_61_code
def yX8_after : MethodName := ⟨RX8, "after", "(I)I"⟩
abbrev cX8_book : ByteArray := prog_10_method_62_code
def yX8_book : MethodName := ⟨RX8, "book", "(II)I"⟩
abbrev cX8_looked : ByteArray := prog_10_method_63_code
def yX8_looked : MethodName := ⟨RX8, "looked", "()I"⟩
abbrev cX8_judge : ByteArray := prog_10_method_64_code
def yX8_judge : MethodName := ⟨RX8, "judge", "(II)I"⟩
abbrev cX8_row : ByteArray := prog_10_method_65_code
def yX8_row : MethodName := ⟨RX8, "row", "(I)[I"⟩
abbrev cX8_image : ByteArray := prog_10_method_66_code
def yX8_image : MethodName := ⟨RX8, "image", "()I"⟩
abbrev cX8_undo : ByteArray := prog_10_method_67_code
def yX8_undo : MethodName := ⟨RX8, "undo", "()I"⟩
abbrev cX8_count : ByteArray := prog_10_method_68_code
def yX8_count : MethodName := ⟨RX8, "count", "(I)I"⟩
abbrev cX8_isTape : ByteArray := prog_10_method_69_code
def yX8_isTape : MethodName := ⟨RX8, "isTape", "(I)Z"⟩
abbrev cX8_tape : ByteArray := prog_10_method_70_code
def yX8_tape : MethodName := ⟨RX8, "tape", "(III)I"⟩
abbrev cX8_refusal_ : ByteArray := prog_10_method_71_code
def yX8_refusal_ : MethodName := ⟨RX8, "refusal", "(II)I"⟩
abbrev cX8_item : ByteArray := prog_10_method_72_code
def yX8_item : MethodName := ⟨RX8, "item", "(IIJ)I"⟩
abbrev cX8_peek : ByteArray := prog_10_method_73_code
def yX8_peek : MethodName := ⟨RX8, "peek", "(II)J"⟩
abbrev cX8_shift : ByteArray := prog_10_method_74_code
def yX8_shift : MethodName := ⟨RX8, "shift", "(IIIII)I"⟩
def RJx145de : String := "java/io/Serializable"
def TJx145de : u_T := fun k => match k with
  | _ => ("", "", "", false)
def tyJx145de : Nat → FieldType := fun k => match k with
  | _ => .int
theorem nmJx145de : ∀ a, a < 0 → ∀ b, b < 0 → a ≠ b → (TJx145de a).2.1 ≠ (TJx145de b).2.1 := by decide +kernel
theorem tyJx145de_ok : ∀ k, k < 0 → parseFieldDescriptor (TJx145de k).2.2.1 = some (tyJx145de k) := by decide +kernel
def RJx9f9b0 : String := "java/lang/CharSequence"
def TJx9f9b0 : u_T := fun k => match k with
  | _ => ("", "", "", false)
def tyJx9f9b0 : Nat → FieldType := fun k => match k with
  | _ => .int
theorem nmJx9f9b0 : ∀ a, a < 0 → ∀ b, b < 0 → a ≠ b → (TJx9f9b0 a).2.1 ≠ (TJx9f9b0 b).2.1 := by decide +kernel
theorem tyJx9f9b0_ok : ∀ k, k < 0 → parseFieldDescriptor (TJx9f9b0 k).2.2.1 = some (tyJx9f9b0 k) := by decide +kernel
def RJxb160c : String := "java/lang/Comparable"
def TJxb160c : u_T := fun k => match k with
  | _ => ("", "", "", false)
def tyJxb160c : Nat → FieldType := fun k => match k with
  | _ => .int
theorem nmJxb160c : ∀ a, a < 0 → ∀ b, b < 0 → a ≠ b → (TJxb160c a).2.1 ≠ (TJxb160c b).2.1 := by decide +kernel
theorem tyJxb160c_ok : ∀ k, k < 0 → parseFieldDescriptor (TJxb160c k).2.2.1 = some (tyJxb160c k) := by decide +kernel
def RJ6 : String := "java/lang/Integer"
def TJ6 : u_T := fun k => match k with
  | _ => ("", "", "", false)
def tyJ6 : Nat → FieldType := fun k => match k with
  | _ => .int
theorem nmJ6 : ∀ a, a < 0 → ∀ b, b < 0 → a ≠ b → (TJ6 a).2.1 ≠ (TJ6 b).2.1 := by decide +kernel
theorem tyJ6_ok : ∀ k, k < 0 → parseFieldDescriptor (TJ6 k).2.2.1 = some (tyJ6 k) := by decide +kernel
abbrev cJ6_bitCount_0f7a4 : ByteArray := prog_11_method_49_code
def yJ6_bitCount_0f7a4 : MethodName := ⟨RJ6, "bitCount", "(I)I"⟩
def RJ9 : String := "java/lang/Math"
def TJ9 : u_T := fun k => match k with
  | _ => ("", "", "", false)
def tyJ9 : Nat → FieldType := fun k => match k with
  | _ => .int
theorem nmJ9 : ∀ a, a < 0 → ∀ b, b < 0 → a ≠ b → (TJ9 a).2.1 ≠ (TJ9 b).2.1 := by decide +kernel
theorem tyJ9_ok : ∀ k, k < 0 → parseFieldDescriptor (TJ9 k).2.2.1 = some (tyJ9 k) := by decide +kernel
abbrev cJ9_max_f86c9 : ByteArray := prog_12_method_66_code
def yJ9_max_f86c9 : MethodName := ⟨RJ9, "max", "(JJ)J"⟩
def RJ0 : String := "java/lang/String"
def TJ0 : u_T := fun k => match k with
  | _ => ("", "", "", false)
def tyJ0 : Nat → FieldType := fun k => match k with
  | _ => .int
theorem nmJ0 : ∀ a, a < 0 → ∀ b, b < 0 → a ≠ b → (TJ0 a).2.1 ≠ (TJ0 b).2.1 := by decide +kernel
theorem tyJ0_ok : ∀ k, k < 0 → parseFieldDescriptor (TJ0 k).2.2.1 = some (tyJ0 k) := by decide +kernel
abbrev cJ0_length_8abf5 : ByteArray := prog_13_method_54_code
def yJ0_length_8abf5 : MethodName := ⟨RJ0, "length", "()I"⟩
abbrev cJ0_charAt_5068e : ByteArray := prog_13_method_56_code
def yJ0_charAt_5068e : MethodName := ⟨RJ0, "charAt", "(I)C"⟩
abbrev cJ0_coder_7d493 : ByteArray := prog_13_method_152_code
def yJ0_coder_7d493 : MethodName := ⟨RJ0, "coder", "()B"⟩
abbrev cJ0_isLatin1_aae02 : ByteArray := prog_13_method_154_code
def yJ0_isLatin1_aae02 : MethodName := ⟨RJ0, "isLatin1", "()Z"⟩
abbrev cJ0_checkIndex_df160 : ByteArray := prog_13_method_155_code
def yJ0_checkIndex_df160 : MethodName := ⟨RJ0, "checkIndex", "(II)V"⟩
def RJ1 : String := "java/lang/StringLatin1"
def TJ1 : u_T := fun k => match k with
  | _ => ("", "", "", false)
def tyJ1 : Nat → FieldType := fun k => match k with
  | _ => .int
theorem nmJ1 : ∀ a, a < 0 → ∀ b, b < 0 → a ≠ b → (TJ1 a).2.1 ≠ (TJ1 b).2.1 := by decide +kernel
theorem tyJ1_ok : ∀ k, k < 0 → parseFieldDescriptor (TJ1 k).2.2.1 = some (tyJ1 k) := by decide +kernel
abbrev cJ1_charAt_3b067 : ByteArray := prog_14_method_2_code
def yJ1_charAt_3b067 : MethodName := ⟨RJ1, "charAt", "([BI)C"⟩
def RJ2 : String := "java/lang/StringUTF16"
def TJ2 : u_T := fun k => match k with
  | _ => ("", "", "", false)
def tyJ2 : Nat → FieldType := fun k => match k with
  | _ => .int
theorem nmJ2 : ∀ a, a < 0 → ∀ b, b < 0 → a ≠ b → (TJ2 a).2.1 ≠ (TJ2 b).2.1 := by decide +kernel
theorem tyJ2_ok : ∀ k, k < 0 → parseFieldDescriptor (TJ2 k).2.2.1 = some (tyJ2 k) := by decide +kernel
abbrev cJ2_getChar_3b067 : ByteArray := prog_15_method_5_code
def yJ2_getChar_3b067 : MethodName := ⟨RJ2, "getChar", "([BI)C"⟩
abbrev cJ2_length_9d52b : ByteArray := prog_15_method_6_code
def yJ2_length_9d52b : MethodName := ⟨RJ2, "length", "([B)I"⟩
abbrev cJ2_charAt_3b067 : ByteArray := prog_15_method_83_code
def yJ2_charAt_3b067 : MethodName := ⟨RJ2, "charAt", "([BI)C"⟩
abbrev cJ2_checkIndex_2214a : ByteArray := prog_15_method_91_code
def yJ2_checkIndex_2214a : MethodName := ⟨RJ2, "checkIndex", "(I[B)V"⟩
def RJ10 : String := "java/lang/System"
def TJ10 : u_T := fun k => match k with
  | _ => ("", "", "", false)
def tyJ10 : Nat → FieldType := fun k => match k with
  | _ => .int
theorem nmJ10 : ∀ a, a < 0 → ∀ b, b < 0 → a ≠ b → (TJ10 a).2.1 ≠ (TJ10 b).2.1 := by decide +kernel
theorem tyJ10_ok : ∀ k, k < 0 → parseFieldDescriptor (TJ10 k).2.2.1 = some (tyJ10 k) := by decide +kernel
def RJxfd54e : String := "java/lang/constant/Constable"
def TJxfd54e : u_T := fun k => match k with
  | _ => ("", "", "", false)
def tyJxfd54e : Nat → FieldType := fun k => match k with
  | _ => .int
theorem nmJxfd54e : ∀ a, a < 0 → ∀ b, b < 0 → a ≠ b → (TJxfd54e a).2.1 ≠ (TJxfd54e b).2.1 := by decide +kernel
theorem tyJxfd54e_ok : ∀ k, k < 0 → parseFieldDescriptor (TJxfd54e k).2.2.1 = some (tyJxfd54e k) := by decide +kernel
def RJx3cf43 : String := "java/lang/constant/ConstantDesc"
def TJx3cf43 : u_T := fun k => match k with
  | _ => ("", "", "", false)
def tyJx3cf43 : Nat → FieldType := fun k => match k with
  | _ => .int
theorem nmJx3cf43 : ∀ a, a < 0 → ∀ b, b < 0 → a ≠ b → (TJx3cf43 a).2.1 ≠ (TJx3cf43 b).2.1 := by decide +kernel
theorem tyJx3cf43_ok : ∀ k, k < 0 → parseFieldDescriptor (TJx3cf43 k).2.2.1 = some (tyJx3cf43 k) := by decide +kernel
def RJ7 : String := "java/util/Arrays"
def TJ7 : u_T := fun k => match k with
  | _ => ("", "", "", false)
def tyJ7 : Nat → FieldType := fun k => match k with
  | _ => .int
theorem nmJ7 : ∀ a, a < 0 → ∀ b, b < 0 → a ≠ b → (TJ7 a).2.1 ≠ (TJ7 b).2.1 := by decide +kernel
theorem tyJ7_ok : ∀ k, k < 0 → parseFieldDescriptor (TJ7 k).2.2.1 = some (tyJ7 k) := by decide +kernel
abbrev cJ7_fill_d0a16 : ByteArray := prog_17_method_101_code
def yJ7_fill_d0a16 : MethodName := ⟨RJ7, "fill", "([JJ)V"⟩
abbrev cJ7_fill_53178 : ByteArray := prog_17_method_103_code
def yJ7_fill_53178 : MethodName := ⟨RJ7, "fill", "([II)V"⟩
def RJ3 : String := "jdk/internal/util/Preconditions"
def TJ3 : u_T := fun k => match k with
  | _ => ("", "", "", false)
def tyJ3 : Nat → FieldType := fun k => match k with
  | _ => .int
theorem nmJ3 : ∀ a, a < 0 → ∀ b, b < 0 → a ≠ b → (TJ3 a).2.1 ≠ (TJ3 b).2.1 := by decide +kernel
theorem tyJ3_ok : ∀ k, k < 0 → parseFieldDescriptor (TJ3 k).2.2.1 = some (tyJ3 k) := by decide +kernel
abbrev cJ3_checkIndex_8e157 : ByteArray := prog_18_method_11_code
def yJ3_checkIndex_8e157 : MethodName := ⟨RJ3, "checkIndex", "(IILjava/util/function/BiFunction;)I"⟩
def RL : String := "HandRelayLaw"
abbrev cL_law : ByteArray := code
def yL_law : MethodName := ⟨RL, "law", "([I)Z"⟩
abbrev vwCl : List vw_C := [(RX0, TX0, 6), (RX1, TX1, 1), (RX2, TX2, 5), (RX3, TX3, 9), (RX4, TX4, 3), (RX5, TX5, 6), (RX6, TX6, 10), (RX7, TX7, 8), (RX8, TX8, 51)]
end
section
/-! CHECKS: what the resolved code rests on, decided once (by program: wip/whole/emit7.py) -/
def xz_lcs : List Int64 := [4294967295, 0, 1, 100, 10000000000, -9223372036854775808, 2, 5, 9, 3, 127, 99, 48, 57, 6, -1, 4, 97, 122]
def xz_lc (i : Nat) : Int64 := xz_lcs.getD i 0
def xz_TB : List Cond := lw_tbl.filter goodWord
theorem xz_in_TB {w : Cond} (i : Nat) (h : lw_tbl[i]? = some w) (hg : goodWord w = true) : w ∈ xz_TB := List.mem_filter.mpr ⟨List.mem_of_getElem? h, hg⟩
theorem xz_TBgood : GoodIn xz_TB xz_TB := fun w h => ⟨h, good_of_word (List.mem_filter.mp h).2⟩
theorem xz_TBsub : ∀ w ∈ xz_TB, w ∈ lw_tbl := fun _ h => (List.mem_filter.mp h).1
/-- a list of words, each with its place in the tables -/
def xz_pl {α : Type} (f : α → Cond) (l : List (α × Nat)) : Bool := l.all fun q => decide (lw_tbl[q.2]? = some (f q.1)) && goodWord (f q.1)
theorem xz_pl_ok {α : Type} {f : α → Cond} {l : List (α × Nat)} (h : xz_pl f l = true) : ∀ a ∈ l.map (·.1), f a ∈ xz_TB := by
  intro a ha
  obtain ⟨q, hq, rfl⟩ := List.mem_map.mp ha
  have h1 := List.all_eq_true.mp h q hq
  simp only [Bool.and_eq_true, decide_eq_true_eq] at h1
  exact xz_in_TB _ h1.1 h1.2
def xz_RNs : List String := [RX0, RX1, RX2, RX3, RX4, RX5, RX6, RX7, RX8, RL, RJ6, RJ9, RJ7, RJ0, RJ1, RJ3]
def xz_RN (o : Nat) : String := xz_RNs.getD o ""
def xz_T (a : Nat) : u_T := match a with
  | 0 => TX0
  | 1 => TX1
  | 2 => TX2
  | 3 => TX3
  | 4 => TX4
  | 5 => TX5
  | 6 => TX6
  | 7 => TX7
  | _ => TX8
def xz_ty (a : Nat) : Nat → FieldType := match a with
  | 0 => tyX0
  | 1 => tyX1
  | 2 => tyX2
  | 3 => tyX3
  | 4 => tyX4
  | 5 => tyX5
  | 6 => tyX6
  | 7 => tyX7
  | _ => tyX8
def xz_NCs : List Nat := [6, 1, 5, 9, 3, 6, 10, 8, 51]
def xz_NC (a : Nat) : Nat := xz_NCs.getD a 0
def xz_fks : List (List Nat) := [[0, 2, 2, 2, 2, 2], [2], [0, 0, 2, 2, 2], [0, 0, 0, 0, 0, 2, 2, 2, 2], [2, 2, 2], [0, 0, 2, 2, 2, 0], [0, 0, 0, 0, 1, 2, 2, 2, 2, 2], [2, 2, 2, 2, 2, 2, 2, 3], [0, 0, 2, 2, 2, 2, 2, 0, 0, 0, 0, 0, 0, 0, 2, 2, 2, 2, 2, 2, 2, 2, 0, 0, 0, 0, 2, 2, 0, 0, 0, 0, 0, 0, 0, 1, 3, 3, 2, 2, 2, 2, 3, 2, 2, 2, 2, 2, 2, 2, 2]]
def xz_fk (a : Nat) : List Nat := xz_fks.getD a []
theorem xz_cl : ∀ a, a < 9 → vwCl[a]? = some (xz_RN a, xz_T a, xz_NC a) := by
  intro a ha
  match a, ha with
  | 0, _ => rfl
  | 1, _ => rfl
  | 2, _ => rfl
  | 3, _ => rfl
  | 4, _ => rfl
  | 5, _ => rfl
  | 6, _ => rfl
  | 7, _ => rfl
  | 8, _ => rfl
theorem xz_nm : ∀ a, a < 9 → ∀ i, i < xz_NC a → ∀ j, j < xz_NC a → i ≠ j → (xz_T a i).2.1 ≠ (xz_T a j).2.1 := by
  intro a ha
  match a, ha with
  | 0, _ => exact nmX0
  | 1, _ => exact nmX1
  | 2, _ => exact nmX2
  | 3, _ => exact nmX3
  | 4, _ => exact nmX4
  | 5, _ => exact nmX5
  | 6, _ => exact nmX6
  | 7, _ => exact nmX7
  | 8, _ => exact nmX8
theorem xz_tyok : ∀ a, a < 9 → ∀ k, k < xz_NC a → parseFieldDescriptor (xz_T a k).2.2.1 = some (xz_ty a k) := by
  intro a ha
  match a, ha with
  | 0, _ => exact tyX0_ok
  | 1, _ => exact tyX1_ok
  | 2, _ => exact tyX2_ok
  | 3, _ => exact tyX3_ok
  | 4, _ => exact tyX4_ok
  | 5, _ => exact tyX5_ok
  | 6, _ => exact tyX6_ok
  | 7, _ => exact tyX7_ok
  | 8, _ => exact tyX8_ok
def xz_kty (t : FieldType) : Nat := match t with
  | .int => 0
  | .long => 1
  | .boolean => 3
  | .object _ => 2
  | .array _ => 2
  | _ => 9
theorem xz_fkok : ∀ a, a < 9 → ∀ k, k < xz_NC a → (xz_fk a)[k]? = some (xz_kty (xz_ty a k)) := by decide +kernel
theorem xz_fklen : ∀ a, a < 9 → (xz_fk a).length = xz_NC a := by decide +kernel
def xz_layp : List ((Nat × Nat) × Nat) := [((0, 0), 107), ((0, 1), 109), ((0, 2), 111), ((0, 3), 113), ((0, 4), 115), ((0, 5), 117), ((1, 0), 200), ((2, 0), 137), ((2, 1), 139), ((2, 2), 141), ((2, 3), 143), ((2, 4), 145), ((3, 0), 174), ((3, 1), 176), ((3, 2), 178), ((3, 3), 180), ((3, 4), 182), ((3, 5), 184), ((3, 6), 186), ((3, 7), 188), ((3, 8), 190), ((4, 0), 292), ((4, 1), 294), ((4, 2), 296), ((5, 0), 262), ((5, 1), 264), ((5, 2), 266), ((5, 3), 268), ((5, 4), 270), ((5, 5), 272), ((6, 0), 225), ((6, 1), 227), ((6, 2), 229), ((6, 3), 231), ((6, 4), 233), ((6, 5), 235), ((6, 6), 237), ((6, 7), 239), ((6, 8), 241), ((6, 9), 243), ((7, 0), 308), ((7, 1), 310), ((7, 2), 312), ((7, 3), 314), ((7, 4), 316), ((7, 5), 318), ((7, 6), 320), ((7, 7), 322), ((8, 0), 892), ((8, 1), 894), ((8, 2), 896), ((8, 3), 898), ((8, 4), 900), ((8, 5), 902), ((8, 6), 904), ((8, 7), 906), ((8, 8), 908), ((8, 9), 910), ((8, 10), 912), ((8, 11), 914), ((8, 12), 916), ((8, 13), 918), ((8, 14), 920), ((8, 15), 922), ((8, 16), 924), ((8, 17), 926), ((8, 18), 928), ((8, 19), 930), ((8, 20), 932), ((8, 21), 934), ((8, 22), 936), ((8, 23), 938), ((8, 24), 940), ((8, 25), 942), ((8, 26), 944), ((8, 27), 946), ((8, 28), 948), ((8, 29), 950), ((8, 30), 952), ((8, 31), 954), ((8, 32), 956), ((8, 33), 958), ((8, 34), 960), ((8, 35), 962), ((8, 36), 964), ((8, 37), 966), ((8, 38), 968), ((8, 39), 970), ((8, 40), 972), ((8, 41), 974), ((8, 42), 976), ((8, 43), 978), ((8, 44), 980), ((8, 45), 982), ((8, 46), 984), ((8, 47), 986), ((8, 48), 988), ((8, 49), 990), ((8, 50), 992)]
theorem xz_layc : xz_pl (fun q => u_lay (xz_RN q.1) (xz_T q.1) q.2) xz_layp = true := by decide +kernel
theorem xz_laya0 : ((List.range 9).all fun a => (List.range (xz_NC a)).all fun k => (xz_layp.map (·.1)).any fun q => q.1 == a && q.2 == k) = true := by decide +kernel
theorem xz_laya (a : Nat) (ha : a < 9) (k : Nat) (hk : k < xz_NC a) : (a, k) ∈ xz_layp.map (·.1) := by
  have h1 := List.all_eq_true.mp (List.all_eq_true.mp xz_laya0 a (List.mem_range.mpr ha)) k (List.mem_range.mpr hk)
  obtain ⟨q, hq, h2⟩ := List.any_eq_true.mp h1
  obtain ⟨u, w⟩ := q
  simp only [Bool.and_eq_true, beq_iff_eq] at h2
  obtain ⟨rfl, rfl⟩ := h2
  exact hq
theorem xz_inT {a : Nat} (ha : a < 9) : ∀ w ∈ u_ws (xz_RN a) (xz_T a) (xz_NC a), w ∈ xz_TB := by
  intro w hw
  obtain ⟨k, hk, rfl⟩ := List.mem_map.mp hw
  exact xz_pl_ok (f := fun q : Nat × Nat => u_lay (xz_RN q.1) (xz_T q.1) q.2) xz_layc (a, k) (xz_laya a ha k (List.mem_range.mp hk))
noncomputable def xz_mns : List MethodName := [x, yX0_add, yX0_become, yX0_change, yX0_hasCome, yX0_howManyAhead, yX0_init, yX0_isThere, yX0_left, yX0_other, yX0_refusal, yX0_remove, yX0_removeAllOf, yX0_taker, yX1_fill, yX1_fillWithout, yX1_give, yX1_handOn, yX1_howManyAhead, yX1_init, yX1_of, yX2_add, yX2_become, yX2_clear, yX2_init, yX3_become, yX3_init, yX3_isPair, yX3_isPerson, yX3_startAnew, yX3_undergo, yX4_become, yX4_cutTo, yX4_hasPlace, yX4_hasRun, yX4_holds, yX4_init, yX4_isTape, yX4_put, yX5_add, yX5_empty, yX5_init, yX5_isDigit, yX5_isLetter, yX5_isSpelt, yX5_number, yX5_parse, yX5_sign, yX5_spelling, yX5_takeClause, yX5_takeNumber, yX5_widths, yX5_word, yX5_wordHere, yX6_goOn, yX6_init, yX6_isBetter, yX6_leastBy, yX6_search, yX6_take, yX7_after, yX7_agenda, yX7_ask, yX7_between, yX7_book, yX7_by, yX7_commonDivisor, yX7_count, yX7_cut, yX7_cutsAll, yX7_delay, yX7_drop, yX7_event, yX7_eventRefusal, yX7_feed, yX7_fits, yX7_hasBit, yX7_holder, yX7_image, yX7_init, yX7_isAsSeen, yX7_isDelay, yX7_isPart, yX7_isRule, yX7_isSure, yX7_isTime, yX7_item, yX7_judge, yX7_judgeFrom, yX7_latest, yX7_leastCut, yX7_looked, yX7_lowest, yX7_mayCut, yX7_mean, yX7_meet, yX7_meeting, yX7_obey, yX7_odds, yX7_peek, yX7_people, yX7_points, yX7_rank, yX7_reach, yX7_reached, yX7_read, yX7_refusalOf, yX7_renew, yX7_see, yX7_shift, yX7_sureness, yX7_tape, yX7_told, yX7_undo, yX7_way, yX8_after, yX8_agenda, yX8_areTwo, yX8_ask, yX8_between, yX8_bits, yX8_book, yX8_by, yX8_clauseRead, yX8_comes, yX8_count, yX8_cut, yX8_delay, yX8_done, yX8_drop, yX8_event, yX8_feed, yX8_finds, yX8_fits, yX8_goes, yX8_happens, yX8_has, yX8_holder, yX8_image, yX8_in, yX8_init, yX8_isAsSeen, yX8_isBetter, yX8_isPart, yX8_isPerson, yX8_isRule, yX8_isSet, yX8_isTape, yX8_isThereOne, yX8_isTime, yX8_isWord, yX8_item, yX8_judge, yX8_latest, yX8_leastCut, yX8_left, yX8_looked, yX8_lowest, yX8_mayBeIn, yX8_mean, yX8_meet, yX8_meeting, yX8_numberRead, yX8_odds, yX8_otherBy, yX8_peek, yX8_people, yX8_points, yX8_rank, yX8_reach, yX8_reachOf, yX8_reachedSet, yX8_read, yX8_refusal, yX8_refusal_, yX8_renew, yX8_row, yX8_see, yX8_shift, yX8_signAt, yX8_sureOf, yX8_sureness, yX8_tape, yX8_tellReaches, yX8_told, yX8_undo, yX8_way, yX8_ways, yX8_wordRead, yJ0_charAt_5068e, yJ0_checkIndex_df160, yJ0_coder_7d493, yJ0_isLatin1_aae02, yJ0_length_8abf5, yJ1_charAt_3b067, yJ3_checkIndex_8e157, yJ6_bitCount_0f7a4, yJ7_fill_53178, yJ7_fill_d0a16, yJ9_max_f86c9]
noncomputable def xz_mbs : List ByteArray := [code, cX0_add, cX0_become, cX0_change, cX0_hasCome, cX0_howManyAhead, cX0_init, cX0_isThere, cX0_left, cX0_other, cX0_refusal, cX0_remove, cX0_removeAllOf, cX0_taker, cX1_fill, cX1_fillWithout, cX1_give, cX1_handOn, cX1_howManyAhead, cX1_init, cX1_of, cX2_add, cX2_become, cX2_clear, cX2_init, cX3_become, cX3_init, cX3_isPair, cX3_isPerson, cX3_startAnew, cX3_undergo, cX4_become, cX4_cutTo, cX4_hasPlace, cX4_hasRun, cX4_holds, cX4_init, cX4_isTape, cX4_put, cX5_add, cX5_empty, cX5_init, cX5_isDigit, cX5_isLetter, cX5_isSpelt, cX5_number, cX5_parse, cX5_sign, cX5_spelling, cX5_takeClause, cX5_takeNumber, cX5_widths, cX5_word, cX5_wordHere, cX6_goOn, cX6_init, cX6_isBetter, cX6_leastBy, cX6_search, cX6_take, cX7_after, cX7_agenda, cX7_ask, cX7_between, cX7_book, cX7_by, cX7_commonDivisor, cX7_count, cX7_cut, cX7_cutsAll, cX7_delay, cX7_drop, cX7_event, cX7_eventRefusal, cX7_feed, cX7_fits, cX7_hasBit, cX7_holder, cX7_image, cX7_init, cX7_isAsSeen, cX7_isDelay, cX7_isPart, cX7_isRule, cX7_isSure, cX7_isTime, cX7_item, cX7_judge, cX7_judgeFrom, cX7_latest, cX7_leastCut, cX7_looked, cX7_lowest, cX7_mayCut, cX7_mean, cX7_meet, cX7_meeting, cX7_obey, cX7_odds, cX7_peek, cX7_people, cX7_points, cX7_rank, cX7_reach, cX7_reached, cX7_read, cX7_refusalOf, cX7_renew, cX7_see, cX7_shift, cX7_sureness, cX7_tape, cX7_told, cX7_undo, cX7_way, cX8_after, cX8_agenda, cX8_areTwo, cX8_ask, cX8_between, cX8_bits, cX8_book, cX8_by, cX8_clauseRead, cX8_comes, cX8_count, cX8_cut, cX8_delay, cX8_done, cX8_drop, cX8_event, cX8_feed, cX8_finds, cX8_fits, cX8_goes, cX8_happens, cX8_has, cX8_holder, cX8_image, cX8_in, cX8_init, cX8_isAsSeen, cX8_isBetter, cX8_isPart, cX8_isPerson, cX8_isRule, cX8_isSet, cX8_isTape, cX8_isThereOne, cX8_isTime, cX8_isWord, cX8_item, cX8_judge, cX8_latest, cX8_leastCut, cX8_left, cX8_looked, cX8_lowest, cX8_mayBeIn, cX8_mean, cX8_meet, cX8_meeting, cX8_numberRead, cX8_odds, cX8_otherBy, cX8_peek, cX8_people, cX8_points, cX8_rank, cX8_reach, cX8_reachOf, cX8_reachedSet, cX8_read, cX8_refusal, cX8_refusal_, cX8_renew, cX8_row, cX8_see, cX8_shift, cX8_signAt, cX8_sureOf, cX8_sureness, cX8_tape, cX8_tellReaches, cX8_told, cX8_undo, cX8_way, cX8_ways, cX8_wordRead, cJ0_charAt_5068e, cJ0_checkIndex_df160, cJ0_coder_7d493, cJ0_isLatin1_aae02, cJ0_length_8abf5, cJ1_charAt_3b067, cJ3_checkIndex_8e157, cJ6_bitCount_0f7a4, cJ7_fill_53178, cJ7_fill_d0a16, cJ9_max_f86c9]
def xz_mls : List Nat := [4, 5, 3, 6, 2, 4, 1, 2, 3, 3, 2, 2, 3, 6, 3, 8, 6, 9, 4, 1, 2, 4, 3, 1, 2, 2, 1, 3, 2, 2, 3, 4, 3, 3, 4, 2, 1, 2, 5, 2, 1, 1, 1, 1, 4, 4, 3, 2, 1, 5, 4, 1, 2, 3, 9, 1, 5, 4, 3, 5, 3, 3, 4, 5, 4, 2, 11, 2, 2, 2, 3, 3, 4, 3, 2, 5, 2, 3, 1, 1, 5, 1, 1, 1, 1, 1, 5, 3, 10, 2, 5, 2, 7, 2, 5, 5, 4, 2, 5, 3, 3, 3, 3, 2, 3, 4, 3, 6, 5, 6, 3, 4, 2, 1, 3, 5, 5, 3, 4, 5, 3, 3, 2, 3, 5, 2, 2, 3, 3, 3, 3, 2, 6, 6, 7, 4, 2, 5, 2, 6, 1, 3, 5, 1, 2, 1, 2, 1, 2, 1, 4, 7, 12, 4, 3, 3, 2, 11, 2, 5, 5, 4, 4, 5, 3, 3, 3, 3, 5, 2, 2, 3, 3, 2, 3, 6, 2, 4, 6, 2, 6, 8, 5, 2, 2, 2, 3, 1, 3, 2, 2, 1, 1, 1, 2, 3, 1, 4, 5, 4]
def xz_mrs : List (Option FieldType) := [some .boolean, some .int, none, some .int, some .boolean, some .int, none, some .boolean, some .int, some .int, some .int, none, none, some .int, none, none, some .boolean, some .boolean, some .int, none, some .int, some .int, none, some .int, none, none, none, some .boolean, some .boolean, none, none, some .int, some .long, some .boolean, some .boolean, some .boolean, none, some .boolean, some .int, some .int, none, none, some .boolean, some .boolean, some .boolean, some .int, some .int, some .int, some (.object "java/lang/String"), some .boolean, some .int, some (.object "java/lang/String"), some .int, some .int, none, none, some .boolean, some .int, none, none, some .int, some .int, some .int, some .int, some .int, some .int, some .long, some .int, some .int, some .boolean, some .int, some .int, some .int, some .int, some .int, some .int, some .boolean, some .int, some .int, none, some .boolean, some .boolean, some .boolean, some .boolean, some .boolean, some .boolean, some .int, some .int, some .int, some .int, some .int, some .int, some .long, some .boolean, some .long, some .int, some .int, some .int, some .long, some .long, some .int, some .int, some .int, some .int, some .int, some .int, some .int, some .int, some .int, some .int, some .long, some .int, some .int, some .int, some .int, some .int, some .int, some .boolean, some .int, some .int, some .int, some .int, some .int, none, none, some .int, some .int, some .int, some .int, some .int, some .int, some .int, none, some .int, none, none, some .boolean, some .int, some .int, some .boolean, none, some .boolean, some .boolean, some .boolean, some .boolean, some .boolean, some .boolean, some .boolean, some .boolean, some .boolean, some .boolean, some .int, some .int, some .int, some .int, some .int, some .int, some .long, some .boolean, some .long, some .int, some .int, some .int, some .long, some .int, some .long, some .int, some .int, some .int, some .int, some .int, some .int, some .int, some .int, some .int, some .int, some (.array .int), some .int, some .int, some .int, some .long, some .long, some .int, none, some .int, some .int, some .int, some .int, some .int, some .char, none, some .byte, some .boolean, some .int, some .char, some .int, some .int, none, none, some .long]
def xz_mos : List Nat := [9, 0, 0, 0, 0, 0, 0, 0, 0, 0, 0, 0, 0, 0, 1, 1, 1, 1, 1, 1, 1, 2, 2, 2, 2, 3, 3, 3, 3, 3, 3, 4, 4, 4, 4, 4, 4, 4, 4, 5, 5, 5, 5, 5, 5, 5, 5, 5, 5, 5, 5, 5, 5, 5, 6, 6, 6, 6, 6, 6, 7, 7, 7, 7, 7, 7, 7, 7, 7, 7, 7, 7, 7, 7, 7, 7, 7, 7, 7, 7, 7, 7, 7, 7, 7, 7, 7, 7, 7, 7, 7, 7, 7, 7, 7, 7, 7, 7, 7, 7, 7, 7, 7, 7, 7, 7, 7, 7, 7, 7, 7, 7, 7, 7, 7, 8, 8, 8, 8, 8, 8, 8, 8, 8, 8, 8, 8, 8, 8, 8, 8, 8, 8, 8, 8, 8, 8, 8, 8, 8, 8, 8, 8, 8, 8, 8, 8, 8, 8, 8, 8, 8, 8, 8, 8, 8, 8, 8, 8, 8, 8, 8, 8, 8, 8, 8, 8, 8, 8, 8, 8, 8, 8, 8, 8, 8, 8, 8, 8, 8, 8, 8, 8, 8, 8, 8, 8, 8, 8, 13, 13, 13, 13, 13, 14, 15, 10, 12, 12, 11]
noncomputable def xz_mn (y : Nat) : MethodName := xz_mns.getD y x
noncomputable def xz_mb (y : Nat) : ByteArray := xz_mbs.getD y code
def xz_ml (y : Nat) : Nat := xz_mls.getD y 0
def xz_mr (y : Nat) : Option FieldType := xz_mrs.getD y none
def xz_mo (y : Nat) : Nat := xz_mos.getD y 99
theorem xz_in_TBc {w : Cond} (i : Nat) (h : lw_tbl[i]? = some w) (hg : k2_isCode w = true) : w ∈ xz_TB := xz_in_TB i h (by cases w <;> first | rfl | cases hg)
set_option maxRecDepth 100000 in
theorem xz_cw_1 : Cond.code (xz_mn 1) (xz_mb 1) (xz_ml 1) (xz_mr 1) ∈ xz_TB := xz_in_TBc 358 rfl rfl
set_option maxRecDepth 100000 in
theorem xz_cw_2 : Cond.code (xz_mn 2) (xz_mb 2) (xz_ml 2) (xz_mr 2) ∈ xz_TB := xz_in_TBc 741 rfl rfl
set_option maxRecDepth 100000 in
theorem xz_cw_3 : Cond.code (xz_mn 3) (xz_mb 3) (xz_ml 3) (xz_mr 3) ∈ xz_TB := xz_in_TBc 386 rfl rfl
set_option maxRecDepth 100000 in
theorem xz_cw_4 : Cond.code (xz_mn 4) (xz_mb 4) (xz_ml 4) (xz_mr 4) ∈ xz_TB := xz_in_TBc 370 rfl rfl
set_option maxRecDepth 100000 in
theorem xz_cw_5 : Cond.code (xz_mn 5) (xz_mb 5) (xz_ml 5) (xz_mr 5) ∈ xz_TB := xz_in_TBc 638 rfl rfl
set_option maxRecDepth 100000 in
theorem xz_cw_6 : Cond.code (xz_mn 6) (xz_mb 6) (xz_ml 6) (xz_mr 6) ∈ xz_TB := xz_in_TBc 86 rfl rfl
set_option maxRecDepth 100000 in
theorem xz_cw_7 : Cond.code (xz_mn 7) (xz_mb 7) (xz_ml 7) (xz_mr 7) ∈ xz_TB := xz_in_TBc 430 rfl rfl
set_option maxRecDepth 100000 in
theorem xz_cw_8 : Cond.code (xz_mn 8) (xz_mb 8) (xz_ml 8) (xz_mr 8) ∈ xz_TB := xz_in_TBc 378 rfl rfl
set_option maxRecDepth 100000 in
theorem xz_cw_9 : Cond.code (xz_mn 9) (xz_mb 9) (xz_ml 9) (xz_mr 9) ∈ xz_TB := xz_in_TBc 434 rfl rfl
set_option maxRecDepth 100000 in
theorem xz_cw_10 : Cond.code (xz_mn 10) (xz_mb 10) (xz_ml 10) (xz_mr 10) ∈ xz_TB := xz_in_TBc 366 rfl rfl
set_option maxRecDepth 100000 in
theorem xz_cw_11 : Cond.code (xz_mn 11) (xz_mb 11) (xz_ml 11) (xz_mr 11) ∈ xz_TB := xz_in_TBc 374 rfl rfl
set_option maxRecDepth 100000 in
theorem xz_cw_12 : Cond.code (xz_mn 12) (xz_mb 12) (xz_ml 12) (xz_mr 12) ∈ xz_TB := xz_in_TBc 754 rfl rfl
set_option maxRecDepth 100000 in
theorem xz_cw_13 : Cond.code (xz_mn 13) (xz_mb 13) (xz_ml 13) (xz_mr 13) ∈ xz_TB := xz_in_TBc 426 rfl rfl
set_option maxRecDepth 100000 in
theorem xz_cw_14 : Cond.code (xz_mn 14) (xz_mb 14) (xz_ml 14) (xz_mr 14) ∈ xz_TB := xz_in_TBc 602 rfl rfl
set_option maxRecDepth 100000 in
theorem xz_cw_15 : Cond.code (xz_mn 15) (xz_mb 15) (xz_ml 15) (xz_mr 15) ∈ xz_TB := xz_in_TBc 606 rfl rfl
set_option maxRecDepth 100000 in
theorem xz_cw_16 : Cond.code (xz_mn 16) (xz_mb 16) (xz_ml 16) (xz_mr 16) ∈ xz_TB := xz_in_TBc 617 rfl rfl
set_option maxRecDepth 100000 in
theorem xz_cw_17 : Cond.code (xz_mn 17) (xz_mb 17) (xz_ml 17) (xz_mr 17) ∈ xz_TB := xz_in_TBc 612 rfl rfl
set_option maxRecDepth 100000 in
theorem xz_cw_18 : Cond.code (xz_mn 18) (xz_mb 18) (xz_ml 18) (xz_mr 18) ∈ xz_TB := xz_in_TBc 646 rfl rfl
set_option maxRecDepth 100000 in
theorem xz_cw_19 : Cond.code (xz_mn 19) (xz_mb 19) (xz_ml 19) (xz_mr 19) ∈ xz_TB := xz_in_TBc 197 rfl rfl
set_option maxRecDepth 100000 in
theorem xz_cw_20 : Cond.code (xz_mn 20) (xz_mb 20) (xz_ml 20) (xz_mr 20) ∈ xz_TB := xz_in_TBc 621 rfl rfl
set_option maxRecDepth 100000 in
theorem xz_cw_21 : Cond.code (xz_mn 21) (xz_mb 21) (xz_ml 21) (xz_mr 21) ∈ xz_TB := xz_in_TBc 704 rfl rfl
set_option maxRecDepth 100000 in
theorem xz_cw_22 : Cond.code (xz_mn 22) (xz_mb 22) (xz_ml 22) (xz_mr 22) ∈ xz_TB := xz_in_TBc 745 rfl rfl
set_option maxRecDepth 100000 in
theorem xz_cw_23 : Cond.code (xz_mn 23) (xz_mb 23) (xz_ml 23) (xz_mr 23) ∈ xz_TB := xz_in_TBc 336 rfl rfl
set_option maxRecDepth 100000 in
theorem xz_cw_24 : Cond.code (xz_mn 24) (xz_mb 24) (xz_ml 24) (xz_mr 24) ∈ xz_TB := xz_in_TBc 126 rfl rfl
set_option maxRecDepth 100000 in
theorem xz_cw_25 : Cond.code (xz_mn 25) (xz_mb 25) (xz_ml 25) (xz_mr 25) ∈ xz_TB := xz_in_TBc 737 rfl rfl
set_option maxRecDepth 100000 in
theorem xz_cw_26 : Cond.code (xz_mn 26) (xz_mb 26) (xz_ml 26) (xz_mr 26) ∈ xz_TB := xz_in_TBc 80 rfl rfl
set_option maxRecDepth 100000 in
theorem xz_cw_27 : Cond.code (xz_mn 27) (xz_mb 27) (xz_ml 27) (xz_mr 27) ∈ xz_TB := xz_in_TBc 344 rfl rfl
set_option maxRecDepth 100000 in
theorem xz_cw_28 : Cond.code (xz_mn 28) (xz_mb 28) (xz_ml 28) (xz_mr 28) ∈ xz_TB := xz_in_TBc 348 rfl rfl
set_option maxRecDepth 100000 in
theorem xz_cw_29 : Cond.code (xz_mn 29) (xz_mb 29) (xz_ml 29) (xz_mr 29) ∈ xz_TB := xz_in_TBc 332 rfl rfl
set_option maxRecDepth 100000 in
theorem xz_cw_30 : Cond.code (xz_mn 30) (xz_mb 30) (xz_ml 30) (xz_mr 30) ∈ xz_TB := xz_in_TBc 749 rfl rfl
set_option maxRecDepth 100000 in
theorem xz_cw_31 : Cond.code (xz_mn 31) (xz_mb 31) (xz_ml 31) (xz_mr 31) ∈ xz_TB := xz_in_TBc 800 rfl rfl
set_option maxRecDepth 100000 in
theorem xz_cw_32 : Cond.code (xz_mn 32) (xz_mb 32) (xz_ml 32) (xz_mr 32) ∈ xz_TB := xz_in_TBc 819 rfl rfl
set_option maxRecDepth 100000 in
theorem xz_cw_33 : Cond.code (xz_mn 33) (xz_mb 33) (xz_ml 33) (xz_mr 33) ∈ xz_TB := xz_in_TBc 811 rfl rfl
set_option maxRecDepth 100000 in
theorem xz_cw_34 : Cond.code (xz_mn 34) (xz_mb 34) (xz_ml 34) (xz_mr 34) ∈ xz_TB := xz_in_TBc 831 rfl rfl
set_option maxRecDepth 100000 in
theorem xz_cw_35 : Cond.code (xz_mn 35) (xz_mb 35) (xz_ml 35) (xz_mr 35) ∈ xz_TB := xz_in_TBc 774 rfl rfl
set_option maxRecDepth 100000 in
theorem xz_cw_36 : Cond.code (xz_mn 36) (xz_mb 36) (xz_ml 36) (xz_mr 36) ∈ xz_TB := xz_in_TBc 279 rfl rfl
set_option maxRecDepth 100000 in
theorem xz_cw_37 : Cond.code (xz_mn 37) (xz_mb 37) (xz_ml 37) (xz_mr 37) ∈ xz_TB := xz_in_TBc 770 rfl rfl
set_option maxRecDepth 100000 in
theorem xz_cw_38 : Cond.code (xz_mn 38) (xz_mb 38) (xz_ml 38) (xz_mr 38) ∈ xz_TB := xz_in_TBc 816 rfl rfl
set_option maxRecDepth 100000 in
theorem xz_cw_39 : Cond.code (xz_mn 39) (xz_mb 39) (xz_ml 39) (xz_mr 39) ∈ xz_TB := xz_in_TBc 446 rfl rfl
set_option maxRecDepth 100000 in
theorem xz_cw_40 : Cond.code (xz_mn 40) (xz_mb 40) (xz_ml 40) (xz_mr 40) ∈ xz_TB := xz_in_TBc 547 rfl rfl
set_option maxRecDepth 100000 in
theorem xz_cw_41 : Cond.code (xz_mn 41) (xz_mb 41) (xz_ml 41) (xz_mr 41) ∈ xz_TB := xz_in_TBc 250 rfl rfl
set_option maxRecDepth 100000 in
theorem xz_cw_42 : Cond.code (xz_mn 42) (xz_mb 42) (xz_ml 42) (xz_mr 42) ∈ xz_TB := xz_in_TBc 539 rfl rfl
set_option maxRecDepth 100000 in
theorem xz_cw_43 : Cond.code (xz_mn 43) (xz_mb 43) (xz_ml 43) (xz_mr 43) ∈ xz_TB := xz_in_TBc 469 rfl rfl
set_option maxRecDepth 100000 in
theorem xz_cw_44 : Cond.code (xz_mn 44) (xz_mb 44) (xz_ml 44) (xz_mr 44) ∈ xz_TB := xz_in_TBc 481 rfl rfl
set_option maxRecDepth 100000 in
theorem xz_cw_45 : Cond.code (xz_mn 45) (xz_mb 45) (xz_ml 45) (xz_mr 45) ∈ xz_TB := xz_in_TBc 559 rfl rfl
set_option maxRecDepth 100000 in
theorem xz_cw_46 : Cond.code (xz_mn 46) (xz_mb 46) (xz_ml 46) (xz_mr 46) ∈ xz_TB := xz_in_TBc 454 rfl rfl
set_option maxRecDepth 100000 in
theorem xz_cw_47 : Cond.code (xz_mn 47) (xz_mb 47) (xz_ml 47) (xz_mr 47) ∈ xz_TB := xz_in_TBc 466 rfl rfl
set_option maxRecDepth 100000 in
theorem xz_cw_48 : Cond.code (xz_mn 48) (xz_mb 48) (xz_ml 48) (xz_mr 48) ∈ xz_TB := xz_in_TBc 472 rfl rfl
set_option maxRecDepth 100000 in
theorem xz_cw_49 : Cond.code (xz_mn 49) (xz_mb 49) (xz_ml 49) (xz_mr 49) ∈ xz_TB := xz_in_TBc 458 rfl rfl
set_option maxRecDepth 100000 in
theorem xz_cw_50 : Cond.code (xz_mn 50) (xz_mb 50) (xz_ml 50) (xz_mr 50) ∈ xz_TB := xz_in_TBc 543 rfl rfl
set_option maxRecDepth 100000 in
theorem xz_cw_51 : Cond.code (xz_mn 51) (xz_mb 51) (xz_ml 51) (xz_mr 51) ∈ xz_TB := xz_in_TBc 532 rfl rfl
set_option maxRecDepth 100000 in
theorem xz_cw_52 : Cond.code (xz_mn 52) (xz_mb 52) (xz_ml 52) (xz_mr 52) ∈ xz_TB := xz_in_TBc 555 rfl rfl
set_option maxRecDepth 100000 in
theorem xz_cw_53 : Cond.code (xz_mn 53) (xz_mb 53) (xz_ml 53) (xz_mr 53) ∈ xz_TB := xz_in_TBc 462 rfl rfl
set_option maxRecDepth 100000 in
theorem xz_cw_54 : Cond.code (xz_mn 54) (xz_mb 54) (xz_ml 54) (xz_mr 54) ∈ xz_TB := xz_in_TBc 411 rfl rfl
set_option maxRecDepth 100000 in
theorem xz_cw_55 : Cond.code (xz_mn 55) (xz_mb 55) (xz_ml 55) (xz_mr 55) ∈ xz_TB := xz_in_TBc 207 rfl rfl
set_option maxRecDepth 100000 in
theorem xz_cw_56 : Cond.code (xz_mn 56) (xz_mb 56) (xz_ml 56) (xz_mr 56) ∈ xz_TB := xz_in_TBc 419 rfl rfl
set_option maxRecDepth 100000 in
theorem xz_cw_57 : Cond.code (xz_mn 57) (xz_mb 57) (xz_ml 57) (xz_mr 57) ∈ xz_TB := xz_in_TBc 629 rfl rfl
set_option maxRecDepth 100000 in
theorem xz_cw_58 : Cond.code (xz_mn 58) (xz_mb 58) (xz_ml 58) (xz_mr 58) ∈ xz_TB := xz_in_TBc 406 rfl rfl
set_option maxRecDepth 100000 in
theorem xz_cw_59 : Cond.code (xz_mn 59) (xz_mb 59) (xz_ml 59) (xz_mr 59) ∈ xz_TB := xz_in_TBc 415 rfl rfl
set_option maxRecDepth 100000 in
theorem xz_cw_60 : Cond.code (xz_mn 60) (xz_mb 60) (xz_ml 60) (xz_mr 60) ∈ xz_TB := xz_in_TBc 733 rfl rfl
set_option maxRecDepth 100000 in
theorem xz_cw_61 : Cond.code (xz_mn 61) (xz_mb 61) (xz_ml 61) (xz_mr 61) ∈ xz_TB := xz_in_TBc 633 rfl rfl
set_option maxRecDepth 100000 in
theorem xz_cw_62 : Cond.code (xz_mn 62) (xz_mb 62) (xz_ml 62) (xz_mr 62) ∈ xz_TB := xz_in_TBc 401 rfl rfl
set_option maxRecDepth 100000 in
theorem xz_cw_63 : Cond.code (xz_mn 63) (xz_mb 63) (xz_ml 63) (xz_mr 63) ∈ xz_TB := xz_in_TBc 650 rfl rfl
set_option maxRecDepth 100000 in
theorem xz_cw_64 : Cond.code (xz_mn 64) (xz_mb 64) (xz_ml 64) (xz_mr 64) ∈ xz_TB := xz_in_TBc 758 rfl rfl
set_option maxRecDepth 100000 in
theorem xz_cw_65 : Cond.code (xz_mn 65) (xz_mb 65) (xz_ml 65) (xz_mr 65) ∈ xz_TB := xz_in_TBc 625 rfl rfl
set_option maxRecDepth 100000 in
theorem xz_cw_66 : Cond.code (xz_mn 66) (xz_mb 66) (xz_ml 66) (xz_mr 66) ∈ xz_TB := xz_in_TBc 591 rfl rfl
set_option maxRecDepth 100000 in
theorem xz_cw_67 : Cond.code (xz_mn 67) (xz_mb 67) (xz_ml 67) (xz_mr 67) ∈ xz_TB := xz_in_TBc 792 rfl rfl
set_option maxRecDepth 100000 in
theorem xz_cw_68 : Cond.code (xz_mn 68) (xz_mb 68) (xz_ml 68) (xz_mr 68) ∈ xz_TB := xz_in_TBc 691 rfl rfl
set_option maxRecDepth 100000 in
theorem xz_cw_69 : Cond.code (xz_mn 69) (xz_mb 69) (xz_ml 69) (xz_mr 69) ∈ xz_TB := xz_in_TBc 672 rfl rfl
set_option maxRecDepth 100000 in
theorem xz_cw_70 : Cond.code (xz_mn 70) (xz_mb 70) (xz_ml 70) (xz_mr 70) ∈ xz_TB := xz_in_TBc 394 rfl rfl
set_option maxRecDepth 100000 in
theorem xz_cw_71 : Cond.code (xz_mn 71) (xz_mb 71) (xz_ml 71) (xz_mr 71) ∈ xz_TB := xz_in_TBc 362 rfl rfl
set_option maxRecDepth 100000 in
theorem xz_cw_72 : Cond.code (xz_mn 72) (xz_mb 72) (xz_ml 72) (xz_mr 72) ∈ xz_TB := xz_in_TBc 724 rfl rfl
set_option maxRecDepth 100000 in
theorem xz_cw_73 : Cond.code (xz_mn 73) (xz_mb 73) (xz_ml 73) (xz_mr 73) ∈ xz_TB := xz_in_TBc 728 rfl rfl
set_option maxRecDepth 100000 in
theorem xz_cw_74 : Cond.code (xz_mn 74) (xz_mb 74) (xz_ml 74) (xz_mr 74) ∈ xz_TB := xz_in_TBc 442 rfl rfl
set_option maxRecDepth 100000 in
theorem xz_cw_75 : Cond.code (xz_mn 75) (xz_mb 75) (xz_ml 75) (xz_mr 75) ∈ xz_TB := xz_in_TBc 708 rfl rfl
set_option maxRecDepth 100000 in
theorem xz_cw_76 : Cond.code (xz_mn 76) (xz_mb 76) (xz_ml 76) (xz_mr 76) ∈ xz_TB := xz_in_TBc 437 rfl rfl
set_option maxRecDepth 100000 in
theorem xz_cw_77 : Cond.code (xz_mn 77) (xz_mb 77) (xz_ml 77) (xz_mr 77) ∈ xz_TB := xz_in_TBc 576 rfl rfl
set_option maxRecDepth 100000 in
theorem xz_cw_78 : Cond.code (xz_mn 78) (xz_mb 78) (xz_ml 78) (xz_mr 78) ∈ xz_TB := xz_in_TBc 784 rfl rfl
set_option maxRecDepth 100000 in
theorem xz_cw_79 : Cond.code (xz_mn 79) (xz_mb 79) (xz_ml 79) (xz_mr 79) ∈ xz_TB := xz_in_TBc 72 rfl rfl
set_option maxRecDepth 100000 in
theorem xz_cw_80 : Cond.code (xz_mn 80) (xz_mb 80) (xz_ml 80) (xz_mr 80) ∈ xz_TB := xz_in_TBc 712 rfl rfl
set_option maxRecDepth 100000 in
theorem xz_cw_81 : Cond.code (xz_mn 81) (xz_mb 81) (xz_ml 81) (xz_mr 81) ∈ xz_TB := xz_in_TBc 397 rfl rfl
set_option maxRecDepth 100000 in
theorem xz_cw_82 : Cond.code (xz_mn 82) (xz_mb 82) (xz_ml 82) (xz_mr 82) ∈ xz_TB := xz_in_TBc 583 rfl rfl
set_option maxRecDepth 100000 in
theorem xz_cw_83 : Cond.code (xz_mn 83) (xz_mb 83) (xz_ml 83) (xz_mr 83) ∈ xz_TB := xz_in_TBc 572 rfl rfl
set_option maxRecDepth 100000 in
theorem xz_cw_84 : Cond.code (xz_mn 84) (xz_mb 84) (xz_ml 84) (xz_mr 84) ∈ xz_TB := xz_in_TBc 354 rfl rfl
set_option maxRecDepth 100000 in
theorem xz_cw_85 : Cond.code (xz_mn 85) (xz_mb 85) (xz_ml 85) (xz_mr 85) ∈ xz_TB := xz_in_TBc 351 rfl rfl
set_option maxRecDepth 100000 in
theorem xz_cw_86 : Cond.code (xz_mn 86) (xz_mb 86) (xz_ml 86) (xz_mr 86) ∈ xz_TB := xz_in_TBc 807 rfl rfl
set_option maxRecDepth 100000 in
theorem xz_cw_87 : Cond.code (xz_mn 87) (xz_mb 87) (xz_ml 87) (xz_mr 87) ∈ xz_TB := xz_in_TBc 766 rfl rfl
set_option maxRecDepth 100000 in
theorem xz_cw_88 : Cond.code (xz_mn 88) (xz_mb 88) (xz_ml 88) (xz_mr 88) ∈ xz_TB := xz_in_TBc 779 rfl rfl
set_option maxRecDepth 100000 in
theorem xz_cw_89 : Cond.code (xz_mn 89) (xz_mb 89) (xz_ml 89) (xz_mr 89) ∈ xz_TB := xz_in_TBc 659 rfl rfl
set_option maxRecDepth 100000 in
theorem xz_cw_90 : Cond.code (xz_mn 90) (xz_mb 90) (xz_ml 90) (xz_mr 90) ∈ xz_TB := xz_in_TBc 677 rfl rfl
set_option maxRecDepth 100000 in
theorem xz_cw_91 : Cond.code (xz_mn 91) (xz_mb 91) (xz_ml 91) (xz_mr 91) ∈ xz_TB := xz_in_TBc 762 rfl rfl
set_option maxRecDepth 100000 in
theorem xz_cw_92 : Cond.code (xz_mn 92) (xz_mb 92) (xz_ml 92) (xz_mr 92) ∈ xz_TB := xz_in_TBc 588 rfl rfl
set_option maxRecDepth 100000 in
theorem xz_cw_93 : Cond.code (xz_mn 93) (xz_mb 93) (xz_ml 93) (xz_mr 93) ∈ xz_TB := xz_in_TBc 667 rfl rfl
set_option maxRecDepth 100000 in
theorem xz_cw_94 : Cond.code (xz_mn 94) (xz_mb 94) (xz_ml 94) (xz_mr 94) ∈ xz_TB := xz_in_TBc 720 rfl rfl
set_option maxRecDepth 100000 in
theorem xz_cw_95 : Cond.code (xz_mn 95) (xz_mb 95) (xz_ml 95) (xz_mr 95) ∈ xz_TB := xz_in_TBc 340 rfl rfl
set_option maxRecDepth 100000 in
theorem xz_cw_96 : Cond.code (xz_mn 96) (xz_mb 96) (xz_ml 96) (xz_mr 96) ∈ xz_TB := xz_in_TBc 390 rfl rfl
set_option maxRecDepth 100000 in
theorem xz_cw_97 : Cond.code (xz_mn 97) (xz_mb 97) (xz_ml 97) (xz_mr 97) ∈ xz_TB := xz_in_TBc 551 rfl rfl
set_option maxRecDepth 100000 in
theorem xz_cw_98 : Cond.code (xz_mn 98) (xz_mb 98) (xz_ml 98) (xz_mr 98) ∈ xz_TB := xz_in_TBc 716 rfl rfl
set_option maxRecDepth 100000 in
theorem xz_cw_99 : Cond.code (xz_mn 99) (xz_mb 99) (xz_ml 99) (xz_mr 99) ∈ xz_TB := xz_in_TBc 823 rfl rfl
set_option maxRecDepth 100000 in
theorem xz_cw_100 : Cond.code (xz_mn 100) (xz_mb 100) (xz_ml 100) (xz_mr 100) ∈ xz_TB := xz_in_TBc 328 rfl rfl
set_option maxRecDepth 100000 in
theorem xz_cw_101 : Cond.code (xz_mn 101) (xz_mb 101) (xz_ml 101) (xz_mr 101) ∈ xz_TB := xz_in_TBc 663 rfl rfl
set_option maxRecDepth 100000 in
theorem xz_cw_102 : Cond.code (xz_mn 102) (xz_mb 102) (xz_ml 102) (xz_mr 102) ∈ xz_TB := xz_in_TBc 642 rfl rfl
set_option maxRecDepth 100000 in
theorem xz_cw_103 : Cond.code (xz_mn 103) (xz_mb 103) (xz_ml 103) (xz_mr 103) ∈ xz_TB := xz_in_TBc 598 rfl rfl
set_option maxRecDepth 100000 in
theorem xz_cw_104 : Cond.code (xz_mn 104) (xz_mb 104) (xz_ml 104) (xz_mr 104) ∈ xz_TB := xz_in_TBc 687 rfl rfl
set_option maxRecDepth 100000 in
theorem xz_cw_105 : Cond.code (xz_mn 105) (xz_mb 105) (xz_ml 105) (xz_mr 105) ∈ xz_TB := xz_in_TBc 450 rfl rfl
set_option maxRecDepth 100000 in
theorem xz_cw_106 : Cond.code (xz_mn 106) (xz_mb 106) (xz_ml 106) (xz_mr 106) ∈ xz_TB := xz_in_TBc 700 rfl rfl
set_option maxRecDepth 100000 in
theorem xz_cw_107 : Cond.code (xz_mn 107) (xz_mb 107) (xz_ml 107) (xz_mr 107) ∈ xz_TB := xz_in_TBc 382 rfl rfl
set_option maxRecDepth 100000 in
theorem xz_cw_108 : Cond.code (xz_mn 108) (xz_mb 108) (xz_ml 108) (xz_mr 108) ∈ xz_TB := xz_in_TBc 695 rfl rfl
set_option maxRecDepth 100000 in
theorem xz_cw_109 : Cond.code (xz_mn 109) (xz_mb 109) (xz_ml 109) (xz_mr 109) ∈ xz_TB := xz_in_TBc 827 rfl rfl
set_option maxRecDepth 100000 in
theorem xz_cw_110 : Cond.code (xz_mn 110) (xz_mb 110) (xz_ml 110) (xz_mr 110) ∈ xz_TB := xz_in_TBc 580 rfl rfl
set_option maxRecDepth 100000 in
theorem xz_cw_111 : Cond.code (xz_mn 111) (xz_mb 111) (xz_ml 111) (xz_mr 111) ∈ xz_TB := xz_in_TBc 796 rfl rfl
set_option maxRecDepth 100000 in
theorem xz_cw_112 : Cond.code (xz_mn 112) (xz_mb 112) (xz_ml 112) (xz_mr 112) ∈ xz_TB := xz_in_TBc 655 rfl rfl
set_option maxRecDepth 100000 in
theorem xz_cw_113 : Cond.code (xz_mn 113) (xz_mb 113) (xz_ml 113) (xz_mr 113) ∈ xz_TB := xz_in_TBc 788 rfl rfl
set_option maxRecDepth 100000 in
theorem xz_cw_114 : Cond.code (xz_mn 114) (xz_mb 114) (xz_ml 114) (xz_mr 114) ∈ xz_TB := xz_in_TBc 569 rfl rfl
set_option maxRecDepth 100000 in
theorem xz_cw_115 : Cond.code (xz_mn 115) (xz_mb 115) (xz_ml 115) (xz_mr 115) ∈ xz_TB := xz_in_TBc 1249 rfl rfl
set_option maxRecDepth 100000 in
theorem xz_cw_116 : Cond.code (xz_mn 116) (xz_mb 116) (xz_ml 116) (xz_mr 116) ∈ xz_TB := xz_in_TBc 1170 rfl rfl
set_option maxRecDepth 100000 in
theorem xz_cw_117 : Cond.code (xz_mn 117) (xz_mb 117) (xz_ml 117) (xz_mr 117) ∈ xz_TB := xz_in_TBc 1011 rfl rfl
set_option maxRecDepth 100000 in
theorem xz_cw_118 : Cond.code (xz_mn 118) (xz_mb 118) (xz_ml 118) (xz_mr 118) ∈ xz_TB := xz_in_TBc 1050 rfl rfl
set_option maxRecDepth 100000 in
theorem xz_cw_119 : Cond.code (xz_mn 119) (xz_mb 119) (xz_ml 119) (xz_mr 119) ∈ xz_TB := xz_in_TBc 1182 rfl rfl
set_option maxRecDepth 100000 in
theorem xz_cw_120 : Cond.code (xz_mn 120) (xz_mb 120) (xz_ml 120) (xz_mr 120) ∈ xz_TB := xz_in_TBc 1209 rfl rfl
set_option maxRecDepth 100000 in
theorem xz_cw_121 : Cond.code (xz_mn 121) (xz_mb 121) (xz_ml 121) (xz_mr 121) ∈ xz_TB := xz_in_TBc 1258 rfl rfl
set_option maxRecDepth 100000 in
theorem xz_cw_122 : Cond.code (xz_mn 122) (xz_mb 122) (xz_ml 122) (xz_mr 122) ∈ xz_TB := xz_in_TBc 1165 rfl rfl
set_option maxRecDepth 100000 in
theorem xz_cw_123 : Cond.code (xz_mn 123) (xz_mb 123) (xz_ml 123) (xz_mr 123) ∈ xz_TB := xz_in_TBc 1095 rfl rfl
set_option maxRecDepth 100000 in
theorem xz_cw_124 : Cond.code (xz_mn 124) (xz_mb 124) (xz_ml 124) (xz_mr 124) ∈ xz_TB := xz_in_TBc 1066 rfl rfl
set_option maxRecDepth 100000 in
theorem xz_cw_125 : Cond.code (xz_mn 125) (xz_mb 125) (xz_ml 125) (xz_mr 125) ∈ xz_TB := xz_in_TBc 1285 rfl rfl
set_option maxRecDepth 100000 in
theorem xz_cw_126 : Cond.code (xz_mn 126) (xz_mb 126) (xz_ml 126) (xz_mr 126) ∈ xz_TB := xz_in_TBc 1221 rfl rfl
set_option maxRecDepth 100000 in
theorem xz_cw_127 : Cond.code (xz_mn 127) (xz_mb 127) (xz_ml 127) (xz_mr 127) ∈ xz_TB := xz_in_TBc 1045 rfl rfl
set_option maxRecDepth 100000 in
theorem xz_cw_128 : Cond.code (xz_mn 128) (xz_mb 128) (xz_ml 128) (xz_mr 128) ∈ xz_TB := xz_in_TBc 1126 rfl rfl
set_option maxRecDepth 100000 in
theorem xz_cw_129 : Cond.code (xz_mn 129) (xz_mb 129) (xz_ml 129) (xz_mr 129) ∈ xz_TB := xz_in_TBc 1024 rfl rfl
set_option maxRecDepth 100000 in
theorem xz_cw_130 : Cond.code (xz_mn 130) (xz_mb 130) (xz_ml 130) (xz_mr 130) ∈ xz_TB := xz_in_TBc 1245 rfl rfl
set_option maxRecDepth 100000 in
theorem xz_cw_131 : Cond.code (xz_mn 131) (xz_mb 131) (xz_ml 131) (xz_mr 131) ∈ xz_TB := xz_in_TBc 1086 rfl rfl
set_option maxRecDepth 100000 in
theorem xz_cw_132 : Cond.code (xz_mn 132) (xz_mb 132) (xz_ml 132) (xz_mr 132) ∈ xz_TB := xz_in_TBc 1058 rfl rfl
set_option maxRecDepth 100000 in
theorem xz_cw_133 : Cond.code (xz_mn 133) (xz_mb 133) (xz_ml 133) (xz_mr 133) ∈ xz_TB := xz_in_TBc 1229 rfl rfl
set_option maxRecDepth 100000 in
theorem xz_cw_134 : Cond.code (xz_mn 134) (xz_mb 134) (xz_ml 134) (xz_mr 134) ∈ xz_TB := xz_in_TBc 1062 rfl rfl
set_option maxRecDepth 100000 in
theorem xz_cw_135 : Cond.code (xz_mn 135) (xz_mb 135) (xz_ml 135) (xz_mr 135) ∈ xz_TB := xz_in_TBc 1253 rfl rfl
set_option maxRecDepth 100000 in
theorem xz_cw_136 : Cond.code (xz_mn 136) (xz_mb 136) (xz_ml 136) (xz_mr 136) ∈ xz_TB := xz_in_TBc 1082 rfl rfl
set_option maxRecDepth 100000 in
theorem xz_cw_137 : Cond.code (xz_mn 137) (xz_mb 137) (xz_ml 137) (xz_mr 137) ∈ xz_TB := xz_in_TBc 1142 rfl rfl
set_option maxRecDepth 100000 in
theorem xz_cw_138 : Cond.code (xz_mn 138) (xz_mb 138) (xz_ml 138) (xz_mr 138) ∈ xz_TB := xz_in_TBc 1273 rfl rfl
set_option maxRecDepth 100000 in
theorem xz_cw_139 : Cond.code (xz_mn 139) (xz_mb 139) (xz_ml 139) (xz_mr 139) ∈ xz_TB := xz_in_TBc 1003 rfl rfl
set_option maxRecDepth 100000 in
theorem xz_cw_140 : Cond.code (xz_mn 140) (xz_mb 140) (xz_ml 140) (xz_mr 140) ∈ xz_TB := xz_in_TBc 837 rfl rfl
set_option maxRecDepth 100000 in
theorem xz_cw_141 : Cond.code (xz_mn 141) (xz_mb 141) (xz_ml 141) (xz_mr 141) ∈ xz_TB := xz_in_TBc 1233 rfl rfl
set_option maxRecDepth 100000 in
theorem xz_cw_142 : Cond.code (xz_mn 142) (xz_mb 142) (xz_ml 142) (xz_mr 142) ∈ xz_TB := xz_in_TBc 1074 rfl rfl
set_option maxRecDepth 100000 in
theorem xz_cw_143 : Cond.code (xz_mn 143) (xz_mb 143) (xz_ml 143) (xz_mr 143) ∈ xz_TB := xz_in_TBc 1149 rfl rfl
set_option maxRecDepth 100000 in
theorem xz_cw_144 : Cond.code (xz_mn 144) (xz_mb 144) (xz_ml 144) (xz_mr 144) ∈ xz_TB := xz_in_TBc 1015 rfl rfl
set_option maxRecDepth 100000 in
theorem xz_cw_145 : Cond.code (xz_mn 145) (xz_mb 145) (xz_ml 145) (xz_mr 145) ∈ xz_TB := xz_in_TBc 1138 rfl rfl
set_option maxRecDepth 100000 in
theorem xz_cw_146 : Cond.code (xz_mn 146) (xz_mb 146) (xz_ml 146) (xz_mr 146) ∈ xz_TB := xz_in_TBc 1213 rfl rfl
set_option maxRecDepth 100000 in
theorem xz_cw_147 : Cond.code (xz_mn 147) (xz_mb 147) (xz_ml 147) (xz_mr 147) ∈ xz_TB := xz_in_TBc 1269 rfl rfl
set_option maxRecDepth 100000 in
theorem xz_cw_148 : Cond.code (xz_mn 148) (xz_mb 148) (xz_ml 148) (xz_mr 148) ∈ xz_TB := xz_in_TBc 1194 rfl rfl
set_option maxRecDepth 100000 in
theorem xz_cw_149 : Cond.code (xz_mn 149) (xz_mb 149) (xz_ml 149) (xz_mr 149) ∈ xz_TB := xz_in_TBc 1018 rfl rfl
set_option maxRecDepth 100000 in
theorem xz_cw_150 : Cond.code (xz_mn 150) (xz_mb 150) (xz_ml 150) (xz_mr 150) ∈ xz_TB := xz_in_TBc 1110 rfl rfl
set_option maxRecDepth 100000 in
theorem xz_cw_151 : Cond.code (xz_mn 151) (xz_mb 151) (xz_ml 151) (xz_mr 151) ∈ xz_TB := xz_in_TBc 1295 rfl rfl
set_option maxRecDepth 100000 in
theorem xz_cw_152 : Cond.code (xz_mn 152) (xz_mb 152) (xz_ml 152) (xz_mr 152) ∈ xz_TB := xz_in_TBc 1266 rfl rfl
set_option maxRecDepth 100000 in
theorem xz_cw_153 : Cond.code (xz_mn 153) (xz_mb 153) (xz_ml 153) (xz_mr 153) ∈ xz_TB := xz_in_TBc 1190 rfl rfl
set_option maxRecDepth 100000 in
theorem xz_cw_154 : Cond.code (xz_mn 154) (xz_mb 154) (xz_ml 154) (xz_mr 154) ∈ xz_TB := xz_in_TBc 1206 rfl rfl
set_option maxRecDepth 100000 in
theorem xz_cw_155 : Cond.code (xz_mn 155) (xz_mb 155) (xz_ml 155) (xz_mr 155) ∈ xz_TB := xz_in_TBc 1032 rfl rfl
set_option maxRecDepth 100000 in
theorem xz_cw_156 : Cond.code (xz_mn 156) (xz_mb 156) (xz_ml 156) (xz_mr 156) ∈ xz_TB := xz_in_TBc 1262 rfl rfl
set_option maxRecDepth 100000 in
theorem xz_cw_157 : Cond.code (xz_mn 157) (xz_mb 157) (xz_ml 157) (xz_mr 157) ∈ xz_TB := xz_in_TBc 1153 rfl rfl
set_option maxRecDepth 100000 in
theorem xz_cw_158 : Cond.code (xz_mn 158) (xz_mb 158) (xz_ml 158) (xz_mr 158) ∈ xz_TB := xz_in_TBc 1202 rfl rfl
set_option maxRecDepth 100000 in
theorem xz_cw_159 : Cond.code (xz_mn 159) (xz_mb 159) (xz_ml 159) (xz_mr 159) ∈ xz_TB := xz_in_TBc 1241 rfl rfl
set_option maxRecDepth 100000 in
theorem xz_cw_160 : Cond.code (xz_mn 160) (xz_mb 160) (xz_ml 160) (xz_mr 160) ∈ xz_TB := xz_in_TBc 1007 rfl rfl
set_option maxRecDepth 100000 in
theorem xz_cw_161 : Cond.code (xz_mn 161) (xz_mb 161) (xz_ml 161) (xz_mr 161) ∈ xz_TB := xz_in_TBc 1040 rfl rfl
set_option maxRecDepth 100000 in
theorem xz_cw_162 : Cond.code (xz_mn 162) (xz_mb 162) (xz_ml 162) (xz_mr 162) ∈ xz_TB := xz_in_TBc 1120 rfl rfl
set_option maxRecDepth 100000 in
theorem xz_cw_163 : Cond.code (xz_mn 163) (xz_mb 163) (xz_ml 163) (xz_mr 163) ∈ xz_TB := xz_in_TBc 1237 rfl rfl
set_option maxRecDepth 100000 in
theorem xz_cw_164 : Cond.code (xz_mn 164) (xz_mb 164) (xz_ml 164) (xz_mr 164) ∈ xz_TB := xz_in_TBc 1079 rfl rfl
set_option maxRecDepth 100000 in
theorem xz_cw_165 : Cond.code (xz_mn 165) (xz_mb 165) (xz_ml 165) (xz_mr 165) ∈ xz_TB := xz_in_TBc 1303 rfl rfl
set_option maxRecDepth 100000 in
theorem xz_cw_166 : Cond.code (xz_mn 166) (xz_mb 166) (xz_ml 166) (xz_mr 166) ∈ xz_TB := xz_in_TBc 998 rfl rfl
set_option maxRecDepth 100000 in
theorem xz_cw_167 : Cond.code (xz_mn 167) (xz_mb 167) (xz_ml 167) (xz_mr 167) ∈ xz_TB := xz_in_TBc 1198 rfl rfl
set_option maxRecDepth 100000 in
theorem xz_cw_168 : Cond.code (xz_mn 168) (xz_mb 168) (xz_ml 168) (xz_mr 168) ∈ xz_TB := xz_in_TBc 1174 rfl rfl
set_option maxRecDepth 100000 in
theorem xz_cw_169 : Cond.code (xz_mn 169) (xz_mb 169) (xz_ml 169) (xz_mr 169) ∈ xz_TB := xz_in_TBc 1157 rfl rfl
set_option maxRecDepth 100000 in
theorem xz_cw_170 : Cond.code (xz_mn 170) (xz_mb 170) (xz_ml 170) (xz_mr 170) ∈ xz_TB := xz_in_TBc 1161 rfl rfl
set_option maxRecDepth 100000 in
theorem xz_cw_171 : Cond.code (xz_mn 171) (xz_mb 171) (xz_ml 171) (xz_mr 171) ∈ xz_TB := xz_in_TBc 1217 rfl rfl
set_option maxRecDepth 100000 in
theorem xz_cw_172 : Cond.code (xz_mn 172) (xz_mb 172) (xz_ml 172) (xz_mr 172) ∈ xz_TB := xz_in_TBc 1091 rfl rfl
set_option maxRecDepth 100000 in
theorem xz_cw_173 : Cond.code (xz_mn 173) (xz_mb 173) (xz_ml 173) (xz_mr 173) ∈ xz_TB := xz_in_TBc 1028 rfl rfl
set_option maxRecDepth 100000 in
theorem xz_cw_174 : Cond.code (xz_mn 174) (xz_mb 174) (xz_ml 174) (xz_mr 174) ∈ xz_TB := xz_in_TBc 1299 rfl rfl
set_option maxRecDepth 100000 in
theorem xz_cw_175 : Cond.code (xz_mn 175) (xz_mb 175) (xz_ml 175) (xz_mr 175) ∈ xz_TB := xz_in_TBc 1036 rfl rfl
set_option maxRecDepth 100000 in
theorem xz_cw_176 : Cond.code (xz_mn 176) (xz_mb 176) (xz_ml 176) (xz_mr 176) ∈ xz_TB := xz_in_TBc 1277 rfl rfl
set_option maxRecDepth 100000 in
theorem xz_cw_177 : Cond.code (xz_mn 177) (xz_mb 177) (xz_ml 177) (xz_mr 177) ∈ xz_TB := xz_in_TBc 1225 rfl rfl
set_option maxRecDepth 100000 in
theorem xz_cw_178 : Cond.code (xz_mn 178) (xz_mb 178) (xz_ml 178) (xz_mr 178) ∈ xz_TB := xz_in_TBc 1307 rfl rfl
set_option maxRecDepth 100000 in
theorem xz_cw_179 : Cond.code (xz_mn 179) (xz_mb 179) (xz_ml 179) (xz_mr 179) ∈ xz_TB := xz_in_TBc 1103 rfl rfl
set_option maxRecDepth 100000 in
theorem xz_cw_180 : Cond.code (xz_mn 180) (xz_mb 180) (xz_ml 180) (xz_mr 180) ∈ xz_TB := xz_in_TBc 1070 rfl rfl
set_option maxRecDepth 100000 in
theorem xz_cw_181 : Cond.code (xz_mn 181) (xz_mb 181) (xz_ml 181) (xz_mr 181) ∈ xz_TB := xz_in_TBc 1146 rfl rfl
set_option maxRecDepth 100000 in
theorem xz_cw_182 : Cond.code (xz_mn 182) (xz_mb 182) (xz_ml 182) (xz_mr 182) ∈ xz_TB := xz_in_TBc 1289 rfl rfl
set_option maxRecDepth 100000 in
theorem xz_cw_183 : Cond.code (xz_mn 183) (xz_mb 183) (xz_ml 183) (xz_mr 183) ∈ xz_TB := xz_in_TBc 1178 rfl rfl
set_option maxRecDepth 100000 in
theorem xz_cw_184 : Cond.code (xz_mn 184) (xz_mb 184) (xz_ml 184) (xz_mr 184) ∈ xz_TB := xz_in_TBc 1186 rfl rfl
set_option maxRecDepth 100000 in
theorem xz_cw_185 : Cond.code (xz_mn 185) (xz_mb 185) (xz_ml 185) (xz_mr 185) ∈ xz_TB := xz_in_TBc 1281 rfl rfl
set_option maxRecDepth 100000 in
theorem xz_cw_186 : Cond.code (xz_mn 186) (xz_mb 186) (xz_ml 186) (xz_mr 186) ∈ xz_TB := xz_in_TBc 1135 rfl rfl
set_option maxRecDepth 100000 in
theorem xz_cw_187 : Cond.code (xz_mn 187) (xz_mb 187) (xz_ml 187) (xz_mr 187) ∈ xz_TB := xz_in_TBc 1054 rfl rfl
set_option maxRecDepth 100000 in
theorem xz_cw_188 : Cond.code (xz_mn 188) (xz_mb 188) (xz_ml 188) (xz_mr 188) ∈ xz_TB := xz_in_TBc 1099 rfl rfl
set_option maxRecDepth 100000 in
theorem xz_cw_189 : Cond.code (xz_mn 189) (xz_mb 189) (xz_ml 189) (xz_mr 189) ∈ xz_TB := xz_in_TBc 495 rfl rfl
set_option maxRecDepth 100000 in
theorem xz_cw_190 : Cond.code (xz_mn 190) (xz_mb 190) (xz_ml 190) (xz_mr 190) ∈ xz_TB := xz_in_TBc 505 rfl rfl
set_option maxRecDepth 100000 in
theorem xz_cw_191 : Cond.code (xz_mn 191) (xz_mb 191) (xz_ml 191) (xz_mr 191) ∈ xz_TB := xz_in_TBc 489 rfl rfl
set_option maxRecDepth 100000 in
theorem xz_cw_192 : Cond.code (xz_mn 192) (xz_mb 192) (xz_ml 192) (xz_mr 192) ∈ xz_TB := xz_in_TBc 499 rfl rfl
set_option maxRecDepth 100000 in
theorem xz_cw_193 : Cond.code (xz_mn 193) (xz_mb 193) (xz_ml 193) (xz_mr 193) ∈ xz_TB := xz_in_TBc 485 rfl rfl
set_option maxRecDepth 100000 in
theorem xz_cw_194 : Cond.code (xz_mn 194) (xz_mb 194) (xz_ml 194) (xz_mr 194) ∈ xz_TB := xz_in_TBc 502 rfl rfl
set_option maxRecDepth 100000 in
theorem xz_cw_195 : Cond.code (xz_mn 195) (xz_mb 195) (xz_ml 195) (xz_mr 195) ∈ xz_TB := xz_in_TBc 510 rfl rfl
set_option maxRecDepth 100000 in
theorem xz_cw_196 : Cond.code (xz_mn 196) (xz_mb 196) (xz_ml 196) (xz_mr 196) ∈ xz_TB := xz_in_TBc 680 rfl rfl
set_option maxRecDepth 100000 in
theorem xz_cw_197 : Cond.code (xz_mn 197) (xz_mb 197) (xz_ml 197) (xz_mr 197) ∈ xz_TB := xz_in_TBc 283 rfl rfl
set_option maxRecDepth 100000 in
theorem xz_cw_198 : Cond.code (xz_mn 198) (xz_mb 198) (xz_ml 198) (xz_mr 198) ∈ xz_TB := xz_in_TBc 803 rfl rfl
set_option maxRecDepth 100000 in
theorem xz_cw_199 : Cond.code (xz_mn 199) (xz_mb 199) (xz_ml 199) (xz_mr 199) ∈ xz_TB := xz_in_TBc 594 rfl rfl
set_option maxRecDepth 100000 in
theorem xz_cwl : ∀ y ∈ ([1, 2, 3, 4, 5, 6, 7, 8, 9, 10, 11, 12, 13, 14, 15, 16, 17, 18, 19, 20, 21, 22, 23, 24, 25, 26, 27, 28, 29, 30, 31, 32, 33, 34, 35, 36, 37, 38, 39, 40, 41, 42, 43, 44, 45, 46, 47, 48, 49, 50, 51, 52, 53, 54, 55, 56, 57, 58, 59, 60, 61, 62, 63, 64, 65, 66, 67, 68, 69, 70, 71, 72, 73, 74, 75, 76, 77, 78, 79, 80, 81, 82, 83, 84, 85, 86, 87, 88, 89, 90, 91, 92, 93, 94, 95, 96, 97, 98, 99, 100, 101, 102, 103, 104, 105, 106, 107, 108, 109, 110, 111, 112, 113, 114, 115, 116, 117, 118, 119, 120, 121, 122, 123, 124, 125, 126, 127, 128, 129, 130, 131, 132, 133, 134, 135, 136, 137, 138, 139, 140, 141, 142, 143, 144, 145, 146, 147, 148, 149, 150, 151, 152, 153, 154, 155, 156, 157, 158, 159, 160, 161, 162, 163, 164, 165, 166, 167, 168, 169, 170, 171, 172, 173, 174, 175, 176, 177, 178, 179, 180, 181, 182, 183, 184, 185, 186, 187, 188, 189, 190, 191, 192, 193, 194, 195, 196, 197, 198, 199] : List Nat), Cond.code (xz_mn y) (xz_mb y) (xz_ml y) (xz_mr y) ∈ xz_TB := List.forall_mem_cons.mpr ⟨xz_cw_1, List.forall_mem_cons.mpr ⟨xz_cw_2, List.forall_mem_cons.mpr ⟨xz_cw_3, List.forall_mem_cons.mpr ⟨xz_cw_4, List.forall_mem_cons.mpr ⟨xz_cw_5, List.forall_mem_cons.mpr ⟨xz_cw_6, List.forall_mem_cons.mpr ⟨xz_cw_7, List.forall_mem_cons.mpr ⟨xz_cw_8, List.forall_mem_cons.mpr ⟨xz_cw_9, List.forall_mem_cons.mpr ⟨xz_cw_10, List.forall_mem_cons.mpr ⟨xz_cw_11, List.forall_mem_cons.mpr ⟨xz_cw_12, List.forall_mem_cons.mpr ⟨xz_cw_13, List.forall_mem_cons.mpr ⟨xz_cw_14, List.forall_mem_cons.mpr ⟨xz_cw_15, List.forall_mem_cons.mpr ⟨xz_cw_16, List.forall_mem_cons.mpr ⟨xz_cw_17, List.forall_mem_cons.mpr ⟨xz_cw_18, List.forall_mem_cons.mpr ⟨xz_cw_19, List.forall_mem_cons.mpr ⟨xz_cw_20, List.forall_mem_cons.mpr ⟨xz_cw_21, List.forall_mem_cons.mpr ⟨xz_cw_22, List.forall_mem_cons.mpr ⟨xz_cw_23, List.forall_mem_cons.mpr ⟨xz_cw_24, List.forall_mem_cons.mpr ⟨xz_cw_25, List.forall_mem_cons.mpr ⟨xz_cw_26, List.forall_mem_cons.mpr ⟨xz_cw_27, List.forall_mem_cons.mpr ⟨xz_cw_28, List.forall_mem_cons.mpr ⟨xz_cw_29, List.forall_mem_cons.mpr ⟨xz_cw_30, List.forall_mem_cons.mpr ⟨xz_cw_31, List.forall_mem_cons.mpr ⟨xz_cw_32, List.forall_mem_cons.mpr ⟨xz_cw_33, List.forall_mem_cons.mpr ⟨xz_cw_34, List.forall_mem_cons.mpr ⟨xz_cw_35, List.forall_mem_cons.mpr ⟨xz_cw_36, List.forall_mem_cons.mpr ⟨xz_cw_37, List.forall_mem_cons.mpr ⟨xz_cw_38, List.forall_mem_cons.mpr ⟨xz_cw_39, List.forall_mem_cons.mpr ⟨xz_cw_40, List.forall_mem_cons.mpr ⟨xz_cw_41, List.forall_mem_cons.mpr ⟨xz_cw_42, List.forall_mem_cons.mpr ⟨xz_cw_43, List.forall_mem_cons.mpr ⟨xz_cw_44, List.forall_mem_cons.mpr ⟨xz_cw_45, List.forall_mem_cons.mpr ⟨xz_cw_46, List.forall_mem_cons.mpr ⟨xz_cw_47, List.forall_mem_cons.mpr ⟨xz_cw_48, List.forall_mem_cons.mpr ⟨xz_cw_49, List.forall_mem_cons.mpr ⟨xz_cw_50, List.forall_mem_cons.mpr ⟨xz_cw_51, List.forall_mem_cons.mpr ⟨xz_cw_52, List.forall_mem_cons.mpr ⟨xz_cw_53, List.forall_mem_cons.mpr ⟨xz_cw_54, List.forall_mem_cons.mpr ⟨xz_cw_55, List.forall_mem_cons.mpr ⟨xz_cw_56, List.forall_mem_cons.mpr ⟨xz_cw_57, List.forall_mem_cons.mpr ⟨xz_cw_58, List.forall_mem_cons.mpr ⟨xz_cw_59, List.forall_mem_cons.mpr ⟨xz_cw_60, List.forall_mem_cons.mpr ⟨xz_cw_61, List.forall_mem_cons.mpr ⟨xz_cw_62, List.forall_mem_cons.mpr ⟨xz_cw_63, List.forall_mem_cons.mpr ⟨xz_cw_64, List.forall_mem_cons.mpr ⟨xz_cw_65, List.forall_mem_cons.mpr ⟨xz_cw_66, List.forall_mem_cons.mpr ⟨xz_cw_67, List.forall_mem_cons.mpr ⟨xz_cw_68, List.forall_mem_cons.mpr ⟨xz_cw_69, List.forall_mem_cons.mpr ⟨xz_cw_70, List.forall_mem_cons.mpr ⟨xz_cw_71, List.forall_mem_cons.mpr ⟨xz_cw_72, List.forall_mem_cons.mpr ⟨xz_cw_73, List.forall_mem_cons.mpr ⟨xz_cw_74, List.forall_mem_cons.mpr ⟨xz_cw_75, List.forall_mem_cons.mpr ⟨xz_cw_76, List.forall_mem_cons.mpr ⟨xz_cw_77, List.forall_mem_cons.mpr ⟨xz_cw_78, List.forall_mem_cons.mpr ⟨xz_cw_79, List.forall_mem_cons.mpr ⟨xz_cw_80, List.forall_mem_cons.mpr ⟨xz_cw_81, List.forall_mem_cons.mpr ⟨xz_cw_82, List.forall_mem_cons.mpr ⟨xz_cw_83, List.forall_mem_cons.mpr ⟨xz_cw_84, List.forall_mem_cons.mpr ⟨xz_cw_85, List.forall_mem_cons.mpr ⟨xz_cw_86, List.forall_mem_cons.mpr ⟨xz_cw_87, List.forall_mem_cons.mpr ⟨xz_cw_88, List.forall_mem_cons.mpr ⟨xz_cw_89, List.forall_mem_cons.mpr ⟨xz_cw_90, List.forall_mem_cons.mpr ⟨xz_cw_91, List.forall_mem_cons.mpr ⟨xz_cw_92, List.forall_mem_cons.mpr ⟨xz_cw_93, List.forall_mem_cons.mpr ⟨xz_cw_94, List.forall_mem_cons.mpr ⟨xz_cw_95, List.forall_mem_cons.mpr ⟨xz_cw_96, List.forall_mem_cons.mpr ⟨xz_cw_97, List.forall_mem_cons.mpr ⟨xz_cw_98, List.forall_mem_cons.mpr ⟨xz_cw_99, List.forall_mem_cons.mpr ⟨xz_cw_100, List.forall_mem_cons.mpr ⟨xz_cw_101, List.forall_mem_cons.mpr ⟨xz_cw_102, List.forall_mem_cons.mpr ⟨xz_cw_103, List.forall_mem_cons.mpr ⟨xz_cw_104, List.forall_mem_cons.mpr ⟨xz_cw_105, List.forall_mem_cons.mpr ⟨xz_cw_106, List.forall_mem_cons.mpr ⟨xz_cw_107, List.forall_mem_cons.mpr ⟨xz_cw_108, List.forall_mem_cons.mpr ⟨xz_cw_109, List.forall_mem_cons.mpr ⟨xz_cw_110, List.forall_mem_cons.mpr ⟨xz_cw_111, List.forall_mem_cons.mpr ⟨xz_cw_112, List.forall_mem_cons.mpr ⟨xz_cw_113, List.forall_mem_cons.mpr ⟨xz_cw_114, List.forall_mem_cons.mpr ⟨xz_cw_115, List.forall_mem_cons.mpr ⟨xz_cw_116, List.forall_mem_cons.mpr ⟨xz_cw_117, List.forall_mem_cons.mpr ⟨xz_cw_118, List.forall_mem_cons.mpr ⟨xz_cw_119, List.forall_mem_cons.mpr ⟨xz_cw_120, List.forall_mem_cons.mpr ⟨xz_cw_121, List.forall_mem_cons.mpr ⟨xz_cw_122, List.forall_mem_cons.mpr ⟨xz_cw_123, List.forall_mem_cons.mpr ⟨xz_cw_124, List.forall_mem_cons.mpr ⟨xz_cw_125, List.forall_mem_cons.mpr ⟨xz_cw_126, List.forall_mem_cons.mpr ⟨xz_cw_127, List.forall_mem_cons.mpr ⟨xz_cw_128, List.forall_mem_cons.mpr ⟨xz_cw_129, List.forall_mem_cons.mpr ⟨xz_cw_130, List.forall_mem_cons.mpr ⟨xz_cw_131, List.forall_mem_cons.mpr ⟨xz_cw_132, List.forall_mem_cons.mpr ⟨xz_cw_133, List.forall_mem_cons.mpr ⟨xz_cw_134, List.forall_mem_cons.mpr ⟨xz_cw_135, List.forall_mem_cons.mpr ⟨xz_cw_136, List.forall_mem_cons.mpr ⟨xz_cw_137, List.forall_mem_cons.mpr ⟨xz_cw_138, List.forall_mem_cons.mpr ⟨xz_cw_139, List.forall_mem_cons.mpr ⟨xz_cw_140, List.forall_mem_cons.mpr ⟨xz_cw_141, List.forall_mem_cons.mpr ⟨xz_cw_142, List.forall_mem_cons.mpr ⟨xz_cw_143, List.forall_mem_cons.mpr ⟨xz_cw_144, List.forall_mem_cons.mpr ⟨xz_cw_145, List.forall_mem_cons.mpr ⟨xz_cw_146, List.forall_mem_cons.mpr ⟨xz_cw_147, List.forall_mem_cons.mpr ⟨xz_cw_148, List.forall_mem_cons.mpr ⟨xz_cw_149, List.forall_mem_cons.mpr ⟨xz_cw_150, List.forall_mem_cons.mpr ⟨xz_cw_151, List.forall_mem_cons.mpr ⟨xz_cw_152, List.forall_mem_cons.mpr ⟨xz_cw_153, List.forall_mem_cons.mpr ⟨xz_cw_154, List.forall_mem_cons.mpr ⟨xz_cw_155, List.forall_mem_cons.mpr ⟨xz_cw_156, List.forall_mem_cons.mpr ⟨xz_cw_157, List.forall_mem_cons.mpr ⟨xz_cw_158, List.forall_mem_cons.mpr ⟨xz_cw_159, List.forall_mem_cons.mpr ⟨xz_cw_160, List.forall_mem_cons.mpr ⟨xz_cw_161, List.forall_mem_cons.mpr ⟨xz_cw_162, List.forall_mem_cons.mpr ⟨xz_cw_163, List.forall_mem_cons.mpr ⟨xz_cw_164, List.forall_mem_cons.mpr ⟨xz_cw_165, List.forall_mem_cons.mpr ⟨xz_cw_166, List.forall_mem_cons.mpr ⟨xz_cw_167, List.forall_mem_cons.mpr ⟨xz_cw_168, List.forall_mem_cons.mpr ⟨xz_cw_169, List.forall_mem_cons.mpr ⟨xz_cw_170, List.forall_mem_cons.mpr ⟨xz_cw_171, List.forall_mem_cons.mpr ⟨xz_cw_172, List.forall_mem_cons.mpr ⟨xz_cw_173, List.forall_mem_cons.mpr ⟨xz_cw_174, List.forall_mem_cons.mpr ⟨xz_cw_175, List.forall_mem_cons.mpr ⟨xz_cw_176, List.forall_mem_cons.mpr ⟨xz_cw_177, List.forall_mem_cons.mpr ⟨xz_cw_178, List.forall_mem_cons.mpr ⟨xz_cw_179, List.forall_mem_cons.mpr ⟨xz_cw_180, List.forall_mem_cons.mpr ⟨xz_cw_181, List.forall_mem_cons.mpr ⟨xz_cw_182, List.forall_mem_cons.mpr ⟨xz_cw_183, List.forall_mem_cons.mpr ⟨xz_cw_184, List.forall_mem_cons.mpr ⟨xz_cw_185, List.forall_mem_cons.mpr ⟨xz_cw_186, List.forall_mem_cons.mpr ⟨xz_cw_187, List.forall_mem_cons.mpr ⟨xz_cw_188, List.forall_mem_cons.mpr ⟨xz_cw_189, List.forall_mem_cons.mpr ⟨xz_cw_190, List.forall_mem_cons.mpr ⟨xz_cw_191, List.forall_mem_cons.mpr ⟨xz_cw_192, List.forall_mem_cons.mpr ⟨xz_cw_193, List.forall_mem_cons.mpr ⟨xz_cw_194, List.forall_mem_cons.mpr ⟨xz_cw_195, List.forall_mem_cons.mpr ⟨xz_cw_196, List.forall_mem_cons.mpr ⟨xz_cw_197, List.forall_mem_cons.mpr ⟨xz_cw_198, List.forall_mem_cons.mpr ⟨xz_cw_199, fun _ h => absurd h List.not_mem_nil⟩⟩⟩⟩⟩⟩⟩⟩⟩⟩⟩⟩⟩⟩⟩⟩⟩⟩⟩⟩⟩⟩⟩⟩⟩⟩⟩⟩⟩⟩⟩⟩⟩⟩⟩⟩⟩⟩⟩⟩⟩⟩⟩⟩⟩⟩⟩⟩⟩⟩⟩⟩⟩⟩⟩⟩⟩⟩⟩⟩⟩⟩⟩⟩⟩⟩⟩⟩⟩⟩⟩⟩⟩⟩⟩⟩⟩⟩⟩⟩⟩⟩⟩⟩⟩⟩⟩⟩⟩⟩⟩⟩⟩⟩⟩⟩⟩⟩⟩⟩⟩⟩⟩⟩⟩⟩⟩⟩⟩⟩⟩⟩⟩⟩⟩⟩⟩⟩⟩⟩⟩⟩⟩⟩⟩⟩⟩⟩⟩⟩⟩⟩⟩⟩⟩⟩⟩⟩⟩⟩⟩⟩⟩⟩⟩⟩⟩⟩⟩⟩⟩⟩⟩⟩⟩⟩⟩⟩⟩⟩⟩⟩⟩⟩⟩⟩⟩⟩⟩⟩⟩⟩⟩⟩⟩⟩⟩⟩⟩⟩⟩⟩⟩⟩⟩⟩⟩⟩⟩⟩⟩⟩⟩⟩⟩⟩⟩⟩⟩
theorem xz_cw (y : Nat) (h0 : 0 < y) (h : y < 200) : Cond.code (xz_mn y) (xz_mb y) (xz_ml y) (xz_mr y) ∈ xz_TB := by
  refine xz_cwl y ?_
  have e : ([1, 2, 3, 4, 5, 6, 7, 8, 9, 10, 11, 12, 13, 14, 15, 16, 17, 18, 19, 20, 21, 22, 23, 24, 25, 26, 27, 28, 29, 30, 31, 32, 33, 34, 35, 36, 37, 38, 39, 40, 41, 42, 43, 44, 45, 46, 47, 48, 49, 50, 51, 52, 53, 54, 55, 56, 57, 58, 59, 60, 61, 62, 63, 64, 65, 66, 67, 68, 69, 70, 71, 72, 73, 74, 75, 76, 77, 78, 79, 80, 81, 82, 83, 84, 85, 86, 87, 88, 89, 90, 91, 92, 93, 94, 95, 96, 97, 98, 99, 100, 101, 102, 103, 104, 105, 106, 107, 108, 109, 110, 111, 112, 113, 114, 115, 116, 117, 118, 119, 120, 121, 122, 123, 124, 125, 126, 127, 128, 129, 130, 131, 132, 133, 134, 135, 136, 137, 138, 139, 140, 141, 142, 143, 144, 145, 146, 147, 148, 149, 150, 151, 152, 153, 154, 155, 156, 157, 158, 159, 160, 161, 162, 163, 164, 165, 166, 167, 168, 169, 170, 171, 172, 173, 174, 175, 176, 177, 178, 179, 180, 181, 182, 183, 184, 185, 186, 187, 188, 189, 190, 191, 192, 193, 194, 195, 196, 197, 198, 199] : List Nat) = List.range' 1 199 := by decide +kernel
  rw [e, List.mem_range'_1]
  omega
end
section
/-! CHECKS: the other words -/
def xz_stwp : List (Nat × Nat) := [(32, 818), (42, 538), (43, 468), (48, 471), (51, 531), (54, 410), (66, 590), (76, 436), (81, 396), (82, 582), (83, 571), (84, 353), (85, 350), (92, 587), (120, 1208), (136, 1081), (139, 1002), (143, 1148), (145, 1137), (147, 1268), (149, 1017), (157, 1152), (190, 504), (194, 501), (195, 509), (196, 679), (197, 282), (198, 802), (199, 593)]
theorem xz_stwc : xz_pl (fun y => .static (xz_mn y)) xz_stwp = true := by decide +kernel
def xz_iwp : List (Nat × Nat) := [(1, 356), (2, 739), (3, 384), (4, 368), (5, 636), (6, 85), (7, 428), (8, 376), (9, 432), (10, 364), (11, 372), (12, 752), (13, 424), (14, 600), (15, 604), (16, 616), (17, 611), (18, 644), (19, 196), (20, 619), (21, 702), (22, 743), (23, 334), (24, 125), (25, 735), (26, 79), (27, 342), (28, 346), (29, 330), (30, 747), (31, 798), (33, 809), (34, 829), (35, 772), (36, 278), (37, 768), (38, 814), (39, 444), (40, 545), (41, 249), (44, 480), (45, 557), (46, 452), (47, 465), (49, 457), (50, 542), (52, 553), (53, 461), (55, 206), (56, 418), (57, 627), (58, 404), (59, 414), (60, 731), (61, 631), (62, 399), (63, 648), (64, 756), (65, 623), (67, 790), (68, 689), (69, 671), (70, 392), (71, 360), (72, 722), (73, 727), (74, 440), (75, 706), (77, 574), (78, 782), (79, 71), (80, 711), (86, 805), (87, 764), (88, 778), (89, 658), (90, 676), (91, 760), (93, 666), (94, 718), (95, 338), (96, 388), (97, 550), (98, 714), (99, 821), (100, 326), (101, 662), (102, 640), (103, 596), (104, 686), (105, 448), (106, 699), (107, 380), (108, 693), (109, 825), (110, 578), (111, 794), (112, 653), (113, 786), (114, 567), (115, 1247), (116, 1168), (117, 1010), (118, 1048), (119, 1180), (121, 1256), (122, 1163), (123, 1094), (124, 1065), (125, 1283), (126, 1219), (127, 1043), (128, 1125), (129, 1022), (130, 1243), (131, 1084), (132, 1057), (133, 1227), (134, 1061), (135, 1252), (137, 1140), (138, 1271), (140, 836), (141, 1232), (142, 1073), (144, 1014), (146, 1212), (148, 1193), (150, 1109), (151, 1293), (152, 1264), (153, 1189), (154, 1205), (155, 1031), (156, 1260), (158, 1201), (159, 1239), (160, 1005), (161, 1038), (162, 1119), (163, 1235), (164, 1078), (165, 1301), (166, 996), (167, 1197), (168, 1172), (169, 1155), (170, 1160), (171, 1216), (172, 1089), (173, 1027), (174, 1298), (175, 1034), (176, 1276), (177, 1223), (178, 1305), (179, 1102), (180, 1069), (181, 1144), (182, 1287), (183, 1177), (184, 1184), (185, 1279), (186, 1133), (187, 1053), (188, 1098), (189, 493), (191, 487), (192, 497), (193, 483)]
theorem xz_iwc : xz_pl (fun y => .instanceMethod (xz_mn y)) xz_iwp = true := by decide +kernel
def xz_swp : List (Nat × Nat) := [(1, 357), (2, 740), (3, 385), (4, 369), (5, 637), (7, 429), (8, 377), (9, 433), (10, 365), (11, 373), (12, 753), (13, 425), (14, 601), (15, 605), (18, 645), (20, 620), (21, 703), (22, 744), (23, 335), (25, 736), (27, 343), (28, 347), (29, 331), (30, 748), (31, 799), (33, 810), (34, 830), (35, 773), (37, 769), (38, 815), (39, 445), (40, 546), (45, 558), (46, 453), (52, 554), (57, 628), (58, 405), (60, 732), (61, 632), (62, 400), (63, 649), (64, 757), (65, 624), (67, 791), (68, 690), (70, 393), (71, 361), (72, 723), (74, 441), (75, 707), (77, 575), (78, 783), (86, 806), (87, 765), (91, 761), (94, 719), (95, 339), (96, 389), (98, 715), (99, 822), (100, 327), (102, 641), (103, 597), (105, 449), (107, 381), (108, 694), (109, 826), (110, 579), (111, 795), (112, 654), (113, 787), (114, 568), (115, 1248), (116, 1169), (118, 1049), (119, 1181), (121, 1257), (122, 1164), (125, 1284), (126, 1220), (127, 1044), (129, 1023), (130, 1244), (131, 1085), (133, 1228), (137, 1141), (138, 1272), (151, 1294), (152, 1265), (156, 1261), (159, 1240), (160, 1006), (161, 1039), (163, 1236), (165, 1302), (166, 997), (168, 1173), (169, 1156), (172, 1090), (175, 1035), (177, 1224), (178, 1306), (181, 1145), (182, 1288), (184, 1185), (185, 1280), (186, 1134), (189, 494), (191, 488), (192, 498), (193, 484), (16, 9), (17, 8), (44, 5), (47, 4), (49, 2), (50, 6), (53, 3), (56, 1), (59, 0), (69, 13), (73, 18), (80, 17), (88, 19), (89, 10), (90, 14), (93, 12), (97, 7), (101, 11), (104, 15), (106, 16), (117, 20), (123, 31), (124, 27), (128, 36), (132, 25), (134, 26), (135, 47), (141, 46), (142, 29), (144, 21), (146, 44), (148, 40), (150, 34), (153, 39), (154, 43), (155, 23), (158, 42), (162, 35), (164, 30), (167, 41), (170, 37), (171, 45), (173, 22), (174, 49), (176, 48), (179, 33), (180, 28), (183, 38), (187, 24), (188, 32)]
theorem xz_swc : xz_pl (fun y => .selects (xz_mn y).cls (xz_mn y) (xz_mn y)) xz_swp = true := by decide +kernel
def xz_nwp : List (Nat × Nat) := [(1, 53), (2, 53), (3, 53), (4, 53), (5, 53), (6, 53), (7, 53), (8, 53), (9, 53), (10, 53), (11, 53), (12, 53), (13, 53), (14, 55), (15, 55), (16, 55), (17, 55), (18, 55), (19, 55), (20, 55), (21, 54), (22, 54), (23, 54), (24, 54), (25, 52), (26, 52), (27, 52), (28, 52), (29, 52), (30, 52), (31, 58), (32, 58), (33, 58), (34, 58), (35, 58), (36, 58), (37, 58), (38, 58), (39, 57), (40, 57), (41, 57), (42, 57), (43, 57), (44, 57), (45, 57), (46, 57), (47, 57), (48, 57), (49, 57), (50, 57), (51, 57), (52, 57), (53, 57), (54, 56), (55, 56), (56, 56), (57, 56), (58, 56), (59, 56), (60, 51), (61, 51), (62, 51), (63, 51), (64, 51), (65, 51), (66, 51), (67, 51), (68, 51), (69, 51), (70, 51), (71, 51), (72, 51), (73, 51), (74, 51), (75, 51), (76, 51), (77, 51), (78, 51), (79, 51), (80, 51), (81, 51), (82, 51), (83, 51), (84, 51), (85, 51), (86, 51), (87, 51), (88, 51), (89, 51), (90, 51), (91, 51), (92, 51), (93, 51), (94, 51), (95, 51), (96, 51), (97, 51), (98, 51), (99, 51), (100, 51), (101, 51), (102, 51), (103, 51), (104, 51), (105, 51), (106, 51), (107, 51), (108, 51), (109, 51), (110, 51), (111, 51), (112, 51), (113, 51), (114, 51), (115, 60), (116, 60), (117, 60), (118, 60), (119, 60), (120, 60), (121, 60), (122, 60), (123, 60), (124, 60), (125, 60), (126, 60), (127, 60), (128, 60), (129, 60), (130, 60), (131, 60), (132, 60), (133, 60), (134, 60), (135, 60), (136, 60), (137, 60), (138, 60), (139, 60), (140, 60), (141, 60), (142, 60), (143, 60), (144, 60), (145, 60), (146, 60), (147, 60), (148, 60), (149, 60), (150, 60), (151, 60), (152, 60), (153, 60), (154, 60), (155, 60), (156, 60), (157, 60), (158, 60), (159, 60), (160, 60), (161, 60), (162, 60), (163, 60), (164, 60), (165, 60), (166, 60), (167, 60), (168, 60), (169, 60), (170, 60), (171, 60), (172, 60), (173, 60), (174, 60), (175, 60), (176, 60), (177, 60), (178, 60), (179, 60), (180, 60), (181, 60), (182, 60), (183, 60), (184, 60), (185, 60), (186, 60), (187, 60), (188, 60), (189, 62), (190, 62), (191, 62), (192, 62), (193, 62), (194, 63), (195, 64), (196, 67), (197, 59), (198, 59), (199, 66)]
theorem xz_nwc : xz_pl (fun y => .initialized (xz_mn y).cls) xz_nwp = true := by decide +kernel
def xz_FWp : List ((Nat × Nat × Nat × Nat) × Nat) := [((0, 9, 0, 1), 93), ((0, 15, 0, 2), 97), ((0, 18, 0, 3), 100), ((0, 21, 0, 4), 103), ((0, 24, 0, 5), 106), ((0, 28, 0, 0), 88), ((1, 9, 1, 0), 199), ((1, 25, 3, 2), 156), ((1, 31, 3, 5), 167), ((1, 35, 0, 0), 91), ((1, 48, 0, 2), 98), ((1, 51, 0, 3), 101), ((1, 58, 0, 1), 95), ((1, 65, 3, 1), 152), ((2, 9, 2, 1), 130), ((2, 15, 2, 2), 131), ((2, 19, 2, 3), 133), ((2, 22, 2, 4), 135), ((2, 25, 2, 0), 128), ((3, 9, 3, 0), 148), ((3, 15, 3, 1), 150), ((3, 18, 3, 3), 158), ((3, 24, 3, 5), 164), ((3, 33, 3, 6), 168), ((3, 37, 3, 7), 170), ((3, 40, 3, 8), 172), ((3, 43, 3, 2), 154), ((3, 46, 3, 4), 161), ((3, 49, 0, 0), 89), ((4, 9, 4, 0), 286), ((4, 19, 4, 1), 288), ((4, 24, 4, 2), 290), ((5, 11, 5, 2), 258), ((5, 15, 5, 3), 259), ((5, 20, 5, 4), 260), ((5, 23, 5, 0), 254), ((5, 27, 5, 1), 256), ((5, 30, 5, 5), 261), ((6, 9, 6, 5), 218), ((6, 15, 6, 6), 220), ((6, 18, 6, 7), 222), ((6, 21, 6, 8), 223), ((6, 24, 6, 9), 224), ((6, 27, 6, 0), 209), ((6, 31, 6, 1), 210), ((6, 34, 6, 2), 212), ((6, 43, 3, 2), 155), ((6, 48, 3, 4), 162), ((6, 57, 3, 3), 159), ((6, 60, 3, 5), 165), ((6, 63, 0, 1), 94), ((6, 72, 0, 0), 90), ((6, 79, 3, 1), 151), ((6, 84, 0, 4), 104), ((6, 91, 6, 3), 214), ((6, 94, 6, 4), 216), ((7, 12, 7, 0), 300), ((7, 18, 7, 1), 301), ((7, 21, 7, 2), 302), ((7, 27, 7, 3), 303), ((7, 34, 7, 4), 304), ((7, 41, 7, 5), 305), ((7, 48, 7, 6), 306), ((7, 52, 3, 0), 149), ((7, 71, 3, 5), 166), ((7, 96, 0, 1), 96), ((7, 100, 0, 2), 99), ((7, 103, 0, 3), 102), ((7, 106, 0, 4), 105), ((7, 112, 3, 1), 153), ((7, 118, 3, 2), 157), ((7, 121, 3, 3), 160), ((7, 124, 3, 4), 163), ((7, 131, 6, 1), 211), ((7, 142, 5, 1), 257), ((7, 151, 6, 2), 213), ((7, 154, 6, 3), 215), ((7, 157, 6, 5), 219), ((7, 159, 6, 6), 221), ((7, 167, 6, 4), 217), ((7, 186, 0, 0), 92), ((7, 218, 3, 6), 169), ((7, 239, 3, 7), 171), ((7, 249, 2, 0), 129), ((7, 250, 2, 2), 132), ((7, 253, 2, 3), 134), ((7, 260, 3, 8), 173), ((7, 269, 4, 0), 287), ((7, 275, 7, 7), 307), ((7, 279, 5, 0), 255), ((7, 291, 4, 2), 291), ((7, 345, 2, 4), 136), ((7, 348, 4, 1), 289), ((8, 9, 8, 0), 841), ((8, 15, 8, 2), 843), ((8, 19, 8, 3), 844), ((8, 23, 8, 4), 845), ((8, 26, 8, 5), 846), ((8, 29, 8, 6), 847), ((8, 32, 8, 7), 848), ((8, 35, 8, 9), 850), ((8, 38, 8, 14), 855), ((8, 41, 8, 15), 856), ((8, 44, 8, 16), 857), ((8, 47, 8, 17), 858), ((8, 50, 8, 18), 859), ((8, 53, 8, 19), 860), ((8, 56, 8, 20), 861), ((8, 59, 8, 21), 862), ((8, 62, 8, 26), 867), ((8, 65, 8, 27), 868), ((8, 68, 8, 38), 879), ((8, 71, 8, 39), 880), ((8, 74, 8, 40), 881), ((8, 77, 8, 41), 882), ((8, 80, 8, 43), 884), ((8, 83, 8, 44), 885), ((8, 86, 8, 45), 886), ((8, 91, 8, 46), 887), ((8, 94, 8, 47), 888), ((8, 97, 8, 48), 889), ((8, 102, 8, 49), 890), ((8, 105, 8, 50), 891), ((8, 123, 8, 1), 842), ((8, 126, 8, 8), 849), ((8, 129, 8, 10), 851), ((8, 132, 8, 11), 852), ((8, 135, 8, 12), 853), ((8, 138, 8, 13), 854), ((8, 167, 8, 22), 863), ((8, 175, 8, 23), 864), ((8, 201, 8, 24), 865), ((8, 211, 8, 25), 866), ((8, 235, 8, 37), 878), ((8, 239, 8, 31), 872), ((8, 242, 8, 33), 874), ((8, 245, 8, 34), 875), ((8, 248, 8, 35), 876), ((8, 252, 8, 32), 873), ((8, 269, 8, 36), 877), ((8, 272, 8, 28), 869), ((8, 279, 8, 30), 871), ((8, 289, 8, 29), 870), ((8, 358, 8, 42), 883)]
theorem xz_FWc : xz_pl (fun (q : Nat × Nat × Nat × Nat) => .fieldLink (xz_RN q.1) q.2.1 (xz_T q.2.2.1 q.2.2.2).1 (xz_T q.2.2.1 q.2.2.2).2.1 (xz_T q.2.2.1 q.2.2.2).2.2.1) xz_FWp = true := by decide +kernel
def xz_MWp : List ((Nat × Nat × Nat) × Nat) := [((0, 32, 4), 367), ((0, 36, 7), 427), ((0, 39, 9), 431), ((1, 15, 15), 603), ((1, 19, 197), 607), ((1, 40, 7), 608), ((1, 44, 17), 609), ((1, 61, 16), 614), ((3, 23, 6), 84), ((3, 30, 24), 124), ((3, 52, 23), 333), ((3, 56, 2), 738), ((3, 60, 22), 742), ((3, 63, 28), 345), ((3, 67, 11), 750), ((3, 70, 12), 751), ((4, 13, 197), 281), ((4, 27, 37), 775), ((4, 31, 35), 812), ((4, 34, 198), 801), ((4, 37, 32), 817), ((5, 33, 49), 455), ((5, 37, 47), 463), ((5, 41, 53), 459), ((5, 45, 48), 470), ((5, 49, 193), 482), ((5, 54, 51), 530), ((5, 57, 42), 537), ((5, 60, 189), 492), ((5, 64, 50), 540), ((5, 67, 43), 467), ((5, 70, 44), 478), ((6, 37, 197), 407), ((6, 53, 54), 409), ((6, 68, 59), 412), ((6, 75, 13), 423), ((6, 87, 56), 416), ((7, 11, 26), 78), ((7, 26, 19), 195), ((7, 33, 55), 205), ((7, 40, 41), 248), ((7, 47, 36), 277), ((7, 56, 29), 329), ((7, 60, 27), 341), ((7, 64, 85), 349), ((7, 68, 84), 352), ((7, 75, 1), 355), ((7, 81, 10), 363), ((7, 85, 11), 371), ((7, 88, 8), 375), ((7, 92, 3), 383), ((7, 109, 81), 395), ((7, 115, 28), 402), ((7, 127, 58), 403), ((7, 134, 39), 443), ((7, 136, 46), 451), ((7, 139, 40), 544), ((7, 145, 97), 548), ((7, 148, 83), 570), ((7, 162, 82), 581), ((7, 173, 92), 586), ((7, 177, 14), 599), ((7, 180, 20), 618), ((7, 183, 57), 626), ((7, 189, 7), 634), ((7, 192, 5), 635), ((7, 195, 18), 643), ((7, 196, 9), 651), ((7, 200, 89), 656), ((7, 203, 101), 660), ((7, 206, 90), 674), ((7, 209, 104), 684), ((7, 212, 93), 664), ((7, 215, 69), 669), ((7, 222, 23), 696), ((7, 227, 106), 697), ((7, 230, 21), 701), ((7, 232, 80), 709), ((7, 235, 15), 673), ((7, 242, 73), 725), ((7, 245, 25), 734), ((7, 256, 30), 746), ((7, 263, 37), 767), ((7, 266, 35), 771), ((7, 272, 88), 776), ((7, 282, 31), 797), ((7, 284, 33), 808), ((7, 287, 38), 813), ((7, 295, 34), 828), ((7, 305, 66), 589), ((7, 309, 199), 592), ((7, 314, 52), 552), ((7, 317, 45), 556), ((7, 320, 100), 560), ((7, 323, 95), 561), ((7, 326, 71), 562), ((7, 329, 70), 563), ((7, 331, 62), 564), ((7, 334, 4), 729), ((7, 337, 76), 668), ((7, 340, 196), 678), ((7, 350, 13), 780), ((8, 109, 139), 1001), ((8, 113, 144), 1012), ((8, 141, 117), 1008), ((8, 145, 149), 1016), ((8, 150, 173), 1025), ((8, 154, 155), 1029), ((8, 162, 187), 1051), ((8, 170, 193), 1111), ((8, 178, 189), 1112), ((8, 182, 179), 1100), ((8, 190, 150), 1107), ((8, 208, 188), 1096), ((8, 214, 162), 1117), ((8, 217, 166), 1127), ((8, 219, 160), 1128), ((8, 222, 129), 1129), ((8, 224, 127), 1130), ((8, 226, 118), 1131), ((8, 229, 123), 1092), ((8, 232, 128), 1123), ((8, 255, 180), 1067), ((8, 259, 142), 1071), ((8, 275, 124), 1063), ((8, 282, 164), 1076), ((8, 286, 136), 1080), ((8, 292, 134), 1059), ((8, 296, 132), 1055), ((8, 300, 145), 1136), ((8, 303, 143), 1147), ((8, 308, 157), 1151), ((8, 312, 170), 1158), ((8, 317, 183), 1175), ((8, 320, 148), 1191), ((8, 323, 158), 1199), ((8, 326, 120), 1207), ((8, 329, 146), 1210), ((8, 332, 153), 1187), ((8, 335, 167), 1195), ((8, 338, 154), 1203), ((8, 341, 171), 1214), ((8, 344, 141), 1230), ((8, 348, 135), 1250), ((8, 352, 186), 1254), ((8, 355, 147), 1267), ((8, 361, 176), 1274), ((8, 369, 174), 1296), ((9, 9, 79), 70), ((9, 12, 140), 835), ((9, 13, 100), 325), ((9, 17, 166), 995), ((9, 18, 95), 337), ((9, 22, 160), 1004), ((9, 23, 71), 359), ((9, 26, 129), 1021), ((9, 27, 107), 379), ((9, 31, 175), 1033), ((9, 32, 96), 387), ((9, 36, 161), 1037), ((9, 37, 70), 391), ((9, 40, 127), 1042), ((9, 41, 62), 398), ((9, 44, 118), 1047), ((9, 45, 74), 439), ((9, 48, 131), 1083), ((9, 49, 105), 447), ((9, 53, 172), 1088), ((9, 54, 114), 566), ((9, 57, 186), 1132), ((9, 58, 77), 573), ((9, 61, 137), 1139), ((9, 62, 110), 577), ((9, 66, 181), 1143), ((9, 67, 103), 595), ((9, 70, 169), 1154), ((9, 71, 65), 622), ((9, 74, 122), 1162), ((9, 75, 61), 630), ((9, 78, 116), 1167), ((9, 79, 102), 639), ((9, 82, 168), 1171), ((9, 83, 63), 647), ((9, 86, 119), 1179), ((9, 87, 112), 652), ((9, 90, 184), 1183), ((9, 91, 68), 688), ((9, 94, 126), 1218), ((9, 95, 108), 692), ((9, 99, 177), 1222), ((9, 100, 75), 705), ((9, 103, 133), 1226), ((9, 104, 98), 713), ((9, 108, 163), 1234), ((9, 109, 94), 717), ((9, 112, 159), 1238), ((9, 113, 72), 721), ((9, 116, 130), 1242), ((9, 117, 60), 730), ((9, 120, 115), 1246), ((9, 121, 64), 755), ((9, 124, 121), 1255), ((9, 125, 91), 759), ((9, 128, 156), 1259), ((9, 129, 87), 763), ((9, 132, 152), 1263), ((9, 133, 78), 781), ((9, 136, 138), 1270), ((9, 137, 113), 785), ((9, 140, 185), 1278), ((9, 141, 67), 789), ((9, 144, 125), 1282), ((9, 145, 111), 793), ((9, 148, 182), 1286), ((9, 151, 86), 804), ((9, 155, 151), 1292), ((9, 156, 99), 820), ((9, 159, 165), 1300), ((9, 160, 109), 824), ((9, 164, 178), 1304), ((13, 335, 191), 486), ((13, 492, 192), 496), ((13, 495, 194), 500), ((13, 1059, 195), 508), ((14, 9, 190), 503)]
theorem xz_MWc : xz_pl (fun (q : Nat × Nat × Nat) => .methodLink (xz_RN q.1) q.2.1 (xz_mn q.2.2)) xz_MWp = true := by decide +kernel
def xz_MXp : List ((Nat × Nat × Nat) × Nat) := [((0, 43, 76), 435), ((1, 54, 76), 613)]
theorem xz_MXc : xz_MXp.all (fun q => decide (lw_tbl[q.2]? = some (.methodLinkNest (xz_RN q.1.1) q.1.2.1 (xz_mn q.1.2.2) "HandRelay"))) = true := by decide +kernel
def xz_IWp : List ((Nat × Nat × Int32) × Nat) := [((10, 265, 1431655765), 681), ((10, 266, 858993459), 682), ((10, 267, 252645135), 683)]
theorem xz_IWc : xz_pl (fun (q : Nat × Nat × Int32) => .constant (xz_RN q.1) q.2.1 q.2.2) xz_IWp = true := by decide +kernel
def xz_JWp : List ((Nat × Nat × Nat) × Nat) := [((6, 51, 4), 408), ((6, 82, 3), 438), ((7, 165, 5), 584), ((7, 171, 4), 585), ((8, 117, 11), 1019), ((8, 119, 6), 999), ((8, 121, 14), 1000), ((8, 148, 3), 1020), ((8, 158, 9), 1041), ((8, 160, 8), 1046), ((8, 165, 10), 1087), ((8, 185, 17), 1104), ((8, 187, 18), 1105), ((8, 204, 12), 1121), ((8, 206, 13), 1122), ((8, 306, 5), 1150), ((8, 315, 7), 1166), ((8, 365, 15), 1290), ((8, 367, 16), 1291), ((9, 149, 0), 1308)]
theorem xz_JWc : xz_pl (fun (q : Nat × Nat × Nat) => .constantLong (xz_RN q.1) q.2.1 (xz_lc q.2.2)) xz_JWp = true := by decide +kernel
def xz_txs : List String := ["people", "meet", "drop", "delay", "ask", "2113", "2", "112", "1"]
def xz_SWp : List ((Nat × Nat × Nat) × Nat) := [((5, 74, 0), 473), ((5, 76, 1), 474), ((5, 78, 2), 475), ((5, 80, 3), 476), ((5, 82, 4), 477), ((5, 84, 5), 533), ((5, 86, 6), 534), ((5, 88, 7), 535), ((5, 90, 8), 536), ((8, 189, 0), 1106), ((8, 194, 1), 1113), ((8, 196, 2), 1114), ((8, 198, 3), 1115), ((8, 199, 4), 1116)]
theorem xz_SWc : xz_SWp.all (fun q => decide (lw_tbl[q.2]? = some (.stringRef (xz_RN q.1.1) q.1.2.1 (xz_txs.getD q.1.2.2 "")))) = true := by decide +kernel
def xz_CWp : List ((Nat × Nat × Nat) × Nat) := [((3, 21, 0), 82), ((3, 28, 2), 122), ((7, 9, 3), 76), ((7, 24, 1), 193), ((7, 31, 6), 203), ((7, 38, 5), 246), ((7, 45, 4), 275), ((9, 7, 7), 68), ((9, 10, 8), 833)]
theorem xz_CWc : xz_pl (fun (q : Nat × Nat × Nat) => .classLink (xz_RN q.1) q.2.1 (xz_RN q.2.2)) xz_CWp = true := by decide +kernel
def xz_AWp : List ((Nat × Nat × Nat) × Nat) := [((4, 22, 4), 284), ((5, 18, 3), 252), ((8, 89, 3), 839), ((8, 100, 4), 840)]
theorem xz_AWc : xz_pl (fun (q : Nat × Nat × Nat) => .classLink (xz_RN q.1) q.2.1 (bif q.2.2 == 3 then "[[I" else "[[J")) xz_AWp = true := by decide +kernel
theorem xz_wSv : Cond.fieldLink RJ0 9 RJ0 "value" "[B" ∈ xz_TB := xz_in_TB 1309 (by decide +kernel) (by decide +kernel)
theorem xz_wSc : Cond.fieldLink RJ0 15 RJ0 "coder" "B" ∈ xz_TB := xz_in_TB 1310 (by decide +kernel) (by decide +kernel)
theorem xz_wSs : Cond.fieldLink RJ0 38 RJ0 "COMPACT_STRINGS" "Z" ∈ xz_TB := xz_in_TB 490 (by decide +kernel) (by decide +kernel)
theorem xz_wSf : Cond.fieldLink RJ0 1053 RJ3 "SIOOBE_FORMATTER" "Ljava/util/function/BiFunction;" ∈ xz_TB := xz_in_TB 506 (by decide +kernel) (by decide +kernel)
theorem xz_wAc6 : Cond.methodLink (xz_RN 6) 98 arraycopyName ∈ xz_TB := xz_in_TB 420 (by decide +kernel) (by decide +kernel)
theorem xz_wAc7 : Cond.methodLink (xz_RN 7) 299 arraycopyName ∈ xz_TB := xz_in_TB 832 (by decide +kernel) (by decide +kernel)
theorem xz_wAc8 : Cond.methodLink (xz_RN 8) 263 arraycopyName ∈ xz_TB := xz_in_TB 1075 (by decide +kernel) (by decide +kernel)
theorem xz_wAn : Cond.native arraycopyName ∈ xz_TB := xz_in_TB 422 (by decide +kernel) (by decide +kernel)
theorem xz_wAs : Cond.static arraycopyName ∈ xz_TB := xz_in_TB 421 (by decide +kernel) (by decide +kernel)
theorem xz_wAi : Cond.initialized "java/lang/System" ∈ xz_TB := xz_in_TB 61 (by decide +kernel) (by decide +kernel)
theorem xz_wOi0 : Cond.methodLink (xz_RN 0) 3 Lib.objectInit ∈ xz_TB := xz_in_TB 87 (by decide +kernel) (by decide +kernel)
theorem xz_wOi1 : Cond.methodLink (xz_RN 1) 3 Lib.objectInit ∈ xz_TB := xz_in_TB 198 (by decide +kernel) (by decide +kernel)
theorem xz_wOi2 : Cond.methodLink (xz_RN 2) 3 Lib.objectInit ∈ xz_TB := xz_in_TB 127 (by decide +kernel) (by decide +kernel)
theorem xz_wOi3 : Cond.methodLink (xz_RN 3) 3 Lib.objectInit ∈ xz_TB := xz_in_TB 81 (by decide +kernel) (by decide +kernel)
theorem xz_wOi4 : Cond.methodLink (xz_RN 4) 1 Lib.objectInit ∈ xz_TB := xz_in_TB 280 (by decide +kernel) (by decide +kernel)
theorem xz_wOi5 : Cond.methodLink (xz_RN 5) 3 Lib.objectInit ∈ xz_TB := xz_in_TB 251 (by decide +kernel) (by decide +kernel)
theorem xz_wOi6 : Cond.methodLink (xz_RN 6) 3 Lib.objectInit ∈ xz_TB := xz_in_TB 208 (by decide +kernel) (by decide +kernel)
theorem xz_wOi7 : Cond.methodLink (xz_RN 7) 3 Lib.objectInit ∈ xz_TB := xz_in_TB 73 (by decide +kernel) (by decide +kernel)
theorem xz_wOi8 : Cond.methodLink (xz_RN 8) 3 Lib.objectInit ∈ xz_TB := xz_in_TB 838 (by decide +kernel) (by decide +kernel)
theorem xz_wOn : Cond.instanceMethod Lib.objectInit ∈ xz_TB := xz_in_TB 74 (by decide +kernel) (by decide +kernel)
theorem xz_wOc : Cond.code Lib.objectInit ⟨#[0xb1]⟩ 1 none ∈ xz_TB := xz_in_TBc 75 rfl rfl
theorem xz_wIn0 : Cond.instantiable (xz_RN 0) (xz_NC 0) ∈ xz_TB := xz_in_TB 83 (by decide +kernel) (by decide +kernel)
theorem xz_wIn1 : Cond.instantiable (xz_RN 1) (xz_NC 1) ∈ xz_TB := xz_in_TB 194 (by decide +kernel) (by decide +kernel)
theorem xz_wIn2 : Cond.instantiable (xz_RN 2) (xz_NC 2) ∈ xz_TB := xz_in_TB 123 (by decide +kernel) (by decide +kernel)
theorem xz_wIn3 : Cond.instantiable (xz_RN 3) (xz_NC 3) ∈ xz_TB := xz_in_TB 77 (by decide +kernel) (by decide +kernel)
theorem xz_wIn4 : Cond.instantiable (xz_RN 4) (xz_NC 4) ∈ xz_TB := xz_in_TB 276 (by decide +kernel) (by decide +kernel)
theorem xz_wIn5 : Cond.instantiable (xz_RN 5) (xz_NC 5) ∈ xz_TB := xz_in_TB 247 (by decide +kernel) (by decide +kernel)
theorem xz_wIn6 : Cond.instantiable (xz_RN 6) (xz_NC 6) ∈ xz_TB := xz_in_TB 204 (by decide +kernel) (by decide +kernel)
theorem xz_wIn7 : Cond.instantiable (xz_RN 7) (xz_NC 7) ∈ xz_TB := xz_in_TB 69 (by decide +kernel) (by decide +kernel)
theorem xz_wIn8 : Cond.instantiable (xz_RN 8) (xz_NC 8) ∈ xz_TB := xz_in_TB 834 (by decide +kernel) (by decide +kernel)
theorem xz_wIi0 : Cond.initialized (xz_RN 0) ∈ xz_TB := xz_in_TB 53 (by decide +kernel) (by decide +kernel)
theorem xz_wIi1 : Cond.initialized (xz_RN 1) ∈ xz_TB := xz_in_TB 55 (by decide +kernel) (by decide +kernel)
theorem xz_wIi2 : Cond.initialized (xz_RN 2) ∈ xz_TB := xz_in_TB 54 (by decide +kernel) (by decide +kernel)
theorem xz_wIi3 : Cond.initialized (xz_RN 3) ∈ xz_TB := xz_in_TB 52 (by decide +kernel) (by decide +kernel)
theorem xz_wIi4 : Cond.initialized (xz_RN 4) ∈ xz_TB := xz_in_TB 58 (by decide +kernel) (by decide +kernel)
theorem xz_wIi5 : Cond.initialized (xz_RN 5) ∈ xz_TB := xz_in_TB 57 (by decide +kernel) (by decide +kernel)
theorem xz_wIi6 : Cond.initialized (xz_RN 6) ∈ xz_TB := xz_in_TB 56 (by decide +kernel) (by decide +kernel)
theorem xz_wIi7 : Cond.initialized (xz_RN 7) ∈ xz_TB := xz_in_TB 51 (by decide +kernel) (by decide +kernel)
theorem xz_wIi8 : Cond.initialized (xz_RN 8) ∈ xz_TB := xz_in_TB 60 (by decide +kernel) (by decide +kernel)
theorem xz_wAI : Cond.arrayClass .int ∈ xz_TB := xz_in_TB 120 (by decide +kernel) (by decide +kernel)
theorem xz_wAZ : Cond.arrayClass .boolean ∈ xz_TB := xz_in_TB 121 (by decide +kernel) (by decide +kernel)
theorem xz_wAJ : Cond.arrayClass .long ∈ xz_TB := xz_in_TB 299 (by decide +kernel) (by decide +kernel)
theorem xz_wOI : lw_tbl[253]? = some (.arrayOver (.array .int)) := by decide +kernel
theorem xz_wOJ : lw_tbl[285]? = some (.arrayOver (.array .long)) := by decide +kernel
end
section
/-! THE LITTLE MACHINE: the bytecode, resolved, over a heap whose references are places; no word of the JVM here but its instructions and values -/
abbrev xz_Sh : Type := Nat × Nat × List (Option Nat)
abbrev xz_M : Type := List xz_Sh × (Nat → Nat → Int32) × (Nat → Nat → Int64)
abbrev xz_L : Type := List (Nat × Value)
/-- the instruction, (its pc, its length), (a, b, c, e) resolved operands, a number, places -/
abbrev xz_Op : Type := Instr × (Nat × Nat) × (Nat × Nat × Nat × Nat) × Int32 × List Nat
abbrev xz_Res : Type := Option (Option Value × xz_M)
abbrev xz_X : Type := Option (Nat × (Nat → Int32))
def xz_get : xz_L → Nat → Option Value
  | [], _ => none
  | q :: L, i => bif q.1 == i then some q.2 else xz_get L i
def xz_s1 (L : xz_L) (i : Nat) (v : Value) : xz_L := (i, v) :: L.filter (fun q => !(q.1 == i) && !(q.1 + 1 == i && q.2.category == 2))
def xz_s2 (L : xz_L) (i : Nat) (v : Value) : xz_L := (i, v) :: L.filter (fun q => !(q.1 == i) && (!(q.1 == i + 1) && !(q.1 + 1 == i && q.2.category == 2)))
def xz_pick (L : xz_L) (ts : List Nat) : xz_L := ts.filterMap fun i => (xz_get L i).map fun v => (i, v)
def xz_pI (S : List Value) (k : Int32 → List Value → xz_Res) : xz_Res := match S with
  | .int x :: S => k x S
  | _ => none
def xz_pJ (S : List Value) (k : Int64 → List Value → xz_Res) : xz_Res := match S with
  | .long x :: S => k x S
  | _ => none
def xz_pR (S : List Value) (k : Nat → List Value → xz_Res) : xz_Res := match S with
  | .ref x :: S => k x S
  | _ => none
/-- a value of one slot on top -/
def xz_p1 (S : List Value) (k : Value → List Value → xz_Res) : xz_Res := match S with
  | .int x :: S => k (.int x) S
  | .ref x :: S => k (.ref x) S
  | _ => none
def xz_lI (L : xz_L) (i : Nat) (k : Int32 → xz_Res) : xz_Res := match xz_get L i with
  | some (.int x) => k x
  | _ => none
def xz_lJ (L : xz_L) (i : Nat) (k : Int64 → xz_Res) : xz_Res := match xz_get L i with
  | some (.long x) => k x
  | _ => none
def xz_lR (L : xz_L) (i : Nat) (k : Nat → xz_Res) : xz_Res := match xz_get L i with
  | some (.ref x) => k x
  | _ => none
/-- behind a call: an int, a long, a reference, nothing -/
def xz_bI (o : xz_Res) (k : Int32 → xz_M → xz_Res) : xz_Res := match o with
  | some (some (.int x), M) => k x M
  | _ => none
def xz_bJ (o : xz_Res) (k : Int64 → xz_M → xz_Res) : xz_Res := match o with
  | some (some (.long x), M) => k x M
  | _ => none
def xz_bR (o : xz_Res) (k : Nat → xz_M → xz_Res) : xz_Res := match o with
  | some (some (.ref x), M) => k x M
  | _ => none
def xz_bV (o : xz_Res) (k : xz_M → xz_Res) : xz_Res := match o with
  | some (none, M) => k M
  | _ => none
def xz_o {α : Type} (o : Option α) (k : α → xz_Res) : xz_Res := match o with
  | some x => k x
  | none => none
def xz_b (c : Bool) (k : xz_Res) : xz_Res := match c with
  | true => k
  | false => none
def xz_up {α : Type} (f : Nat → Nat → α) (r k : Nat) (v : α) : Nat → Nat → α := fun r' k' => bif r' == r && k' == k then v else f r' k'
def xz_row {α : Type} (f : Nat → Nat → α) (r : Nat) (g : Nat → α) : Nat → Nat → α := fun r' => bif r' == r then g else f r'
def xz_in (i : Int32) (n : Nat) : Bool := decide (¬ (i < 0 ∨ n ≤ i.toNatClampNeg))
def xz_is (M : xz_M) (r e : Nat) : Bool := bif e == 20 then Nat.ble 2000 r && Nat.blt r 2009 else match M.1[r]? with
  | some q => q.1 == e + 5
  | none => false
def xz_gI (M : xz_M) (r a b : Nat) : Option Int32 := match M.1[r]? with
  | some q => bif q.1 == a + 5 then some (M.2.1 r b) else none
  | none => none
def xz_gJ (M : xz_M) (r a b : Nat) : Option Int64 := match M.1[r]? with
  | some q => bif q.1 == a + 5 then some (M.2.2 r b) else none
  | none => none
def xz_gR (M : xz_M) (r a b : Nat) : Option Nat := match M.1[r]? with
  | some q => bif q.1 == a + 5 then q.2.2.getD b none else none
  | none => none
def xz_wI (M : xz_M) (r a b : Nat) (v : Int32) : Option xz_M := match M.1[r]? with
  | some q => bif q.1 == a + 5 then some (M.1, xz_up M.2.1 r b v, M.2.2) else none
  | none => none
def xz_wZ (M : xz_M) (r a b : Nat) (v : Int32) : Option xz_M := match M.1[r]? with
  | some q => bif q.1 == a + 5 && v &&& 1 == v then some (M.1, xz_up M.2.1 r b v, M.2.2) else none
  | none => none
def xz_wJ (M : xz_M) (r a b : Nat) (v : Int64) : Option xz_M := match M.1[r]? with
  | some q => bif q.1 == a + 5 then some (M.1, M.2.1, xz_up M.2.2 r b v) else none
  | none => none
def xz_wR (M : xz_M) (r a b : Nat) (v : Nat) : Option xz_M := match M.1[r]? with
  | some q => bif q.1 == a + 5 && Nat.blt v M.1.length then some (M.1.set r (q.1, q.2.1, q.2.2.set b (some v)), M.2) else none
  | none => none
/-- arrays: kinds 0 int, 1 boolean, 2 long, 3 of int arrays, 4 of long arrays -/
def xz_lI0 (M : xz_M) (kd r : Nat) (i : Int32) : Option Int32 := match M.1[r]? with
  | some q => bif q.1 == kd && xz_in i q.2.1 then some (M.2.1 r i.toNatClampNeg) else none
  | none => none
def xz_lJ0 (M : xz_M) (r : Nat) (i : Int32) : Option Int64 := match M.1[r]? with
  | some q => bif q.1 == 2 && xz_in i q.2.1 then some (M.2.2 r i.toNatClampNeg) else none
  | none => none
def xz_lR0 (M : xz_M) (r : Nat) (i : Int32) : Option Nat := match M.1[r]? with
  | some q => bif (q.1 == 3 || q.1 == 4) && xz_in i q.2.1 then q.2.2.getD i.toNatClampNeg none else none
  | none => none
def xz_sI0 (M : xz_M) (r : Nat) (i v : Int32) : Option xz_M := match M.1[r]? with
  | some q => bif q.1 == 0 && xz_in i q.2.1 then some (M.1, xz_up M.2.1 r i.toNatClampNeg v, M.2.2) else none
  | none => none
def xz_sZ0 (M : xz_M) (r : Nat) (i v : Int32) : Option xz_M := match M.1[r]? with
  | some q => bif q.1 == 1 && xz_in i q.2.1 then some (M.1, xz_up M.2.1 r i.toNatClampNeg (v &&& 1), M.2.2) else none
  | none => none
def xz_sJ0 (M : xz_M) (r : Nat) (i : Int32) (v : Int64) : Option xz_M := match M.1[r]? with
  | some q => bif q.1 == 2 && xz_in i q.2.1 then some (M.1, M.2.1, xz_up M.2.2 r i.toNatClampNeg v) else none
  | none => none
def xz_len (M : xz_M) (r : Nat) : Option Int32 := match M.1[r]? with
  | some q => bif Nat.ble q.1 4 then some (Int32.ofNat q.2.1) else none
  | none => none
/-- new cells: an object, an array, an array of arrays -/
def xz_new (M : xz_M) (s : xz_Sh) : xz_M := (M.1 ++ [s], xz_row M.2.1 M.1.length (fun _ => 0), xz_row M.2.2 M.1.length (fun _ => 0))
def xz_newA (M : xz_M) (kd : Nat) (n : Int32) : Option xz_M := bif decide (¬ n < 0) && Nat.ble n.toNatClampNeg 1000 then some (xz_new M (kd, n.toNatClampNeg, [])) else none
def xz_news (M : xz_M) (s : xz_Sh) : Nat → xz_M
  | 0 => M
  | n + 1 => xz_new (xz_news M s n) s
def xz_newM (M : xz_M) (kd : Nat) (n k : Int32) : Option xz_M :=
  bif decide (¬ n < 0) && Nat.ble n.toNatClampNeg 100 && decide (¬ k < 0) && Nat.ble k.toNatClampNeg 100 then
    some (xz_news (xz_new M (kd, n.toNatClampNeg, (List.range n.toNatClampNeg).map fun i => some (M.1.length + 1 + i))) (bif kd == 3 then 0 else 2, k.toNatClampNeg, []) n.toNatClampNeg) else none
/-- System.arraycopy -/
def xz_copy (M : xz_M) (r : Nat) (sp : Int32) (r' : Nat) (dp n : Int32) : Option xz_M := match M.1[r]?, M.1[r']? with
  | some q, some q' =>
    bif decide (¬ sp < 0) && decide (¬ dp < 0) && decide (¬ n < 0) && Nat.ble (sp.toNatClampNeg + n.toNatClampNeg) q.2.1 && Nat.ble (dp.toNatClampNeg + n.toNatClampNeg) q'.2.1 && q.1 == q'.1 && Nat.ble q.1 2 then
      bif q.1 == 2 then some (M.1, M.2.1, xz_row M.2.2 r' (va_cpy (M.2.2 r) (M.2.2 r') sp.toNatClampNeg dp.toNatClampNeg n.toNatClampNeg))
      else some (M.1, xz_row M.2.1 r' (va_cpy (M.2.1 r) (M.2.1 r') sp.toNatClampNeg dp.toNatClampNeg n.toNatClampNeg), M.2.2)
    else none
  | _, _ => none
/-- text constants: their references stand from 2000 on -/
def xz_str : List (List Nat) := [[112, 101, 111, 112, 108, 101], [109, 101, 101, 116], [100, 114, 111, 112], [100, 101, 108, 97, 121], [97, 115, 107], [50, 49, 49, 51], [50], [49, 49, 50], [49]]
def xz_sval (r : Nat) : Option Nat := bif Nat.ble 2000 r && Nat.blt r 2009 then some (r + 100) else none
def xz_scod (r : Nat) : Option Int32 := bif Nat.ble 2000 r && Nat.blt r 2009 then some 0 else none
def xz_sln (r : Nat) : Option Int32 := bif Nat.ble 2100 r then (xz_str[r - 2100]?).map fun l => Int32.ofNat l.length else none
def xz_sby (r : Nat) (i : Int32) : Option Int32 := bif Nat.ble 2100 r then match xz_str[r - 2100]? with
  | some l => bif xz_in i l.length then some (Int32.ofNat (l.getD i.toNatClampNeg 0)) else none
  | none => none
  else none
def xz_cat (S : List Value) : Bool := Nat.ble (S.map fun v => v.category).sum 8
def xz_args (b : Nat) (S : List Value) (k : List Value → List Value → xz_Res) : xz_Res := bif Nat.ble b S.length then k (S.take b).reverse (S.drop b) else none
def xz_ret (c : Nat) (o : xz_Res) (k : List Value → xz_M → xz_Res) : xz_Res := match c with
  | 0 => xz_bI o fun x M => k [.int x] M
  | 1 => xz_bJ o fun x M => k [.long x] M
  | 2 => xz_bR o fun x M => k [.ref x] M
  | _ => xz_bV o fun M => k [] M
/-- an int that a return of that kind leaves as it is: int, boolean, char, byte -/
def xz_nr (a : Nat) (x : Int32) : Bool := match a with
  | 0 => true
  | 1 => x &&& 1 == x
  | 2 => (x.toUInt32 % 65536).toInt32 == x
  | _ => x.toInt8.toInt32 == x
def xz_sw (x lo : Int32) (d : Nat) (go : Nat → xz_Res) : List Nat → xz_Res
  | [] => go d
  | t :: ts => if x = lo then go t else xz_sw x (lo + 1) d go ts
def xz_aty (t : ArrayType) : Nat := match t with
  | .int => 0
  | .boolean => 1
  | .long => 2
  | _ => 9
def xz_blk (R : Nat → List Value → xz_M → xz_Res) (Lp : Nat → xz_L → List Value → xz_M → xz_Res) (nat : Bool) (X : xz_X) (lc : Nat → Int64) (C : List xz_Op) : Nat → List xz_Op → xz_L → List Value → xz_M → xz_Res
  | 0, _, _, _, _ => none
  | _ + 1, [], _, _, _ => none
  | s + 1, (ins, (_, _), (a, b, c, e), v, ts) :: C', L, S, M =>
    match ins with
    | .nop => Lp a (xz_pick L ts) S M
    | .iconst _ => xz_blk R Lp nat X lc C s C' L (.int v :: S) M
    | .bipush _ => xz_blk R Lp nat X lc C s C' L (.int v :: S) M
    | .sipush _ => xz_blk R Lp nat X lc C s C' L (.int v :: S) M
    | .ldc _ => bif b == 1 then xz_blk R Lp nat X lc C s C' L (.ref (2000 + a) :: S) M else xz_blk R Lp nat X lc C s C' L (.int v :: S) M
    | .ldc_w _ => xz_blk R Lp nat X lc C s C' L (.int v :: S) M
    | .lconst _ => xz_blk R Lp nat X lc C s C' L (.long (lc a) :: S) M
    | .ldc2_w _ => xz_blk R Lp nat X lc C s C' L (.long (lc a) :: S) M
    | .iload_n k => xz_lI L k.val fun x => xz_blk R Lp nat X lc C s C' L (.int x :: S) M
    | .iload i => xz_lI L i fun x => xz_blk R Lp nat X lc C s C' L (.int x :: S) M
    | .lload_n k => xz_lJ L k.val fun x => xz_blk R Lp nat X lc C s C' L (.long x :: S) M
    | .lload i => xz_lJ L i fun x => xz_blk R Lp nat X lc C s C' L (.long x :: S) M
    | .aload_n k => xz_lR L k.val fun x => xz_blk R Lp nat X lc C s C' L (.ref x :: S) M
    | .aload i => xz_lR L i fun x => xz_blk R Lp nat X lc C s C' L (.ref x :: S) M
    | .istore_n k => xz_pI S fun x S => xz_blk R Lp nat X lc C s C' (xz_s1 L k.val (.int x)) S M
    | .istore i => xz_pI S fun x S => xz_blk R Lp nat X lc C s C' (xz_s1 L i (.int x)) S M
    | .lstore_n k => xz_pJ S fun x S => xz_blk R Lp nat X lc C s C' (xz_s2 L k.val (.long x)) S M
    | .lstore i => xz_pJ S fun x S => xz_blk R Lp nat X lc C s C' (xz_s2 L i (.long x)) S M
    | .astore_n k => xz_pR S fun x S => xz_blk R Lp nat X lc C s C' (xz_s1 L k.val (.ref x)) S M
    | .astore i => xz_pR S fun x S => xz_blk R Lp nat X lc C s C' (xz_s1 L i (.ref x)) S M
    | .iinc i _ => xz_lI L i fun x => xz_blk R Lp nat X lc C s C' (xz_s1 L i (.int (x + v))) S M
    | .iadd => xz_pI S fun y S => xz_pI S fun x S => xz_blk R Lp nat X lc C s C' L (.int (x + y) :: S) M
    | .isub => xz_pI S fun y S => xz_pI S fun x S => xz_blk R Lp nat X lc C s C' L (.int (x - y) :: S) M
    | .imul => xz_pI S fun y S => xz_pI S fun x S => xz_blk R Lp nat X lc C s C' L (.int (x * y) :: S) M
    | .iand => xz_pI S fun y S => xz_pI S fun x S => xz_blk R Lp nat X lc C s C' L (.int (x &&& y) :: S) M
    | .ior => xz_pI S fun y S => xz_pI S fun x S => xz_blk R Lp nat X lc C s C' L (.int (x ||| y) :: S) M
    | .ishl => xz_pI S fun y S => xz_pI S fun x S => xz_blk R Lp nat X lc C s C' L (.int (x <<< (y &&& 31)) :: S) M
    | .ishr => xz_pI S fun y S => xz_pI S fun x S => xz_blk R Lp nat X lc C s C' L (.int (x >>> (y &&& 31)) :: S) M
    | .iushr => xz_pI S fun y S => xz_pI S fun x S => xz_blk R Lp nat X lc C s C' L (.int (x.toUInt32 >>> (y.toUInt32 &&& Int32.toUInt32 31)).toInt32 :: S) M
    | .ladd => xz_pJ S fun y S => xz_pJ S fun x S => xz_blk R Lp nat X lc C s C' L (.long (x + y) :: S) M
    | .lmul => xz_pJ S fun y S => xz_pJ S fun x S => xz_blk R Lp nat X lc C s C' L (.long (x * y) :: S) M
    | .land => xz_pJ S fun y S => xz_pJ S fun x S => xz_blk R Lp nat X lc C s C' L (.long (x &&& y) :: S) M
    | .lor => xz_pJ S fun y S => xz_pJ S fun x S => xz_blk R Lp nat X lc C s C' L (.long (x ||| y) :: S) M
    | .ldiv => xz_pJ S fun y S => xz_pJ S fun x S => if y = 0 then none else xz_blk R Lp nat X lc C s C' L (.long (x / y) :: S) M
    | .lrem => xz_pJ S fun y S => xz_pJ S fun x S => if y = 0 then none else xz_blk R Lp nat X lc C s C' L (.long (x - x / y * y) :: S) M
    | .lshl => xz_pI S fun y S => xz_pJ S fun x S => xz_blk R Lp nat X lc C s C' L (.long (x <<< (y.toInt64 &&& 63)) :: S) M
    | .lcmp => xz_pJ S fun y S => xz_pJ S fun x S => xz_blk R Lp nat X lc C s C' L (.int (lg_cmp x y) :: S) M
    | .i2l => xz_pI S fun x S => xz_blk R Lp nat X lc C s C' L (.long x.toInt64 :: S) M
    | .l2i => xz_pJ S fun x S => xz_blk R Lp nat X lc C s C' L (.int x.toInt32 :: S) M
    | .i2b => xz_pI S fun x S => xz_blk R Lp nat X lc C s C' L (.int x.toInt8.toInt32 :: S) M
    | .i2s => xz_pI S fun x S => xz_blk R Lp nat X lc C s C' L (.int x.toInt16.toInt32 :: S) M
    | .dup => xz_p1 S fun x S => xz_blk R Lp nat X lc C s C' L (x :: x :: S) M
    | .pop => xz_p1 S fun _ S => xz_blk R Lp nat X lc C s C' L S M
    | .ifCond .eq _ => xz_pI S fun x S => if x = 0 then xz_blk R Lp nat X lc C s (C.drop a) L S M else xz_blk R Lp nat X lc C s C' L S M
    | .ifCond .ne _ => xz_pI S fun x S => if x = 0 then xz_blk R Lp nat X lc C s C' L S M else xz_blk R Lp nat X lc C s (C.drop a) L S M
    | .ifCond .lt _ => xz_pI S fun x S => if x < 0 then xz_blk R Lp nat X lc C s (C.drop a) L S M else xz_blk R Lp nat X lc C s C' L S M
    | .ifCond .ge _ => xz_pI S fun x S => if 0 ≤ x then xz_blk R Lp nat X lc C s (C.drop a) L S M else xz_blk R Lp nat X lc C s C' L S M
    | .ifCond .gt _ => xz_pI S fun x S => if 0 < x then xz_blk R Lp nat X lc C s (C.drop a) L S M else xz_blk R Lp nat X lc C s C' L S M
    | .ifCond .le _ => xz_pI S fun x S => if x ≤ 0 then xz_blk R Lp nat X lc C s (C.drop a) L S M else xz_blk R Lp nat X lc C s C' L S M
    | .if_icmp .eq _ => xz_pI S fun y S => xz_pI S fun x S => if x = y then xz_blk R Lp nat X lc C s (C.drop a) L S M else xz_blk R Lp nat X lc C s C' L S M
    | .if_icmp .ne _ => xz_pI S fun y S => xz_pI S fun x S => if x = y then xz_blk R Lp nat X lc C s C' L S M else xz_blk R Lp nat X lc C s (C.drop a) L S M
    | .if_icmp .lt _ => xz_pI S fun y S => xz_pI S fun x S => if x < y then xz_blk R Lp nat X lc C s (C.drop a) L S M else xz_blk R Lp nat X lc C s C' L S M
    | .if_icmp .ge _ => xz_pI S fun y S => xz_pI S fun x S => if y ≤ x then xz_blk R Lp nat X lc C s (C.drop a) L S M else xz_blk R Lp nat X lc C s C' L S M
    | .if_icmp .gt _ => xz_pI S fun y S => xz_pI S fun x S => if y < x then xz_blk R Lp nat X lc C s (C.drop a) L S M else xz_blk R Lp nat X lc C s C' L S M
    | .if_icmp .le _ => xz_pI S fun y S => xz_pI S fun x S => if x ≤ y then xz_blk R Lp nat X lc C s (C.drop a) L S M else xz_blk R Lp nat X lc C s C' L S M
    | .goto _ => xz_blk R Lp nat X lc C s (C.drop a) L S M
    | .tableswitch _ _ _ _ => xz_pI S fun x S => xz_sw x v a (fun t => xz_blk R Lp nat X lc C s (C.drop t) L S M) ts
    | .ireturn => xz_pI S fun x S => match S with
      | [] => xz_b (xz_nr a x) (some (some (.int x), M))
      | _ => none
    | .lreturn => xz_pJ S fun x S => match S with
      | [] => some (some (.long x), M)
      | _ => none
    | .areturn => xz_pR S fun x S => match S with
      | [] => some (some (.ref x), M)
      | _ => none
    | .return_ => match S with
      | [] => some (none, M)
      | _ => none
    | .getfield _ => xz_pR S fun r S => match c with
      | 0 => xz_o (xz_gI M r a b) fun x => xz_blk R Lp nat X lc C s C' L (.int x :: S) M
      | 1 => xz_o (xz_gJ M r a b) fun x => xz_blk R Lp nat X lc C s C' L (.long x :: S) M
      | 4 => xz_o (xz_sval r) fun x => xz_blk R Lp nat X lc C s C' L (.ref x :: S) M
      | 5 => xz_o (xz_scod r) fun x => xz_blk R Lp nat X lc C s C' L (.int x :: S) M
      | _ => xz_o (xz_gR M r a b) fun x => xz_blk R Lp nat X lc C s C' L (.ref x :: S) M
    | .putfield _ => match c with
      | 0 => xz_pI S fun x S => xz_pR S fun r S => xz_o (xz_wI M r a b x) fun M => xz_blk R Lp nat X lc C s C' L S M
      | 1 => xz_pJ S fun x S => xz_pR S fun r S => xz_o (xz_wJ M r a b x) fun M => xz_blk R Lp nat X lc C s C' L S M
      | 2 => xz_pR S fun x S => xz_pR S fun r S => xz_o (xz_wR M r a b x) fun M => xz_blk R Lp nat X lc C s C' L S M
      | _ => xz_pI S fun x S => xz_pR S fun r S => xz_o (xz_wZ M r a b x) fun M => xz_blk R Lp nat X lc C s C' L S M
    | .iaload => xz_pI S fun i S => xz_pR S fun r S => bif c == 1 then
        xz_o X fun q => xz_b (r == 1000 && xz_in i q.1) (xz_blk R Lp nat X lc C s C' L (.int (q.2 i.toNatClampNeg) :: S) M)
      else xz_o (xz_lI0 M 0 r i) fun x => xz_blk R Lp nat X lc C s C' L (.int x :: S) M
    | .baload => xz_pI S fun i S => xz_pR S fun r S => xz_o (bif c == 1 then xz_sby r i else xz_lI0 M 1 r i) fun x => xz_blk R Lp nat X lc C s C' L (.int x :: S) M
    | .getstatic _ => bif c == 0 then xz_blk R Lp nat X lc C s C' L (.int v :: S) M else xz_blk R Lp nat X lc C s C' L (.retAddr 0 :: S) M
    | .i2c => xz_pI S fun x S => xz_blk R Lp nat X lc C s C' L (.int (x.toUInt32 % 65536).toInt32 :: S) M
    | .laload => xz_pI S fun i S => xz_pR S fun r S => xz_o (xz_lJ0 M r i) fun x => xz_blk R Lp nat X lc C s C' L (.long x :: S) M
    | .aaload => xz_pI S fun i S => xz_pR S fun r S => xz_o (xz_lR0 M r i) fun x => xz_blk R Lp nat X lc C s C' L (.ref x :: S) M
    | .iastore => xz_pI S fun x S => xz_pI S fun i S => xz_pR S fun r S => xz_o (xz_sI0 M r i x) fun M => xz_blk R Lp nat X lc C s C' L S M
    | .bastore => xz_pI S fun x S => xz_pI S fun i S => xz_pR S fun r S => xz_o (xz_sZ0 M r i x) fun M => xz_blk R Lp nat X lc C s C' L S M
    | .lastore => xz_pJ S fun x S => xz_pI S fun i S => xz_pR S fun r S => xz_o (xz_sJ0 M r i x) fun M => xz_blk R Lp nat X lc C s C' L S M
    | .arraylength => xz_pR S fun r S => bif c == 1 then
        xz_o X fun q => xz_b (r == 1000) (xz_blk R Lp nat X lc C s C' L (.int (Int32.ofNat q.1) :: S) M)
      else xz_o (bif c == 2 then xz_sln r else xz_len M r) fun x => xz_blk R Lp nat X lc C s C' L (.int x :: S) M
    | .newarray t => xz_pI S fun n S => xz_o (xz_newA M (xz_aty t) n) fun M' => xz_blk R Lp nat X lc C s C' L (.ref M.1.length :: S) M'
    | .multianewarray _ _ => xz_pI S fun k S => xz_pI S fun n S => xz_o (xz_newM M a n k) fun M' => xz_blk R Lp nat X lc C s C' L (.ref M.1.length :: S) M'
    | .new _ => xz_blk R Lp nat X lc C s C' L (.ref M.1.length :: S) (xz_new M (a + 5, b, List.replicate b none))
    | .invokestatic _ => match c with
      | 99 => none
      | 14 => xz_pJ S fun y S => xz_pJ S fun x S => xz_b (xz_cat S) (xz_blk R Lp nat X lc C s C' L (.long (if y < x then x else y) :: S) M)
      | 10 => xz_pI S fun n S => xz_pI S fun dp S => xz_pR S fun r' S => xz_pI S fun sp S => xz_pR S fun r S => xz_b (xz_cat S) (xz_o (xz_copy M r sp r' dp n) fun M => xz_blk R Lp nat X lc C s C' L S M)
      | _ => xz_args b S fun as S => xz_b (xz_cat S) (xz_ret c (R a as M) fun vs M => xz_blk R Lp nat X lc C s C' L (vs ++ S) M)
    | .invokevirtual _ => xz_args b S fun as S => xz_pR S fun r S => xz_b (xz_cat S && xz_is M r e) (xz_ret c (R a (.ref r :: as) M) fun vs M => xz_blk R Lp nat X lc C s C' L (vs ++ S) M)
    | .invokespecial _ => match c with
      | 13 => xz_pR S fun _ S => xz_b (xz_cat S) (xz_blk R Lp nat X lc C s C' L S M)
      | _ => xz_args b S fun as S => xz_pR S fun r S => xz_b (xz_cat S && xz_is M r e) (xz_ret c (R a (.ref r :: as) M) fun vs M => xz_blk R Lp nat X lc C s C' L (vs ++ S) M)
    | _ => none
end
section
/-! RUNS: by rounds (a loop's turn or a call costs one), and without rounds; what one block says of the run -/
def xz_aw (as : List Value) : Nat := (as.map fun v => v.category).sum
def xz_cal (ml : Nat → Nat) (f : Nat → Nat → xz_X → Nat → xz_L → List Value → xz_M → xz_Res) (d : Nat) : Nat → List Value → xz_M → xz_Res := match d with
  | 0 => fun _ _ _ => none
  | d + 1 => fun y as M => xz_b (Nat.ble (xz_aw as) (ml y)) (f d y none 0 (lv_args 0 as) [] M)
def xz_run (cd : Nat → List xz_Op) (lc : Nat → Int64) (ml : Nat → Nat) : Nat → Nat → Nat → xz_X → Nat → xz_L → List Value → xz_M → xz_Res
  | 0, _, _, _, _, _, _, _ => none
  | n + 1, d, y, X, k, L, S, M => xz_blk (xz_cal ml (xz_run cd lc ml n) d) (fun k L S M => xz_run cd lc ml n d y X k L S M) true X lc (cd y) 400 ((cd y).drop k) L S M
def xz_Cn (F : Nat → xz_Res) (G : xz_Res) : Prop := ∀ r, G = some r → ∃ n0, ∀ n, n0 ≤ n → F n = some r
theorem xz_Cn_none (F : Nat → xz_Res) : xz_Cn F none := fun _ h => by cases h
theorem xz_Cn_k (G : xz_Res) : xz_Cn (fun _ => G) G := fun _ h => ⟨0, fun _ _ => h⟩
theorem xz_Cn_pI {S : List Value} {F : Nat → Int32 → List Value → xz_Res} {G : Int32 → List Value → xz_Res} (h : ∀ x S, xz_Cn (fun n => F n x S) (G x S)) : xz_Cn (fun n => xz_pI S (F n)) (xz_pI S G) := by
  unfold xz_pI; split
  · exact h _ _
  · exact xz_Cn_none _
theorem xz_Cn_pJ {S : List Value} {F : Nat → Int64 → List Value → xz_Res} {G : Int64 → List Value → xz_Res} (h : ∀ x S, xz_Cn (fun n => F n x S) (G x S)) : xz_Cn (fun n => xz_pJ S (F n)) (xz_pJ S G) := by
  unfold xz_pJ; split
  · exact h _ _
  · exact xz_Cn_none _
theorem xz_Cn_pR {S : List Value} {F : Nat → Nat → List Value → xz_Res} {G : Nat → List Value → xz_Res} (h : ∀ x S, xz_Cn (fun n => F n x S) (G x S)) : xz_Cn (fun n => xz_pR S (F n)) (xz_pR S G) := by
  unfold xz_pR; split
  · exact h _ _
  · exact xz_Cn_none _
theorem xz_Cn_p1 {S : List Value} {F : Nat → Value → List Value → xz_Res} {G : Value → List Value → xz_Res} (h : ∀ x S, xz_Cn (fun n => F n x S) (G x S)) : xz_Cn (fun n => xz_p1 S (F n)) (xz_p1 S G) := by
  unfold xz_p1; split
  · exact h _ _
  · exact h _ _
  · exact xz_Cn_none _
theorem xz_Cn_lI {L : xz_L} {i : Nat} {F : Nat → Int32 → xz_Res} {G : Int32 → xz_Res} (h : ∀ x, xz_Cn (fun n => F n x) (G x)) : xz_Cn (fun n => xz_lI L i (F n)) (xz_lI L i G) := by
  unfold xz_lI; split
  · exact h _
  · exact xz_Cn_none _
theorem xz_Cn_lJ {L : xz_L} {i : Nat} {F : Nat → Int64 → xz_Res} {G : Int64 → xz_Res} (h : ∀ x, xz_Cn (fun n => F n x) (G x)) : xz_Cn (fun n => xz_lJ L i (F n)) (xz_lJ L i G) := by
  unfold xz_lJ; split
  · exact h _
  · exact xz_Cn_none _
theorem xz_Cn_lR {L : xz_L} {i : Nat} {F : Nat → Nat → xz_Res} {G : Nat → xz_Res} (h : ∀ x, xz_Cn (fun n => F n x) (G x)) : xz_Cn (fun n => xz_lR L i (F n)) (xz_lR L i G) := by
  unfold xz_lR; split
  · exact h _
  · exact xz_Cn_none _
theorem xz_Cn_o {α : Type} {o : Option α} {F : Nat → α → xz_Res} {G : α → xz_Res} (h : ∀ x, xz_Cn (fun n => F n x) (G x)) : xz_Cn (fun n => xz_o o (F n)) (xz_o o G) := by
  unfold xz_o; split
  · exact h _
  · exact xz_Cn_none _
theorem xz_Cn_b {c : Bool} {F : Nat → xz_Res} {G : xz_Res} (h : xz_Cn F G) : xz_Cn (fun n => xz_b c (F n)) (xz_b c G) := by
  unfold xz_b; split
  · exact h
  · exact xz_Cn_none _
theorem xz_Cn_if {c : Prop} [Decidable c] {F F' : Nat → xz_Res} {G G' : xz_Res} (h : xz_Cn F G) (h' : xz_Cn F' G') : xz_Cn (fun n => if c then F n else F' n) (if c then G else G') := by
  split
  · exact h
  · exact h'
theorem xz_Cn_c {c : Bool} {F F' : Nat → xz_Res} {G G' : xz_Res} (h : xz_Cn F G) (h' : xz_Cn F' G') : xz_Cn (fun n => bif c then F n else F' n) (bif c then G else G') := by
  cases c
  · exact h'
  · exact h
theorem xz_Cn_args {b : Nat} {S : List Value} {F : Nat → List Value → List Value → xz_Res} {G : List Value → List Value → xz_Res} (h : ∀ x S, xz_Cn (fun n => F n x S) (G x S)) : xz_Cn (fun n => xz_args b S (F n)) (xz_args b S G) := by
  unfold xz_args
  exact xz_Cn_c (h _ _) (xz_Cn_none _)
theorem xz_Cn_bind {F : Nat → xz_Res} {G : xz_Res} {f : Nat → xz_Res → xz_Res} {g : xz_Res → xz_Res} (hn : g none = none) (h : xz_Cn F G) (hf : ∀ o, xz_Cn (fun n => f n o) (g o)) : xz_Cn (fun n => f n (F n)) (g G) := by
  intro r hr
  cases hG : G with
  | none => rw [hG, hn] at hr; cases hr
  | some q =>
    obtain ⟨n1, h1⟩ := h q hG
    obtain ⟨n2, h2⟩ := hf G r hr
    refine ⟨max n1 n2, fun n hh => ?_⟩
    show f n (F n) = some r
    rw [h1 n (by omega), ← hG]
    exact h2 n (by omega)
theorem xz_Cn_bI {o : xz_Res} {F : Nat → Int32 → xz_M → xz_Res} {G : Int32 → xz_M → xz_Res} (h : ∀ x S, xz_Cn (fun n => F n x S) (G x S)) : xz_Cn (fun n => xz_bI o (F n)) (xz_bI o G) := by
  unfold xz_bI; split
  · exact h _ _
  · exact xz_Cn_none _
theorem xz_Cn_bJ {o : xz_Res} {F : Nat → Int64 → xz_M → xz_Res} {G : Int64 → xz_M → xz_Res} (h : ∀ x S, xz_Cn (fun n => F n x S) (G x S)) : xz_Cn (fun n => xz_bJ o (F n)) (xz_bJ o G) := by
  unfold xz_bJ; split
  · exact h _ _
  · exact xz_Cn_none _
theorem xz_Cn_bR {o : xz_Res} {F : Nat → Nat → xz_M → xz_Res} {G : Nat → xz_M → xz_Res} (h : ∀ x S, xz_Cn (fun n => F n x S) (G x S)) : xz_Cn (fun n => xz_bR o (F n)) (xz_bR o G) := by
  unfold xz_bR; split
  · exact h _ _
  · exact xz_Cn_none _
theorem xz_Cn_bV {o : xz_Res} {F : Nat → xz_M → xz_Res} {G : xz_M → xz_Res} (h : ∀ S, xz_Cn (fun n => F n S) (G S)) : xz_Cn (fun n => xz_bV o (F n)) (xz_bV o G) := by
  unfold xz_bV; split
  · exact h _
  · exact xz_Cn_none _
theorem xz_ret_none (c : Nat) (k : List Value → xz_M → xz_Res) : xz_ret c none k = none := by
  match c with
  | 0 => rfl
  | 1 => rfl
  | 2 => rfl
  | _ + 3 => rfl
theorem xz_Cn_ret {c : Nat} {F : Nat → xz_Res} {G : xz_Res} {f : Nat → List Value → xz_M → xz_Res} {g : List Value → xz_M → xz_Res} (h : xz_Cn F G) (hf : ∀ vs M, xz_Cn (fun n => f n vs M) (g vs M)) : xz_Cn (fun n => xz_ret c (F n) (f n)) (xz_ret c G g) := by
  refine xz_Cn_bind (f := fun n o => xz_ret c o (f n)) (g := fun o => xz_ret c o g) (xz_ret_none c g) h (fun o => ?_)
  match c with
  | 0 => exact xz_Cn_bI fun _ _ => hf _ _
  | 1 => exact xz_Cn_bJ fun _ _ => hf _ _
  | 2 => exact xz_Cn_bR fun _ _ => hf _ _
  | _ + 3 => exact xz_Cn_bV fun _ => hf _ _
theorem xz_Cn_sw {d : Nat} {F : Nat → Nat → xz_Res} {G : Nat → xz_Res} (h : ∀ t, xz_Cn (fun n => F n t) (G t)) : ∀ (ts : List Nat) (x lo : Int32), xz_Cn (fun n => xz_sw x lo d (F n) ts) (xz_sw x lo d G ts)
  | [], _, _ => h d
  | t :: ts, x, lo => by
    unfold xz_sw
    exact xz_Cn_if (h t) (xz_Cn_sw h ts x (lo + 1))
set_option maxHeartbeats 4000000 in
set_option maxRecDepth 100000 in
theorem xz_Cn_blk {R : Nat → Nat → List Value → xz_M → xz_Res} {R' : Nat → List Value → xz_M → xz_Res} {Lp : Nat → Nat → xz_L → List Value → xz_M → xz_Res} {Lp' : Nat → xz_L → List Value → xz_M → xz_Res}
    (hR : ∀ y as M, xz_Cn (fun n => R n y as M) (R' y as M)) (hL : ∀ k L S M, xz_Cn (fun n => Lp n k L S M) (Lp' k L S M)) (nat : Bool) (X : xz_X) (lc : Nat → Int64) (C : List xz_Op) :
    ∀ (s : Nat) (C' : List xz_Op) (L : xz_L) (S : List Value) (M : xz_M), xz_Cn (fun n => xz_blk (R n) (Lp n) nat X lc C s C' L S M) (xz_blk R' Lp' nat X lc C s C' L S M) := by
  intro s
  induction s with
  | zero => intro C' L S M; exact xz_Cn_none _
  | succ s ih =>
    intro C' L S M
    match C' with
    | [] => exact xz_Cn_none _
    | (ins, (_, _), (a, b, c, e), v, ts) :: C' =>
      cases ins
      case nop => exact hL _ _ _ _
      case dup => unfold xz_blk; exact xz_Cn_p1 (F := fun n x S => xz_blk (R n) (Lp n) nat X lc C s C' L (x :: x :: S) M) (G := fun x S => xz_blk R' Lp' nat X lc C s C' L (x :: x :: S) M) fun _ _ => ih _ _ _ _
      case pop => unfold xz_blk; exact xz_Cn_p1 (F := fun n _ S => xz_blk (R n) (Lp n) nat X lc C s C' L S M) (G := fun _ S => xz_blk R' Lp' nat X lc C s C' L S M) fun _ _ => ih _ _ _ _
      case ifCond q _ => cases q <;> exact xz_Cn_pI fun _ _ => xz_Cn_if (ih _ _ _ _) (ih _ _ _ _)
      case if_icmp q _ => cases q <;> exact xz_Cn_pI fun _ _ => xz_Cn_pI fun _ _ => xz_Cn_if (ih _ _ _ _) (ih _ _ _ _)
      case getfield => 
        match c with
        | 0 => exact xz_Cn_pR fun _ _ => xz_Cn_o fun _ => ih _ _ _ _
        | 1 => exact xz_Cn_pR fun _ _ => xz_Cn_o fun _ => ih _ _ _ _
        | 2 => exact xz_Cn_pR fun _ _ => xz_Cn_o fun _ => ih _ _ _ _
        | 3 => exact xz_Cn_pR fun _ _ => xz_Cn_o fun _ => ih _ _ _ _
        | 4 => exact xz_Cn_pR fun _ _ => xz_Cn_o fun _ => ih _ _ _ _
        | 5 => exact xz_Cn_pR fun _ _ => xz_Cn_o fun _ => ih _ _ _ _
        | _ + 6 => exact xz_Cn_pR fun _ _ => xz_Cn_o fun _ => ih _ _ _ _
      case getstatic => exact xz_Cn_c (ih _ _ _ _) (ih _ _ _ _)
      case putfield => 
        match c with
        | 0 => exact xz_Cn_pI fun _ _ => xz_Cn_pR fun _ _ => xz_Cn_o fun _ => ih _ _ _ _
        | 1 => exact xz_Cn_pJ fun _ _ => xz_Cn_pR fun _ _ => xz_Cn_o fun _ => ih _ _ _ _
        | 2 => exact xz_Cn_pR fun _ _ => xz_Cn_pR fun _ _ => xz_Cn_o fun _ => ih _ _ _ _
        | _ + 3 => exact xz_Cn_pI fun _ _ => xz_Cn_pR fun _ _ => xz_Cn_o fun _ => ih _ _ _ _
      case tableswitch => exact xz_Cn_pI fun _ _ => xz_Cn_sw (fun t => ih _ _ _ _) _ _ _
      case ireturn => exact xz_Cn_k _
      case lreturn => exact xz_Cn_k _
      case areturn => exact xz_Cn_k _
      case return_ => exact xz_Cn_k _
      case invokestatic =>
        unfold xz_blk
        dsimp only
        split
        · exact xz_Cn_none _
        · exact xz_Cn_pJ fun _ _ => xz_Cn_pJ fun _ _ => xz_Cn_b (ih _ _ _ _)
        · exact xz_Cn_pI fun _ _ => xz_Cn_pI fun _ _ => xz_Cn_pR fun _ _ => xz_Cn_pI fun _ _ => xz_Cn_pR fun _ _ => xz_Cn_b (xz_Cn_o fun _ => ih _ _ _ _)
        · exact xz_Cn_args fun _ _ => xz_Cn_b (xz_Cn_ret (hR _ _ _) fun _ _ => ih _ _ _ _)
      case invokevirtual =>
        unfold xz_blk
        dsimp only
        exact xz_Cn_args fun _ _ => xz_Cn_pR fun _ _ => xz_Cn_b (xz_Cn_ret (hR _ _ _) fun _ _ => ih _ _ _ _)
      case invokespecial =>
        unfold xz_blk
        dsimp only
        split
        · exact xz_Cn_pR fun _ _ => xz_Cn_b (ih _ _ _ _)
        · exact xz_Cn_args fun _ _ => xz_Cn_pR fun _ _ => xz_Cn_b (xz_Cn_ret (hR _ _ _) fun _ _ => ih _ _ _ _)
      case iaload =>
        exact xz_Cn_pI fun _ _ => xz_Cn_pR fun _ _ => xz_Cn_c (xz_Cn_o fun _ => xz_Cn_b (ih _ _ _ _)) (xz_Cn_o fun _ => ih _ _ _ _)
      case arraylength =>
        exact xz_Cn_pR fun _ _ => xz_Cn_c (xz_Cn_o fun _ => xz_Cn_b (ih _ _ _ _)) (xz_Cn_o fun _ => ih _ _ _ _)
      case ldc => exact xz_Cn_c (ih _ _ _ _) (ih _ _ _ _)
      case ldiv => exact xz_Cn_pJ fun _ _ => xz_Cn_pJ fun _ _ => xz_Cn_if (xz_Cn_none _) (ih _ _ _ _)
      case lrem => exact xz_Cn_pJ fun _ _ => xz_Cn_pJ fun _ _ => xz_Cn_if (xz_Cn_none _) (ih _ _ _ _)
      all_goals first
        | exact xz_Cn_none _
        | exact ih _ _ _ _
        | exact xz_Cn_lI fun _ => ih _ _ _ _
        | exact xz_Cn_lJ fun _ => ih _ _ _ _
        | exact xz_Cn_lR fun _ => ih _ _ _ _
        | exact xz_Cn_pI fun _ _ => ih _ _ _ _
        | exact xz_Cn_pJ fun _ _ => ih _ _ _ _
        | exact xz_Cn_pR fun _ _ => ih _ _ _ _
        | exact xz_Cn_p1 fun _ _ => ih _ _ _ _
        | exact xz_Cn_pI fun _ _ => xz_Cn_pI fun _ _ => ih _ _ _ _
        | exact xz_Cn_pJ fun _ _ => xz_Cn_pJ fun _ _ => ih _ _ _ _
        | exact xz_Cn_pI fun _ _ => xz_Cn_pJ fun _ _ => ih _ _ _ _
        | exact xz_Cn_pI fun _ _ => xz_Cn_pR fun _ _ => xz_Cn_o fun _ => ih _ _ _ _
        | exact xz_Cn_pI fun _ _ => xz_Cn_o fun _ => ih _ _ _ _
        | exact xz_Cn_pI fun _ _ => xz_Cn_pI fun _ _ => xz_Cn_o fun _ => ih _ _ _ _
        | exact xz_Cn_pI fun _ _ => xz_Cn_pI fun _ _ => xz_Cn_pR fun _ _ => xz_Cn_o fun _ => ih _ _ _ _
        | exact xz_Cn_pJ fun _ _ => xz_Cn_pI fun _ _ => xz_Cn_pR fun _ _ => xz_Cn_o fun _ => ih _ _ _ _
/-- a run's answer, without rounds -/
def xz_Runs (cd : Nat → List xz_Op) (lc : Nat → Int64) (ml : Nat → Nat) (d y : Nat) (X : xz_X) (k : Nat) (L : xz_L) (S : List Value) (M : xz_M) (r : Option Value × xz_M) : Prop := ∃ n0, ∀ n, n0 ≤ n → xz_run cd lc ml n d y X k L S M = some r
theorem xz_Runs.uniq {cd : Nat → List xz_Op} {lc : Nat → Int64} {ml : Nat → Nat} {d y : Nat} {X : xz_X} {k : Nat} {L : xz_L} {S : List Value} {M : xz_M} {r r' : Option Value × xz_M} (h : xz_Runs cd lc ml d y X k L S M r) (h' : xz_Runs cd lc ml d y X k L S M r') : r = r' := by
  obtain ⟨n1, h1⟩ := h
  obtain ⟨n2, h2⟩ := h'
  have a := h1 (max n1 n2) (by omega)
  have b := h2 (max n1 n2) (by omega)
  exact Option.some.inj (a.symm.trans b)
noncomputable def xz_Run (cd : Nat → List xz_Op) (lc : Nat → Int64) (ml : Nat → Nat) (d y : Nat) (X : xz_X) (k : Nat) (L : xz_L) (S : List Value) (M : xz_M) : xz_Res :=
  haveI := Classical.propDecidable (∃ r, xz_Runs cd lc ml d y X k L S M r)
  if h : ∃ r, xz_Runs cd lc ml d y X k L S M r then some h.choose else none
theorem xz_Run_runs {cd : Nat → List xz_Op} {lc : Nat → Int64} {ml : Nat → Nat} {d y : Nat} {X : xz_X} {k : Nat} {L : xz_L} {S : List Value} {M : xz_M} {r : Option Value × xz_M} (h : xz_Run cd lc ml d y X k L S M = some r) : xz_Runs cd lc ml d y X k L S M r := by
  unfold xz_Run at h
  split at h
  · rename_i h0
    cases h
    exact h0.choose_spec
  · cases h
theorem xz_Run_in {cd : Nat → List xz_Op} {lc : Nat → Int64} {ml : Nat → Nat} {d y : Nat} {X : xz_X} {k : Nat} {L : xz_L} {S : List Value} {M : xz_M} {r : Option Value × xz_M} (h : xz_Runs cd lc ml d y X k L S M r) : xz_Run cd lc ml d y X k L S M = some r := by
  unfold xz_Run
  have h0 : ∃ r, xz_Runs cd lc ml d y X k L S M r := ⟨r, h⟩
  rw [dif_pos h0]
  exact congrArg some (h0.choose_spec.uniq h)
theorem xz_Run_of {cd : Nat → List xz_Op} {lc : Nat → Int64} {ml : Nat → Nat} {d y : Nat} {X : xz_X} {k : Nat} {L : xz_L} {S : List Value} {M : xz_M} {r : Option Value × xz_M}
    (h : xz_blk (xz_cal ml (xz_Run cd lc ml) d) (fun k L S M => xz_Run cd lc ml d y X k L S M) true X lc (cd y) 400 ((cd y).drop k) L S M = some r) : xz_Run cd lc ml d y X k L S M = some r := by
  have key : ∀ (d y : Nat) (X : xz_X) (k : Nat) (L : xz_L) (S : List Value) (M : xz_M), xz_Cn (fun n => xz_run cd lc ml n d y X k L S M) (xz_Run cd lc ml d y X k L S M) := fun d y X k L S M r hr => xz_Run_runs hr
  obtain ⟨n0, h0⟩ := xz_Cn_blk (R := fun n => xz_cal ml (xz_run cd lc ml n) d) (R' := xz_cal ml (xz_Run cd lc ml) d) (Lp := fun n k L S M => xz_run cd lc ml n d y X k L S M) (Lp' := fun k L S M => xz_Run cd lc ml d y X k L S M)
    (fun y as M => by
      cases d with
      | zero => exact xz_Cn_none _
      | succ d => exact xz_Cn_b (key d y none 0 (lv_args 0 as) [] M)) (fun k L S M => key d y X k L S M) true X lc (cd y) 400 ((cd y).drop k) L S M r h
  refine xz_Run_in ⟨n0 + 1, fun n hn => ?_⟩
  obtain ⟨n', rfl⟩ : ∃ n', n = n' + 1 := ⟨n - 1, by omega⟩
  exact h0 n' (by omega)
end
section
/-! THE CODE, resolved: by program out of the printed names (wip/whole/emit.py) -/
abbrev q_La_law : Nat := 0
abbrev q_Me_add : Nat := 1
abbrev q_Me_become : Nat := 2
abbrev q_Me_change : Nat := 3
abbrev q_Me_hasCome : Nat := 4
abbrev q_Me_howManyAhead : Nat := 5
abbrev q_Me_init : Nat := 6
abbrev q_Me_isThere : Nat := 7
abbrev q_Me_left : Nat := 8
abbrev q_Me_other : Nat := 9
abbrev q_Me_refusal : Nat := 10
abbrev q_Me_remove : Nat := 11
abbrev q_Me_removeAllOf : Nat := 12
abbrev q_Me_taker : Nat := 13
abbrev q_Re_fill : Nat := 14
abbrev q_Re_fillWithout : Nat := 15
abbrev q_Re_give : Nat := 16
abbrev q_Re_handOn : Nat := 17
abbrev q_Re_howManyAhead : Nat := 18
abbrev q_Re_init : Nat := 19
abbrev q_Re_of : Nat := 20
abbrev q_Ro_add : Nat := 21
abbrev q_Ro_become : Nat := 22
abbrev q_Ro_clear : Nat := 23
abbrev q_Ro_init : Nat := 24
abbrev q_Se_become : Nat := 25
abbrev q_Se_init : Nat := 26
abbrev q_Se_isPair : Nat := 27
abbrev q_Se_isPerson : Nat := 28
abbrev q_Se_startAnew : Nat := 29
abbrev q_Se_undergo : Nat := 30
abbrev q_Ta_become : Nat := 31
abbrev q_Ta_cutTo : Nat := 32
abbrev q_Ta_hasPlace : Nat := 33
abbrev q_Ta_hasRun : Nat := 34
abbrev q_Ta_holds : Nat := 35
abbrev q_Ta_init : Nat := 36
abbrev q_Ta_isTape : Nat := 37
abbrev q_Ta_put : Nat := 38
abbrev q_Te_add : Nat := 39
abbrev q_Te_empty : Nat := 40
abbrev q_Te_init : Nat := 41
abbrev q_Te_isDigit : Nat := 42
abbrev q_Te_isLetter : Nat := 43
abbrev q_Te_isSpelt : Nat := 44
abbrev q_Te_number : Nat := 45
abbrev q_Te_parse : Nat := 46
abbrev q_Te_sign : Nat := 47
abbrev q_Te_spelling : Nat := 48
abbrev q_Te_takeClause : Nat := 49
abbrev q_Te_takeNumber : Nat := 50
abbrev q_Te_widths : Nat := 51
abbrev q_Te_word : Nat := 52
abbrev q_Te_wordHere : Nat := 53
abbrev q_Wa_goOn : Nat := 54
abbrev q_Wa_init : Nat := 55
abbrev q_Wa_isBetter : Nat := 56
abbrev q_Wa_leastBy : Nat := 57
abbrev q_Wa_search : Nat := 58
abbrev q_Wa_take : Nat := 59
abbrev q_HR_after : Nat := 60
abbrev q_HR_agenda : Nat := 61
abbrev q_HR_ask : Nat := 62
abbrev q_HR_between : Nat := 63
abbrev q_HR_book : Nat := 64
abbrev q_HR_by : Nat := 65
abbrev q_HR_commonDivisor : Nat := 66
abbrev q_HR_count : Nat := 67
abbrev q_HR_cut : Nat := 68
abbrev q_HR_cutsAll : Nat := 69
abbrev q_HR_delay : Nat := 70
abbrev q_HR_drop : Nat := 71
abbrev q_HR_event : Nat := 72
abbrev q_HR_eventRefusal : Nat := 73
abbrev q_HR_feed : Nat := 74
abbrev q_HR_fits : Nat := 75
abbrev q_HR_hasBit : Nat := 76
abbrev q_HR_holder : Nat := 77
abbrev q_HR_image : Nat := 78
abbrev q_HR_init : Nat := 79
abbrev q_HR_isAsSeen : Nat := 80
abbrev q_HR_isDelay : Nat := 81
abbrev q_HR_isPart : Nat := 82
abbrev q_HR_isRule : Nat := 83
abbrev q_HR_isSure : Nat := 84
abbrev q_HR_isTime : Nat := 85
abbrev q_HR_item : Nat := 86
abbrev q_HR_judge : Nat := 87
abbrev q_HR_judgeFrom : Nat := 88
abbrev q_HR_latest : Nat := 89
abbrev q_HR_leastCut : Nat := 90
abbrev q_HR_looked : Nat := 91
abbrev q_HR_lowest : Nat := 92
abbrev q_HR_mayCut : Nat := 93
abbrev q_HR_mean : Nat := 94
abbrev q_HR_meet : Nat := 95
abbrev q_HR_meeting : Nat := 96
abbrev q_HR_obey : Nat := 97
abbrev q_HR_odds : Nat := 98
abbrev q_HR_peek : Nat := 99
abbrev q_HR_people : Nat := 100
abbrev q_HR_points : Nat := 101
abbrev q_HR_rank : Nat := 102
abbrev q_HR_reach : Nat := 103
abbrev q_HR_reached : Nat := 104
abbrev q_HR_read : Nat := 105
abbrev q_HR_refusalOf : Nat := 106
abbrev q_HR_renew : Nat := 107
abbrev q_HR_see : Nat := 108
abbrev q_HR_shift : Nat := 109
abbrev q_HR_sureness : Nat := 110
abbrev q_HR_tape : Nat := 111
abbrev q_HR_told : Nat := 112
abbrev q_HR_undo : Nat := 113
abbrev q_HR_way : Nat := 114
abbrev q_Mo_after : Nat := 115
abbrev q_Mo_agenda : Nat := 116
abbrev q_Mo_areTwo : Nat := 117
abbrev q_Mo_ask : Nat := 118
abbrev q_Mo_between : Nat := 119
abbrev q_Mo_bits : Nat := 120
abbrev q_Mo_book : Nat := 121
abbrev q_Mo_by : Nat := 122
abbrev q_Mo_clauseRead : Nat := 123
abbrev q_Mo_comes : Nat := 124
abbrev q_Mo_count : Nat := 125
abbrev q_Mo_cut : Nat := 126
abbrev q_Mo_delay : Nat := 127
abbrev q_Mo_done : Nat := 128
abbrev q_Mo_drop : Nat := 129
abbrev q_Mo_event : Nat := 130
abbrev q_Mo_feed : Nat := 131
abbrev q_Mo_finds : Nat := 132
abbrev q_Mo_fits : Nat := 133
abbrev q_Mo_goes : Nat := 134
abbrev q_Mo_happens : Nat := 135
abbrev q_Mo_has : Nat := 136
abbrev q_Mo_holder : Nat := 137
abbrev q_Mo_image : Nat := 138
abbrev q_Mo_in : Nat := 139
abbrev q_Mo_init : Nat := 140
abbrev q_Mo_isAsSeen : Nat := 141
abbrev q_Mo_isBetter : Nat := 142
abbrev q_Mo_isPart : Nat := 143
abbrev q_Mo_isPerson : Nat := 144
abbrev q_Mo_isRule : Nat := 145
abbrev q_Mo_isSet : Nat := 146
abbrev q_Mo_isTape : Nat := 147
abbrev q_Mo_isThereOne : Nat := 148
abbrev q_Mo_isTime : Nat := 149
abbrev q_Mo_isWord : Nat := 150
abbrev q_Mo_item : Nat := 151
abbrev q_Mo_judge : Nat := 152
abbrev q_Mo_latest : Nat := 153
abbrev q_Mo_leastCut : Nat := 154
abbrev q_Mo_left : Nat := 155
abbrev q_Mo_looked : Nat := 156
abbrev q_Mo_lowest : Nat := 157
abbrev q_Mo_mayBeIn : Nat := 158
abbrev q_Mo_mean : Nat := 159
abbrev q_Mo_meet : Nat := 160
abbrev q_Mo_meeting : Nat := 161
abbrev q_Mo_numberRead : Nat := 162
abbrev q_Mo_odds : Nat := 163
abbrev q_Mo_otherBy : Nat := 164
abbrev q_Mo_peek : Nat := 165
abbrev q_Mo_people : Nat := 166
abbrev q_Mo_points : Nat := 167
abbrev q_Mo_rank : Nat := 168
abbrev q_Mo_reach : Nat := 169
abbrev q_Mo_reachOf : Nat := 170
abbrev q_Mo_reachedSet : Nat := 171
abbrev q_Mo_read : Nat := 172
abbrev q_Mo_refusal1 : Nat := 173
abbrev q_Mo_refusal2 : Nat := 174
abbrev q_Mo_renew : Nat := 175
abbrev q_Mo_row : Nat := 176
abbrev q_Mo_see : Nat := 177
abbrev q_Mo_shift : Nat := 178
abbrev q_Mo_signAt : Nat := 179
abbrev q_Mo_sureOf : Nat := 180
abbrev q_Mo_sureness : Nat := 181
abbrev q_Mo_tape : Nat := 182
abbrev q_Mo_tellReaches : Nat := 183
abbrev q_Mo_told : Nat := 184
abbrev q_Mo_undo : Nat := 185
abbrev q_Mo_way : Nat := 186
abbrev q_Mo_ways : Nat := 187
abbrev q_Mo_wordRead : Nat := 188
abbrev q_JD_sCharAt : Nat := 189
abbrev q_JD_sCheck : Nat := 190
abbrev q_JD_sCoder : Nat := 191
abbrev q_JD_sLatin : Nat := 192
abbrev q_JD_sLength : Nat := 193
abbrev q_JD_lCharAt : Nat := 194
abbrev q_JD_pCheck : Nat := 195
abbrev q_JD_bitCount : Nat := 196
abbrev q_JD_fillI : Nat := 197
abbrev q_JD_fillJ : Nat := 198
abbrev q_JD_max : Nat := 199
def cd_0 : List xz_Op := [(.new 7, (0, 3), (7, 8, 0, 0), 0, []),
  (.dup, (3, 1), (0, 0, 0, 0), 0, []),
  (.invokespecial 9, (4, 3), (79, 0, 3, 7), 0, []),
  (.astore_n 1, (7, 1), (0, 0, 0, 0), 0, []),
  (.new 10, (8, 3), (8, 51, 0, 0), 0, []),
  (.dup, (11, 1), (0, 0, 0, 0), 0, []),
  (.invokespecial 12, (12, 3), (140, 0, 3, 8), 0, []),
  (.astore_n 2, (15, 1), (0, 0, 0, 0), 0, []),
  (.iconst 0, (16, 1), (0, 0, 0, 0), 0, []),
  (.istore_n 3, (17, 1), (0, 0, 0, 0), 0, []),
  (.nop, (18, 0), (11, 0, 0, 0), 0, [0, 1, 2, 3]),
  (.iload_n 3, (18, 1), (0, 0, 0, 0), 0, []),
  (.aload_n 0, (19, 1), (0, 0, 0, 0), 0, []),
  (.arraylength, (20, 1), (0, 0, 1, 0), 0, []),
  (.bipush 6, (21, 2), (0, 0, 0, 0), 6, []),
  (.isub, (23, 1), (0, 0, 0, 0), 0, []),
  (.if_icmp .gt 1245, (24, 3), (876, 0, 0, 0), 0, []),
  (.aload_n 0, (27, 1), (0, 0, 0, 0), 0, []),
  (.iload_n 3, (28, 1), (0, 0, 0, 0), 0, []),
  (.iaload, (29, 1), (0, 0, 1, 0), 0, []),
  (.bipush 63, (30, 2), (0, 0, 0, 0), 63, []),
  (.iand, (32, 1), (0, 0, 0, 0), 0, []),
  (.tableswitch 1230 0 34 #[155, 178, 231, 254, 297, 330, 353, 396, 419, 432, 465, 498, 532, 555, 578, 601, 624, 657, 680, 703, 762, 785, 809, 833, 866, 889, 922, 935, 968, 981, 994, 1017, 1060, 1133, 1167], (33, 155), (874, 0, 0, 0), 0, [23, 40, 87, 104, 141, 168, 185, 222, 239, 246, 273, 300, 328, 345, 362, 379, 396, 423, 440, 457, 502, 519, 537, 555, 582, 599, 626, 633, 660, 667, 674, 691, 728, 789, 817]),
  (.aload_n 1, (188, 1), (0, 0, 0, 0), 0, []),
  (.aload_n 0, (189, 1), (0, 0, 0, 0), 0, []),
  (.iload_n 3, (190, 1), (0, 0, 0, 0), 0, []),
  (.iconst 1, (191, 1), (0, 0, 0, 0), 1, []),
  (.iadd, (192, 1), (0, 0, 0, 0), 0, []),
  (.iaload, (193, 1), (0, 0, 1, 0), 0, []),
  (.invokevirtual 13, (194, 3), (100, 1, 0, 7), 0, []),
  (.aload_n 2, (197, 1), (0, 0, 0, 0), 0, []),
  (.aload_n 0, (198, 1), (0, 0, 0, 0), 0, []),
  (.iload_n 3, (199, 1), (0, 0, 0, 0), 0, []),
  (.iconst 1, (200, 1), (0, 0, 0, 0), 1, []),
  (.iadd, (201, 1), (0, 0, 0, 0), 0, []),
  (.iaload, (202, 1), (0, 0, 1, 0), 0, []),
  (.invokevirtual 17, (203, 3), (166, 1, 0, 8), 0, []),
  (.if_icmp .eq 1057, (206, 3), (874, 0, 0, 0), 0, []),
  (.iconst 0, (209, 1), (0, 0, 0, 0), 0, []),
  (.ireturn, (210, 1), (1, 0, 0, 0), 0, []),
  (.aload_n 1, (211, 1), (0, 0, 0, 0), 0, []),
  (.aload_n 0, (212, 1), (0, 0, 0, 0), 0, []),
  (.iload_n 3, (213, 1), (0, 0, 0, 0), 0, []),
  (.iconst 1, (214, 1), (0, 0, 0, 0), 1, []),
  (.iadd, (215, 1), (0, 0, 0, 0), 0, []),
  (.iaload, (216, 1), (0, 0, 1, 0), 0, []),
  (.aload_n 0, (217, 1), (0, 0, 0, 0), 0, []),
  (.iload_n 3, (218, 1), (0, 0, 0, 0), 0, []),
  (.iconst 2, (219, 1), (0, 0, 0, 0), 2, []),
  (.iadd, (220, 1), (0, 0, 0, 0), 0, []),
  (.iaload, (221, 1), (0, 0, 1, 0), 0, []),
  (.aload_n 0, (222, 1), (0, 0, 0, 0), 0, []),
  (.iload_n 3, (223, 1), (0, 0, 0, 0), 0, []),
  (.iconst 3, (224, 1), (0, 0, 0, 0), 3, []),
  (.iadd, (225, 1), (0, 0, 0, 0), 0, []),
  (.iaload, (226, 1), (0, 0, 1, 0), 0, []),
  (.aload_n 0, (227, 1), (0, 0, 0, 0), 0, []),
  (.iload_n 3, (228, 1), (0, 0, 0, 0), 0, []),
  (.iconst 4, (229, 1), (0, 0, 0, 0), 4, []),
  (.iadd, (230, 1), (0, 0, 0, 0), 0, []),
  (.iaload, (231, 1), (0, 0, 1, 0), 0, []),
  (.invokevirtual 18, (232, 3), (95, 4, 0, 7), 0, []),
  (.aload_n 2, (235, 1), (0, 0, 0, 0), 0, []),
  (.aload_n 0, (236, 1), (0, 0, 0, 0), 0, []),
  (.iload_n 3, (237, 1), (0, 0, 0, 0), 0, []),
  (.iconst 1, (238, 1), (0, 0, 0, 0), 1, []),
  (.iadd, (239, 1), (0, 0, 0, 0), 0, []),
  (.iaload, (240, 1), (0, 0, 1, 0), 0, []),
  (.aload_n 0, (241, 1), (0, 0, 0, 0), 0, []),
  (.iload_n 3, (242, 1), (0, 0, 0, 0), 0, []),
  (.iconst 2, (243, 1), (0, 0, 0, 0), 2, []),
  (.iadd, (244, 1), (0, 0, 0, 0), 0, []),
  (.iaload, (245, 1), (0, 0, 1, 0), 0, []),
  (.aload_n 0, (246, 1), (0, 0, 0, 0), 0, []),
  (.iload_n 3, (247, 1), (0, 0, 0, 0), 0, []),
  (.iconst 3, (248, 1), (0, 0, 0, 0), 3, []),
  (.iadd, (249, 1), (0, 0, 0, 0), 0, []),
  (.iaload, (250, 1), (0, 0, 1, 0), 0, []),
  (.aload_n 0, (251, 1), (0, 0, 0, 0), 0, []),
  (.iload_n 3, (252, 1), (0, 0, 0, 0), 0, []),
  (.iconst 4, (253, 1), (0, 0, 0, 0), 4, []),
  (.iadd, (254, 1), (0, 0, 0, 0), 0, []),
  (.iaload, (255, 1), (0, 0, 1, 0), 0, []),
  (.invokevirtual 22, (256, 3), (160, 4, 0, 8), 0, []),
  (.if_icmp .eq 1004, (259, 3), (874, 0, 0, 0), 0, []),
  (.iconst 0, (262, 1), (0, 0, 0, 0), 0, []),
  (.ireturn, (263, 1), (1, 0, 0, 0), 0, []),
  (.aload_n 1, (264, 1), (0, 0, 0, 0), 0, []),
  (.aload_n 0, (265, 1), (0, 0, 0, 0), 0, []),
  (.iload_n 3, (266, 1), (0, 0, 0, 0), 0, []),
  (.iconst 1, (267, 1), (0, 0, 0, 0), 1, []),
  (.iadd, (268, 1), (0, 0, 0, 0), 0, []),
  (.iaload, (269, 1), (0, 0, 1, 0), 0, []),
  (.invokevirtual 23, (270, 3), (71, 1, 0, 7), 0, []),
  (.aload_n 2, (273, 1), (0, 0, 0, 0), 0, []),
  (.aload_n 0, (274, 1), (0, 0, 0, 0), 0, []),
  (.iload_n 3, (275, 1), (0, 0, 0, 0), 0, []),
  (.iconst 1, (276, 1), (0, 0, 0, 0), 1, []),
  (.iadd, (277, 1), (0, 0, 0, 0), 0, []),
  (.iaload, (278, 1), (0, 0, 1, 0), 0, []),
  (.invokevirtual 26, (279, 3), (129, 1, 0, 8), 0, []),
  (.if_icmp .eq 981, (282, 3), (874, 0, 0, 0), 0, []),
  (.iconst 0, (285, 1), (0, 0, 0, 0), 0, []),
  (.ireturn, (286, 1), (1, 0, 0, 0), 0, []),
  (.aload_n 1, (287, 1), (0, 0, 0, 0), 0, []),
  (.aload_n 0, (288, 1), (0, 0, 0, 0), 0, []),
  (.iload_n 3, (289, 1), (0, 0, 0, 0), 0, []),
  (.iconst 1, (290, 1), (0, 0, 0, 0), 1, []),
  (.iadd, (291, 1), (0, 0, 0, 0), 0, []),
  (.iaload, (292, 1), (0, 0, 1, 0), 0, []),
  (.aload_n 0, (293, 1), (0, 0, 0, 0), 0, []),
  (.iload_n 3, (294, 1), (0, 0, 0, 0), 0, []),
  (.iconst 2, (295, 1), (0, 0, 0, 0), 2, []),
  (.iadd, (296, 1), (0, 0, 0, 0), 0, []),
  (.iaload, (297, 1), (0, 0, 1, 0), 0, []),
  (.aload_n 0, (298, 1), (0, 0, 0, 0), 0, []),
  (.iload_n 3, (299, 1), (0, 0, 0, 0), 0, []),
  (.iconst 3, (300, 1), (0, 0, 0, 0), 3, []),
  (.iadd, (301, 1), (0, 0, 0, 0), 0, []),
  (.iaload, (302, 1), (0, 0, 1, 0), 0, []),
  (.invokevirtual 27, (303, 3), (107, 3, 0, 7), 0, []),
  (.aload_n 2, (306, 1), (0, 0, 0, 0), 0, []),
  (.aload_n 0, (307, 1), (0, 0, 0, 0), 0, []),
  (.iload_n 3, (308, 1), (0, 0, 0, 0), 0, []),
  (.iconst 1, (309, 1), (0, 0, 0, 0), 1, []),
  (.iadd, (310, 1), (0, 0, 0, 0), 0, []),
  (.iaload, (311, 1), (0, 0, 1, 0), 0, []),
  (.aload_n 0, (312, 1), (0, 0, 0, 0), 0, []),
  (.iload_n 3, (313, 1), (0, 0, 0, 0), 0, []),
  (.iconst 2, (314, 1), (0, 0, 0, 0), 2, []),
  (.iadd, (315, 1), (0, 0, 0, 0), 0, []),
  (.iaload, (316, 1), (0, 0, 1, 0), 0, []),
  (.aload_n 0, (317, 1), (0, 0, 0, 0), 0, []),
  (.iload_n 3, (318, 1), (0, 0, 0, 0), 0, []),
  (.iconst 3, (319, 1), (0, 0, 0, 0), 3, []),
  (.iadd, (320, 1), (0, 0, 0, 0), 0, []),
  (.iaload, (321, 1), (0, 0, 1, 0), 0, []),
  (.invokevirtual 31, (322, 3), (175, 3, 0, 8), 0, []),
  (.if_icmp .eq 938, (325, 3), (874, 0, 0, 0), 0, []),
  (.iconst 0, (328, 1), (0, 0, 0, 0), 0, []),
  (.ireturn, (329, 1), (1, 0, 0, 0), 0, []),
  (.aload_n 1, (330, 1), (0, 0, 0, 0), 0, []),
  (.aload_n 0, (331, 1), (0, 0, 0, 0), 0, []),
  (.iload_n 3, (332, 1), (0, 0, 0, 0), 0, []),
  (.iconst 1, (333, 1), (0, 0, 0, 0), 1, []),
  (.iadd, (334, 1), (0, 0, 0, 0), 0, []),
  (.iaload, (335, 1), (0, 0, 1, 0), 0, []),
  (.aload_n 0, (336, 1), (0, 0, 0, 0), 0, []),
  (.iload_n 3, (337, 1), (0, 0, 0, 0), 0, []),
  (.iconst 2, (338, 1), (0, 0, 0, 0), 2, []),
  (.iadd, (339, 1), (0, 0, 0, 0), 0, []),
  (.iaload, (340, 1), (0, 0, 1, 0), 0, []),
  (.invokevirtual 32, (341, 3), (96, 2, 0, 7), 0, []),
  (.aload_n 2, (344, 1), (0, 0, 0, 0), 0, []),
  (.aload_n 0, (345, 1), (0, 0, 0, 0), 0, []),
  (.iload_n 3, (346, 1), (0, 0, 0, 0), 0, []),
  (.iconst 1, (347, 1), (0, 0, 0, 0), 1, []),
  (.iadd, (348, 1), (0, 0, 0, 0), 0, []),
  (.iaload, (349, 1), (0, 0, 1, 0), 0, []),
  (.aload_n 0, (350, 1), (0, 0, 0, 0), 0, []),
  (.iload_n 3, (351, 1), (0, 0, 0, 0), 0, []),
  (.iconst 2, (352, 1), (0, 0, 0, 0), 2, []),
  (.iadd, (353, 1), (0, 0, 0, 0), 0, []),
  (.iaload, (354, 1), (0, 0, 1, 0), 0, []),
  (.invokevirtual 36, (355, 3), (161, 2, 0, 8), 0, []),
  (.if_icmp .eq 905, (358, 3), (874, 0, 0, 0), 0, []),
  (.iconst 0, (361, 1), (0, 0, 0, 0), 0, []),
  (.ireturn, (362, 1), (1, 0, 0, 0), 0, []),
  (.aload_n 1, (363, 1), (0, 0, 0, 0), 0, []),
  (.aload_n 0, (364, 1), (0, 0, 0, 0), 0, []),
  (.iload_n 3, (365, 1), (0, 0, 0, 0), 0, []),
  (.iconst 1, (366, 1), (0, 0, 0, 0), 1, []),
  (.iadd, (367, 1), (0, 0, 0, 0), 0, []),
  (.iaload, (368, 1), (0, 0, 1, 0), 0, []),
  (.invokevirtual 37, (369, 3), (70, 1, 0, 7), 0, []),
  (.aload_n 2, (372, 1), (0, 0, 0, 0), 0, []),
  (.aload_n 0, (373, 1), (0, 0, 0, 0), 0, []),
  (.iload_n 3, (374, 1), (0, 0, 0, 0), 0, []),
  (.iconst 1, (375, 1), (0, 0, 0, 0), 1, []),
  (.iadd, (376, 1), (0, 0, 0, 0), 0, []),
  (.iaload, (377, 1), (0, 0, 1, 0), 0, []),
  (.invokevirtual 40, (378, 3), (127, 1, 0, 8), 0, []),
  (.if_icmp .eq 882, (381, 3), (874, 0, 0, 0), 0, []),
  (.iconst 0, (384, 1), (0, 0, 0, 0), 0, []),
  (.ireturn, (385, 1), (1, 0, 0, 0), 0, []),
  (.aload_n 1, (386, 1), (0, 0, 0, 0), 0, []),
  (.aload_n 0, (387, 1), (0, 0, 0, 0), 0, []),
  (.iload_n 3, (388, 1), (0, 0, 0, 0), 0, []),
  (.iconst 1, (389, 1), (0, 0, 0, 0), 1, []),
  (.iadd, (390, 1), (0, 0, 0, 0), 0, []),
  (.iaload, (391, 1), (0, 0, 1, 0), 0, []),
  (.aload_n 0, (392, 1), (0, 0, 0, 0), 0, []),
  (.iload_n 3, (393, 1), (0, 0, 0, 0), 0, []),
  (.iconst 2, (394, 1), (0, 0, 0, 0), 2, []),
  (.iadd, (395, 1), (0, 0, 0, 0), 0, []),
  (.iaload, (396, 1), (0, 0, 1, 0), 0, []),
  (.aload_n 0, (397, 1), (0, 0, 0, 0), 0, []),
  (.iload_n 3, (398, 1), (0, 0, 0, 0), 0, []),
  (.iconst 3, (399, 1), (0, 0, 0, 0), 3, []),
  (.iadd, (400, 1), (0, 0, 0, 0), 0, []),
  (.iaload, (401, 1), (0, 0, 1, 0), 0, []),
  (.invokevirtual 41, (402, 3), (62, 3, 0, 7), 0, []),
  (.aload_n 2, (405, 1), (0, 0, 0, 0), 0, []),
  (.aload_n 0, (406, 1), (0, 0, 0, 0), 0, []),
  (.iload_n 3, (407, 1), (0, 0, 0, 0), 0, []),
  (.iconst 1, (408, 1), (0, 0, 0, 0), 1, []),
  (.iadd, (409, 1), (0, 0, 0, 0), 0, []),
  (.iaload, (410, 1), (0, 0, 1, 0), 0, []),
  (.aload_n 0, (411, 1), (0, 0, 0, 0), 0, []),
  (.iload_n 3, (412, 1), (0, 0, 0, 0), 0, []),
  (.iconst 2, (413, 1), (0, 0, 0, 0), 2, []),
  (.iadd, (414, 1), (0, 0, 0, 0), 0, []),
  (.iaload, (415, 1), (0, 0, 1, 0), 0, []),
  (.aload_n 0, (416, 1), (0, 0, 0, 0), 0, []),
  (.iload_n 3, (417, 1), (0, 0, 0, 0), 0, []),
  (.iconst 3, (418, 1), (0, 0, 0, 0), 3, []),
  (.iadd, (419, 1), (0, 0, 0, 0), 0, []),
  (.iaload, (420, 1), (0, 0, 1, 0), 0, []),
  (.invokevirtual 44, (421, 3), (118, 3, 0, 8), 0, []),
  (.if_icmp .eq 839, (424, 3), (874, 0, 0, 0), 0, []),
  (.iconst 0, (427, 1), (0, 0, 0, 0), 0, []),
  (.ireturn, (428, 1), (1, 0, 0, 0), 0, []),
  (.aload_n 1, (429, 1), (0, 0, 0, 0), 0, []),
  (.aload_n 0, (430, 1), (0, 0, 0, 0), 0, []),
  (.iload_n 3, (431, 1), (0, 0, 0, 0), 0, []),
  (.iconst 1, (432, 1), (0, 0, 0, 0), 1, []),
  (.iadd, (433, 1), (0, 0, 0, 0), 0, []),
  (.iaload, (434, 1), (0, 0, 1, 0), 0, []),
  (.invokevirtual 45, (435, 3), (74, 1, 0, 7), 0, []),
  (.aload_n 2, (438, 1), (0, 0, 0, 0), 0, []),
  (.aload_n 0, (439, 1), (0, 0, 0, 0), 0, []),
  (.iload_n 3, (440, 1), (0, 0, 0, 0), 0, []),
  (.iconst 1, (441, 1), (0, 0, 0, 0), 1, []),
  (.iadd, (442, 1), (0, 0, 0, 0), 0, []),
  (.iaload, (443, 1), (0, 0, 1, 0), 0, []),
  (.invokevirtual 48, (444, 3), (131, 1, 0, 8), 0, []),
  (.if_icmp .eq 816, (447, 3), (874, 0, 0, 0), 0, []),
  (.iconst 0, (450, 1), (0, 0, 0, 0), 0, []),
  (.ireturn, (451, 1), (1, 0, 0, 0), 0, []),
  (.aload_n 1, (452, 1), (0, 0, 0, 0), 0, []),
  (.invokevirtual 49, (453, 3), (105, 0, 0, 7), 0, []),
  (.aload_n 2, (456, 1), (0, 0, 0, 0), 0, []),
  (.invokevirtual 53, (457, 3), (172, 0, 0, 8), 0, []),
  (.if_icmp .eq 803, (460, 3), (874, 0, 0, 0), 0, []),
  (.iconst 0, (463, 1), (0, 0, 0, 0), 0, []),
  (.ireturn, (464, 1), (1, 0, 0, 0), 0, []),
  (.aload_n 1, (465, 1), (0, 0, 0, 0), 0, []),
  (.aload_n 0, (466, 1), (0, 0, 0, 0), 0, []),
  (.iload_n 3, (467, 1), (0, 0, 0, 0), 0, []),
  (.iconst 1, (468, 1), (0, 0, 0, 0), 1, []),
  (.iadd, (469, 1), (0, 0, 0, 0), 0, []),
  (.iaload, (470, 1), (0, 0, 1, 0), 0, []),
  (.aload_n 0, (471, 1), (0, 0, 0, 0), 0, []),
  (.iload_n 3, (472, 1), (0, 0, 0, 0), 0, []),
  (.iconst 2, (473, 1), (0, 0, 0, 0), 2, []),
  (.iadd, (474, 1), (0, 0, 0, 0), 0, []),
  (.iaload, (475, 1), (0, 0, 1, 0), 0, []),
  (.invokevirtual 54, (476, 3), (114, 2, 0, 7), 0, []),
  (.aload_n 2, (479, 1), (0, 0, 0, 0), 0, []),
  (.aload_n 0, (480, 1), (0, 0, 0, 0), 0, []),
  (.iload_n 3, (481, 1), (0, 0, 0, 0), 0, []),
  (.iconst 1, (482, 1), (0, 0, 0, 0), 1, []),
  (.iadd, (483, 1), (0, 0, 0, 0), 0, []),
  (.iaload, (484, 1), (0, 0, 1, 0), 0, []),
  (.aload_n 0, (485, 1), (0, 0, 0, 0), 0, []),
  (.iload_n 3, (486, 1), (0, 0, 0, 0), 0, []),
  (.iconst 2, (487, 1), (0, 0, 0, 0), 2, []),
  (.iadd, (488, 1), (0, 0, 0, 0), 0, []),
  (.iaload, (489, 1), (0, 0, 1, 0), 0, []),
  (.invokevirtual 57, (490, 3), (186, 2, 0, 8), 0, []),
  (.if_icmp .eq 770, (493, 3), (874, 0, 0, 0), 0, []),
  (.iconst 0, (496, 1), (0, 0, 0, 0), 0, []),
  (.ireturn, (497, 1), (1, 0, 0, 0), 0, []),
  (.aload_n 1, (498, 1), (0, 0, 0, 0), 0, []),
  (.aload_n 0, (499, 1), (0, 0, 0, 0), 0, []),
  (.iload_n 3, (500, 1), (0, 0, 0, 0), 0, []),
  (.iconst 1, (501, 1), (0, 0, 0, 0), 1, []),
  (.iadd, (502, 1), (0, 0, 0, 0), 0, []),
  (.iaload, (503, 1), (0, 0, 1, 0), 0, []),
  (.aload_n 0, (504, 1), (0, 0, 0, 0), 0, []),
  (.iload_n 3, (505, 1), (0, 0, 0, 0), 0, []),
  (.iconst 2, (506, 1), (0, 0, 0, 0), 2, []),
  (.iadd, (507, 1), (0, 0, 0, 0), 0, []),
  (.iaload, (508, 1), (0, 0, 1, 0), 0, []),
  (.invokevirtual 58, (509, 3), (77, 2, 0, 7), 0, []),
  (.aload_n 2, (512, 1), (0, 0, 0, 0), 0, []),
  (.aload_n 0, (513, 1), (0, 0, 0, 0), 0, []),
  (.iload_n 3, (514, 1), (0, 0, 0, 0), 0, []),
  (.iconst 1, (515, 1), (0, 0, 0, 0), 1, []),
  (.iadd, (516, 1), (0, 0, 0, 0), 0, []),
  (.iaload, (517, 1), (0, 0, 1, 0), 0, []),
  (.aload_n 0, (518, 1), (0, 0, 0, 0), 0, []),
  (.iload_n 3, (519, 1), (0, 0, 0, 0), 0, []),
  (.iconst 2, (520, 1), (0, 0, 0, 0), 2, []),
  (.iadd, (521, 1), (0, 0, 0, 0), 0, []),
  (.iaload, (522, 1), (0, 0, 1, 0), 0, []),
  (.invokevirtual 61, (523, 3), (137, 2, 0, 8), 0, []),
  (.if_icmp .eq 737, (526, 3), (874, 0, 0, 0), 0, []),
  (.iconst 0, (529, 1), (0, 0, 0, 0), 0, []),
  (.ireturn, (530, 1), (1, 0, 0, 0), 0, []),
  (.aload_n 1, (531, 1), (0, 0, 0, 0), 0, []),
  (.aload_n 0, (532, 1), (0, 0, 0, 0), 0, []),
  (.iload_n 3, (533, 1), (0, 0, 0, 0), 0, []),
  (.iconst 1, (534, 1), (0, 0, 0, 0), 1, []),
  (.iadd, (535, 1), (0, 0, 0, 0), 0, []),
  (.iaload, (536, 1), (0, 0, 1, 0), 0, []),
  (.aload_n 0, (537, 1), (0, 0, 0, 0), 0, []),
  (.iload_n 3, (538, 1), (0, 0, 0, 0), 0, []),
  (.iconst 2, (539, 1), (0, 0, 0, 0), 2, []),
  (.iadd, (540, 1), (0, 0, 0, 0), 0, []),
  (.iaload, (541, 1), (0, 0, 1, 0), 0, []),
  (.invokevirtual 62, (542, 3), (110, 2, 1, 7), 0, []),
  (.aload_n 2, (545, 1), (0, 0, 0, 0), 0, []),
  (.aload_n 0, (546, 1), (0, 0, 0, 0), 0, []),
  (.iload_n 3, (547, 1), (0, 0, 0, 0), 0, []),
  (.iconst 1, (548, 1), (0, 0, 0, 0), 1, []),
  (.iadd, (549, 1), (0, 0, 0, 0), 0, []),
  (.iaload, (550, 1), (0, 0, 1, 0), 0, []),
  (.aload_n 0, (551, 1), (0, 0, 0, 0), 0, []),
  (.iload_n 3, (552, 1), (0, 0, 0, 0), 0, []),
  (.iconst 2, (553, 1), (0, 0, 0, 0), 2, []),
  (.iadd, (554, 1), (0, 0, 0, 0), 0, []),
  (.iaload, (555, 1), (0, 0, 1, 0), 0, []),
  (.invokevirtual 66, (556, 3), (181, 2, 1, 8), 0, []),
  (.lcmp, (559, 1), (0, 0, 0, 0), 0, []),
  (.ifCond .eq 703, (560, 3), (874, 0, 0, 0), 0, []),
  (.iconst 0, (563, 1), (0, 0, 0, 0), 0, []),
  (.ireturn, (564, 1), (1, 0, 0, 0), 0, []),
  (.aload_n 1, (565, 1), (0, 0, 0, 0), 0, []),
  (.aload_n 0, (566, 1), (0, 0, 0, 0), 0, []),
  (.iload_n 3, (567, 1), (0, 0, 0, 0), 0, []),
  (.iconst 1, (568, 1), (0, 0, 0, 0), 1, []),
  (.iadd, (569, 1), (0, 0, 0, 0), 0, []),
  (.iaload, (570, 1), (0, 0, 1, 0), 0, []),
  (.invokevirtual 67, (571, 3), (103, 1, 0, 7), 0, []),
  (.aload_n 2, (574, 1), (0, 0, 0, 0), 0, []),
  (.aload_n 0, (575, 1), (0, 0, 0, 0), 0, []),
  (.iload_n 3, (576, 1), (0, 0, 0, 0), 0, []),
  (.iconst 1, (577, 1), (0, 0, 0, 0), 1, []),
  (.iadd, (578, 1), (0, 0, 0, 0), 0, []),
  (.iaload, (579, 1), (0, 0, 1, 0), 0, []),
  (.invokevirtual 70, (580, 3), (169, 1, 0, 8), 0, []),
  (.if_icmp .eq 680, (583, 3), (874, 0, 0, 0), 0, []),
  (.iconst 0, (586, 1), (0, 0, 0, 0), 0, []),
  (.ireturn, (587, 1), (1, 0, 0, 0), 0, []),
  (.aload_n 1, (588, 1), (0, 0, 0, 0), 0, []),
  (.aload_n 0, (589, 1), (0, 0, 0, 0), 0, []),
  (.iload_n 3, (590, 1), (0, 0, 0, 0), 0, []),
  (.iconst 1, (591, 1), (0, 0, 0, 0), 1, []),
  (.iadd, (592, 1), (0, 0, 0, 0), 0, []),
  (.iaload, (593, 1), (0, 0, 1, 0), 0, []),
  (.invokevirtual 71, (594, 3), (65, 1, 0, 7), 0, []),
  (.aload_n 2, (597, 1), (0, 0, 0, 0), 0, []),
  (.aload_n 0, (598, 1), (0, 0, 0, 0), 0, []),
  (.iload_n 3, (599, 1), (0, 0, 0, 0), 0, []),
  (.iconst 1, (600, 1), (0, 0, 0, 0), 1, []),
  (.iadd, (601, 1), (0, 0, 0, 0), 0, []),
  (.iaload, (602, 1), (0, 0, 1, 0), 0, []),
  (.invokevirtual 74, (603, 3), (122, 1, 0, 8), 0, []),
  (.if_icmp .eq 657, (606, 3), (874, 0, 0, 0), 0, []),
  (.iconst 0, (609, 1), (0, 0, 0, 0), 0, []),
  (.ireturn, (610, 1), (1, 0, 0, 0), 0, []),
  (.aload_n 1, (611, 1), (0, 0, 0, 0), 0, []),
  (.aload_n 0, (612, 1), (0, 0, 0, 0), 0, []),
  (.iload_n 3, (613, 1), (0, 0, 0, 0), 0, []),
  (.iconst 1, (614, 1), (0, 0, 0, 0), 1, []),
  (.iadd, (615, 1), (0, 0, 0, 0), 0, []),
  (.iaload, (616, 1), (0, 0, 1, 0), 0, []),
  (.invokevirtual 75, (617, 3), (61, 1, 0, 7), 0, []),
  (.aload_n 2, (620, 1), (0, 0, 0, 0), 0, []),
  (.aload_n 0, (621, 1), (0, 0, 0, 0), 0, []),
  (.iload_n 3, (622, 1), (0, 0, 0, 0), 0, []),
  (.iconst 1, (623, 1), (0, 0, 0, 0), 1, []),
  (.iadd, (624, 1), (0, 0, 0, 0), 0, []),
  (.iaload, (625, 1), (0, 0, 1, 0), 0, []),
  (.invokevirtual 78, (626, 3), (116, 1, 0, 8), 0, []),
  (.if_icmp .eq 634, (629, 3), (874, 0, 0, 0), 0, []),
  (.iconst 0, (632, 1), (0, 0, 0, 0), 0, []),
  (.ireturn, (633, 1), (1, 0, 0, 0), 0, []),
  (.aload_n 1, (634, 1), (0, 0, 0, 0), 0, []),
  (.aload_n 0, (635, 1), (0, 0, 0, 0), 0, []),
  (.iload_n 3, (636, 1), (0, 0, 0, 0), 0, []),
  (.iconst 1, (637, 1), (0, 0, 0, 0), 1, []),
  (.iadd, (638, 1), (0, 0, 0, 0), 0, []),
  (.iaload, (639, 1), (0, 0, 1, 0), 0, []),
  (.invokevirtual 79, (640, 3), (102, 1, 0, 7), 0, []),
  (.aload_n 2, (643, 1), (0, 0, 0, 0), 0, []),
  (.aload_n 0, (644, 1), (0, 0, 0, 0), 0, []),
  (.iload_n 3, (645, 1), (0, 0, 0, 0), 0, []),
  (.iconst 1, (646, 1), (0, 0, 0, 0), 1, []),
  (.iadd, (647, 1), (0, 0, 0, 0), 0, []),
  (.iaload, (648, 1), (0, 0, 1, 0), 0, []),
  (.invokevirtual 82, (649, 3), (168, 1, 0, 8), 0, []),
  (.if_icmp .eq 611, (652, 3), (874, 0, 0, 0), 0, []),
  (.iconst 0, (655, 1), (0, 0, 0, 0), 0, []),
  (.ireturn, (656, 1), (1, 0, 0, 0), 0, []),
  (.aload_n 1, (657, 1), (0, 0, 0, 0), 0, []),
  (.aload_n 0, (658, 1), (0, 0, 0, 0), 0, []),
  (.iload_n 3, (659, 1), (0, 0, 0, 0), 0, []),
  (.iconst 1, (660, 1), (0, 0, 0, 0), 1, []),
  (.iadd, (661, 1), (0, 0, 0, 0), 0, []),
  (.iaload, (662, 1), (0, 0, 1, 0), 0, []),
  (.aload_n 0, (663, 1), (0, 0, 0, 0), 0, []),
  (.iload_n 3, (664, 1), (0, 0, 0, 0), 0, []),
  (.iconst 2, (665, 1), (0, 0, 0, 0), 2, []),
  (.iadd, (666, 1), (0, 0, 0, 0), 0, []),
  (.iaload, (667, 1), (0, 0, 1, 0), 0, []),
  (.invokevirtual 83, (668, 3), (63, 2, 0, 7), 0, []),
  (.aload_n 2, (671, 1), (0, 0, 0, 0), 0, []),
  (.aload_n 0, (672, 1), (0, 0, 0, 0), 0, []),
  (.iload_n 3, (673, 1), (0, 0, 0, 0), 0, []),
  (.iconst 1, (674, 1), (0, 0, 0, 0), 1, []),
  (.iadd, (675, 1), (0, 0, 0, 0), 0, []),
  (.iaload, (676, 1), (0, 0, 1, 0), 0, []),
  (.aload_n 0, (677, 1), (0, 0, 0, 0), 0, []),
  (.iload_n 3, (678, 1), (0, 0, 0, 0), 0, []),
  (.iconst 2, (679, 1), (0, 0, 0, 0), 2, []),
  (.iadd, (680, 1), (0, 0, 0, 0), 0, []),
  (.iaload, (681, 1), (0, 0, 1, 0), 0, []),
  (.invokevirtual 86, (682, 3), (119, 2, 0, 8), 0, []),
  (.if_icmp .eq 578, (685, 3), (874, 0, 0, 0), 0, []),
  (.iconst 0, (688, 1), (0, 0, 0, 0), 0, []),
  (.ireturn, (689, 1), (1, 0, 0, 0), 0, []),
  (.aload_n 1, (690, 1), (0, 0, 0, 0), 0, []),
  (.aload_n 0, (691, 1), (0, 0, 0, 0), 0, []),
  (.iload_n 3, (692, 1), (0, 0, 0, 0), 0, []),
  (.iconst 1, (693, 1), (0, 0, 0, 0), 1, []),
  (.iadd, (694, 1), (0, 0, 0, 0), 0, []),
  (.iaload, (695, 1), (0, 0, 1, 0), 0, []),
  (.invokevirtual 87, (696, 3), (112, 1, 0, 7), 0, []),
  (.aload_n 2, (699, 1), (0, 0, 0, 0), 0, []),
  (.aload_n 0, (700, 1), (0, 0, 0, 0), 0, []),
  (.iload_n 3, (701, 1), (0, 0, 0, 0), 0, []),
  (.iconst 1, (702, 1), (0, 0, 0, 0), 1, []),
  (.iadd, (703, 1), (0, 0, 0, 0), 0, []),
  (.iaload, (704, 1), (0, 0, 1, 0), 0, []),
  (.invokevirtual 90, (705, 3), (184, 1, 0, 8), 0, []),
  (.if_icmp .eq 555, (708, 3), (874, 0, 0, 0), 0, []),
  (.iconst 0, (711, 1), (0, 0, 0, 0), 0, []),
  (.ireturn, (712, 1), (1, 0, 0, 0), 0, []),
  (.aload_n 1, (713, 1), (0, 0, 0, 0), 0, []),
  (.aload_n 0, (714, 1), (0, 0, 0, 0), 0, []),
  (.iload_n 3, (715, 1), (0, 0, 0, 0), 0, []),
  (.iconst 1, (716, 1), (0, 0, 0, 0), 1, []),
  (.iadd, (717, 1), (0, 0, 0, 0), 0, []),
  (.iaload, (718, 1), (0, 0, 1, 0), 0, []),
  (.invokevirtual 91, (719, 3), (68, 1, 0, 7), 0, []),
  (.aload_n 2, (722, 1), (0, 0, 0, 0), 0, []),
  (.aload_n 0, (723, 1), (0, 0, 0, 0), 0, []),
  (.iload_n 3, (724, 1), (0, 0, 0, 0), 0, []),
  (.iconst 1, (725, 1), (0, 0, 0, 0), 1, []),
  (.iadd, (726, 1), (0, 0, 0, 0), 0, []),
  (.iaload, (727, 1), (0, 0, 1, 0), 0, []),
  (.invokevirtual 94, (728, 3), (126, 1, 0, 8), 0, []),
  (.if_icmp .eq 532, (731, 3), (874, 0, 0, 0), 0, []),
  (.iconst 0, (734, 1), (0, 0, 0, 0), 0, []),
  (.ireturn, (735, 1), (1, 0, 0, 0), 0, []),
  (.aload_n 1, (736, 1), (0, 0, 0, 0), 0, []),
  (.aload_n 0, (737, 1), (0, 0, 0, 0), 0, []),
  (.iload_n 3, (738, 1), (0, 0, 0, 0), 0, []),
  (.iconst 1, (739, 1), (0, 0, 0, 0), 1, []),
  (.iadd, (740, 1), (0, 0, 0, 0), 0, []),
  (.iaload, (741, 1), (0, 0, 1, 0), 0, []),
  (.aload_n 0, (742, 1), (0, 0, 0, 0), 0, []),
  (.iload_n 3, (743, 1), (0, 0, 0, 0), 0, []),
  (.iconst 2, (744, 1), (0, 0, 0, 0), 2, []),
  (.iadd, (745, 1), (0, 0, 0, 0), 0, []),
  (.iaload, (746, 1), (0, 0, 1, 0), 0, []),
  (.aload_n 0, (747, 1), (0, 0, 0, 0), 0, []),
  (.iload_n 3, (748, 1), (0, 0, 0, 0), 0, []),
  (.iconst 3, (749, 1), (0, 0, 0, 0), 3, []),
  (.iadd, (750, 1), (0, 0, 0, 0), 0, []),
  (.iaload, (751, 1), (0, 0, 1, 0), 0, []),
  (.ifCond .eq 7, (752, 3), (476, 0, 0, 0), 0, []),
  (.iconst 1, (755, 1), (0, 0, 0, 0), 1, []),
  (.goto 4, (756, 3), (477, 0, 0, 0), 0, []),
  (.iconst 0, (759, 1), (0, 0, 0, 0), 0, []),
  (.invokevirtual 95, (760, 3), (108, 3, 0, 7), 0, []),
  (.aload_n 2, (763, 1), (0, 0, 0, 0), 0, []),
  (.aload_n 0, (764, 1), (0, 0, 0, 0), 0, []),
  (.iload_n 3, (765, 1), (0, 0, 0, 0), 0, []),
  (.iconst 1, (766, 1), (0, 0, 0, 0), 1, []),
  (.iadd, (767, 1), (0, 0, 0, 0), 0, []),
  (.iaload, (768, 1), (0, 0, 1, 0), 0, []),
  (.aload_n 0, (769, 1), (0, 0, 0, 0), 0, []),
  (.iload_n 3, (770, 1), (0, 0, 0, 0), 0, []),
  (.iconst 2, (771, 1), (0, 0, 0, 0), 2, []),
  (.iadd, (772, 1), (0, 0, 0, 0), 0, []),
  (.iaload, (773, 1), (0, 0, 1, 0), 0, []),
  (.aload_n 0, (774, 1), (0, 0, 0, 0), 0, []),
  (.iload_n 3, (775, 1), (0, 0, 0, 0), 0, []),
  (.iconst 3, (776, 1), (0, 0, 0, 0), 3, []),
  (.iadd, (777, 1), (0, 0, 0, 0), 0, []),
  (.iaload, (778, 1), (0, 0, 1, 0), 0, []),
  (.ifCond .eq 7, (779, 3), (497, 0, 0, 0), 0, []),
  (.iconst 1, (782, 1), (0, 0, 0, 0), 1, []),
  (.goto 4, (783, 3), (498, 0, 0, 0), 0, []),
  (.iconst 0, (786, 1), (0, 0, 0, 0), 0, []),
  (.invokevirtual 99, (787, 3), (177, 3, 0, 8), 0, []),
  (.if_icmp .eq 473, (790, 3), (874, 0, 0, 0), 0, []),
  (.iconst 0, (793, 1), (0, 0, 0, 0), 0, []),
  (.ireturn, (794, 1), (1, 0, 0, 0), 0, []),
  (.aload_n 1, (795, 1), (0, 0, 0, 0), 0, []),
  (.aload_n 0, (796, 1), (0, 0, 0, 0), 0, []),
  (.iload_n 3, (797, 1), (0, 0, 0, 0), 0, []),
  (.iconst 1, (798, 1), (0, 0, 0, 0), 1, []),
  (.iadd, (799, 1), (0, 0, 0, 0), 0, []),
  (.iaload, (800, 1), (0, 0, 1, 0), 0, []),
  (.invokevirtual 100, (801, 3), (75, 1, 0, 7), 0, []),
  (.aload_n 2, (804, 1), (0, 0, 0, 0), 0, []),
  (.aload_n 0, (805, 1), (0, 0, 0, 0), 0, []),
  (.iload_n 3, (806, 1), (0, 0, 0, 0), 0, []),
  (.iconst 1, (807, 1), (0, 0, 0, 0), 1, []),
  (.iadd, (808, 1), (0, 0, 0, 0), 0, []),
  (.iaload, (809, 1), (0, 0, 1, 0), 0, []),
  (.invokevirtual 103, (810, 3), (133, 1, 0, 8), 0, []),
  (.if_icmp .eq 450, (813, 3), (874, 0, 0, 0), 0, []),
  (.iconst 0, (816, 1), (0, 0, 0, 0), 0, []),
  (.ireturn, (817, 1), (1, 0, 0, 0), 0, []),
  (.aload_n 1, (818, 1), (0, 0, 0, 0), 0, []),
  (.aload_n 0, (819, 1), (0, 0, 0, 0), 0, []),
  (.iload_n 3, (820, 1), (0, 0, 0, 0), 0, []),
  (.iconst 1, (821, 1), (0, 0, 0, 0), 1, []),
  (.iadd, (822, 1), (0, 0, 0, 0), 0, []),
  (.iaload, (823, 1), (0, 0, 1, 0), 0, []),
  (.invokevirtual 104, (824, 3), (98, 1, 1, 7), 0, []),
  (.aload_n 2, (827, 1), (0, 0, 0, 0), 0, []),
  (.aload_n 0, (828, 1), (0, 0, 0, 0), 0, []),
  (.iload_n 3, (829, 1), (0, 0, 0, 0), 0, []),
  (.iconst 1, (830, 1), (0, 0, 0, 0), 1, []),
  (.iadd, (831, 1), (0, 0, 0, 0), 0, []),
  (.iaload, (832, 1), (0, 0, 1, 0), 0, []),
  (.invokevirtual 108, (833, 3), (163, 1, 1, 8), 0, []),
  (.lcmp, (836, 1), (0, 0, 0, 0), 0, []),
  (.ifCond .eq 426, (837, 3), (874, 0, 0, 0), 0, []),
  (.iconst 0, (840, 1), (0, 0, 0, 0), 0, []),
  (.ireturn, (841, 1), (1, 0, 0, 0), 0, []),
  (.aload_n 1, (842, 1), (0, 0, 0, 0), 0, []),
  (.aload_n 0, (843, 1), (0, 0, 0, 0), 0, []),
  (.iload_n 3, (844, 1), (0, 0, 0, 0), 0, []),
  (.iconst 1, (845, 1), (0, 0, 0, 0), 1, []),
  (.iadd, (846, 1), (0, 0, 0, 0), 0, []),
  (.iaload, (847, 1), (0, 0, 1, 0), 0, []),
  (.invokevirtual 109, (848, 3), (94, 1, 1, 7), 0, []),
  (.aload_n 2, (851, 1), (0, 0, 0, 0), 0, []),
  (.aload_n 0, (852, 1), (0, 0, 0, 0), 0, []),
  (.iload_n 3, (853, 1), (0, 0, 0, 0), 0, []),
  (.iconst 1, (854, 1), (0, 0, 0, 0), 1, []),
  (.iadd, (855, 1), (0, 0, 0, 0), 0, []),
  (.iaload, (856, 1), (0, 0, 1, 0), 0, []),
  (.invokevirtual 112, (857, 3), (159, 1, 1, 8), 0, []),
  (.lcmp, (860, 1), (0, 0, 0, 0), 0, []),
  (.ifCond .eq 402, (861, 3), (874, 0, 0, 0), 0, []),
  (.iconst 0, (864, 1), (0, 0, 0, 0), 0, []),
  (.ireturn, (865, 1), (1, 0, 0, 0), 0, []),
  (.aload_n 1, (866, 1), (0, 0, 0, 0), 0, []),
  (.aload_n 0, (867, 1), (0, 0, 0, 0), 0, []),
  (.iload_n 3, (868, 1), (0, 0, 0, 0), 0, []),
  (.iconst 1, (869, 1), (0, 0, 0, 0), 1, []),
  (.iadd, (870, 1), (0, 0, 0, 0), 0, []),
  (.iaload, (871, 1), (0, 0, 1, 0), 0, []),
  (.aload_n 0, (872, 1), (0, 0, 0, 0), 0, []),
  (.iload_n 3, (873, 1), (0, 0, 0, 0), 0, []),
  (.iconst 2, (874, 1), (0, 0, 0, 0), 2, []),
  (.iadd, (875, 1), (0, 0, 0, 0), 0, []),
  (.iaload, (876, 1), (0, 0, 1, 0), 0, []),
  (.invokevirtual 113, (877, 3), (72, 2, 0, 7), 0, []),
  (.aload_n 2, (880, 1), (0, 0, 0, 0), 0, []),
  (.aload_n 0, (881, 1), (0, 0, 0, 0), 0, []),
  (.iload_n 3, (882, 1), (0, 0, 0, 0), 0, []),
  (.iconst 1, (883, 1), (0, 0, 0, 0), 1, []),
  (.iadd, (884, 1), (0, 0, 0, 0), 0, []),
  (.iaload, (885, 1), (0, 0, 1, 0), 0, []),
  (.aload_n 0, (886, 1), (0, 0, 0, 0), 0, []),
  (.iload_n 3, (887, 1), (0, 0, 0, 0), 0, []),
  (.iconst 2, (888, 1), (0, 0, 0, 0), 2, []),
  (.iadd, (889, 1), (0, 0, 0, 0), 0, []),
  (.iaload, (890, 1), (0, 0, 1, 0), 0, []),
  (.invokevirtual 116, (891, 3), (130, 2, 0, 8), 0, []),
  (.if_icmp .eq 369, (894, 3), (874, 0, 0, 0), 0, []),
  (.iconst 0, (897, 1), (0, 0, 0, 0), 0, []),
  (.ireturn, (898, 1), (1, 0, 0, 0), 0, []),
  (.aload_n 1, (899, 1), (0, 0, 0, 0), 0, []),
  (.aload_n 0, (900, 1), (0, 0, 0, 0), 0, []),
  (.iload_n 3, (901, 1), (0, 0, 0, 0), 0, []),
  (.iconst 1, (902, 1), (0, 0, 0, 0), 1, []),
  (.iadd, (903, 1), (0, 0, 0, 0), 0, []),
  (.iaload, (904, 1), (0, 0, 1, 0), 0, []),
  (.invokevirtual 117, (905, 3), (60, 1, 0, 7), 0, []),
  (.aload_n 2, (908, 1), (0, 0, 0, 0), 0, []),
  (.aload_n 0, (909, 1), (0, 0, 0, 0), 0, []),
  (.iload_n 3, (910, 1), (0, 0, 0, 0), 0, []),
  (.iconst 1, (911, 1), (0, 0, 0, 0), 1, []),
  (.iadd, (912, 1), (0, 0, 0, 0), 0, []),
  (.iaload, (913, 1), (0, 0, 1, 0), 0, []),
  (.invokevirtual 120, (914, 3), (115, 1, 0, 8), 0, []),
  (.if_icmp .eq 346, (917, 3), (874, 0, 0, 0), 0, []),
  (.iconst 0, (920, 1), (0, 0, 0, 0), 0, []),
  (.ireturn, (921, 1), (1, 0, 0, 0), 0, []),
  (.aload_n 1, (922, 1), (0, 0, 0, 0), 0, []),
  (.aload_n 0, (923, 1), (0, 0, 0, 0), 0, []),
  (.iload_n 3, (924, 1), (0, 0, 0, 0), 0, []),
  (.iconst 1, (925, 1), (0, 0, 0, 0), 1, []),
  (.iadd, (926, 1), (0, 0, 0, 0), 0, []),
  (.iaload, (927, 1), (0, 0, 1, 0), 0, []),
  (.aload_n 0, (928, 1), (0, 0, 0, 0), 0, []),
  (.iload_n 3, (929, 1), (0, 0, 0, 0), 0, []),
  (.iconst 2, (930, 1), (0, 0, 0, 0), 2, []),
  (.iadd, (931, 1), (0, 0, 0, 0), 0, []),
  (.iaload, (932, 1), (0, 0, 1, 0), 0, []),
  (.invokevirtual 121, (933, 3), (64, 2, 0, 7), 0, []),
  (.aload_n 2, (936, 1), (0, 0, 0, 0), 0, []),
  (.aload_n 0, (937, 1), (0, 0, 0, 0), 0, []),
  (.iload_n 3, (938, 1), (0, 0, 0, 0), 0, []),
  (.iconst 1, (939, 1), (0, 0, 0, 0), 1, []),
  (.iadd, (940, 1), (0, 0, 0, 0), 0, []),
  (.iaload, (941, 1), (0, 0, 1, 0), 0, []),
  (.aload_n 0, (942, 1), (0, 0, 0, 0), 0, []),
  (.iload_n 3, (943, 1), (0, 0, 0, 0), 0, []),
  (.iconst 2, (944, 1), (0, 0, 0, 0), 2, []),
  (.iadd, (945, 1), (0, 0, 0, 0), 0, []),
  (.iaload, (946, 1), (0, 0, 1, 0), 0, []),
  (.invokevirtual 124, (947, 3), (121, 2, 0, 8), 0, []),
  (.if_icmp .eq 313, (950, 3), (874, 0, 0, 0), 0, []),
  (.iconst 0, (953, 1), (0, 0, 0, 0), 0, []),
  (.ireturn, (954, 1), (1, 0, 0, 0), 0, []),
  (.aload_n 1, (955, 1), (0, 0, 0, 0), 0, []),
  (.invokevirtual 125, (956, 3), (91, 0, 0, 7), 0, []),
  (.aload_n 2, (959, 1), (0, 0, 0, 0), 0, []),
  (.invokevirtual 128, (960, 3), (156, 0, 0, 8), 0, []),
  (.if_icmp .eq 300, (963, 3), (874, 0, 0, 0), 0, []),
  (.iconst 0, (966, 1), (0, 0, 0, 0), 0, []),
  (.ireturn, (967, 1), (1, 0, 0, 0), 0, []),
  (.aload_n 1, (968, 1), (0, 0, 0, 0), 0, []),
  (.aload_n 0, (969, 1), (0, 0, 0, 0), 0, []),
  (.iload_n 3, (970, 1), (0, 0, 0, 0), 0, []),
  (.iconst 1, (971, 1), (0, 0, 0, 0), 1, []),
  (.iadd, (972, 1), (0, 0, 0, 0), 0, []),
  (.iaload, (973, 1), (0, 0, 1, 0), 0, []),
  (.aload_n 0, (974, 1), (0, 0, 0, 0), 0, []),
  (.iload_n 3, (975, 1), (0, 0, 0, 0), 0, []),
  (.iconst 2, (976, 1), (0, 0, 0, 0), 2, []),
  (.iadd, (977, 1), (0, 0, 0, 0), 0, []),
  (.iaload, (978, 1), (0, 0, 1, 0), 0, []),
  (.invokevirtual 129, (979, 3), (87, 2, 0, 7), 0, []),
  (.aload_n 2, (982, 1), (0, 0, 0, 0), 0, []),
  (.aload_n 0, (983, 1), (0, 0, 0, 0), 0, []),
  (.iload_n 3, (984, 1), (0, 0, 0, 0), 0, []),
  (.iconst 1, (985, 1), (0, 0, 0, 0), 1, []),
  (.iadd, (986, 1), (0, 0, 0, 0), 0, []),
  (.iaload, (987, 1), (0, 0, 1, 0), 0, []),
  (.aload_n 0, (988, 1), (0, 0, 0, 0), 0, []),
  (.iload_n 3, (989, 1), (0, 0, 0, 0), 0, []),
  (.iconst 2, (990, 1), (0, 0, 0, 0), 2, []),
  (.iadd, (991, 1), (0, 0, 0, 0), 0, []),
  (.iaload, (992, 1), (0, 0, 1, 0), 0, []),
  (.invokevirtual 132, (993, 3), (152, 2, 0, 8), 0, []),
  (.if_icmp .eq 267, (996, 3), (874, 0, 0, 0), 0, []),
  (.iconst 0, (999, 1), (0, 0, 0, 0), 0, []),
  (.ireturn, (1000, 1), (1, 0, 0, 0), 0, []),
  (.aload_n 1, (1001, 1), (0, 0, 0, 0), 0, []),
  (.invokevirtual 133, (1002, 3), (78, 0, 0, 7), 0, []),
  (.aload_n 2, (1005, 1), (0, 0, 0, 0), 0, []),
  (.invokevirtual 136, (1006, 3), (138, 0, 0, 8), 0, []),
  (.if_icmp .eq 254, (1009, 3), (874, 0, 0, 0), 0, []),
  (.iconst 0, (1012, 1), (0, 0, 0, 0), 0, []),
  (.ireturn, (1013, 1), (1, 0, 0, 0), 0, []),
  (.aload_n 1, (1014, 1), (0, 0, 0, 0), 0, []),
  (.invokevirtual 137, (1015, 3), (113, 0, 0, 7), 0, []),
  (.aload_n 2, (1018, 1), (0, 0, 0, 0), 0, []),
  (.invokevirtual 140, (1019, 3), (185, 0, 0, 8), 0, []),
  (.if_icmp .eq 241, (1022, 3), (874, 0, 0, 0), 0, []),
  (.iconst 0, (1025, 1), (0, 0, 0, 0), 0, []),
  (.ireturn, (1026, 1), (1, 0, 0, 0), 0, []),
  (.aload_n 1, (1027, 1), (0, 0, 0, 0), 0, []),
  (.aload_n 0, (1028, 1), (0, 0, 0, 0), 0, []),
  (.iload_n 3, (1029, 1), (0, 0, 0, 0), 0, []),
  (.iconst 1, (1030, 1), (0, 0, 0, 0), 1, []),
  (.iadd, (1031, 1), (0, 0, 0, 0), 0, []),
  (.iaload, (1032, 1), (0, 0, 1, 0), 0, []),
  (.invokevirtual 141, (1033, 3), (67, 1, 0, 7), 0, []),
  (.aload_n 2, (1036, 1), (0, 0, 0, 0), 0, []),
  (.aload_n 0, (1037, 1), (0, 0, 0, 0), 0, []),
  (.iload_n 3, (1038, 1), (0, 0, 0, 0), 0, []),
  (.iconst 1, (1039, 1), (0, 0, 0, 0), 1, []),
  (.iadd, (1040, 1), (0, 0, 0, 0), 0, []),
  (.iaload, (1041, 1), (0, 0, 1, 0), 0, []),
  (.invokevirtual 144, (1042, 3), (125, 1, 0, 8), 0, []),
  (.if_icmp .eq 218, (1045, 3), (874, 0, 0, 0), 0, []),
  (.iconst 0, (1048, 1), (0, 0, 0, 0), 0, []),
  (.ireturn, (1049, 1), (1, 0, 0, 0), 0, []),
  (.aload_n 1, (1050, 1), (0, 0, 0, 0), 0, []),
  (.aload_n 0, (1051, 1), (0, 0, 0, 0), 0, []),
  (.iload_n 3, (1052, 1), (0, 0, 0, 0), 0, []),
  (.iconst 1, (1053, 1), (0, 0, 0, 0), 1, []),
  (.iadd, (1054, 1), (0, 0, 0, 0), 0, []),
  (.iaload, (1055, 1), (0, 0, 1, 0), 0, []),
  (.aload_n 0, (1056, 1), (0, 0, 0, 0), 0, []),
  (.iload_n 3, (1057, 1), (0, 0, 0, 0), 0, []),
  (.iconst 2, (1058, 1), (0, 0, 0, 0), 2, []),
  (.iadd, (1059, 1), (0, 0, 0, 0), 0, []),
  (.iaload, (1060, 1), (0, 0, 1, 0), 0, []),
  (.aload_n 0, (1061, 1), (0, 0, 0, 0), 0, []),
  (.iload_n 3, (1062, 1), (0, 0, 0, 0), 0, []),
  (.iconst 3, (1063, 1), (0, 0, 0, 0), 3, []),
  (.iadd, (1064, 1), (0, 0, 0, 0), 0, []),
  (.iaload, (1065, 1), (0, 0, 1, 0), 0, []),
  (.invokevirtual 145, (1066, 3), (111, 3, 0, 7), 0, []),
  (.aload_n 2, (1069, 1), (0, 0, 0, 0), 0, []),
  (.aload_n 0, (1070, 1), (0, 0, 0, 0), 0, []),
  (.iload_n 3, (1071, 1), (0, 0, 0, 0), 0, []),
  (.iconst 1, (1072, 1), (0, 0, 0, 0), 1, []),
  (.iadd, (1073, 1), (0, 0, 0, 0), 0, []),
  (.iaload, (1074, 1), (0, 0, 1, 0), 0, []),
  (.aload_n 0, (1075, 1), (0, 0, 0, 0), 0, []),
  (.iload_n 3, (1076, 1), (0, 0, 0, 0), 0, []),
  (.iconst 2, (1077, 1), (0, 0, 0, 0), 2, []),
  (.iadd, (1078, 1), (0, 0, 0, 0), 0, []),
  (.iaload, (1079, 1), (0, 0, 1, 0), 0, []),
  (.aload_n 0, (1080, 1), (0, 0, 0, 0), 0, []),
  (.iload_n 3, (1081, 1), (0, 0, 0, 0), 0, []),
  (.iconst 3, (1082, 1), (0, 0, 0, 0), 3, []),
  (.iadd, (1083, 1), (0, 0, 0, 0), 0, []),
  (.iaload, (1084, 1), (0, 0, 1, 0), 0, []),
  (.invokevirtual 148, (1085, 3), (182, 3, 0, 8), 0, []),
  (.if_icmp .eq 175, (1088, 3), (874, 0, 0, 0), 0, []),
  (.iconst 0, (1091, 1), (0, 0, 0, 0), 0, []),
  (.ireturn, (1092, 1), (1, 0, 0, 0), 0, []),
  (.aload_n 1, (1093, 1), (0, 0, 0, 0), 0, []),
  (.aload_n 0, (1094, 1), (0, 0, 0, 0), 0, []),
  (.iload_n 3, (1095, 1), (0, 0, 0, 0), 0, []),
  (.iconst 1, (1096, 1), (0, 0, 0, 0), 1, []),
  (.iadd, (1097, 1), (0, 0, 0, 0), 0, []),
  (.iaload, (1098, 1), (0, 0, 1, 0), 0, []),
  (.aload_n 0, (1099, 1), (0, 0, 0, 0), 0, []),
  (.iload_n 3, (1100, 1), (0, 0, 0, 0), 0, []),
  (.iconst 2, (1101, 1), (0, 0, 0, 0), 2, []),
  (.iadd, (1102, 1), (0, 0, 0, 0), 0, []),
  (.iaload, (1103, 1), (0, 0, 1, 0), 0, []),
  (.aload_n 0, (1104, 1), (0, 0, 0, 0), 0, []),
  (.iload_n 3, (1105, 1), (0, 0, 0, 0), 0, []),
  (.iconst 3, (1106, 1), (0, 0, 0, 0), 3, []),
  (.iadd, (1107, 1), (0, 0, 0, 0), 0, []),
  (.iaload, (1108, 1), (0, 0, 1, 0), 0, []),
  (.i2l, (1109, 1), (0, 0, 0, 0), 0, []),
  (.bipush 32, (1110, 2), (0, 0, 0, 0), 32, []),
  (.lshl, (1112, 1), (0, 0, 0, 0), 0, []),
  (.aload_n 0, (1113, 1), (0, 0, 0, 0), 0, []),
  (.iload_n 3, (1114, 1), (0, 0, 0, 0), 0, []),
  (.iconst 4, (1115, 1), (0, 0, 0, 0), 4, []),
  (.iadd, (1116, 1), (0, 0, 0, 0), 0, []),
  (.iaload, (1117, 1), (0, 0, 1, 0), 0, []),
  (.i2l, (1118, 1), (0, 0, 0, 0), 0, []),
  (.ldc2_w 149, (1119, 3), (0, 0, 0, 0), 0, []),
  (.land, (1122, 1), (0, 0, 0, 0), 0, []),
  (.lor, (1123, 1), (0, 0, 0, 0), 0, []),
  (.invokevirtual 151, (1124, 3), (86, 3, 0, 7), 0, []),
  (.aload_n 2, (1127, 1), (0, 0, 0, 0), 0, []),
  (.aload_n 0, (1128, 1), (0, 0, 0, 0), 0, []),
  (.iload_n 3, (1129, 1), (0, 0, 0, 0), 0, []),
  (.iconst 1, (1130, 1), (0, 0, 0, 0), 1, []),
  (.iadd, (1131, 1), (0, 0, 0, 0), 0, []),
  (.iaload, (1132, 1), (0, 0, 1, 0), 0, []),
  (.aload_n 0, (1133, 1), (0, 0, 0, 0), 0, []),
  (.iload_n 3, (1134, 1), (0, 0, 0, 0), 0, []),
  (.iconst 2, (1135, 1), (0, 0, 0, 0), 2, []),
  (.iadd, (1136, 1), (0, 0, 0, 0), 0, []),
  (.iaload, (1137, 1), (0, 0, 1, 0), 0, []),
  (.aload_n 0, (1138, 1), (0, 0, 0, 0), 0, []),
  (.iload_n 3, (1139, 1), (0, 0, 0, 0), 0, []),
  (.iconst 3, (1140, 1), (0, 0, 0, 0), 3, []),
  (.iadd, (1141, 1), (0, 0, 0, 0), 0, []),
  (.iaload, (1142, 1), (0, 0, 1, 0), 0, []),
  (.i2l, (1143, 1), (0, 0, 0, 0), 0, []),
  (.bipush 32, (1144, 2), (0, 0, 0, 0), 32, []),
  (.lshl, (1146, 1), (0, 0, 0, 0), 0, []),
  (.aload_n 0, (1147, 1), (0, 0, 0, 0), 0, []),
  (.iload_n 3, (1148, 1), (0, 0, 0, 0), 0, []),
  (.iconst 4, (1149, 1), (0, 0, 0, 0), 4, []),
  (.iadd, (1150, 1), (0, 0, 0, 0), 0, []),
  (.iaload, (1151, 1), (0, 0, 1, 0), 0, []),
  (.i2l, (1152, 1), (0, 0, 0, 0), 0, []),
  (.ldc2_w 149, (1153, 3), (0, 0, 0, 0), 0, []),
  (.land, (1156, 1), (0, 0, 0, 0), 0, []),
  (.lor, (1157, 1), (0, 0, 0, 0), 0, []),
  (.invokevirtual 155, (1158, 3), (151, 3, 0, 8), 0, []),
  (.if_icmp .eq 102, (1161, 3), (874, 0, 0, 0), 0, []),
  (.iconst 0, (1164, 1), (0, 0, 0, 0), 0, []),
  (.ireturn, (1165, 1), (1, 0, 0, 0), 0, []),
  (.aload_n 1, (1166, 1), (0, 0, 0, 0), 0, []),
  (.aload_n 0, (1167, 1), (0, 0, 0, 0), 0, []),
  (.iload_n 3, (1168, 1), (0, 0, 0, 0), 0, []),
  (.iconst 1, (1169, 1), (0, 0, 0, 0), 1, []),
  (.iadd, (1170, 1), (0, 0, 0, 0), 0, []),
  (.iaload, (1171, 1), (0, 0, 1, 0), 0, []),
  (.aload_n 0, (1172, 1), (0, 0, 0, 0), 0, []),
  (.iload_n 3, (1173, 1), (0, 0, 0, 0), 0, []),
  (.iconst 2, (1174, 1), (0, 0, 0, 0), 2, []),
  (.iadd, (1175, 1), (0, 0, 0, 0), 0, []),
  (.iaload, (1176, 1), (0, 0, 1, 0), 0, []),
  (.invokevirtual 156, (1177, 3), (99, 2, 1, 7), 0, []),
  (.aload_n 2, (1180, 1), (0, 0, 0, 0), 0, []),
  (.aload_n 0, (1181, 1), (0, 0, 0, 0), 0, []),
  (.iload_n 3, (1182, 1), (0, 0, 0, 0), 0, []),
  (.iconst 1, (1183, 1), (0, 0, 0, 0), 1, []),
  (.iadd, (1184, 1), (0, 0, 0, 0), 0, []),
  (.iaload, (1185, 1), (0, 0, 1, 0), 0, []),
  (.aload_n 0, (1186, 1), (0, 0, 0, 0), 0, []),
  (.iload_n 3, (1187, 1), (0, 0, 0, 0), 0, []),
  (.iconst 2, (1188, 1), (0, 0, 0, 0), 2, []),
  (.iadd, (1189, 1), (0, 0, 0, 0), 0, []),
  (.iaload, (1190, 1), (0, 0, 1, 0), 0, []),
  (.invokevirtual 159, (1191, 3), (165, 2, 1, 8), 0, []),
  (.lcmp, (1194, 1), (0, 0, 0, 0), 0, []),
  (.ifCond .eq 68, (1195, 3), (874, 0, 0, 0), 0, []),
  (.iconst 0, (1198, 1), (0, 0, 0, 0), 0, []),
  (.ireturn, (1199, 1), (1, 0, 0, 0), 0, []),
  (.aload_n 1, (1200, 1), (0, 0, 0, 0), 0, []),
  (.aload_n 0, (1201, 1), (0, 0, 0, 0), 0, []),
  (.iload_n 3, (1202, 1), (0, 0, 0, 0), 0, []),
  (.iconst 1, (1203, 1), (0, 0, 0, 0), 1, []),
  (.iadd, (1204, 1), (0, 0, 0, 0), 0, []),
  (.iaload, (1205, 1), (0, 0, 1, 0), 0, []),
  (.aload_n 0, (1206, 1), (0, 0, 0, 0), 0, []),
  (.iload_n 3, (1207, 1), (0, 0, 0, 0), 0, []),
  (.iconst 2, (1208, 1), (0, 0, 0, 0), 2, []),
  (.iadd, (1209, 1), (0, 0, 0, 0), 0, []),
  (.iaload, (1210, 1), (0, 0, 1, 0), 0, []),
  (.aload_n 0, (1211, 1), (0, 0, 0, 0), 0, []),
  (.iload_n 3, (1212, 1), (0, 0, 0, 0), 0, []),
  (.iconst 3, (1213, 1), (0, 0, 0, 0), 3, []),
  (.iadd, (1214, 1), (0, 0, 0, 0), 0, []),
  (.iaload, (1215, 1), (0, 0, 1, 0), 0, []),
  (.aload_n 0, (1216, 1), (0, 0, 0, 0), 0, []),
  (.iload_n 3, (1217, 1), (0, 0, 0, 0), 0, []),
  (.iconst 4, (1218, 1), (0, 0, 0, 0), 4, []),
  (.iadd, (1219, 1), (0, 0, 0, 0), 0, []),
  (.iaload, (1220, 1), (0, 0, 1, 0), 0, []),
  (.aload_n 0, (1221, 1), (0, 0, 0, 0), 0, []),
  (.iload_n 3, (1222, 1), (0, 0, 0, 0), 0, []),
  (.iconst 5, (1223, 1), (0, 0, 0, 0), 5, []),
  (.iadd, (1224, 1), (0, 0, 0, 0), 0, []),
  (.iaload, (1225, 1), (0, 0, 1, 0), 0, []),
  (.invokevirtual 160, (1226, 3), (109, 5, 0, 7), 0, []),
  (.aload_n 2, (1229, 1), (0, 0, 0, 0), 0, []),
  (.aload_n 0, (1230, 1), (0, 0, 0, 0), 0, []),
  (.iload_n 3, (1231, 1), (0, 0, 0, 0), 0, []),
  (.iconst 1, (1232, 1), (0, 0, 0, 0), 1, []),
  (.iadd, (1233, 1), (0, 0, 0, 0), 0, []),
  (.iaload, (1234, 1), (0, 0, 1, 0), 0, []),
  (.aload_n 0, (1235, 1), (0, 0, 0, 0), 0, []),
  (.iload_n 3, (1236, 1), (0, 0, 0, 0), 0, []),
  (.iconst 2, (1237, 1), (0, 0, 0, 0), 2, []),
  (.iadd, (1238, 1), (0, 0, 0, 0), 0, []),
  (.iaload, (1239, 1), (0, 0, 1, 0), 0, []),
  (.aload_n 0, (1240, 1), (0, 0, 0, 0), 0, []),
  (.iload_n 3, (1241, 1), (0, 0, 0, 0), 0, []),
  (.iconst 3, (1242, 1), (0, 0, 0, 0), 3, []),
  (.iadd, (1243, 1), (0, 0, 0, 0), 0, []),
  (.iaload, (1244, 1), (0, 0, 1, 0), 0, []),
  (.aload_n 0, (1245, 1), (0, 0, 0, 0), 0, []),
  (.iload_n 3, (1246, 1), (0, 0, 0, 0), 0, []),
  (.iconst 4, (1247, 1), (0, 0, 0, 0), 4, []),
  (.iadd, (1248, 1), (0, 0, 0, 0), 0, []),
  (.iaload, (1249, 1), (0, 0, 1, 0), 0, []),
  (.aload_n 0, (1250, 1), (0, 0, 0, 0), 0, []),
  (.iload_n 3, (1251, 1), (0, 0, 0, 0), 0, []),
  (.iconst 5, (1252, 1), (0, 0, 0, 0), 5, []),
  (.iadd, (1253, 1), (0, 0, 0, 0), 0, []),
  (.iaload, (1254, 1), (0, 0, 1, 0), 0, []),
  (.invokevirtual 164, (1255, 3), (178, 5, 0, 8), 0, []),
  (.if_icmp .eq 5, (1258, 3), (874, 0, 0, 0), 0, []),
  (.iconst 0, (1261, 1), (0, 0, 0, 0), 0, []),
  (.ireturn, (1262, 1), (1, 0, 0, 0), 0, []),
  (.iinc 3 6, (1263, 3), (0, 0, 0, 0), 6, []),
  (.goto (-1248), (1266, 3), (10, 0, 0, 0), 0, []),
  (.iconst 1, (1269, 1), (0, 0, 0, 0), 1, []),
  (.ireturn, (1270, 1), (1, 0, 0, 0), 0, [])]
def cd_1 : List xz_Op := [(.aload_n 0, (0, 1), (0, 0, 0, 0), 0, []),
  (.getfield 28, (1, 3), (0, 0, 0, 0), 0, []),
  (.bipush 14, (4, 2), (0, 0, 0, 0), 14, []),
  (.if_icmp .lt 6, (6, 3), (6, 0, 0, 0), 0, []),
  (.bipush (-4), (9, 2), (0, 0, 0, 0), (-4), []),
  (.ireturn, (11, 1), (0, 0, 0, 0), 0, []),
  (.aload_n 0, (12, 1), (0, 0, 0, 0), 0, []),
  (.getfield 9, (13, 3), (0, 1, 2, 0), 0, []),
  (.aload_n 0, (16, 1), (0, 0, 0, 0), 0, []),
  (.getfield 28, (17, 3), (0, 0, 0, 0), 0, []),
  (.iload_n 1, (20, 1), (0, 0, 0, 0), 0, []),
  (.iastore, (21, 1), (0, 0, 0, 0), 0, []),
  (.aload_n 0, (22, 1), (0, 0, 0, 0), 0, []),
  (.getfield 15, (23, 3), (0, 2, 2, 0), 0, []),
  (.aload_n 0, (26, 1), (0, 0, 0, 0), 0, []),
  (.getfield 28, (27, 3), (0, 0, 0, 0), 0, []),
  (.iload_n 2, (30, 1), (0, 0, 0, 0), 0, []),
  (.iastore, (31, 1), (0, 0, 0, 0), 0, []),
  (.aload_n 0, (32, 1), (0, 0, 0, 0), 0, []),
  (.getfield 18, (33, 3), (0, 3, 2, 0), 0, []),
  (.aload_n 0, (36, 1), (0, 0, 0, 0), 0, []),
  (.getfield 28, (37, 3), (0, 0, 0, 0), 0, []),
  (.iload_n 3, (40, 1), (0, 0, 0, 0), 0, []),
  (.iastore, (41, 1), (0, 0, 0, 0), 0, []),
  (.aload_n 0, (42, 1), (0, 0, 0, 0), 0, []),
  (.getfield 21, (43, 3), (0, 4, 2, 0), 0, []),
  (.aload_n 0, (46, 1), (0, 0, 0, 0), 0, []),
  (.getfield 28, (47, 3), (0, 0, 0, 0), 0, []),
  (.iload 4, (50, 2), (0, 0, 0, 0), 0, []),
  (.iastore, (52, 1), (0, 0, 0, 0), 0, []),
  (.aload_n 0, (53, 1), (0, 0, 0, 0), 0, []),
  (.getfield 24, (54, 3), (0, 5, 2, 0), 0, []),
  (.aload_n 0, (57, 1), (0, 0, 0, 0), 0, []),
  (.getfield 28, (58, 3), (0, 0, 0, 0), 0, []),
  (.iconst 0, (61, 1), (0, 0, 0, 0), 0, []),
  (.bastore, (62, 1), (0, 0, 0, 0), 0, []),
  (.aload_n 0, (63, 1), (0, 0, 0, 0), 0, []),
  (.dup, (64, 1), (0, 0, 0, 0), 0, []),
  (.getfield 28, (65, 3), (0, 0, 0, 0), 0, []),
  (.iconst 1, (68, 1), (0, 0, 0, 0), 1, []),
  (.iadd, (69, 1), (0, 0, 0, 0), 0, []),
  (.putfield 28, (70, 3), (0, 0, 0, 0), 0, []),
  (.aload_n 0, (73, 1), (0, 0, 0, 0), 0, []),
  (.getfield 28, (74, 3), (0, 0, 0, 0), 0, []),
  (.iconst 1, (77, 1), (0, 0, 0, 0), 1, []),
  (.isub, (78, 1), (0, 0, 0, 0), 0, []),
  (.ireturn, (79, 1), (0, 0, 0, 0), 0, [])]
def cd_2 : List xz_Op := [(.aload_n 0, (0, 1), (0, 0, 0, 0), 0, []),
  (.aload_n 1, (1, 1), (0, 0, 0, 0), 0, []),
  (.getfield 28, (2, 3), (0, 0, 0, 0), 0, []),
  (.putfield 28, (5, 3), (0, 0, 0, 0), 0, []),
  (.iconst 0, (8, 1), (0, 0, 0, 0), 0, []),
  (.istore_n 2, (9, 1), (0, 0, 0, 0), 0, []),
  (.nop, (10, 0), (7, 0, 0, 0), 0, [0, 1, 2]),
  (.iload_n 2, (10, 1), (0, 0, 0, 0), 0, []),
  (.bipush 14, (11, 2), (0, 0, 0, 0), 14, []),
  (.if_icmp .ge 69, (13, 3), (52, 0, 0, 0), 0, []),
  (.aload_n 0, (16, 1), (0, 0, 0, 0), 0, []),
  (.getfield 9, (17, 3), (0, 1, 2, 0), 0, []),
  (.iload_n 2, (20, 1), (0, 0, 0, 0), 0, []),
  (.aload_n 1, (21, 1), (0, 0, 0, 0), 0, []),
  (.getfield 9, (22, 3), (0, 1, 2, 0), 0, []),
  (.iload_n 2, (25, 1), (0, 0, 0, 0), 0, []),
  (.iaload, (26, 1), (0, 0, 0, 0), 0, []),
  (.iastore, (27, 1), (0, 0, 0, 0), 0, []),
  (.aload_n 0, (28, 1), (0, 0, 0, 0), 0, []),
  (.getfield 15, (29, 3), (0, 2, 2, 0), 0, []),
  (.iload_n 2, (32, 1), (0, 0, 0, 0), 0, []),
  (.aload_n 1, (33, 1), (0, 0, 0, 0), 0, []),
  (.getfield 15, (34, 3), (0, 2, 2, 0), 0, []),
  (.iload_n 2, (37, 1), (0, 0, 0, 0), 0, []),
  (.iaload, (38, 1), (0, 0, 0, 0), 0, []),
  (.iastore, (39, 1), (0, 0, 0, 0), 0, []),
  (.aload_n 0, (40, 1), (0, 0, 0, 0), 0, []),
  (.getfield 18, (41, 3), (0, 3, 2, 0), 0, []),
  (.iload_n 2, (44, 1), (0, 0, 0, 0), 0, []),
  (.aload_n 1, (45, 1), (0, 0, 0, 0), 0, []),
  (.getfield 18, (46, 3), (0, 3, 2, 0), 0, []),
  (.iload_n 2, (49, 1), (0, 0, 0, 0), 0, []),
  (.iaload, (50, 1), (0, 0, 0, 0), 0, []),
  (.iastore, (51, 1), (0, 0, 0, 0), 0, []),
  (.aload_n 0, (52, 1), (0, 0, 0, 0), 0, []),
  (.getfield 21, (53, 3), (0, 4, 2, 0), 0, []),
  (.iload_n 2, (56, 1), (0, 0, 0, 0), 0, []),
  (.aload_n 1, (57, 1), (0, 0, 0, 0), 0, []),
  (.getfield 21, (58, 3), (0, 4, 2, 0), 0, []),
  (.iload_n 2, (61, 1), (0, 0, 0, 0), 0, []),
  (.iaload, (62, 1), (0, 0, 0, 0), 0, []),
  (.iastore, (63, 1), (0, 0, 0, 0), 0, []),
  (.aload_n 0, (64, 1), (0, 0, 0, 0), 0, []),
  (.getfield 24, (65, 3), (0, 5, 2, 0), 0, []),
  (.iload_n 2, (68, 1), (0, 0, 0, 0), 0, []),
  (.aload_n 1, (69, 1), (0, 0, 0, 0), 0, []),
  (.getfield 24, (70, 3), (0, 5, 2, 0), 0, []),
  (.iload_n 2, (73, 1), (0, 0, 0, 0), 0, []),
  (.baload, (74, 1), (0, 0, 0, 0), 0, []),
  (.bastore, (75, 1), (0, 0, 0, 0), 0, []),
  (.iinc 2 1, (76, 3), (0, 0, 0, 0), 1, []),
  (.goto (-69), (79, 3), (6, 0, 0, 0), 0, []),
  (.return_, (82, 1), (0, 0, 0, 0), 0, [])]
def cd_3 : List xz_Op := [(.iload_n 2, (0, 1), (0, 0, 0, 0), 0, []),
  (.ifCond .ne 10, (1, 3), (5, 0, 0, 0), 0, []),
  (.aload_n 0, (4, 1), (0, 0, 0, 0), 0, []),
  (.getfield 9, (5, 3), (0, 1, 2, 0), 0, []),
  (.goto 7, (8, 3), (7, 0, 0, 0), 0, []),
  (.aload_n 0, (11, 1), (0, 0, 0, 0), 0, []),
  (.getfield 21, (12, 3), (0, 4, 2, 0), 0, []),
  (.astore 4, (15, 2), (0, 0, 0, 0), 0, []),
  (.aload 4, (17, 2), (0, 0, 0, 0), 0, []),
  (.iload_n 1, (19, 1), (0, 0, 0, 0), 0, []),
  (.iaload, (20, 1), (0, 0, 0, 0), 0, []),
  (.istore 5, (21, 2), (0, 0, 0, 0), 0, []),
  (.aload 4, (23, 2), (0, 0, 0, 0), 0, []),
  (.iload_n 1, (25, 1), (0, 0, 0, 0), 0, []),
  (.iload_n 3, (26, 1), (0, 0, 0, 0), 0, []),
  (.iastore, (27, 1), (0, 0, 0, 0), 0, []),
  (.iload 5, (28, 2), (0, 0, 0, 0), 0, []),
  (.ireturn, (30, 1), (0, 0, 0, 0), 0, [])]
def cd_4 : List xz_Op := [(.iload_n 1, (0, 1), (0, 0, 0, 0), 0, []),
  (.ifCond .lt 15, (1, 3), (8, 0, 0, 0), 0, []),
  (.iload_n 1, (4, 1), (0, 0, 0, 0), 0, []),
  (.aload_n 0, (5, 1), (0, 0, 0, 0), 0, []),
  (.getfield 28, (6, 3), (0, 0, 0, 0), 0, []),
  (.if_icmp .ge 7, (9, 3), (8, 0, 0, 0), 0, []),
  (.iconst 1, (12, 1), (0, 0, 0, 0), 1, []),
  (.goto 4, (13, 3), (9, 0, 0, 0), 0, []),
  (.iconst 0, (16, 1), (0, 0, 0, 0), 0, []),
  (.ireturn, (17, 1), (1, 0, 0, 0), 0, [])]
def cd_5 : List xz_Op := [(.iconst 0, (0, 1), (0, 0, 0, 0), 0, []),
  (.istore_n 2, (1, 1), (0, 0, 0, 0), 0, []),
  (.iconst 0, (2, 1), (0, 0, 0, 0), 0, []),
  (.istore_n 3, (3, 1), (0, 0, 0, 0), 0, []),
  (.nop, (4, 0), (5, 0, 0, 0), 0, [0, 1, 2, 3]),
  (.iload_n 3, (4, 1), (0, 0, 0, 0), 0, []),
  (.aload_n 0, (5, 1), (0, 0, 0, 0), 0, []),
  (.getfield 28, (6, 3), (0, 0, 0, 0), 0, []),
  (.if_icmp .ge 56, (9, 3), (38, 0, 0, 0), 0, []),
  (.aload_n 0, (12, 1), (0, 0, 0, 0), 0, []),
  (.getfield 24, (13, 3), (0, 5, 2, 0), 0, []),
  (.iload_n 3, (16, 1), (0, 0, 0, 0), 0, []),
  (.baload, (17, 1), (0, 0, 0, 0), 0, []),
  (.ifCond .ne 41, (18, 3), (36, 0, 0, 0), 0, []),
  (.aload_n 0, (21, 1), (0, 0, 0, 0), 0, []),
  (.getfield 9, (22, 3), (0, 1, 2, 0), 0, []),
  (.iload_n 3, (25, 1), (0, 0, 0, 0), 0, []),
  (.iaload, (26, 1), (0, 0, 0, 0), 0, []),
  (.aload_n 0, (27, 1), (0, 0, 0, 0), 0, []),
  (.getfield 9, (28, 3), (0, 1, 2, 0), 0, []),
  (.iload_n 1, (31, 1), (0, 0, 0, 0), 0, []),
  (.iaload, (32, 1), (0, 0, 0, 0), 0, []),
  (.if_icmp .lt 23, (33, 3), (35, 0, 0, 0), 0, []),
  (.aload_n 0, (36, 1), (0, 0, 0, 0), 0, []),
  (.getfield 9, (37, 3), (0, 1, 2, 0), 0, []),
  (.iload_n 3, (40, 1), (0, 0, 0, 0), 0, []),
  (.iaload, (41, 1), (0, 0, 0, 0), 0, []),
  (.aload_n 0, (42, 1), (0, 0, 0, 0), 0, []),
  (.getfield 9, (43, 3), (0, 1, 2, 0), 0, []),
  (.iload_n 1, (46, 1), (0, 0, 0, 0), 0, []),
  (.iaload, (47, 1), (0, 0, 0, 0), 0, []),
  (.if_icmp .ne 11, (48, 3), (36, 0, 0, 0), 0, []),
  (.iload_n 3, (51, 1), (0, 0, 0, 0), 0, []),
  (.iload_n 1, (52, 1), (0, 0, 0, 0), 0, []),
  (.if_icmp .ge 6, (53, 3), (36, 0, 0, 0), 0, []),
  (.iinc 2 1, (56, 3), (0, 0, 0, 0), 1, []),
  (.iinc 3 1, (59, 3), (0, 0, 0, 0), 1, []),
  (.goto (-58), (62, 3), (4, 0, 0, 0), 0, []),
  (.iload_n 2, (65, 1), (0, 0, 0, 0), 0, []),
  (.ireturn, (66, 1), (0, 0, 0, 0), 0, [])]
def cd_6 : List xz_Op := [(.aload_n 0, (0, 1), (0, 0, 0, 0), 0, []),
  (.invokespecial 3, (1, 3), (0, 0, 13, 0), 0, []),
  (.aload_n 0, (4, 1), (0, 0, 0, 0), 0, []),
  (.bipush 14, (5, 2), (0, 0, 0, 0), 14, []),
  (.newarray .int, (7, 2), (0, 0, 0, 0), 0, []),
  (.putfield 9, (9, 3), (0, 1, 2, 0), 0, []),
  (.aload_n 0, (12, 1), (0, 0, 0, 0), 0, []),
  (.bipush 14, (13, 2), (0, 0, 0, 0), 14, []),
  (.newarray .int, (15, 2), (0, 0, 0, 0), 0, []),
  (.putfield 15, (17, 3), (0, 2, 2, 0), 0, []),
  (.aload_n 0, (20, 1), (0, 0, 0, 0), 0, []),
  (.bipush 14, (21, 2), (0, 0, 0, 0), 14, []),
  (.newarray .int, (23, 2), (0, 0, 0, 0), 0, []),
  (.putfield 18, (25, 3), (0, 3, 2, 0), 0, []),
  (.aload_n 0, (28, 1), (0, 0, 0, 0), 0, []),
  (.bipush 14, (29, 2), (0, 0, 0, 0), 14, []),
  (.newarray .int, (31, 2), (0, 0, 0, 0), 0, []),
  (.putfield 21, (33, 3), (0, 4, 2, 0), 0, []),
  (.aload_n 0, (36, 1), (0, 0, 0, 0), 0, []),
  (.bipush 14, (37, 2), (0, 0, 0, 0), 14, []),
  (.newarray .boolean, (39, 2), (0, 0, 0, 0), 0, []),
  (.putfield 24, (41, 3), (0, 5, 2, 0), 0, []),
  (.return_, (44, 1), (0, 0, 0, 0), 0, [])]
def cd_7 : List xz_Op := [(.iload_n 1, (0, 1), (0, 0, 0, 0), 0, []),
  (.ifCond .lt 24, (1, 3), (13, 0, 0, 0), 0, []),
  (.iload_n 1, (4, 1), (0, 0, 0, 0), 0, []),
  (.aload_n 0, (5, 1), (0, 0, 0, 0), 0, []),
  (.getfield 28, (6, 3), (0, 0, 0, 0), 0, []),
  (.if_icmp .ge 16, (9, 3), (13, 0, 0, 0), 0, []),
  (.aload_n 0, (12, 1), (0, 0, 0, 0), 0, []),
  (.getfield 24, (13, 3), (0, 5, 2, 0), 0, []),
  (.iload_n 1, (16, 1), (0, 0, 0, 0), 0, []),
  (.baload, (17, 1), (0, 0, 0, 0), 0, []),
  (.ifCond .ne 7, (18, 3), (13, 0, 0, 0), 0, []),
  (.iconst 1, (21, 1), (0, 0, 0, 0), 1, []),
  (.goto 4, (22, 3), (14, 0, 0, 0), 0, []),
  (.iconst 0, (25, 1), (0, 0, 0, 0), 0, []),
  (.ireturn, (26, 1), (1, 0, 0, 0), 0, [])]
def cd_8 : List xz_Op := [(.iconst 0, (0, 1), (0, 0, 0, 0), 0, []),
  (.istore_n 1, (1, 1), (0, 0, 0, 0), 0, []),
  (.iconst 0, (2, 1), (0, 0, 0, 0), 0, []),
  (.istore_n 2, (3, 1), (0, 0, 0, 0), 0, []),
  (.nop, (4, 0), (5, 0, 0, 0), 0, [0, 1, 2]),
  (.iload_n 2, (4, 1), (0, 0, 0, 0), 0, []),
  (.aload_n 0, (5, 1), (0, 0, 0, 0), 0, []),
  (.getfield 28, (6, 3), (0, 0, 0, 0), 0, []),
  (.if_icmp .ge 26, (9, 3), (22, 0, 0, 0), 0, []),
  (.iload_n 1, (12, 1), (0, 0, 0, 0), 0, []),
  (.aload_n 0, (13, 1), (0, 0, 0, 0), 0, []),
  (.getfield 24, (14, 3), (0, 5, 2, 0), 0, []),
  (.iload_n 2, (17, 1), (0, 0, 0, 0), 0, []),
  (.baload, (18, 1), (0, 0, 0, 0), 0, []),
  (.ifCond .eq 7, (19, 3), (17, 0, 0, 0), 0, []),
  (.iconst 0, (22, 1), (0, 0, 0, 0), 0, []),
  (.goto 4, (23, 3), (18, 0, 0, 0), 0, []),
  (.iconst 1, (26, 1), (0, 0, 0, 0), 1, []),
  (.iadd, (27, 1), (0, 0, 0, 0), 0, []),
  (.istore_n 1, (28, 1), (0, 0, 0, 0), 0, []),
  (.iinc 2 1, (29, 3), (0, 0, 0, 0), 1, []),
  (.goto (-28), (32, 3), (4, 0, 0, 0), 0, []),
  (.iload_n 1, (35, 1), (0, 0, 0, 0), 0, []),
  (.ireturn, (36, 1), (0, 0, 0, 0), 0, [])]
def cd_9 : List xz_Op := [(.aload_n 0, (0, 1), (0, 0, 0, 0), 0, []),
  (.getfield 15, (1, 3), (0, 2, 2, 0), 0, []),
  (.iload_n 1, (4, 1), (0, 0, 0, 0), 0, []),
  (.iaload, (5, 1), (0, 0, 0, 0), 0, []),
  (.iload_n 2, (6, 1), (0, 0, 0, 0), 0, []),
  (.if_icmp .ne 10, (7, 3), (11, 0, 0, 0), 0, []),
  (.aload_n 0, (10, 1), (0, 0, 0, 0), 0, []),
  (.getfield 18, (11, 3), (0, 3, 2, 0), 0, []),
  (.iload_n 1, (14, 1), (0, 0, 0, 0), 0, []),
  (.iaload, (15, 1), (0, 0, 0, 0), 0, []),
  (.ireturn, (16, 1), (0, 0, 0, 0), 0, []),
  (.aload_n 0, (17, 1), (0, 0, 0, 0), 0, []),
  (.getfield 18, (18, 3), (0, 3, 2, 0), 0, []),
  (.iload_n 1, (21, 1), (0, 0, 0, 0), 0, []),
  (.iaload, (22, 1), (0, 0, 0, 0), 0, []),
  (.iload_n 2, (23, 1), (0, 0, 0, 0), 0, []),
  (.if_icmp .ne 12, (24, 3), (22, 0, 0, 0), 0, []),
  (.aload_n 0, (27, 1), (0, 0, 0, 0), 0, []),
  (.getfield 15, (28, 3), (0, 2, 2, 0), 0, []),
  (.iload_n 1, (31, 1), (0, 0, 0, 0), 0, []),
  (.iaload, (32, 1), (0, 0, 0, 0), 0, []),
  (.goto 4, (33, 3), (23, 0, 0, 0), 0, []),
  (.iconst (-1), (36, 1), (0, 0, 0, 0), (-1), []),
  (.ireturn, (37, 1), (0, 0, 0, 0), 0, [])]
def cd_10 : List xz_Op := [(.aload_n 0, (0, 1), (0, 0, 0, 0), 0, []),
  (.iload_n 1, (1, 1), (0, 0, 0, 0), 0, []),
  (.invokevirtual 32, (2, 3), (4, 1, 0, 0), 0, []),
  (.ifCond .ne 6, (5, 3), (6, 0, 0, 0), 0, []),
  (.bipush (-13), (8, 2), (0, 0, 0, 0), (-13), []),
  (.ireturn, (10, 1), (0, 0, 0, 0), 0, []),
  (.aload_n 0, (11, 1), (0, 0, 0, 0), 0, []),
  (.getfield 24, (12, 3), (0, 5, 2, 0), 0, []),
  (.iload_n 1, (15, 1), (0, 0, 0, 0), 0, []),
  (.baload, (16, 1), (0, 0, 0, 0), 0, []),
  (.ifCond .eq 8, (17, 3), (13, 0, 0, 0), 0, []),
  (.bipush (-11), (20, 2), (0, 0, 0, 0), (-11), []),
  (.goto 4, (22, 3), (14, 0, 0, 0), 0, []),
  (.iconst 0, (25, 1), (0, 0, 0, 0), 0, []),
  (.ireturn, (26, 1), (0, 0, 0, 0), 0, [])]
def cd_11 : List xz_Op := [(.aload_n 0, (0, 1), (0, 0, 0, 0), 0, []),
  (.iload_n 1, (1, 1), (0, 0, 0, 0), 0, []),
  (.invokevirtual 32, (2, 3), (4, 1, 0, 0), 0, []),
  (.ifCond .eq 10, (5, 3), (9, 0, 0, 0), 0, []),
  (.aload_n 0, (8, 1), (0, 0, 0, 0), 0, []),
  (.getfield 24, (9, 3), (0, 5, 2, 0), 0, []),
  (.iload_n 1, (12, 1), (0, 0, 0, 0), 0, []),
  (.iconst 1, (13, 1), (0, 0, 0, 0), 1, []),
  (.bastore, (14, 1), (0, 0, 0, 0), 0, []),
  (.return_, (15, 1), (0, 0, 0, 0), 0, [])]
def cd_12 : List xz_Op := [(.iconst 0, (0, 1), (0, 0, 0, 0), 0, []),
  (.istore_n 2, (1, 1), (0, 0, 0, 0), 0, []),
  (.nop, (2, 0), (3, 0, 0, 0), 0, [0, 1, 2]),
  (.iload_n 2, (2, 1), (0, 0, 0, 0), 0, []),
  (.aload_n 0, (3, 1), (0, 0, 0, 0), 0, []),
  (.getfield 28, (4, 3), (0, 0, 0, 0), 0, []),
  (.if_icmp .ge 36, (7, 3), (26, 0, 0, 0), 0, []),
  (.aload_n 0, (10, 1), (0, 0, 0, 0), 0, []),
  (.getfield 15, (11, 3), (0, 2, 2, 0), 0, []),
  (.iload_n 2, (14, 1), (0, 0, 0, 0), 0, []),
  (.iaload, (15, 1), (0, 0, 0, 0), 0, []),
  (.iload_n 1, (16, 1), (0, 0, 0, 0), 0, []),
  (.if_icmp .eq 13, (17, 3), (19, 0, 0, 0), 0, []),
  (.aload_n 0, (20, 1), (0, 0, 0, 0), 0, []),
  (.getfield 18, (21, 3), (0, 3, 2, 0), 0, []),
  (.iload_n 2, (24, 1), (0, 0, 0, 0), 0, []),
  (.iaload, (25, 1), (0, 0, 0, 0), 0, []),
  (.iload_n 1, (26, 1), (0, 0, 0, 0), 0, []),
  (.if_icmp .ne 10, (27, 3), (24, 0, 0, 0), 0, []),
  (.aload_n 0, (30, 1), (0, 0, 0, 0), 0, []),
  (.getfield 24, (31, 3), (0, 5, 2, 0), 0, []),
  (.iload_n 2, (34, 1), (0, 0, 0, 0), 0, []),
  (.iconst 1, (35, 1), (0, 0, 0, 0), 1, []),
  (.bastore, (36, 1), (0, 0, 0, 0), 0, []),
  (.iinc 2 1, (37, 3), (0, 0, 0, 0), 1, []),
  (.goto (-38), (40, 3), (2, 0, 0, 0), 0, []),
  (.return_, (43, 1), (0, 0, 0, 0), 0, [])]
def cd_13 : List xz_Op := [(.aload_n 0, (0, 1), (0, 0, 0, 0), 0, []),
  (.iload_n 1, (1, 1), (0, 0, 0, 0), 0, []),
  (.invokevirtual 36, (2, 3), (7, 1, 0, 0), 0, []),
  (.ifCond .eq 13, (5, 3), (10, 0, 0, 0), 0, []),
  (.aload_n 0, (8, 1), (0, 0, 0, 0), 0, []),
  (.getfield 9, (9, 3), (0, 1, 2, 0), 0, []),
  (.iload_n 1, (12, 1), (0, 0, 0, 0), 0, []),
  (.iaload, (13, 1), (0, 0, 0, 0), 0, []),
  (.iload_n 3, (14, 1), (0, 0, 0, 0), 0, []),
  (.if_icmp .ge 5, (15, 3), (12, 0, 0, 0), 0, []),
  (.iconst (-1), (18, 1), (0, 0, 0, 0), (-1), []),
  (.ireturn, (19, 1), (0, 0, 0, 0), 0, []),
  (.aload_n 0, (20, 1), (0, 0, 0, 0), 0, []),
  (.iload_n 1, (21, 1), (0, 0, 0, 0), 0, []),
  (.iload_n 2, (22, 1), (0, 0, 0, 0), 0, []),
  (.invokevirtual 39, (23, 3), (9, 2, 0, 0), 0, []),
  (.istore 5, (26, 2), (0, 0, 0, 0), 0, []),
  (.iload 5, (28, 2), (0, 0, 0, 0), 0, []),
  (.iconst (-1), (30, 1), (0, 0, 0, 0), (-1), []),
  (.if_icmp .eq 13, (31, 3), (24, 0, 0, 0), 0, []),
  (.iload 4, (34, 2), (0, 0, 0, 0), 0, []),
  (.iload 5, (36, 2), (0, 0, 0, 0), 0, []),
  (.invokestatic 43, (38, 3), (76, 2, 0, 7), 0, []),
  (.ifCond .eq 7, (41, 3), (26, 0, 0, 0), 0, []),
  (.iconst (-1), (44, 1), (0, 0, 0, 0), (-1), []),
  (.goto 5, (45, 3), (27, 0, 0, 0), 0, []),
  (.iload 5, (48, 2), (0, 0, 0, 0), 0, []),
  (.ireturn, (50, 1), (0, 0, 0, 0), 0, [])]
def cd_14 : List xz_Op := [(.aload_n 0, (0, 1), (0, 0, 0, 0), 0, []),
  (.aload_n 1, (1, 1), (0, 0, 0, 0), 0, []),
  (.iload_n 2, (2, 1), (0, 0, 0, 0), 0, []),
  (.iconst 0, (3, 1), (0, 0, 0, 0), 0, []),
  (.iconst (-1), (4, 1), (0, 0, 0, 0), (-1), []),
  (.invokevirtual 15, (5, 3), (15, 4, 3, 1), 0, []),
  (.return_, (8, 1), (0, 0, 0, 0), 0, [])]
def cd_15 : List xz_Op := [(.aload_n 0, (0, 1), (0, 0, 0, 0), 0, []),
  (.getfield 9, (1, 3), (1, 0, 2, 0), 0, []),
  (.bipush (-5), (4, 2), (0, 0, 0, 0), (-5), []),
  (.invokestatic 19, (6, 3), (197, 2, 3, 0), 0, []),
  (.aload_n 0, (9, 1), (0, 0, 0, 0), 0, []),
  (.getfield 9, (10, 3), (1, 0, 2, 0), 0, []),
  (.aload_n 1, (13, 1), (0, 0, 0, 0), 0, []),
  (.getfield 25, (14, 3), (3, 2, 0, 0), 0, []),
  (.iload_n 2, (17, 1), (0, 0, 0, 0), 0, []),
  (.iastore, (18, 1), (0, 0, 0, 0), 0, []),
  (.iconst 1, (19, 1), (0, 0, 0, 0), 1, []),
  (.istore 5, (20, 2), (0, 0, 0, 0), 0, []),
  (.iconst 0, (22, 1), (0, 0, 0, 0), 0, []),
  (.istore 6, (23, 2), (0, 0, 0, 0), 0, []),
  (.nop, (25, 0), (15, 0, 0, 0), 0, [0, 1, 3, 4, 5, 6]),
  (.iload 6, (25, 2), (0, 0, 0, 0), 0, []),
  (.bipush 6, (27, 2), (0, 0, 0, 0), 6, []),
  (.if_icmp .ge 71, (29, 3), (50, 0, 0, 0), 0, []),
  (.iload 5, (32, 2), (0, 0, 0, 0), 0, []),
  (.ifCond .eq 66, (34, 3), (50, 0, 0, 0), 0, []),
  (.iconst 0, (37, 1), (0, 0, 0, 0), 0, []),
  (.istore 5, (38, 2), (0, 0, 0, 0), 0, []),
  (.iconst 0, (40, 1), (0, 0, 0, 0), 0, []),
  (.istore 7, (41, 2), (0, 0, 0, 0), 0, []),
  (.nop, (43, 0), (25, 0, 0, 0), 0, [0, 1, 3, 4, 5, 6, 7]),
  (.iload 7, (43, 2), (0, 0, 0, 0), 0, []),
  (.aload_n 1, (45, 1), (0, 0, 0, 0), 0, []),
  (.getfield 31, (46, 3), (3, 5, 2, 0), 0, []),
  (.getfield 35, (49, 3), (0, 0, 0, 0), 0, []),
  (.if_icmp .ge 42, (52, 3), (48, 0, 0, 0), 0, []),
  (.iload 7, (55, 2), (0, 0, 0, 0), 0, []),
  (.iload 4, (57, 2), (0, 0, 0, 0), 0, []),
  (.if_icmp .eq 29, (59, 3), (46, 0, 0, 0), 0, []),
  (.aload_n 1, (62, 1), (0, 0, 0, 0), 0, []),
  (.getfield 31, (63, 3), (3, 5, 2, 0), 0, []),
  (.iload 7, (66, 2), (0, 0, 0, 0), 0, []),
  (.invokevirtual 40, (68, 3), (7, 1, 0, 0), 0, []),
  (.ifCond .eq 17, (71, 3), (46, 0, 0, 0), 0, []),
  (.aload_n 0, (74, 1), (0, 0, 0, 0), 0, []),
  (.aload_n 1, (75, 1), (0, 0, 0, 0), 0, []),
  (.iload 7, (76, 2), (0, 0, 0, 0), 0, []),
  (.iload_n 3, (78, 1), (0, 0, 0, 0), 0, []),
  (.invokevirtual 44, (79, 3), (17, 3, 0, 1), 0, []),
  (.ifCond .eq 6, (82, 3), (46, 0, 0, 0), 0, []),
  (.iconst 1, (85, 1), (0, 0, 0, 0), 1, []),
  (.istore 5, (86, 2), (0, 0, 0, 0), 0, []),
  (.iinc 7 1, (88, 3), (0, 0, 0, 0), 1, []),
  (.goto (-48), (91, 3), (24, 0, 0, 0), 0, []),
  (.iinc 6 1, (94, 3), (0, 0, 0, 0), 1, []),
  (.goto (-72), (97, 3), (14, 0, 0, 0), 0, []),
  (.return_, (100, 1), (0, 0, 0, 0), 0, [])]
def cd_16 : List xz_Op := [(.aload_n 0, (0, 1), (0, 0, 0, 0), 0, []),
  (.getfield 9, (1, 3), (1, 0, 2, 0), 0, []),
  (.iload_n 3, (4, 1), (0, 0, 0, 0), 0, []),
  (.iaload, (5, 1), (0, 0, 0, 0), 0, []),
  (.ifCond .lt 24, (6, 3), (16, 0, 0, 0), 0, []),
  (.aload_n 0, (9, 1), (0, 0, 0, 0), 0, []),
  (.getfield 9, (10, 3), (1, 0, 2, 0), 0, []),
  (.iload 4, (13, 2), (0, 0, 0, 0), 0, []),
  (.iaload, (15, 1), (0, 0, 0, 0), 0, []),
  (.ifCond .lt 16, (16, 3), (19, 0, 0, 0), 0, []),
  (.aload_n 0, (19, 1), (0, 0, 0, 0), 0, []),
  (.getfield 9, (20, 3), (1, 0, 2, 0), 0, []),
  (.iload 4, (23, 2), (0, 0, 0, 0), 0, []),
  (.iaload, (25, 1), (0, 0, 0, 0), 0, []),
  (.iload_n 2, (26, 1), (0, 0, 0, 0), 0, []),
  (.if_icmp .gt 5, (27, 3), (19, 0, 0, 0), 0, []),
  (.nop, (30, 0), (17, 0, 0, 0), 0, []),
  (.iconst 0, (30, 1), (0, 0, 0, 0), 0, []),
  (.ireturn, (31, 1), (1, 0, 0, 0), 0, []),
  (.nop, (32, 0), (20, 0, 0, 0), 0, [0, 1, 2, 3, 4]),
  (.iload_n 3, (32, 1), (0, 0, 0, 0), 0, []),
  (.aload_n 1, (33, 1), (0, 0, 0, 0), 0, []),
  (.getfield 25, (34, 3), (3, 2, 0, 0), 0, []),
  (.if_icmp .ne 12, (37, 3), (29, 0, 0, 0), 0, []),
  (.aload_n 0, (40, 1), (0, 0, 0, 0), 0, []),
  (.getfield 9, (41, 3), (1, 0, 2, 0), 0, []),
  (.iload_n 3, (44, 1), (0, 0, 0, 0), 0, []),
  (.iaload, (45, 1), (0, 0, 0, 0), 0, []),
  (.goto 14, (46, 3), (36, 0, 0, 0), 0, []),
  (.aload_n 0, (49, 1), (0, 0, 0, 0), 0, []),
  (.getfield 9, (50, 3), (1, 0, 2, 0), 0, []),
  (.iload_n 3, (53, 1), (0, 0, 0, 0), 0, []),
  (.iaload, (54, 1), (0, 0, 0, 0), 0, []),
  (.aload_n 1, (55, 1), (0, 0, 0, 0), 0, []),
  (.getfield 65, (56, 3), (3, 1, 0, 0), 0, []),
  (.iadd, (59, 1), (0, 0, 0, 0), 0, []),
  (.istore 5, (60, 2), (0, 0, 0, 0), 0, []),
  (.iload_n 2, (62, 1), (0, 0, 0, 0), 0, []),
  (.iload 5, (63, 2), (0, 0, 0, 0), 0, []),
  (.if_icmp .ge 5, (65, 3), (42, 0, 0, 0), 0, []),
  (.iconst 0, (68, 1), (0, 0, 0, 0), 0, []),
  (.ireturn, (69, 1), (1, 0, 0, 0), 0, []),
  (.aload_n 0, (70, 1), (0, 0, 0, 0), 0, []),
  (.getfield 9, (71, 3), (1, 0, 2, 0), 0, []),
  (.iload 4, (74, 2), (0, 0, 0, 0), 0, []),
  (.iload_n 2, (76, 1), (0, 0, 0, 0), 0, []),
  (.iastore, (77, 1), (0, 0, 0, 0), 0, []),
  (.iconst 1, (78, 1), (0, 0, 0, 0), 1, []),
  (.ireturn, (79, 1), (1, 0, 0, 0), 0, [])]
def cd_17 : List xz_Op := [(.aload_n 1, (0, 1), (0, 0, 0, 0), 0, []),
  (.getfield 31, (1, 3), (3, 5, 2, 0), 0, []),
  (.getfield 48, (4, 3), (0, 2, 2, 0), 0, []),
  (.iload_n 2, (7, 1), (0, 0, 0, 0), 0, []),
  (.iaload, (8, 1), (0, 0, 0, 0), 0, []),
  (.istore 4, (9, 2), (0, 0, 0, 0), 0, []),
  (.aload_n 1, (11, 1), (0, 0, 0, 0), 0, []),
  (.getfield 31, (12, 3), (3, 5, 2, 0), 0, []),
  (.getfield 51, (15, 3), (0, 3, 2, 0), 0, []),
  (.iload_n 2, (18, 1), (0, 0, 0, 0), 0, []),
  (.iaload, (19, 1), (0, 0, 0, 0), 0, []),
  (.istore 5, (20, 2), (0, 0, 0, 0), 0, []),
  (.iload_n 3, (22, 1), (0, 0, 0, 0), 0, []),
  (.iload 4, (23, 2), (0, 0, 0, 0), 0, []),
  (.invokestatic 54, (25, 3), (76, 2, 0, 7), 0, []),
  (.ifCond .ne 12, (28, 3), (20, 0, 0, 0), 0, []),
  (.iload_n 3, (31, 1), (0, 0, 0, 0), 0, []),
  (.iload 5, (32, 2), (0, 0, 0, 0), 0, []),
  (.invokestatic 54, (34, 3), (76, 2, 0, 7), 0, []),
  (.ifCond .eq 5, (37, 3), (22, 0, 0, 0), 0, []),
  (.iconst 0, (40, 1), (0, 0, 0, 0), 0, []),
  (.ireturn, (41, 1), (1, 0, 0, 0), 0, []),
  (.aload_n 1, (42, 1), (0, 0, 0, 0), 0, []),
  (.getfield 31, (43, 3), (3, 5, 2, 0), 0, []),
  (.getfield 58, (46, 3), (0, 1, 2, 0), 0, []),
  (.iload_n 2, (49, 1), (0, 0, 0, 0), 0, []),
  (.iaload, (50, 1), (0, 0, 0, 0), 0, []),
  (.istore 6, (51, 2), (0, 0, 0, 0), 0, []),
  (.aload_n 0, (53, 1), (0, 0, 0, 0), 0, []),
  (.aload_n 1, (54, 1), (0, 0, 0, 0), 0, []),
  (.iload 6, (55, 2), (0, 0, 0, 0), 0, []),
  (.iload 4, (57, 2), (0, 0, 0, 0), 0, []),
  (.iload 5, (59, 2), (0, 0, 0, 0), 0, []),
  (.invokevirtual 61, (61, 3), (16, 4, 0, 1), 0, []),
  (.istore 7, (64, 2), (0, 0, 0, 0), 0, []),
  (.aload_n 0, (66, 1), (0, 0, 0, 0), 0, []),
  (.aload_n 1, (67, 1), (0, 0, 0, 0), 0, []),
  (.iload 6, (68, 2), (0, 0, 0, 0), 0, []),
  (.iload 5, (70, 2), (0, 0, 0, 0), 0, []),
  (.iload 4, (72, 2), (0, 0, 0, 0), 0, []),
  (.invokevirtual 61, (74, 3), (16, 4, 0, 1), 0, []),
  (.istore 8, (77, 2), (0, 0, 0, 0), 0, []),
  (.iload 7, (79, 2), (0, 0, 0, 0), 0, []),
  (.ifCond .ne 8, (81, 3), (46, 0, 0, 0), 0, []),
  (.iload 8, (84, 2), (0, 0, 0, 0), 0, []),
  (.ifCond .eq 7, (86, 3), (48, 0, 0, 0), 0, []),
  (.iconst 1, (89, 1), (0, 0, 0, 0), 1, []),
  (.goto 4, (90, 3), (49, 0, 0, 0), 0, []),
  (.iconst 0, (93, 1), (0, 0, 0, 0), 0, []),
  (.ireturn, (94, 1), (1, 0, 0, 0), 0, [])]
def cd_18 : List xz_Op := [(.iconst 0, (0, 1), (0, 0, 0, 0), 0, []),
  (.istore_n 2, (1, 1), (0, 0, 0, 0), 0, []),
  (.iconst 0, (2, 1), (0, 0, 0, 0), 0, []),
  (.istore_n 3, (3, 1), (0, 0, 0, 0), 0, []),
  (.nop, (4, 0), (5, 0, 0, 0), 0, [0, 1, 2, 3]),
  (.iload_n 3, (4, 1), (0, 0, 0, 0), 0, []),
  (.bipush 6, (5, 2), (0, 0, 0, 0), 6, []),
  (.if_icmp .ge 56, (7, 3), (37, 0, 0, 0), 0, []),
  (.aload_n 0, (10, 1), (0, 0, 0, 0), 0, []),
  (.getfield 9, (11, 3), (1, 0, 2, 0), 0, []),
  (.iload_n 3, (14, 1), (0, 0, 0, 0), 0, []),
  (.iaload, (15, 1), (0, 0, 0, 0), 0, []),
  (.ifCond .lt 41, (16, 3), (35, 0, 0, 0), 0, []),
  (.aload_n 0, (19, 1), (0, 0, 0, 0), 0, []),
  (.getfield 9, (20, 3), (1, 0, 2, 0), 0, []),
  (.iload_n 3, (23, 1), (0, 0, 0, 0), 0, []),
  (.iaload, (24, 1), (0, 0, 0, 0), 0, []),
  (.aload_n 0, (25, 1), (0, 0, 0, 0), 0, []),
  (.getfield 9, (26, 3), (1, 0, 2, 0), 0, []),
  (.iload_n 1, (29, 1), (0, 0, 0, 0), 0, []),
  (.iaload, (30, 1), (0, 0, 0, 0), 0, []),
  (.if_icmp .lt 23, (31, 3), (34, 0, 0, 0), 0, []),
  (.aload_n 0, (34, 1), (0, 0, 0, 0), 0, []),
  (.getfield 9, (35, 3), (1, 0, 2, 0), 0, []),
  (.iload_n 3, (38, 1), (0, 0, 0, 0), 0, []),
  (.iaload, (39, 1), (0, 0, 0, 0), 0, []),
  (.aload_n 0, (40, 1), (0, 0, 0, 0), 0, []),
  (.getfield 9, (41, 3), (1, 0, 2, 0), 0, []),
  (.iload_n 1, (44, 1), (0, 0, 0, 0), 0, []),
  (.iaload, (45, 1), (0, 0, 0, 0), 0, []),
  (.if_icmp .ne 11, (46, 3), (35, 0, 0, 0), 0, []),
  (.iload_n 3, (49, 1), (0, 0, 0, 0), 0, []),
  (.iload_n 1, (50, 1), (0, 0, 0, 0), 0, []),
  (.if_icmp .le 6, (51, 3), (35, 0, 0, 0), 0, []),
  (.iinc 2 1, (54, 3), (0, 0, 0, 0), 1, []),
  (.iinc 3 1, (57, 3), (0, 0, 0, 0), 1, []),
  (.goto (-56), (60, 3), (4, 0, 0, 0), 0, []),
  (.iload_n 2, (63, 1), (0, 0, 0, 0), 0, []),
  (.ireturn, (64, 1), (0, 0, 0, 0), 0, [])]
def cd_19 : List xz_Op := [(.aload_n 0, (0, 1), (0, 0, 0, 0), 0, []),
  (.invokespecial 3, (1, 3), (0, 0, 13, 0), 0, []),
  (.aload_n 0, (4, 1), (0, 0, 0, 0), 0, []),
  (.bipush 6, (5, 2), (0, 0, 0, 0), 6, []),
  (.newarray .int, (7, 2), (0, 0, 0, 0), 0, []),
  (.putfield 9, (9, 3), (1, 0, 2, 0), 0, []),
  (.return_, (12, 1), (0, 0, 0, 0), 0, [])]
def cd_20 : List xz_Op := [(.iload_n 1, (0, 1), (0, 0, 0, 0), 0, []),
  (.ifCond .lt 18, (1, 3), (10, 0, 0, 0), 0, []),
  (.iload_n 1, (4, 1), (0, 0, 0, 0), 0, []),
  (.bipush 6, (5, 2), (0, 0, 0, 0), 6, []),
  (.if_icmp .ge 12, (7, 3), (10, 0, 0, 0), 0, []),
  (.aload_n 0, (10, 1), (0, 0, 0, 0), 0, []),
  (.getfield 9, (11, 3), (1, 0, 2, 0), 0, []),
  (.iload_n 1, (14, 1), (0, 0, 0, 0), 0, []),
  (.iaload, (15, 1), (0, 0, 0, 0), 0, []),
  (.goto 5, (16, 3), (11, 0, 0, 0), 0, []),
  (.bipush (-5), (19, 2), (0, 0, 0, 0), (-5), []),
  (.ireturn, (21, 1), (0, 0, 0, 0), 0, [])]
def cd_21 : List xz_Op := [(.aload_n 0, (0, 1), (0, 0, 0, 0), 0, []),
  (.getfield 25, (1, 3), (2, 0, 0, 0), 0, []),
  (.aload_n 0, (4, 1), (0, 0, 0, 0), 0, []),
  (.getfield 9, (5, 3), (2, 1, 0, 0), 0, []),
  (.if_icmp .lt 6, (8, 3), (7, 0, 0, 0), 0, []),
  (.bipush (-4), (11, 2), (0, 0, 0, 0), (-4), []),
  (.ireturn, (13, 1), (0, 0, 0, 0), 0, []),
  (.aload_n 0, (14, 1), (0, 0, 0, 0), 0, []),
  (.getfield 15, (15, 3), (2, 2, 2, 0), 0, []),
  (.aload_n 0, (18, 1), (0, 0, 0, 0), 0, []),
  (.getfield 25, (19, 3), (2, 0, 0, 0), 0, []),
  (.iload_n 1, (22, 1), (0, 0, 0, 0), 0, []),
  (.iastore, (23, 1), (0, 0, 0, 0), 0, []),
  (.aload_n 0, (24, 1), (0, 0, 0, 0), 0, []),
  (.getfield 19, (25, 3), (2, 3, 2, 0), 0, []),
  (.aload_n 0, (28, 1), (0, 0, 0, 0), 0, []),
  (.getfield 25, (29, 3), (2, 0, 0, 0), 0, []),
  (.iload_n 2, (32, 1), (0, 0, 0, 0), 0, []),
  (.iastore, (33, 1), (0, 0, 0, 0), 0, []),
  (.aload_n 0, (34, 1), (0, 0, 0, 0), 0, []),
  (.getfield 22, (35, 3), (2, 4, 2, 0), 0, []),
  (.aload_n 0, (38, 1), (0, 0, 0, 0), 0, []),
  (.getfield 25, (39, 3), (2, 0, 0, 0), 0, []),
  (.iload_n 3, (42, 1), (0, 0, 0, 0), 0, []),
  (.iastore, (43, 1), (0, 0, 0, 0), 0, []),
  (.aload_n 0, (44, 1), (0, 0, 0, 0), 0, []),
  (.dup, (45, 1), (0, 0, 0, 0), 0, []),
  (.getfield 25, (46, 3), (2, 0, 0, 0), 0, []),
  (.iconst 1, (49, 1), (0, 0, 0, 0), 1, []),
  (.iadd, (50, 1), (0, 0, 0, 0), 0, []),
  (.putfield 25, (51, 3), (2, 0, 0, 0), 0, []),
  (.aload_n 0, (54, 1), (0, 0, 0, 0), 0, []),
  (.getfield 25, (55, 3), (2, 0, 0, 0), 0, []),
  (.ireturn, (58, 1), (0, 0, 0, 0), 0, [])]
def cd_22 : List xz_Op := [(.aload_n 0, (0, 1), (0, 0, 0, 0), 0, []),
  (.aload_n 1, (1, 1), (0, 0, 0, 0), 0, []),
  (.getfield 25, (2, 3), (2, 0, 0, 0), 0, []),
  (.putfield 25, (5, 3), (2, 0, 0, 0), 0, []),
  (.iconst 0, (8, 1), (0, 0, 0, 0), 0, []),
  (.istore_n 2, (9, 1), (0, 0, 0, 0), 0, []),
  (.nop, (10, 0), (7, 0, 0, 0), 0, [0, 1, 2]),
  (.iload_n 2, (10, 1), (0, 0, 0, 0), 0, []),
  (.aload_n 0, (11, 1), (0, 0, 0, 0), 0, []),
  (.getfield 25, (12, 3), (2, 0, 0, 0), 0, []),
  (.if_icmp .ge 45, (15, 3), (37, 0, 0, 0), 0, []),
  (.aload_n 0, (18, 1), (0, 0, 0, 0), 0, []),
  (.getfield 15, (19, 3), (2, 2, 2, 0), 0, []),
  (.iload_n 2, (22, 1), (0, 0, 0, 0), 0, []),
  (.aload_n 1, (23, 1), (0, 0, 0, 0), 0, []),
  (.getfield 15, (24, 3), (2, 2, 2, 0), 0, []),
  (.iload_n 2, (27, 1), (0, 0, 0, 0), 0, []),
  (.iaload, (28, 1), (0, 0, 0, 0), 0, []),
  (.iastore, (29, 1), (0, 0, 0, 0), 0, []),
  (.aload_n 0, (30, 1), (0, 0, 0, 0), 0, []),
  (.getfield 19, (31, 3), (2, 3, 2, 0), 0, []),
  (.iload_n 2, (34, 1), (0, 0, 0, 0), 0, []),
  (.aload_n 1, (35, 1), (0, 0, 0, 0), 0, []),
  (.getfield 19, (36, 3), (2, 3, 2, 0), 0, []),
  (.iload_n 2, (39, 1), (0, 0, 0, 0), 0, []),
  (.iaload, (40, 1), (0, 0, 0, 0), 0, []),
  (.iastore, (41, 1), (0, 0, 0, 0), 0, []),
  (.aload_n 0, (42, 1), (0, 0, 0, 0), 0, []),
  (.getfield 22, (43, 3), (2, 4, 2, 0), 0, []),
  (.iload_n 2, (46, 1), (0, 0, 0, 0), 0, []),
  (.aload_n 1, (47, 1), (0, 0, 0, 0), 0, []),
  (.getfield 22, (48, 3), (2, 4, 2, 0), 0, []),
  (.iload_n 2, (51, 1), (0, 0, 0, 0), 0, []),
  (.iaload, (52, 1), (0, 0, 0, 0), 0, []),
  (.iastore, (53, 1), (0, 0, 0, 0), 0, []),
  (.iinc 2 1, (54, 3), (0, 0, 0, 0), 1, []),
  (.goto (-47), (57, 3), (6, 0, 0, 0), 0, []),
  (.return_, (60, 1), (0, 0, 0, 0), 0, [])]
def cd_23 : List xz_Op := [(.aload_n 0, (0, 1), (0, 0, 0, 0), 0, []),
  (.iconst 0, (1, 1), (0, 0, 0, 0), 0, []),
  (.putfield 25, (2, 3), (2, 0, 0, 0), 0, []),
  (.aload_n 0, (5, 1), (0, 0, 0, 0), 0, []),
  (.getfield 25, (6, 3), (2, 0, 0, 0), 0, []),
  (.ireturn, (9, 1), (0, 0, 0, 0), 0, [])]
def cd_24 : List xz_Op := [(.aload_n 0, (0, 1), (0, 0, 0, 0), 0, []),
  (.invokespecial 3, (1, 3), (0, 0, 13, 0), 0, []),
  (.aload_n 0, (4, 1), (0, 0, 0, 0), 0, []),
  (.iload_n 1, (5, 1), (0, 0, 0, 0), 0, []),
  (.putfield 9, (6, 3), (2, 1, 0, 0), 0, []),
  (.aload_n 0, (9, 1), (0, 0, 0, 0), 0, []),
  (.iload_n 1, (10, 1), (0, 0, 0, 0), 0, []),
  (.newarray .int, (11, 2), (0, 0, 0, 0), 0, []),
  (.putfield 15, (13, 3), (2, 2, 2, 0), 0, []),
  (.aload_n 0, (16, 1), (0, 0, 0, 0), 0, []),
  (.iload_n 1, (17, 1), (0, 0, 0, 0), 0, []),
  (.newarray .int, (18, 2), (0, 0, 0, 0), 0, []),
  (.putfield 19, (20, 3), (2, 3, 2, 0), 0, []),
  (.aload_n 0, (23, 1), (0, 0, 0, 0), 0, []),
  (.iload_n 1, (24, 1), (0, 0, 0, 0), 0, []),
  (.newarray .int, (25, 2), (0, 0, 0, 0), 0, []),
  (.putfield 22, (27, 3), (2, 4, 2, 0), 0, []),
  (.return_, (30, 1), (0, 0, 0, 0), 0, [])]
def cd_25 : List xz_Op := [(.aload_n 0, (0, 1), (0, 0, 0, 0), 0, []),
  (.aload_n 1, (1, 1), (0, 0, 0, 0), 0, []),
  (.getfield 9, (2, 3), (3, 0, 0, 0), 0, []),
  (.putfield 9, (5, 3), (3, 0, 0, 0), 0, []),
  (.aload_n 0, (8, 1), (0, 0, 0, 0), 0, []),
  (.aload_n 1, (9, 1), (0, 0, 0, 0), 0, []),
  (.getfield 15, (10, 3), (3, 1, 0, 0), 0, []),
  (.putfield 15, (13, 3), (3, 1, 0, 0), 0, []),
  (.aload_n 0, (16, 1), (0, 0, 0, 0), 0, []),
  (.aload_n 1, (17, 1), (0, 0, 0, 0), 0, []),
  (.getfield 43, (18, 3), (3, 2, 0, 0), 0, []),
  (.putfield 43, (21, 3), (3, 2, 0, 0), 0, []),
  (.aload_n 0, (24, 1), (0, 0, 0, 0), 0, []),
  (.aload_n 1, (25, 1), (0, 0, 0, 0), 0, []),
  (.getfield 18, (26, 3), (3, 3, 0, 0), 0, []),
  (.putfield 18, (29, 3), (3, 3, 0, 0), 0, []),
  (.aload_n 0, (32, 1), (0, 0, 0, 0), 0, []),
  (.aload_n 1, (33, 1), (0, 0, 0, 0), 0, []),
  (.getfield 46, (34, 3), (3, 4, 0, 0), 0, []),
  (.putfield 46, (37, 3), (3, 4, 0, 0), 0, []),
  (.aload_n 0, (40, 1), (0, 0, 0, 0), 0, []),
  (.getfield 24, (41, 3), (3, 5, 2, 0), 0, []),
  (.aload_n 1, (44, 1), (0, 0, 0, 0), 0, []),
  (.getfield 24, (45, 3), (3, 5, 2, 0), 0, []),
  (.invokevirtual 56, (48, 3), (2, 1, 3, 0), 0, []),
  (.aload_n 0, (51, 1), (0, 0, 0, 0), 0, []),
  (.getfield 33, (52, 3), (3, 6, 2, 0), 0, []),
  (.aload_n 1, (55, 1), (0, 0, 0, 0), 0, []),
  (.getfield 33, (56, 3), (3, 6, 2, 0), 0, []),
  (.invokevirtual 60, (59, 3), (22, 1, 3, 2), 0, []),
  (.aload_n 0, (62, 1), (0, 0, 0, 0), 0, []),
  (.getfield 37, (63, 3), (3, 7, 2, 0), 0, []),
  (.aload_n 1, (66, 1), (0, 0, 0, 0), 0, []),
  (.getfield 37, (67, 3), (3, 7, 2, 0), 0, []),
  (.invokevirtual 60, (70, 3), (22, 1, 3, 2), 0, []),
  (.aload_n 0, (73, 1), (0, 0, 0, 0), 0, []),
  (.getfield 40, (74, 3), (3, 8, 2, 0), 0, []),
  (.aload_n 1, (77, 1), (0, 0, 0, 0), 0, []),
  (.getfield 40, (78, 3), (3, 8, 2, 0), 0, []),
  (.invokevirtual 60, (81, 3), (22, 1, 3, 2), 0, []),
  (.return_, (84, 1), (0, 0, 0, 0), 0, [])]
def cd_26 : List xz_Op := [(.aload_n 0, (0, 1), (0, 0, 0, 0), 0, []),
  (.invokespecial 3, (1, 3), (0, 0, 13, 0), 0, []),
  (.aload_n 0, (4, 1), (0, 0, 0, 0), 0, []),
  (.iconst 3, (5, 1), (0, 0, 0, 0), 3, []),
  (.putfield 9, (6, 3), (3, 0, 0, 0), 0, []),
  (.aload_n 0, (9, 1), (0, 0, 0, 0), 0, []),
  (.iconst 1, (10, 1), (0, 0, 0, 0), 1, []),
  (.putfield 15, (11, 3), (3, 1, 0, 0), 0, []),
  (.aload_n 0, (14, 1), (0, 0, 0, 0), 0, []),
  (.iconst 1, (15, 1), (0, 0, 0, 0), 1, []),
  (.putfield 18, (16, 3), (3, 3, 0, 0), 0, []),
  (.aload_n 0, (19, 1), (0, 0, 0, 0), 0, []),
  (.new 21, (20, 3), (0, 6, 0, 0), 0, []),
  (.dup, (23, 1), (0, 0, 0, 0), 0, []),
  (.invokespecial 23, (24, 3), (6, 0, 3, 0), 0, []),
  (.putfield 24, (27, 3), (3, 5, 2, 0), 0, []),
  (.aload_n 0, (30, 1), (0, 0, 0, 0), 0, []),
  (.new 28, (31, 3), (2, 5, 0, 0), 0, []),
  (.dup, (34, 1), (0, 0, 0, 0), 0, []),
  (.bipush 6, (35, 2), (0, 0, 0, 0), 6, []),
  (.invokespecial 30, (37, 3), (24, 1, 3, 2), 0, []),
  (.putfield 33, (40, 3), (3, 6, 2, 0), 0, []),
  (.aload_n 0, (43, 1), (0, 0, 0, 0), 0, []),
  (.new 28, (44, 3), (2, 5, 0, 0), 0, []),
  (.dup, (47, 1), (0, 0, 0, 0), 0, []),
  (.bipush 8, (48, 2), (0, 0, 0, 0), 8, []),
  (.invokespecial 30, (50, 3), (24, 1, 3, 2), 0, []),
  (.putfield 37, (53, 3), (3, 7, 2, 0), 0, []),
  (.aload_n 0, (56, 1), (0, 0, 0, 0), 0, []),
  (.new 28, (57, 3), (2, 5, 0, 0), 0, []),
  (.dup, (60, 1), (0, 0, 0, 0), 0, []),
  (.bipush 8, (61, 2), (0, 0, 0, 0), 8, []),
  (.invokespecial 30, (63, 3), (24, 1, 3, 2), 0, []),
  (.putfield 40, (66, 3), (3, 8, 2, 0), 0, []),
  (.return_, (69, 1), (0, 0, 0, 0), 0, [])]
def cd_27 : List xz_Op := [(.aload_n 0, (0, 1), (0, 0, 0, 0), 0, []),
  (.iload_n 1, (1, 1), (0, 0, 0, 0), 0, []),
  (.invokevirtual 63, (2, 3), (28, 1, 0, 3), 0, []),
  (.ifCond .eq 20, (5, 3), (13, 0, 0, 0), 0, []),
  (.aload_n 0, (8, 1), (0, 0, 0, 0), 0, []),
  (.iload_n 2, (9, 1), (0, 0, 0, 0), 0, []),
  (.invokevirtual 63, (10, 3), (28, 1, 0, 3), 0, []),
  (.ifCond .eq 12, (13, 3), (13, 0, 0, 0), 0, []),
  (.iload_n 1, (16, 1), (0, 0, 0, 0), 0, []),
  (.iload_n 2, (17, 1), (0, 0, 0, 0), 0, []),
  (.if_icmp .eq 7, (18, 3), (13, 0, 0, 0), 0, []),
  (.iconst 1, (21, 1), (0, 0, 0, 0), 1, []),
  (.goto 4, (22, 3), (14, 0, 0, 0), 0, []),
  (.iconst 0, (25, 1), (0, 0, 0, 0), 0, []),
  (.ireturn, (26, 1), (1, 0, 0, 0), 0, [])]
def cd_28 : List xz_Op := [(.iload_n 1, (0, 1), (0, 0, 0, 0), 0, []),
  (.ifCond .lt 15, (1, 3), (8, 0, 0, 0), 0, []),
  (.iload_n 1, (4, 1), (0, 0, 0, 0), 0, []),
  (.aload_n 0, (5, 1), (0, 0, 0, 0), 0, []),
  (.getfield 9, (6, 3), (3, 0, 0, 0), 0, []),
  (.if_icmp .ge 7, (9, 3), (8, 0, 0, 0), 0, []),
  (.iconst 1, (12, 1), (0, 0, 0, 0), 1, []),
  (.goto 4, (13, 3), (9, 0, 0, 0), 0, []),
  (.iconst 0, (16, 1), (0, 0, 0, 0), 0, []),
  (.ireturn, (17, 1), (1, 0, 0, 0), 0, [])]
def cd_29 : List xz_Op := [(.aload_n 0, (0, 1), (0, 0, 0, 0), 0, []),
  (.iload_n 1, (1, 1), (0, 0, 0, 0), 0, []),
  (.putfield 9, (2, 3), (3, 0, 0, 0), 0, []),
  (.aload_n 0, (5, 1), (0, 0, 0, 0), 0, []),
  (.iconst 0, (6, 1), (0, 0, 0, 0), 0, []),
  (.putfield 43, (7, 3), (3, 2, 0, 0), 0, []),
  (.aload_n 0, (10, 1), (0, 0, 0, 0), 0, []),
  (.iconst 1, (11, 1), (0, 0, 0, 0), 1, []),
  (.putfield 18, (12, 3), (3, 3, 0, 0), 0, []),
  (.aload_n 0, (15, 1), (0, 0, 0, 0), 0, []),
  (.iconst 0, (16, 1), (0, 0, 0, 0), 0, []),
  (.putfield 46, (17, 3), (3, 4, 0, 0), 0, []),
  (.aload_n 0, (20, 1), (0, 0, 0, 0), 0, []),
  (.getfield 24, (21, 3), (3, 5, 2, 0), 0, []),
  (.iconst 0, (24, 1), (0, 0, 0, 0), 0, []),
  (.putfield 49, (25, 3), (0, 0, 0, 0), 0, []),
  (.aload_n 0, (28, 1), (0, 0, 0, 0), 0, []),
  (.getfield 33, (29, 3), (3, 6, 2, 0), 0, []),
  (.invokevirtual 52, (32, 3), (23, 0, 0, 2), 0, []),
  (.pop, (35, 1), (0, 0, 0, 0), 0, []),
  (.aload_n 0, (36, 1), (0, 0, 0, 0), 0, []),
  (.getfield 37, (37, 3), (3, 7, 2, 0), 0, []),
  (.invokevirtual 52, (40, 3), (23, 0, 0, 2), 0, []),
  (.pop, (43, 1), (0, 0, 0, 0), 0, []),
  (.aload_n 0, (44, 1), (0, 0, 0, 0), 0, []),
  (.getfield 40, (45, 3), (3, 8, 2, 0), 0, []),
  (.invokevirtual 52, (48, 3), (23, 0, 0, 2), 0, []),
  (.pop, (51, 1), (0, 0, 0, 0), 0, []),
  (.return_, (52, 1), (0, 0, 0, 0), 0, [])]
def cd_30 : List xz_Op := [(.iload_n 1, (0, 1), (0, 0, 0, 0), 0, []),
  (.tableswitch 57 0 2 #[27, 38, 46], (1, 27), (16, 0, 0, 0), 0, [2, 7, 11]),
  (.aload_n 0, (28, 1), (0, 0, 0, 0), 0, []),
  (.getfield 24, (29, 3), (3, 5, 2, 0), 0, []),
  (.iload_n 2, (32, 1), (0, 0, 0, 0), 0, []),
  (.invokevirtual 67, (33, 3), (11, 1, 3, 0), 0, []),
  (.goto 27, (36, 3), (19, 0, 0, 0), 0, []),
  (.aload_n 0, (39, 1), (0, 0, 0, 0), 0, []),
  (.iload_n 2, (40, 1), (0, 0, 0, 0), 0, []),
  (.putfield 15, (41, 3), (3, 1, 0, 0), 0, []),
  (.goto 19, (44, 3), (19, 0, 0, 0), 0, []),
  (.aload_n 0, (47, 1), (0, 0, 0, 0), 0, []),
  (.getfield 24, (48, 3), (3, 5, 2, 0), 0, []),
  (.iload_n 2, (51, 1), (0, 0, 0, 0), 0, []),
  (.invokevirtual 70, (52, 3), (12, 1, 3, 0), 0, []),
  (.goto 8, (55, 3), (19, 0, 0, 0), 0, []),
  (.aload_n 0, (58, 1), (0, 0, 0, 0), 0, []),
  (.iload_n 2, (59, 1), (0, 0, 0, 0), 0, []),
  (.putfield 46, (60, 3), (3, 4, 0, 0), 0, []),
  (.return_, (63, 1), (0, 0, 0, 0), 0, [])]
def cd_31 : List xz_Op := [(.aload_n 0, (0, 1), (0, 0, 0, 0), 0, []),
  (.getfield 9, (1, 3), (4, 0, 2, 0), 0, []),
  (.iload_n 1, (4, 1), (0, 0, 0, 0), 0, []),
  (.iload_n 2, (5, 1), (0, 0, 0, 0), 0, []),
  (.iastore, (6, 1), (0, 0, 0, 0), 0, []),
  (.aload_n 0, (7, 1), (0, 0, 0, 0), 0, []),
  (.getfield 19, (8, 3), (4, 1, 2, 0), 0, []),
  (.iload_n 1, (11, 1), (0, 0, 0, 0), 0, []),
  (.iload_n 3, (12, 1), (0, 0, 0, 0), 0, []),
  (.iastore, (13, 1), (0, 0, 0, 0), 0, []),
  (.aload_n 0, (14, 1), (0, 0, 0, 0), 0, []),
  (.getfield 24, (15, 3), (4, 2, 2, 0), 0, []),
  (.iload_n 1, (18, 1), (0, 0, 0, 0), 0, []),
  (.aaload, (19, 1), (0, 0, 0, 0), 0, []),
  (.lconst 0, (20, 1), (1, 0, 0, 0), 0, []),
  (.invokestatic 34, (21, 3), (198, 2, 3, 0), 0, []),
  (.iconst 1, (24, 1), (0, 0, 0, 0), 1, []),
  (.ireturn, (25, 1), (0, 0, 0, 0), 0, [])]
def cd_32 : List xz_Op := [(.iload_n 0, (0, 1), (0, 0, 0, 0), 0, []),
  (.tableswitch 61 0 4 #[35, 40, 45, 61, 49], (1, 35), (24, 0, 0, 0), 0, [2, 7, 12, 24, 16]),
  (.lload_n 1, (36, 1), (0, 0, 0, 0), 0, []),
  (.l2i, (37, 1), (0, 0, 0, 0), 0, []),
  (.i2b, (38, 1), (0, 0, 0, 0), 0, []),
  (.i2l, (39, 1), (0, 0, 0, 0), 0, []),
  (.lreturn, (40, 1), (0, 0, 0, 0), 0, []),
  (.lload_n 1, (41, 1), (0, 0, 0, 0), 0, []),
  (.l2i, (42, 1), (0, 0, 0, 0), 0, []),
  (.i2s, (43, 1), (0, 0, 0, 0), 0, []),
  (.i2l, (44, 1), (0, 0, 0, 0), 0, []),
  (.lreturn, (45, 1), (0, 0, 0, 0), 0, []),
  (.lload_n 1, (46, 1), (0, 0, 0, 0), 0, []),
  (.l2i, (47, 1), (0, 0, 0, 0), 0, []),
  (.i2l, (48, 1), (0, 0, 0, 0), 0, []),
  (.lreturn, (49, 1), (0, 0, 0, 0), 0, []),
  (.lload_n 1, (50, 1), (0, 0, 0, 0), 0, []),
  (.lconst 0, (51, 1), (1, 0, 0, 0), 0, []),
  (.lcmp, (52, 1), (0, 0, 0, 0), 0, []),
  (.ifCond .eq 7, (53, 3), (22, 0, 0, 0), 0, []),
  (.lconst 1, (56, 1), (2, 0, 0, 0), 0, []),
  (.goto 4, (57, 3), (23, 0, 0, 0), 0, []),
  (.lconst 0, (60, 1), (1, 0, 0, 0), 0, []),
  (.lreturn, (61, 1), (0, 0, 0, 0), 0, []),
  (.lload_n 1, (62, 1), (0, 0, 0, 0), 0, []),
  (.lreturn, (63, 1), (0, 0, 0, 0), 0, [])]
def cd_33 : List xz_Op := [(.aload_n 0, (0, 1), (0, 0, 0, 0), 0, []),
  (.iload_n 1, (1, 1), (0, 0, 0, 0), 0, []),
  (.invokevirtual 31, (2, 3), (35, 1, 0, 4), 0, []),
  (.ifCond .eq 21, (5, 3), (14, 0, 0, 0), 0, []),
  (.iload_n 2, (8, 1), (0, 0, 0, 0), 0, []),
  (.ifCond .lt 17, (9, 3), (14, 0, 0, 0), 0, []),
  (.iload_n 2, (12, 1), (0, 0, 0, 0), 0, []),
  (.aload_n 0, (13, 1), (0, 0, 0, 0), 0, []),
  (.getfield 19, (14, 3), (4, 1, 2, 0), 0, []),
  (.iload_n 1, (17, 1), (0, 0, 0, 0), 0, []),
  (.iaload, (18, 1), (0, 0, 0, 0), 0, []),
  (.if_icmp .ge 7, (19, 3), (14, 0, 0, 0), 0, []),
  (.iconst 1, (22, 1), (0, 0, 0, 0), 1, []),
  (.goto 4, (23, 3), (15, 0, 0, 0), 0, []),
  (.iconst 0, (26, 1), (0, 0, 0, 0), 0, []),
  (.ireturn, (27, 1), (1, 0, 0, 0), 0, [])]
def cd_34 : List xz_Op := [(.iload_n 3, (0, 1), (0, 0, 0, 0), 0, []),
  (.ifCond .lt 27, (1, 3), (18, 0, 0, 0), 0, []),
  (.iload_n 2, (4, 1), (0, 0, 0, 0), 0, []),
  (.ifCond .lt 23, (5, 3), (18, 0, 0, 0), 0, []),
  (.iload_n 2, (8, 1), (0, 0, 0, 0), 0, []),
  (.i2l, (9, 1), (0, 0, 0, 0), 0, []),
  (.iload_n 3, (10, 1), (0, 0, 0, 0), 0, []),
  (.i2l, (11, 1), (0, 0, 0, 0), 0, []),
  (.ladd, (12, 1), (0, 0, 0, 0), 0, []),
  (.aload_n 0, (13, 1), (0, 0, 0, 0), 0, []),
  (.getfield 19, (14, 3), (4, 1, 2, 0), 0, []),
  (.iload_n 1, (17, 1), (0, 0, 0, 0), 0, []),
  (.iaload, (18, 1), (0, 0, 0, 0), 0, []),
  (.i2l, (19, 1), (0, 0, 0, 0), 0, []),
  (.lcmp, (20, 1), (0, 0, 0, 0), 0, []),
  (.ifCond .gt 7, (21, 3), (18, 0, 0, 0), 0, []),
  (.iconst 1, (24, 1), (0, 0, 0, 0), 1, []),
  (.goto 4, (25, 3), (19, 0, 0, 0), 0, []),
  (.iconst 0, (28, 1), (0, 0, 0, 0), 0, []),
  (.ireturn, (29, 1), (1, 0, 0, 0), 0, [])]
def cd_35 : List xz_Op := [(.aload_n 0, (0, 1), (0, 0, 0, 0), 0, []),
  (.iload_n 1, (1, 1), (0, 0, 0, 0), 0, []),
  (.invokevirtual 27, (2, 3), (37, 1, 0, 4), 0, []),
  (.ifCond .eq 17, (5, 3), (12, 0, 0, 0), 0, []),
  (.aload_n 0, (8, 1), (0, 0, 0, 0), 0, []),
  (.getfield 9, (9, 3), (4, 0, 2, 0), 0, []),
  (.iload_n 1, (12, 1), (0, 0, 0, 0), 0, []),
  (.iaload, (13, 1), (0, 0, 0, 0), 0, []),
  (.iconst (-1), (14, 1), (0, 0, 0, 0), (-1), []),
  (.if_icmp .eq 7, (15, 3), (12, 0, 0, 0), 0, []),
  (.iconst 1, (18, 1), (0, 0, 0, 0), 1, []),
  (.goto 4, (19, 3), (13, 0, 0, 0), 0, []),
  (.iconst 0, (22, 1), (0, 0, 0, 0), 0, []),
  (.ireturn, (23, 1), (1, 0, 0, 0), 0, [])]
def cd_36 : List xz_Op := [(.aload_n 0, (0, 1), (0, 0, 0, 0), 0, []),
  (.invokespecial 1, (1, 3), (0, 0, 13, 0), 0, []),
  (.aload_n 0, (4, 1), (0, 0, 0, 0), 0, []),
  (.bipush 6, (5, 2), (0, 0, 0, 0), 6, []),
  (.newarray .int, (7, 2), (0, 0, 0, 0), 0, []),
  (.putfield 9, (9, 3), (4, 0, 2, 0), 0, []),
  (.aload_n 0, (12, 1), (0, 0, 0, 0), 0, []),
  (.getfield 9, (13, 3), (4, 0, 2, 0), 0, []),
  (.iconst (-1), (16, 1), (0, 0, 0, 0), (-1), []),
  (.invokestatic 13, (17, 3), (197, 2, 3, 0), 0, []),
  (.aload_n 0, (20, 1), (0, 0, 0, 0), 0, []),
  (.bipush 6, (21, 2), (0, 0, 0, 0), 6, []),
  (.newarray .int, (23, 2), (0, 0, 0, 0), 0, []),
  (.putfield 19, (25, 3), (4, 1, 2, 0), 0, []),
  (.aload_n 0, (28, 1), (0, 0, 0, 0), 0, []),
  (.bipush 6, (29, 2), (0, 0, 0, 0), 6, []),
  (.bipush 60, (31, 2), (0, 0, 0, 0), 60, []),
  (.multianewarray 22 2, (33, 4), (4, 0, 0, 0), 0, []),
  (.putfield 24, (37, 3), (4, 2, 2, 0), 0, []),
  (.return_, (40, 1), (0, 0, 0, 0), 0, [])]
def cd_37 : List xz_Op := [(.iload_n 1, (0, 1), (0, 0, 0, 0), 0, []),
  (.ifCond .lt 13, (1, 3), (7, 0, 0, 0), 0, []),
  (.iload_n 1, (4, 1), (0, 0, 0, 0), 0, []),
  (.bipush 6, (5, 2), (0, 0, 0, 0), 6, []),
  (.if_icmp .ge 7, (7, 3), (7, 0, 0, 0), 0, []),
  (.iconst 1, (10, 1), (0, 0, 0, 0), 1, []),
  (.goto 4, (11, 3), (8, 0, 0, 0), 0, []),
  (.iconst 0, (14, 1), (0, 0, 0, 0), 0, []),
  (.ireturn, (15, 1), (1, 0, 0, 0), 0, [])]
def cd_38 : List xz_Op := [(.aload_n 0, (0, 1), (0, 0, 0, 0), 0, []),
  (.getfield 24, (1, 3), (4, 2, 2, 0), 0, []),
  (.iload_n 1, (4, 1), (0, 0, 0, 0), 0, []),
  (.aaload, (5, 1), (0, 0, 0, 0), 0, []),
  (.iload_n 2, (6, 1), (0, 0, 0, 0), 0, []),
  (.aload_n 0, (7, 1), (0, 0, 0, 0), 0, []),
  (.getfield 9, (8, 3), (4, 0, 2, 0), 0, []),
  (.iload_n 1, (11, 1), (0, 0, 0, 0), 0, []),
  (.iaload, (12, 1), (0, 0, 0, 0), 0, []),
  (.lload_n 3, (13, 1), (0, 0, 0, 0), 0, []),
  (.invokestatic 37, (14, 3), (32, 2, 1, 4), 0, []),
  (.lastore, (17, 1), (0, 0, 0, 0), 0, []),
  (.iconst 1, (18, 1), (0, 0, 0, 0), 1, []),
  (.ireturn, (19, 1), (0, 0, 0, 0), 0, [])]
def cd_39 : List xz_Op := [(.aload_n 0, (0, 1), (0, 0, 0, 0), 0, []),
  (.getfield 23, (1, 3), (5, 0, 0, 0), 0, []),
  (.bipush 100, (4, 2), (0, 0, 0, 0), 100, []),
  (.if_icmp .lt 6, (6, 3), (6, 0, 0, 0), 0, []),
  (.bipush (-4), (9, 2), (0, 0, 0, 0), (-4), []),
  (.ireturn, (11, 1), (0, 0, 0, 0), 0, []),
  (.aload_n 0, (12, 1), (0, 0, 0, 0), 0, []),
  (.getfield 11, (13, 3), (5, 2, 2, 0), 0, []),
  (.aload_n 0, (16, 1), (0, 0, 0, 0), 0, []),
  (.getfield 23, (17, 3), (5, 0, 0, 0), 0, []),
  (.iload_n 1, (20, 1), (0, 0, 0, 0), 0, []),
  (.iastore, (21, 1), (0, 0, 0, 0), 0, []),
  (.aload_n 0, (22, 1), (0, 0, 0, 0), 0, []),
  (.dup, (23, 1), (0, 0, 0, 0), 0, []),
  (.getfield 23, (24, 3), (5, 0, 0, 0), 0, []),
  (.iconst 1, (27, 1), (0, 0, 0, 0), 1, []),
  (.iadd, (28, 1), (0, 0, 0, 0), 0, []),
  (.putfield 23, (29, 3), (5, 0, 0, 0), 0, []),
  (.aload_n 0, (32, 1), (0, 0, 0, 0), 0, []),
  (.getfield 23, (33, 3), (5, 0, 0, 0), 0, []),
  (.ireturn, (36, 1), (0, 0, 0, 0), 0, [])]
def cd_40 : List xz_Op := [(.aload_n 0, (0, 1), (0, 0, 0, 0), 0, []),
  (.iconst 0, (1, 1), (0, 0, 0, 0), 0, []),
  (.putfield 23, (2, 3), (5, 0, 0, 0), 0, []),
  (.return_, (5, 1), (0, 0, 0, 0), 0, [])]
def cd_41 : List xz_Op := [(.aload_n 0, (0, 1), (0, 0, 0, 0), 0, []),
  (.invokespecial 3, (1, 3), (0, 0, 13, 0), 0, []),
  (.aload_n 0, (4, 1), (0, 0, 0, 0), 0, []),
  (.bipush 100, (5, 2), (0, 0, 0, 0), 100, []),
  (.newarray .int, (7, 2), (0, 0, 0, 0), 0, []),
  (.putfield 11, (9, 3), (5, 2, 2, 0), 0, []),
  (.aload_n 0, (12, 1), (0, 0, 0, 0), 0, []),
  (.bipush 12, (13, 2), (0, 0, 0, 0), 12, []),
  (.newarray .int, (15, 2), (0, 0, 0, 0), 0, []),
  (.putfield 15, (17, 3), (5, 3, 2, 0), 0, []),
  (.aload_n 0, (20, 1), (0, 0, 0, 0), 0, []),
  (.bipush 12, (21, 2), (0, 0, 0, 0), 12, []),
  (.iconst 4, (23, 1), (0, 0, 0, 0), 4, []),
  (.multianewarray 18 2, (24, 4), (3, 0, 0, 0), 0, []),
  (.putfield 20, (28, 3), (5, 4, 2, 0), 0, []),
  (.return_, (31, 1), (0, 0, 0, 0), 0, [])]
def cd_42 : List xz_Op := [(.iload_n 0, (0, 1), (0, 0, 0, 0), 0, []),
  (.bipush 48, (1, 2), (0, 0, 0, 0), 48, []),
  (.if_icmp .lt 13, (3, 3), (8, 0, 0, 0), 0, []),
  (.iload_n 0, (6, 1), (0, 0, 0, 0), 0, []),
  (.bipush 57, (7, 2), (0, 0, 0, 0), 57, []),
  (.if_icmp .gt 7, (9, 3), (8, 0, 0, 0), 0, []),
  (.iconst 1, (12, 1), (0, 0, 0, 0), 1, []),
  (.goto 4, (13, 3), (9, 0, 0, 0), 0, []),
  (.iconst 0, (16, 1), (0, 0, 0, 0), 0, []),
  (.ireturn, (17, 1), (1, 0, 0, 0), 0, [])]
def cd_43 : List xz_Op := [(.iload_n 0, (0, 1), (0, 0, 0, 0), 0, []),
  (.bipush 97, (1, 2), (0, 0, 0, 0), 97, []),
  (.if_icmp .lt 13, (3, 3), (8, 0, 0, 0), 0, []),
  (.iload_n 0, (6, 1), (0, 0, 0, 0), 0, []),
  (.bipush 122, (7, 2), (0, 0, 0, 0), 122, []),
  (.if_icmp .gt 7, (9, 3), (8, 0, 0, 0), 0, []),
  (.iconst 1, (12, 1), (0, 0, 0, 0), 1, []),
  (.goto 4, (13, 3), (9, 0, 0, 0), 0, []),
  (.iconst 0, (16, 1), (0, 0, 0, 0), 0, []),
  (.ireturn, (17, 1), (1, 0, 0, 0), 0, [])]
def cd_44 : List xz_Op := [(.aload_n 1, (0, 1), (0, 0, 0, 0), 0, []),
  (.invokevirtual 49, (1, 3), (193, 0, 0, 20), 0, []),
  (.iload_n 2, (4, 1), (0, 0, 0, 0), 0, []),
  (.if_icmp .eq 5, (5, 3), (6, 0, 0, 0), 0, []),
  (.iconst 0, (8, 1), (0, 0, 0, 0), 0, []),
  (.ireturn, (9, 1), (1, 0, 0, 0), 0, []),
  (.iconst 0, (10, 1), (0, 0, 0, 0), 0, []),
  (.istore_n 3, (11, 1), (0, 0, 0, 0), 0, []),
  (.nop, (12, 0), (9, 0, 0, 0), 0, [0, 1, 2, 3]),
  (.iload_n 3, (12, 1), (0, 0, 0, 0), 0, []),
  (.iload_n 2, (13, 1), (0, 0, 0, 0), 0, []),
  (.if_icmp .ge 29, (14, 3), (26, 0, 0, 0), 0, []),
  (.aload_n 0, (17, 1), (0, 0, 0, 0), 0, []),
  (.aload_n 0, (18, 1), (0, 0, 0, 0), 0, []),
  (.getfield 30, (19, 3), (5, 5, 0, 0), 0, []),
  (.iload_n 3, (22, 1), (0, 0, 0, 0), 0, []),
  (.iadd, (23, 1), (0, 0, 0, 0), 0, []),
  (.invokevirtual 37, (24, 3), (47, 1, 0, 5), 0, []),
  (.aload_n 1, (27, 1), (0, 0, 0, 0), 0, []),
  (.iload_n 3, (28, 1), (0, 0, 0, 0), 0, []),
  (.invokevirtual 60, (29, 3), (189, 1, 0, 20), 0, []),
  (.if_icmp .eq 5, (32, 3), (24, 0, 0, 0), 0, []),
  (.iconst 0, (35, 1), (0, 0, 0, 0), 0, []),
  (.ireturn, (36, 1), (1, 0, 0, 0), 0, []),
  (.iinc 3 1, (37, 3), (0, 0, 0, 0), 1, []),
  (.goto (-28), (40, 3), (8, 0, 0, 0), 0, []),
  (.iconst 1, (43, 1), (0, 0, 0, 0), 1, []),
  (.ireturn, (44, 1), (1, 0, 0, 0), 0, [])]
def cd_45 : List xz_Op := [(.iload_n 1, (0, 1), (0, 0, 0, 0), 0, []),
  (.ifCond .lt 24, (1, 3), (13, 0, 0, 0), 0, []),
  (.iload_n 1, (4, 1), (0, 0, 0, 0), 0, []),
  (.aload_n 0, (5, 1), (0, 0, 0, 0), 0, []),
  (.getfield 27, (6, 3), (5, 1, 0, 0), 0, []),
  (.if_icmp .ge 16, (9, 3), (13, 0, 0, 0), 0, []),
  (.iload_n 2, (12, 1), (0, 0, 0, 0), 0, []),
  (.ifCond .lt 12, (13, 3), (13, 0, 0, 0), 0, []),
  (.iload_n 2, (16, 1), (0, 0, 0, 0), 0, []),
  (.iconst 4, (17, 1), (0, 0, 0, 0), 4, []),
  (.if_icmp .ge 7, (18, 3), (13, 0, 0, 0), 0, []),
  (.iconst 1, (21, 1), (0, 0, 0, 0), 1, []),
  (.goto 4, (22, 3), (14, 0, 0, 0), 0, []),
  (.iconst 0, (25, 1), (0, 0, 0, 0), 0, []),
  (.istore_n 3, (26, 1), (0, 0, 0, 0), 0, []),
  (.iload_n 3, (27, 1), (0, 0, 0, 0), 0, []),
  (.ifCond .eq 14, (28, 3), (24, 0, 0, 0), 0, []),
  (.aload_n 0, (31, 1), (0, 0, 0, 0), 0, []),
  (.getfield 20, (32, 3), (5, 4, 2, 0), 0, []),
  (.iload_n 1, (35, 1), (0, 0, 0, 0), 0, []),
  (.aaload, (36, 1), (0, 0, 0, 0), 0, []),
  (.iload_n 2, (37, 1), (0, 0, 0, 0), 0, []),
  (.iaload, (38, 1), (0, 0, 0, 0), 0, []),
  (.goto 4, (39, 3), (25, 0, 0, 0), 0, []),
  (.iconst (-1), (42, 1), (0, 0, 0, 0), (-1), []),
  (.ireturn, (43, 1), (0, 0, 0, 0), 0, [])]
def cd_46 : List xz_Op := [(.aload_n 0, (0, 1), (0, 0, 0, 0), 0, []),
  (.iconst 0, (1, 1), (0, 0, 0, 0), 0, []),
  (.putfield 30, (2, 3), (5, 5, 0, 0), 0, []),
  (.aload_n 0, (5, 1), (0, 0, 0, 0), 0, []),
  (.iconst 0, (6, 1), (0, 0, 0, 0), 0, []),
  (.putfield 27, (7, 3), (5, 1, 0, 0), 0, []),
  (.iconst 0, (10, 1), (0, 0, 0, 0), 0, []),
  (.istore_n 1, (11, 1), (0, 0, 0, 0), 0, []),
  (.nop, (12, 0), (9, 0, 0, 0), 0, [0, 1]),
  (.iload_n 1, (12, 1), (0, 0, 0, 0), 0, []),
  (.bipush 12, (13, 2), (0, 0, 0, 0), 12, []),
  (.if_icmp .ge 87, (15, 3), (58, 0, 0, 0), 0, []),
  (.aload_n 0, (18, 1), (0, 0, 0, 0), 0, []),
  (.iload_n 1, (19, 1), (0, 0, 0, 0), 0, []),
  (.invokevirtual 33, (20, 3), (49, 1, 0, 5), 0, []),
  (.ifCond .ne 8, (23, 3), (19, 0, 0, 0), 0, []),
  (.aload_n 0, (26, 1), (0, 0, 0, 0), 0, []),
  (.getfield 30, (27, 3), (5, 5, 0, 0), 0, []),
  (.ireturn, (30, 1), (0, 0, 0, 0), 0, []),
  (.aload_n 0, (31, 1), (0, 0, 0, 0), 0, []),
  (.aload_n 0, (32, 1), (0, 0, 0, 0), 0, []),
  (.getfield 30, (33, 3), (5, 5, 0, 0), 0, []),
  (.invokevirtual 37, (36, 3), (47, 1, 0, 5), 0, []),
  (.iconst (-1), (39, 1), (0, 0, 0, 0), (-1), []),
  (.if_icmp .ne 12, (40, 3), (32, 0, 0, 0), 0, []),
  (.aload_n 0, (43, 1), (0, 0, 0, 0), 0, []),
  (.iload_n 1, (44, 1), (0, 0, 0, 0), 0, []),
  (.iconst 1, (45, 1), (0, 0, 0, 0), 1, []),
  (.iadd, (46, 1), (0, 0, 0, 0), 0, []),
  (.putfield 27, (47, 3), (5, 1, 0, 0), 0, []),
  (.iconst (-1), (50, 1), (0, 0, 0, 0), (-1), []),
  (.ireturn, (51, 1), (0, 0, 0, 0), 0, []),
  (.iload_n 1, (52, 1), (0, 0, 0, 0), 0, []),
  (.bipush 11, (53, 2), (0, 0, 0, 0), 11, []),
  (.if_icmp .ne 7, (55, 3), (37, 0, 0, 0), 0, []),
  (.iconst 1, (58, 1), (0, 0, 0, 0), 1, []),
  (.goto 4, (59, 3), (38, 0, 0, 0), 0, []),
  (.iconst 0, (62, 1), (0, 0, 0, 0), 0, []),
  (.istore_n 2, (63, 1), (0, 0, 0, 0), 0, []),
  (.iload_n 2, (64, 1), (0, 0, 0, 0), 0, []),
  (.ifCond .ne 16, (65, 3), (47, 0, 0, 0), 0, []),
  (.aload_n 0, (68, 1), (0, 0, 0, 0), 0, []),
  (.aload_n 0, (69, 1), (0, 0, 0, 0), 0, []),
  (.getfield 30, (70, 3), (5, 5, 0, 0), 0, []),
  (.invokevirtual 37, (73, 3), (47, 1, 0, 5), 0, []),
  (.bipush 59, (76, 2), (0, 0, 0, 0), 59, []),
  (.if_icmp .eq 8, (78, 3), (50, 0, 0, 0), 0, []),
  (.aload_n 0, (81, 1), (0, 0, 0, 0), 0, []),
  (.getfield 30, (82, 3), (5, 5, 0, 0), 0, []),
  (.ireturn, (85, 1), (0, 0, 0, 0), 0, []),
  (.aload_n 0, (86, 1), (0, 0, 0, 0), 0, []),
  (.dup, (87, 1), (0, 0, 0, 0), 0, []),
  (.getfield 30, (88, 3), (5, 5, 0, 0), 0, []),
  (.iconst 1, (91, 1), (0, 0, 0, 0), 1, []),
  (.iadd, (92, 1), (0, 0, 0, 0), 0, []),
  (.putfield 30, (93, 3), (5, 5, 0, 0), 0, []),
  (.iinc 1 1, (96, 3), (0, 0, 0, 0), 1, []),
  (.goto (-87), (99, 3), (8, 0, 0, 0), 0, []),
  (.aload_n 0, (102, 1), (0, 0, 0, 0), 0, []),
  (.getfield 30, (103, 3), (5, 5, 0, 0), 0, []),
  (.ireturn, (106, 1), (0, 0, 0, 0), 0, [])]
def cd_47 : List xz_Op := [(.iload_n 1, (0, 1), (0, 0, 0, 0), 0, []),
  (.ifCond .lt 20, (1, 3), (11, 0, 0, 0), 0, []),
  (.iload_n 1, (4, 1), (0, 0, 0, 0), 0, []),
  (.aload_n 0, (5, 1), (0, 0, 0, 0), 0, []),
  (.getfield 23, (6, 3), (5, 0, 0, 0), 0, []),
  (.if_icmp .ge 12, (9, 3), (11, 0, 0, 0), 0, []),
  (.aload_n 0, (12, 1), (0, 0, 0, 0), 0, []),
  (.getfield 11, (13, 3), (5, 2, 2, 0), 0, []),
  (.iload_n 1, (16, 1), (0, 0, 0, 0), 0, []),
  (.iaload, (17, 1), (0, 0, 0, 0), 0, []),
  (.goto 4, (18, 3), (12, 0, 0, 0), 0, []),
  (.iconst (-1), (21, 1), (0, 0, 0, 0), (-1), []),
  (.ireturn, (22, 1), (0, 0, 0, 0), 0, [])]
def cd_48 : List xz_Op := [(.iload_n 0, (0, 1), (0, 0, 0, 0), 0, []),
  (.tableswitch 43 0 3 #[31, 34, 37, 40], (1, 31), (10, 0, 0, 0), 0, [2, 4, 6, 8]),
  (.ldc 74, (32, 2), (0, 1, 0, 0), 0, []),
  (.areturn, (34, 1), (0, 0, 0, 0), 0, []),
  (.ldc 76, (35, 2), (1, 1, 0, 0), 0, []),
  (.areturn, (37, 1), (0, 0, 0, 0), 0, []),
  (.ldc 78, (38, 2), (2, 1, 0, 0), 0, []),
  (.areturn, (40, 1), (0, 0, 0, 0), 0, []),
  (.ldc 80, (41, 2), (3, 1, 0, 0), 0, []),
  (.areturn, (43, 1), (0, 0, 0, 0), 0, []),
  (.ldc 82, (44, 2), (4, 1, 0, 0), 0, []),
  (.areturn, (46, 1), (0, 0, 0, 0), 0, [])]
def cd_49 : List xz_Op := [(.aload_n 0, (0, 1), (0, 0, 0, 0), 0, []),
  (.invokevirtual 41, (1, 3), (53, 0, 0, 5), 0, []),
  (.istore_n 2, (4, 1), (0, 0, 0, 0), 0, []),
  (.iload_n 2, (5, 1), (0, 0, 0, 0), 0, []),
  (.iconst (-1), (6, 1), (0, 0, 0, 0), (-1), []),
  (.if_icmp .ne 5, (7, 3), (8, 0, 0, 0), 0, []),
  (.iconst 0, (10, 1), (0, 0, 0, 0), 0, []),
  (.ireturn, (11, 1), (1, 0, 0, 0), 0, []),
  (.aload_n 0, (12, 1), (0, 0, 0, 0), 0, []),
  (.dup, (13, 1), (0, 0, 0, 0), 0, []),
  (.getfield 30, (14, 3), (5, 5, 0, 0), 0, []),
  (.iload_n 2, (17, 1), (0, 0, 0, 0), 0, []),
  (.invokestatic 45, (18, 3), (48, 1, 2, 5), 0, []),
  (.invokevirtual 49, (21, 3), (193, 0, 0, 20), 0, []),
  (.iadd, (24, 1), (0, 0, 0, 0), 0, []),
  (.putfield 30, (25, 3), (5, 5, 0, 0), 0, []),
  (.aload_n 0, (28, 1), (0, 0, 0, 0), 0, []),
  (.getfield 15, (29, 3), (5, 3, 2, 0), 0, []),
  (.iload_n 1, (32, 1), (0, 0, 0, 0), 0, []),
  (.iload_n 2, (33, 1), (0, 0, 0, 0), 0, []),
  (.iastore, (34, 1), (0, 0, 0, 0), 0, []),
  (.iload_n 2, (35, 1), (0, 0, 0, 0), 0, []),
  (.invokestatic 54, (36, 3), (51, 1, 2, 5), 0, []),
  (.astore_n 3, (39, 1), (0, 0, 0, 0), 0, []),
  (.iconst 0, (40, 1), (0, 0, 0, 0), 0, []),
  (.istore 4, (41, 2), (0, 0, 0, 0), 0, []),
  (.nop, (43, 0), (27, 0, 0, 0), 0, [0, 1, 3, 4]),
  (.iload 4, (43, 2), (0, 0, 0, 0), 0, []),
  (.aload_n 3, (45, 1), (0, 0, 0, 0), 0, []),
  (.invokevirtual 49, (46, 3), (193, 0, 0, 20), 0, []),
  (.if_icmp .ge 78, (49, 3), (71, 0, 0, 0), 0, []),
  (.iload 4, (52, 2), (0, 0, 0, 0), 0, []),
  (.iconst 4, (54, 1), (0, 0, 0, 0), 4, []),
  (.if_icmp .ge 72, (55, 3), (71, 0, 0, 0), 0, []),
  (.aload_n 0, (58, 1), (0, 0, 0, 0), 0, []),
  (.aload_n 0, (59, 1), (0, 0, 0, 0), 0, []),
  (.getfield 30, (60, 3), (5, 5, 0, 0), 0, []),
  (.invokevirtual 37, (63, 3), (47, 1, 0, 5), 0, []),
  (.bipush 32, (66, 2), (0, 0, 0, 0), 32, []),
  (.if_icmp .eq 5, (68, 3), (42, 0, 0, 0), 0, []),
  (.iconst 0, (71, 1), (0, 0, 0, 0), 0, []),
  (.ireturn, (72, 1), (1, 0, 0, 0), 0, []),
  (.aload_n 0, (73, 1), (0, 0, 0, 0), 0, []),
  (.dup, (74, 1), (0, 0, 0, 0), 0, []),
  (.getfield 30, (75, 3), (5, 5, 0, 0), 0, []),
  (.iconst 1, (78, 1), (0, 0, 0, 0), 1, []),
  (.iadd, (79, 1), (0, 0, 0, 0), 0, []),
  (.putfield 30, (80, 3), (5, 5, 0, 0), 0, []),
  (.aload_n 0, (83, 1), (0, 0, 0, 0), 0, []),
  (.aload_n 0, (84, 1), (0, 0, 0, 0), 0, []),
  (.getfield 30, (85, 3), (5, 5, 0, 0), 0, []),
  (.invokevirtual 37, (88, 3), (47, 1, 0, 5), 0, []),
  (.invokestatic 57, (91, 3), (42, 1, 0, 5), 0, []),
  (.ifCond .ne 5, (94, 3), (56, 0, 0, 0), 0, []),
  (.iconst 0, (97, 1), (0, 0, 0, 0), 0, []),
  (.ireturn, (98, 1), (1, 0, 0, 0), 0, []),
  (.aload_n 0, (99, 1), (0, 0, 0, 0), 0, []),
  (.getfield 20, (100, 3), (5, 4, 2, 0), 0, []),
  (.iload_n 1, (103, 1), (0, 0, 0, 0), 0, []),
  (.aaload, (104, 1), (0, 0, 0, 0), 0, []),
  (.iload 4, (105, 2), (0, 0, 0, 0), 0, []),
  (.aload_n 0, (107, 1), (0, 0, 0, 0), 0, []),
  (.aload_n 3, (108, 1), (0, 0, 0, 0), 0, []),
  (.iload 4, (109, 2), (0, 0, 0, 0), 0, []),
  (.invokevirtual 60, (111, 3), (189, 1, 0, 20), 0, []),
  (.bipush 48, (114, 2), (0, 0, 0, 0), 48, []),
  (.isub, (116, 1), (0, 0, 0, 0), 0, []),
  (.invokevirtual 64, (117, 3), (50, 1, 0, 5), 0, []),
  (.iastore, (120, 1), (0, 0, 0, 0), 0, []),
  (.iinc 4 1, (121, 3), (0, 0, 0, 0), 1, []),
  (.goto (-81), (124, 3), (26, 0, 0, 0), 0, []),
  (.iconst 1, (127, 1), (0, 0, 0, 0), 1, []),
  (.ireturn, (128, 1), (1, 0, 0, 0), 0, [])]
def cd_50 : List xz_Op := [(.iconst 0, (0, 1), (0, 0, 0, 0), 0, []),
  (.istore_n 2, (1, 1), (0, 0, 0, 0), 0, []),
  (.iconst 0, (2, 1), (0, 0, 0, 0), 0, []),
  (.istore_n 3, (3, 1), (0, 0, 0, 0), 0, []),
  (.nop, (4, 0), (5, 0, 0, 0), 0, [0, 1, 2, 3]),
  (.iload_n 3, (4, 1), (0, 0, 0, 0), 0, []),
  (.iload_n 1, (5, 1), (0, 0, 0, 0), 0, []),
  (.if_icmp .ge 50, (6, 3), (33, 0, 0, 0), 0, []),
  (.aload_n 0, (9, 1), (0, 0, 0, 0), 0, []),
  (.aload_n 0, (10, 1), (0, 0, 0, 0), 0, []),
  (.getfield 30, (11, 3), (5, 5, 0, 0), 0, []),
  (.invokevirtual 37, (14, 3), (47, 1, 0, 5), 0, []),
  (.invokestatic 57, (17, 3), (42, 1, 0, 5), 0, []),
  (.ifCond .eq 36, (20, 3), (33, 0, 0, 0), 0, []),
  (.iload_n 2, (23, 1), (0, 0, 0, 0), 0, []),
  (.bipush 10, (24, 2), (0, 0, 0, 0), 10, []),
  (.imul, (26, 1), (0, 0, 0, 0), 0, []),
  (.aload_n 0, (27, 1), (0, 0, 0, 0), 0, []),
  (.aload_n 0, (28, 1), (0, 0, 0, 0), 0, []),
  (.getfield 30, (29, 3), (5, 5, 0, 0), 0, []),
  (.invokevirtual 37, (32, 3), (47, 1, 0, 5), 0, []),
  (.iadd, (35, 1), (0, 0, 0, 0), 0, []),
  (.bipush 48, (36, 2), (0, 0, 0, 0), 48, []),
  (.isub, (38, 1), (0, 0, 0, 0), 0, []),
  (.istore_n 2, (39, 1), (0, 0, 0, 0), 0, []),
  (.aload_n 0, (40, 1), (0, 0, 0, 0), 0, []),
  (.dup, (41, 1), (0, 0, 0, 0), 0, []),
  (.getfield 30, (42, 3), (5, 5, 0, 0), 0, []),
  (.iconst 1, (45, 1), (0, 0, 0, 0), 1, []),
  (.iadd, (46, 1), (0, 0, 0, 0), 0, []),
  (.putfield 30, (47, 3), (5, 5, 0, 0), 0, []),
  (.iinc 3 1, (50, 3), (0, 0, 0, 0), 1, []),
  (.goto (-49), (53, 3), (4, 0, 0, 0), 0, []),
  (.iload_n 2, (56, 1), (0, 0, 0, 0), 0, []),
  (.ireturn, (57, 1), (0, 0, 0, 0), 0, [])]
def cd_51 : List xz_Op := [(.iload_n 0, (0, 1), (0, 0, 0, 0), 0, []),
  (.tableswitch 40 1 4 #[31, 34, 40, 37], (1, 31), (8, 0, 0, 0), 1, [2, 4, 8, 6]),
  (.ldc 84, (32, 2), (5, 1, 0, 0), 0, []),
  (.areturn, (34, 1), (0, 0, 0, 0), 0, []),
  (.ldc 86, (35, 2), (6, 1, 0, 0), 0, []),
  (.areturn, (37, 1), (0, 0, 0, 0), 0, []),
  (.ldc 88, (38, 2), (7, 1, 0, 0), 0, []),
  (.areturn, (40, 1), (0, 0, 0, 0), 0, []),
  (.ldc 90, (41, 2), (8, 1, 0, 0), 0, []),
  (.areturn, (43, 1), (0, 0, 0, 0), 0, [])]
def cd_52 : List xz_Op := [(.iload_n 1, (0, 1), (0, 0, 0, 0), 0, []),
  (.ifCond .lt 20, (1, 3), (11, 0, 0, 0), 0, []),
  (.iload_n 1, (4, 1), (0, 0, 0, 0), 0, []),
  (.aload_n 0, (5, 1), (0, 0, 0, 0), 0, []),
  (.getfield 27, (6, 3), (5, 1, 0, 0), 0, []),
  (.if_icmp .ge 12, (9, 3), (11, 0, 0, 0), 0, []),
  (.aload_n 0, (12, 1), (0, 0, 0, 0), 0, []),
  (.getfield 15, (13, 3), (5, 3, 2, 0), 0, []),
  (.iload_n 1, (16, 1), (0, 0, 0, 0), 0, []),
  (.iaload, (17, 1), (0, 0, 0, 0), 0, []),
  (.goto 4, (18, 3), (12, 0, 0, 0), 0, []),
  (.iconst (-1), (21, 1), (0, 0, 0, 0), (-1), []),
  (.ireturn, (22, 1), (0, 0, 0, 0), 0, [])]
def cd_53 : List xz_Op := [(.aload_n 0, (0, 1), (0, 0, 0, 0), 0, []),
  (.getfield 30, (1, 3), (5, 5, 0, 0), 0, []),
  (.istore_n 1, (4, 1), (0, 0, 0, 0), 0, []),
  (.nop, (5, 0), (4, 0, 0, 0), 0, [0, 1]),
  (.iload_n 1, (5, 1), (0, 0, 0, 0), 0, []),
  (.aload_n 0, (6, 1), (0, 0, 0, 0), 0, []),
  (.getfield 23, (7, 3), (5, 0, 0, 0), 0, []),
  (.if_icmp .ge 20, (10, 3), (15, 0, 0, 0), 0, []),
  (.aload_n 0, (13, 1), (0, 0, 0, 0), 0, []),
  (.iload_n 1, (14, 1), (0, 0, 0, 0), 0, []),
  (.invokevirtual 37, (15, 3), (47, 1, 0, 5), 0, []),
  (.invokestatic 67, (18, 3), (43, 1, 0, 5), 0, []),
  (.ifCond .eq 9, (21, 3), (15, 0, 0, 0), 0, []),
  (.iinc 1 1, (24, 3), (0, 0, 0, 0), 1, []),
  (.goto (-22), (27, 3), (3, 0, 0, 0), 0, []),
  (.iconst 0, (30, 1), (0, 0, 0, 0), 0, []),
  (.istore_n 2, (31, 1), (0, 0, 0, 0), 0, []),
  (.nop, (32, 0), (18, 0, 0, 0), 0, [0, 1, 2]),
  (.iload_n 2, (32, 1), (0, 0, 0, 0), 0, []),
  (.iconst 5, (33, 1), (0, 0, 0, 0), 5, []),
  (.if_icmp .ge 28, (34, 3), (34, 0, 0, 0), 0, []),
  (.aload_n 0, (37, 1), (0, 0, 0, 0), 0, []),
  (.iload_n 2, (38, 1), (0, 0, 0, 0), 0, []),
  (.invokestatic 45, (39, 3), (48, 1, 2, 5), 0, []),
  (.iload_n 1, (42, 1), (0, 0, 0, 0), 0, []),
  (.aload_n 0, (43, 1), (0, 0, 0, 0), 0, []),
  (.getfield 30, (44, 3), (5, 5, 0, 0), 0, []),
  (.isub, (47, 1), (0, 0, 0, 0), 0, []),
  (.invokevirtual 70, (48, 3), (44, 2, 0, 5), 0, []),
  (.ifCond .eq 5, (51, 3), (32, 0, 0, 0), 0, []),
  (.iload_n 2, (54, 1), (0, 0, 0, 0), 0, []),
  (.ireturn, (55, 1), (0, 0, 0, 0), 0, []),
  (.iinc 2 1, (56, 3), (0, 0, 0, 0), 1, []),
  (.goto (-27), (59, 3), (17, 0, 0, 0), 0, []),
  (.iconst (-1), (62, 1), (0, 0, 0, 0), (-1), []),
  (.ireturn, (63, 1), (0, 0, 0, 0), 0, [])]
def cd_54 : List xz_Op := [(.aload_n 0, (0, 1), (0, 0, 0, 0), 0, []),
  (.getfield 24, (1, 3), (6, 9, 2, 0), 0, []),
  (.iload_n 2, (4, 1), (0, 0, 0, 0), 0, []),
  (.iaload, (5, 1), (0, 0, 0, 0), 0, []),
  (.aload_n 1, (6, 1), (0, 0, 0, 0), 0, []),
  (.getfield 57, (7, 3), (3, 3, 0, 0), 0, []),
  (.if_icmp .ne 42, (10, 3), (29, 0, 0, 0), 0, []),
  (.iload_n 2, (13, 1), (0, 0, 0, 0), 0, []),
  (.ifCond .ne 10, (14, 3), (12, 0, 0, 0), 0, []),
  (.aload_n 1, (17, 1), (0, 0, 0, 0), 0, []),
  (.getfield 48, (18, 3), (3, 4, 0, 0), 0, []),
  (.goto 19, (21, 3), (22, 0, 0, 0), 0, []),
  (.aload_n 1, (24, 1), (0, 0, 0, 0), 0, []),
  (.getfield 60, (25, 3), (3, 5, 2, 0), 0, []),
  (.getfield 63, (28, 3), (0, 1, 2, 0), 0, []),
  (.aload_n 0, (31, 1), (0, 0, 0, 0), 0, []),
  (.getfield 21, (32, 3), (6, 8, 2, 0), 0, []),
  (.iload_n 2, (35, 1), (0, 0, 0, 0), 0, []),
  (.iconst 1, (36, 1), (0, 0, 0, 0), 1, []),
  (.isub, (37, 1), (0, 0, 0, 0), 0, []),
  (.iaload, (38, 1), (0, 0, 0, 0), 0, []),
  (.iaload, (39, 1), (0, 0, 0, 0), 0, []),
  (.istore 7, (40, 2), (0, 0, 0, 0), 0, []),
  (.aload_n 0, (42, 1), (0, 0, 0, 0), 0, []),
  (.iload_n 2, (43, 1), (0, 0, 0, 0), 0, []),
  (.iload 7, (44, 2), (0, 0, 0, 0), 0, []),
  (.lload 5, (46, 2), (0, 0, 0, 0), 0, []),
  (.invokevirtual 68, (48, 3), (59, 3, 3, 6), 0, []),
  (.return_, (51, 1), (0, 0, 0, 0), 0, []),
  (.iload_n 2, (52, 1), (0, 0, 0, 0), 0, []),
  (.iconst 5, (53, 1), (0, 0, 0, 0), 5, []),
  (.if_icmp .lt 4, (54, 3), (33, 0, 0, 0), 0, []),
  (.return_, (57, 1), (0, 0, 0, 0), 0, []),
  (.iconst 0, (58, 1), (0, 0, 0, 0), 0, []),
  (.istore 7, (59, 2), (0, 0, 0, 0), 0, []),
  (.nop, (61, 0), (36, 0, 0, 0), 0, [0, 1, 2, 3, 4, 5, 7]),
  (.iload 7, (61, 2), (0, 0, 0, 0), 0, []),
  (.aload_n 1, (63, 1), (0, 0, 0, 0), 0, []),
  (.getfield 60, (64, 3), (3, 5, 2, 0), 0, []),
  (.getfield 72, (67, 3), (0, 0, 0, 0), 0, []),
  (.if_icmp .ge 101, (70, 3), (98, 0, 0, 0), 0, []),
  (.aload_n 1, (73, 1), (0, 0, 0, 0), 0, []),
  (.getfield 60, (74, 3), (3, 5, 2, 0), 0, []),
  (.iload 7, (77, 2), (0, 0, 0, 0), 0, []),
  (.aload_n 0, (79, 1), (0, 0, 0, 0), 0, []),
  (.getfield 24, (80, 3), (6, 9, 2, 0), 0, []),
  (.iload_n 2, (83, 1), (0, 0, 0, 0), 0, []),
  (.iaload, (84, 1), (0, 0, 0, 0), 0, []),
  (.iload_n 3, (85, 1), (0, 0, 0, 0), 0, []),
  (.iload 4, (86, 2), (0, 0, 0, 0), 0, []),
  (.invokevirtual 75, (88, 3), (13, 4, 0, 0), 0, []),
  (.istore 8, (91, 2), (0, 0, 0, 0), 0, []),
  (.iload 8, (93, 2), (0, 0, 0, 0), 0, []),
  (.iconst (-1), (95, 1), (0, 0, 0, 0), (-1), []),
  (.if_icmp .eq 69, (96, 3), (96, 0, 0, 0), 0, []),
  (.aload_n 0, (99, 1), (0, 0, 0, 0), 0, []),
  (.getfield 21, (100, 3), (6, 8, 2, 0), 0, []),
  (.iload_n 2, (103, 1), (0, 0, 0, 0), 0, []),
  (.iload 7, (104, 2), (0, 0, 0, 0), 0, []),
  (.iastore, (106, 1), (0, 0, 0, 0), 0, []),
  (.aload_n 0, (107, 1), (0, 0, 0, 0), 0, []),
  (.getfield 24, (108, 3), (6, 9, 2, 0), 0, []),
  (.iload_n 2, (111, 1), (0, 0, 0, 0), 0, []),
  (.iconst 1, (112, 1), (0, 0, 0, 0), 1, []),
  (.iadd, (113, 1), (0, 0, 0, 0), 0, []),
  (.iload 8, (114, 2), (0, 0, 0, 0), 0, []),
  (.iastore, (116, 1), (0, 0, 0, 0), 0, []),
  (.aload_n 0, (117, 1), (0, 0, 0, 0), 0, []),
  (.aload_n 1, (118, 1), (0, 0, 0, 0), 0, []),
  (.iload_n 2, (119, 1), (0, 0, 0, 0), 0, []),
  (.iconst 1, (120, 1), (0, 0, 0, 0), 1, []),
  (.iadd, (121, 1), (0, 0, 0, 0), 0, []),
  (.aload_n 1, (122, 1), (0, 0, 0, 0), 0, []),
  (.getfield 60, (123, 3), (3, 5, 2, 0), 0, []),
  (.getfield 63, (126, 3), (0, 1, 2, 0), 0, []),
  (.iload 7, (129, 2), (0, 0, 0, 0), 0, []),
  (.iaload, (131, 1), (0, 0, 0, 0), 0, []),
  (.aload_n 1, (132, 1), (0, 0, 0, 0), 0, []),
  (.getfield 79, (133, 3), (3, 1, 0, 0), 0, []),
  (.iadd, (136, 1), (0, 0, 0, 0), 0, []),
  (.iload 4, (137, 2), (0, 0, 0, 0), 0, []),
  (.iconst 1, (139, 1), (0, 0, 0, 0), 1, []),
  (.iload 8, (140, 2), (0, 0, 0, 0), 0, []),
  (.ishl, (142, 1), (0, 0, 0, 0), 0, []),
  (.ior, (143, 1), (0, 0, 0, 0), 0, []),
  (.lload 5, (144, 2), (0, 0, 0, 0), 0, []),
  (.ldc2_w 82, (146, 3), (3, 0, 0, 0), 0, []),
  (.ldiv, (149, 1), (0, 0, 0, 0), 0, []),
  (.aload_n 1, (150, 1), (0, 0, 0, 0), 0, []),
  (.getfield 60, (151, 3), (3, 5, 2, 0), 0, []),
  (.getfield 84, (154, 3), (0, 4, 2, 0), 0, []),
  (.iload 7, (157, 2), (0, 0, 0, 0), 0, []),
  (.iaload, (159, 1), (0, 0, 0, 0), 0, []),
  (.i2l, (160, 1), (0, 0, 0, 0), 0, []),
  (.lmul, (161, 1), (0, 0, 0, 0), 0, []),
  (.invokestatic 53, (162, 3), (54, 6, 3, 6), 0, []),
  (.iinc 7 1, (165, 3), (0, 0, 0, 0), 1, []),
  (.goto (-107), (168, 3), (35, 0, 0, 0), 0, []),
  (.return_, (171, 1), (0, 0, 0, 0), 0, [])]
def cd_55 : List xz_Op := [(.aload_n 0, (0, 1), (0, 0, 0, 0), 0, []),
  (.invokespecial 3, (1, 3), (0, 0, 13, 0), 0, []),
  (.aload_n 0, (4, 1), (0, 0, 0, 0), 0, []),
  (.iconst 5, (5, 1), (0, 0, 0, 0), 5, []),
  (.newarray .int, (6, 2), (0, 0, 0, 0), 0, []),
  (.putfield 9, (8, 3), (6, 5, 2, 0), 0, []),
  (.aload_n 0, (11, 1), (0, 0, 0, 0), 0, []),
  (.bipush 6, (12, 2), (0, 0, 0, 0), 6, []),
  (.newarray .int, (14, 2), (0, 0, 0, 0), 0, []),
  (.putfield 15, (16, 3), (6, 6, 2, 0), 0, []),
  (.aload_n 0, (19, 1), (0, 0, 0, 0), 0, []),
  (.bipush 6, (20, 2), (0, 0, 0, 0), 6, []),
  (.newarray .int, (22, 2), (0, 0, 0, 0), 0, []),
  (.putfield 18, (24, 3), (6, 7, 2, 0), 0, []),
  (.aload_n 0, (27, 1), (0, 0, 0, 0), 0, []),
  (.iconst 5, (28, 1), (0, 0, 0, 0), 5, []),
  (.newarray .int, (29, 2), (0, 0, 0, 0), 0, []),
  (.putfield 21, (31, 3), (6, 8, 2, 0), 0, []),
  (.aload_n 0, (34, 1), (0, 0, 0, 0), 0, []),
  (.bipush 6, (35, 2), (0, 0, 0, 0), 6, []),
  (.newarray .int, (37, 2), (0, 0, 0, 0), 0, []),
  (.putfield 24, (39, 3), (6, 9, 2, 0), 0, []),
  (.return_, (42, 1), (0, 0, 0, 0), 0, [])]
def cd_56 : List xz_Op := [(.aload_n 0, (0, 1), (0, 0, 0, 0), 0, []),
  (.getfield 27, (1, 3), (6, 0, 0, 0), 0, []),
  (.iconst 2, (4, 1), (0, 0, 0, 0), 2, []),
  (.if_icmp .ne 27, (5, 3), (18, 0, 0, 0), 0, []),
  (.lload_n 3, (8, 1), (0, 0, 0, 0), 0, []),
  (.aload_n 0, (9, 1), (0, 0, 0, 0), 0, []),
  (.getfield 94, (10, 3), (6, 4, 1, 0), 0, []),
  (.lcmp, (13, 1), (0, 0, 0, 0), 0, []),
  (.ifCond .eq 18, (14, 3), (18, 0, 0, 0), 0, []),
  (.lload_n 3, (17, 1), (0, 0, 0, 0), 0, []),
  (.aload_n 0, (18, 1), (0, 0, 0, 0), 0, []),
  (.getfield 94, (19, 3), (6, 4, 1, 0), 0, []),
  (.lcmp, (22, 1), (0, 0, 0, 0), 0, []),
  (.ifCond .le 7, (23, 3), (16, 0, 0, 0), 0, []),
  (.iconst 1, (26, 1), (0, 0, 0, 0), 1, []),
  (.goto 4, (27, 3), (17, 0, 0, 0), 0, []),
  (.iconst 0, (30, 1), (0, 0, 0, 0), 0, []),
  (.ireturn, (31, 1), (1, 0, 0, 0), 0, []),
  (.aload_n 0, (32, 1), (0, 0, 0, 0), 0, []),
  (.getfield 27, (33, 3), (6, 0, 0, 0), 0, []),
  (.iconst 1, (36, 1), (0, 0, 0, 0), 1, []),
  (.if_icmp .ne 25, (37, 3), (34, 0, 0, 0), 0, []),
  (.iload_n 1, (40, 1), (0, 0, 0, 0), 0, []),
  (.aload_n 0, (41, 1), (0, 0, 0, 0), 0, []),
  (.getfield 34, (42, 3), (6, 2, 0, 0), 0, []),
  (.if_icmp .eq 17, (45, 3), (34, 0, 0, 0), 0, []),
  (.iload_n 1, (48, 1), (0, 0, 0, 0), 0, []),
  (.aload_n 0, (49, 1), (0, 0, 0, 0), 0, []),
  (.getfield 34, (50, 3), (6, 2, 0, 0), 0, []),
  (.if_icmp .ge 7, (53, 3), (32, 0, 0, 0), 0, []),
  (.iconst 1, (56, 1), (0, 0, 0, 0), 1, []),
  (.goto 4, (57, 3), (33, 0, 0, 0), 0, []),
  (.iconst 0, (60, 1), (0, 0, 0, 0), 0, []),
  (.ireturn, (61, 1), (1, 0, 0, 0), 0, []),
  (.iload_n 2, (62, 1), (0, 0, 0, 0), 0, []),
  (.aload_n 0, (63, 1), (0, 0, 0, 0), 0, []),
  (.getfield 91, (64, 3), (6, 3, 0, 0), 0, []),
  (.if_icmp .eq 19, (67, 3), (46, 0, 0, 0), 0, []),
  (.iload_n 2, (70, 1), (0, 0, 0, 0), 0, []),
  (.aload_n 0, (71, 1), (0, 0, 0, 0), 0, []),
  (.getfield 91, (72, 3), (6, 3, 0, 0), 0, []),
  (.if_icmp .ge 7, (75, 3), (44, 0, 0, 0), 0, []),
  (.iconst 1, (78, 1), (0, 0, 0, 0), 1, []),
  (.goto 20, (79, 3), (53, 0, 0, 0), 0, []),
  (.iconst 0, (82, 1), (0, 0, 0, 0), 0, []),
  (.goto 16, (83, 3), (53, 0, 0, 0), 0, []),
  (.iload_n 1, (86, 1), (0, 0, 0, 0), 0, []),
  (.aload_n 0, (87, 1), (0, 0, 0, 0), 0, []),
  (.getfield 34, (88, 3), (6, 2, 0, 0), 0, []),
  (.if_icmp .ge 7, (91, 3), (52, 0, 0, 0), 0, []),
  (.iconst 1, (94, 1), (0, 0, 0, 0), 1, []),
  (.goto 4, (95, 3), (53, 0, 0, 0), 0, []),
  (.iconst 0, (98, 1), (0, 0, 0, 0), 0, []),
  (.ireturn, (99, 1), (1, 0, 0, 0), 0, [])]
def cd_57 : List xz_Op := [(.bipush (-5), (0, 2), (0, 0, 0, 0), (-5), []),
  (.istore_n 2, (2, 1), (0, 0, 0, 0), 0, []),
  (.iconst 0, (3, 1), (0, 0, 0, 0), 0, []),
  (.istore_n 3, (4, 1), (0, 0, 0, 0), 0, []),
  (.nop, (5, 0), (5, 0, 0, 0), 0, [0, 1, 2, 3]),
  (.iload_n 3, (5, 1), (0, 0, 0, 0), 0, []),
  (.iload_n 1, (6, 1), (0, 0, 0, 0), 0, []),
  (.if_icmp .gt 44, (7, 3), (31, 0, 0, 0), 0, []),
  (.iload_n 3, (10, 1), (0, 0, 0, 0), 0, []),
  (.iconst 5, (11, 1), (0, 0, 0, 0), 5, []),
  (.if_icmp .gt 39, (12, 3), (31, 0, 0, 0), 0, []),
  (.aload_n 0, (15, 1), (0, 0, 0, 0), 0, []),
  (.getfield 18, (16, 3), (6, 7, 2, 0), 0, []),
  (.iload_n 3, (19, 1), (0, 0, 0, 0), 0, []),
  (.iaload, (20, 1), (0, 0, 0, 0), 0, []),
  (.ifCond .lt 24, (21, 3), (29, 0, 0, 0), 0, []),
  (.iload_n 2, (24, 1), (0, 0, 0, 0), 0, []),
  (.ifCond .lt 13, (25, 3), (24, 0, 0, 0), 0, []),
  (.aload_n 0, (28, 1), (0, 0, 0, 0), 0, []),
  (.getfield 18, (29, 3), (6, 7, 2, 0), 0, []),
  (.iload_n 3, (32, 1), (0, 0, 0, 0), 0, []),
  (.iaload, (33, 1), (0, 0, 0, 0), 0, []),
  (.iload_n 2, (34, 1), (0, 0, 0, 0), 0, []),
  (.if_icmp .ge 10, (35, 3), (29, 0, 0, 0), 0, []),
  (.aload_n 0, (38, 1), (0, 0, 0, 0), 0, []),
  (.getfield 18, (39, 3), (6, 7, 2, 0), 0, []),
  (.iload_n 3, (42, 1), (0, 0, 0, 0), 0, []),
  (.iaload, (43, 1), (0, 0, 0, 0), 0, []),
  (.istore_n 2, (44, 1), (0, 0, 0, 0), 0, []),
  (.iinc 3 1, (45, 3), (0, 0, 0, 0), 1, []),
  (.goto (-43), (48, 3), (4, 0, 0, 0), 0, []),
  (.iload_n 2, (51, 1), (0, 0, 0, 0), 0, []),
  (.ireturn, (52, 1), (0, 0, 0, 0), 0, [])]
def cd_58 : List xz_Op := [(.aload_n 0, (0, 1), (0, 0, 0, 0), 0, []),
  (.iload_n 2, (1, 1), (0, 0, 0, 0), 0, []),
  (.putfield 27, (2, 3), (6, 0, 0, 0), 0, []),
  (.aload_n 0, (5, 1), (0, 0, 0, 0), 0, []),
  (.iconst 0, (6, 1), (0, 0, 0, 0), 0, []),
  (.putfield 31, (7, 3), (6, 1, 0, 0), 0, []),
  (.aload_n 0, (10, 1), (0, 0, 0, 0), 0, []),
  (.bipush (-5), (11, 2), (0, 0, 0, 0), (-5), []),
  (.putfield 34, (13, 3), (6, 2, 0, 0), 0, []),
  (.aload_n 0, (16, 1), (0, 0, 0, 0), 0, []),
  (.getfield 18, (17, 3), (6, 7, 2, 0), 0, []),
  (.bipush (-5), (20, 2), (0, 0, 0, 0), (-5), []),
  (.invokestatic 37, (22, 3), (197, 2, 3, 0), 0, []),
  (.aload_n 0, (25, 1), (0, 0, 0, 0), 0, []),
  (.getfield 24, (26, 3), (6, 9, 2, 0), 0, []),
  (.iconst 0, (29, 1), (0, 0, 0, 0), 0, []),
  (.aload_n 1, (30, 1), (0, 0, 0, 0), 0, []),
  (.getfield 43, (31, 3), (3, 2, 0, 0), 0, []),
  (.iastore, (34, 1), (0, 0, 0, 0), 0, []),
  (.aload_n 0, (35, 1), (0, 0, 0, 0), 0, []),
  (.aload_n 1, (36, 1), (0, 0, 0, 0), 0, []),
  (.iconst 0, (37, 1), (0, 0, 0, 0), 0, []),
  (.aload_n 1, (38, 1), (0, 0, 0, 0), 0, []),
  (.getfield 48, (39, 3), (3, 4, 0, 0), 0, []),
  (.iconst 1, (42, 1), (0, 0, 0, 0), 1, []),
  (.aload_n 1, (43, 1), (0, 0, 0, 0), 0, []),
  (.getfield 43, (44, 3), (3, 2, 0, 0), 0, []),
  (.ishl, (47, 1), (0, 0, 0, 0), 0, []),
  (.ldc2_w 51, (48, 3), (4, 0, 0, 0), 0, []),
  (.invokestatic 53, (51, 3), (54, 6, 3, 6), 0, []),
  (.return_, (54, 1), (0, 0, 0, 0), 0, [])]
def cd_59 : List xz_Op := [(.aload_n 0, (0, 1), (0, 0, 0, 0), 0, []),
  (.dup, (1, 1), (0, 0, 0, 0), 0, []),
  (.getfield 31, (2, 3), (6, 1, 0, 0), 0, []),
  (.iconst 1, (5, 1), (0, 0, 0, 0), 1, []),
  (.iadd, (6, 1), (0, 0, 0, 0), 0, []),
  (.putfield 31, (7, 3), (6, 1, 0, 0), 0, []),
  (.aload_n 0, (10, 1), (0, 0, 0, 0), 0, []),
  (.getfield 18, (11, 3), (6, 7, 2, 0), 0, []),
  (.iload_n 1, (14, 1), (0, 0, 0, 0), 0, []),
  (.iaload, (15, 1), (0, 0, 0, 0), 0, []),
  (.ifCond .lt 13, (16, 3), (17, 0, 0, 0), 0, []),
  (.iload_n 2, (19, 1), (0, 0, 0, 0), 0, []),
  (.aload_n 0, (20, 1), (0, 0, 0, 0), 0, []),
  (.getfield 18, (21, 3), (6, 7, 2, 0), 0, []),
  (.iload_n 1, (24, 1), (0, 0, 0, 0), 0, []),
  (.iaload, (25, 1), (0, 0, 0, 0), 0, []),
  (.if_icmp .ge 10, (26, 3), (23, 0, 0, 0), 0, []),
  (.nop, (29, 0), (18, 0, 0, 0), 0, [0, 1, 2, 3]),
  (.aload_n 0, (29, 1), (0, 0, 0, 0), 0, []),
  (.getfield 18, (30, 3), (6, 7, 2, 0), 0, []),
  (.iload_n 1, (33, 1), (0, 0, 0, 0), 0, []),
  (.iload_n 2, (34, 1), (0, 0, 0, 0), 0, []),
  (.iastore, (35, 1), (0, 0, 0, 0), 0, []),
  (.nop, (36, 0), (24, 0, 0, 0), 0, [0, 1, 2, 3]),
  (.aload_n 0, (36, 1), (0, 0, 0, 0), 0, []),
  (.getfield 34, (37, 3), (6, 2, 0, 0), 0, []),
  (.ifCond .lt 14, (40, 3), (34, 0, 0, 0), 0, []),
  (.aload_n 0, (43, 1), (0, 0, 0, 0), 0, []),
  (.iload_n 1, (44, 1), (0, 0, 0, 0), 0, []),
  (.iload_n 2, (45, 1), (0, 0, 0, 0), 0, []),
  (.lload_n 3, (46, 1), (0, 0, 0, 0), 0, []),
  (.invokevirtual 87, (47, 3), (56, 3, 0, 6), 0, []),
  (.ifCond .ne 4, (50, 3), (34, 0, 0, 0), 0, []),
  (.return_, (53, 1), (0, 0, 0, 0), 0, []),
  (.nop, (54, 0), (35, 0, 0, 0), 0, [0, 1, 2, 3]),
  (.aload_n 0, (54, 1), (0, 0, 0, 0), 0, []),
  (.iload_n 1, (55, 1), (0, 0, 0, 0), 0, []),
  (.putfield 34, (56, 3), (6, 2, 0, 0), 0, []),
  (.aload_n 0, (59, 1), (0, 0, 0, 0), 0, []),
  (.iload_n 2, (60, 1), (0, 0, 0, 0), 0, []),
  (.putfield 91, (61, 3), (6, 3, 0, 0), 0, []),
  (.aload_n 0, (64, 1), (0, 0, 0, 0), 0, []),
  (.lload_n 3, (65, 1), (0, 0, 0, 0), 0, []),
  (.putfield 94, (66, 3), (6, 4, 1, 0), 0, []),
  (.aload_n 0, (69, 1), (0, 0, 0, 0), 0, []),
  (.getfield 21, (70, 3), (6, 8, 2, 0), 0, []),
  (.iconst 0, (73, 1), (0, 0, 0, 0), 0, []),
  (.aload_n 0, (74, 1), (0, 0, 0, 0), 0, []),
  (.getfield 9, (75, 3), (6, 5, 2, 0), 0, []),
  (.iconst 0, (78, 1), (0, 0, 0, 0), 0, []),
  (.aload_n 0, (79, 1), (0, 0, 0, 0), 0, []),
  (.getfield 34, (80, 3), (6, 2, 0, 0), 0, []),
  (.invokestatic 98, (83, 3), (0, 5, 10, 0), 0, []),
  (.aload_n 0, (86, 1), (0, 0, 0, 0), 0, []),
  (.getfield 24, (87, 3), (6, 9, 2, 0), 0, []),
  (.iconst 0, (90, 1), (0, 0, 0, 0), 0, []),
  (.aload_n 0, (91, 1), (0, 0, 0, 0), 0, []),
  (.getfield 15, (92, 3), (6, 6, 2, 0), 0, []),
  (.iconst 0, (95, 1), (0, 0, 0, 0), 0, []),
  (.aload_n 0, (96, 1), (0, 0, 0, 0), 0, []),
  (.getfield 34, (97, 3), (6, 2, 0, 0), 0, []),
  (.iconst 1, (100, 1), (0, 0, 0, 0), 1, []),
  (.iadd, (101, 1), (0, 0, 0, 0), 0, []),
  (.invokestatic 98, (102, 3), (0, 5, 10, 0), 0, []),
  (.return_, (105, 1), (0, 0, 0, 0), 0, [])]
def cd_60 : List xz_Op := [(.iload_n 1, (0, 1), (0, 0, 0, 0), 0, []),
  (.ifCond .lt 8, (1, 3), (5, 0, 0, 0), 0, []),
  (.iload_n 1, (4, 1), (0, 0, 0, 0), 0, []),
  (.iconst 2, (5, 1), (0, 0, 0, 0), 2, []),
  (.if_icmp .le 5, (6, 3), (7, 0, 0, 0), 0, []),
  (.iconst (-1), (9, 1), (0, 0, 0, 0), (-1), []),
  (.ireturn, (10, 1), (0, 0, 0, 0), 0, []),
  (.aload_n 0, (11, 1), (0, 0, 0, 0), 0, []),
  (.getfield 21, (12, 3), (7, 2, 2, 0), 0, []),
  (.aload_n 0, (15, 1), (0, 0, 0, 0), 0, []),
  (.getfield 12, (16, 3), (7, 0, 2, 0), 0, []),
  (.invokevirtual 245, (19, 3), (25, 1, 3, 3), 0, []),
  (.iconst 0, (22, 1), (0, 0, 0, 0), 0, []),
  (.istore_n 2, (23, 1), (0, 0, 0, 0), 0, []),
  (.nop, (24, 0), (15, 0, 0, 0), 0, [0, 1, 2]),
  (.iload_n 2, (24, 1), (0, 0, 0, 0), 0, []),
  (.aload_n 0, (25, 1), (0, 0, 0, 0), 0, []),
  (.getfield 12, (26, 3), (7, 0, 2, 0), 0, []),
  (.getfield 239, (29, 3), (3, 7, 2, 0), 0, []),
  (.getfield 249, (32, 3), (2, 0, 0, 0), 0, []),
  (.if_icmp .ge 40, (35, 3), (38, 0, 0, 0), 0, []),
  (.aload_n 0, (38, 1), (0, 0, 0, 0), 0, []),
  (.getfield 21, (39, 3), (7, 2, 2, 0), 0, []),
  (.aload_n 0, (42, 1), (0, 0, 0, 0), 0, []),
  (.getfield 12, (43, 3), (7, 0, 2, 0), 0, []),
  (.getfield 239, (46, 3), (3, 7, 2, 0), 0, []),
  (.getfield 250, (49, 3), (2, 2, 2, 0), 0, []),
  (.iload_n 2, (52, 1), (0, 0, 0, 0), 0, []),
  (.iaload, (53, 1), (0, 0, 0, 0), 0, []),
  (.aload_n 0, (54, 1), (0, 0, 0, 0), 0, []),
  (.getfield 12, (55, 3), (7, 0, 2, 0), 0, []),
  (.getfield 239, (58, 3), (3, 7, 2, 0), 0, []),
  (.getfield 253, (61, 3), (2, 3, 2, 0), 0, []),
  (.iload_n 2, (64, 1), (0, 0, 0, 0), 0, []),
  (.iaload, (65, 1), (0, 0, 0, 0), 0, []),
  (.invokevirtual 256, (66, 3), (30, 2, 3, 3), 0, []),
  (.iinc 2 1, (69, 3), (0, 0, 0, 0), 1, []),
  (.goto (-48), (72, 3), (14, 0, 0, 0), 0, []),
  (.iload_n 1, (75, 1), (0, 0, 0, 0), 0, []),
  (.ifCond .ne 36, (76, 3), (55, 0, 0, 0), 0, []),
  (.aload_n 0, (79, 1), (0, 0, 0, 0), 0, []),
  (.getfield 27, (80, 3), (7, 3, 2, 0), 0, []),
  (.aload_n 0, (83, 1), (0, 0, 0, 0), 0, []),
  (.getfield 21, (84, 3), (7, 2, 2, 0), 0, []),
  (.aload_n 0, (87, 1), (0, 0, 0, 0), 0, []),
  (.getfield 21, (88, 3), (7, 2, 2, 0), 0, []),
  (.getfield 124, (91, 3), (3, 4, 0, 0), 0, []),
  (.invokevirtual 177, (94, 3), (14, 2, 3, 1), 0, []),
  (.aload_n 0, (97, 1), (0, 0, 0, 0), 0, []),
  (.getfield 27, (98, 3), (7, 3, 2, 0), 0, []),
  (.aload_n 0, (101, 1), (0, 0, 0, 0), 0, []),
  (.getfield 21, (102, 3), (7, 2, 2, 0), 0, []),
  (.getfield 121, (105, 3), (3, 3, 0, 0), 0, []),
  (.invokevirtual 180, (108, 3), (20, 1, 0, 1), 0, []),
  (.ireturn, (111, 1), (0, 0, 0, 0), 0, []),
  (.aload_n 0, (112, 1), (0, 0, 0, 0), 0, []),
  (.getfield 34, (113, 3), (7, 4, 2, 0), 0, []),
  (.aload_n 0, (116, 1), (0, 0, 0, 0), 0, []),
  (.getfield 21, (117, 3), (7, 2, 2, 0), 0, []),
  (.iconst 1, (120, 1), (0, 0, 0, 0), 1, []),
  (.invokevirtual 127, (121, 3), (58, 2, 3, 6), 0, []),
  (.iload_n 1, (124, 1), (0, 0, 0, 0), 0, []),
  (.iconst 1, (125, 1), (0, 0, 0, 0), 1, []),
  (.if_icmp .ne 13, (126, 3), (68, 0, 0, 0), 0, []),
  (.aload_n 0, (129, 1), (0, 0, 0, 0), 0, []),
  (.getfield 34, (130, 3), (7, 4, 2, 0), 0, []),
  (.getfield 151, (133, 3), (6, 2, 0, 0), 0, []),
  (.goto 10, (136, 3), (71, 0, 0, 0), 0, []),
  (.aload_n 0, (139, 1), (0, 0, 0, 0), 0, []),
  (.getfield 34, (140, 3), (7, 4, 2, 0), 0, []),
  (.getfield 131, (143, 3), (6, 1, 0, 0), 0, []),
  (.ireturn, (146, 1), (0, 0, 0, 0), 0, [])]
def cd_61 : List xz_Op := [(.iload_n 1, (0, 1), (0, 0, 0, 0), 0, []),
  (.ifCond .ge 5, (1, 3), (4, 0, 0, 0), 0, []),
  (.iconst (-1), (4, 1), (0, 0, 0, 0), (-1), []),
  (.ireturn, (5, 1), (0, 0, 0, 0), 0, []),
  (.iconst 0, (6, 1), (0, 0, 0, 0), 0, []),
  (.istore_n 2, (7, 1), (0, 0, 0, 0), 0, []),
  (.nop, (8, 0), (7, 0, 0, 0), 0, [0, 1, 2]),
  (.iload_n 2, (8, 1), (0, 0, 0, 0), 0, []),
  (.aload_n 0, (9, 1), (0, 0, 0, 0), 0, []),
  (.getfield 12, (10, 3), (7, 0, 2, 0), 0, []),
  (.getfield 71, (13, 3), (3, 5, 2, 0), 0, []),
  (.getfield 186, (16, 3), (0, 0, 0, 0), 0, []),
  (.if_icmp .ge 40, (19, 3), (30, 0, 0, 0), 0, []),
  (.aload_n 0, (22, 1), (0, 0, 0, 0), 0, []),
  (.getfield 12, (23, 3), (7, 0, 2, 0), 0, []),
  (.getfield 71, (26, 3), (3, 5, 2, 0), 0, []),
  (.iload_n 2, (29, 1), (0, 0, 0, 0), 0, []),
  (.invokevirtual 189, (30, 3), (7, 1, 0, 0), 0, []),
  (.ifCond .eq 20, (33, 3), (28, 0, 0, 0), 0, []),
  (.aload_n 0, (36, 1), (0, 0, 0, 0), 0, []),
  (.getfield 12, (37, 3), (7, 0, 2, 0), 0, []),
  (.getfield 71, (40, 3), (3, 5, 2, 0), 0, []),
  (.iload_n 2, (43, 1), (0, 0, 0, 0), 0, []),
  (.invokevirtual 192, (44, 3), (5, 1, 0, 0), 0, []),
  (.iload_n 1, (47, 1), (0, 0, 0, 0), 0, []),
  (.if_icmp .ne 5, (48, 3), (28, 0, 0, 0), 0, []),
  (.iload_n 2, (51, 1), (0, 0, 0, 0), 0, []),
  (.ireturn, (52, 1), (0, 0, 0, 0), 0, []),
  (.iinc 2 1, (53, 3), (0, 0, 0, 0), 1, []),
  (.goto (-48), (56, 3), (6, 0, 0, 0), 0, []),
  (.bipush (-5), (59, 2), (0, 0, 0, 0), (-5), []),
  (.ireturn, (61, 1), (0, 0, 0, 0), 0, [])]
def cd_62 : List xz_Op := [(.aload_n 0, (0, 1), (0, 0, 0, 0), 0, []),
  (.getfield 12, (1, 3), (7, 0, 2, 0), 0, []),
  (.iload_n 1, (4, 1), (0, 0, 0, 0), 0, []),
  (.invokevirtual 115, (5, 3), (28, 1, 0, 3), 0, []),
  (.ifCond .eq 14, (8, 3), (10, 0, 0, 0), 0, []),
  (.aload_n 0, (11, 1), (0, 0, 0, 0), 0, []),
  (.getfield 12, (12, 3), (7, 0, 2, 0), 0, []),
  (.iload_n 2, (15, 1), (0, 0, 0, 0), 0, []),
  (.invokevirtual 115, (16, 3), (28, 1, 0, 3), 0, []),
  (.ifCond .ne 5, (19, 3), (12, 0, 0, 0), 0, []),
  (.iconst (-1), (22, 1), (0, 0, 0, 0), (-1), []),
  (.ireturn, (23, 1), (0, 0, 0, 0), 0, []),
  (.iload_n 3, (24, 1), (0, 0, 0, 0), 0, []),
  (.invokestatic 64, (25, 3), (85, 1, 0, 7), 0, []),
  (.ifCond .ne 6, (28, 3), (17, 0, 0, 0), 0, []),
  (.bipush (-2), (31, 2), (0, 0, 0, 0), (-2), []),
  (.ireturn, (33, 1), (0, 0, 0, 0), 0, []),
  (.aload_n 0, (34, 1), (0, 0, 0, 0), 0, []),
  (.getfield 12, (35, 3), (7, 0, 2, 0), 0, []),
  (.iload_n 1, (38, 1), (0, 0, 0, 0), 0, []),
  (.putfield 118, (39, 3), (3, 2, 0, 0), 0, []),
  (.aload_n 0, (42, 1), (0, 0, 0, 0), 0, []),
  (.getfield 12, (43, 3), (7, 0, 2, 0), 0, []),
  (.iload_n 2, (46, 1), (0, 0, 0, 0), 0, []),
  (.putfield 121, (47, 3), (3, 3, 0, 0), 0, []),
  (.aload_n 0, (50, 1), (0, 0, 0, 0), 0, []),
  (.getfield 12, (51, 3), (7, 0, 2, 0), 0, []),
  (.iload_n 3, (54, 1), (0, 0, 0, 0), 0, []),
  (.putfield 124, (55, 3), (3, 4, 0, 0), 0, []),
  (.aload_n 0, (58, 1), (0, 0, 0, 0), 0, []),
  (.getfield 34, (59, 3), (7, 4, 2, 0), 0, []),
  (.aload_n 0, (62, 1), (0, 0, 0, 0), 0, []),
  (.getfield 12, (63, 3), (7, 0, 2, 0), 0, []),
  (.iconst 0, (66, 1), (0, 0, 0, 0), 0, []),
  (.invokevirtual 127, (67, 3), (58, 2, 3, 6), 0, []),
  (.aload_n 0, (70, 1), (0, 0, 0, 0), 0, []),
  (.getfield 34, (71, 3), (7, 4, 2, 0), 0, []),
  (.getfield 131, (74, 3), (6, 1, 0, 0), 0, []),
  (.ireturn, (77, 1), (0, 0, 0, 0), 0, [])]
def cd_63 : List xz_Op := [(.aload_n 0, (0, 1), (0, 0, 0, 0), 0, []),
  (.getfield 12, (1, 3), (7, 0, 2, 0), 0, []),
  (.iload_n 1, (4, 1), (0, 0, 0, 0), 0, []),
  (.iload_n 2, (5, 1), (0, 0, 0, 0), 0, []),
  (.invokevirtual 60, (6, 3), (27, 2, 0, 3), 0, []),
  (.ifCond .ne 5, (9, 3), (8, 0, 0, 0), 0, []),
  (.iconst (-1), (12, 1), (0, 0, 0, 0), (-1), []),
  (.ireturn, (13, 1), (0, 0, 0, 0), 0, []),
  (.iconst 0, (14, 1), (0, 0, 0, 0), 0, []),
  (.istore_n 3, (15, 1), (0, 0, 0, 0), 0, []),
  (.iconst 0, (16, 1), (0, 0, 0, 0), 0, []),
  (.istore 4, (17, 2), (0, 0, 0, 0), 0, []),
  (.nop, (19, 0), (13, 0, 0, 0), 0, [0, 1, 2, 3, 4]),
  (.iload 4, (19, 2), (0, 0, 0, 0), 0, []),
  (.aload_n 0, (21, 1), (0, 0, 0, 0), 0, []),
  (.getfield 12, (22, 3), (7, 0, 2, 0), 0, []),
  (.getfield 71, (25, 3), (3, 5, 2, 0), 0, []),
  (.getfield 186, (28, 3), (0, 0, 0, 0), 0, []),
  (.if_icmp .ge 48, (31, 3), (41, 0, 0, 0), 0, []),
  (.aload_n 0, (34, 1), (0, 0, 0, 0), 0, []),
  (.getfield 12, (35, 3), (7, 0, 2, 0), 0, []),
  (.getfield 71, (38, 3), (3, 5, 2, 0), 0, []),
  (.iload 4, (41, 2), (0, 0, 0, 0), 0, []),
  (.invokevirtual 189, (43, 3), (7, 1, 0, 0), 0, []),
  (.ifCond .eq 27, (46, 3), (39, 0, 0, 0), 0, []),
  (.aload_n 0, (49, 1), (0, 0, 0, 0), 0, []),
  (.getfield 12, (50, 3), (7, 0, 2, 0), 0, []),
  (.getfield 71, (53, 3), (3, 5, 2, 0), 0, []),
  (.iload 4, (56, 2), (0, 0, 0, 0), 0, []),
  (.iload_n 1, (58, 1), (0, 0, 0, 0), 0, []),
  (.invokevirtual 196, (59, 3), (9, 2, 0, 0), 0, []),
  (.iload_n 2, (62, 1), (0, 0, 0, 0), 0, []),
  (.if_icmp .ne 10, (63, 3), (39, 0, 0, 0), 0, []),
  (.iload_n 3, (66, 1), (0, 0, 0, 0), 0, []),
  (.iconst 1, (67, 1), (0, 0, 0, 0), 1, []),
  (.iload 4, (68, 2), (0, 0, 0, 0), 0, []),
  (.ishl, (70, 1), (0, 0, 0, 0), 0, []),
  (.ior, (71, 1), (0, 0, 0, 0), 0, []),
  (.istore_n 3, (72, 1), (0, 0, 0, 0), 0, []),
  (.iinc 4 1, (73, 3), (0, 0, 0, 0), 1, []),
  (.goto (-57), (76, 3), (12, 0, 0, 0), 0, []),
  (.iload_n 3, (79, 1), (0, 0, 0, 0), 0, []),
  (.ireturn, (80, 1), (0, 0, 0, 0), 0, [])]
def cd_64 : List xz_Op := [(.iload_n 1, (0, 1), (0, 0, 0, 0), 0, []),
  (.iconst (-1), (1, 1), (0, 0, 0, 0), (-1), []),
  (.if_icmp .ne 14, (2, 3), (8, 0, 0, 0), 0, []),
  (.aload_n 0, (5, 1), (0, 0, 0, 0), 0, []),
  (.getfield 12, (6, 3), (7, 0, 2, 0), 0, []),
  (.getfield 260, (9, 3), (3, 8, 2, 0), 0, []),
  (.invokevirtual 222, (12, 3), (23, 0, 0, 2), 0, []),
  (.ireturn, (15, 1), (0, 0, 0, 0), 0, []),
  (.aload_n 0, (16, 1), (0, 0, 0, 0), 0, []),
  (.iload_n 1, (17, 1), (0, 0, 0, 0), 0, []),
  (.iload_n 2, (18, 1), (0, 0, 0, 0), 0, []),
  (.invokevirtual 227, (19, 3), (106, 2, 0, 7), 0, []),
  (.istore_n 3, (22, 1), (0, 0, 0, 0), 0, []),
  (.iload_n 3, (23, 1), (0, 0, 0, 0), 0, []),
  (.ifCond .eq 7, (24, 3), (17, 0, 0, 0), 0, []),
  (.iload_n 3, (27, 1), (0, 0, 0, 0), 0, []),
  (.goto 16, (28, 3), (24, 0, 0, 0), 0, []),
  (.aload_n 0, (31, 1), (0, 0, 0, 0), 0, []),
  (.getfield 12, (32, 3), (7, 0, 2, 0), 0, []),
  (.getfield 260, (35, 3), (3, 8, 2, 0), 0, []),
  (.iload_n 1, (38, 1), (0, 0, 0, 0), 0, []),
  (.iload_n 2, (39, 1), (0, 0, 0, 0), 0, []),
  (.iconst 0, (40, 1), (0, 0, 0, 0), 0, []),
  (.invokevirtual 230, (41, 3), (21, 3, 0, 2), 0, []),
  (.ireturn, (44, 1), (0, 0, 0, 0), 0, [])]
def cd_65 : List xz_Op := [(.iload_n 1, (0, 1), (0, 0, 0, 0), 0, []),
  (.ifCond .lt 8, (1, 3), (5, 0, 0, 0), 0, []),
  (.iload_n 1, (4, 1), (0, 0, 0, 0), 0, []),
  (.iconst 5, (5, 1), (0, 0, 0, 0), 5, []),
  (.if_icmp .le 6, (6, 3), (7, 0, 0, 0), 0, []),
  (.bipush (-2), (9, 2), (0, 0, 0, 0), (-2), []),
  (.ireturn, (11, 1), (0, 0, 0, 0), 0, []),
  (.aload_n 0, (12, 1), (0, 0, 0, 0), 0, []),
  (.getfield 34, (13, 3), (7, 4, 2, 0), 0, []),
  (.aload_n 0, (16, 1), (0, 0, 0, 0), 0, []),
  (.getfield 12, (17, 3), (7, 0, 2, 0), 0, []),
  (.iconst 0, (20, 1), (0, 0, 0, 0), 0, []),
  (.invokevirtual 127, (21, 3), (58, 2, 3, 6), 0, []),
  (.aload_n 0, (24, 1), (0, 0, 0, 0), 0, []),
  (.getfield 34, (25, 3), (7, 4, 2, 0), 0, []),
  (.iload_n 1, (28, 1), (0, 0, 0, 0), 0, []),
  (.invokevirtual 183, (29, 3), (57, 1, 0, 6), 0, []),
  (.ireturn, (32, 1), (0, 0, 0, 0), 0, [])]
def cd_66 : List xz_Op := [(.lload_n 0, (0, 1), (0, 0, 0, 0), 0, []),
  (.lstore 4, (1, 2), (0, 0, 0, 0), 0, []),
  (.lload_n 2, (3, 1), (0, 0, 0, 0), 0, []),
  (.lstore 6, (4, 2), (0, 0, 0, 0), 0, []),
  (.iconst 0, (6, 1), (0, 0, 0, 0), 0, []),
  (.istore 8, (7, 2), (0, 0, 0, 0), 0, []),
  (.nop, (9, 0), (7, 0, 0, 0), 0, [4, 6, 8]),
  (.iload 8, (9, 2), (0, 0, 0, 0), 0, []),
  (.sipush 1000, (11, 3), (0, 0, 0, 0), 1000, []),
  (.if_icmp .ge 31, (14, 3), (24, 0, 0, 0), 0, []),
  (.lload 6, (17, 2), (0, 0, 0, 0), 0, []),
  (.lconst 0, (19, 1), (1, 0, 0, 0), 0, []),
  (.lcmp, (20, 1), (0, 0, 0, 0), 0, []),
  (.ifCond .eq 24, (21, 3), (24, 0, 0, 0), 0, []),
  (.lload 4, (24, 2), (0, 0, 0, 0), 0, []),
  (.lload 6, (26, 2), (0, 0, 0, 0), 0, []),
  (.lrem, (28, 1), (0, 0, 0, 0), 0, []),
  (.lstore 9, (29, 2), (0, 0, 0, 0), 0, []),
  (.lload 6, (31, 2), (0, 0, 0, 0), 0, []),
  (.lstore 4, (33, 2), (0, 0, 0, 0), 0, []),
  (.lload 9, (35, 2), (0, 0, 0, 0), 0, []),
  (.lstore 6, (37, 2), (0, 0, 0, 0), 0, []),
  (.iinc 8 1, (39, 3), (0, 0, 0, 0), 1, []),
  (.goto (-33), (42, 3), (6, 0, 0, 0), 0, []),
  (.lconst 1, (45, 1), (2, 0, 0, 0), 0, []),
  (.lload 4, (46, 2), (0, 0, 0, 0), 0, []),
  (.invokestatic 309, (48, 3), (199, 2, 14, 0), 0, []),
  (.lreturn, (51, 1), (0, 0, 0, 0), 0, [])]
def cd_67 : List xz_Op := [(.iload_n 1, (0, 1), (0, 0, 0, 0), 0, []),
  (.tableswitch 72 0 3 #[31, 42, 53, 64], (1, 31), (21, 0, 0, 0), 0, [2, 7, 12, 17]),
  (.aload_n 0, (32, 1), (0, 0, 0, 0), 0, []),
  (.getfield 12, (33, 3), (7, 0, 2, 0), 0, []),
  (.getfield 218, (36, 3), (3, 6, 2, 0), 0, []),
  (.getfield 249, (39, 3), (2, 0, 0, 0), 0, []),
  (.ireturn, (42, 1), (0, 0, 0, 0), 0, []),
  (.aload_n 0, (43, 1), (0, 0, 0, 0), 0, []),
  (.getfield 12, (44, 3), (7, 0, 2, 0), 0, []),
  (.getfield 239, (47, 3), (3, 7, 2, 0), 0, []),
  (.getfield 249, (50, 3), (2, 0, 0, 0), 0, []),
  (.ireturn, (53, 1), (0, 0, 0, 0), 0, []),
  (.aload_n 0, (54, 1), (0, 0, 0, 0), 0, []),
  (.getfield 12, (55, 3), (7, 0, 2, 0), 0, []),
  (.getfield 260, (58, 3), (3, 8, 2, 0), 0, []),
  (.getfield 249, (61, 3), (2, 0, 0, 0), 0, []),
  (.ireturn, (64, 1), (0, 0, 0, 0), 0, []),
  (.aload_n 0, (65, 1), (0, 0, 0, 0), 0, []),
  (.getfield 41, (66, 3), (7, 5, 2, 0), 0, []),
  (.getfield 279, (69, 3), (5, 0, 0, 0), 0, []),
  (.ireturn, (72, 1), (0, 0, 0, 0), 0, []),
  (.bipush (-2), (73, 2), (0, 0, 0, 0), (-2), []),
  (.ireturn, (75, 1), (0, 0, 0, 0), 0, [])]
def cd_68 : List xz_Op := [(.aload_n 0, (0, 1), (0, 0, 0, 0), 0, []),
  (.iload_n 1, (1, 1), (0, 0, 0, 0), 0, []),
  (.invokevirtual 212, (2, 3), (93, 1, 0, 7), 0, []),
  (.ifCond .ne 6, (5, 3), (6, 0, 0, 0), 0, []),
  (.bipush (-2), (8, 2), (0, 0, 0, 0), (-2), []),
  (.ireturn, (10, 1), (0, 0, 0, 0), 0, []),
  (.aload_n 0, (11, 1), (0, 0, 0, 0), 0, []),
  (.iload_n 1, (12, 1), (0, 0, 0, 0), 0, []),
  (.invokevirtual 215, (13, 3), (69, 1, 0, 7), 0, []),
  (.ifCond .eq 7, (16, 3), (12, 0, 0, 0), 0, []),
  (.iconst 1, (19, 1), (0, 0, 0, 0), 1, []),
  (.goto 4, (20, 3), (13, 0, 0, 0), 0, []),
  (.iconst 0, (23, 1), (0, 0, 0, 0), 0, []),
  (.ireturn, (24, 1), (0, 0, 0, 0), 0, [])]
def cd_69 : List xz_Op := [(.aload_n 0, (0, 1), (0, 0, 0, 0), 0, []),
  (.getfield 27, (1, 3), (7, 3, 2, 0), 0, []),
  (.aload_n 0, (4, 1), (0, 0, 0, 0), 0, []),
  (.getfield 12, (5, 3), (7, 0, 2, 0), 0, []),
  (.aload_n 0, (8, 1), (0, 0, 0, 0), 0, []),
  (.getfield 12, (9, 3), (7, 0, 2, 0), 0, []),
  (.getfield 124, (12, 3), (3, 4, 0, 0), 0, []),
  (.iload_n 1, (15, 1), (0, 0, 0, 0), 0, []),
  (.iconst (-1), (16, 1), (0, 0, 0, 0), (-1), []),
  (.invokevirtual 235, (17, 3), (15, 4, 3, 1), 0, []),
  (.aload_n 0, (20, 1), (0, 0, 0, 0), 0, []),
  (.getfield 27, (21, 3), (7, 3, 2, 0), 0, []),
  (.aload_n 0, (24, 1), (0, 0, 0, 0), 0, []),
  (.getfield 12, (25, 3), (7, 0, 2, 0), 0, []),
  (.getfield 121, (28, 3), (3, 3, 0, 0), 0, []),
  (.invokevirtual 180, (31, 3), (20, 1, 0, 1), 0, []),
  (.ifCond .ge 7, (34, 3), (19, 0, 0, 0), 0, []),
  (.iconst 1, (37, 1), (0, 0, 0, 0), 1, []),
  (.goto 4, (38, 3), (20, 0, 0, 0), 0, []),
  (.iconst 0, (41, 1), (0, 0, 0, 0), 0, []),
  (.ireturn, (42, 1), (1, 0, 0, 0), 0, [])]
def cd_70 : List xz_Op := [(.iload_n 1, (0, 1), (0, 0, 0, 0), 0, []),
  (.invokestatic 109, (1, 3), (81, 1, 0, 7), 0, []),
  (.ifCond .ne 6, (4, 3), (5, 0, 0, 0), 0, []),
  (.bipush (-2), (7, 2), (0, 0, 0, 0), (-2), []),
  (.ireturn, (9, 1), (0, 0, 0, 0), 0, []),
  (.aload_n 0, (10, 1), (0, 0, 0, 0), 0, []),
  (.getfield 12, (11, 3), (7, 0, 2, 0), 0, []),
  (.getfield 112, (14, 3), (3, 1, 0, 0), 0, []),
  (.istore_n 2, (17, 1), (0, 0, 0, 0), 0, []),
  (.aload_n 0, (18, 1), (0, 0, 0, 0), 0, []),
  (.getfield 12, (19, 3), (7, 0, 2, 0), 0, []),
  (.iload_n 1, (22, 1), (0, 0, 0, 0), 0, []),
  (.putfield 112, (23, 3), (3, 1, 0, 0), 0, []),
  (.iload_n 2, (26, 1), (0, 0, 0, 0), 0, []),
  (.ireturn, (27, 1), (0, 0, 0, 0), 0, [])]
def cd_71 : List xz_Op := [(.aload_n 0, (0, 1), (0, 0, 0, 0), 0, []),
  (.getfield 12, (1, 3), (7, 0, 2, 0), 0, []),
  (.getfield 71, (4, 3), (3, 5, 2, 0), 0, []),
  (.iload_n 1, (7, 1), (0, 0, 0, 0), 0, []),
  (.invokevirtual 81, (8, 3), (10, 1, 0, 0), 0, []),
  (.istore_n 2, (11, 1), (0, 0, 0, 0), 0, []),
  (.iload_n 2, (12, 1), (0, 0, 0, 0), 0, []),
  (.ifCond .eq 5, (13, 3), (10, 0, 0, 0), 0, []),
  (.iload_n 2, (16, 1), (0, 0, 0, 0), 0, []),
  (.ireturn, (17, 1), (0, 0, 0, 0), 0, []),
  (.aload_n 0, (18, 1), (0, 0, 0, 0), 0, []),
  (.getfield 12, (19, 3), (7, 0, 2, 0), 0, []),
  (.getfield 71, (22, 3), (3, 5, 2, 0), 0, []),
  (.iload_n 1, (25, 1), (0, 0, 0, 0), 0, []),
  (.invokevirtual 85, (26, 3), (11, 1, 3, 0), 0, []),
  (.aload_n 0, (29, 1), (0, 0, 0, 0), 0, []),
  (.getfield 12, (30, 3), (7, 0, 2, 0), 0, []),
  (.getfield 71, (33, 3), (3, 5, 2, 0), 0, []),
  (.invokevirtual 88, (36, 3), (8, 0, 0, 0), 0, []),
  (.ireturn, (39, 1), (0, 0, 0, 0), 0, [])]
def cd_72 : List xz_Op := [(.iload_n 1, (0, 1), (0, 0, 0, 0), 0, []),
  (.iconst (-1), (1, 1), (0, 0, 0, 0), (-1), []),
  (.if_icmp .ne 14, (2, 3), (8, 0, 0, 0), 0, []),
  (.aload_n 0, (5, 1), (0, 0, 0, 0), 0, []),
  (.getfield 12, (6, 3), (7, 0, 2, 0), 0, []),
  (.getfield 239, (9, 3), (3, 7, 2, 0), 0, []),
  (.invokevirtual 222, (12, 3), (23, 0, 0, 2), 0, []),
  (.ireturn, (15, 1), (0, 0, 0, 0), 0, []),
  (.aload_n 0, (16, 1), (0, 0, 0, 0), 0, []),
  (.iload_n 1, (17, 1), (0, 0, 0, 0), 0, []),
  (.iload_n 2, (18, 1), (0, 0, 0, 0), 0, []),
  (.invokevirtual 242, (19, 3), (73, 2, 0, 7), 0, []),
  (.istore_n 3, (22, 1), (0, 0, 0, 0), 0, []),
  (.iload_n 3, (23, 1), (0, 0, 0, 0), 0, []),
  (.ifCond .eq 7, (24, 3), (17, 0, 0, 0), 0, []),
  (.iload_n 3, (27, 1), (0, 0, 0, 0), 0, []),
  (.goto 16, (28, 3), (24, 0, 0, 0), 0, []),
  (.aload_n 0, (31, 1), (0, 0, 0, 0), 0, []),
  (.getfield 12, (32, 3), (7, 0, 2, 0), 0, []),
  (.getfield 239, (35, 3), (3, 7, 2, 0), 0, []),
  (.iload_n 1, (38, 1), (0, 0, 0, 0), 0, []),
  (.iload_n 2, (39, 1), (0, 0, 0, 0), 0, []),
  (.iconst 0, (40, 1), (0, 0, 0, 0), 0, []),
  (.invokevirtual 230, (41, 3), (21, 3, 0, 2), 0, []),
  (.ireturn, (44, 1), (0, 0, 0, 0), 0, [])]
def cd_73 : List xz_Op := [(.iload_n 1, (0, 1), (0, 0, 0, 0), 0, []),
  (.tableswitch 96 0 3 #[31, 51, 65, 82], (1, 31), (35, 0, 0, 0), 0, [2, 12, 19, 28]),
  (.aload_n 0, (32, 1), (0, 0, 0, 0), 0, []),
  (.getfield 12, (33, 3), (7, 0, 2, 0), 0, []),
  (.getfield 71, (36, 3), (3, 5, 2, 0), 0, []),
  (.iload_n 2, (39, 1), (0, 0, 0, 0), 0, []),
  (.invokevirtual 334, (40, 3), (4, 1, 0, 0), 0, []),
  (.ifCond .eq 7, (43, 3), (10, 0, 0, 0), 0, []),
  (.iconst 0, (46, 1), (0, 0, 0, 0), 0, []),
  (.goto 4, (47, 3), (11, 0, 0, 0), 0, []),
  (.iconst (-1), (50, 1), (0, 0, 0, 0), (-1), []),
  (.ireturn, (51, 1), (0, 0, 0, 0), 0, []),
  (.iload_n 2, (52, 1), (0, 0, 0, 0), 0, []),
  (.invokestatic 109, (53, 3), (81, 1, 0, 7), 0, []),
  (.ifCond .eq 7, (56, 3), (17, 0, 0, 0), 0, []),
  (.iconst 0, (59, 1), (0, 0, 0, 0), 0, []),
  (.goto 5, (60, 3), (18, 0, 0, 0), 0, []),
  (.bipush (-2), (63, 2), (0, 0, 0, 0), (-2), []),
  (.ireturn, (65, 1), (0, 0, 0, 0), 0, []),
  (.aload_n 0, (66, 1), (0, 0, 0, 0), 0, []),
  (.getfield 12, (67, 3), (7, 0, 2, 0), 0, []),
  (.iload_n 2, (70, 1), (0, 0, 0, 0), 0, []),
  (.invokevirtual 115, (71, 3), (28, 1, 0, 3), 0, []),
  (.ifCond .eq 7, (74, 3), (26, 0, 0, 0), 0, []),
  (.iconst 0, (77, 1), (0, 0, 0, 0), 0, []),
  (.goto 4, (78, 3), (27, 0, 0, 0), 0, []),
  (.iconst (-1), (81, 1), (0, 0, 0, 0), (-1), []),
  (.ireturn, (82, 1), (0, 0, 0, 0), 0, []),
  (.iload_n 2, (83, 1), (0, 0, 0, 0), 0, []),
  (.invokestatic 64, (84, 3), (85, 1, 0, 7), 0, []),
  (.ifCond .eq 7, (87, 3), (33, 0, 0, 0), 0, []),
  (.iconst 0, (90, 1), (0, 0, 0, 0), 0, []),
  (.goto 5, (91, 3), (34, 0, 0, 0), 0, []),
  (.bipush (-2), (94, 2), (0, 0, 0, 0), (-2), []),
  (.ireturn, (96, 1), (0, 0, 0, 0), 0, []),
  (.iconst (-1), (97, 1), (0, 0, 0, 0), (-1), []),
  (.ireturn, (98, 1), (0, 0, 0, 0), 0, [])]
def cd_74 : List xz_Op := [(.iload_n 1, (0, 1), (0, 0, 0, 0), 0, []),
  (.ifCond .lt 9, (1, 3), (5, 0, 0, 0), 0, []),
  (.iload_n 1, (4, 1), (0, 0, 0, 0), 0, []),
  (.bipush 127, (5, 2), (0, 0, 0, 0), 127, []),
  (.if_icmp .le 6, (7, 3), (7, 0, 0, 0), 0, []),
  (.bipush (-2), (10, 2), (0, 0, 0, 0), (-2), []),
  (.ireturn, (12, 1), (0, 0, 0, 0), 0, []),
  (.aload_n 0, (13, 1), (0, 0, 0, 0), 0, []),
  (.getfield 41, (14, 3), (7, 5, 2, 0), 0, []),
  (.iload_n 1, (17, 1), (0, 0, 0, 0), 0, []),
  (.invokevirtual 134, (18, 3), (39, 1, 0, 5), 0, []),
  (.ireturn, (21, 1), (0, 0, 0, 0), 0, [])]
def cd_75 : List xz_Op := [(.iload_n 1, (0, 1), (0, 0, 0, 0), 0, []),
  (.ifCond .eq 10, (1, 3), (7, 0, 0, 0), 0, []),
  (.iload_n 1, (4, 1), (0, 0, 0, 0), 0, []),
  (.iconst 1, (5, 1), (0, 0, 0, 0), 1, []),
  (.if_icmp .eq 5, (6, 3), (7, 0, 0, 0), 0, []),
  (.iconst (-1), (9, 1), (0, 0, 0, 0), (-1), []),
  (.ireturn, (10, 1), (0, 0, 0, 0), 0, []),
  (.iconst 0, (11, 1), (0, 0, 0, 0), 0, []),
  (.istore_n 2, (12, 1), (0, 0, 0, 0), 0, []),
  (.bipush (-5), (13, 2), (0, 0, 0, 0), (-5), []),
  (.istore_n 3, (15, 1), (0, 0, 0, 0), 0, []),
  (.iconst 0, (16, 1), (0, 0, 0, 0), 0, []),
  (.istore 4, (17, 2), (0, 0, 0, 0), 0, []),
  (.nop, (19, 0), (14, 0, 0, 0), 0, [0, 1, 2, 3, 4]),
  (.iload 4, (19, 2), (0, 0, 0, 0), 0, []),
  (.bipush 20, (21, 2), (0, 0, 0, 0), 20, []),
  (.if_icmp .gt 32, (23, 3), (30, 0, 0, 0), 0, []),
  (.aload_n 0, (26, 1), (0, 0, 0, 0), 0, []),
  (.iload 4, (27, 2), (0, 0, 0, 0), 0, []),
  (.invokevirtual 232, (29, 3), (80, 1, 0, 7), 0, []),
  (.ifCond .eq 17, (32, 3), (28, 0, 0, 0), 0, []),
  (.iload_n 2, (35, 1), (0, 0, 0, 0), 0, []),
  (.ifCond .ne 8, (36, 3), (25, 0, 0, 0), 0, []),
  (.iload 4, (39, 2), (0, 0, 0, 0), 0, []),
  (.goto 4, (41, 3), (26, 0, 0, 0), 0, []),
  (.iload_n 3, (44, 1), (0, 0, 0, 0), 0, []),
  (.istore_n 3, (45, 1), (0, 0, 0, 0), 0, []),
  (.iinc 2 1, (46, 3), (0, 0, 0, 0), 1, []),
  (.iinc 4 1, (49, 3), (0, 0, 0, 0), 1, []),
  (.goto (-33), (52, 3), (13, 0, 0, 0), 0, []),
  (.iload_n 1, (55, 1), (0, 0, 0, 0), 0, []),
  (.ifCond .ne 7, (56, 3), (34, 0, 0, 0), 0, []),
  (.iload_n 2, (59, 1), (0, 0, 0, 0), 0, []),
  (.goto 4, (60, 3), (35, 0, 0, 0), 0, []),
  (.iload_n 3, (63, 1), (0, 0, 0, 0), 0, []),
  (.ireturn, (64, 1), (0, 0, 0, 0), 0, [])]
def cd_76 : List xz_Op := [(.iload_n 0, (0, 1), (0, 0, 0, 0), 0, []),
  (.iload_n 1, (1, 1), (0, 0, 0, 0), 0, []),
  (.ishr, (2, 1), (0, 0, 0, 0), 0, []),
  (.iconst 1, (3, 1), (0, 0, 0, 0), 1, []),
  (.iand, (4, 1), (0, 0, 0, 0), 0, []),
  (.ifCond .eq 7, (5, 3), (8, 0, 0, 0), 0, []),
  (.iconst 1, (8, 1), (0, 0, 0, 0), 1, []),
  (.goto 4, (9, 3), (9, 0, 0, 0), 0, []),
  (.iconst 0, (12, 1), (0, 0, 0, 0), 0, []),
  (.ireturn, (13, 1), (1, 0, 0, 0), 0, [])]
def cd_77 : List xz_Op := [(.iload_n 1, (0, 1), (0, 0, 0, 0), 0, []),
  (.invokestatic 148, (1, 3), (83, 1, 0, 7), 0, []),
  (.ifCond .ne 6, (4, 3), (5, 0, 0, 0), 0, []),
  (.bipush (-2), (7, 2), (0, 0, 0, 0), (-2), []),
  (.ireturn, (9, 1), (0, 0, 0, 0), 0, []),
  (.aload_n 0, (10, 1), (0, 0, 0, 0), 0, []),
  (.getfield 34, (11, 3), (7, 4, 2, 0), 0, []),
  (.aload_n 0, (14, 1), (0, 0, 0, 0), 0, []),
  (.getfield 12, (15, 3), (7, 0, 2, 0), 0, []),
  (.iload_n 1, (18, 1), (0, 0, 0, 0), 0, []),
  (.invokevirtual 127, (19, 3), (58, 2, 3, 6), 0, []),
  (.aload_n 0, (22, 1), (0, 0, 0, 0), 0, []),
  (.getfield 34, (23, 3), (7, 4, 2, 0), 0, []),
  (.getfield 151, (26, 3), (6, 2, 0, 0), 0, []),
  (.ifCond .ge 6, (29, 3), (17, 0, 0, 0), 0, []),
  (.bipush (-5), (32, 2), (0, 0, 0, 0), (-5), []),
  (.ireturn, (34, 1), (0, 0, 0, 0), 0, []),
  (.iload_n 2, (35, 1), (0, 0, 0, 0), 0, []),
  (.ifCond .lt 14, (36, 3), (24, 0, 0, 0), 0, []),
  (.iload_n 2, (39, 1), (0, 0, 0, 0), 0, []),
  (.aload_n 0, (40, 1), (0, 0, 0, 0), 0, []),
  (.getfield 34, (41, 3), (7, 4, 2, 0), 0, []),
  (.getfield 151, (44, 3), (6, 2, 0, 0), 0, []),
  (.if_icmp .le 7, (47, 3), (26, 0, 0, 0), 0, []),
  (.iconst (-1), (50, 1), (0, 0, 0, 0), (-1), []),
  (.goto 12, (51, 3), (31, 0, 0, 0), 0, []),
  (.aload_n 0, (54, 1), (0, 0, 0, 0), 0, []),
  (.getfield 34, (55, 3), (7, 4, 2, 0), 0, []),
  (.getfield 159, (58, 3), (6, 6, 2, 0), 0, []),
  (.iload_n 2, (61, 1), (0, 0, 0, 0), 0, []),
  (.iaload, (62, 1), (0, 0, 0, 0), 0, []),
  (.ireturn, (63, 1), (0, 0, 0, 0), 0, [])]
def cd_78 : List xz_Op := [(.aload_n 0, (0, 1), (0, 0, 0, 0), 0, []),
  (.getfield 18, (1, 3), (7, 1, 2, 0), 0, []),
  (.aload_n 0, (4, 1), (0, 0, 0, 0), 0, []),
  (.getfield 12, (5, 3), (7, 0, 2, 0), 0, []),
  (.invokevirtual 245, (8, 3), (25, 1, 3, 3), 0, []),
  (.aload_n 0, (11, 1), (0, 0, 0, 0), 0, []),
  (.iconst 1, (12, 1), (0, 0, 0, 0), 1, []),
  (.putfield 275, (13, 3), (7, 7, 3, 0), 0, []),
  (.aload_n 0, (16, 1), (0, 0, 0, 0), 0, []),
  (.getfield 12, (17, 3), (7, 0, 2, 0), 0, []),
  (.getfield 71, (20, 3), (3, 5, 2, 0), 0, []),
  (.invokevirtual 88, (23, 3), (8, 0, 0, 0), 0, []),
  (.ireturn, (26, 1), (0, 0, 0, 0), 0, [])]
def cd_79 : List xz_Op := [(.aload_n 0, (0, 1), (0, 0, 0, 0), 0, []),
  (.invokespecial 3, (1, 3), (0, 0, 13, 0), 0, []),
  (.aload_n 0, (4, 1), (0, 0, 0, 0), 0, []),
  (.new 9, (5, 3), (3, 9, 0, 0), 0, []),
  (.dup, (8, 1), (0, 0, 0, 0), 0, []),
  (.invokespecial 11, (9, 3), (26, 0, 3, 3), 0, []),
  (.putfield 12, (12, 3), (7, 0, 2, 0), 0, []),
  (.aload_n 0, (15, 1), (0, 0, 0, 0), 0, []),
  (.new 9, (16, 3), (3, 9, 0, 0), 0, []),
  (.dup, (19, 1), (0, 0, 0, 0), 0, []),
  (.invokespecial 11, (20, 3), (26, 0, 3, 3), 0, []),
  (.putfield 18, (23, 3), (7, 1, 2, 0), 0, []),
  (.aload_n 0, (26, 1), (0, 0, 0, 0), 0, []),
  (.new 9, (27, 3), (3, 9, 0, 0), 0, []),
  (.dup, (30, 1), (0, 0, 0, 0), 0, []),
  (.invokespecial 11, (31, 3), (26, 0, 3, 3), 0, []),
  (.putfield 21, (34, 3), (7, 2, 2, 0), 0, []),
  (.aload_n 0, (37, 1), (0, 0, 0, 0), 0, []),
  (.new 24, (38, 3), (1, 1, 0, 0), 0, []),
  (.dup, (41, 1), (0, 0, 0, 0), 0, []),
  (.invokespecial 26, (42, 3), (19, 0, 3, 1), 0, []),
  (.putfield 27, (45, 3), (7, 3, 2, 0), 0, []),
  (.aload_n 0, (48, 1), (0, 0, 0, 0), 0, []),
  (.new 31, (49, 3), (6, 10, 0, 0), 0, []),
  (.dup, (52, 1), (0, 0, 0, 0), 0, []),
  (.invokespecial 33, (53, 3), (55, 0, 3, 6), 0, []),
  (.putfield 34, (56, 3), (7, 4, 2, 0), 0, []),
  (.aload_n 0, (59, 1), (0, 0, 0, 0), 0, []),
  (.new 38, (60, 3), (5, 6, 0, 0), 0, []),
  (.dup, (63, 1), (0, 0, 0, 0), 0, []),
  (.invokespecial 40, (64, 3), (41, 0, 3, 5), 0, []),
  (.putfield 41, (67, 3), (7, 5, 2, 0), 0, []),
  (.aload_n 0, (70, 1), (0, 0, 0, 0), 0, []),
  (.new 45, (71, 3), (4, 3, 0, 0), 0, []),
  (.dup, (74, 1), (0, 0, 0, 0), 0, []),
  (.invokespecial 47, (75, 3), (36, 0, 3, 4), 0, []),
  (.putfield 48, (78, 3), (7, 6, 2, 0), 0, []),
  (.return_, (81, 1), (0, 0, 0, 0), 0, [])]
def cd_80 : List xz_Op := [(.aload_n 0, (0, 1), (0, 0, 0, 0), 0, []),
  (.getfield 27, (1, 3), (7, 3, 2, 0), 0, []),
  (.aload_n 0, (4, 1), (0, 0, 0, 0), 0, []),
  (.getfield 12, (5, 3), (7, 0, 2, 0), 0, []),
  (.iload_n 1, (8, 1), (0, 0, 0, 0), 0, []),
  (.invokevirtual 177, (9, 3), (14, 2, 3, 1), 0, []),
  (.iconst 0, (12, 1), (0, 0, 0, 0), 0, []),
  (.istore_n 2, (13, 1), (0, 0, 0, 0), 0, []),
  (.nop, (14, 0), (9, 0, 0, 0), 0, [0, 2]),
  (.iload_n 2, (14, 1), (0, 0, 0, 0), 0, []),
  (.aload_n 0, (15, 1), (0, 0, 0, 0), 0, []),
  (.getfield 12, (16, 3), (7, 0, 2, 0), 0, []),
  (.getfield 218, (19, 3), (3, 6, 2, 0), 0, []),
  (.getfield 249, (22, 3), (2, 0, 0, 0), 0, []),
  (.if_icmp .ge 84, (25, 3), (56, 0, 0, 0), 0, []),
  (.aload_n 0, (28, 1), (0, 0, 0, 0), 0, []),
  (.getfield 27, (29, 3), (7, 3, 2, 0), 0, []),
  (.aload_n 0, (32, 1), (0, 0, 0, 0), 0, []),
  (.getfield 12, (33, 3), (7, 0, 2, 0), 0, []),
  (.getfield 218, (36, 3), (3, 6, 2, 0), 0, []),
  (.getfield 250, (39, 3), (2, 2, 2, 0), 0, []),
  (.iload_n 2, (42, 1), (0, 0, 0, 0), 0, []),
  (.iaload, (43, 1), (0, 0, 0, 0), 0, []),
  (.invokevirtual 180, (44, 3), (20, 1, 0, 1), 0, []),
  (.istore_n 3, (47, 1), (0, 0, 0, 0), 0, []),
  (.iload_n 3, (48, 1), (0, 0, 0, 0), 0, []),
  (.ifCond .lt 23, (49, 3), (37, 0, 0, 0), 0, []),
  (.iload_n 3, (52, 1), (0, 0, 0, 0), 0, []),
  (.aload_n 0, (53, 1), (0, 0, 0, 0), 0, []),
  (.getfield 12, (54, 3), (7, 0, 2, 0), 0, []),
  (.getfield 218, (57, 3), (3, 6, 2, 0), 0, []),
  (.getfield 253, (60, 3), (2, 3, 2, 0), 0, []),
  (.iload_n 2, (63, 1), (0, 0, 0, 0), 0, []),
  (.iaload, (64, 1), (0, 0, 0, 0), 0, []),
  (.if_icmp .gt 7, (65, 3), (37, 0, 0, 0), 0, []),
  (.iconst 1, (68, 1), (0, 0, 0, 0), 1, []),
  (.goto 4, (69, 3), (38, 0, 0, 0), 0, []),
  (.iconst 0, (72, 1), (0, 0, 0, 0), 0, []),
  (.istore 4, (73, 2), (0, 0, 0, 0), 0, []),
  (.iload 4, (75, 2), (0, 0, 0, 0), 0, []),
  (.aload_n 0, (77, 1), (0, 0, 0, 0), 0, []),
  (.getfield 12, (78, 3), (7, 0, 2, 0), 0, []),
  (.getfield 218, (81, 3), (3, 6, 2, 0), 0, []),
  (.getfield 345, (84, 3), (2, 4, 2, 0), 0, []),
  (.iload_n 2, (87, 1), (0, 0, 0, 0), 0, []),
  (.iaload, (88, 1), (0, 0, 0, 0), 0, []),
  (.iconst 1, (89, 1), (0, 0, 0, 0), 1, []),
  (.if_icmp .ne 7, (90, 3), (50, 0, 0, 0), 0, []),
  (.iconst 1, (93, 1), (0, 0, 0, 0), 1, []),
  (.goto 4, (94, 3), (51, 0, 0, 0), 0, []),
  (.iconst 0, (97, 1), (0, 0, 0, 0), 0, []),
  (.if_icmp .eq 5, (98, 3), (54, 0, 0, 0), 0, []),
  (.iconst 0, (101, 1), (0, 0, 0, 0), 0, []),
  (.ireturn, (102, 1), (1, 0, 0, 0), 0, []),
  (.iinc 2 1, (103, 3), (0, 0, 0, 0), 1, []),
  (.goto (-92), (106, 3), (8, 0, 0, 0), 0, []),
  (.iconst 1, (109, 1), (0, 0, 0, 0), 1, []),
  (.ireturn, (110, 1), (1, 0, 0, 0), 0, [])]
def cd_81 : List xz_Op := [(.iload_n 0, (0, 1), (0, 0, 0, 0), 0, []),
  (.ifCond .lt 13, (1, 3), (7, 0, 0, 0), 0, []),
  (.iload_n 0, (4, 1), (0, 0, 0, 0), 0, []),
  (.bipush 9, (5, 2), (0, 0, 0, 0), 9, []),
  (.if_icmp .gt 7, (7, 3), (7, 0, 0, 0), 0, []),
  (.iconst 1, (10, 1), (0, 0, 0, 0), 1, []),
  (.goto 4, (11, 3), (8, 0, 0, 0), 0, []),
  (.iconst 0, (14, 1), (0, 0, 0, 0), 0, []),
  (.ireturn, (15, 1), (1, 0, 0, 0), 0, [])]
def cd_82 : List xz_Op := [(.iload_n 0, (0, 1), (0, 0, 0, 0), 0, []),
  (.ifCond .eq 8, (1, 3), (5, 0, 0, 0), 0, []),
  (.iload_n 0, (4, 1), (0, 0, 0, 0), 0, []),
  (.iconst 1, (5, 1), (0, 0, 0, 0), 1, []),
  (.if_icmp .ne 7, (6, 3), (7, 0, 0, 0), 0, []),
  (.iconst 1, (9, 1), (0, 0, 0, 0), 1, []),
  (.goto 4, (10, 3), (8, 0, 0, 0), 0, []),
  (.iconst 0, (13, 1), (0, 0, 0, 0), 0, []),
  (.ireturn, (14, 1), (1, 0, 0, 0), 0, [])]
def cd_83 : List xz_Op := [(.iload_n 0, (0, 1), (0, 0, 0, 0), 0, []),
  (.ifCond .lt 12, (1, 3), (7, 0, 0, 0), 0, []),
  (.iload_n 0, (4, 1), (0, 0, 0, 0), 0, []),
  (.iconst 2, (5, 1), (0, 0, 0, 0), 2, []),
  (.if_icmp .gt 7, (6, 3), (7, 0, 0, 0), 0, []),
  (.iconst 1, (9, 1), (0, 0, 0, 0), 1, []),
  (.goto 4, (10, 3), (8, 0, 0, 0), 0, []),
  (.iconst 0, (13, 1), (0, 0, 0, 0), 0, []),
  (.ireturn, (14, 1), (1, 0, 0, 0), 0, [])]
def cd_84 : List xz_Op := [(.iload_n 0, (0, 1), (0, 0, 0, 0), 0, []),
  (.iconst 1, (1, 1), (0, 0, 0, 0), 1, []),
  (.if_icmp .lt 13, (2, 3), (8, 0, 0, 0), 0, []),
  (.iload_n 0, (5, 1), (0, 0, 0, 0), 0, []),
  (.bipush 100, (6, 2), (0, 0, 0, 0), 100, []),
  (.if_icmp .gt 7, (8, 3), (8, 0, 0, 0), 0, []),
  (.iconst 1, (11, 1), (0, 0, 0, 0), 1, []),
  (.goto 4, (12, 3), (9, 0, 0, 0), 0, []),
  (.iconst 0, (15, 1), (0, 0, 0, 0), 0, []),
  (.ireturn, (16, 1), (1, 0, 0, 0), 0, [])]
def cd_85 : List xz_Op := [(.iload_n 0, (0, 1), (0, 0, 0, 0), 0, []),
  (.ifCond .lt 13, (1, 3), (7, 0, 0, 0), 0, []),
  (.iload_n 0, (4, 1), (0, 0, 0, 0), 0, []),
  (.bipush 99, (5, 2), (0, 0, 0, 0), 99, []),
  (.if_icmp .gt 7, (7, 3), (7, 0, 0, 0), 0, []),
  (.iconst 1, (10, 1), (0, 0, 0, 0), 1, []),
  (.goto 4, (11, 3), (8, 0, 0, 0), 0, []),
  (.iconst 0, (14, 1), (0, 0, 0, 0), 0, []),
  (.ireturn, (15, 1), (1, 0, 0, 0), 0, [])]
def cd_86 : List xz_Op := [(.aload_n 0, (0, 1), (0, 0, 0, 0), 0, []),
  (.getfield 48, (1, 3), (7, 6, 2, 0), 0, []),
  (.iload_n 1, (4, 1), (0, 0, 0, 0), 0, []),
  (.invokevirtual 263, (5, 3), (37, 1, 0, 4), 0, []),
  (.ifCond .ne 5, (8, 3), (7, 0, 0, 0), 0, []),
  (.iconst (-1), (11, 1), (0, 0, 0, 0), (-1), []),
  (.ireturn, (12, 1), (0, 0, 0, 0), 0, []),
  (.aload_n 0, (13, 1), (0, 0, 0, 0), 0, []),
  (.getfield 48, (14, 3), (7, 6, 2, 0), 0, []),
  (.iload_n 1, (17, 1), (0, 0, 0, 0), 0, []),
  (.invokevirtual 266, (18, 3), (35, 1, 0, 4), 0, []),
  (.ifCond .ne 6, (21, 3), (14, 0, 0, 0), 0, []),
  (.bipush (-11), (24, 2), (0, 0, 0, 0), (-11), []),
  (.ireturn, (26, 1), (0, 0, 0, 0), 0, []),
  (.aload_n 0, (27, 1), (0, 0, 0, 0), 0, []),
  (.getfield 48, (28, 3), (7, 6, 2, 0), 0, []),
  (.iload_n 1, (31, 1), (0, 0, 0, 0), 0, []),
  (.iload_n 2, (32, 1), (0, 0, 0, 0), 0, []),
  (.invokevirtual 284, (33, 3), (33, 2, 0, 4), 0, []),
  (.ifCond .eq 16, (36, 3), (27, 0, 0, 0), 0, []),
  (.aload_n 0, (39, 1), (0, 0, 0, 0), 0, []),
  (.getfield 48, (40, 3), (7, 6, 2, 0), 0, []),
  (.iload_n 1, (43, 1), (0, 0, 0, 0), 0, []),
  (.iload_n 2, (44, 1), (0, 0, 0, 0), 0, []),
  (.lload_n 3, (45, 1), (0, 0, 0, 0), 0, []),
  (.invokevirtual 287, (46, 3), (38, 3, 0, 4), 0, []),
  (.goto 5, (49, 3), (28, 0, 0, 0), 0, []),
  (.bipush (-13), (52, 2), (0, 0, 0, 0), (-13), []),
  (.ireturn, (54, 1), (0, 0, 0, 0), 0, [])]
def cd_87 : List xz_Op := [(.aload_n 0, (0, 1), (0, 0, 0, 0), 0, []),
  (.getfield 48, (1, 3), (7, 6, 2, 0), 0, []),
  (.iload_n 1, (4, 1), (0, 0, 0, 0), 0, []),
  (.invokevirtual 263, (5, 3), (37, 1, 0, 4), 0, []),
  (.ifCond .ne 5, (8, 3), (7, 0, 0, 0), 0, []),
  (.iconst (-1), (11, 1), (0, 0, 0, 0), (-1), []),
  (.ireturn, (12, 1), (0, 0, 0, 0), 0, []),
  (.aload_n 0, (13, 1), (0, 0, 0, 0), 0, []),
  (.getfield 48, (14, 3), (7, 6, 2, 0), 0, []),
  (.iload_n 1, (17, 1), (0, 0, 0, 0), 0, []),
  (.invokevirtual 266, (18, 3), (35, 1, 0, 4), 0, []),
  (.ifCond .eq 18, (21, 3), (20, 0, 0, 0), 0, []),
  (.aload_n 0, (24, 1), (0, 0, 0, 0), 0, []),
  (.getfield 48, (25, 3), (7, 6, 2, 0), 0, []),
  (.getfield 269, (28, 3), (4, 0, 2, 0), 0, []),
  (.iload_n 1, (31, 1), (0, 0, 0, 0), 0, []),
  (.iaload, (32, 1), (0, 0, 0, 0), 0, []),
  (.ifCond .eq 6, (33, 3), (20, 0, 0, 0), 0, []),
  (.bipush (-12), (36, 2), (0, 0, 0, 0), (-12), []),
  (.ireturn, (38, 1), (0, 0, 0, 0), 0, []),
  (.aload_n 0, (39, 1), (0, 0, 0, 0), 0, []),
  (.getfield 12, (40, 3), (7, 0, 2, 0), 0, []),
  (.getfield 118, (43, 3), (3, 2, 0, 0), 0, []),
  (.aload_n 0, (46, 1), (0, 0, 0, 0), 0, []),
  (.getfield 12, (47, 3), (7, 0, 2, 0), 0, []),
  (.getfield 121, (50, 3), (3, 3, 0, 0), 0, []),
  (.if_icmp .ne 6, (53, 3), (29, 0, 0, 0), 0, []),
  (.bipush (-5), (56, 2), (0, 0, 0, 0), (-5), []),
  (.ireturn, (58, 1), (0, 0, 0, 0), 0, []),
  (.iload_n 2, (59, 1), (0, 0, 0, 0), 0, []),
  (.ifCond .ge 8, (60, 3), (33, 0, 0, 0), 0, []),
  (.bipush 100, (63, 2), (0, 0, 0, 0), 100, []),
  (.goto 9, (65, 3), (37, 0, 0, 0), 0, []),
  (.aload_n 0, (68, 1), (0, 0, 0, 0), 0, []),
  (.iload_n 1, (69, 1), (0, 0, 0, 0), 0, []),
  (.iload_n 2, (70, 1), (0, 0, 0, 0), 0, []),
  (.invokevirtual 272, (71, 3), (88, 2, 0, 7), 0, []),
  (.ireturn, (74, 1), (0, 0, 0, 0), 0, [])]
def cd_88 : List xz_Op := [(.aload_n 0, (0, 1), (0, 0, 0, 0), 0, []),
  (.getfield 12, (1, 3), (7, 0, 2, 0), 0, []),
  (.getfield 118, (4, 3), (3, 2, 0, 0), 0, []),
  (.istore_n 3, (7, 1), (0, 0, 0, 0), 0, []),
  (.aload_n 0, (8, 1), (0, 0, 0, 0), 0, []),
  (.getfield 12, (9, 3), (7, 0, 2, 0), 0, []),
  (.getfield 124, (12, 3), (3, 4, 0, 0), 0, []),
  (.istore 4, (15, 2), (0, 0, 0, 0), 0, []),
  (.iconst 1, (17, 1), (0, 0, 0, 0), 1, []),
  (.iload_n 3, (18, 1), (0, 0, 0, 0), 0, []),
  (.ishl, (19, 1), (0, 0, 0, 0), 0, []),
  (.istore 5, (20, 2), (0, 0, 0, 0), 0, []),
  (.iconst 0, (22, 1), (0, 0, 0, 0), 0, []),
  (.istore 6, (23, 2), (0, 0, 0, 0), 0, []),
  (.iload_n 2, (25, 1), (0, 0, 0, 0), 0, []),
  (.istore 7, (26, 2), (0, 0, 0, 0), 0, []),
  (.nop, (28, 0), (17, 0, 0, 0), 0, [0, 1, 3, 4, 5, 6, 7]),
  (.iload 7, (28, 2), (0, 0, 0, 0), 0, []),
  (.aload_n 0, (30, 1), (0, 0, 0, 0), 0, []),
  (.getfield 48, (31, 3), (7, 6, 2, 0), 0, []),
  (.getfield 348, (34, 3), (4, 1, 2, 0), 0, []),
  (.iload_n 1, (37, 1), (0, 0, 0, 0), 0, []),
  (.iaload, (38, 1), (0, 0, 0, 0), 0, []),
  (.if_icmp .ge 105, (39, 3), (76, 0, 0, 0), 0, []),
  (.aload_n 0, (42, 1), (0, 0, 0, 0), 0, []),
  (.getfield 48, (43, 3), (7, 6, 2, 0), 0, []),
  (.getfield 291, (46, 3), (4, 2, 2, 0), 0, []),
  (.iload_n 1, (49, 1), (0, 0, 0, 0), 0, []),
  (.aaload, (50, 1), (0, 0, 0, 0), 0, []),
  (.iload 7, (51, 2), (0, 0, 0, 0), 0, []),
  (.laload, (53, 1), (0, 0, 0, 0), 0, []),
  (.l2i, (54, 1), (0, 0, 0, 0), 0, []),
  (.istore 8, (55, 2), (0, 0, 0, 0), 0, []),
  (.aload_n 0, (57, 1), (0, 0, 0, 0), 0, []),
  (.getfield 12, (58, 3), (7, 0, 2, 0), 0, []),
  (.getfield 71, (61, 3), (3, 5, 2, 0), 0, []),
  (.iload 8, (64, 2), (0, 0, 0, 0), 0, []),
  (.iload_n 3, (66, 1), (0, 0, 0, 0), 0, []),
  (.iload 4, (67, 2), (0, 0, 0, 0), 0, []),
  (.iload 5, (69, 2), (0, 0, 0, 0), 0, []),
  (.invokevirtual 350, (71, 3), (13, 4, 0, 0), 0, []),
  (.istore 9, (74, 2), (0, 0, 0, 0), 0, []),
  (.iload 9, (76, 2), (0, 0, 0, 0), 0, []),
  (.iconst (-1), (78, 1), (0, 0, 0, 0), (-1), []),
  (.if_icmp .ne 6, (79, 3), (47, 0, 0, 0), 0, []),
  (.iload 6, (82, 2), (0, 0, 0, 0), 0, []),
  (.ireturn, (84, 1), (0, 0, 0, 0), 0, []),
  (.iload 9, (85, 2), (0, 0, 0, 0), 0, []),
  (.aload_n 0, (87, 1), (0, 0, 0, 0), 0, []),
  (.getfield 12, (88, 3), (7, 0, 2, 0), 0, []),
  (.getfield 121, (91, 3), (3, 3, 0, 0), 0, []),
  (.if_icmp .ne 6, (94, 3), (54, 0, 0, 0), 0, []),
  (.bipush (-5), (97, 2), (0, 0, 0, 0), (-5), []),
  (.ireturn, (99, 1), (0, 0, 0, 0), 0, []),
  (.iload 9, (100, 2), (0, 0, 0, 0), 0, []),
  (.istore_n 3, (102, 1), (0, 0, 0, 0), 0, []),
  (.aload_n 0, (103, 1), (0, 0, 0, 0), 0, []),
  (.getfield 12, (104, 3), (7, 0, 2, 0), 0, []),
  (.getfield 71, (107, 3), (3, 5, 2, 0), 0, []),
  (.getfield 96, (110, 3), (0, 1, 2, 0), 0, []),
  (.iload 8, (113, 2), (0, 0, 0, 0), 0, []),
  (.iaload, (115, 1), (0, 0, 0, 0), 0, []),
  (.aload_n 0, (116, 1), (0, 0, 0, 0), 0, []),
  (.getfield 12, (117, 3), (7, 0, 2, 0), 0, []),
  (.getfield 112, (120, 3), (3, 1, 0, 0), 0, []),
  (.iadd, (123, 1), (0, 0, 0, 0), 0, []),
  (.istore 4, (124, 2), (0, 0, 0, 0), 0, []),
  (.iload 5, (126, 2), (0, 0, 0, 0), 0, []),
  (.iconst 1, (128, 1), (0, 0, 0, 0), 1, []),
  (.iload 9, (129, 2), (0, 0, 0, 0), 0, []),
  (.ishl, (131, 1), (0, 0, 0, 0), 0, []),
  (.ior, (132, 1), (0, 0, 0, 0), 0, []),
  (.istore 5, (133, 2), (0, 0, 0, 0), 0, []),
  (.iinc 6 1, (135, 3), (0, 0, 0, 0), 1, []),
  (.iinc 7 1, (138, 3), (0, 0, 0, 0), 1, []),
  (.goto (-113), (141, 3), (16, 0, 0, 0), 0, []),
  (.bipush 100, (144, 2), (0, 0, 0, 0), 100, []),
  (.iload 6, (146, 2), (0, 0, 0, 0), 0, []),
  (.iadd, (148, 1), (0, 0, 0, 0), 0, []),
  (.ireturn, (149, 1), (0, 0, 0, 0), 0, [])]
def cd_89 : List xz_Op := [(.bipush 99, (0, 2), (0, 0, 0, 0), 99, []),
  (.istore_n 1, (2, 1), (0, 0, 0, 0), 0, []),
  (.nop, (3, 0), (3, 0, 0, 0), 0, [0, 1]),
  (.iload_n 1, (3, 1), (0, 0, 0, 0), 0, []),
  (.ifCond .lt 40, (4, 3), (22, 0, 0, 0), 0, []),
  (.aload_n 0, (7, 1), (0, 0, 0, 0), 0, []),
  (.getfield 27, (8, 3), (7, 3, 2, 0), 0, []),
  (.aload_n 0, (11, 1), (0, 0, 0, 0), 0, []),
  (.getfield 12, (12, 3), (7, 0, 2, 0), 0, []),
  (.iload_n 1, (15, 1), (0, 0, 0, 0), 0, []),
  (.invokevirtual 177, (16, 3), (14, 2, 3, 1), 0, []),
  (.aload_n 0, (19, 1), (0, 0, 0, 0), 0, []),
  (.getfield 27, (20, 3), (7, 3, 2, 0), 0, []),
  (.aload_n 0, (23, 1), (0, 0, 0, 0), 0, []),
  (.getfield 12, (24, 3), (7, 0, 2, 0), 0, []),
  (.getfield 121, (27, 3), (3, 3, 0, 0), 0, []),
  (.invokevirtual 180, (30, 3), (20, 1, 0, 1), 0, []),
  (.ifCond .lt 5, (33, 3), (20, 0, 0, 0), 0, []),
  (.iload_n 1, (36, 1), (0, 0, 0, 0), 0, []),
  (.ireturn, (37, 1), (0, 0, 0, 0), 0, []),
  (.iinc 1 (-1), (38, 3), (0, 0, 0, 0), (-1), []),
  (.goto (-38), (41, 3), (2, 0, 0, 0), 0, []),
  (.bipush (-5), (44, 2), (0, 0, 0, 0), (-5), []),
  (.ireturn, (46, 1), (0, 0, 0, 0), 0, [])]
def cd_90 : List xz_Op := [(.bipush (-5), (0, 2), (0, 0, 0, 0), (-5), []),
  (.istore_n 1, (2, 1), (0, 0, 0, 0), 0, []),
  (.bipush 7, (3, 2), (0, 0, 0, 0), 7, []),
  (.istore_n 2, (5, 1), (0, 0, 0, 0), 0, []),
  (.iconst 0, (6, 1), (0, 0, 0, 0), 0, []),
  (.istore_n 3, (7, 1), (0, 0, 0, 0), 0, []),
  (.nop, (8, 0), (7, 0, 0, 0), 0, [0, 1, 2, 3]),
  (.iload_n 3, (8, 1), (0, 0, 0, 0), 0, []),
  (.iconst 1, (9, 1), (0, 0, 0, 0), 1, []),
  (.aload_n 0, (10, 1), (0, 0, 0, 0), 0, []),
  (.getfield 12, (11, 3), (7, 0, 2, 0), 0, []),
  (.getfield 52, (14, 3), (3, 0, 0, 0), 0, []),
  (.ishl, (17, 1), (0, 0, 0, 0), 0, []),
  (.if_icmp .ge 42, (18, 3), (34, 0, 0, 0), 0, []),
  (.iload_n 3, (21, 1), (0, 0, 0, 0), 0, []),
  (.invokestatic 340, (22, 3), (196, 1, 0, 0), 0, []),
  (.istore 4, (25, 2), (0, 0, 0, 0), 0, []),
  (.iload 4, (27, 2), (0, 0, 0, 0), 0, []),
  (.iload_n 2, (29, 1), (0, 0, 0, 0), 0, []),
  (.if_icmp .ge 24, (30, 3), (32, 0, 0, 0), 0, []),
  (.aload_n 0, (33, 1), (0, 0, 0, 0), 0, []),
  (.iload_n 3, (34, 1), (0, 0, 0, 0), 0, []),
  (.invokevirtual 212, (35, 3), (93, 1, 0, 7), 0, []),
  (.ifCond .eq 16, (38, 3), (32, 0, 0, 0), 0, []),
  (.aload_n 0, (41, 1), (0, 0, 0, 0), 0, []),
  (.iload_n 3, (42, 1), (0, 0, 0, 0), 0, []),
  (.invokevirtual 215, (43, 3), (69, 1, 0, 7), 0, []),
  (.ifCond .eq 8, (46, 3), (32, 0, 0, 0), 0, []),
  (.iload_n 3, (49, 1), (0, 0, 0, 0), 0, []),
  (.istore_n 1, (50, 1), (0, 0, 0, 0), 0, []),
  (.iload 4, (51, 2), (0, 0, 0, 0), 0, []),
  (.istore_n 2, (53, 1), (0, 0, 0, 0), 0, []),
  (.iinc 3 1, (54, 3), (0, 0, 0, 0), 1, []),
  (.goto (-49), (57, 3), (6, 0, 0, 0), 0, []),
  (.iload_n 1, (60, 1), (0, 0, 0, 0), 0, []),
  (.ireturn, (61, 1), (0, 0, 0, 0), 0, [])]
def cd_91 : List xz_Op := [(.aload_n 0, (0, 1), (0, 0, 0, 0), 0, []),
  (.getfield 27, (1, 3), (7, 3, 2, 0), 0, []),
  (.aload_n 0, (4, 1), (0, 0, 0, 0), 0, []),
  (.getfield 12, (5, 3), (7, 0, 2, 0), 0, []),
  (.aload_n 0, (8, 1), (0, 0, 0, 0), 0, []),
  (.getfield 12, (9, 3), (7, 0, 2, 0), 0, []),
  (.getfield 124, (12, 3), (3, 4, 0, 0), 0, []),
  (.invokevirtual 177, (15, 3), (14, 2, 3, 1), 0, []),
  (.iconst 0, (18, 1), (0, 0, 0, 0), 0, []),
  (.istore_n 1, (19, 1), (0, 0, 0, 0), 0, []),
  (.nop, (20, 0), (11, 0, 0, 0), 0, [0, 1]),
  (.iload_n 1, (20, 1), (0, 0, 0, 0), 0, []),
  (.aload_n 0, (21, 1), (0, 0, 0, 0), 0, []),
  (.getfield 12, (22, 3), (7, 0, 2, 0), 0, []),
  (.getfield 260, (25, 3), (3, 8, 2, 0), 0, []),
  (.getfield 249, (28, 3), (2, 0, 0, 0), 0, []),
  (.if_icmp .ge 45, (31, 3), (37, 0, 0, 0), 0, []),
  (.aload_n 0, (34, 1), (0, 0, 0, 0), 0, []),
  (.getfield 27, (35, 3), (7, 3, 2, 0), 0, []),
  (.aload_n 0, (38, 1), (0, 0, 0, 0), 0, []),
  (.getfield 12, (39, 3), (7, 0, 2, 0), 0, []),
  (.getfield 260, (42, 3), (3, 8, 2, 0), 0, []),
  (.getfield 250, (45, 3), (2, 2, 2, 0), 0, []),
  (.iload_n 1, (48, 1), (0, 0, 0, 0), 0, []),
  (.iaload, (49, 1), (0, 0, 0, 0), 0, []),
  (.invokevirtual 180, (50, 3), (20, 1, 0, 1), 0, []),
  (.aload_n 0, (53, 1), (0, 0, 0, 0), 0, []),
  (.getfield 12, (54, 3), (7, 0, 2, 0), 0, []),
  (.getfield 260, (57, 3), (3, 8, 2, 0), 0, []),
  (.getfield 253, (60, 3), (2, 3, 2, 0), 0, []),
  (.iload_n 1, (63, 1), (0, 0, 0, 0), 0, []),
  (.iaload, (64, 1), (0, 0, 0, 0), 0, []),
  (.if_icmp .eq 5, (65, 3), (35, 0, 0, 0), 0, []),
  (.iload_n 1, (68, 1), (0, 0, 0, 0), 0, []),
  (.ireturn, (69, 1), (0, 0, 0, 0), 0, []),
  (.iinc 1 1, (70, 3), (0, 0, 0, 0), 1, []),
  (.goto (-53), (73, 3), (10, 0, 0, 0), 0, []),
  (.bipush (-5), (76, 2), (0, 0, 0, 0), (-5), []),
  (.ireturn, (78, 1), (0, 0, 0, 0), 0, [])]
def cd_92 : List xz_Op := [(.lload_n 0, (0, 1), (0, 0, 0, 0), 0, []),
  (.lload_n 2, (1, 1), (0, 0, 0, 0), 0, []),
  (.invokestatic 305, (2, 3), (66, 2, 1, 7), 0, []),
  (.lstore 5, (5, 2), (0, 0, 0, 0), 0, []),
  (.iload 4, (7, 2), (0, 0, 0, 0), 0, []),
  (.ifCond .ne 10, (9, 3), (10, 0, 0, 0), 0, []),
  (.lload_n 0, (12, 1), (0, 0, 0, 0), 0, []),
  (.lload 5, (13, 2), (0, 0, 0, 0), 0, []),
  (.ldiv, (15, 1), (0, 0, 0, 0), 0, []),
  (.goto 7, (16, 3), (13, 0, 0, 0), 0, []),
  (.lload_n 2, (19, 1), (0, 0, 0, 0), 0, []),
  (.lload 5, (20, 2), (0, 0, 0, 0), 0, []),
  (.ldiv, (22, 1), (0, 0, 0, 0), 0, []),
  (.lreturn, (23, 1), (0, 0, 0, 0), 0, [])]
def cd_93 : List xz_Op := [(.iload_n 1, (0, 1), (0, 0, 0, 0), 0, []),
  (.ifCond .lt 48, (1, 3), (23, 0, 0, 0), 0, []),
  (.iload_n 1, (4, 1), (0, 0, 0, 0), 0, []),
  (.iconst 1, (5, 1), (0, 0, 0, 0), 1, []),
  (.aload_n 0, (6, 1), (0, 0, 0, 0), 0, []),
  (.getfield 12, (7, 3), (7, 0, 2, 0), 0, []),
  (.getfield 52, (10, 3), (3, 0, 0, 0), 0, []),
  (.ishl, (13, 1), (0, 0, 0, 0), 0, []),
  (.if_icmp .ge 35, (14, 3), (23, 0, 0, 0), 0, []),
  (.iload_n 1, (17, 1), (0, 0, 0, 0), 0, []),
  (.aload_n 0, (18, 1), (0, 0, 0, 0), 0, []),
  (.getfield 12, (19, 3), (7, 0, 2, 0), 0, []),
  (.getfield 118, (22, 3), (3, 2, 0, 0), 0, []),
  (.invokestatic 337, (25, 3), (76, 2, 0, 7), 0, []),
  (.ifCond .ne 21, (28, 3), (23, 0, 0, 0), 0, []),
  (.iload_n 1, (31, 1), (0, 0, 0, 0), 0, []),
  (.aload_n 0, (32, 1), (0, 0, 0, 0), 0, []),
  (.getfield 12, (33, 3), (7, 0, 2, 0), 0, []),
  (.getfield 121, (36, 3), (3, 3, 0, 0), 0, []),
  (.invokestatic 337, (39, 3), (76, 2, 0, 7), 0, []),
  (.ifCond .ne 7, (42, 3), (23, 0, 0, 0), 0, []),
  (.iconst 1, (45, 1), (0, 0, 0, 0), 1, []),
  (.goto 4, (46, 3), (24, 0, 0, 0), 0, []),
  (.iconst 0, (49, 1), (0, 0, 0, 0), 0, []),
  (.ireturn, (50, 1), (1, 0, 0, 0), 0, [])]
def cd_94 : List xz_Op := [(.iload_n 1, (0, 1), (0, 0, 0, 0), 0, []),
  (.invokestatic 162, (1, 3), (82, 1, 0, 7), 0, []),
  (.ifCond .ne 7, (4, 3), (5, 0, 0, 0), 0, []),
  (.ldc2_w 165, (7, 3), (5, 0, 0, 0), 0, []),
  (.lreturn, (10, 1), (0, 0, 0, 0), 0, []),
  (.aload_n 0, (11, 1), (0, 0, 0, 0), 0, []),
  (.getfield 27, (12, 3), (7, 3, 2, 0), 0, []),
  (.aload_n 0, (15, 1), (0, 0, 0, 0), 0, []),
  (.getfield 12, (16, 3), (7, 0, 2, 0), 0, []),
  (.aload_n 0, (19, 1), (0, 0, 0, 0), 0, []),
  (.getfield 12, (20, 3), (7, 0, 2, 0), 0, []),
  (.getfield 124, (23, 3), (3, 4, 0, 0), 0, []),
  (.invokevirtual 177, (26, 3), (14, 2, 3, 1), 0, []),
  (.iconst 0, (29, 1), (0, 0, 0, 0), 0, []),
  (.istore_n 2, (30, 1), (0, 0, 0, 0), 0, []),
  (.iconst 0, (31, 1), (0, 0, 0, 0), 0, []),
  (.istore_n 3, (32, 1), (0, 0, 0, 0), 0, []),
  (.iconst 0, (33, 1), (0, 0, 0, 0), 0, []),
  (.istore 4, (34, 2), (0, 0, 0, 0), 0, []),
  (.nop, (36, 0), (20, 0, 0, 0), 0, [0, 1, 2, 3, 4]),
  (.iload 4, (36, 2), (0, 0, 0, 0), 0, []),
  (.aload_n 0, (38, 1), (0, 0, 0, 0), 0, []),
  (.getfield 12, (39, 3), (7, 0, 2, 0), 0, []),
  (.getfield 52, (42, 3), (3, 0, 0, 0), 0, []),
  (.if_icmp .ge 36, (45, 3), (40, 0, 0, 0), 0, []),
  (.aload_n 0, (48, 1), (0, 0, 0, 0), 0, []),
  (.getfield 27, (49, 3), (7, 3, 2, 0), 0, []),
  (.iload 4, (52, 2), (0, 0, 0, 0), 0, []),
  (.invokevirtual 180, (54, 3), (20, 1, 0, 1), 0, []),
  (.ifCond .lt 18, (57, 3), (38, 0, 0, 0), 0, []),
  (.iload_n 2, (60, 1), (0, 0, 0, 0), 0, []),
  (.aload_n 0, (61, 1), (0, 0, 0, 0), 0, []),
  (.getfield 27, (62, 3), (7, 3, 2, 0), 0, []),
  (.iload 4, (65, 2), (0, 0, 0, 0), 0, []),
  (.invokevirtual 180, (67, 3), (20, 1, 0, 1), 0, []),
  (.iadd, (70, 1), (0, 0, 0, 0), 0, []),
  (.istore_n 2, (71, 1), (0, 0, 0, 0), 0, []),
  (.iinc 3 1, (72, 3), (0, 0, 0, 0), 1, []),
  (.iinc 4 1, (75, 3), (0, 0, 0, 0), 1, []),
  (.goto (-42), (78, 3), (19, 0, 0, 0), 0, []),
  (.iload_n 2, (81, 1), (0, 0, 0, 0), 0, []),
  (.i2l, (82, 1), (0, 0, 0, 0), 0, []),
  (.iload_n 3, (83, 1), (0, 0, 0, 0), 0, []),
  (.i2l, (84, 1), (0, 0, 0, 0), 0, []),
  (.iload_n 1, (85, 1), (0, 0, 0, 0), 0, []),
  (.invokestatic 173, (86, 3), (92, 3, 1, 7), 0, []),
  (.lreturn, (89, 1), (0, 0, 0, 0), 0, [])]
def cd_95 : List xz_Op := [(.aload_n 0, (0, 1), (0, 0, 0, 0), 0, []),
  (.getfield 12, (1, 3), (7, 0, 2, 0), 0, []),
  (.iload_n 2, (4, 1), (0, 0, 0, 0), 0, []),
  (.iload_n 3, (5, 1), (0, 0, 0, 0), 0, []),
  (.invokevirtual 60, (6, 3), (27, 2, 0, 3), 0, []),
  (.ifCond .ne 5, (9, 3), (8, 0, 0, 0), 0, []),
  (.iconst (-1), (12, 1), (0, 0, 0, 0), (-1), []),
  (.ireturn, (13, 1), (0, 0, 0, 0), 0, []),
  (.iload_n 1, (14, 1), (0, 0, 0, 0), 0, []),
  (.invokestatic 64, (15, 3), (85, 1, 0, 7), 0, []),
  (.ifCond .eq 11, (18, 3), (14, 0, 0, 0), 0, []),
  (.iload 4, (21, 2), (0, 0, 0, 0), 0, []),
  (.invokestatic 68, (23, 3), (84, 1, 0, 7), 0, []),
  (.ifCond .ne 6, (26, 3), (16, 0, 0, 0), 0, []),
  (.bipush (-2), (29, 2), (0, 0, 0, 0), (-2), []),
  (.ireturn, (31, 1), (0, 0, 0, 0), 0, []),
  (.aload_n 0, (32, 1), (0, 0, 0, 0), 0, []),
  (.getfield 12, (33, 3), (7, 0, 2, 0), 0, []),
  (.getfield 71, (36, 3), (3, 5, 2, 0), 0, []),
  (.iload_n 1, (39, 1), (0, 0, 0, 0), 0, []),
  (.iload_n 2, (40, 1), (0, 0, 0, 0), 0, []),
  (.iload_n 3, (41, 1), (0, 0, 0, 0), 0, []),
  (.iload 4, (42, 2), (0, 0, 0, 0), 0, []),
  (.invokevirtual 75, (44, 3), (1, 4, 0, 0), 0, []),
  (.ireturn, (47, 1), (0, 0, 0, 0), 0, [])]
def cd_96 : List xz_Op := [(.iload_n 2, (0, 1), (0, 0, 0, 0), 0, []),
  (.ifCond .lt 8, (1, 3), (5, 0, 0, 0), 0, []),
  (.iload_n 2, (4, 1), (0, 0, 0, 0), 0, []),
  (.iconst 3, (5, 1), (0, 0, 0, 0), 3, []),
  (.if_icmp .le 5, (6, 3), (7, 0, 0, 0), 0, []),
  (.iconst (-1), (9, 1), (0, 0, 0, 0), (-1), []),
  (.ireturn, (10, 1), (0, 0, 0, 0), 0, []),
  (.aload_n 0, (11, 1), (0, 0, 0, 0), 0, []),
  (.getfield 12, (12, 3), (7, 0, 2, 0), 0, []),
  (.getfield 71, (15, 3), (3, 5, 2, 0), 0, []),
  (.iload_n 1, (18, 1), (0, 0, 0, 0), 0, []),
  (.invokevirtual 81, (19, 3), (10, 1, 0, 0), 0, []),
  (.istore_n 3, (22, 1), (0, 0, 0, 0), 0, []),
  (.iload_n 3, (23, 1), (0, 0, 0, 0), 0, []),
  (.ifCond .eq 5, (24, 3), (17, 0, 0, 0), 0, []),
  (.iload_n 3, (27, 1), (0, 0, 0, 0), 0, []),
  (.ireturn, (28, 1), (0, 0, 0, 0), 0, []),
  (.iload_n 2, (29, 1), (0, 0, 0, 0), 0, []),
  (.tableswitch 65 0 2 #[26, 39, 52], (30, 26), (40, 0, 0, 0), 0, [19, 26, 33]),
  (.aload_n 0, (56, 1), (0, 0, 0, 0), 0, []),
  (.getfield 12, (57, 3), (7, 0, 2, 0), 0, []),
  (.getfield 71, (60, 3), (3, 5, 2, 0), 0, []),
  (.getfield 96, (63, 3), (0, 1, 2, 0), 0, []),
  (.iload_n 1, (66, 1), (0, 0, 0, 0), 0, []),
  (.iaload, (67, 1), (0, 0, 0, 0), 0, []),
  (.ireturn, (68, 1), (0, 0, 0, 0), 0, []),
  (.aload_n 0, (69, 1), (0, 0, 0, 0), 0, []),
  (.getfield 12, (70, 3), (7, 0, 2, 0), 0, []),
  (.getfield 71, (73, 3), (3, 5, 2, 0), 0, []),
  (.getfield 100, (76, 3), (0, 2, 2, 0), 0, []),
  (.iload_n 1, (79, 1), (0, 0, 0, 0), 0, []),
  (.iaload, (80, 1), (0, 0, 0, 0), 0, []),
  (.ireturn, (81, 1), (0, 0, 0, 0), 0, []),
  (.aload_n 0, (82, 1), (0, 0, 0, 0), 0, []),
  (.getfield 12, (83, 3), (7, 0, 2, 0), 0, []),
  (.getfield 71, (86, 3), (3, 5, 2, 0), 0, []),
  (.getfield 103, (89, 3), (0, 3, 2, 0), 0, []),
  (.iload_n 1, (92, 1), (0, 0, 0, 0), 0, []),
  (.iaload, (93, 1), (0, 0, 0, 0), 0, []),
  (.ireturn, (94, 1), (0, 0, 0, 0), 0, []),
  (.aload_n 0, (95, 1), (0, 0, 0, 0), 0, []),
  (.getfield 12, (96, 3), (7, 0, 2, 0), 0, []),
  (.getfield 71, (99, 3), (3, 5, 2, 0), 0, []),
  (.getfield 106, (102, 3), (0, 4, 2, 0), 0, []),
  (.iload_n 1, (105, 1), (0, 0, 0, 0), 0, []),
  (.iaload, (106, 1), (0, 0, 0, 0), 0, []),
  (.ireturn, (107, 1), (0, 0, 0, 0), 0, [])]
def cd_97 : List xz_Op := [(.aload_n 0, (0, 1), (0, 0, 0, 0), 0, []),
  (.getfield 41, (1, 3), (7, 5, 2, 0), 0, []),
  (.iload_n 1, (4, 1), (0, 0, 0, 0), 0, []),
  (.invokevirtual 314, (5, 3), (52, 1, 0, 5), 0, []),
  (.tableswitch 115 0 3 #[32, 46, 87, 101], (8, 32), (52, 0, 0, 0), 0, [5, 13, 36, 44]),
  (.aload_n 0, (40, 1), (0, 0, 0, 0), 0, []),
  (.aload_n 0, (41, 1), (0, 0, 0, 0), 0, []),
  (.getfield 41, (42, 3), (7, 5, 2, 0), 0, []),
  (.iload_n 1, (45, 1), (0, 0, 0, 0), 0, []),
  (.iconst 0, (46, 1), (0, 0, 0, 0), 0, []),
  (.invokevirtual 317, (47, 3), (45, 2, 0, 5), 0, []),
  (.invokevirtual 320, (50, 3), (100, 1, 0, 7), 0, []),
  (.ireturn, (53, 1), (0, 0, 0, 0), 0, []),
  (.aload_n 0, (54, 1), (0, 0, 0, 0), 0, []),
  (.aload_n 0, (55, 1), (0, 0, 0, 0), 0, []),
  (.getfield 41, (56, 3), (7, 5, 2, 0), 0, []),
  (.iload_n 1, (59, 1), (0, 0, 0, 0), 0, []),
  (.iconst 0, (60, 1), (0, 0, 0, 0), 0, []),
  (.invokevirtual 317, (61, 3), (45, 2, 0, 5), 0, []),
  (.aload_n 0, (64, 1), (0, 0, 0, 0), 0, []),
  (.getfield 41, (65, 3), (7, 5, 2, 0), 0, []),
  (.iload_n 1, (68, 1), (0, 0, 0, 0), 0, []),
  (.iconst 1, (69, 1), (0, 0, 0, 0), 1, []),
  (.invokevirtual 317, (70, 3), (45, 2, 0, 5), 0, []),
  (.aload_n 0, (73, 1), (0, 0, 0, 0), 0, []),
  (.getfield 41, (74, 3), (7, 5, 2, 0), 0, []),
  (.iload_n 1, (77, 1), (0, 0, 0, 0), 0, []),
  (.iconst 2, (78, 1), (0, 0, 0, 0), 2, []),
  (.invokevirtual 317, (79, 3), (45, 2, 0, 5), 0, []),
  (.aload_n 0, (82, 1), (0, 0, 0, 0), 0, []),
  (.getfield 41, (83, 3), (7, 5, 2, 0), 0, []),
  (.iload_n 1, (86, 1), (0, 0, 0, 0), 0, []),
  (.iconst 3, (87, 1), (0, 0, 0, 0), 3, []),
  (.invokevirtual 317, (88, 3), (45, 2, 0, 5), 0, []),
  (.invokevirtual 323, (91, 3), (95, 4, 0, 7), 0, []),
  (.ireturn, (94, 1), (0, 0, 0, 0), 0, []),
  (.aload_n 0, (95, 1), (0, 0, 0, 0), 0, []),
  (.aload_n 0, (96, 1), (0, 0, 0, 0), 0, []),
  (.getfield 41, (97, 3), (7, 5, 2, 0), 0, []),
  (.iload_n 1, (100, 1), (0, 0, 0, 0), 0, []),
  (.iconst 0, (101, 1), (0, 0, 0, 0), 0, []),
  (.invokevirtual 317, (102, 3), (45, 2, 0, 5), 0, []),
  (.invokevirtual 326, (105, 3), (71, 1, 0, 7), 0, []),
  (.ireturn, (108, 1), (0, 0, 0, 0), 0, []),
  (.aload_n 0, (109, 1), (0, 0, 0, 0), 0, []),
  (.aload_n 0, (110, 1), (0, 0, 0, 0), 0, []),
  (.getfield 41, (111, 3), (7, 5, 2, 0), 0, []),
  (.iload_n 1, (114, 1), (0, 0, 0, 0), 0, []),
  (.iconst 0, (115, 1), (0, 0, 0, 0), 0, []),
  (.invokevirtual 317, (116, 3), (45, 2, 0, 5), 0, []),
  (.invokevirtual 329, (119, 3), (70, 1, 0, 7), 0, []),
  (.ireturn, (122, 1), (0, 0, 0, 0), 0, []),
  (.aload_n 0, (123, 1), (0, 0, 0, 0), 0, []),
  (.aload_n 0, (124, 1), (0, 0, 0, 0), 0, []),
  (.getfield 41, (125, 3), (7, 5, 2, 0), 0, []),
  (.iload_n 1, (128, 1), (0, 0, 0, 0), 0, []),
  (.iconst 0, (129, 1), (0, 0, 0, 0), 0, []),
  (.invokevirtual 317, (130, 3), (45, 2, 0, 5), 0, []),
  (.aload_n 0, (133, 1), (0, 0, 0, 0), 0, []),
  (.getfield 41, (134, 3), (7, 5, 2, 0), 0, []),
  (.iload_n 1, (137, 1), (0, 0, 0, 0), 0, []),
  (.iconst 1, (138, 1), (0, 0, 0, 0), 1, []),
  (.invokevirtual 317, (139, 3), (45, 2, 0, 5), 0, []),
  (.aload_n 0, (142, 1), (0, 0, 0, 0), 0, []),
  (.getfield 41, (143, 3), (7, 5, 2, 0), 0, []),
  (.iload_n 1, (146, 1), (0, 0, 0, 0), 0, []),
  (.iconst 2, (147, 1), (0, 0, 0, 0), 2, []),
  (.invokevirtual 317, (148, 3), (45, 2, 0, 5), 0, []),
  (.invokevirtual 331, (151, 3), (62, 3, 0, 7), 0, []),
  (.ireturn, (154, 1), (0, 0, 0, 0), 0, [])]
def cd_98 : List xz_Op := [(.aload_n 0, (0, 1), (0, 0, 0, 0), 0, []),
  (.getfield 12, (1, 3), (7, 0, 2, 0), 0, []),
  (.getfield 71, (4, 3), (3, 5, 2, 0), 0, []),
  (.invokevirtual 88, (7, 3), (8, 0, 0, 0), 0, []),
  (.istore_n 2, (10, 1), (0, 0, 0, 0), 0, []),
  (.iload_n 1, (11, 1), (0, 0, 0, 0), 0, []),
  (.invokestatic 162, (12, 3), (82, 1, 0, 7), 0, []),
  (.ifCond .eq 7, (15, 3), (10, 0, 0, 0), 0, []),
  (.iload_n 2, (18, 1), (0, 0, 0, 0), 0, []),
  (.ifCond .ne 7, (19, 3), (12, 0, 0, 0), 0, []),
  (.ldc2_w 165, (22, 3), (5, 0, 0, 0), 0, []),
  (.lreturn, (25, 1), (0, 0, 0, 0), 0, []),
  (.iconst 0, (26, 1), (0, 0, 0, 0), 0, []),
  (.istore_n 3, (27, 1), (0, 0, 0, 0), 0, []),
  (.iconst 0, (28, 1), (0, 0, 0, 0), 0, []),
  (.istore 4, (29, 2), (0, 0, 0, 0), 0, []),
  (.nop, (31, 0), (17, 0, 0, 0), 0, [0, 1, 2, 3, 4]),
  (.iload 4, (31, 2), (0, 0, 0, 0), 0, []),
  (.aload_n 0, (33, 1), (0, 0, 0, 0), 0, []),
  (.getfield 12, (34, 3), (7, 0, 2, 0), 0, []),
  (.getfield 71, (37, 3), (3, 5, 2, 0), 0, []),
  (.getfield 186, (40, 3), (0, 0, 0, 0), 0, []),
  (.if_icmp .ge 70, (43, 3), (54, 0, 0, 0), 0, []),
  (.aload_n 0, (46, 1), (0, 0, 0, 0), 0, []),
  (.getfield 12, (47, 3), (7, 0, 2, 0), 0, []),
  (.getfield 71, (50, 3), (3, 5, 2, 0), 0, []),
  (.iload 4, (53, 2), (0, 0, 0, 0), 0, []),
  (.invokevirtual 189, (55, 3), (7, 1, 0, 0), 0, []),
  (.ifCond .eq 49, (58, 3), (52, 0, 0, 0), 0, []),
  (.aload_n 0, (61, 1), (0, 0, 0, 0), 0, []),
  (.getfield 27, (62, 3), (7, 3, 2, 0), 0, []),
  (.aload_n 0, (65, 1), (0, 0, 0, 0), 0, []),
  (.getfield 12, (66, 3), (7, 0, 2, 0), 0, []),
  (.aload_n 0, (69, 1), (0, 0, 0, 0), 0, []),
  (.getfield 12, (70, 3), (7, 0, 2, 0), 0, []),
  (.getfield 124, (73, 3), (3, 4, 0, 0), 0, []),
  (.iconst 0, (76, 1), (0, 0, 0, 0), 0, []),
  (.iload 4, (77, 2), (0, 0, 0, 0), 0, []),
  (.invokevirtual 235, (79, 3), (15, 4, 3, 1), 0, []),
  (.iload_n 3, (82, 1), (0, 0, 0, 0), 0, []),
  (.aload_n 0, (83, 1), (0, 0, 0, 0), 0, []),
  (.getfield 27, (84, 3), (7, 3, 2, 0), 0, []),
  (.aload_n 0, (87, 1), (0, 0, 0, 0), 0, []),
  (.getfield 12, (88, 3), (7, 0, 2, 0), 0, []),
  (.getfield 121, (91, 3), (3, 3, 0, 0), 0, []),
  (.invokevirtual 180, (94, 3), (20, 1, 0, 1), 0, []),
  (.ifCond .lt 7, (97, 3), (49, 0, 0, 0), 0, []),
  (.iconst 1, (100, 1), (0, 0, 0, 0), 1, []),
  (.goto 4, (101, 3), (50, 0, 0, 0), 0, []),
  (.iconst 0, (104, 1), (0, 0, 0, 0), 0, []),
  (.iadd, (105, 1), (0, 0, 0, 0), 0, []),
  (.istore_n 3, (106, 1), (0, 0, 0, 0), 0, []),
  (.iinc 4 1, (107, 3), (0, 0, 0, 0), 1, []),
  (.goto (-79), (110, 3), (16, 0, 0, 0), 0, []),
  (.iload_n 3, (113, 1), (0, 0, 0, 0), 0, []),
  (.i2l, (114, 1), (0, 0, 0, 0), 0, []),
  (.iload_n 2, (115, 1), (0, 0, 0, 0), 0, []),
  (.i2l, (116, 1), (0, 0, 0, 0), 0, []),
  (.iload_n 1, (117, 1), (0, 0, 0, 0), 0, []),
  (.invokestatic 173, (118, 3), (92, 3, 1, 7), 0, []),
  (.lreturn, (121, 1), (0, 0, 0, 0), 0, [])]
def cd_99 : List xz_Op := [(.aload_n 0, (0, 1), (0, 0, 0, 0), 0, []),
  (.getfield 48, (1, 3), (7, 6, 2, 0), 0, []),
  (.iload_n 1, (4, 1), (0, 0, 0, 0), 0, []),
  (.iload_n 2, (5, 1), (0, 0, 0, 0), 0, []),
  (.invokevirtual 284, (6, 3), (33, 2, 0, 4), 0, []),
  (.ifCond .eq 17, (9, 3), (14, 0, 0, 0), 0, []),
  (.aload_n 0, (12, 1), (0, 0, 0, 0), 0, []),
  (.getfield 48, (13, 3), (7, 6, 2, 0), 0, []),
  (.getfield 291, (16, 3), (4, 2, 2, 0), 0, []),
  (.iload_n 1, (19, 1), (0, 0, 0, 0), 0, []),
  (.aaload, (20, 1), (0, 0, 0, 0), 0, []),
  (.iload_n 2, (21, 1), (0, 0, 0, 0), 0, []),
  (.laload, (22, 1), (0, 0, 0, 0), 0, []),
  (.goto 6, (23, 3), (15, 0, 0, 0), 0, []),
  (.ldc2_w 165, (26, 3), (5, 0, 0, 0), 0, []),
  (.lreturn, (29, 1), (0, 0, 0, 0), 0, [])]
def cd_100 : List xz_Op := [(.iload_n 1, (0, 1), (0, 0, 0, 0), 0, []),
  (.iconst 2, (1, 1), (0, 0, 0, 0), 2, []),
  (.if_icmp .lt 9, (2, 3), (6, 0, 0, 0), 0, []),
  (.iload_n 1, (5, 1), (0, 0, 0, 0), 0, []),
  (.bipush 6, (6, 2), (0, 0, 0, 0), 6, []),
  (.if_icmp .le 6, (8, 3), (8, 0, 0, 0), 0, []),
  (.bipush (-2), (11, 2), (0, 0, 0, 0), (-2), []),
  (.ireturn, (13, 1), (0, 0, 0, 0), 0, []),
  (.aload_n 0, (14, 1), (0, 0, 0, 0), 0, []),
  (.getfield 12, (15, 3), (7, 0, 2, 0), 0, []),
  (.getfield 52, (18, 3), (3, 0, 0, 0), 0, []),
  (.istore_n 2, (21, 1), (0, 0, 0, 0), 0, []),
  (.aload_n 0, (22, 1), (0, 0, 0, 0), 0, []),
  (.getfield 12, (23, 3), (7, 0, 2, 0), 0, []),
  (.iload_n 1, (26, 1), (0, 0, 0, 0), 0, []),
  (.invokevirtual 56, (27, 3), (29, 1, 3, 3), 0, []),
  (.iload_n 2, (30, 1), (0, 0, 0, 0), 0, []),
  (.ireturn, (31, 1), (0, 0, 0, 0), 0, [])]
def cd_101 : List xz_Op := [(.iconst 0, (0, 1), (0, 0, 0, 0), 0, []),
  (.istore_n 1, (1, 1), (0, 0, 0, 0), 0, []),
  (.iconst 0, (2, 1), (0, 0, 0, 0), 0, []),
  (.istore_n 2, (3, 1), (0, 0, 0, 0), 0, []),
  (.nop, (4, 0), (5, 0, 0, 0), 0, [0, 1, 2]),
  (.iload_n 2, (4, 1), (0, 0, 0, 0), 0, []),
  (.aload_n 0, (5, 1), (0, 0, 0, 0), 0, []),
  (.getfield 12, (6, 3), (7, 0, 2, 0), 0, []),
  (.getfield 52, (9, 3), (3, 0, 0, 0), 0, []),
  (.if_icmp .ge 35, (12, 3), (30, 0, 0, 0), 0, []),
  (.aload_n 0, (15, 1), (0, 0, 0, 0), 0, []),
  (.iconst 1, (16, 1), (0, 0, 0, 0), 1, []),
  (.iload_n 2, (17, 1), (0, 0, 0, 0), 0, []),
  (.ishl, (18, 1), (0, 0, 0, 0), 0, []),
  (.invokevirtual 212, (19, 3), (93, 1, 0, 7), 0, []),
  (.ifCond .eq 19, (22, 3), (28, 0, 0, 0), 0, []),
  (.aload_n 0, (25, 1), (0, 0, 0, 0), 0, []),
  (.iconst 1, (26, 1), (0, 0, 0, 0), 1, []),
  (.iload_n 2, (27, 1), (0, 0, 0, 0), 0, []),
  (.ishl, (28, 1), (0, 0, 0, 0), 0, []),
  (.invokevirtual 215, (29, 3), (69, 1, 0, 7), 0, []),
  (.ifCond .eq 9, (32, 3), (28, 0, 0, 0), 0, []),
  (.iload_n 1, (35, 1), (0, 0, 0, 0), 0, []),
  (.iconst 1, (36, 1), (0, 0, 0, 0), 1, []),
  (.iload_n 2, (37, 1), (0, 0, 0, 0), 0, []),
  (.ishl, (38, 1), (0, 0, 0, 0), 0, []),
  (.ior, (39, 1), (0, 0, 0, 0), 0, []),
  (.istore_n 1, (40, 1), (0, 0, 0, 0), 0, []),
  (.iinc 2 1, (41, 3), (0, 0, 0, 0), 1, []),
  (.goto (-40), (44, 3), (4, 0, 0, 0), 0, []),
  (.iload_n 1, (47, 1), (0, 0, 0, 0), 0, []),
  (.ireturn, (48, 1), (0, 0, 0, 0), 0, [])]
def cd_102 : List xz_Op := [(.iload_n 1, (0, 1), (0, 0, 0, 0), 0, []),
  (.ifCond .ge 5, (1, 3), (4, 0, 0, 0), 0, []),
  (.iconst (-1), (4, 1), (0, 0, 0, 0), (-1), []),
  (.ireturn, (5, 1), (0, 0, 0, 0), 0, []),
  (.aload_n 0, (6, 1), (0, 0, 0, 0), 0, []),
  (.getfield 27, (7, 3), (7, 3, 2, 0), 0, []),
  (.aload_n 0, (10, 1), (0, 0, 0, 0), 0, []),
  (.getfield 12, (11, 3), (7, 0, 2, 0), 0, []),
  (.aload_n 0, (14, 1), (0, 0, 0, 0), 0, []),
  (.getfield 12, (15, 3), (7, 0, 2, 0), 0, []),
  (.getfield 124, (18, 3), (3, 4, 0, 0), 0, []),
  (.invokevirtual 177, (21, 3), (14, 2, 3, 1), 0, []),
  (.iconst 0, (24, 1), (0, 0, 0, 0), 0, []),
  (.istore_n 2, (25, 1), (0, 0, 0, 0), 0, []),
  (.nop, (26, 0), (15, 0, 0, 0), 0, [0, 1, 2]),
  (.iload_n 2, (26, 1), (0, 0, 0, 0), 0, []),
  (.aload_n 0, (27, 1), (0, 0, 0, 0), 0, []),
  (.getfield 12, (28, 3), (7, 0, 2, 0), 0, []),
  (.getfield 52, (31, 3), (3, 0, 0, 0), 0, []),
  (.if_icmp .ge 34, (34, 3), (35, 0, 0, 0), 0, []),
  (.aload_n 0, (37, 1), (0, 0, 0, 0), 0, []),
  (.getfield 27, (38, 3), (7, 3, 2, 0), 0, []),
  (.iload_n 2, (41, 1), (0, 0, 0, 0), 0, []),
  (.invokevirtual 180, (42, 3), (20, 1, 0, 1), 0, []),
  (.ifCond .lt 17, (45, 3), (33, 0, 0, 0), 0, []),
  (.aload_n 0, (48, 1), (0, 0, 0, 0), 0, []),
  (.getfield 27, (49, 3), (7, 3, 2, 0), 0, []),
  (.iload_n 2, (52, 1), (0, 0, 0, 0), 0, []),
  (.invokevirtual 195, (53, 3), (18, 1, 0, 1), 0, []),
  (.iload_n 1, (56, 1), (0, 0, 0, 0), 0, []),
  (.if_icmp .ne 5, (57, 3), (33, 0, 0, 0), 0, []),
  (.iload_n 2, (60, 1), (0, 0, 0, 0), 0, []),
  (.ireturn, (61, 1), (0, 0, 0, 0), 0, []),
  (.iinc 2 1, (62, 3), (0, 0, 0, 0), 1, []),
  (.goto (-39), (65, 3), (14, 0, 0, 0), 0, []),
  (.bipush (-5), (68, 2), (0, 0, 0, 0), (-5), []),
  (.ireturn, (70, 1), (0, 0, 0, 0), 0, [])]
def cd_103 : List xz_Op := [(.aload_n 0, (0, 1), (0, 0, 0, 0), 0, []),
  (.getfield 12, (1, 3), (7, 0, 2, 0), 0, []),
  (.iload_n 1, (4, 1), (0, 0, 0, 0), 0, []),
  (.invokevirtual 115, (5, 3), (28, 1, 0, 3), 0, []),
  (.ifCond .ne 5, (8, 3), (7, 0, 0, 0), 0, []),
  (.iconst (-1), (11, 1), (0, 0, 0, 0), (-1), []),
  (.ireturn, (12, 1), (0, 0, 0, 0), 0, []),
  (.aload_n 0, (13, 1), (0, 0, 0, 0), 0, []),
  (.getfield 27, (14, 3), (7, 3, 2, 0), 0, []),
  (.aload_n 0, (17, 1), (0, 0, 0, 0), 0, []),
  (.getfield 12, (18, 3), (7, 0, 2, 0), 0, []),
  (.aload_n 0, (21, 1), (0, 0, 0, 0), 0, []),
  (.getfield 12, (22, 3), (7, 0, 2, 0), 0, []),
  (.getfield 124, (25, 3), (3, 4, 0, 0), 0, []),
  (.invokevirtual 177, (28, 3), (14, 2, 3, 1), 0, []),
  (.aload_n 0, (31, 1), (0, 0, 0, 0), 0, []),
  (.getfield 27, (32, 3), (7, 3, 2, 0), 0, []),
  (.iload_n 1, (35, 1), (0, 0, 0, 0), 0, []),
  (.invokevirtual 180, (36, 3), (20, 1, 0, 1), 0, []),
  (.ireturn, (39, 1), (0, 0, 0, 0), 0, [])]
def cd_104 : List xz_Op := [(.aload_n 0, (0, 1), (0, 0, 0, 0), 0, []),
  (.getfield 27, (1, 3), (7, 3, 2, 0), 0, []),
  (.aload_n 0, (4, 1), (0, 0, 0, 0), 0, []),
  (.getfield 12, (5, 3), (7, 0, 2, 0), 0, []),
  (.aload_n 0, (8, 1), (0, 0, 0, 0), 0, []),
  (.getfield 12, (9, 3), (7, 0, 2, 0), 0, []),
  (.getfield 124, (12, 3), (3, 4, 0, 0), 0, []),
  (.invokevirtual 177, (15, 3), (14, 2, 3, 1), 0, []),
  (.iconst 0, (18, 1), (0, 0, 0, 0), 0, []),
  (.istore_n 1, (19, 1), (0, 0, 0, 0), 0, []),
  (.iconst 0, (20, 1), (0, 0, 0, 0), 0, []),
  (.istore_n 2, (21, 1), (0, 0, 0, 0), 0, []),
  (.nop, (22, 0), (13, 0, 0, 0), 0, [0, 1, 2]),
  (.iload_n 2, (22, 1), (0, 0, 0, 0), 0, []),
  (.aload_n 0, (23, 1), (0, 0, 0, 0), 0, []),
  (.getfield 12, (24, 3), (7, 0, 2, 0), 0, []),
  (.getfield 52, (27, 3), (3, 0, 0, 0), 0, []),
  (.if_icmp .ge 26, (30, 3), (31, 0, 0, 0), 0, []),
  (.aload_n 0, (33, 1), (0, 0, 0, 0), 0, []),
  (.getfield 27, (34, 3), (7, 3, 2, 0), 0, []),
  (.iload_n 2, (37, 1), (0, 0, 0, 0), 0, []),
  (.invokevirtual 180, (38, 3), (20, 1, 0, 1), 0, []),
  (.ifCond .lt 9, (41, 3), (29, 0, 0, 0), 0, []),
  (.iload_n 1, (44, 1), (0, 0, 0, 0), 0, []),
  (.iconst 1, (45, 1), (0, 0, 0, 0), 1, []),
  (.iload_n 2, (46, 1), (0, 0, 0, 0), 0, []),
  (.ishl, (47, 1), (0, 0, 0, 0), 0, []),
  (.ior, (48, 1), (0, 0, 0, 0), 0, []),
  (.istore_n 1, (49, 1), (0, 0, 0, 0), 0, []),
  (.iinc 2 1, (50, 3), (0, 0, 0, 0), 1, []),
  (.goto (-31), (53, 3), (12, 0, 0, 0), 0, []),
  (.iload_n 1, (56, 1), (0, 0, 0, 0), 0, []),
  (.ireturn, (57, 1), (0, 0, 0, 0), 0, [])]
def cd_105 : List xz_Op := [(.aload_n 0, (0, 1), (0, 0, 0, 0), 0, []),
  (.getfield 41, (1, 3), (7, 5, 2, 0), 0, []),
  (.invokevirtual 136, (4, 3), (46, 0, 0, 5), 0, []),
  (.istore_n 1, (7, 1), (0, 0, 0, 0), 0, []),
  (.aload_n 0, (8, 1), (0, 0, 0, 0), 0, []),
  (.getfield 41, (9, 3), (7, 5, 2, 0), 0, []),
  (.invokevirtual 139, (12, 3), (40, 0, 3, 5), 0, []),
  (.iload_n 1, (15, 1), (0, 0, 0, 0), 0, []),
  (.iconst (-1), (16, 1), (0, 0, 0, 0), (-1), []),
  (.if_icmp .eq 8, (17, 3), (14, 0, 0, 0), 0, []),
  (.bipush (-10), (20, 2), (0, 0, 0, 0), (-10), []),
  (.iload_n 1, (22, 1), (0, 0, 0, 0), 0, []),
  (.isub, (23, 1), (0, 0, 0, 0), 0, []),
  (.ireturn, (24, 1), (0, 0, 0, 0), 0, []),
  (.iconst 0, (25, 1), (0, 0, 0, 0), 0, []),
  (.istore_n 2, (26, 1), (0, 0, 0, 0), 0, []),
  (.iconst 0, (27, 1), (0, 0, 0, 0), 0, []),
  (.istore_n 3, (28, 1), (0, 0, 0, 0), 0, []),
  (.nop, (29, 0), (19, 0, 0, 0), 0, [0, 2, 3]),
  (.iload_n 3, (29, 1), (0, 0, 0, 0), 0, []),
  (.aload_n 0, (30, 1), (0, 0, 0, 0), 0, []),
  (.getfield 41, (31, 3), (7, 5, 2, 0), 0, []),
  (.getfield 142, (34, 3), (5, 1, 0, 0), 0, []),
  (.if_icmp .ge 20, (37, 3), (31, 0, 0, 0), 0, []),
  (.aload_n 0, (40, 1), (0, 0, 0, 0), 0, []),
  (.iload_n 3, (41, 1), (0, 0, 0, 0), 0, []),
  (.invokevirtual 145, (42, 3), (97, 1, 0, 7), 0, []),
  (.ifCond .lt 6, (45, 3), (29, 0, 0, 0), 0, []),
  (.iinc 2 1, (48, 3), (0, 0, 0, 0), 1, []),
  (.iinc 3 1, (51, 3), (0, 0, 0, 0), 1, []),
  (.goto (-25), (54, 3), (18, 0, 0, 0), 0, []),
  (.iload_n 2, (57, 1), (0, 0, 0, 0), 0, []),
  (.ireturn, (58, 1), (0, 0, 0, 0), 0, [])]
def cd_106 : List xz_Op := [(.aload_n 0, (0, 1), (0, 0, 0, 0), 0, []),
  (.getfield 12, (1, 3), (7, 0, 2, 0), 0, []),
  (.iload_n 1, (4, 1), (0, 0, 0, 0), 0, []),
  (.invokevirtual 115, (5, 3), (28, 1, 0, 3), 0, []),
  (.ifCond .ne 5, (8, 3), (7, 0, 0, 0), 0, []),
  (.iconst (-1), (11, 1), (0, 0, 0, 0), (-1), []),
  (.ireturn, (12, 1), (0, 0, 0, 0), 0, []),
  (.iload_n 2, (13, 1), (0, 0, 0, 0), 0, []),
  (.invokestatic 64, (14, 3), (85, 1, 0, 7), 0, []),
  (.ifCond .eq 7, (17, 3), (12, 0, 0, 0), 0, []),
  (.iconst 0, (20, 1), (0, 0, 0, 0), 0, []),
  (.goto 5, (21, 3), (13, 0, 0, 0), 0, []),
  (.bipush (-2), (24, 2), (0, 0, 0, 0), (-2), []),
  (.ireturn, (26, 1), (0, 0, 0, 0), 0, [])]
def cd_107 : List xz_Op := [(.iload_n 2, (0, 1), (0, 0, 0, 0), 0, []),
  (.ifCond .eq 10, (1, 3), (7, 0, 0, 0), 0, []),
  (.iload_n 2, (4, 1), (0, 0, 0, 0), 0, []),
  (.iconst 1, (5, 1), (0, 0, 0, 0), 1, []),
  (.if_icmp .eq 5, (6, 3), (7, 0, 0, 0), 0, []),
  (.iconst (-1), (9, 1), (0, 0, 0, 0), (-1), []),
  (.ireturn, (10, 1), (0, 0, 0, 0), 0, []),
  (.aload_n 0, (11, 1), (0, 0, 0, 0), 0, []),
  (.getfield 12, (12, 3), (7, 0, 2, 0), 0, []),
  (.getfield 71, (15, 3), (3, 5, 2, 0), 0, []),
  (.iload_n 1, (18, 1), (0, 0, 0, 0), 0, []),
  (.invokevirtual 81, (19, 3), (10, 1, 0, 0), 0, []),
  (.istore 4, (22, 2), (0, 0, 0, 0), 0, []),
  (.iload 4, (24, 2), (0, 0, 0, 0), 0, []),
  (.ifCond .eq 6, (26, 3), (17, 0, 0, 0), 0, []),
  (.iload 4, (29, 2), (0, 0, 0, 0), 0, []),
  (.ireturn, (31, 1), (0, 0, 0, 0), 0, []),
  (.iload_n 2, (32, 1), (0, 0, 0, 0), 0, []),
  (.ifCond .ne 10, (33, 3), (22, 0, 0, 0), 0, []),
  (.iload_n 3, (36, 1), (0, 0, 0, 0), 0, []),
  (.invokestatic 64, (37, 3), (85, 1, 0, 7), 0, []),
  (.goto 7, (40, 3), (24, 0, 0, 0), 0, []),
  (.iload_n 3, (43, 1), (0, 0, 0, 0), 0, []),
  (.invokestatic 68, (44, 3), (84, 1, 0, 7), 0, []),
  (.istore 5, (47, 2), (0, 0, 0, 0), 0, []),
  (.iload 5, (49, 2), (0, 0, 0, 0), 0, []),
  (.ifCond .ne 6, (51, 3), (29, 0, 0, 0), 0, []),
  (.bipush (-2), (54, 2), (0, 0, 0, 0), (-2), []),
  (.ireturn, (56, 1), (0, 0, 0, 0), 0, []),
  (.aload_n 0, (57, 1), (0, 0, 0, 0), 0, []),
  (.getfield 12, (58, 3), (7, 0, 2, 0), 0, []),
  (.getfield 71, (61, 3), (3, 5, 2, 0), 0, []),
  (.iload_n 1, (64, 1), (0, 0, 0, 0), 0, []),
  (.iload_n 2, (65, 1), (0, 0, 0, 0), 0, []),
  (.iload_n 3, (66, 1), (0, 0, 0, 0), 0, []),
  (.invokevirtual 92, (67, 3), (3, 3, 0, 0), 0, []),
  (.ireturn, (70, 1), (0, 0, 0, 0), 0, [])]
def cd_108 : List xz_Op := [(.iload_n 1, (0, 1), (0, 0, 0, 0), 0, []),
  (.iconst (-1), (1, 1), (0, 0, 0, 0), (-1), []),
  (.if_icmp .ne 14, (2, 3), (8, 0, 0, 0), 0, []),
  (.aload_n 0, (5, 1), (0, 0, 0, 0), 0, []),
  (.getfield 12, (6, 3), (7, 0, 2, 0), 0, []),
  (.getfield 218, (9, 3), (3, 6, 2, 0), 0, []),
  (.invokevirtual 222, (12, 3), (23, 0, 0, 2), 0, []),
  (.ireturn, (15, 1), (0, 0, 0, 0), 0, []),
  (.aload_n 0, (16, 1), (0, 0, 0, 0), 0, []),
  (.iload_n 1, (17, 1), (0, 0, 0, 0), 0, []),
  (.iload_n 2, (18, 1), (0, 0, 0, 0), 0, []),
  (.invokevirtual 227, (19, 3), (106, 2, 0, 7), 0, []),
  (.istore 4, (22, 2), (0, 0, 0, 0), 0, []),
  (.iload 4, (24, 2), (0, 0, 0, 0), 0, []),
  (.ifCond .eq 8, (26, 3), (17, 0, 0, 0), 0, []),
  (.iload 4, (29, 2), (0, 0, 0, 0), 0, []),
  (.goto 24, (31, 3), (28, 0, 0, 0), 0, []),
  (.aload_n 0, (34, 1), (0, 0, 0, 0), 0, []),
  (.getfield 12, (35, 3), (7, 0, 2, 0), 0, []),
  (.getfield 218, (38, 3), (3, 6, 2, 0), 0, []),
  (.iload_n 1, (41, 1), (0, 0, 0, 0), 0, []),
  (.iload_n 2, (42, 1), (0, 0, 0, 0), 0, []),
  (.iload_n 3, (43, 1), (0, 0, 0, 0), 0, []),
  (.ifCond .eq 7, (44, 3), (26, 0, 0, 0), 0, []),
  (.iconst 1, (47, 1), (0, 0, 0, 0), 1, []),
  (.goto 4, (48, 3), (27, 0, 0, 0), 0, []),
  (.iconst 0, (51, 1), (0, 0, 0, 0), 0, []),
  (.invokevirtual 230, (52, 3), (21, 3, 0, 2), 0, []),
  (.ireturn, (55, 1), (0, 0, 0, 0), 0, [])]
def cd_109 : List xz_Op := [(.aload_n 0, (0, 1), (0, 0, 0, 0), 0, []),
  (.getfield 48, (1, 3), (7, 6, 2, 0), 0, []),
  (.iload_n 1, (4, 1), (0, 0, 0, 0), 0, []),
  (.invokevirtual 263, (5, 3), (37, 1, 0, 4), 0, []),
  (.ifCond .eq 14, (8, 3), (10, 0, 0, 0), 0, []),
  (.aload_n 0, (11, 1), (0, 0, 0, 0), 0, []),
  (.getfield 48, (12, 3), (7, 6, 2, 0), 0, []),
  (.iload_n 3, (15, 1), (0, 0, 0, 0), 0, []),
  (.invokevirtual 263, (16, 3), (37, 1, 0, 4), 0, []),
  (.ifCond .ne 5, (19, 3), (12, 0, 0, 0), 0, []),
  (.iconst (-1), (22, 1), (0, 0, 0, 0), (-1), []),
  (.ireturn, (23, 1), (0, 0, 0, 0), 0, []),
  (.aload_n 0, (24, 1), (0, 0, 0, 0), 0, []),
  (.getfield 48, (25, 3), (7, 6, 2, 0), 0, []),
  (.iload_n 1, (28, 1), (0, 0, 0, 0), 0, []),
  (.invokevirtual 266, (29, 3), (35, 1, 0, 4), 0, []),
  (.ifCond .eq 14, (32, 3), (22, 0, 0, 0), 0, []),
  (.aload_n 0, (35, 1), (0, 0, 0, 0), 0, []),
  (.getfield 48, (36, 3), (7, 6, 2, 0), 0, []),
  (.iload_n 3, (39, 1), (0, 0, 0, 0), 0, []),
  (.invokevirtual 266, (40, 3), (35, 1, 0, 4), 0, []),
  (.ifCond .ne 6, (43, 3), (24, 0, 0, 0), 0, []),
  (.bipush (-11), (46, 2), (0, 0, 0, 0), (-11), []),
  (.ireturn, (48, 1), (0, 0, 0, 0), 0, []),
  (.aload_n 0, (49, 1), (0, 0, 0, 0), 0, []),
  (.getfield 48, (50, 3), (7, 6, 2, 0), 0, []),
  (.getfield 269, (53, 3), (4, 0, 2, 0), 0, []),
  (.iload_n 1, (56, 1), (0, 0, 0, 0), 0, []),
  (.iaload, (57, 1), (0, 0, 0, 0), 0, []),
  (.aload_n 0, (58, 1), (0, 0, 0, 0), 0, []),
  (.getfield 48, (59, 3), (7, 6, 2, 0), 0, []),
  (.getfield 269, (62, 3), (4, 0, 2, 0), 0, []),
  (.iload_n 3, (65, 1), (0, 0, 0, 0), 0, []),
  (.iaload, (66, 1), (0, 0, 0, 0), 0, []),
  (.if_icmp .eq 6, (67, 3), (37, 0, 0, 0), 0, []),
  (.bipush (-12), (70, 2), (0, 0, 0, 0), (-12), []),
  (.ireturn, (72, 1), (0, 0, 0, 0), 0, []),
  (.aload_n 0, (73, 1), (0, 0, 0, 0), 0, []),
  (.getfield 48, (74, 3), (7, 6, 2, 0), 0, []),
  (.iload_n 1, (77, 1), (0, 0, 0, 0), 0, []),
  (.iload_n 2, (78, 1), (0, 0, 0, 0), 0, []),
  (.iload 5, (79, 2), (0, 0, 0, 0), 0, []),
  (.invokevirtual 295, (81, 3), (34, 3, 0, 4), 0, []),
  (.ifCond .eq 18, (84, 3), (51, 0, 0, 0), 0, []),
  (.aload_n 0, (87, 1), (0, 0, 0, 0), 0, []),
  (.getfield 48, (88, 3), (7, 6, 2, 0), 0, []),
  (.iload_n 3, (91, 1), (0, 0, 0, 0), 0, []),
  (.iload 4, (92, 2), (0, 0, 0, 0), 0, []),
  (.iload 5, (94, 2), (0, 0, 0, 0), 0, []),
  (.invokevirtual 295, (96, 3), (34, 3, 0, 4), 0, []),
  (.ifCond .ne 6, (99, 3), (53, 0, 0, 0), 0, []),
  (.bipush (-13), (102, 2), (0, 0, 0, 0), (-13), []),
  (.ireturn, (104, 1), (0, 0, 0, 0), 0, []),
  (.aload_n 0, (105, 1), (0, 0, 0, 0), 0, []),
  (.getfield 48, (106, 3), (7, 6, 2, 0), 0, []),
  (.getfield 291, (109, 3), (4, 2, 2, 0), 0, []),
  (.iload_n 1, (112, 1), (0, 0, 0, 0), 0, []),
  (.aaload, (113, 1), (0, 0, 0, 0), 0, []),
  (.iload_n 2, (114, 1), (0, 0, 0, 0), 0, []),
  (.aload_n 0, (115, 1), (0, 0, 0, 0), 0, []),
  (.getfield 48, (116, 3), (7, 6, 2, 0), 0, []),
  (.getfield 291, (119, 3), (4, 2, 2, 0), 0, []),
  (.iload_n 3, (122, 1), (0, 0, 0, 0), 0, []),
  (.aaload, (123, 1), (0, 0, 0, 0), 0, []),
  (.iload 4, (124, 2), (0, 0, 0, 0), 0, []),
  (.iload 5, (126, 2), (0, 0, 0, 0), 0, []),
  (.invokestatic 299, (128, 3), (0, 5, 10, 0), 0, []),
  (.iload 5, (131, 2), (0, 0, 0, 0), 0, []),
  (.ireturn, (133, 1), (0, 0, 0, 0), 0, [])]
def cd_110 : List xz_Op := [(.iload_n 1, (0, 1), (0, 0, 0, 0), 0, []),
  (.invokestatic 148, (1, 3), (83, 1, 0, 7), 0, []),
  (.ifCond .eq 10, (4, 3), (6, 0, 0, 0), 0, []),
  (.iload_n 2, (7, 1), (0, 0, 0, 0), 0, []),
  (.invokestatic 162, (8, 3), (82, 1, 0, 7), 0, []),
  (.ifCond .ne 7, (11, 3), (8, 0, 0, 0), 0, []),
  (.ldc2_w 165, (14, 3), (5, 0, 0, 0), 0, []),
  (.lreturn, (17, 1), (0, 0, 0, 0), 0, []),
  (.aload_n 0, (18, 1), (0, 0, 0, 0), 0, []),
  (.getfield 34, (19, 3), (7, 4, 2, 0), 0, []),
  (.aload_n 0, (22, 1), (0, 0, 0, 0), 0, []),
  (.getfield 12, (23, 3), (7, 0, 2, 0), 0, []),
  (.iload_n 1, (26, 1), (0, 0, 0, 0), 0, []),
  (.invokevirtual 127, (27, 3), (58, 2, 3, 6), 0, []),
  (.aload_n 0, (30, 1), (0, 0, 0, 0), 0, []),
  (.getfield 34, (31, 3), (7, 4, 2, 0), 0, []),
  (.getfield 151, (34, 3), (6, 2, 0, 0), 0, []),
  (.ifCond .ge 7, (37, 3), (20, 0, 0, 0), 0, []),
  (.ldc2_w 165, (40, 3), (5, 0, 0, 0), 0, []),
  (.lreturn, (43, 1), (0, 0, 0, 0), 0, []),
  (.aload_n 0, (44, 1), (0, 0, 0, 0), 0, []),
  (.getfield 34, (45, 3), (7, 4, 2, 0), 0, []),
  (.getfield 167, (48, 3), (6, 4, 1, 0), 0, []),
  (.ldc2_w 171, (51, 3), (4, 0, 0, 0), 0, []),
  (.iload_n 2, (54, 1), (0, 0, 0, 0), 0, []),
  (.invokestatic 173, (55, 3), (92, 3, 1, 7), 0, []),
  (.lreturn, (58, 1), (0, 0, 0, 0), 0, [])]
def cd_111 : List xz_Op := [(.aload_n 0, (0, 1), (0, 0, 0, 0), 0, []),
  (.getfield 48, (1, 3), (7, 6, 2, 0), 0, []),
  (.iload_n 1, (4, 1), (0, 0, 0, 0), 0, []),
  (.invokevirtual 263, (5, 3), (37, 1, 0, 4), 0, []),
  (.ifCond .ne 5, (8, 3), (7, 0, 0, 0), 0, []),
  (.iconst (-1), (11, 1), (0, 0, 0, 0), (-1), []),
  (.ireturn, (12, 1), (0, 0, 0, 0), 0, []),
  (.iload_n 2, (13, 1), (0, 0, 0, 0), 0, []),
  (.iconst (-1), (14, 1), (0, 0, 0, 0), (-1), []),
  (.if_icmp .ne 14, (15, 3), (17, 0, 0, 0), 0, []),
  (.aload_n 0, (18, 1), (0, 0, 0, 0), 0, []),
  (.getfield 48, (19, 3), (7, 6, 2, 0), 0, []),
  (.iload_n 1, (22, 1), (0, 0, 0, 0), 0, []),
  (.iload_n 2, (23, 1), (0, 0, 0, 0), 0, []),
  (.iconst 0, (24, 1), (0, 0, 0, 0), 0, []),
  (.invokevirtual 282, (25, 3), (31, 3, 0, 4), 0, []),
  (.ireturn, (28, 1), (0, 0, 0, 0), 0, []),
  (.iload_n 2, (29, 1), (0, 0, 0, 0), 0, []),
  (.ifCond .lt 14, (30, 3), (25, 0, 0, 0), 0, []),
  (.iload_n 2, (33, 1), (0, 0, 0, 0), 0, []),
  (.iconst 4, (34, 1), (0, 0, 0, 0), 4, []),
  (.if_icmp .gt 9, (35, 3), (25, 0, 0, 0), 0, []),
  (.iload_n 3, (38, 1), (0, 0, 0, 0), 0, []),
  (.bipush 60, (39, 2), (0, 0, 0, 0), 60, []),
  (.if_icmp .le 6, (41, 3), (27, 0, 0, 0), 0, []),
  (.bipush (-2), (44, 2), (0, 0, 0, 0), (-2), []),
  (.ireturn, (46, 1), (0, 0, 0, 0), 0, []),
  (.iload_n 3, (47, 1), (0, 0, 0, 0), 0, []),
  (.ifCond .ge 8, (48, 3), (31, 0, 0, 0), 0, []),
  (.bipush (-14), (51, 2), (0, 0, 0, 0), (-14), []),
  (.goto 13, (53, 3), (37, 0, 0, 0), 0, []),
  (.aload_n 0, (56, 1), (0, 0, 0, 0), 0, []),
  (.getfield 48, (57, 3), (7, 6, 2, 0), 0, []),
  (.iload_n 1, (60, 1), (0, 0, 0, 0), 0, []),
  (.iload_n 2, (61, 1), (0, 0, 0, 0), 0, []),
  (.iload_n 3, (62, 1), (0, 0, 0, 0), 0, []),
  (.invokevirtual 282, (63, 3), (31, 3, 0, 4), 0, []),
  (.ireturn, (66, 1), (0, 0, 0, 0), 0, [])]
def cd_112 : List xz_Op := [(.iload_n 1, (0, 1), (0, 0, 0, 0), 0, []),
  (.tableswitch 165 0 11 #[63, 71, 82, 90, 98, 106, 114, 134, 139, 144, 149, 154], (1, 63), (54, 0, 0, 0), 0, [2, 6, 11, 15, 19, 23, 27, 37, 40, 43, 46, 49]),
  (.aload_n 0, (64, 1), (0, 0, 0, 0), 0, []),
  (.getfield 12, (65, 3), (7, 0, 2, 0), 0, []),
  (.getfield 52, (68, 3), (3, 0, 0, 0), 0, []),
  (.ireturn, (71, 1), (0, 0, 0, 0), 0, []),
  (.aload_n 0, (72, 1), (0, 0, 0, 0), 0, []),
  (.getfield 12, (73, 3), (7, 0, 2, 0), 0, []),
  (.getfield 71, (76, 3), (3, 5, 2, 0), 0, []),
  (.invokevirtual 88, (79, 3), (8, 0, 0, 0), 0, []),
  (.ireturn, (82, 1), (0, 0, 0, 0), 0, []),
  (.aload_n 0, (83, 1), (0, 0, 0, 0), 0, []),
  (.getfield 12, (84, 3), (7, 0, 2, 0), 0, []),
  (.getfield 112, (87, 3), (3, 1, 0, 0), 0, []),
  (.ireturn, (90, 1), (0, 0, 0, 0), 0, []),
  (.aload_n 0, (91, 1), (0, 0, 0, 0), 0, []),
  (.getfield 12, (92, 3), (7, 0, 2, 0), 0, []),
  (.getfield 118, (95, 3), (3, 2, 0, 0), 0, []),
  (.ireturn, (98, 1), (0, 0, 0, 0), 0, []),
  (.aload_n 0, (99, 1), (0, 0, 0, 0), 0, []),
  (.getfield 12, (100, 3), (7, 0, 2, 0), 0, []),
  (.getfield 121, (103, 3), (3, 3, 0, 0), 0, []),
  (.ireturn, (106, 1), (0, 0, 0, 0), 0, []),
  (.aload_n 0, (107, 1), (0, 0, 0, 0), 0, []),
  (.getfield 12, (108, 3), (7, 0, 2, 0), 0, []),
  (.getfield 124, (111, 3), (3, 4, 0, 0), 0, []),
  (.ireturn, (114, 1), (0, 0, 0, 0), 0, []),
  (.aload_n 0, (115, 1), (0, 0, 0, 0), 0, []),
  (.getfield 34, (116, 3), (7, 4, 2, 0), 0, []),
  (.aload_n 0, (119, 1), (0, 0, 0, 0), 0, []),
  (.getfield 12, (120, 3), (7, 0, 2, 0), 0, []),
  (.iconst 0, (123, 1), (0, 0, 0, 0), 0, []),
  (.invokevirtual 127, (124, 3), (58, 2, 3, 6), 0, []),
  (.aload_n 0, (127, 1), (0, 0, 0, 0), 0, []),
  (.getfield 34, (128, 3), (7, 4, 2, 0), 0, []),
  (.getfield 131, (131, 3), (6, 1, 0, 0), 0, []),
  (.ireturn, (134, 1), (0, 0, 0, 0), 0, []),
  (.aload_n 0, (135, 1), (0, 0, 0, 0), 0, []),
  (.invokevirtual 200, (136, 3), (89, 0, 0, 7), 0, []),
  (.ireturn, (139, 1), (0, 0, 0, 0), 0, []),
  (.aload_n 0, (140, 1), (0, 0, 0, 0), 0, []),
  (.invokevirtual 203, (141, 3), (101, 0, 0, 7), 0, []),
  (.ireturn, (144, 1), (0, 0, 0, 0), 0, []),
  (.aload_n 0, (145, 1), (0, 0, 0, 0), 0, []),
  (.invokevirtual 206, (146, 3), (90, 0, 0, 7), 0, []),
  (.ireturn, (149, 1), (0, 0, 0, 0), 0, []),
  (.aload_n 0, (150, 1), (0, 0, 0, 0), 0, []),
  (.invokevirtual 209, (151, 3), (104, 0, 0, 7), 0, []),
  (.ireturn, (154, 1), (0, 0, 0, 0), 0, []),
  (.aload_n 0, (155, 1), (0, 0, 0, 0), 0, []),
  (.getfield 12, (156, 3), (7, 0, 2, 0), 0, []),
  (.getfield 71, (159, 3), (3, 5, 2, 0), 0, []),
  (.getfield 186, (162, 3), (0, 0, 0, 0), 0, []),
  (.ireturn, (165, 1), (0, 0, 0, 0), 0, []),
  (.iconst (-1), (166, 1), (0, 0, 0, 0), (-1), []),
  (.ireturn, (167, 1), (0, 0, 0, 0), 0, [])]
def cd_113 : List xz_Op := [(.aload_n 0, (0, 1), (0, 0, 0, 0), 0, []),
  (.getfield 275, (1, 3), (7, 7, 0, 0), 0, []),
  (.ifCond .ne 6, (4, 3), (5, 0, 0, 0), 0, []),
  (.bipush (-3), (7, 2), (0, 0, 0, 0), (-3), []),
  (.ireturn, (9, 1), (0, 0, 0, 0), 0, []),
  (.aload_n 0, (10, 1), (0, 0, 0, 0), 0, []),
  (.getfield 12, (11, 3), (7, 0, 2, 0), 0, []),
  (.aload_n 0, (14, 1), (0, 0, 0, 0), 0, []),
  (.getfield 18, (15, 3), (7, 1, 2, 0), 0, []),
  (.invokevirtual 245, (18, 3), (25, 1, 3, 3), 0, []),
  (.aload_n 0, (21, 1), (0, 0, 0, 0), 0, []),
  (.getfield 12, (22, 3), (7, 0, 2, 0), 0, []),
  (.getfield 71, (25, 3), (3, 5, 2, 0), 0, []),
  (.invokevirtual 88, (28, 3), (8, 0, 0, 0), 0, []),
  (.ireturn, (31, 1), (0, 0, 0, 0), 0, [])]
def cd_114 : List xz_Op := [(.iload_n 1, (0, 1), (0, 0, 0, 0), 0, []),
  (.invokestatic 148, (1, 3), (83, 1, 0, 7), 0, []),
  (.ifCond .ne 6, (4, 3), (5, 0, 0, 0), 0, []),
  (.bipush (-2), (7, 2), (0, 0, 0, 0), (-2), []),
  (.ireturn, (9, 1), (0, 0, 0, 0), 0, []),
  (.aload_n 0, (10, 1), (0, 0, 0, 0), 0, []),
  (.getfield 34, (11, 3), (7, 4, 2, 0), 0, []),
  (.aload_n 0, (14, 1), (0, 0, 0, 0), 0, []),
  (.getfield 12, (15, 3), (7, 0, 2, 0), 0, []),
  (.iload_n 1, (18, 1), (0, 0, 0, 0), 0, []),
  (.invokevirtual 127, (19, 3), (58, 2, 3, 6), 0, []),
  (.aload_n 0, (22, 1), (0, 0, 0, 0), 0, []),
  (.getfield 34, (23, 3), (7, 4, 2, 0), 0, []),
  (.getfield 151, (26, 3), (6, 2, 0, 0), 0, []),
  (.ifCond .ge 6, (29, 3), (17, 0, 0, 0), 0, []),
  (.bipush (-5), (32, 2), (0, 0, 0, 0), (-5), []),
  (.ireturn, (34, 1), (0, 0, 0, 0), 0, []),
  (.iload_n 2, (35, 1), (0, 0, 0, 0), 0, []),
  (.iconst (-1), (36, 1), (0, 0, 0, 0), (-1), []),
  (.if_icmp .ne 11, (37, 3), (24, 0, 0, 0), 0, []),
  (.aload_n 0, (40, 1), (0, 0, 0, 0), 0, []),
  (.getfield 34, (41, 3), (7, 4, 2, 0), 0, []),
  (.getfield 151, (44, 3), (6, 2, 0, 0), 0, []),
  (.ireturn, (47, 1), (0, 0, 0, 0), 0, []),
  (.iload_n 2, (48, 1), (0, 0, 0, 0), 0, []),
  (.bipush (-2), (49, 2), (0, 0, 0, 0), (-2), []),
  (.if_icmp .ne 11, (51, 3), (31, 0, 0, 0), 0, []),
  (.aload_n 0, (54, 1), (0, 0, 0, 0), 0, []),
  (.getfield 34, (55, 3), (7, 4, 2, 0), 0, []),
  (.getfield 154, (58, 3), (6, 3, 0, 0), 0, []),
  (.ireturn, (61, 1), (0, 0, 0, 0), 0, []),
  (.iload_n 2, (62, 1), (0, 0, 0, 0), 0, []),
  (.ifCond .lt 14, (63, 3), (38, 0, 0, 0), 0, []),
  (.iload_n 2, (66, 1), (0, 0, 0, 0), 0, []),
  (.aload_n 0, (67, 1), (0, 0, 0, 0), 0, []),
  (.getfield 34, (68, 3), (7, 4, 2, 0), 0, []),
  (.getfield 151, (71, 3), (6, 2, 0, 0), 0, []),
  (.if_icmp .lt 7, (74, 3), (40, 0, 0, 0), 0, []),
  (.iconst (-1), (77, 1), (0, 0, 0, 0), (-1), []),
  (.goto 12, (78, 3), (45, 0, 0, 0), 0, []),
  (.aload_n 0, (81, 1), (0, 0, 0, 0), 0, []),
  (.getfield 34, (82, 3), (7, 4, 2, 0), 0, []),
  (.getfield 157, (85, 3), (6, 5, 2, 0), 0, []),
  (.iload_n 2, (88, 1), (0, 0, 0, 0), 0, []),
  (.iaload, (89, 1), (0, 0, 0, 0), 0, []),
  (.ireturn, (90, 1), (0, 0, 0, 0), 0, [])]
def cd_115 : List xz_Op := [(.iload_n 1, (0, 1), (0, 0, 0, 0), 0, []),
  (.i2l, (1, 1), (0, 0, 0, 0), 0, []),
  (.lconst 0, (2, 1), (1, 0, 0, 0), 0, []),
  (.ldc2_w 119, (3, 3), (6, 0, 0, 0), 0, []),
  (.invokestatic 109, (6, 3), (139, 3, 0, 8), 0, []),
  (.ifCond .ne 5, (9, 3), (8, 0, 0, 0), 0, []),
  (.iconst (-1), (12, 1), (0, 0, 0, 0), (-1), []),
  (.ireturn, (13, 1), (0, 0, 0, 0), 0, []),
  (.aload_n 0, (14, 1), (0, 0, 0, 0), 0, []),
  (.getfield 32, (15, 3), (8, 7, 0, 0), 0, []),
  (.istore_n 2, (18, 1), (0, 0, 0, 0), 0, []),
  (.aload_n 0, (19, 1), (0, 0, 0, 0), 0, []),
  (.getfield 129, (20, 3), (8, 10, 0, 0), 0, []),
  (.istore_n 3, (23, 1), (0, 0, 0, 0), 0, []),
  (.aload_n 0, (24, 1), (0, 0, 0, 0), 0, []),
  (.getfield 15, (25, 3), (8, 2, 2, 0), 0, []),
  (.iconst 0, (28, 1), (0, 0, 0, 0), 0, []),
  (.aload_n 0, (29, 1), (0, 0, 0, 0), 0, []),
  (.getfield 77, (30, 3), (8, 41, 2, 0), 0, []),
  (.iconst 0, (33, 1), (0, 0, 0, 0), 0, []),
  (.bipush 14, (34, 2), (0, 0, 0, 0), 14, []),
  (.invokestatic 263, (36, 3), (0, 5, 10, 0), 0, []),
  (.iconst 0, (39, 1), (0, 0, 0, 0), 0, []),
  (.istore 4, (40, 2), (0, 0, 0, 0), 0, []),
  (.nop, (42, 0), (25, 0, 0, 0), 0, [0, 1, 2, 3, 4]),
  (.iload 4, (42, 2), (0, 0, 0, 0), 0, []),
  (.aload_n 0, (44, 1), (0, 0, 0, 0), 0, []),
  (.getfield 135, (45, 3), (8, 12, 0, 0), 0, []),
  (.if_icmp .ge 27, (48, 3), (41, 0, 0, 0), 0, []),
  (.aload_n 0, (51, 1), (0, 0, 0, 0), 0, []),
  (.aload_n 0, (52, 1), (0, 0, 0, 0), 0, []),
  (.getfield 44, (53, 3), (8, 16, 2, 0), 0, []),
  (.iload 4, (56, 2), (0, 0, 0, 0), 0, []),
  (.iaload, (58, 1), (0, 0, 0, 0), 0, []),
  (.aload_n 0, (59, 1), (0, 0, 0, 0), 0, []),
  (.getfield 47, (60, 3), (8, 17, 2, 0), 0, []),
  (.iload 4, (63, 2), (0, 0, 0, 0), 0, []),
  (.iaload, (65, 1), (0, 0, 0, 0), 0, []),
  (.invokevirtual 348, (66, 3), (135, 2, 3, 8), 0, []),
  (.iinc 4 1, (69, 3), (0, 0, 0, 0), 1, []),
  (.goto (-30), (72, 3), (24, 0, 0, 0), 0, []),
  (.iload_n 1, (75, 1), (0, 0, 0, 0), 0, []),
  (.ifCond .ne 14, (76, 3), (48, 0, 0, 0), 0, []),
  (.aload_n 0, (79, 1), (0, 0, 0, 0), 0, []),
  (.aload_n 0, (80, 1), (0, 0, 0, 0), 0, []),
  (.getfield 35, (81, 3), (8, 9, 0, 0), 0, []),
  (.invokevirtual 312, (84, 3), (170, 1, 0, 8), 0, []),
  (.goto 21, (87, 3), (58, 0, 0, 0), 0, []),
  (.iload_n 1, (90, 1), (0, 0, 0, 0), 0, []),
  (.iconst 1, (91, 1), (0, 0, 0, 0), 1, []),
  (.if_icmp .ne 12, (92, 3), (56, 0, 0, 0), 0, []),
  (.aload_n 0, (95, 1), (0, 0, 0, 0), 0, []),
  (.iconst 1, (96, 1), (0, 0, 0, 0), 1, []),
  (.iconst (-1), (97, 1), (0, 0, 0, 0), (-1), []),
  (.invokevirtual 352, (98, 3), (186, 2, 0, 8), 0, []),
  (.goto 7, (101, 3), (58, 0, 0, 0), 0, []),
  (.aload_n 0, (104, 1), (0, 0, 0, 0), 0, []),
  (.invokevirtual 162, (105, 3), (187, 0, 0, 8), 0, []),
  (.istore 4, (108, 2), (0, 0, 0, 0), 0, []),
  (.aload_n 0, (110, 1), (0, 0, 0, 0), 0, []),
  (.getfield 77, (111, 3), (8, 41, 2, 0), 0, []),
  (.iconst 0, (114, 1), (0, 0, 0, 0), 0, []),
  (.aload_n 0, (115, 1), (0, 0, 0, 0), 0, []),
  (.getfield 15, (116, 3), (8, 2, 2, 0), 0, []),
  (.iconst 0, (119, 1), (0, 0, 0, 0), 0, []),
  (.bipush 14, (120, 2), (0, 0, 0, 0), 14, []),
  (.invokestatic 263, (122, 3), (0, 5, 10, 0), 0, []),
  (.aload_n 0, (125, 1), (0, 0, 0, 0), 0, []),
  (.iload_n 2, (126, 1), (0, 0, 0, 0), 0, []),
  (.putfield 32, (127, 3), (8, 7, 0, 0), 0, []),
  (.aload_n 0, (130, 1), (0, 0, 0, 0), 0, []),
  (.iload_n 3, (131, 1), (0, 0, 0, 0), 0, []),
  (.putfield 129, (132, 3), (8, 10, 0, 0), 0, []),
  (.iload 4, (135, 2), (0, 0, 0, 0), 0, []),
  (.ireturn, (137, 1), (0, 0, 0, 0), 0, [])]
def cd_116 : List xz_Op := [(.iload_n 1, (0, 1), (0, 0, 0, 0), 0, []),
  (.ifCond .ge 5, (1, 3), (4, 0, 0, 0), 0, []),
  (.iconst (-1), (4, 1), (0, 0, 0, 0), (-1), []),
  (.ireturn, (5, 1), (0, 0, 0, 0), 0, []),
  (.iload_n 1, (6, 1), (0, 0, 0, 0), 0, []),
  (.istore_n 2, (7, 1), (0, 0, 0, 0), 0, []),
  (.iconst 0, (8, 1), (0, 0, 0, 0), 0, []),
  (.istore_n 3, (9, 1), (0, 0, 0, 0), 0, []),
  (.nop, (10, 0), (9, 0, 0, 0), 0, [0, 2, 3]),
  (.iload_n 3, (10, 1), (0, 0, 0, 0), 0, []),
  (.bipush 99, (11, 2), (0, 0, 0, 0), 99, []),
  (.if_icmp .gt 61, (13, 3), (40, 0, 0, 0), 0, []),
  (.iconst 0, (16, 1), (0, 0, 0, 0), 0, []),
  (.istore 4, (17, 2), (0, 0, 0, 0), 0, []),
  (.nop, (19, 0), (15, 0, 0, 0), 0, [0, 2, 3, 4]),
  (.iload 4, (19, 2), (0, 0, 0, 0), 0, []),
  (.aload_n 0, (21, 1), (0, 0, 0, 0), 0, []),
  (.getfield 123, (22, 3), (8, 1, 0, 0), 0, []),
  (.if_icmp .ge 43, (25, 3), (38, 0, 0, 0), 0, []),
  (.aload_n 0, (28, 1), (0, 0, 0, 0), 0, []),
  (.getfield 15, (29, 3), (8, 2, 2, 0), 0, []),
  (.iload 4, (32, 2), (0, 0, 0, 0), 0, []),
  (.baload, (34, 1), (0, 0, 0, 0), 0, []),
  (.ifCond .eq 27, (35, 3), (36, 0, 0, 0), 0, []),
  (.aload_n 0, (38, 1), (0, 0, 0, 0), 0, []),
  (.getfield 19, (39, 3), (8, 3, 2, 0), 0, []),
  (.iload 4, (42, 2), (0, 0, 0, 0), 0, []),
  (.iaload, (44, 1), (0, 0, 0, 0), 0, []),
  (.iload_n 3, (45, 1), (0, 0, 0, 0), 0, []),
  (.if_icmp .eq 6, (46, 3), (31, 0, 0, 0), 0, []),
  (.goto 13, (49, 3), (36, 0, 0, 0), 0, []),
  (.iload_n 2, (52, 1), (0, 0, 0, 0), 0, []),
  (.ifCond .ne 6, (53, 3), (35, 0, 0, 0), 0, []),
  (.iload 4, (56, 2), (0, 0, 0, 0), 0, []),
  (.ireturn, (58, 1), (0, 0, 0, 0), 0, []),
  (.iinc 2 (-1), (59, 3), (0, 0, 0, 0), (-1), []),
  (.iinc 4 1, (62, 3), (0, 0, 0, 0), 1, []),
  (.goto (-46), (65, 3), (14, 0, 0, 0), 0, []),
  (.iinc 3 1, (68, 3), (0, 0, 0, 0), 1, []),
  (.goto (-61), (71, 3), (8, 0, 0, 0), 0, []),
  (.bipush (-5), (74, 2), (0, 0, 0, 0), (-5), []),
  (.ireturn, (76, 1), (0, 0, 0, 0), 0, [])]
def cd_117 : List xz_Op := [(.aload_n 0, (0, 1), (0, 0, 0, 0), 0, []),
  (.iload_n 1, (1, 1), (0, 0, 0, 0), 0, []),
  (.invokevirtual 113, (2, 3), (144, 1, 0, 8), 0, []),
  (.ifCond .eq 20, (5, 3), (13, 0, 0, 0), 0, []),
  (.aload_n 0, (8, 1), (0, 0, 0, 0), 0, []),
  (.iload_n 2, (9, 1), (0, 0, 0, 0), 0, []),
  (.invokevirtual 113, (10, 3), (144, 1, 0, 8), 0, []),
  (.ifCond .eq 12, (13, 3), (13, 0, 0, 0), 0, []),
  (.iload_n 1, (16, 1), (0, 0, 0, 0), 0, []),
  (.iload_n 2, (17, 1), (0, 0, 0, 0), 0, []),
  (.if_icmp .eq 7, (18, 3), (13, 0, 0, 0), 0, []),
  (.iconst 1, (21, 1), (0, 0, 0, 0), 1, []),
  (.goto 4, (22, 3), (14, 0, 0, 0), 0, []),
  (.iconst 0, (25, 1), (0, 0, 0, 0), 0, []),
  (.ireturn, (26, 1), (1, 0, 0, 0), 0, [])]
def cd_118 : List xz_Op := [(.aload_n 0, (0, 1), (0, 0, 0, 0), 0, []),
  (.iload_n 1, (1, 1), (0, 0, 0, 0), 0, []),
  (.invokevirtual 113, (2, 3), (144, 1, 0, 8), 0, []),
  (.ifCond .eq 11, (5, 3), (8, 0, 0, 0), 0, []),
  (.aload_n 0, (8, 1), (0, 0, 0, 0), 0, []),
  (.iload_n 2, (9, 1), (0, 0, 0, 0), 0, []),
  (.invokevirtual 113, (10, 3), (144, 1, 0, 8), 0, []),
  (.ifCond .ne 5, (13, 3), (10, 0, 0, 0), 0, []),
  (.iconst (-1), (16, 1), (0, 0, 0, 0), (-1), []),
  (.ireturn, (17, 1), (0, 0, 0, 0), 0, []),
  (.iload_n 3, (18, 1), (0, 0, 0, 0), 0, []),
  (.invokestatic 145, (19, 3), (149, 1, 0, 8), 0, []),
  (.ifCond .ne 6, (22, 3), (15, 0, 0, 0), 0, []),
  (.bipush (-2), (25, 2), (0, 0, 0, 0), (-2), []),
  (.ireturn, (27, 1), (0, 0, 0, 0), 0, []),
  (.aload_n 0, (28, 1), (0, 0, 0, 0), 0, []),
  (.iload_n 1, (29, 1), (0, 0, 0, 0), 0, []),
  (.putfield 126, (30, 3), (8, 8, 0, 0), 0, []),
  (.aload_n 0, (33, 1), (0, 0, 0, 0), 0, []),
  (.iload_n 2, (34, 1), (0, 0, 0, 0), 0, []),
  (.putfield 35, (35, 3), (8, 9, 0, 0), 0, []),
  (.aload_n 0, (38, 1), (0, 0, 0, 0), 0, []),
  (.iload_n 3, (39, 1), (0, 0, 0, 0), 0, []),
  (.putfield 129, (40, 3), (8, 10, 0, 0), 0, []),
  (.aload_n 0, (43, 1), (0, 0, 0, 0), 0, []),
  (.invokevirtual 162, (44, 3), (187, 0, 0, 8), 0, []),
  (.ireturn, (47, 1), (0, 0, 0, 0), 0, [])]
def cd_119 : List xz_Op := [(.aload_n 0, (0, 1), (0, 0, 0, 0), 0, []),
  (.iload_n 1, (1, 1), (0, 0, 0, 0), 0, []),
  (.iload_n 2, (2, 1), (0, 0, 0, 0), 0, []),
  (.invokevirtual 141, (3, 3), (117, 2, 0, 8), 0, []),
  (.ifCond .ne 5, (6, 3), (7, 0, 0, 0), 0, []),
  (.iconst (-1), (9, 1), (0, 0, 0, 0), (-1), []),
  (.ireturn, (10, 1), (0, 0, 0, 0), 0, []),
  (.iconst 0, (11, 1), (0, 0, 0, 0), 0, []),
  (.istore_n 3, (12, 1), (0, 0, 0, 0), 0, []),
  (.iconst 0, (13, 1), (0, 0, 0, 0), 0, []),
  (.istore 4, (14, 2), (0, 0, 0, 0), 0, []),
  (.nop, (16, 0), (12, 0, 0, 0), 0, [0, 1, 2, 3, 4]),
  (.iload 4, (16, 2), (0, 0, 0, 0), 0, []),
  (.aload_n 0, (18, 1), (0, 0, 0, 0), 0, []),
  (.getfield 123, (19, 3), (8, 1, 0, 0), 0, []),
  (.if_icmp .ge 37, (22, 3), (35, 0, 0, 0), 0, []),
  (.aload_n 0, (25, 1), (0, 0, 0, 0), 0, []),
  (.getfield 15, (26, 3), (8, 2, 2, 0), 0, []),
  (.iload 4, (29, 2), (0, 0, 0, 0), 0, []),
  (.baload, (31, 1), (0, 0, 0, 0), 0, []),
  (.ifCond .eq 21, (32, 3), (33, 0, 0, 0), 0, []),
  (.aload_n 0, (35, 1), (0, 0, 0, 0), 0, []),
  (.iload 4, (36, 2), (0, 0, 0, 0), 0, []),
  (.iload_n 1, (38, 1), (0, 0, 0, 0), 0, []),
  (.invokevirtual 282, (39, 3), (164, 2, 0, 8), 0, []),
  (.iload_n 2, (42, 1), (0, 0, 0, 0), 0, []),
  (.if_icmp .ne 10, (43, 3), (33, 0, 0, 0), 0, []),
  (.iload_n 3, (46, 1), (0, 0, 0, 0), 0, []),
  (.iconst 1, (47, 1), (0, 0, 0, 0), 1, []),
  (.iload 4, (48, 2), (0, 0, 0, 0), 0, []),
  (.ishl, (50, 1), (0, 0, 0, 0), 0, []),
  (.ior, (51, 1), (0, 0, 0, 0), 0, []),
  (.istore_n 3, (52, 1), (0, 0, 0, 0), 0, []),
  (.iinc 4 1, (53, 3), (0, 0, 0, 0), 1, []),
  (.goto (-40), (56, 3), (11, 0, 0, 0), 0, []),
  (.iload_n 3, (59, 1), (0, 0, 0, 0), 0, []),
  (.ireturn, (60, 1), (0, 0, 0, 0), 0, [])]
def cd_120 : List xz_Op := [(.iconst 0, (0, 1), (0, 0, 0, 0), 0, []),
  (.istore_n 1, (1, 1), (0, 0, 0, 0), 0, []),
  (.iconst 0, (2, 1), (0, 0, 0, 0), 0, []),
  (.istore_n 2, (3, 1), (0, 0, 0, 0), 0, []),
  (.nop, (4, 0), (5, 0, 0, 0), 0, [0, 1, 2]),
  (.iload_n 2, (4, 1), (0, 0, 0, 0), 0, []),
  (.bipush 6, (5, 2), (0, 0, 0, 0), 6, []),
  (.if_icmp .ge 17, (7, 3), (18, 0, 0, 0), 0, []),
  (.iload_n 1, (10, 1), (0, 0, 0, 0), 0, []),
  (.iload_n 0, (11, 1), (0, 0, 0, 0), 0, []),
  (.iload_n 2, (12, 1), (0, 0, 0, 0), 0, []),
  (.ishr, (13, 1), (0, 0, 0, 0), 0, []),
  (.iconst 1, (14, 1), (0, 0, 0, 0), 1, []),
  (.iand, (15, 1), (0, 0, 0, 0), 0, []),
  (.iadd, (16, 1), (0, 0, 0, 0), 0, []),
  (.istore_n 1, (17, 1), (0, 0, 0, 0), 0, []),
  (.iinc 2 1, (18, 3), (0, 0, 0, 0), 1, []),
  (.goto (-17), (21, 3), (4, 0, 0, 0), 0, []),
  (.iload_n 1, (24, 1), (0, 0, 0, 0), 0, []),
  (.ireturn, (25, 1), (0, 0, 0, 0), 0, [])]
def cd_121 : List xz_Op := [(.iload_n 1, (0, 1), (0, 0, 0, 0), 0, []),
  (.iconst (-1), (1, 1), (0, 0, 0, 0), (-1), []),
  (.if_icmp .ne 10, (2, 3), (8, 0, 0, 0), 0, []),
  (.aload_n 0, (5, 1), (0, 0, 0, 0), 0, []),
  (.iconst 0, (6, 1), (0, 0, 0, 0), 0, []),
  (.putfield 138, (7, 3), (8, 13, 0, 0), 0, []),
  (.iconst 0, (10, 1), (0, 0, 0, 0), 0, []),
  (.ireturn, (11, 1), (0, 0, 0, 0), 0, []),
  (.aload_n 0, (12, 1), (0, 0, 0, 0), 0, []),
  (.iload_n 1, (13, 1), (0, 0, 0, 0), 0, []),
  (.invokevirtual 113, (14, 3), (144, 1, 0, 8), 0, []),
  (.ifCond .ne 5, (17, 3), (14, 0, 0, 0), 0, []),
  (.iconst (-1), (20, 1), (0, 0, 0, 0), (-1), []),
  (.ireturn, (21, 1), (0, 0, 0, 0), 0, []),
  (.iload_n 2, (22, 1), (0, 0, 0, 0), 0, []),
  (.invokestatic 145, (23, 3), (149, 1, 0, 8), 0, []),
  (.ifCond .ne 6, (26, 3), (19, 0, 0, 0), 0, []),
  (.bipush (-2), (29, 2), (0, 0, 0, 0), (-2), []),
  (.ireturn, (31, 1), (0, 0, 0, 0), 0, []),
  (.aload_n 0, (32, 1), (0, 0, 0, 0), 0, []),
  (.getfield 138, (33, 3), (8, 13, 0, 0), 0, []),
  (.bipush 8, (36, 2), (0, 0, 0, 0), 8, []),
  (.if_icmp .ne 6, (38, 3), (25, 0, 0, 0), 0, []),
  (.bipush (-4), (41, 2), (0, 0, 0, 0), (-4), []),
  (.ireturn, (43, 1), (0, 0, 0, 0), 0, []),
  (.aload_n 0, (44, 1), (0, 0, 0, 0), 0, []),
  (.getfield 50, (45, 3), (8, 18, 2, 0), 0, []),
  (.aload_n 0, (48, 1), (0, 0, 0, 0), 0, []),
  (.getfield 138, (49, 3), (8, 13, 0, 0), 0, []),
  (.iload_n 1, (52, 1), (0, 0, 0, 0), 0, []),
  (.iastore, (53, 1), (0, 0, 0, 0), 0, []),
  (.aload_n 0, (54, 1), (0, 0, 0, 0), 0, []),
  (.getfield 53, (55, 3), (8, 19, 2, 0), 0, []),
  (.aload_n 0, (58, 1), (0, 0, 0, 0), 0, []),
  (.getfield 138, (59, 3), (8, 13, 0, 0), 0, []),
  (.iload_n 2, (62, 1), (0, 0, 0, 0), 0, []),
  (.iastore, (63, 1), (0, 0, 0, 0), 0, []),
  (.aload_n 0, (64, 1), (0, 0, 0, 0), 0, []),
  (.dup, (65, 1), (0, 0, 0, 0), 0, []),
  (.getfield 138, (66, 3), (8, 13, 0, 0), 0, []),
  (.iconst 1, (69, 1), (0, 0, 0, 0), 1, []),
  (.iadd, (70, 1), (0, 0, 0, 0), 0, []),
  (.putfield 138, (71, 3), (8, 13, 0, 0), 0, []),
  (.aload_n 0, (74, 1), (0, 0, 0, 0), 0, []),
  (.getfield 138, (75, 3), (8, 13, 0, 0), 0, []),
  (.ireturn, (78, 1), (0, 0, 0, 0), 0, [])]
def cd_122 : List xz_Op := [(.iload_n 1, (0, 1), (0, 0, 0, 0), 0, []),
  (.i2l, (1, 1), (0, 0, 0, 0), 0, []),
  (.lconst 0, (2, 1), (1, 0, 0, 0), 0, []),
  (.ldc2_w 315, (3, 3), (7, 0, 0, 0), 0, []),
  (.invokestatic 109, (6, 3), (139, 3, 0, 8), 0, []),
  (.ifCond .ne 6, (9, 3), (8, 0, 0, 0), 0, []),
  (.bipush (-2), (12, 2), (0, 0, 0, 0), (-2), []),
  (.ireturn, (14, 1), (0, 0, 0, 0), 0, []),
  (.aload_n 0, (15, 1), (0, 0, 0, 0), 0, []),
  (.aload_n 0, (16, 1), (0, 0, 0, 0), 0, []),
  (.getfield 35, (17, 3), (8, 9, 0, 0), 0, []),
  (.iconst 0, (20, 1), (0, 0, 0, 0), 0, []),
  (.iload_n 1, (21, 1), (0, 0, 0, 0), 0, []),
  (.iconst 0, (22, 1), (0, 0, 0, 0), 0, []),
  (.iconst 0, (23, 1), (0, 0, 0, 0), 0, []),
  (.invokevirtual 296, (24, 3), (132, 5, 3, 8), 0, []),
  (.aload_n 0, (27, 1), (0, 0, 0, 0), 0, []),
  (.getfield 235, (28, 3), (8, 37, 0, 0), 0, []),
  (.ifCond .eq 10, (31, 3), (22, 0, 0, 0), 0, []),
  (.aload_n 0, (34, 1), (0, 0, 0, 0), 0, []),
  (.getfield 245, (35, 3), (8, 34, 0, 0), 0, []),
  (.goto 5, (38, 3), (23, 0, 0, 0), 0, []),
  (.bipush (-5), (41, 2), (0, 0, 0, 0), (-5), []),
  (.ireturn, (43, 1), (0, 0, 0, 0), 0, [])]
def cd_123 : List xz_Op := [(.aload_n 0, (0, 1), (0, 0, 0, 0), 0, []),
  (.invokevirtual 208, (1, 3), (188, 0, 0, 8), 0, []),
  (.istore_n 1, (4, 1), (0, 0, 0, 0), 0, []),
  (.aload_n 0, (5, 1), (0, 0, 0, 0), 0, []),
  (.getfield 201, (6, 3), (8, 24, 0, 0), 0, []),
  (.ifCond .lt 4, (9, 3), (7, 0, 0, 0), 0, []),
  (.return_, (12, 1), (0, 0, 0, 0), 0, []),
  (.iconst 4, (13, 1), (0, 0, 0, 0), 4, []),
  (.aload_n 0, (14, 1), (0, 0, 0, 0), 0, []),
  (.getfield 211, (15, 3), (8, 25, 0, 0), 0, []),
  (.imul, (18, 1), (0, 0, 0, 0), 0, []),
  (.istore_n 2, (19, 1), (0, 0, 0, 0), 0, []),
  (.aload_n 0, (20, 1), (0, 0, 0, 0), 0, []),
  (.getfield 62, (21, 3), (8, 26, 2, 0), 0, []),
  (.aload_n 0, (24, 1), (0, 0, 0, 0), 0, []),
  (.getfield 211, (25, 3), (8, 25, 0, 0), 0, []),
  (.iload_n 1, (28, 1), (0, 0, 0, 0), 0, []),
  (.iastore, (29, 1), (0, 0, 0, 0), 0, []),
  (.aload_n 0, (30, 1), (0, 0, 0, 0), 0, []),
  (.getfield 65, (31, 3), (8, 27, 2, 0), 0, []),
  (.iload_n 2, (34, 1), (0, 0, 0, 0), 0, []),
  (.aload_n 0, (35, 1), (0, 0, 0, 0), 0, []),
  (.iload_n 1, (36, 1), (0, 0, 0, 0), 0, []),
  (.iconst 1, (37, 1), (0, 0, 0, 0), 1, []),
  (.if_icmp .eq 8, (38, 3), (28, 0, 0, 0), 0, []),
  (.iload_n 1, (41, 1), (0, 0, 0, 0), 0, []),
  (.iconst 2, (42, 1), (0, 0, 0, 0), 2, []),
  (.if_icmp .ne 7, (43, 3), (30, 0, 0, 0), 0, []),
  (.iconst 2, (46, 1), (0, 0, 0, 0), 2, []),
  (.goto 4, (47, 3), (31, 0, 0, 0), 0, []),
  (.iconst 1, (50, 1), (0, 0, 0, 0), 1, []),
  (.invokevirtual 214, (51, 3), (162, 1, 0, 8), 0, []),
  (.iastore, (54, 1), (0, 0, 0, 0), 0, []),
  (.iload_n 1, (55, 1), (0, 0, 0, 0), 0, []),
  (.iconst 1, (56, 1), (0, 0, 0, 0), 1, []),
  (.if_icmp .eq 8, (57, 3), (39, 0, 0, 0), 0, []),
  (.iload_n 1, (60, 1), (0, 0, 0, 0), 0, []),
  (.iconst 4, (61, 1), (0, 0, 0, 0), 4, []),
  (.if_icmp .ne 38, (62, 3), (63, 0, 0, 0), 0, []),
  (.nop, (65, 0), (40, 0, 0, 0), 0, [0, 1, 2]),
  (.aload_n 0, (65, 1), (0, 0, 0, 0), 0, []),
  (.getfield 65, (66, 3), (8, 27, 2, 0), 0, []),
  (.iload_n 2, (69, 1), (0, 0, 0, 0), 0, []),
  (.iconst 1, (70, 1), (0, 0, 0, 0), 1, []),
  (.iadd, (71, 1), (0, 0, 0, 0), 0, []),
  (.aload_n 0, (72, 1), (0, 0, 0, 0), 0, []),
  (.iconst 1, (73, 1), (0, 0, 0, 0), 1, []),
  (.invokevirtual 214, (74, 3), (162, 1, 0, 8), 0, []),
  (.iastore, (77, 1), (0, 0, 0, 0), 0, []),
  (.aload_n 0, (78, 1), (0, 0, 0, 0), 0, []),
  (.getfield 65, (79, 3), (8, 27, 2, 0), 0, []),
  (.iload_n 2, (82, 1), (0, 0, 0, 0), 0, []),
  (.iconst 2, (83, 1), (0, 0, 0, 0), 2, []),
  (.iadd, (84, 1), (0, 0, 0, 0), 0, []),
  (.aload_n 0, (85, 1), (0, 0, 0, 0), 0, []),
  (.iload_n 1, (86, 1), (0, 0, 0, 0), 0, []),
  (.iconst 1, (87, 1), (0, 0, 0, 0), 1, []),
  (.if_icmp .ne 7, (88, 3), (60, 0, 0, 0), 0, []),
  (.iconst 1, (91, 1), (0, 0, 0, 0), 1, []),
  (.goto 4, (92, 3), (61, 0, 0, 0), 0, []),
  (.iconst 2, (95, 1), (0, 0, 0, 0), 2, []),
  (.invokevirtual 214, (96, 3), (162, 1, 0, 8), 0, []),
  (.iastore, (99, 1), (0, 0, 0, 0), 0, []),
  (.nop, (100, 0), (64, 0, 0, 0), 0, [0, 1, 2]),
  (.iload_n 1, (100, 1), (0, 0, 0, 0), 0, []),
  (.iconst 1, (101, 1), (0, 0, 0, 0), 1, []),
  (.if_icmp .ne 16, (102, 3), (76, 0, 0, 0), 0, []),
  (.aload_n 0, (105, 1), (0, 0, 0, 0), 0, []),
  (.getfield 65, (106, 3), (8, 27, 2, 0), 0, []),
  (.iload_n 2, (109, 1), (0, 0, 0, 0), 0, []),
  (.iconst 3, (110, 1), (0, 0, 0, 0), 3, []),
  (.iadd, (111, 1), (0, 0, 0, 0), 0, []),
  (.aload_n 0, (112, 1), (0, 0, 0, 0), 0, []),
  (.iconst 3, (113, 1), (0, 0, 0, 0), 3, []),
  (.invokevirtual 214, (114, 3), (162, 1, 0, 8), 0, []),
  (.iastore, (117, 1), (0, 0, 0, 0), 0, []),
  (.nop, (118, 0), (77, 0, 0, 0), 0, [0]),
  (.aload_n 0, (118, 1), (0, 0, 0, 0), 0, []),
  (.getfield 201, (119, 3), (8, 24, 0, 0), 0, []),
  (.ifCond .ge 13, (122, 3), (86, 0, 0, 0), 0, []),
  (.aload_n 0, (125, 1), (0, 0, 0, 0), 0, []),
  (.dup, (126, 1), (0, 0, 0, 0), 0, []),
  (.getfield 211, (127, 3), (8, 25, 0, 0), 0, []),
  (.iconst 1, (130, 1), (0, 0, 0, 0), 1, []),
  (.iadd, (131, 1), (0, 0, 0, 0), 0, []),
  (.putfield 211, (132, 3), (8, 25, 0, 0), 0, []),
  (.nop, (135, 0), (87, 0, 0, 0), 0, []),
  (.return_, (135, 1), (0, 0, 0, 0), 0, [])]
def cd_124 : List xz_Op := [(.aload_n 0, (0, 1), (0, 0, 0, 0), 0, []),
  (.dup, (1, 1), (0, 0, 0, 0), 0, []),
  (.getfield 252, (2, 3), (8, 32, 0, 0), 0, []),
  (.iconst 1, (5, 1), (0, 0, 0, 0), 1, []),
  (.iadd, (6, 1), (0, 0, 0, 0), 0, []),
  (.putfield 252, (7, 3), (8, 32, 0, 0), 0, []),
  (.iload_n 1, (10, 1), (0, 0, 0, 0), 0, []),
  (.ifCond .ne 10, (11, 3), (11, 0, 0, 0), 0, []),
  (.aload_n 0, (14, 1), (0, 0, 0, 0), 0, []),
  (.getfield 129, (15, 3), (8, 10, 0, 0), 0, []),
  (.goto 16, (18, 3), (20, 0, 0, 0), 0, []),
  (.aload_n 0, (21, 1), (0, 0, 0, 0), 0, []),
  (.getfield 19, (22, 3), (8, 3, 2, 0), 0, []),
  (.aload_n 0, (25, 1), (0, 0, 0, 0), 0, []),
  (.getfield 68, (26, 3), (8, 38, 2, 0), 0, []),
  (.iload_n 1, (29, 1), (0, 0, 0, 0), 0, []),
  (.iconst 1, (30, 1), (0, 0, 0, 0), 1, []),
  (.isub, (31, 1), (0, 0, 0, 0), 0, []),
  (.iaload, (32, 1), (0, 0, 0, 0), 0, []),
  (.iaload, (33, 1), (0, 0, 0, 0), 0, []),
  (.istore_n 2, (34, 1), (0, 0, 0, 0), 0, []),
  (.aload_n 0, (35, 1), (0, 0, 0, 0), 0, []),
  (.aload_n 0, (36, 1), (0, 0, 0, 0), 0, []),
  (.getfield 68, (37, 3), (8, 38, 2, 0), 0, []),
  (.iload_n 1, (40, 1), (0, 0, 0, 0), 0, []),
  (.invokevirtual 255, (41, 3), (180, 2, 1, 8), 0, []),
  (.lstore_n 3, (44, 1), (0, 0, 0, 0), 0, []),
  (.aload_n 0, (45, 1), (0, 0, 0, 0), 0, []),
  (.iload_n 1, (46, 1), (0, 0, 0, 0), 0, []),
  (.iload_n 2, (47, 1), (0, 0, 0, 0), 0, []),
  (.lload_n 3, (48, 1), (0, 0, 0, 0), 0, []),
  (.invokevirtual 259, (49, 3), (142, 3, 0, 8), 0, []),
  (.ifCond .ne 4, (52, 3), (34, 0, 0, 0), 0, []),
  (.return_, (55, 1), (0, 0, 0, 0), 0, []),
  (.aload_n 0, (56, 1), (0, 0, 0, 0), 0, []),
  (.iconst 1, (57, 1), (0, 0, 0, 0), 1, []),
  (.putfield 235, (58, 3), (8, 37, 3, 0), 0, []),
  (.aload_n 0, (61, 1), (0, 0, 0, 0), 0, []),
  (.iload_n 1, (62, 1), (0, 0, 0, 0), 0, []),
  (.putfield 242, (63, 3), (8, 33, 0, 0), 0, []),
  (.aload_n 0, (66, 1), (0, 0, 0, 0), 0, []),
  (.iload_n 2, (67, 1), (0, 0, 0, 0), 0, []),
  (.putfield 245, (68, 3), (8, 34, 0, 0), 0, []),
  (.aload_n 0, (71, 1), (0, 0, 0, 0), 0, []),
  (.lload_n 3, (72, 1), (0, 0, 0, 0), 0, []),
  (.putfield 248, (73, 3), (8, 35, 1, 0), 0, []),
  (.aload_n 0, (76, 1), (0, 0, 0, 0), 0, []),
  (.getfield 68, (77, 3), (8, 38, 2, 0), 0, []),
  (.iconst 0, (80, 1), (0, 0, 0, 0), 0, []),
  (.aload_n 0, (81, 1), (0, 0, 0, 0), 0, []),
  (.getfield 71, (82, 3), (8, 39, 2, 0), 0, []),
  (.iconst 0, (85, 1), (0, 0, 0, 0), 0, []),
  (.iload_n 1, (86, 1), (0, 0, 0, 0), 0, []),
  (.invokestatic 263, (87, 3), (0, 5, 10, 0), 0, []),
  (.return_, (90, 1), (0, 0, 0, 0), 0, [])]
def cd_125 : List xz_Op := [(.iload_n 1, (0, 1), (0, 0, 0, 0), 0, []),
  (.ifCond .ne 10, (1, 3), (5, 0, 0, 0), 0, []),
  (.aload_n 0, (4, 1), (0, 0, 0, 0), 0, []),
  (.getfield 132, (5, 3), (8, 11, 0, 0), 0, []),
  (.goto 41, (8, 3), (24, 0, 0, 0), 0, []),
  (.iload_n 1, (11, 1), (0, 0, 0, 0), 0, []),
  (.iconst 1, (12, 1), (0, 0, 0, 0), 1, []),
  (.if_icmp .ne 10, (13, 3), (11, 0, 0, 0), 0, []),
  (.aload_n 0, (16, 1), (0, 0, 0, 0), 0, []),
  (.getfield 135, (17, 3), (8, 12, 0, 0), 0, []),
  (.goto 29, (20, 3), (24, 0, 0, 0), 0, []),
  (.iload_n 1, (23, 1), (0, 0, 0, 0), 0, []),
  (.iconst 2, (24, 1), (0, 0, 0, 0), 2, []),
  (.if_icmp .ne 10, (25, 3), (17, 0, 0, 0), 0, []),
  (.aload_n 0, (28, 1), (0, 0, 0, 0), 0, []),
  (.getfield 138, (29, 3), (8, 13, 0, 0), 0, []),
  (.goto 17, (32, 3), (24, 0, 0, 0), 0, []),
  (.iload_n 1, (35, 1), (0, 0, 0, 0), 0, []),
  (.iconst 3, (36, 1), (0, 0, 0, 0), 3, []),
  (.if_icmp .ne 10, (37, 3), (23, 0, 0, 0), 0, []),
  (.aload_n 0, (40, 1), (0, 0, 0, 0), 0, []),
  (.getfield 167, (41, 3), (8, 22, 0, 0), 0, []),
  (.goto 5, (44, 3), (24, 0, 0, 0), 0, []),
  (.bipush (-2), (47, 2), (0, 0, 0, 0), (-2), []),
  (.ireturn, (49, 1), (0, 0, 0, 0), 0, [])]
def cd_126 : List xz_Op := [(.aload_n 0, (0, 1), (0, 0, 0, 0), 0, []),
  (.iload_n 1, (1, 1), (0, 0, 0, 0), 0, []),
  (.invokevirtual 329, (2, 3), (146, 1, 0, 8), 0, []),
  (.ifCond .ne 8, (5, 3), (6, 0, 0, 0), 0, []),
  (.bipush (-2), (8, 2), (0, 0, 0, 0), (-2), []),
  (.goto 16, (10, 3), (13, 0, 0, 0), 0, []),
  (.aload_n 0, (13, 1), (0, 0, 0, 0), 0, []),
  (.iload_n 1, (14, 1), (0, 0, 0, 0), 0, []),
  (.invokevirtual 320, (15, 3), (148, 1, 0, 8), 0, []),
  (.ifCond .eq 7, (18, 3), (12, 0, 0, 0), 0, []),
  (.iconst 0, (21, 1), (0, 0, 0, 0), 0, []),
  (.goto 4, (22, 3), (13, 0, 0, 0), 0, []),
  (.iconst 1, (25, 1), (0, 0, 0, 0), 1, []),
  (.ireturn, (26, 1), (0, 0, 0, 0), 0, [])]
def cd_127 : List xz_Op := [(.iload_n 1, (0, 1), (0, 0, 0, 0), 0, []),
  (.i2l, (1, 1), (0, 0, 0, 0), 0, []),
  (.lconst 0, (2, 1), (1, 0, 0, 0), 0, []),
  (.ldc2_w 160, (3, 3), (8, 0, 0, 0), 0, []),
  (.invokestatic 109, (6, 3), (139, 3, 0, 8), 0, []),
  (.ifCond .ne 6, (9, 3), (8, 0, 0, 0), 0, []),
  (.bipush (-2), (12, 2), (0, 0, 0, 0), (-2), []),
  (.ireturn, (14, 1), (0, 0, 0, 0), 0, []),
  (.aload_n 0, (15, 1), (0, 0, 0, 0), 0, []),
  (.getfield 32, (16, 3), (8, 7, 0, 0), 0, []),
  (.istore_n 2, (19, 1), (0, 0, 0, 0), 0, []),
  (.aload_n 0, (20, 1), (0, 0, 0, 0), 0, []),
  (.iload_n 1, (21, 1), (0, 0, 0, 0), 0, []),
  (.putfield 32, (22, 3), (8, 7, 0, 0), 0, []),
  (.iload_n 2, (25, 1), (0, 0, 0, 0), 0, []),
  (.ireturn, (26, 1), (0, 0, 0, 0), 0, [])]
def cd_128 : List xz_Op := [(.iconst 4, (0, 1), (0, 0, 0, 0), 4, []),
  (.iload_n 1, (1, 1), (0, 0, 0, 0), 0, []),
  (.imul, (2, 1), (0, 0, 0, 0), 0, []),
  (.istore_n 2, (3, 1), (0, 0, 0, 0), 0, []),
  (.aload_n 0, (4, 1), (0, 0, 0, 0), 0, []),
  (.getfield 62, (5, 3), (8, 26, 2, 0), 0, []),
  (.iload_n 1, (8, 1), (0, 0, 0, 0), 0, []),
  (.iaload, (9, 1), (0, 0, 0, 0), 0, []),
  (.tableswitch 98 0 3 #[30, 41, 76, 87], (10, 30), (55, 0, 0, 0), 0, [9, 16, 41, 48]),
  (.aload_n 0, (40, 1), (0, 0, 0, 0), 0, []),
  (.aload_n 0, (41, 1), (0, 0, 0, 0), 0, []),
  (.getfield 65, (42, 3), (8, 27, 2, 0), 0, []),
  (.iload_n 2, (45, 1), (0, 0, 0, 0), 0, []),
  (.iaload, (46, 1), (0, 0, 0, 0), 0, []),
  (.invokevirtual 217, (47, 3), (166, 1, 0, 8), 0, []),
  (.ireturn, (50, 1), (0, 0, 0, 0), 0, []),
  (.aload_n 0, (51, 1), (0, 0, 0, 0), 0, []),
  (.aload_n 0, (52, 1), (0, 0, 0, 0), 0, []),
  (.getfield 65, (53, 3), (8, 27, 2, 0), 0, []),
  (.iload_n 2, (56, 1), (0, 0, 0, 0), 0, []),
  (.iaload, (57, 1), (0, 0, 0, 0), 0, []),
  (.aload_n 0, (58, 1), (0, 0, 0, 0), 0, []),
  (.getfield 65, (59, 3), (8, 27, 2, 0), 0, []),
  (.iload_n 2, (62, 1), (0, 0, 0, 0), 0, []),
  (.iconst 1, (63, 1), (0, 0, 0, 0), 1, []),
  (.iadd, (64, 1), (0, 0, 0, 0), 0, []),
  (.iaload, (65, 1), (0, 0, 0, 0), 0, []),
  (.aload_n 0, (66, 1), (0, 0, 0, 0), 0, []),
  (.getfield 65, (67, 3), (8, 27, 2, 0), 0, []),
  (.iload_n 2, (70, 1), (0, 0, 0, 0), 0, []),
  (.iconst 2, (71, 1), (0, 0, 0, 0), 2, []),
  (.iadd, (72, 1), (0, 0, 0, 0), 0, []),
  (.iaload, (73, 1), (0, 0, 0, 0), 0, []),
  (.aload_n 0, (74, 1), (0, 0, 0, 0), 0, []),
  (.getfield 65, (75, 3), (8, 27, 2, 0), 0, []),
  (.iload_n 2, (78, 1), (0, 0, 0, 0), 0, []),
  (.iconst 3, (79, 1), (0, 0, 0, 0), 3, []),
  (.iadd, (80, 1), (0, 0, 0, 0), 0, []),
  (.iaload, (81, 1), (0, 0, 0, 0), 0, []),
  (.invokevirtual 219, (82, 3), (160, 4, 0, 8), 0, []),
  (.ireturn, (85, 1), (0, 0, 0, 0), 0, []),
  (.aload_n 0, (86, 1), (0, 0, 0, 0), 0, []),
  (.aload_n 0, (87, 1), (0, 0, 0, 0), 0, []),
  (.getfield 65, (88, 3), (8, 27, 2, 0), 0, []),
  (.iload_n 2, (91, 1), (0, 0, 0, 0), 0, []),
  (.iaload, (92, 1), (0, 0, 0, 0), 0, []),
  (.invokevirtual 222, (93, 3), (129, 1, 0, 8), 0, []),
  (.ireturn, (96, 1), (0, 0, 0, 0), 0, []),
  (.aload_n 0, (97, 1), (0, 0, 0, 0), 0, []),
  (.aload_n 0, (98, 1), (0, 0, 0, 0), 0, []),
  (.getfield 65, (99, 3), (8, 27, 2, 0), 0, []),
  (.iload_n 2, (102, 1), (0, 0, 0, 0), 0, []),
  (.iaload, (103, 1), (0, 0, 0, 0), 0, []),
  (.invokevirtual 224, (104, 3), (127, 1, 0, 8), 0, []),
  (.ireturn, (107, 1), (0, 0, 0, 0), 0, []),
  (.aload_n 0, (108, 1), (0, 0, 0, 0), 0, []),
  (.aload_n 0, (109, 1), (0, 0, 0, 0), 0, []),
  (.getfield 65, (110, 3), (8, 27, 2, 0), 0, []),
  (.iload_n 2, (113, 1), (0, 0, 0, 0), 0, []),
  (.iaload, (114, 1), (0, 0, 0, 0), 0, []),
  (.aload_n 0, (115, 1), (0, 0, 0, 0), 0, []),
  (.getfield 65, (116, 3), (8, 27, 2, 0), 0, []),
  (.iload_n 2, (119, 1), (0, 0, 0, 0), 0, []),
  (.iconst 1, (120, 1), (0, 0, 0, 0), 1, []),
  (.iadd, (121, 1), (0, 0, 0, 0), 0, []),
  (.iaload, (122, 1), (0, 0, 0, 0), 0, []),
  (.aload_n 0, (123, 1), (0, 0, 0, 0), 0, []),
  (.getfield 65, (124, 3), (8, 27, 2, 0), 0, []),
  (.iload_n 2, (127, 1), (0, 0, 0, 0), 0, []),
  (.iconst 2, (128, 1), (0, 0, 0, 0), 2, []),
  (.iadd, (129, 1), (0, 0, 0, 0), 0, []),
  (.iaload, (130, 1), (0, 0, 0, 0), 0, []),
  (.invokevirtual 226, (131, 3), (118, 3, 0, 8), 0, []),
  (.ireturn, (134, 1), (0, 0, 0, 0), 0, [])]
def cd_129 : List xz_Op := [(.aload_n 0, (0, 1), (0, 0, 0, 0), 0, []),
  (.iload_n 1, (1, 1), (0, 0, 0, 0), 0, []),
  (.invokevirtual 150, (2, 3), (173, 1, 0, 8), 0, []),
  (.istore_n 2, (5, 1), (0, 0, 0, 0), 0, []),
  (.iload_n 2, (6, 1), (0, 0, 0, 0), 0, []),
  (.ifCond .eq 5, (7, 3), (8, 0, 0, 0), 0, []),
  (.iload_n 2, (10, 1), (0, 0, 0, 0), 0, []),
  (.ireturn, (11, 1), (0, 0, 0, 0), 0, []),
  (.aload_n 0, (12, 1), (0, 0, 0, 0), 0, []),
  (.getfield 15, (13, 3), (8, 2, 2, 0), 0, []),
  (.iload_n 1, (16, 1), (0, 0, 0, 0), 0, []),
  (.iconst 0, (17, 1), (0, 0, 0, 0), 0, []),
  (.bastore, (18, 1), (0, 0, 0, 0), 0, []),
  (.aload_n 0, (19, 1), (0, 0, 0, 0), 0, []),
  (.invokevirtual 154, (20, 3), (155, 0, 0, 8), 0, []),
  (.ireturn, (23, 1), (0, 0, 0, 0), 0, [])]
def cd_130 : List xz_Op := [(.iload_n 1, (0, 1), (0, 0, 0, 0), 0, []),
  (.iconst (-1), (1, 1), (0, 0, 0, 0), (-1), []),
  (.if_icmp .ne 10, (2, 3), (8, 0, 0, 0), 0, []),
  (.aload_n 0, (5, 1), (0, 0, 0, 0), 0, []),
  (.iconst 0, (6, 1), (0, 0, 0, 0), 0, []),
  (.putfield 135, (7, 3), (8, 12, 0, 0), 0, []),
  (.iconst 0, (10, 1), (0, 0, 0, 0), 0, []),
  (.ireturn, (11, 1), (0, 0, 0, 0), 0, []),
  (.iload_n 1, (12, 1), (0, 0, 0, 0), 0, []),
  (.i2l, (13, 1), (0, 0, 0, 0), 0, []),
  (.lconst 0, (14, 1), (1, 0, 0, 0), 0, []),
  (.ldc2_w 158, (15, 3), (9, 0, 0, 0), 0, []),
  (.invokestatic 109, (18, 3), (139, 3, 0, 8), 0, []),
  (.ifCond .eq 36, (21, 3), (34, 0, 0, 0), 0, []),
  (.iload_n 1, (24, 1), (0, 0, 0, 0), 0, []),
  (.ifCond .ne 19, (25, 3), (26, 0, 0, 0), 0, []),
  (.iload_n 2, (28, 1), (0, 0, 0, 0), 0, []),
  (.i2l, (29, 1), (0, 0, 0, 0), 0, []),
  (.lconst 0, (30, 1), (1, 0, 0, 0), 0, []),
  (.aload_n 0, (31, 1), (0, 0, 0, 0), 0, []),
  (.getfield 123, (32, 3), (8, 1, 0, 0), 0, []),
  (.iconst 1, (35, 1), (0, 0, 0, 0), 1, []),
  (.isub, (36, 1), (0, 0, 0, 0), 0, []),
  (.i2l, (37, 1), (0, 0, 0, 0), 0, []),
  (.invokestatic 109, (38, 3), (139, 3, 0, 8), 0, []),
  (.ifCond .eq 16, (41, 3), (34, 0, 0, 0), 0, []),
  (.nop, (44, 0), (27, 0, 0, 0), 0, [0, 1, 2]),
  (.iload_n 1, (44, 1), (0, 0, 0, 0), 0, []),
  (.iconst 2, (45, 1), (0, 0, 0, 0), 2, []),
  (.if_icmp .ne 13, (46, 3), (37, 0, 0, 0), 0, []),
  (.aload_n 0, (49, 1), (0, 0, 0, 0), 0, []),
  (.iload_n 2, (50, 1), (0, 0, 0, 0), 0, []),
  (.invokevirtual 113, (51, 3), (144, 1, 0, 8), 0, []),
  (.ifCond .ne 5, (54, 3), (37, 0, 0, 0), 0, []),
  (.nop, (57, 0), (35, 0, 0, 0), 0, []),
  (.iconst (-1), (57, 1), (0, 0, 0, 0), (-1), []),
  (.ireturn, (58, 1), (0, 0, 0, 0), 0, []),
  (.nop, (59, 0), (38, 0, 0, 0), 0, [0, 1, 2]),
  (.iload_n 1, (59, 1), (0, 0, 0, 0), 0, []),
  (.iconst 1, (60, 1), (0, 0, 0, 0), 1, []),
  (.if_icmp .ne 15, (61, 3), (47, 0, 0, 0), 0, []),
  (.iload_n 2, (64, 1), (0, 0, 0, 0), 0, []),
  (.i2l, (65, 1), (0, 0, 0, 0), 0, []),
  (.lconst 0, (66, 1), (1, 0, 0, 0), 0, []),
  (.ldc2_w 160, (67, 3), (8, 0, 0, 0), 0, []),
  (.invokestatic 109, (70, 3), (139, 3, 0, 8), 0, []),
  (.ifCond .eq 15, (73, 3), (54, 0, 0, 0), 0, []),
  (.nop, (76, 0), (48, 0, 0, 0), 0, [0, 1, 2]),
  (.iload_n 1, (76, 1), (0, 0, 0, 0), 0, []),
  (.iconst 3, (77, 1), (0, 0, 0, 0), 3, []),
  (.if_icmp .ne 13, (78, 3), (57, 0, 0, 0), 0, []),
  (.iload_n 2, (81, 1), (0, 0, 0, 0), 0, []),
  (.invokestatic 145, (82, 3), (149, 1, 0, 8), 0, []),
  (.ifCond .ne 6, (85, 3), (57, 0, 0, 0), 0, []),
  (.nop, (88, 0), (55, 0, 0, 0), 0, []),
  (.bipush (-2), (88, 2), (0, 0, 0, 0), (-2), []),
  (.ireturn, (90, 1), (0, 0, 0, 0), 0, []),
  (.nop, (91, 0), (58, 0, 0, 0), 0, [0, 1, 2]),
  (.aload_n 0, (91, 1), (0, 0, 0, 0), 0, []),
  (.getfield 135, (92, 3), (8, 12, 0, 0), 0, []),
  (.bipush 8, (95, 2), (0, 0, 0, 0), 8, []),
  (.if_icmp .ne 6, (97, 3), (64, 0, 0, 0), 0, []),
  (.bipush (-4), (100, 2), (0, 0, 0, 0), (-4), []),
  (.ireturn, (102, 1), (0, 0, 0, 0), 0, []),
  (.aload_n 0, (103, 1), (0, 0, 0, 0), 0, []),
  (.getfield 44, (104, 3), (8, 16, 2, 0), 0, []),
  (.aload_n 0, (107, 1), (0, 0, 0, 0), 0, []),
  (.getfield 135, (108, 3), (8, 12, 0, 0), 0, []),
  (.iload_n 1, (111, 1), (0, 0, 0, 0), 0, []),
  (.iastore, (112, 1), (0, 0, 0, 0), 0, []),
  (.aload_n 0, (113, 1), (0, 0, 0, 0), 0, []),
  (.getfield 47, (114, 3), (8, 17, 2, 0), 0, []),
  (.aload_n 0, (117, 1), (0, 0, 0, 0), 0, []),
  (.getfield 135, (118, 3), (8, 12, 0, 0), 0, []),
  (.iload_n 2, (121, 1), (0, 0, 0, 0), 0, []),
  (.iastore, (122, 1), (0, 0, 0, 0), 0, []),
  (.aload_n 0, (123, 1), (0, 0, 0, 0), 0, []),
  (.dup, (124, 1), (0, 0, 0, 0), 0, []),
  (.getfield 135, (125, 3), (8, 12, 0, 0), 0, []),
  (.iconst 1, (128, 1), (0, 0, 0, 0), 1, []),
  (.iadd, (129, 1), (0, 0, 0, 0), 0, []),
  (.putfield 135, (130, 3), (8, 12, 0, 0), 0, []),
  (.aload_n 0, (133, 1), (0, 0, 0, 0), 0, []),
  (.getfield 135, (134, 3), (8, 12, 0, 0), 0, []),
  (.ireturn, (137, 1), (0, 0, 0, 0), 0, [])]
def cd_131 : List xz_Op := [(.iload_n 1, (0, 1), (0, 0, 0, 0), 0, []),
  (.i2l, (1, 1), (0, 0, 0, 0), 0, []),
  (.lconst 0, (2, 1), (1, 0, 0, 0), 0, []),
  (.ldc2_w 165, (3, 3), (10, 0, 0, 0), 0, []),
  (.invokestatic 109, (6, 3), (139, 3, 0, 8), 0, []),
  (.ifCond .ne 6, (9, 3), (8, 0, 0, 0), 0, []),
  (.bipush (-2), (12, 2), (0, 0, 0, 0), (-2), []),
  (.ireturn, (14, 1), (0, 0, 0, 0), 0, []),
  (.aload_n 0, (15, 1), (0, 0, 0, 0), 0, []),
  (.getfield 167, (16, 3), (8, 22, 0, 0), 0, []),
  (.bipush 100, (19, 2), (0, 0, 0, 0), 100, []),
  (.if_icmp .ne 6, (21, 3), (14, 0, 0, 0), 0, []),
  (.bipush (-4), (24, 2), (0, 0, 0, 0), (-4), []),
  (.ireturn, (26, 1), (0, 0, 0, 0), 0, []),
  (.aload_n 0, (27, 1), (0, 0, 0, 0), 0, []),
  (.getfield 59, (28, 3), (8, 21, 2, 0), 0, []),
  (.aload_n 0, (31, 1), (0, 0, 0, 0), 0, []),
  (.getfield 167, (32, 3), (8, 22, 0, 0), 0, []),
  (.iload_n 1, (35, 1), (0, 0, 0, 0), 0, []),
  (.iastore, (36, 1), (0, 0, 0, 0), 0, []),
  (.aload_n 0, (37, 1), (0, 0, 0, 0), 0, []),
  (.dup, (38, 1), (0, 0, 0, 0), 0, []),
  (.getfield 167, (39, 3), (8, 22, 0, 0), 0, []),
  (.iconst 1, (42, 1), (0, 0, 0, 0), 1, []),
  (.iadd, (43, 1), (0, 0, 0, 0), 0, []),
  (.putfield 167, (44, 3), (8, 22, 0, 0), 0, []),
  (.aload_n 0, (47, 1), (0, 0, 0, 0), 0, []),
  (.getfield 167, (48, 3), (8, 22, 0, 0), 0, []),
  (.ireturn, (51, 1), (0, 0, 0, 0), 0, [])]
def cd_132 : List xz_Op := [(.aload_n 0, (0, 1), (0, 0, 0, 0), 0, []),
  (.iload_n 1, (1, 1), (0, 0, 0, 0), 0, []),
  (.putfield 272, (2, 3), (8, 28, 0, 0), 0, []),
  (.aload_n 0, (5, 1), (0, 0, 0, 0), 0, []),
  (.iload_n 2, (6, 1), (0, 0, 0, 0), 0, []),
  (.putfield 289, (7, 3), (8, 29, 0, 0), 0, []),
  (.aload_n 0, (10, 1), (0, 0, 0, 0), 0, []),
  (.iload_n 3, (11, 1), (0, 0, 0, 0), 0, []),
  (.putfield 279, (12, 3), (8, 30, 0, 0), 0, []),
  (.aload_n 0, (15, 1), (0, 0, 0, 0), 0, []),
  (.iload 4, (16, 2), (0, 0, 0, 0), 0, []),
  (.putfield 239, (18, 3), (8, 31, 0, 0), 0, []),
  (.aload_n 0, (21, 1), (0, 0, 0, 0), 0, []),
  (.iload 5, (22, 2), (0, 0, 0, 0), 0, []),
  (.putfield 269, (24, 3), (8, 36, 3, 0), 0, []),
  (.aload_n 0, (27, 1), (0, 0, 0, 0), 0, []),
  (.iconst 0, (28, 1), (0, 0, 0, 0), 0, []),
  (.putfield 252, (29, 3), (8, 32, 0, 0), 0, []),
  (.aload_n 0, (32, 1), (0, 0, 0, 0), 0, []),
  (.iconst 0, (33, 1), (0, 0, 0, 0), 0, []),
  (.putfield 235, (34, 3), (8, 37, 3, 0), 0, []),
  (.aload_n 0, (37, 1), (0, 0, 0, 0), 0, []),
  (.aload_n 0, (38, 1), (0, 0, 0, 0), 0, []),
  (.getfield 126, (39, 3), (8, 8, 0, 0), 0, []),
  (.aload_n 0, (42, 1), (0, 0, 0, 0), 0, []),
  (.getfield 129, (43, 3), (8, 10, 0, 0), 0, []),
  (.iconst 1, (46, 1), (0, 0, 0, 0), 1, []),
  (.aload_n 0, (47, 1), (0, 0, 0, 0), 0, []),
  (.getfield 126, (48, 3), (8, 8, 0, 0), 0, []),
  (.ishl, (51, 1), (0, 0, 0, 0), 0, []),
  (.iconst 0, (52, 1), (0, 0, 0, 0), 0, []),
  (.invokevirtual 292, (53, 3), (134, 4, 3, 8), 0, []),
  (.return_, (56, 1), (0, 0, 0, 0), 0, [])]
def cd_133 : List xz_Op := [(.iload_n 1, (0, 1), (0, 0, 0, 0), 0, []),
  (.i2l, (1, 1), (0, 0, 0, 0), 0, []),
  (.lconst 0, (2, 1), (1, 0, 0, 0), 0, []),
  (.lconst 1, (3, 1), (2, 0, 0, 0), 0, []),
  (.invokestatic 109, (4, 3), (139, 3, 0, 8), 0, []),
  (.ifCond .ne 5, (7, 3), (8, 0, 0, 0), 0, []),
  (.iconst (-1), (10, 1), (0, 0, 0, 0), (-1), []),
  (.ireturn, (11, 1), (0, 0, 0, 0), 0, []),
  (.aload_n 0, (12, 1), (0, 0, 0, 0), 0, []),
  (.getfield 129, (13, 3), (8, 10, 0, 0), 0, []),
  (.istore_n 2, (16, 1), (0, 0, 0, 0), 0, []),
  (.iconst 0, (17, 1), (0, 0, 0, 0), 0, []),
  (.istore_n 3, (18, 1), (0, 0, 0, 0), 0, []),
  (.bipush (-5), (19, 2), (0, 0, 0, 0), (-5), []),
  (.istore 4, (21, 2), (0, 0, 0, 0), 0, []),
  (.iconst 0, (23, 1), (0, 0, 0, 0), 0, []),
  (.istore 5, (24, 2), (0, 0, 0, 0), 0, []),
  (.nop, (26, 0), (18, 0, 0, 0), 0, [0, 1, 2, 3, 4, 5]),
  (.iload 5, (26, 2), (0, 0, 0, 0), 0, []),
  (.bipush 20, (28, 2), (0, 0, 0, 0), 20, []),
  (.if_icmp .gt 41, (30, 3), (37, 0, 0, 0), 0, []),
  (.aload_n 0, (33, 1), (0, 0, 0, 0), 0, []),
  (.iload 5, (34, 2), (0, 0, 0, 0), 0, []),
  (.putfield 129, (36, 3), (8, 10, 0, 0), 0, []),
  (.aload_n 0, (39, 1), (0, 0, 0, 0), 0, []),
  (.invokevirtual 344, (40, 3), (141, 0, 0, 8), 0, []),
  (.ifCond .ne 6, (43, 3), (28, 0, 0, 0), 0, []),
  (.goto 19, (46, 3), (35, 0, 0, 0), 0, []),
  (.iload_n 3, (49, 1), (0, 0, 0, 0), 0, []),
  (.ifCond .ne 8, (50, 3), (32, 0, 0, 0), 0, []),
  (.iload 5, (53, 2), (0, 0, 0, 0), 0, []),
  (.goto 5, (55, 3), (33, 0, 0, 0), 0, []),
  (.iload 4, (58, 2), (0, 0, 0, 0), 0, []),
  (.istore 4, (60, 2), (0, 0, 0, 0), 0, []),
  (.iinc 3 1, (62, 3), (0, 0, 0, 0), 1, []),
  (.iinc 5 1, (65, 3), (0, 0, 0, 0), 1, []),
  (.goto (-42), (68, 3), (17, 0, 0, 0), 0, []),
  (.aload_n 0, (71, 1), (0, 0, 0, 0), 0, []),
  (.iload_n 2, (72, 1), (0, 0, 0, 0), 0, []),
  (.putfield 129, (73, 3), (8, 10, 0, 0), 0, []),
  (.iload_n 1, (76, 1), (0, 0, 0, 0), 0, []),
  (.ifCond .ne 7, (77, 3), (44, 0, 0, 0), 0, []),
  (.iload_n 3, (80, 1), (0, 0, 0, 0), 0, []),
  (.goto 5, (81, 3), (45, 0, 0, 0), 0, []),
  (.iload 4, (84, 2), (0, 0, 0, 0), 0, []),
  (.ireturn, (86, 1), (0, 0, 0, 0), 0, [])]
def cd_134 : List xz_Op := [(.aload_n 0, (0, 1), (0, 0, 0, 0), 0, []),
  (.getfield 269, (1, 3), (8, 36, 0, 0), 0, []),
  (.ifCond .eq 11, (4, 3), (7, 0, 0, 0), 0, []),
  (.aload_n 0, (7, 1), (0, 0, 0, 0), 0, []),
  (.getfield 235, (8, 3), (8, 37, 0, 0), 0, []),
  (.ifCond .eq 4, (11, 3), (7, 0, 0, 0), 0, []),
  (.return_, (14, 1), (0, 0, 0, 0), 0, []),
  (.iload_n 1, (15, 1), (0, 0, 0, 0), 0, []),
  (.aload_n 0, (16, 1), (0, 0, 0, 0), 0, []),
  (.getfield 272, (17, 3), (8, 28, 0, 0), 0, []),
  (.if_icmp .ne 10, (20, 3), (15, 0, 0, 0), 0, []),
  (.aload_n 0, (23, 1), (0, 0, 0, 0), 0, []),
  (.iload 4, (24, 2), (0, 0, 0, 0), 0, []),
  (.invokevirtual 275, (26, 3), (124, 1, 3, 8), 0, []),
  (.return_, (29, 1), (0, 0, 0, 0), 0, []),
  (.iload 4, (30, 2), (0, 0, 0, 0), 0, []),
  (.aload_n 0, (32, 1), (0, 0, 0, 0), 0, []),
  (.getfield 279, (33, 3), (8, 30, 0, 0), 0, []),
  (.if_icmp .ne 4, (36, 3), (20, 0, 0, 0), 0, []),
  (.return_, (39, 1), (0, 0, 0, 0), 0, []),
  (.iconst 0, (40, 1), (0, 0, 0, 0), 0, []),
  (.istore 5, (41, 2), (0, 0, 0, 0), 0, []),
  (.nop, (43, 0), (23, 0, 0, 0), 0, [0, 1, 2, 3, 4, 5]),
  (.iload 5, (43, 2), (0, 0, 0, 0), 0, []),
  (.aload_n 0, (45, 1), (0, 0, 0, 0), 0, []),
  (.getfield 123, (46, 3), (8, 1, 0, 0), 0, []),
  (.if_icmp .ge 110, (49, 3), (83, 0, 0, 0), 0, []),
  (.aload_n 0, (52, 1), (0, 0, 0, 0), 0, []),
  (.getfield 15, (53, 3), (8, 2, 2, 0), 0, []),
  (.iload 5, (56, 2), (0, 0, 0, 0), 0, []),
  (.baload, (58, 1), (0, 0, 0, 0), 0, []),
  (.ifCond .eq 13, (59, 3), (37, 0, 0, 0), 0, []),
  (.aload_n 0, (62, 1), (0, 0, 0, 0), 0, []),
  (.iload 5, (63, 2), (0, 0, 0, 0), 0, []),
  (.iload_n 1, (65, 1), (0, 0, 0, 0), 0, []),
  (.invokevirtual 282, (66, 3), (164, 2, 0, 8), 0, []),
  (.goto 4, (69, 3), (38, 0, 0, 0), 0, []),
  (.iconst (-1), (72, 1), (0, 0, 0, 0), (-1), []),
  (.istore 6, (73, 2), (0, 0, 0, 0), 0, []),
  (.iload 6, (75, 2), (0, 0, 0, 0), 0, []),
  (.iconst (-1), (77, 1), (0, 0, 0, 0), (-1), []),
  (.if_icmp .eq 75, (78, 3), (81, 0, 0, 0), 0, []),
  (.aload_n 0, (81, 1), (0, 0, 0, 0), 0, []),
  (.getfield 19, (82, 3), (8, 3, 2, 0), 0, []),
  (.iload 5, (85, 2), (0, 0, 0, 0), 0, []),
  (.iaload, (87, 1), (0, 0, 0, 0), 0, []),
  (.iload_n 2, (88, 1), (0, 0, 0, 0), 0, []),
  (.if_icmp .lt 64, (89, 3), (81, 0, 0, 0), 0, []),
  (.iload_n 3, (92, 1), (0, 0, 0, 0), 0, []),
  (.iload 6, (93, 2), (0, 0, 0, 0), 0, []),
  (.invokestatic 286, (95, 3), (136, 2, 0, 8), 0, []),
  (.ifCond .ne 55, (98, 3), (81, 0, 0, 0), 0, []),
  (.aload_n 0, (101, 1), (0, 0, 0, 0), 0, []),
  (.getfield 289, (102, 3), (8, 29, 0, 0), 0, []),
  (.iload 6, (105, 2), (0, 0, 0, 0), 0, []),
  (.invokestatic 286, (107, 3), (136, 2, 0, 8), 0, []),
  (.ifCond .eq 6, (110, 3), (58, 0, 0, 0), 0, []),
  (.goto 40, (113, 3), (81, 0, 0, 0), 0, []),
  (.aload_n 0, (116, 1), (0, 0, 0, 0), 0, []),
  (.getfield 68, (117, 3), (8, 38, 2, 0), 0, []),
  (.iload 4, (120, 2), (0, 0, 0, 0), 0, []),
  (.iload 5, (122, 2), (0, 0, 0, 0), 0, []),
  (.iastore, (124, 1), (0, 0, 0, 0), 0, []),
  (.aload_n 0, (125, 1), (0, 0, 0, 0), 0, []),
  (.iload 6, (126, 2), (0, 0, 0, 0), 0, []),
  (.aload_n 0, (128, 1), (0, 0, 0, 0), 0, []),
  (.getfield 19, (129, 3), (8, 3, 2, 0), 0, []),
  (.iload 5, (132, 2), (0, 0, 0, 0), 0, []),
  (.iaload, (134, 1), (0, 0, 0, 0), 0, []),
  (.aload_n 0, (135, 1), (0, 0, 0, 0), 0, []),
  (.getfield 32, (136, 3), (8, 7, 0, 0), 0, []),
  (.iadd, (139, 1), (0, 0, 0, 0), 0, []),
  (.iload_n 3, (140, 1), (0, 0, 0, 0), 0, []),
  (.iconst 1, (141, 1), (0, 0, 0, 0), 1, []),
  (.iload 6, (142, 2), (0, 0, 0, 0), 0, []),
  (.ishl, (144, 1), (0, 0, 0, 0), 0, []),
  (.ior, (145, 1), (0, 0, 0, 0), 0, []),
  (.iload 4, (146, 2), (0, 0, 0, 0), 0, []),
  (.iconst 1, (148, 1), (0, 0, 0, 0), 1, []),
  (.iadd, (149, 1), (0, 0, 0, 0), 0, []),
  (.invokevirtual 292, (150, 3), (134, 4, 3, 8), 0, []),
  (.iinc 5 1, (153, 3), (0, 0, 0, 0), 1, []),
  (.goto (-113), (156, 3), (22, 0, 0, 0), 0, []),
  (.return_, (159, 1), (0, 0, 0, 0), 0, [])]
def cd_135 : List xz_Op := [(.iload_n 1, (0, 1), (0, 0, 0, 0), 0, []),
  (.ifCond .ne 10, (1, 3), (7, 0, 0, 0), 0, []),
  (.aload_n 0, (4, 1), (0, 0, 0, 0), 0, []),
  (.getfield 15, (5, 3), (8, 2, 2, 0), 0, []),
  (.iload_n 2, (8, 1), (0, 0, 0, 0), 0, []),
  (.iconst 0, (9, 1), (0, 0, 0, 0), 0, []),
  (.bastore, (10, 1), (0, 0, 0, 0), 0, []),
  (.iload_n 1, (11, 1), (0, 0, 0, 0), 0, []),
  (.iconst 1, (12, 1), (0, 0, 0, 0), 1, []),
  (.if_icmp .ne 8, (13, 3), (13, 0, 0, 0), 0, []),
  (.aload_n 0, (16, 1), (0, 0, 0, 0), 0, []),
  (.iload_n 2, (17, 1), (0, 0, 0, 0), 0, []),
  (.putfield 32, (18, 3), (8, 7, 0, 0), 0, []),
  (.iconst 0, (21, 1), (0, 0, 0, 0), 0, []),
  (.istore_n 3, (22, 1), (0, 0, 0, 0), 0, []),
  (.nop, (23, 0), (16, 0, 0, 0), 0, [0, 1, 2, 3]),
  (.iload_n 1, (23, 1), (0, 0, 0, 0), 0, []),
  (.iconst 2, (24, 1), (0, 0, 0, 0), 2, []),
  (.if_icmp .ne 44, (25, 3), (42, 0, 0, 0), 0, []),
  (.iload_n 3, (28, 1), (0, 0, 0, 0), 0, []),
  (.aload_n 0, (29, 1), (0, 0, 0, 0), 0, []),
  (.getfield 123, (30, 3), (8, 1, 0, 0), 0, []),
  (.if_icmp .ge 36, (33, 3), (42, 0, 0, 0), 0, []),
  (.aload_n 0, (36, 1), (0, 0, 0, 0), 0, []),
  (.getfield 23, (37, 3), (8, 4, 2, 0), 0, []),
  (.iload_n 3, (40, 1), (0, 0, 0, 0), 0, []),
  (.iaload, (41, 1), (0, 0, 0, 0), 0, []),
  (.iload_n 2, (42, 1), (0, 0, 0, 0), 0, []),
  (.if_icmp .eq 13, (43, 3), (35, 0, 0, 0), 0, []),
  (.aload_n 0, (46, 1), (0, 0, 0, 0), 0, []),
  (.getfield 26, (47, 3), (8, 5, 2, 0), 0, []),
  (.iload_n 3, (50, 1), (0, 0, 0, 0), 0, []),
  (.iaload, (51, 1), (0, 0, 0, 0), 0, []),
  (.iload_n 2, (52, 1), (0, 0, 0, 0), 0, []),
  (.if_icmp .ne 10, (53, 3), (40, 0, 0, 0), 0, []),
  (.aload_n 0, (56, 1), (0, 0, 0, 0), 0, []),
  (.getfield 15, (57, 3), (8, 2, 2, 0), 0, []),
  (.iload_n 3, (60, 1), (0, 0, 0, 0), 0, []),
  (.iconst 0, (61, 1), (0, 0, 0, 0), 0, []),
  (.bastore, (62, 1), (0, 0, 0, 0), 0, []),
  (.iinc 3 1, (63, 3), (0, 0, 0, 0), 1, []),
  (.goto (-43), (66, 3), (15, 0, 0, 0), 0, []),
  (.iload_n 1, (69, 1), (0, 0, 0, 0), 0, []),
  (.iconst 3, (70, 1), (0, 0, 0, 0), 3, []),
  (.if_icmp .ne 8, (71, 3), (48, 0, 0, 0), 0, []),
  (.aload_n 0, (74, 1), (0, 0, 0, 0), 0, []),
  (.iload_n 2, (75, 1), (0, 0, 0, 0), 0, []),
  (.putfield 129, (76, 3), (8, 10, 0, 0), 0, []),
  (.return_, (79, 1), (0, 0, 0, 0), 0, [])]
def cd_136 : List xz_Op := [(.iload_n 0, (0, 1), (0, 0, 0, 0), 0, []),
  (.iload_n 1, (1, 1), (0, 0, 0, 0), 0, []),
  (.ishr, (2, 1), (0, 0, 0, 0), 0, []),
  (.iconst 1, (3, 1), (0, 0, 0, 0), 1, []),
  (.iand, (4, 1), (0, 0, 0, 0), 0, []),
  (.iconst 1, (5, 1), (0, 0, 0, 0), 1, []),
  (.if_icmp .ne 7, (6, 3), (9, 0, 0, 0), 0, []),
  (.iconst 1, (9, 1), (0, 0, 0, 0), 1, []),
  (.goto 4, (10, 3), (10, 0, 0, 0), 0, []),
  (.iconst 0, (13, 1), (0, 0, 0, 0), 0, []),
  (.ireturn, (14, 1), (1, 0, 0, 0), 0, [])]
def cd_137 : List xz_Op := [(.iload_n 1, (0, 1), (0, 0, 0, 0), 0, []),
  (.invokestatic 300, (1, 3), (145, 1, 0, 8), 0, []),
  (.ifCond .ne 6, (4, 3), (5, 0, 0, 0), 0, []),
  (.bipush (-2), (7, 2), (0, 0, 0, 0), (-2), []),
  (.ireturn, (9, 1), (0, 0, 0, 0), 0, []),
  (.aload_n 0, (10, 1), (0, 0, 0, 0), 0, []),
  (.aload_n 0, (11, 1), (0, 0, 0, 0), 0, []),
  (.getfield 35, (12, 3), (8, 9, 0, 0), 0, []),
  (.iconst 0, (15, 1), (0, 0, 0, 0), 0, []),
  (.bipush 6, (16, 2), (0, 0, 0, 0), 6, []),
  (.iload_n 1, (18, 1), (0, 0, 0, 0), 0, []),
  (.iconst 0, (19, 1), (0, 0, 0, 0), 0, []),
  (.invokevirtual 296, (20, 3), (132, 5, 3, 8), 0, []),
  (.aload_n 0, (23, 1), (0, 0, 0, 0), 0, []),
  (.getfield 235, (24, 3), (8, 37, 0, 0), 0, []),
  (.ifCond .ne 6, (27, 3), (18, 0, 0, 0), 0, []),
  (.bipush (-5), (30, 2), (0, 0, 0, 0), (-5), []),
  (.ireturn, (32, 1), (0, 0, 0, 0), 0, []),
  (.iload_n 2, (33, 1), (0, 0, 0, 0), 0, []),
  (.i2l, (34, 1), (0, 0, 0, 0), 0, []),
  (.lconst 0, (35, 1), (1, 0, 0, 0), 0, []),
  (.aload_n 0, (36, 1), (0, 0, 0, 0), 0, []),
  (.getfield 242, (37, 3), (8, 33, 0, 0), 0, []),
  (.i2l, (40, 1), (0, 0, 0, 0), 0, []),
  (.invokestatic 109, (41, 3), (139, 3, 0, 8), 0, []),
  (.ifCond .ne 5, (44, 3), (28, 0, 0, 0), 0, []),
  (.iconst (-1), (47, 1), (0, 0, 0, 0), (-1), []),
  (.ireturn, (48, 1), (0, 0, 0, 0), 0, []),
  (.aload_n 0, (49, 1), (0, 0, 0, 0), 0, []),
  (.getfield 126, (50, 3), (8, 8, 0, 0), 0, []),
  (.istore_n 3, (53, 1), (0, 0, 0, 0), 0, []),
  (.iconst 0, (54, 1), (0, 0, 0, 0), 0, []),
  (.istore 4, (55, 2), (0, 0, 0, 0), 0, []),
  (.nop, (57, 0), (34, 0, 0, 0), 0, [0, 2, 3, 4]),
  (.iload 4, (57, 2), (0, 0, 0, 0), 0, []),
  (.iload_n 2, (59, 1), (0, 0, 0, 0), 0, []),
  (.if_icmp .ge 22, (60, 3), (47, 0, 0, 0), 0, []),
  (.aload_n 0, (63, 1), (0, 0, 0, 0), 0, []),
  (.aload_n 0, (64, 1), (0, 0, 0, 0), 0, []),
  (.getfield 71, (65, 3), (8, 39, 2, 0), 0, []),
  (.iload 4, (68, 2), (0, 0, 0, 0), 0, []),
  (.iaload, (70, 1), (0, 0, 0, 0), 0, []),
  (.iload_n 3, (71, 1), (0, 0, 0, 0), 0, []),
  (.invokevirtual 282, (72, 3), (164, 2, 0, 8), 0, []),
  (.istore_n 3, (75, 1), (0, 0, 0, 0), 0, []),
  (.iinc 4 1, (76, 3), (0, 0, 0, 0), 1, []),
  (.goto (-22), (79, 3), (33, 0, 0, 0), 0, []),
  (.iload_n 3, (82, 1), (0, 0, 0, 0), 0, []),
  (.ireturn, (83, 1), (0, 0, 0, 0), 0, [])]
def cd_138 : List xz_Op := [(.aload_n 0, (0, 1), (0, 0, 0, 0), 0, []),
  (.iconst 1, (1, 1), (0, 0, 0, 0), 1, []),
  (.putfield 358, (2, 3), (8, 42, 3, 0), 0, []),
  (.aload_n 0, (5, 1), (0, 0, 0, 0), 0, []),
  (.getfield 80, (6, 3), (8, 43, 2, 0), 0, []),
  (.iconst 0, (9, 1), (0, 0, 0, 0), 0, []),
  (.aload_n 0, (10, 1), (0, 0, 0, 0), 0, []),
  (.getfield 9, (11, 3), (8, 0, 0, 0), 0, []),
  (.iastore, (14, 1), (0, 0, 0, 0), 0, []),
  (.aload_n 0, (15, 1), (0, 0, 0, 0), 0, []),
  (.getfield 80, (16, 3), (8, 43, 2, 0), 0, []),
  (.iconst 1, (19, 1), (0, 0, 0, 0), 1, []),
  (.aload_n 0, (20, 1), (0, 0, 0, 0), 0, []),
  (.getfield 123, (21, 3), (8, 1, 0, 0), 0, []),
  (.iastore, (24, 1), (0, 0, 0, 0), 0, []),
  (.aload_n 0, (25, 1), (0, 0, 0, 0), 0, []),
  (.getfield 80, (26, 3), (8, 43, 2, 0), 0, []),
  (.iconst 2, (29, 1), (0, 0, 0, 0), 2, []),
  (.aload_n 0, (30, 1), (0, 0, 0, 0), 0, []),
  (.getfield 32, (31, 3), (8, 7, 0, 0), 0, []),
  (.iastore, (34, 1), (0, 0, 0, 0), 0, []),
  (.aload_n 0, (35, 1), (0, 0, 0, 0), 0, []),
  (.getfield 80, (36, 3), (8, 43, 2, 0), 0, []),
  (.iconst 3, (39, 1), (0, 0, 0, 0), 3, []),
  (.aload_n 0, (40, 1), (0, 0, 0, 0), 0, []),
  (.getfield 126, (41, 3), (8, 8, 0, 0), 0, []),
  (.iastore, (44, 1), (0, 0, 0, 0), 0, []),
  (.aload_n 0, (45, 1), (0, 0, 0, 0), 0, []),
  (.getfield 80, (46, 3), (8, 43, 2, 0), 0, []),
  (.iconst 4, (49, 1), (0, 0, 0, 0), 4, []),
  (.aload_n 0, (50, 1), (0, 0, 0, 0), 0, []),
  (.getfield 35, (51, 3), (8, 9, 0, 0), 0, []),
  (.iastore, (54, 1), (0, 0, 0, 0), 0, []),
  (.aload_n 0, (55, 1), (0, 0, 0, 0), 0, []),
  (.getfield 80, (56, 3), (8, 43, 2, 0), 0, []),
  (.iconst 5, (59, 1), (0, 0, 0, 0), 5, []),
  (.aload_n 0, (60, 1), (0, 0, 0, 0), 0, []),
  (.getfield 129, (61, 3), (8, 10, 0, 0), 0, []),
  (.iastore, (64, 1), (0, 0, 0, 0), 0, []),
  (.aload_n 0, (65, 1), (0, 0, 0, 0), 0, []),
  (.getfield 80, (66, 3), (8, 43, 2, 0), 0, []),
  (.bipush 6, (69, 2), (0, 0, 0, 0), 6, []),
  (.aload_n 0, (71, 1), (0, 0, 0, 0), 0, []),
  (.getfield 132, (72, 3), (8, 11, 0, 0), 0, []),
  (.iastore, (75, 1), (0, 0, 0, 0), 0, []),
  (.aload_n 0, (76, 1), (0, 0, 0, 0), 0, []),
  (.getfield 80, (77, 3), (8, 43, 2, 0), 0, []),
  (.bipush 7, (80, 2), (0, 0, 0, 0), 7, []),
  (.aload_n 0, (82, 1), (0, 0, 0, 0), 0, []),
  (.getfield 135, (83, 3), (8, 12, 0, 0), 0, []),
  (.iastore, (86, 1), (0, 0, 0, 0), 0, []),
  (.aload_n 0, (87, 1), (0, 0, 0, 0), 0, []),
  (.getfield 80, (88, 3), (8, 43, 2, 0), 0, []),
  (.bipush 8, (91, 2), (0, 0, 0, 0), 8, []),
  (.aload_n 0, (93, 1), (0, 0, 0, 0), 0, []),
  (.getfield 138, (94, 3), (8, 13, 0, 0), 0, []),
  (.iastore, (97, 1), (0, 0, 0, 0), 0, []),
  (.aload_n 0, (98, 1), (0, 0, 0, 0), 0, []),
  (.getfield 15, (99, 3), (8, 2, 2, 0), 0, []),
  (.iconst 0, (102, 1), (0, 0, 0, 0), 0, []),
  (.aload_n 0, (103, 1), (0, 0, 0, 0), 0, []),
  (.getfield 83, (104, 3), (8, 44, 2, 0), 0, []),
  (.iconst 0, (107, 1), (0, 0, 0, 0), 0, []),
  (.bipush 14, (108, 2), (0, 0, 0, 0), 14, []),
  (.invokestatic 263, (110, 3), (0, 5, 10, 0), 0, []),
  (.aload_n 0, (113, 1), (0, 0, 0, 0), 0, []),
  (.getfield 56, (114, 3), (8, 20, 2, 0), 0, []),
  (.iconst 0, (117, 1), (0, 0, 0, 0), 0, []),
  (.aload_n 0, (118, 1), (0, 0, 0, 0), 0, []),
  (.getfield 86, (119, 3), (8, 45, 2, 0), 0, []),
  (.iconst 0, (122, 1), (0, 0, 0, 0), 0, []),
  (.bipush 6, (123, 2), (0, 0, 0, 0), 6, []),
  (.invokestatic 263, (125, 3), (0, 5, 10, 0), 0, []),
  (.iconst 0, (128, 1), (0, 0, 0, 0), 0, []),
  (.istore_n 1, (129, 1), (0, 0, 0, 0), 0, []),
  (.nop, (130, 0), (76, 0, 0, 0), 0, [0, 1]),
  (.iload_n 1, (130, 1), (0, 0, 0, 0), 0, []),
  (.bipush 10, (131, 2), (0, 0, 0, 0), 10, []),
  (.if_icmp .ge 31, (133, 3), (95, 0, 0, 0), 0, []),
  (.aload_n 0, (136, 1), (0, 0, 0, 0), 0, []),
  (.iload_n 1, (137, 1), (0, 0, 0, 0), 0, []),
  (.invokevirtual 361, (138, 3), (176, 1, 2, 8), 0, []),
  (.iconst 0, (141, 1), (0, 0, 0, 0), 0, []),
  (.aload_n 0, (142, 1), (0, 0, 0, 0), 0, []),
  (.getfield 91, (143, 3), (8, 46, 2, 0), 0, []),
  (.iload_n 1, (146, 1), (0, 0, 0, 0), 0, []),
  (.aaload, (147, 1), (0, 0, 0, 0), 0, []),
  (.iconst 0, (148, 1), (0, 0, 0, 0), 0, []),
  (.aload_n 0, (149, 1), (0, 0, 0, 0), 0, []),
  (.iload_n 1, (150, 1), (0, 0, 0, 0), 0, []),
  (.invokevirtual 361, (151, 3), (176, 1, 2, 8), 0, []),
  (.arraylength, (154, 1), (0, 0, 0, 0), 0, []),
  (.invokestatic 263, (155, 3), (0, 5, 10, 0), 0, []),
  (.iinc 1 1, (158, 3), (0, 0, 0, 0), 1, []),
  (.goto (-31), (161, 3), (75, 0, 0, 0), 0, []),
  (.aload_n 0, (164, 1), (0, 0, 0, 0), 0, []),
  (.invokevirtual 154, (165, 3), (155, 0, 0, 8), 0, []),
  (.ireturn, (168, 1), (0, 0, 0, 0), 0, [])]
def cd_139 : List xz_Op := [(.lload_n 0, (0, 1), (0, 0, 0, 0), 0, []),
  (.lload_n 2, (1, 1), (0, 0, 0, 0), 0, []),
  (.lcmp, (2, 1), (0, 0, 0, 0), 0, []),
  (.ifCond .lt 14, (3, 3), (10, 0, 0, 0), 0, []),
  (.lload_n 0, (6, 1), (0, 0, 0, 0), 0, []),
  (.lload 4, (7, 2), (0, 0, 0, 0), 0, []),
  (.lcmp, (9, 1), (0, 0, 0, 0), 0, []),
  (.ifCond .gt 7, (10, 3), (10, 0, 0, 0), 0, []),
  (.iconst 1, (13, 1), (0, 0, 0, 0), 1, []),
  (.goto 4, (14, 3), (11, 0, 0, 0), 0, []),
  (.iconst 0, (17, 1), (0, 0, 0, 0), 0, []),
  (.ireturn, (18, 1), (1, 0, 0, 0), 0, [])]
def cd_140 : List xz_Op := [(.aload_n 0, (0, 1), (0, 0, 0, 0), 0, []),
  (.invokespecial 3, (1, 3), (0, 0, 13, 0), 0, []),
  (.aload_n 0, (4, 1), (0, 0, 0, 0), 0, []),
  (.iconst 3, (5, 1), (0, 0, 0, 0), 3, []),
  (.putfield 9, (6, 3), (8, 0, 0, 0), 0, []),
  (.aload_n 0, (9, 1), (0, 0, 0, 0), 0, []),
  (.bipush 14, (10, 2), (0, 0, 0, 0), 14, []),
  (.newarray .boolean, (12, 2), (0, 0, 0, 0), 0, []),
  (.putfield 15, (14, 3), (8, 2, 2, 0), 0, []),
  (.aload_n 0, (17, 1), (0, 0, 0, 0), 0, []),
  (.bipush 14, (18, 2), (0, 0, 0, 0), 14, []),
  (.newarray .int, (20, 2), (0, 0, 0, 0), 0, []),
  (.putfield 19, (22, 3), (8, 3, 2, 0), 0, []),
  (.aload_n 0, (25, 1), (0, 0, 0, 0), 0, []),
  (.bipush 14, (26, 2), (0, 0, 0, 0), 14, []),
  (.newarray .int, (28, 2), (0, 0, 0, 0), 0, []),
  (.putfield 23, (30, 3), (8, 4, 2, 0), 0, []),
  (.aload_n 0, (33, 1), (0, 0, 0, 0), 0, []),
  (.bipush 14, (34, 2), (0, 0, 0, 0), 14, []),
  (.newarray .int, (36, 2), (0, 0, 0, 0), 0, []),
  (.putfield 26, (38, 3), (8, 5, 2, 0), 0, []),
  (.aload_n 0, (41, 1), (0, 0, 0, 0), 0, []),
  (.bipush 14, (42, 2), (0, 0, 0, 0), 14, []),
  (.newarray .int, (44, 2), (0, 0, 0, 0), 0, []),
  (.putfield 29, (46, 3), (8, 6, 2, 0), 0, []),
  (.aload_n 0, (49, 1), (0, 0, 0, 0), 0, []),
  (.iconst 1, (50, 1), (0, 0, 0, 0), 1, []),
  (.putfield 32, (51, 3), (8, 7, 0, 0), 0, []),
  (.aload_n 0, (54, 1), (0, 0, 0, 0), 0, []),
  (.iconst 1, (55, 1), (0, 0, 0, 0), 1, []),
  (.putfield 35, (56, 3), (8, 9, 0, 0), 0, []),
  (.aload_n 0, (59, 1), (0, 0, 0, 0), 0, []),
  (.bipush 6, (60, 2), (0, 0, 0, 0), 6, []),
  (.newarray .int, (62, 2), (0, 0, 0, 0), 0, []),
  (.putfield 38, (64, 3), (8, 14, 2, 0), 0, []),
  (.aload_n 0, (67, 1), (0, 0, 0, 0), 0, []),
  (.bipush 6, (68, 2), (0, 0, 0, 0), 6, []),
  (.newarray .int, (70, 2), (0, 0, 0, 0), 0, []),
  (.putfield 41, (72, 3), (8, 15, 2, 0), 0, []),
  (.aload_n 0, (75, 1), (0, 0, 0, 0), 0, []),
  (.bipush 8, (76, 2), (0, 0, 0, 0), 8, []),
  (.newarray .int, (78, 2), (0, 0, 0, 0), 0, []),
  (.putfield 44, (80, 3), (8, 16, 2, 0), 0, []),
  (.aload_n 0, (83, 1), (0, 0, 0, 0), 0, []),
  (.bipush 8, (84, 2), (0, 0, 0, 0), 8, []),
  (.newarray .int, (86, 2), (0, 0, 0, 0), 0, []),
  (.putfield 47, (88, 3), (8, 17, 2, 0), 0, []),
  (.aload_n 0, (91, 1), (0, 0, 0, 0), 0, []),
  (.bipush 8, (92, 2), (0, 0, 0, 0), 8, []),
  (.newarray .int, (94, 2), (0, 0, 0, 0), 0, []),
  (.putfield 50, (96, 3), (8, 18, 2, 0), 0, []),
  (.aload_n 0, (99, 1), (0, 0, 0, 0), 0, []),
  (.bipush 8, (100, 2), (0, 0, 0, 0), 8, []),
  (.newarray .int, (102, 2), (0, 0, 0, 0), 0, []),
  (.putfield 53, (104, 3), (8, 19, 2, 0), 0, []),
  (.aload_n 0, (107, 1), (0, 0, 0, 0), 0, []),
  (.bipush 6, (108, 2), (0, 0, 0, 0), 6, []),
  (.newarray .boolean, (110, 2), (0, 0, 0, 0), 0, []),
  (.putfield 56, (112, 3), (8, 20, 2, 0), 0, []),
  (.aload_n 0, (115, 1), (0, 0, 0, 0), 0, []),
  (.bipush 100, (116, 2), (0, 0, 0, 0), 100, []),
  (.newarray .int, (118, 2), (0, 0, 0, 0), 0, []),
  (.putfield 59, (120, 3), (8, 21, 2, 0), 0, []),
  (.aload_n 0, (123, 1), (0, 0, 0, 0), 0, []),
  (.bipush 12, (124, 2), (0, 0, 0, 0), 12, []),
  (.newarray .int, (126, 2), (0, 0, 0, 0), 0, []),
  (.putfield 62, (128, 3), (8, 26, 2, 0), 0, []),
  (.aload_n 0, (131, 1), (0, 0, 0, 0), 0, []),
  (.bipush 48, (132, 2), (0, 0, 0, 0), 48, []),
  (.newarray .int, (134, 2), (0, 0, 0, 0), 0, []),
  (.putfield 65, (136, 3), (8, 27, 2, 0), 0, []),
  (.aload_n 0, (139, 1), (0, 0, 0, 0), 0, []),
  (.bipush 6, (140, 2), (0, 0, 0, 0), 6, []),
  (.newarray .int, (142, 2), (0, 0, 0, 0), 0, []),
  (.putfield 68, (144, 3), (8, 38, 2, 0), 0, []),
  (.aload_n 0, (147, 1), (0, 0, 0, 0), 0, []),
  (.bipush 6, (148, 2), (0, 0, 0, 0), 6, []),
  (.newarray .int, (150, 2), (0, 0, 0, 0), 0, []),
  (.putfield 71, (152, 3), (8, 39, 2, 0), 0, []),
  (.aload_n 0, (155, 1), (0, 0, 0, 0), 0, []),
  (.bipush 6, (156, 2), (0, 0, 0, 0), 6, []),
  (.newarray .int, (158, 2), (0, 0, 0, 0), 0, []),
  (.putfield 74, (160, 3), (8, 40, 2, 0), 0, []),
  (.aload_n 0, (163, 1), (0, 0, 0, 0), 0, []),
  (.bipush 14, (164, 2), (0, 0, 0, 0), 14, []),
  (.newarray .boolean, (166, 2), (0, 0, 0, 0), 0, []),
  (.putfield 77, (168, 3), (8, 41, 2, 0), 0, []),
  (.aload_n 0, (171, 1), (0, 0, 0, 0), 0, []),
  (.bipush 9, (172, 2), (0, 0, 0, 0), 9, []),
  (.newarray .int, (174, 2), (0, 0, 0, 0), 0, []),
  (.putfield 80, (176, 3), (8, 43, 2, 0), 0, []),
  (.aload_n 0, (179, 1), (0, 0, 0, 0), 0, []),
  (.bipush 14, (180, 2), (0, 0, 0, 0), 14, []),
  (.newarray .boolean, (182, 2), (0, 0, 0, 0), 0, []),
  (.putfield 83, (184, 3), (8, 44, 2, 0), 0, []),
  (.aload_n 0, (187, 1), (0, 0, 0, 0), 0, []),
  (.bipush 6, (188, 2), (0, 0, 0, 0), 6, []),
  (.newarray .boolean, (190, 2), (0, 0, 0, 0), 0, []),
  (.putfield 86, (192, 3), (8, 45, 2, 0), 0, []),
  (.aload_n 0, (195, 1), (0, 0, 0, 0), 0, []),
  (.bipush 10, (196, 2), (0, 0, 0, 0), 10, []),
  (.bipush 14, (198, 2), (0, 0, 0, 0), 14, []),
  (.multianewarray 89 2, (200, 4), (3, 0, 0, 0), 0, []),
  (.putfield 91, (204, 3), (8, 46, 2, 0), 0, []),
  (.aload_n 0, (207, 1), (0, 0, 0, 0), 0, []),
  (.bipush 6, (208, 2), (0, 0, 0, 0), 6, []),
  (.newarray .int, (210, 2), (0, 0, 0, 0), 0, []),
  (.dup, (212, 1), (0, 0, 0, 0), 0, []),
  (.iconst 0, (213, 1), (0, 0, 0, 0), 0, []),
  (.iconst (-1), (214, 1), (0, 0, 0, 0), (-1), []),
  (.iastore, (215, 1), (0, 0, 0, 0), 0, []),
  (.dup, (216, 1), (0, 0, 0, 0), 0, []),
  (.iconst 1, (217, 1), (0, 0, 0, 0), 1, []),
  (.iconst (-1), (218, 1), (0, 0, 0, 0), (-1), []),
  (.iastore, (219, 1), (0, 0, 0, 0), 0, []),
  (.dup, (220, 1), (0, 0, 0, 0), 0, []),
  (.iconst 2, (221, 1), (0, 0, 0, 0), 2, []),
  (.iconst (-1), (222, 1), (0, 0, 0, 0), (-1), []),
  (.iastore, (223, 1), (0, 0, 0, 0), 0, []),
  (.dup, (224, 1), (0, 0, 0, 0), 0, []),
  (.iconst 3, (225, 1), (0, 0, 0, 0), 3, []),
  (.iconst (-1), (226, 1), (0, 0, 0, 0), (-1), []),
  (.iastore, (227, 1), (0, 0, 0, 0), 0, []),
  (.dup, (228, 1), (0, 0, 0, 0), 0, []),
  (.iconst 4, (229, 1), (0, 0, 0, 0), 4, []),
  (.iconst (-1), (230, 1), (0, 0, 0, 0), (-1), []),
  (.iastore, (231, 1), (0, 0, 0, 0), 0, []),
  (.dup, (232, 1), (0, 0, 0, 0), 0, []),
  (.iconst 5, (233, 1), (0, 0, 0, 0), 5, []),
  (.iconst (-1), (234, 1), (0, 0, 0, 0), (-1), []),
  (.iastore, (235, 1), (0, 0, 0, 0), 0, []),
  (.putfield 94, (236, 3), (8, 47, 2, 0), 0, []),
  (.aload_n 0, (239, 1), (0, 0, 0, 0), 0, []),
  (.bipush 6, (240, 2), (0, 0, 0, 0), 6, []),
  (.newarray .int, (242, 2), (0, 0, 0, 0), 0, []),
  (.putfield 97, (244, 3), (8, 48, 2, 0), 0, []),
  (.aload_n 0, (247, 1), (0, 0, 0, 0), 0, []),
  (.bipush 6, (248, 2), (0, 0, 0, 0), 6, []),
  (.bipush 60, (250, 2), (0, 0, 0, 0), 60, []),
  (.multianewarray 100 2, (252, 4), (4, 0, 0, 0), 0, []),
  (.putfield 102, (256, 3), (8, 49, 2, 0), 0, []),
  (.aload_n 0, (259, 1), (0, 0, 0, 0), 0, []),
  (.bipush 60, (260, 2), (0, 0, 0, 0), 60, []),
  (.newarray .long, (262, 2), (0, 0, 0, 0), 0, []),
  (.putfield 105, (264, 3), (8, 50, 2, 0), 0, []),
  (.return_, (267, 1), (0, 0, 0, 0), 0, [])]
def cd_141 : List xz_Op := [(.iconst 0, (0, 1), (0, 0, 0, 0), 0, []),
  (.istore_n 1, (1, 1), (0, 0, 0, 0), 0, []),
  (.nop, (2, 0), (3, 0, 0, 0), 0, [0, 1]),
  (.iload_n 1, (2, 1), (0, 0, 0, 0), 0, []),
  (.aload_n 0, (3, 1), (0, 0, 0, 0), 0, []),
  (.getfield 132, (4, 3), (8, 11, 0, 0), 0, []),
  (.if_icmp .ge 52, (7, 3), (35, 0, 0, 0), 0, []),
  (.aload_n 0, (10, 1), (0, 0, 0, 0), 0, []),
  (.aload_n 0, (11, 1), (0, 0, 0, 0), 0, []),
  (.getfield 38, (12, 3), (8, 14, 2, 0), 0, []),
  (.iload_n 1, (15, 1), (0, 0, 0, 0), 0, []),
  (.iaload, (16, 1), (0, 0, 0, 0), 0, []),
  (.invokevirtual 312, (17, 3), (170, 1, 0, 8), 0, []),
  (.istore_n 2, (20, 1), (0, 0, 0, 0), 0, []),
  (.iload_n 2, (21, 1), (0, 0, 0, 0), 0, []),
  (.bipush (-5), (22, 2), (0, 0, 0, 0), (-5), []),
  (.if_icmp .eq 17, (24, 3), (25, 0, 0, 0), 0, []),
  (.iload_n 2, (27, 1), (0, 0, 0, 0), 0, []),
  (.aload_n 0, (28, 1), (0, 0, 0, 0), 0, []),
  (.getfield 41, (29, 3), (8, 15, 2, 0), 0, []),
  (.iload_n 1, (32, 1), (0, 0, 0, 0), 0, []),
  (.iaload, (33, 1), (0, 0, 0, 0), 0, []),
  (.if_icmp .gt 7, (34, 3), (25, 0, 0, 0), 0, []),
  (.iconst 1, (37, 1), (0, 0, 0, 0), 1, []),
  (.goto 4, (38, 3), (26, 0, 0, 0), 0, []),
  (.iconst 0, (41, 1), (0, 0, 0, 0), 0, []),
  (.aload_n 0, (42, 1), (0, 0, 0, 0), 0, []),
  (.getfield 56, (43, 3), (8, 20, 2, 0), 0, []),
  (.iload_n 1, (46, 1), (0, 0, 0, 0), 0, []),
  (.baload, (47, 1), (0, 0, 0, 0), 0, []),
  (.if_icmp .eq 5, (48, 3), (33, 0, 0, 0), 0, []),
  (.iconst 0, (51, 1), (0, 0, 0, 0), 0, []),
  (.ireturn, (52, 1), (1, 0, 0, 0), 0, []),
  (.iinc 1 1, (53, 3), (0, 0, 0, 0), 1, []),
  (.goto (-54), (56, 3), (2, 0, 0, 0), 0, []),
  (.iconst 1, (59, 1), (0, 0, 0, 0), 1, []),
  (.ireturn, (60, 1), (1, 0, 0, 0), 0, [])]
def cd_142 : List xz_Op := [(.aload_n 0, (0, 1), (0, 0, 0, 0), 0, []),
  (.getfield 235, (1, 3), (8, 37, 0, 0), 0, []),
  (.ifCond .ne 5, (4, 3), (5, 0, 0, 0), 0, []),
  (.iconst 1, (7, 1), (0, 0, 0, 0), 1, []),
  (.ireturn, (8, 1), (1, 0, 0, 0), 0, []),
  (.aload_n 0, (9, 1), (0, 0, 0, 0), 0, []),
  (.getfield 239, (10, 3), (8, 31, 0, 0), 0, []),
  (.iconst 1, (13, 1), (0, 0, 0, 0), 1, []),
  (.if_icmp .ne 33, (14, 3), (25, 0, 0, 0), 0, []),
  (.iload_n 1, (17, 1), (0, 0, 0, 0), 0, []),
  (.aload_n 0, (18, 1), (0, 0, 0, 0), 0, []),
  (.getfield 242, (19, 3), (8, 33, 0, 0), 0, []),
  (.if_icmp .lt 19, (22, 3), (21, 0, 0, 0), 0, []),
  (.iload_n 1, (25, 1), (0, 0, 0, 0), 0, []),
  (.aload_n 0, (26, 1), (0, 0, 0, 0), 0, []),
  (.getfield 242, (27, 3), (8, 33, 0, 0), 0, []),
  (.if_icmp .ne 15, (30, 3), (23, 0, 0, 0), 0, []),
  (.iload_n 2, (33, 1), (0, 0, 0, 0), 0, []),
  (.aload_n 0, (34, 1), (0, 0, 0, 0), 0, []),
  (.getfield 245, (35, 3), (8, 34, 0, 0), 0, []),
  (.if_icmp .ge 7, (38, 3), (23, 0, 0, 0), 0, []),
  (.iconst 1, (41, 1), (0, 0, 0, 0), 1, []),
  (.goto 4, (42, 3), (24, 0, 0, 0), 0, []),
  (.iconst 0, (45, 1), (0, 0, 0, 0), 0, []),
  (.ireturn, (46, 1), (1, 0, 0, 0), 0, []),
  (.aload_n 0, (47, 1), (0, 0, 0, 0), 0, []),
  (.getfield 239, (48, 3), (8, 31, 0, 0), 0, []),
  (.iconst 2, (51, 1), (0, 0, 0, 0), 2, []),
  (.if_icmp .ne 27, (52, 3), (43, 0, 0, 0), 0, []),
  (.lload_n 3, (55, 1), (0, 0, 0, 0), 0, []),
  (.aload_n 0, (56, 1), (0, 0, 0, 0), 0, []),
  (.getfield 248, (57, 3), (8, 35, 1, 0), 0, []),
  (.lcmp, (60, 1), (0, 0, 0, 0), 0, []),
  (.ifCond .eq 18, (61, 3), (43, 0, 0, 0), 0, []),
  (.lload_n 3, (64, 1), (0, 0, 0, 0), 0, []),
  (.aload_n 0, (65, 1), (0, 0, 0, 0), 0, []),
  (.getfield 248, (66, 3), (8, 35, 1, 0), 0, []),
  (.lcmp, (69, 1), (0, 0, 0, 0), 0, []),
  (.ifCond .le 7, (70, 3), (41, 0, 0, 0), 0, []),
  (.iconst 1, (73, 1), (0, 0, 0, 0), 1, []),
  (.goto 4, (74, 3), (42, 0, 0, 0), 0, []),
  (.iconst 0, (77, 1), (0, 0, 0, 0), 0, []),
  (.ireturn, (78, 1), (1, 0, 0, 0), 0, []),
  (.iload_n 2, (79, 1), (0, 0, 0, 0), 0, []),
  (.aload_n 0, (80, 1), (0, 0, 0, 0), 0, []),
  (.getfield 245, (81, 3), (8, 34, 0, 0), 0, []),
  (.if_icmp .lt 19, (84, 3), (55, 0, 0, 0), 0, []),
  (.iload_n 2, (87, 1), (0, 0, 0, 0), 0, []),
  (.aload_n 0, (88, 1), (0, 0, 0, 0), 0, []),
  (.getfield 245, (89, 3), (8, 34, 0, 0), 0, []),
  (.if_icmp .ne 15, (92, 3), (57, 0, 0, 0), 0, []),
  (.iload_n 1, (95, 1), (0, 0, 0, 0), 0, []),
  (.aload_n 0, (96, 1), (0, 0, 0, 0), 0, []),
  (.getfield 242, (97, 3), (8, 33, 0, 0), 0, []),
  (.if_icmp .ge 7, (100, 3), (57, 0, 0, 0), 0, []),
  (.iconst 1, (103, 1), (0, 0, 0, 0), 1, []),
  (.goto 4, (104, 3), (58, 0, 0, 0), 0, []),
  (.iconst 0, (107, 1), (0, 0, 0, 0), 0, []),
  (.ireturn, (108, 1), (1, 0, 0, 0), 0, [])]
def cd_143 : List xz_Op := [(.iload_n 0, (0, 1), (0, 0, 0, 0), 0, []),
  (.i2l, (1, 1), (0, 0, 0, 0), 0, []),
  (.lconst 0, (2, 1), (1, 0, 0, 0), 0, []),
  (.lconst 1, (3, 1), (2, 0, 0, 0), 0, []),
  (.invokestatic 109, (4, 3), (139, 3, 0, 8), 0, []),
  (.ireturn, (7, 1), (1, 0, 0, 0), 0, [])]
def cd_144 : List xz_Op := [(.iload_n 1, (0, 1), (0, 0, 0, 0), 0, []),
  (.i2l, (1, 1), (0, 0, 0, 0), 0, []),
  (.lconst 0, (2, 1), (1, 0, 0, 0), 0, []),
  (.aload_n 0, (3, 1), (0, 0, 0, 0), 0, []),
  (.getfield 9, (4, 3), (8, 0, 0, 0), 0, []),
  (.iconst 1, (7, 1), (0, 0, 0, 0), 1, []),
  (.isub, (8, 1), (0, 0, 0, 0), 0, []),
  (.i2l, (9, 1), (0, 0, 0, 0), 0, []),
  (.invokestatic 109, (10, 3), (139, 3, 0, 8), 0, []),
  (.ireturn, (13, 1), (1, 0, 0, 0), 0, [])]
def cd_145 : List xz_Op := [(.iload_n 0, (0, 1), (0, 0, 0, 0), 0, []),
  (.i2l, (1, 1), (0, 0, 0, 0), 0, []),
  (.lconst 0, (2, 1), (1, 0, 0, 0), 0, []),
  (.ldc2_w 119, (3, 3), (6, 0, 0, 0), 0, []),
  (.invokestatic 109, (6, 3), (139, 3, 0, 8), 0, []),
  (.ireturn, (9, 1), (1, 0, 0, 0), 0, [])]
def cd_146 : List xz_Op := [(.iload_n 1, (0, 1), (0, 0, 0, 0), 0, []),
  (.i2l, (1, 1), (0, 0, 0, 0), 0, []),
  (.lconst 0, (2, 1), (1, 0, 0, 0), 0, []),
  (.iconst 1, (3, 1), (0, 0, 0, 0), 1, []),
  (.aload_n 0, (4, 1), (0, 0, 0, 0), 0, []),
  (.getfield 9, (5, 3), (8, 0, 0, 0), 0, []),
  (.ishl, (8, 1), (0, 0, 0, 0), 0, []),
  (.iconst 1, (9, 1), (0, 0, 0, 0), 1, []),
  (.isub, (10, 1), (0, 0, 0, 0), 0, []),
  (.i2l, (11, 1), (0, 0, 0, 0), 0, []),
  (.invokestatic 109, (12, 3), (139, 3, 0, 8), 0, []),
  (.ifCond .eq 29, (15, 3), (24, 0, 0, 0), 0, []),
  (.iload_n 1, (18, 1), (0, 0, 0, 0), 0, []),
  (.aload_n 0, (19, 1), (0, 0, 0, 0), 0, []),
  (.getfield 126, (20, 3), (8, 8, 0, 0), 0, []),
  (.invokestatic 286, (23, 3), (136, 2, 0, 8), 0, []),
  (.ifCond .ne 18, (26, 3), (24, 0, 0, 0), 0, []),
  (.iload_n 1, (29, 1), (0, 0, 0, 0), 0, []),
  (.aload_n 0, (30, 1), (0, 0, 0, 0), 0, []),
  (.getfield 35, (31, 3), (8, 9, 0, 0), 0, []),
  (.invokestatic 286, (34, 3), (136, 2, 0, 8), 0, []),
  (.ifCond .ne 7, (37, 3), (24, 0, 0, 0), 0, []),
  (.iconst 1, (40, 1), (0, 0, 0, 0), 1, []),
  (.goto 4, (41, 3), (25, 0, 0, 0), 0, []),
  (.iconst 0, (44, 1), (0, 0, 0, 0), 0, []),
  (.ireturn, (45, 1), (1, 0, 0, 0), 0, [])]
def cd_147 : List xz_Op := [(.iload_n 0, (0, 1), (0, 0, 0, 0), 0, []),
  (.i2l, (1, 1), (0, 0, 0, 0), 0, []),
  (.lconst 0, (2, 1), (1, 0, 0, 0), 0, []),
  (.ldc2_w 315, (3, 3), (7, 0, 0, 0), 0, []),
  (.invokestatic 109, (6, 3), (139, 3, 0, 8), 0, []),
  (.ireturn, (9, 1), (1, 0, 0, 0), 0, [])]
def cd_148 : List xz_Op := [(.aload_n 0, (0, 1), (0, 0, 0, 0), 0, []),
  (.aload_n 0, (1, 1), (0, 0, 0, 0), 0, []),
  (.getfield 35, (2, 3), (8, 9, 0, 0), 0, []),
  (.iload_n 1, (5, 1), (0, 0, 0, 0), 0, []),
  (.bipush 6, (6, 2), (0, 0, 0, 0), 6, []),
  (.iconst 0, (8, 1), (0, 0, 0, 0), 0, []),
  (.iconst 1, (9, 1), (0, 0, 0, 0), 1, []),
  (.invokevirtual 296, (10, 3), (132, 5, 3, 8), 0, []),
  (.aload_n 0, (13, 1), (0, 0, 0, 0), 0, []),
  (.getfield 235, (14, 3), (8, 37, 0, 0), 0, []),
  (.ireturn, (17, 1), (1, 0, 0, 0), 0, [])]
def cd_149 : List xz_Op := [(.iload_n 0, (0, 1), (0, 0, 0, 0), 0, []),
  (.i2l, (1, 1), (0, 0, 0, 0), 0, []),
  (.lconst 0, (2, 1), (1, 0, 0, 0), 0, []),
  (.ldc2_w 117, (3, 3), (11, 0, 0, 0), 0, []),
  (.invokestatic 109, (6, 3), (139, 3, 0, 8), 0, []),
  (.ireturn, (9, 1), (1, 0, 0, 0), 0, [])]
def cd_150 : List xz_Op := [(.aload_n 1, (0, 1), (0, 0, 0, 0), 0, []),
  (.invokevirtual 170, (1, 3), (193, 0, 0, 20), 0, []),
  (.iload_n 2, (4, 1), (0, 0, 0, 0), 0, []),
  (.aload_n 0, (5, 1), (0, 0, 0, 0), 0, []),
  (.getfield 175, (6, 3), (8, 23, 0, 0), 0, []),
  (.isub, (9, 1), (0, 0, 0, 0), 0, []),
  (.if_icmp .eq 5, (10, 3), (9, 0, 0, 0), 0, []),
  (.iconst 0, (13, 1), (0, 0, 0, 0), 0, []),
  (.ireturn, (14, 1), (1, 0, 0, 0), 0, []),
  (.iconst 0, (15, 1), (0, 0, 0, 0), 0, []),
  (.istore_n 3, (16, 1), (0, 0, 0, 0), 0, []),
  (.nop, (17, 0), (12, 0, 0, 0), 0, [0, 1, 3]),
  (.iload_n 3, (17, 1), (0, 0, 0, 0), 0, []),
  (.aload_n 1, (18, 1), (0, 0, 0, 0), 0, []),
  (.invokevirtual 170, (19, 3), (193, 0, 0, 20), 0, []),
  (.if_icmp .ge 30, (22, 3), (31, 0, 0, 0), 0, []),
  (.aload_n 1, (25, 1), (0, 0, 0, 0), 0, []),
  (.iload_n 3, (26, 1), (0, 0, 0, 0), 0, []),
  (.invokevirtual 178, (27, 3), (189, 1, 0, 20), 0, []),
  (.aload_n 0, (30, 1), (0, 0, 0, 0), 0, []),
  (.getfield 59, (31, 3), (8, 21, 2, 0), 0, []),
  (.aload_n 0, (34, 1), (0, 0, 0, 0), 0, []),
  (.getfield 175, (35, 3), (8, 23, 0, 0), 0, []),
  (.iload_n 3, (38, 1), (0, 0, 0, 0), 0, []),
  (.iadd, (39, 1), (0, 0, 0, 0), 0, []),
  (.iaload, (40, 1), (0, 0, 0, 0), 0, []),
  (.if_icmp .eq 5, (41, 3), (29, 0, 0, 0), 0, []),
  (.iconst 0, (44, 1), (0, 0, 0, 0), 0, []),
  (.ireturn, (45, 1), (1, 0, 0, 0), 0, []),
  (.iinc 3 1, (46, 3), (0, 0, 0, 0), 1, []),
  (.goto (-32), (49, 3), (11, 0, 0, 0), 0, []),
  (.iconst 1, (52, 1), (0, 0, 0, 0), 1, []),
  (.ireturn, (53, 1), (1, 0, 0, 0), 0, [])]
def cd_151 : List xz_Op := [(.aload_n 0, (0, 1), (0, 0, 0, 0), 0, []),
  (.iload_n 1, (1, 1), (0, 0, 0, 0), 0, []),
  (.iload_n 2, (2, 1), (0, 0, 0, 0), 0, []),
  (.invokevirtual 369, (3, 3), (174, 2, 0, 8), 0, []),
  (.istore 5, (6, 2), (0, 0, 0, 0), 0, []),
  (.iload 5, (8, 2), (0, 0, 0, 0), 0, []),
  (.ifCond .eq 6, (10, 3), (9, 0, 0, 0), 0, []),
  (.iload 5, (13, 2), (0, 0, 0, 0), 0, []),
  (.ireturn, (15, 1), (0, 0, 0, 0), 0, []),
  (.aload_n 0, (16, 1), (0, 0, 0, 0), 0, []),
  (.getfield 94, (17, 3), (8, 47, 2, 0), 0, []),
  (.iload_n 1, (20, 1), (0, 0, 0, 0), 0, []),
  (.iaload, (21, 1), (0, 0, 0, 0), 0, []),
  (.istore 6, (22, 2), (0, 0, 0, 0), 0, []),
  (.aload_n 0, (24, 1), (0, 0, 0, 0), 0, []),
  (.getfield 102, (25, 3), (8, 49, 2, 0), 0, []),
  (.iload_n 1, (28, 1), (0, 0, 0, 0), 0, []),
  (.aaload, (29, 1), (0, 0, 0, 0), 0, []),
  (.iload_n 2, (30, 1), (0, 0, 0, 0), 0, []),
  (.iload 6, (31, 2), (0, 0, 0, 0), 0, []),
  (.ifCond .ne 10, (33, 3), (26, 0, 0, 0), 0, []),
  (.lload_n 3, (36, 1), (0, 0, 0, 0), 0, []),
  (.l2i, (37, 1), (0, 0, 0, 0), 0, []),
  (.i2b, (38, 1), (0, 0, 0, 0), 0, []),
  (.i2l, (39, 1), (0, 0, 0, 0), 0, []),
  (.goto 49, (40, 3), (53, 0, 0, 0), 0, []),
  (.iload 6, (43, 2), (0, 0, 0, 0), 0, []),
  (.iconst 1, (45, 1), (0, 0, 0, 0), 1, []),
  (.if_icmp .ne 10, (46, 3), (34, 0, 0, 0), 0, []),
  (.lload_n 3, (49, 1), (0, 0, 0, 0), 0, []),
  (.l2i, (50, 1), (0, 0, 0, 0), 0, []),
  (.i2s, (51, 1), (0, 0, 0, 0), 0, []),
  (.i2l, (52, 1), (0, 0, 0, 0), 0, []),
  (.goto 36, (53, 3), (53, 0, 0, 0), 0, []),
  (.iload 6, (56, 2), (0, 0, 0, 0), 0, []),
  (.iconst 2, (58, 1), (0, 0, 0, 0), 2, []),
  (.if_icmp .ne 9, (59, 3), (41, 0, 0, 0), 0, []),
  (.lload_n 3, (62, 1), (0, 0, 0, 0), 0, []),
  (.l2i, (63, 1), (0, 0, 0, 0), 0, []),
  (.i2l, (64, 1), (0, 0, 0, 0), 0, []),
  (.goto 24, (65, 3), (53, 0, 0, 0), 0, []),
  (.iload 6, (68, 2), (0, 0, 0, 0), 0, []),
  (.iconst 3, (70, 1), (0, 0, 0, 0), 3, []),
  (.if_icmp .ne 7, (71, 3), (46, 0, 0, 0), 0, []),
  (.lload_n 3, (74, 1), (0, 0, 0, 0), 0, []),
  (.goto 14, (75, 3), (53, 0, 0, 0), 0, []),
  (.lload_n 3, (78, 1), (0, 0, 0, 0), 0, []),
  (.lconst 0, (79, 1), (1, 0, 0, 0), 0, []),
  (.lcmp, (80, 1), (0, 0, 0, 0), 0, []),
  (.ifCond .eq 7, (81, 3), (52, 0, 0, 0), 0, []),
  (.lconst 1, (84, 1), (2, 0, 0, 0), 0, []),
  (.goto 4, (85, 3), (53, 0, 0, 0), 0, []),
  (.lconst 0, (88, 1), (1, 0, 0, 0), 0, []),
  (.lastore, (89, 1), (0, 0, 0, 0), 0, []),
  (.iconst 1, (90, 1), (0, 0, 0, 0), 1, []),
  (.ireturn, (91, 1), (0, 0, 0, 0), 0, [])]
def cd_152 : List xz_Op := [(.iload_n 1, (0, 1), (0, 0, 0, 0), 0, []),
  (.invokestatic 355, (1, 3), (147, 1, 0, 8), 0, []),
  (.ifCond .ne 5, (4, 3), (5, 0, 0, 0), 0, []),
  (.iconst (-1), (7, 1), (0, 0, 0, 0), (-1), []),
  (.ireturn, (8, 1), (0, 0, 0, 0), 0, []),
  (.aload_n 0, (9, 1), (0, 0, 0, 0), 0, []),
  (.getfield 94, (10, 3), (8, 47, 2, 0), 0, []),
  (.iload_n 1, (13, 1), (0, 0, 0, 0), 0, []),
  (.iaload, (14, 1), (0, 0, 0, 0), 0, []),
  (.ifCond .le 6, (15, 3), (12, 0, 0, 0), 0, []),
  (.bipush (-12), (18, 2), (0, 0, 0, 0), (-12), []),
  (.ireturn, (20, 1), (0, 0, 0, 0), 0, []),
  (.aload_n 0, (21, 1), (0, 0, 0, 0), 0, []),
  (.getfield 126, (22, 3), (8, 8, 0, 0), 0, []),
  (.aload_n 0, (25, 1), (0, 0, 0, 0), 0, []),
  (.getfield 35, (26, 3), (8, 9, 0, 0), 0, []),
  (.if_icmp .ne 6, (29, 3), (19, 0, 0, 0), 0, []),
  (.bipush (-5), (32, 2), (0, 0, 0, 0), (-5), []),
  (.ireturn, (34, 1), (0, 0, 0, 0), 0, []),
  (.aload_n 0, (35, 1), (0, 0, 0, 0), 0, []),
  (.getfield 94, (36, 3), (8, 47, 2, 0), 0, []),
  (.iload_n 1, (39, 1), (0, 0, 0, 0), 0, []),
  (.iaload, (40, 1), (0, 0, 0, 0), 0, []),
  (.ifCond .lt 7, (41, 3), (26, 0, 0, 0), 0, []),
  (.iload_n 2, (44, 1), (0, 0, 0, 0), 0, []),
  (.ifCond .ge 6, (45, 3), (28, 0, 0, 0), 0, []),
  (.bipush 100, (48, 2), (0, 0, 0, 0), 100, []),
  (.ireturn, (50, 1), (0, 0, 0, 0), 0, []),
  (.aload_n 0, (51, 1), (0, 0, 0, 0), 0, []),
  (.getfield 126, (52, 3), (8, 8, 0, 0), 0, []),
  (.istore_n 3, (55, 1), (0, 0, 0, 0), 0, []),
  (.iconst 1, (56, 1), (0, 0, 0, 0), 1, []),
  (.aload_n 0, (57, 1), (0, 0, 0, 0), 0, []),
  (.getfield 126, (58, 3), (8, 8, 0, 0), 0, []),
  (.ishl, (61, 1), (0, 0, 0, 0), 0, []),
  (.istore 4, (62, 2), (0, 0, 0, 0), 0, []),
  (.aload_n 0, (64, 1), (0, 0, 0, 0), 0, []),
  (.getfield 129, (65, 3), (8, 10, 0, 0), 0, []),
  (.istore 5, (68, 2), (0, 0, 0, 0), 0, []),
  (.iconst 0, (70, 1), (0, 0, 0, 0), 0, []),
  (.istore 6, (71, 2), (0, 0, 0, 0), 0, []),
  (.iload_n 2, (73, 1), (0, 0, 0, 0), 0, []),
  (.istore 7, (74, 2), (0, 0, 0, 0), 0, []),
  (.nop, (76, 0), (44, 0, 0, 0), 0, [0, 1, 3, 4, 5, 6, 7]),
  (.iload 7, (76, 2), (0, 0, 0, 0), 0, []),
  (.aload_n 0, (78, 1), (0, 0, 0, 0), 0, []),
  (.getfield 97, (79, 3), (8, 48, 2, 0), 0, []),
  (.iload_n 1, (82, 1), (0, 0, 0, 0), 0, []),
  (.iaload, (83, 1), (0, 0, 0, 0), 0, []),
  (.if_icmp .ge 139, (84, 3), (123, 0, 0, 0), 0, []),
  (.aload_n 0, (87, 1), (0, 0, 0, 0), 0, []),
  (.getfield 102, (88, 3), (8, 49, 2, 0), 0, []),
  (.iload_n 1, (91, 1), (0, 0, 0, 0), 0, []),
  (.aaload, (92, 1), (0, 0, 0, 0), 0, []),
  (.iload 7, (93, 2), (0, 0, 0, 0), 0, []),
  (.laload, (95, 1), (0, 0, 0, 0), 0, []),
  (.lstore 8, (96, 2), (0, 0, 0, 0), 0, []),
  (.lload 8, (98, 2), (0, 0, 0, 0), 0, []),
  (.lconst 0, (100, 1), (1, 0, 0, 0), 0, []),
  (.aload_n 0, (101, 1), (0, 0, 0, 0), 0, []),
  (.getfield 123, (102, 3), (8, 1, 0, 0), 0, []),
  (.iconst 1, (105, 1), (0, 0, 0, 0), 1, []),
  (.isub, (106, 1), (0, 0, 0, 0), 0, []),
  (.i2l, (107, 1), (0, 0, 0, 0), 0, []),
  (.invokestatic 109, (108, 3), (139, 3, 0, 8), 0, []),
  (.ifCond .ne 6, (111, 3), (68, 0, 0, 0), 0, []),
  (.iload 6, (114, 2), (0, 0, 0, 0), 0, []),
  (.ireturn, (116, 1), (0, 0, 0, 0), 0, []),
  (.lload 8, (117, 2), (0, 0, 0, 0), 0, []),
  (.l2i, (119, 1), (0, 0, 0, 0), 0, []),
  (.istore 10, (120, 2), (0, 0, 0, 0), 0, []),
  (.aload_n 0, (122, 1), (0, 0, 0, 0), 0, []),
  (.getfield 15, (123, 3), (8, 2, 2, 0), 0, []),
  (.iload 10, (126, 2), (0, 0, 0, 0), 0, []),
  (.baload, (128, 1), (0, 0, 0, 0), 0, []),
  (.ifCond .eq 13, (129, 3), (81, 0, 0, 0), 0, []),
  (.aload_n 0, (132, 1), (0, 0, 0, 0), 0, []),
  (.iload 10, (133, 2), (0, 0, 0, 0), 0, []),
  (.iload_n 3, (135, 1), (0, 0, 0, 0), 0, []),
  (.invokevirtual 282, (136, 3), (164, 2, 0, 8), 0, []),
  (.goto 4, (139, 3), (82, 0, 0, 0), 0, []),
  (.iconst (-1), (142, 1), (0, 0, 0, 0), (-1), []),
  (.istore 11, (143, 2), (0, 0, 0, 0), 0, []),
  (.iload 11, (145, 2), (0, 0, 0, 0), 0, []),
  (.iconst (-1), (147, 1), (0, 0, 0, 0), (-1), []),
  (.if_icmp .eq 25, (148, 3), (96, 0, 0, 0), 0, []),
  (.aload_n 0, (151, 1), (0, 0, 0, 0), 0, []),
  (.getfield 19, (152, 3), (8, 3, 2, 0), 0, []),
  (.iload 10, (155, 2), (0, 0, 0, 0), 0, []),
  (.iaload, (157, 1), (0, 0, 0, 0), 0, []),
  (.iload 5, (158, 2), (0, 0, 0, 0), 0, []),
  (.if_icmp .lt 13, (160, 3), (96, 0, 0, 0), 0, []),
  (.iload 4, (163, 2), (0, 0, 0, 0), 0, []),
  (.iload 11, (165, 2), (0, 0, 0, 0), 0, []),
  (.invokestatic 286, (167, 3), (136, 2, 0, 8), 0, []),
  (.ifCond .eq 6, (170, 3), (98, 0, 0, 0), 0, []),
  (.iload 6, (173, 2), (0, 0, 0, 0), 0, []),
  (.ireturn, (175, 1), (0, 0, 0, 0), 0, []),
  (.iload 11, (176, 2), (0, 0, 0, 0), 0, []),
  (.aload_n 0, (178, 1), (0, 0, 0, 0), 0, []),
  (.getfield 35, (179, 3), (8, 9, 0, 0), 0, []),
  (.if_icmp .ne 6, (182, 3), (104, 0, 0, 0), 0, []),
  (.bipush (-5), (185, 2), (0, 0, 0, 0), (-5), []),
  (.ireturn, (187, 1), (0, 0, 0, 0), 0, []),
  (.iload 11, (188, 2), (0, 0, 0, 0), 0, []),
  (.istore_n 3, (190, 1), (0, 0, 0, 0), 0, []),
  (.iload 4, (191, 2), (0, 0, 0, 0), 0, []),
  (.iconst 1, (193, 1), (0, 0, 0, 0), 1, []),
  (.iload 11, (194, 2), (0, 0, 0, 0), 0, []),
  (.ishl, (196, 1), (0, 0, 0, 0), 0, []),
  (.ior, (197, 1), (0, 0, 0, 0), 0, []),
  (.istore 4, (198, 2), (0, 0, 0, 0), 0, []),
  (.aload_n 0, (200, 1), (0, 0, 0, 0), 0, []),
  (.getfield 19, (201, 3), (8, 3, 2, 0), 0, []),
  (.iload 10, (204, 2), (0, 0, 0, 0), 0, []),
  (.iaload, (206, 1), (0, 0, 0, 0), 0, []),
  (.aload_n 0, (207, 1), (0, 0, 0, 0), 0, []),
  (.getfield 32, (208, 3), (8, 7, 0, 0), 0, []),
  (.iadd, (211, 1), (0, 0, 0, 0), 0, []),
  (.istore 5, (212, 2), (0, 0, 0, 0), 0, []),
  (.iinc 6 1, (214, 3), (0, 0, 0, 0), 1, []),
  (.iinc 7 1, (217, 3), (0, 0, 0, 0), 1, []),
  (.goto (-144), (220, 3), (43, 0, 0, 0), 0, []),
  (.bipush 100, (223, 2), (0, 0, 0, 0), 100, []),
  (.iload 6, (225, 2), (0, 0, 0, 0), 0, []),
  (.iadd, (227, 1), (0, 0, 0, 0), 0, []),
  (.ireturn, (228, 1), (0, 0, 0, 0), 0, [])]
def cd_153 : List xz_Op := [(.aload_n 0, (0, 1), (0, 0, 0, 0), 0, []),
  (.getfield 129, (1, 3), (8, 10, 0, 0), 0, []),
  (.istore_n 1, (4, 1), (0, 0, 0, 0), 0, []),
  (.bipush (-5), (5, 2), (0, 0, 0, 0), (-5), []),
  (.istore_n 2, (7, 1), (0, 0, 0, 0), 0, []),
  (.iconst 0, (8, 1), (0, 0, 0, 0), 0, []),
  (.istore_n 3, (9, 1), (0, 0, 0, 0), 0, []),
  (.nop, (10, 0), (8, 0, 0, 0), 0, [0, 1, 2, 3]),
  (.iload_n 3, (10, 1), (0, 0, 0, 0), 0, []),
  (.bipush 99, (11, 2), (0, 0, 0, 0), 99, []),
  (.if_icmp .gt 24, (13, 3), (22, 0, 0, 0), 0, []),
  (.aload_n 0, (16, 1), (0, 0, 0, 0), 0, []),
  (.iload_n 3, (17, 1), (0, 0, 0, 0), 0, []),
  (.putfield 129, (18, 3), (8, 10, 0, 0), 0, []),
  (.aload_n 0, (21, 1), (0, 0, 0, 0), 0, []),
  (.iconst 0, (22, 1), (0, 0, 0, 0), 0, []),
  (.invokevirtual 320, (23, 3), (148, 1, 0, 8), 0, []),
  (.ifCond .eq 5, (26, 3), (20, 0, 0, 0), 0, []),
  (.iload_n 3, (29, 1), (0, 0, 0, 0), 0, []),
  (.istore_n 2, (30, 1), (0, 0, 0, 0), 0, []),
  (.iinc 3 1, (31, 3), (0, 0, 0, 0), 1, []),
  (.goto (-24), (34, 3), (7, 0, 0, 0), 0, []),
  (.aload_n 0, (37, 1), (0, 0, 0, 0), 0, []),
  (.iload_n 1, (38, 1), (0, 0, 0, 0), 0, []),
  (.putfield 129, (39, 3), (8, 10, 0, 0), 0, []),
  (.iload_n 2, (42, 1), (0, 0, 0, 0), 0, []),
  (.ireturn, (43, 1), (0, 0, 0, 0), 0, [])]
def cd_154 : List xz_Op := [(.iconst 0, (0, 1), (0, 0, 0, 0), 0, []),
  (.istore_n 1, (1, 1), (0, 0, 0, 0), 0, []),
  (.nop, (2, 0), (3, 0, 0, 0), 0, [0, 1]),
  (.iload_n 1, (2, 1), (0, 0, 0, 0), 0, []),
  (.aload_n 0, (3, 1), (0, 0, 0, 0), 0, []),
  (.getfield 9, (4, 3), (8, 0, 0, 0), 0, []),
  (.if_icmp .ge 53, (7, 3), (34, 0, 0, 0), 0, []),
  (.iconst 0, (10, 1), (0, 0, 0, 0), 0, []),
  (.istore_n 2, (11, 1), (0, 0, 0, 0), 0, []),
  (.nop, (12, 0), (10, 0, 0, 0), 0, [0, 1, 2]),
  (.iload_n 2, (12, 1), (0, 0, 0, 0), 0, []),
  (.iconst 1, (13, 1), (0, 0, 0, 0), 1, []),
  (.aload_n 0, (14, 1), (0, 0, 0, 0), 0, []),
  (.getfield 9, (15, 3), (8, 0, 0, 0), 0, []),
  (.ishl, (18, 1), (0, 0, 0, 0), 0, []),
  (.if_icmp .ge 35, (19, 3), (32, 0, 0, 0), 0, []),
  (.iload_n 2, (22, 1), (0, 0, 0, 0), 0, []),
  (.invokestatic 326, (23, 3), (120, 1, 0, 8), 0, []),
  (.iload_n 1, (26, 1), (0, 0, 0, 0), 0, []),
  (.if_icmp .ne 21, (27, 3), (30, 0, 0, 0), 0, []),
  (.aload_n 0, (30, 1), (0, 0, 0, 0), 0, []),
  (.iload_n 2, (31, 1), (0, 0, 0, 0), 0, []),
  (.invokevirtual 329, (32, 3), (146, 1, 0, 8), 0, []),
  (.ifCond .eq 13, (35, 3), (30, 0, 0, 0), 0, []),
  (.aload_n 0, (38, 1), (0, 0, 0, 0), 0, []),
  (.iload_n 2, (39, 1), (0, 0, 0, 0), 0, []),
  (.invokevirtual 320, (40, 3), (148, 1, 0, 8), 0, []),
  (.ifCond .ne 5, (43, 3), (30, 0, 0, 0), 0, []),
  (.iload_n 2, (46, 1), (0, 0, 0, 0), 0, []),
  (.ireturn, (47, 1), (0, 0, 0, 0), 0, []),
  (.iinc 2 1, (48, 3), (0, 0, 0, 0), 1, []),
  (.goto (-39), (51, 3), (9, 0, 0, 0), 0, []),
  (.iinc 1 1, (54, 3), (0, 0, 0, 0), 1, []),
  (.goto (-55), (57, 3), (2, 0, 0, 0), 0, []),
  (.bipush (-5), (60, 2), (0, 0, 0, 0), (-5), []),
  (.ireturn, (62, 1), (0, 0, 0, 0), 0, [])]
def cd_155 : List xz_Op := [(.iconst 0, (0, 1), (0, 0, 0, 0), 0, []),
  (.istore_n 1, (1, 1), (0, 0, 0, 0), 0, []),
  (.iconst 0, (2, 1), (0, 0, 0, 0), 0, []),
  (.istore_n 2, (3, 1), (0, 0, 0, 0), 0, []),
  (.nop, (4, 0), (5, 0, 0, 0), 0, [0, 1, 2]),
  (.iload_n 2, (4, 1), (0, 0, 0, 0), 0, []),
  (.aload_n 0, (5, 1), (0, 0, 0, 0), 0, []),
  (.getfield 123, (6, 3), (8, 1, 0, 0), 0, []),
  (.if_icmp .ge 21, (9, 3), (17, 0, 0, 0), 0, []),
  (.aload_n 0, (12, 1), (0, 0, 0, 0), 0, []),
  (.getfield 15, (13, 3), (8, 2, 2, 0), 0, []),
  (.iload_n 2, (16, 1), (0, 0, 0, 0), 0, []),
  (.baload, (17, 1), (0, 0, 0, 0), 0, []),
  (.ifCond .eq 6, (18, 3), (15, 0, 0, 0), 0, []),
  (.iinc 1 1, (21, 3), (0, 0, 0, 0), 1, []),
  (.iinc 2 1, (24, 3), (0, 0, 0, 0), 1, []),
  (.goto (-23), (27, 3), (4, 0, 0, 0), 0, []),
  (.iload_n 1, (30, 1), (0, 0, 0, 0), 0, []),
  (.ireturn, (31, 1), (0, 0, 0, 0), 0, [])]
def cd_156 : List xz_Op := [(.iconst 0, (0, 1), (0, 0, 0, 0), 0, []),
  (.istore_n 1, (1, 1), (0, 0, 0, 0), 0, []),
  (.nop, (2, 0), (3, 0, 0, 0), 0, [0, 1]),
  (.iload_n 1, (2, 1), (0, 0, 0, 0), 0, []),
  (.aload_n 0, (3, 1), (0, 0, 0, 0), 0, []),
  (.getfield 138, (4, 3), (8, 13, 0, 0), 0, []),
  (.if_icmp .ge 30, (7, 3), (22, 0, 0, 0), 0, []),
  (.aload_n 0, (10, 1), (0, 0, 0, 0), 0, []),
  (.aload_n 0, (11, 1), (0, 0, 0, 0), 0, []),
  (.getfield 50, (12, 3), (8, 18, 2, 0), 0, []),
  (.iload_n 1, (15, 1), (0, 0, 0, 0), 0, []),
  (.iaload, (16, 1), (0, 0, 0, 0), 0, []),
  (.invokevirtual 312, (17, 3), (170, 1, 0, 8), 0, []),
  (.aload_n 0, (20, 1), (0, 0, 0, 0), 0, []),
  (.getfield 53, (21, 3), (8, 19, 2, 0), 0, []),
  (.iload_n 1, (24, 1), (0, 0, 0, 0), 0, []),
  (.iaload, (25, 1), (0, 0, 0, 0), 0, []),
  (.if_icmp .eq 5, (26, 3), (20, 0, 0, 0), 0, []),
  (.iload_n 1, (29, 1), (0, 0, 0, 0), 0, []),
  (.ireturn, (30, 1), (0, 0, 0, 0), 0, []),
  (.iinc 1 1, (31, 3), (0, 0, 0, 0), 1, []),
  (.goto (-32), (34, 3), (2, 0, 0, 0), 0, []),
  (.bipush (-5), (37, 2), (0, 0, 0, 0), (-5), []),
  (.ireturn, (39, 1), (0, 0, 0, 0), 0, [])]
def cd_157 : List xz_Op := [(.lload_n 0, (0, 1), (0, 0, 0, 0), 0, []),
  (.lstore 5, (1, 2), (0, 0, 0, 0), 0, []),
  (.lload_n 2, (3, 1), (0, 0, 0, 0), 0, []),
  (.lstore 7, (4, 2), (0, 0, 0, 0), 0, []),
  (.nop, (6, 0), (5, 0, 0, 0), 0, [0, 2, 4, 5, 7]),
  (.lload 7, (6, 2), (0, 0, 0, 0), 0, []),
  (.lconst 0, (8, 1), (1, 0, 0, 0), 0, []),
  (.lcmp, (9, 1), (0, 0, 0, 0), 0, []),
  (.ifCond .eq 21, (10, 3), (18, 0, 0, 0), 0, []),
  (.lload 5, (13, 2), (0, 0, 0, 0), 0, []),
  (.lload 7, (15, 2), (0, 0, 0, 0), 0, []),
  (.lrem, (17, 1), (0, 0, 0, 0), 0, []),
  (.lstore 9, (18, 2), (0, 0, 0, 0), 0, []),
  (.lload 7, (20, 2), (0, 0, 0, 0), 0, []),
  (.lstore 5, (22, 2), (0, 0, 0, 0), 0, []),
  (.lload 9, (24, 2), (0, 0, 0, 0), 0, []),
  (.lstore 7, (26, 2), (0, 0, 0, 0), 0, []),
  (.goto (-22), (28, 3), (4, 0, 0, 0), 0, []),
  (.iload 4, (31, 2), (0, 0, 0, 0), 0, []),
  (.ifCond .ne 7, (33, 3), (22, 0, 0, 0), 0, []),
  (.lload_n 0, (36, 1), (0, 0, 0, 0), 0, []),
  (.goto 4, (37, 3), (23, 0, 0, 0), 0, []),
  (.lload_n 2, (40, 1), (0, 0, 0, 0), 0, []),
  (.lload 5, (41, 2), (0, 0, 0, 0), 0, []),
  (.ldiv, (43, 1), (0, 0, 0, 0), 0, []),
  (.lreturn, (44, 1), (0, 0, 0, 0), 0, [])]
def cd_158 : List xz_Op := [(.iload_n 1, (0, 1), (0, 0, 0, 0), 0, []),
  (.aload_n 0, (1, 1), (0, 0, 0, 0), 0, []),
  (.getfield 126, (2, 3), (8, 8, 0, 0), 0, []),
  (.if_icmp .eq 15, (5, 3), (10, 0, 0, 0), 0, []),
  (.iload_n 1, (8, 1), (0, 0, 0, 0), 0, []),
  (.aload_n 0, (9, 1), (0, 0, 0, 0), 0, []),
  (.getfield 35, (10, 3), (8, 9, 0, 0), 0, []),
  (.if_icmp .eq 7, (13, 3), (10, 0, 0, 0), 0, []),
  (.iconst 1, (16, 1), (0, 0, 0, 0), 1, []),
  (.goto 4, (17, 3), (11, 0, 0, 0), 0, []),
  (.iconst 0, (20, 1), (0, 0, 0, 0), 0, []),
  (.ireturn, (21, 1), (1, 0, 0, 0), 0, [])]
def cd_159 : List xz_Op := [(.iload_n 1, (0, 1), (0, 0, 0, 0), 0, []),
  (.invokestatic 303, (1, 3), (143, 1, 0, 8), 0, []),
  (.ifCond .ne 7, (4, 3), (5, 0, 0, 0), 0, []),
  (.ldc2_w 306, (7, 3), (5, 0, 0, 0), 0, []),
  (.lreturn, (10, 1), (0, 0, 0, 0), 0, []),
  (.aload_n 0, (11, 1), (0, 0, 0, 0), 0, []),
  (.invokevirtual 317, (12, 3), (183, 0, 3, 8), 0, []),
  (.iconst 0, (15, 1), (0, 0, 0, 0), 0, []),
  (.istore_n 2, (16, 1), (0, 0, 0, 0), 0, []),
  (.iconst 0, (17, 1), (0, 0, 0, 0), 0, []),
  (.istore_n 3, (18, 1), (0, 0, 0, 0), 0, []),
  (.iconst 0, (19, 1), (0, 0, 0, 0), 0, []),
  (.istore 4, (20, 2), (0, 0, 0, 0), 0, []),
  (.nop, (22, 0), (14, 0, 0, 0), 0, [0, 1, 2, 3, 4]),
  (.iload 4, (22, 2), (0, 0, 0, 0), 0, []),
  (.aload_n 0, (24, 1), (0, 0, 0, 0), 0, []),
  (.getfield 9, (25, 3), (8, 0, 0, 0), 0, []),
  (.if_icmp .ge 37, (28, 3), (35, 0, 0, 0), 0, []),
  (.aload_n 0, (31, 1), (0, 0, 0, 0), 0, []),
  (.getfield 74, (32, 3), (8, 40, 2, 0), 0, []),
  (.iload 4, (35, 2), (0, 0, 0, 0), 0, []),
  (.iaload, (37, 1), (0, 0, 0, 0), 0, []),
  (.bipush (-5), (38, 2), (0, 0, 0, 0), (-5), []),
  (.if_icmp .ne 6, (40, 3), (25, 0, 0, 0), 0, []),
  (.goto 16, (43, 3), (33, 0, 0, 0), 0, []),
  (.iload_n 2, (46, 1), (0, 0, 0, 0), 0, []),
  (.aload_n 0, (47, 1), (0, 0, 0, 0), 0, []),
  (.getfield 74, (48, 3), (8, 40, 2, 0), 0, []),
  (.iload 4, (51, 2), (0, 0, 0, 0), 0, []),
  (.iaload, (53, 1), (0, 0, 0, 0), 0, []),
  (.iadd, (54, 1), (0, 0, 0, 0), 0, []),
  (.istore_n 2, (55, 1), (0, 0, 0, 0), 0, []),
  (.iinc 3 1, (56, 3), (0, 0, 0, 0), 1, []),
  (.iinc 4 1, (59, 3), (0, 0, 0, 0), 1, []),
  (.goto (-40), (62, 3), (13, 0, 0, 0), 0, []),
  (.iload_n 2, (65, 1), (0, 0, 0, 0), 0, []),
  (.i2l, (66, 1), (0, 0, 0, 0), 0, []),
  (.iload_n 3, (67, 1), (0, 0, 0, 0), 0, []),
  (.i2l, (68, 1), (0, 0, 0, 0), 0, []),
  (.iload_n 1, (69, 1), (0, 0, 0, 0), 0, []),
  (.invokestatic 308, (70, 3), (157, 3, 1, 8), 0, []),
  (.lreturn, (73, 1), (0, 0, 0, 0), 0, [])]
def cd_160 : List xz_Op := [(.aload_n 0, (0, 1), (0, 0, 0, 0), 0, []),
  (.iload_n 2, (1, 1), (0, 0, 0, 0), 0, []),
  (.iload_n 3, (2, 1), (0, 0, 0, 0), 0, []),
  (.invokevirtual 141, (3, 3), (117, 2, 0, 8), 0, []),
  (.ifCond .ne 5, (6, 3), (7, 0, 0, 0), 0, []),
  (.iconst (-1), (9, 1), (0, 0, 0, 0), (-1), []),
  (.ireturn, (10, 1), (0, 0, 0, 0), 0, []),
  (.iload_n 1, (11, 1), (0, 0, 0, 0), 0, []),
  (.invokestatic 145, (12, 3), (149, 1, 0, 8), 0, []),
  (.ifCond .eq 16, (15, 3), (16, 0, 0, 0), 0, []),
  (.iload 4, (18, 2), (0, 0, 0, 0), 0, []),
  (.i2l, (20, 1), (0, 0, 0, 0), 0, []),
  (.lconst 1, (21, 1), (2, 0, 0, 0), 0, []),
  (.ldc2_w 148, (22, 3), (3, 0, 0, 0), 0, []),
  (.invokestatic 109, (25, 3), (139, 3, 0, 8), 0, []),
  (.ifCond .ne 6, (28, 3), (18, 0, 0, 0), 0, []),
  (.bipush (-2), (31, 2), (0, 0, 0, 0), (-2), []),
  (.ireturn, (33, 1), (0, 0, 0, 0), 0, []),
  (.aload_n 0, (34, 1), (0, 0, 0, 0), 0, []),
  (.getfield 123, (35, 3), (8, 1, 0, 0), 0, []),
  (.bipush 14, (38, 2), (0, 0, 0, 0), 14, []),
  (.if_icmp .ne 6, (40, 3), (24, 0, 0, 0), 0, []),
  (.bipush (-4), (43, 2), (0, 0, 0, 0), (-4), []),
  (.ireturn, (45, 1), (0, 0, 0, 0), 0, []),
  (.aload_n 0, (46, 1), (0, 0, 0, 0), 0, []),
  (.getfield 15, (47, 3), (8, 2, 2, 0), 0, []),
  (.aload_n 0, (50, 1), (0, 0, 0, 0), 0, []),
  (.getfield 123, (51, 3), (8, 1, 0, 0), 0, []),
  (.iconst 1, (54, 1), (0, 0, 0, 0), 1, []),
  (.bastore, (55, 1), (0, 0, 0, 0), 0, []),
  (.aload_n 0, (56, 1), (0, 0, 0, 0), 0, []),
  (.getfield 19, (57, 3), (8, 3, 2, 0), 0, []),
  (.aload_n 0, (60, 1), (0, 0, 0, 0), 0, []),
  (.getfield 123, (61, 3), (8, 1, 0, 0), 0, []),
  (.iload_n 1, (64, 1), (0, 0, 0, 0), 0, []),
  (.iastore, (65, 1), (0, 0, 0, 0), 0, []),
  (.aload_n 0, (66, 1), (0, 0, 0, 0), 0, []),
  (.getfield 23, (67, 3), (8, 4, 2, 0), 0, []),
  (.aload_n 0, (70, 1), (0, 0, 0, 0), 0, []),
  (.getfield 123, (71, 3), (8, 1, 0, 0), 0, []),
  (.iload_n 2, (74, 1), (0, 0, 0, 0), 0, []),
  (.iastore, (75, 1), (0, 0, 0, 0), 0, []),
  (.aload_n 0, (76, 1), (0, 0, 0, 0), 0, []),
  (.getfield 26, (77, 3), (8, 5, 2, 0), 0, []),
  (.aload_n 0, (80, 1), (0, 0, 0, 0), 0, []),
  (.getfield 123, (81, 3), (8, 1, 0, 0), 0, []),
  (.iload_n 3, (84, 1), (0, 0, 0, 0), 0, []),
  (.iastore, (85, 1), (0, 0, 0, 0), 0, []),
  (.aload_n 0, (86, 1), (0, 0, 0, 0), 0, []),
  (.getfield 29, (87, 3), (8, 6, 2, 0), 0, []),
  (.aload_n 0, (90, 1), (0, 0, 0, 0), 0, []),
  (.getfield 123, (91, 3), (8, 1, 0, 0), 0, []),
  (.iload 4, (94, 2), (0, 0, 0, 0), 0, []),
  (.iastore, (96, 1), (0, 0, 0, 0), 0, []),
  (.aload_n 0, (97, 1), (0, 0, 0, 0), 0, []),
  (.dup, (98, 1), (0, 0, 0, 0), 0, []),
  (.getfield 123, (99, 3), (8, 1, 0, 0), 0, []),
  (.iconst 1, (102, 1), (0, 0, 0, 0), 1, []),
  (.iadd, (103, 1), (0, 0, 0, 0), 0, []),
  (.putfield 123, (104, 3), (8, 1, 0, 0), 0, []),
  (.aload_n 0, (107, 1), (0, 0, 0, 0), 0, []),
  (.getfield 123, (108, 3), (8, 1, 0, 0), 0, []),
  (.iconst 1, (111, 1), (0, 0, 0, 0), 1, []),
  (.isub, (112, 1), (0, 0, 0, 0), 0, []),
  (.ireturn, (113, 1), (0, 0, 0, 0), 0, [])]
def cd_161 : List xz_Op := [(.iload_n 2, (0, 1), (0, 0, 0, 0), 0, []),
  (.i2l, (1, 1), (0, 0, 0, 0), 0, []),
  (.lconst 0, (2, 1), (1, 0, 0, 0), 0, []),
  (.ldc2_w 158, (3, 3), (9, 0, 0, 0), 0, []),
  (.invokestatic 109, (6, 3), (139, 3, 0, 8), 0, []),
  (.ifCond .ne 5, (9, 3), (8, 0, 0, 0), 0, []),
  (.iconst (-1), (12, 1), (0, 0, 0, 0), (-1), []),
  (.ireturn, (13, 1), (0, 0, 0, 0), 0, []),
  (.aload_n 0, (14, 1), (0, 0, 0, 0), 0, []),
  (.iload_n 1, (15, 1), (0, 0, 0, 0), 0, []),
  (.invokevirtual 150, (16, 3), (173, 1, 0, 8), 0, []),
  (.istore_n 3, (19, 1), (0, 0, 0, 0), 0, []),
  (.iload_n 3, (20, 1), (0, 0, 0, 0), 0, []),
  (.ifCond .eq 5, (21, 3), (16, 0, 0, 0), 0, []),
  (.iload_n 3, (24, 1), (0, 0, 0, 0), 0, []),
  (.ireturn, (25, 1), (0, 0, 0, 0), 0, []),
  (.iload_n 2, (26, 1), (0, 0, 0, 0), 0, []),
  (.ifCond .ne 12, (27, 3), (23, 0, 0, 0), 0, []),
  (.aload_n 0, (30, 1), (0, 0, 0, 0), 0, []),
  (.getfield 19, (31, 3), (8, 3, 2, 0), 0, []),
  (.iload_n 1, (34, 1), (0, 0, 0, 0), 0, []),
  (.iaload, (35, 1), (0, 0, 0, 0), 0, []),
  (.goto 37, (36, 3), (43, 0, 0, 0), 0, []),
  (.iload_n 2, (39, 1), (0, 0, 0, 0), 0, []),
  (.iconst 1, (40, 1), (0, 0, 0, 0), 1, []),
  (.if_icmp .ne 12, (41, 3), (31, 0, 0, 0), 0, []),
  (.aload_n 0, (44, 1), (0, 0, 0, 0), 0, []),
  (.getfield 23, (45, 3), (8, 4, 2, 0), 0, []),
  (.iload_n 1, (48, 1), (0, 0, 0, 0), 0, []),
  (.iaload, (49, 1), (0, 0, 0, 0), 0, []),
  (.goto 23, (50, 3), (43, 0, 0, 0), 0, []),
  (.iload_n 2, (53, 1), (0, 0, 0, 0), 0, []),
  (.iconst 2, (54, 1), (0, 0, 0, 0), 2, []),
  (.if_icmp .ne 12, (55, 3), (39, 0, 0, 0), 0, []),
  (.aload_n 0, (58, 1), (0, 0, 0, 0), 0, []),
  (.getfield 26, (59, 3), (8, 5, 2, 0), 0, []),
  (.iload_n 1, (62, 1), (0, 0, 0, 0), 0, []),
  (.iaload, (63, 1), (0, 0, 0, 0), 0, []),
  (.goto 9, (64, 3), (43, 0, 0, 0), 0, []),
  (.aload_n 0, (67, 1), (0, 0, 0, 0), 0, []),
  (.getfield 29, (68, 3), (8, 6, 2, 0), 0, []),
  (.iload_n 1, (71, 1), (0, 0, 0, 0), 0, []),
  (.iaload, (72, 1), (0, 0, 0, 0), 0, []),
  (.ireturn, (73, 1), (0, 0, 0, 0), 0, [])]
def cd_162 : List xz_Op := [(.aload_n 0, (0, 1), (0, 0, 0, 0), 0, []),
  (.getfield 201, (1, 3), (8, 24, 0, 0), 0, []),
  (.ifCond .lt 5, (4, 3), (5, 0, 0, 0), 0, []),
  (.iconst 0, (7, 1), (0, 0, 0, 0), 0, []),
  (.ireturn, (8, 1), (0, 0, 0, 0), 0, []),
  (.aload_n 0, (9, 1), (0, 0, 0, 0), 0, []),
  (.aload_n 0, (10, 1), (0, 0, 0, 0), 0, []),
  (.getfield 175, (11, 3), (8, 23, 0, 0), 0, []),
  (.invokevirtual 182, (14, 3), (179, 1, 0, 8), 0, []),
  (.bipush 32, (17, 2), (0, 0, 0, 0), 32, []),
  (.if_icmp .eq 13, (19, 3), (17, 0, 0, 0), 0, []),
  (.aload_n 0, (22, 1), (0, 0, 0, 0), 0, []),
  (.aload_n 0, (23, 1), (0, 0, 0, 0), 0, []),
  (.getfield 175, (24, 3), (8, 23, 0, 0), 0, []),
  (.putfield 201, (27, 3), (8, 24, 0, 0), 0, []),
  (.iconst 0, (30, 1), (0, 0, 0, 0), 0, []),
  (.ireturn, (31, 1), (0, 0, 0, 0), 0, []),
  (.aload_n 0, (32, 1), (0, 0, 0, 0), 0, []),
  (.dup, (33, 1), (0, 0, 0, 0), 0, []),
  (.getfield 175, (34, 3), (8, 23, 0, 0), 0, []),
  (.iconst 1, (37, 1), (0, 0, 0, 0), 1, []),
  (.iadd, (38, 1), (0, 0, 0, 0), 0, []),
  (.putfield 175, (39, 3), (8, 23, 0, 0), 0, []),
  (.iconst 0, (42, 1), (0, 0, 0, 0), 0, []),
  (.istore_n 2, (43, 1), (0, 0, 0, 0), 0, []),
  (.iconst 0, (44, 1), (0, 0, 0, 0), 0, []),
  (.istore_n 3, (45, 1), (0, 0, 0, 0), 0, []),
  (.nop, (46, 0), (28, 0, 0, 0), 0, [0, 1, 2, 3]),
  (.iload_n 2, (46, 1), (0, 0, 0, 0), 0, []),
  (.iload_n 1, (47, 1), (0, 0, 0, 0), 0, []),
  (.if_icmp .ge 58, (48, 3), (60, 0, 0, 0), 0, []),
  (.aload_n 0, (51, 1), (0, 0, 0, 0), 0, []),
  (.aload_n 0, (52, 1), (0, 0, 0, 0), 0, []),
  (.getfield 175, (53, 3), (8, 23, 0, 0), 0, []),
  (.invokevirtual 182, (56, 3), (179, 1, 0, 8), 0, []),
  (.i2l, (59, 1), (0, 0, 0, 0), 0, []),
  (.ldc2_w 204, (60, 3), (12, 0, 0, 0), 0, []),
  (.ldc2_w 206, (63, 3), (13, 0, 0, 0), 0, []),
  (.invokestatic 109, (66, 3), (139, 3, 0, 8), 0, []),
  (.ifCond .eq 37, (69, 3), (60, 0, 0, 0), 0, []),
  (.bipush 10, (72, 2), (0, 0, 0, 0), 10, []),
  (.iload_n 3, (74, 1), (0, 0, 0, 0), 0, []),
  (.imul, (75, 1), (0, 0, 0, 0), 0, []),
  (.aload_n 0, (76, 1), (0, 0, 0, 0), 0, []),
  (.getfield 59, (77, 3), (8, 21, 2, 0), 0, []),
  (.aload_n 0, (80, 1), (0, 0, 0, 0), 0, []),
  (.getfield 175, (81, 3), (8, 23, 0, 0), 0, []),
  (.iaload, (84, 1), (0, 0, 0, 0), 0, []),
  (.iadd, (85, 1), (0, 0, 0, 0), 0, []),
  (.bipush 48, (86, 2), (0, 0, 0, 0), 48, []),
  (.isub, (88, 1), (0, 0, 0, 0), 0, []),
  (.istore_n 3, (89, 1), (0, 0, 0, 0), 0, []),
  (.iinc 2 1, (90, 3), (0, 0, 0, 0), 1, []),
  (.aload_n 0, (93, 1), (0, 0, 0, 0), 0, []),
  (.dup, (94, 1), (0, 0, 0, 0), 0, []),
  (.getfield 175, (95, 3), (8, 23, 0, 0), 0, []),
  (.iconst 1, (98, 1), (0, 0, 0, 0), 1, []),
  (.iadd, (99, 1), (0, 0, 0, 0), 0, []),
  (.putfield 175, (100, 3), (8, 23, 0, 0), 0, []),
  (.goto (-57), (103, 3), (27, 0, 0, 0), 0, []),
  (.iload_n 2, (106, 1), (0, 0, 0, 0), 0, []),
  (.ifCond .ne 11, (107, 3), (66, 0, 0, 0), 0, []),
  (.aload_n 0, (110, 1), (0, 0, 0, 0), 0, []),
  (.aload_n 0, (111, 1), (0, 0, 0, 0), 0, []),
  (.getfield 175, (112, 3), (8, 23, 0, 0), 0, []),
  (.putfield 201, (115, 3), (8, 24, 0, 0), 0, []),
  (.iload_n 3, (118, 1), (0, 0, 0, 0), 0, []),
  (.ireturn, (119, 1), (0, 0, 0, 0), 0, [])]
def cd_163 : List xz_Op := [(.aload_n 0, (0, 1), (0, 0, 0, 0), 0, []),
  (.invokevirtual 154, (1, 3), (155, 0, 0, 8), 0, []),
  (.istore_n 2, (4, 1), (0, 0, 0, 0), 0, []),
  (.iload_n 1, (5, 1), (0, 0, 0, 0), 0, []),
  (.invokestatic 303, (6, 3), (143, 1, 0, 8), 0, []),
  (.ifCond .eq 7, (9, 3), (8, 0, 0, 0), 0, []),
  (.iload_n 2, (12, 1), (0, 0, 0, 0), 0, []),
  (.ifCond .ne 7, (13, 3), (10, 0, 0, 0), 0, []),
  (.ldc2_w 306, (16, 3), (5, 0, 0, 0), 0, []),
  (.lreturn, (19, 1), (0, 0, 0, 0), 0, []),
  (.iconst 0, (20, 1), (0, 0, 0, 0), 0, []),
  (.istore_n 3, (21, 1), (0, 0, 0, 0), 0, []),
  (.iconst 0, (22, 1), (0, 0, 0, 0), 0, []),
  (.istore 4, (23, 2), (0, 0, 0, 0), 0, []),
  (.nop, (25, 0), (15, 0, 0, 0), 0, [0, 1, 2, 3, 4]),
  (.iload 4, (25, 2), (0, 0, 0, 0), 0, []),
  (.aload_n 0, (27, 1), (0, 0, 0, 0), 0, []),
  (.getfield 123, (28, 3), (8, 1, 0, 0), 0, []),
  (.if_icmp .ge 49, (31, 3), (42, 0, 0, 0), 0, []),
  (.aload_n 0, (34, 1), (0, 0, 0, 0), 0, []),
  (.getfield 15, (35, 3), (8, 2, 2, 0), 0, []),
  (.iload 4, (38, 2), (0, 0, 0, 0), 0, []),
  (.baload, (40, 1), (0, 0, 0, 0), 0, []),
  (.ifCond .ne 6, (41, 3), (25, 0, 0, 0), 0, []),
  (.goto 30, (44, 3), (40, 0, 0, 0), 0, []),
  (.aload_n 0, (47, 1), (0, 0, 0, 0), 0, []),
  (.getfield 15, (48, 3), (8, 2, 2, 0), 0, []),
  (.iload 4, (51, 2), (0, 0, 0, 0), 0, []),
  (.iconst 0, (53, 1), (0, 0, 0, 0), 0, []),
  (.bastore, (54, 1), (0, 0, 0, 0), 0, []),
  (.aload_n 0, (55, 1), (0, 0, 0, 0), 0, []),
  (.iconst 0, (56, 1), (0, 0, 0, 0), 0, []),
  (.invokevirtual 320, (57, 3), (148, 1, 0, 8), 0, []),
  (.ifCond .eq 6, (60, 3), (35, 0, 0, 0), 0, []),
  (.iinc 3 1, (63, 3), (0, 0, 0, 0), 1, []),
  (.aload_n 0, (66, 1), (0, 0, 0, 0), 0, []),
  (.getfield 15, (67, 3), (8, 2, 2, 0), 0, []),
  (.iload 4, (70, 2), (0, 0, 0, 0), 0, []),
  (.iconst 1, (72, 1), (0, 0, 0, 0), 1, []),
  (.bastore, (73, 1), (0, 0, 0, 0), 0, []),
  (.iinc 4 1, (74, 3), (0, 0, 0, 0), 1, []),
  (.goto (-52), (77, 3), (14, 0, 0, 0), 0, []),
  (.iload_n 3, (80, 1), (0, 0, 0, 0), 0, []),
  (.i2l, (81, 1), (0, 0, 0, 0), 0, []),
  (.iload_n 2, (82, 1), (0, 0, 0, 0), 0, []),
  (.i2l, (83, 1), (0, 0, 0, 0), 0, []),
  (.iload_n 1, (84, 1), (0, 0, 0, 0), 0, []),
  (.invokestatic 308, (85, 3), (157, 3, 1, 8), 0, []),
  (.lreturn, (88, 1), (0, 0, 0, 0), 0, [])]
def cd_164 : List xz_Op := [(.aload_n 0, (0, 1), (0, 0, 0, 0), 0, []),
  (.getfield 23, (1, 3), (8, 4, 2, 0), 0, []),
  (.iload_n 1, (4, 1), (0, 0, 0, 0), 0, []),
  (.iaload, (5, 1), (0, 0, 0, 0), 0, []),
  (.iload_n 2, (6, 1), (0, 0, 0, 0), 0, []),
  (.if_icmp .ne 12, (7, 3), (11, 0, 0, 0), 0, []),
  (.aload_n 0, (10, 1), (0, 0, 0, 0), 0, []),
  (.getfield 26, (11, 3), (8, 5, 2, 0), 0, []),
  (.iload_n 1, (14, 1), (0, 0, 0, 0), 0, []),
  (.iaload, (15, 1), (0, 0, 0, 0), 0, []),
  (.goto 23, (16, 3), (23, 0, 0, 0), 0, []),
  (.aload_n 0, (19, 1), (0, 0, 0, 0), 0, []),
  (.getfield 26, (20, 3), (8, 5, 2, 0), 0, []),
  (.iload_n 1, (23, 1), (0, 0, 0, 0), 0, []),
  (.iaload, (24, 1), (0, 0, 0, 0), 0, []),
  (.iload_n 2, (25, 1), (0, 0, 0, 0), 0, []),
  (.if_icmp .ne 12, (26, 3), (22, 0, 0, 0), 0, []),
  (.aload_n 0, (29, 1), (0, 0, 0, 0), 0, []),
  (.getfield 23, (30, 3), (8, 4, 2, 0), 0, []),
  (.iload_n 1, (33, 1), (0, 0, 0, 0), 0, []),
  (.iaload, (34, 1), (0, 0, 0, 0), 0, []),
  (.goto 4, (35, 3), (23, 0, 0, 0), 0, []),
  (.iconst (-1), (38, 1), (0, 0, 0, 0), (-1), []),
  (.ireturn, (39, 1), (0, 0, 0, 0), 0, [])]
def cd_165 : List xz_Op := [(.aload_n 0, (0, 1), (0, 0, 0, 0), 0, []),
  (.iload_n 1, (1, 1), (0, 0, 0, 0), 0, []),
  (.iload_n 2, (2, 1), (0, 0, 0, 0), 0, []),
  (.invokevirtual 369, (3, 3), (174, 2, 0, 8), 0, []),
  (.ifCond .eq 9, (6, 3), (7, 0, 0, 0), 0, []),
  (.ldc2_w 306, (9, 3), (5, 0, 0, 0), 0, []),
  (.goto 11, (12, 3), (13, 0, 0, 0), 0, []),
  (.aload_n 0, (15, 1), (0, 0, 0, 0), 0, []),
  (.getfield 102, (16, 3), (8, 49, 2, 0), 0, []),
  (.iload_n 1, (19, 1), (0, 0, 0, 0), 0, []),
  (.aaload, (20, 1), (0, 0, 0, 0), 0, []),
  (.iload_n 2, (21, 1), (0, 0, 0, 0), 0, []),
  (.laload, (22, 1), (0, 0, 0, 0), 0, []),
  (.lreturn, (23, 1), (0, 0, 0, 0), 0, [])]
def cd_166 : List xz_Op := [(.iload_n 1, (0, 1), (0, 0, 0, 0), 0, []),
  (.i2l, (1, 1), (0, 0, 0, 0), 0, []),
  (.ldc2_w 119, (2, 3), (6, 0, 0, 0), 0, []),
  (.ldc2_w 121, (5, 3), (14, 0, 0, 0), 0, []),
  (.invokestatic 109, (8, 3), (139, 3, 0, 8), 0, []),
  (.ifCond .ne 6, (11, 3), (8, 0, 0, 0), 0, []),
  (.bipush (-2), (14, 2), (0, 0, 0, 0), (-2), []),
  (.ireturn, (16, 1), (0, 0, 0, 0), 0, []),
  (.aload_n 0, (17, 1), (0, 0, 0, 0), 0, []),
  (.getfield 9, (18, 3), (8, 0, 0, 0), 0, []),
  (.istore_n 2, (21, 1), (0, 0, 0, 0), 0, []),
  (.aload_n 0, (22, 1), (0, 0, 0, 0), 0, []),
  (.iload_n 1, (23, 1), (0, 0, 0, 0), 0, []),
  (.putfield 9, (24, 3), (8, 0, 0, 0), 0, []),
  (.aload_n 0, (27, 1), (0, 0, 0, 0), 0, []),
  (.iconst 0, (28, 1), (0, 0, 0, 0), 0, []),
  (.putfield 123, (29, 3), (8, 1, 0, 0), 0, []),
  (.aload_n 0, (32, 1), (0, 0, 0, 0), 0, []),
  (.iconst 0, (33, 1), (0, 0, 0, 0), 0, []),
  (.putfield 126, (34, 3), (8, 8, 0, 0), 0, []),
  (.aload_n 0, (37, 1), (0, 0, 0, 0), 0, []),
  (.iconst 1, (38, 1), (0, 0, 0, 0), 1, []),
  (.putfield 35, (39, 3), (8, 9, 0, 0), 0, []),
  (.aload_n 0, (42, 1), (0, 0, 0, 0), 0, []),
  (.iconst 0, (43, 1), (0, 0, 0, 0), 0, []),
  (.putfield 129, (44, 3), (8, 10, 0, 0), 0, []),
  (.aload_n 0, (47, 1), (0, 0, 0, 0), 0, []),
  (.iconst 0, (48, 1), (0, 0, 0, 0), 0, []),
  (.putfield 132, (49, 3), (8, 11, 0, 0), 0, []),
  (.aload_n 0, (52, 1), (0, 0, 0, 0), 0, []),
  (.iconst 0, (53, 1), (0, 0, 0, 0), 0, []),
  (.putfield 135, (54, 3), (8, 12, 0, 0), 0, []),
  (.aload_n 0, (57, 1), (0, 0, 0, 0), 0, []),
  (.iconst 0, (58, 1), (0, 0, 0, 0), 0, []),
  (.putfield 138, (59, 3), (8, 13, 0, 0), 0, []),
  (.iload_n 2, (62, 1), (0, 0, 0, 0), 0, []),
  (.ireturn, (63, 1), (0, 0, 0, 0), 0, [])]
def cd_167 : List xz_Op := [(.iconst 0, (0, 1), (0, 0, 0, 0), 0, []),
  (.istore_n 1, (1, 1), (0, 0, 0, 0), 0, []),
  (.iconst 0, (2, 1), (0, 0, 0, 0), 0, []),
  (.istore_n 2, (3, 1), (0, 0, 0, 0), 0, []),
  (.nop, (4, 0), (5, 0, 0, 0), 0, [0, 1, 2]),
  (.iload_n 2, (4, 1), (0, 0, 0, 0), 0, []),
  (.aload_n 0, (5, 1), (0, 0, 0, 0), 0, []),
  (.getfield 9, (6, 3), (8, 0, 0, 0), 0, []),
  (.if_icmp .ge 33, (9, 3), (27, 0, 0, 0), 0, []),
  (.aload_n 0, (12, 1), (0, 0, 0, 0), 0, []),
  (.iload_n 2, (13, 1), (0, 0, 0, 0), 0, []),
  (.invokevirtual 323, (14, 3), (158, 1, 0, 8), 0, []),
  (.ifCond .eq 19, (17, 3), (25, 0, 0, 0), 0, []),
  (.aload_n 0, (20, 1), (0, 0, 0, 0), 0, []),
  (.iconst 1, (21, 1), (0, 0, 0, 0), 1, []),
  (.iload_n 2, (22, 1), (0, 0, 0, 0), 0, []),
  (.ishl, (23, 1), (0, 0, 0, 0), 0, []),
  (.invokevirtual 320, (24, 3), (148, 1, 0, 8), 0, []),
  (.ifCond .ne 9, (27, 3), (25, 0, 0, 0), 0, []),
  (.iload_n 1, (30, 1), (0, 0, 0, 0), 0, []),
  (.iconst 1, (31, 1), (0, 0, 0, 0), 1, []),
  (.iload_n 2, (32, 1), (0, 0, 0, 0), 0, []),
  (.ishl, (33, 1), (0, 0, 0, 0), 0, []),
  (.ior, (34, 1), (0, 0, 0, 0), 0, []),
  (.istore_n 1, (35, 1), (0, 0, 0, 0), 0, []),
  (.iinc 2 1, (36, 3), (0, 0, 0, 0), 1, []),
  (.goto (-35), (39, 3), (4, 0, 0, 0), 0, []),
  (.iload_n 1, (42, 1), (0, 0, 0, 0), 0, []),
  (.ireturn, (43, 1), (0, 0, 0, 0), 0, [])]
def cd_168 : List xz_Op := [(.iload_n 1, (0, 1), (0, 0, 0, 0), 0, []),
  (.ifCond .ge 5, (1, 3), (4, 0, 0, 0), 0, []),
  (.iconst (-1), (4, 1), (0, 0, 0, 0), (-1), []),
  (.ireturn, (5, 1), (0, 0, 0, 0), 0, []),
  (.aload_n 0, (6, 1), (0, 0, 0, 0), 0, []),
  (.invokevirtual 317, (7, 3), (183, 0, 3, 8), 0, []),
  (.iload_n 1, (10, 1), (0, 0, 0, 0), 0, []),
  (.istore_n 2, (11, 1), (0, 0, 0, 0), 0, []),
  (.iconst 0, (12, 1), (0, 0, 0, 0), 0, []),
  (.istore_n 3, (13, 1), (0, 0, 0, 0), 0, []),
  (.nop, (14, 0), (11, 0, 0, 0), 0, [0, 2, 3]),
  (.iload_n 3, (14, 1), (0, 0, 0, 0), 0, []),
  (.bipush 99, (15, 2), (0, 0, 0, 0), 99, []),
  (.if_icmp .gt 52, (17, 3), (38, 0, 0, 0), 0, []),
  (.aload_n 0, (20, 1), (0, 0, 0, 0), 0, []),
  (.getfield 9, (21, 3), (8, 0, 0, 0), 0, []),
  (.iconst 1, (24, 1), (0, 0, 0, 0), 1, []),
  (.isub, (25, 1), (0, 0, 0, 0), 0, []),
  (.istore 4, (26, 2), (0, 0, 0, 0), 0, []),
  (.nop, (28, 0), (20, 0, 0, 0), 0, [0, 2, 3, 4]),
  (.iload 4, (28, 2), (0, 0, 0, 0), 0, []),
  (.ifCond .lt 33, (30, 3), (36, 0, 0, 0), 0, []),
  (.aload_n 0, (33, 1), (0, 0, 0, 0), 0, []),
  (.getfield 74, (34, 3), (8, 40, 2, 0), 0, []),
  (.iload 4, (37, 2), (0, 0, 0, 0), 0, []),
  (.iaload, (39, 1), (0, 0, 0, 0), 0, []),
  (.iload_n 3, (40, 1), (0, 0, 0, 0), 0, []),
  (.if_icmp .eq 6, (41, 3), (29, 0, 0, 0), 0, []),
  (.goto 13, (44, 3), (34, 0, 0, 0), 0, []),
  (.iload_n 2, (47, 1), (0, 0, 0, 0), 0, []),
  (.ifCond .ne 6, (48, 3), (33, 0, 0, 0), 0, []),
  (.iload 4, (51, 2), (0, 0, 0, 0), 0, []),
  (.ireturn, (53, 1), (0, 0, 0, 0), 0, []),
  (.iinc 2 (-1), (54, 3), (0, 0, 0, 0), (-1), []),
  (.iinc 4 (-1), (57, 3), (0, 0, 0, 0), (-1), []),
  (.goto (-32), (60, 3), (19, 0, 0, 0), 0, []),
  (.iinc 3 1, (63, 3), (0, 0, 0, 0), 1, []),
  (.goto (-52), (66, 3), (10, 0, 0, 0), 0, []),
  (.bipush (-5), (69, 2), (0, 0, 0, 0), (-5), []),
  (.ireturn, (71, 1), (0, 0, 0, 0), 0, [])]
def cd_169 : List xz_Op := [(.aload_n 0, (0, 1), (0, 0, 0, 0), 0, []),
  (.iload_n 1, (1, 1), (0, 0, 0, 0), 0, []),
  (.invokevirtual 113, (2, 3), (144, 1, 0, 8), 0, []),
  (.ifCond .eq 11, (5, 3), (8, 0, 0, 0), 0, []),
  (.aload_n 0, (8, 1), (0, 0, 0, 0), 0, []),
  (.iload_n 1, (9, 1), (0, 0, 0, 0), 0, []),
  (.invokevirtual 312, (10, 3), (170, 1, 0, 8), 0, []),
  (.goto 4, (13, 3), (9, 0, 0, 0), 0, []),
  (.iconst (-1), (16, 1), (0, 0, 0, 0), (-1), []),
  (.ireturn, (17, 1), (0, 0, 0, 0), 0, [])]
def cd_170 : List xz_Op := [(.aload_n 0, (0, 1), (0, 0, 0, 0), 0, []),
  (.iload_n 1, (1, 1), (0, 0, 0, 0), 0, []),
  (.iconst 0, (2, 1), (0, 0, 0, 0), 0, []),
  (.bipush 6, (3, 2), (0, 0, 0, 0), 6, []),
  (.iconst 0, (5, 1), (0, 0, 0, 0), 0, []),
  (.iconst 0, (6, 1), (0, 0, 0, 0), 0, []),
  (.invokevirtual 296, (7, 3), (132, 5, 3, 8), 0, []),
  (.aload_n 0, (10, 1), (0, 0, 0, 0), 0, []),
  (.getfield 235, (11, 3), (8, 37, 0, 0), 0, []),
  (.ifCond .eq 10, (14, 3), (13, 0, 0, 0), 0, []),
  (.aload_n 0, (17, 1), (0, 0, 0, 0), 0, []),
  (.getfield 245, (18, 3), (8, 34, 0, 0), 0, []),
  (.goto 5, (21, 3), (14, 0, 0, 0), 0, []),
  (.bipush (-5), (24, 2), (0, 0, 0, 0), (-5), []),
  (.ireturn, (26, 1), (0, 0, 0, 0), 0, [])]
def cd_171 : List xz_Op := [(.aload_n 0, (0, 1), (0, 0, 0, 0), 0, []),
  (.invokevirtual 317, (1, 3), (183, 0, 3, 8), 0, []),
  (.iconst 0, (4, 1), (0, 0, 0, 0), 0, []),
  (.istore_n 1, (5, 1), (0, 0, 0, 0), 0, []),
  (.iconst 0, (6, 1), (0, 0, 0, 0), 0, []),
  (.istore_n 2, (7, 1), (0, 0, 0, 0), 0, []),
  (.nop, (8, 0), (7, 0, 0, 0), 0, [0, 1, 2]),
  (.iload_n 2, (8, 1), (0, 0, 0, 0), 0, []),
  (.aload_n 0, (9, 1), (0, 0, 0, 0), 0, []),
  (.getfield 9, (10, 3), (8, 0, 0, 0), 0, []),
  (.if_icmp .ge 26, (13, 3), (25, 0, 0, 0), 0, []),
  (.aload_n 0, (16, 1), (0, 0, 0, 0), 0, []),
  (.getfield 74, (17, 3), (8, 40, 2, 0), 0, []),
  (.iload_n 2, (20, 1), (0, 0, 0, 0), 0, []),
  (.iaload, (21, 1), (0, 0, 0, 0), 0, []),
  (.bipush (-5), (22, 2), (0, 0, 0, 0), (-5), []),
  (.if_icmp .eq 9, (24, 3), (23, 0, 0, 0), 0, []),
  (.iload_n 1, (27, 1), (0, 0, 0, 0), 0, []),
  (.iconst 1, (28, 1), (0, 0, 0, 0), 1, []),
  (.iload_n 2, (29, 1), (0, 0, 0, 0), 0, []),
  (.ishl, (30, 1), (0, 0, 0, 0), 0, []),
  (.ior, (31, 1), (0, 0, 0, 0), 0, []),
  (.istore_n 1, (32, 1), (0, 0, 0, 0), 0, []),
  (.iinc 2 1, (33, 3), (0, 0, 0, 0), 1, []),
  (.goto (-28), (36, 3), (6, 0, 0, 0), 0, []),
  (.iload_n 1, (39, 1), (0, 0, 0, 0), 0, []),
  (.ireturn, (40, 1), (0, 0, 0, 0), 0, [])]
def cd_172 : List xz_Op := [(.aload_n 0, (0, 1), (0, 0, 0, 0), 0, []),
  (.iconst 0, (1, 1), (0, 0, 0, 0), 0, []),
  (.putfield 175, (2, 3), (8, 23, 0, 0), 0, []),
  (.aload_n 0, (5, 1), (0, 0, 0, 0), 0, []),
  (.iconst (-1), (6, 1), (0, 0, 0, 0), (-1), []),
  (.putfield 201, (7, 3), (8, 24, 0, 0), 0, []),
  (.aload_n 0, (10, 1), (0, 0, 0, 0), 0, []),
  (.iconst 0, (11, 1), (0, 0, 0, 0), 0, []),
  (.putfield 211, (12, 3), (8, 25, 0, 0), 0, []),
  (.aload_n 0, (15, 1), (0, 0, 0, 0), 0, []),
  (.invokevirtual 229, (16, 3), (123, 0, 3, 8), 0, []),
  (.nop, (19, 0), (12, 0, 0, 0), 0, [0]),
  (.aload_n 0, (19, 1), (0, 0, 0, 0), 0, []),
  (.getfield 201, (20, 3), (8, 24, 0, 0), 0, []),
  (.ifCond .ge 65, (23, 3), (45, 0, 0, 0), 0, []),
  (.aload_n 0, (26, 1), (0, 0, 0, 0), 0, []),
  (.getfield 175, (27, 3), (8, 23, 0, 0), 0, []),
  (.aload_n 0, (30, 1), (0, 0, 0, 0), 0, []),
  (.getfield 167, (31, 3), (8, 22, 0, 0), 0, []),
  (.if_icmp .ge 54, (34, 3), (45, 0, 0, 0), 0, []),
  (.aload_n 0, (37, 1), (0, 0, 0, 0), 0, []),
  (.getfield 59, (38, 3), (8, 21, 2, 0), 0, []),
  (.aload_n 0, (41, 1), (0, 0, 0, 0), 0, []),
  (.getfield 175, (42, 3), (8, 23, 0, 0), 0, []),
  (.iaload, (45, 1), (0, 0, 0, 0), 0, []),
  (.bipush 59, (46, 2), (0, 0, 0, 0), 59, []),
  (.if_icmp .ne 12, (48, 3), (31, 0, 0, 0), 0, []),
  (.aload_n 0, (51, 1), (0, 0, 0, 0), 0, []),
  (.getfield 211, (52, 3), (8, 25, 0, 0), 0, []),
  (.bipush 12, (55, 2), (0, 0, 0, 0), 12, []),
  (.if_icmp .ne 14, (57, 3), (36, 0, 0, 0), 0, []),
  (.aload_n 0, (60, 1), (0, 0, 0, 0), 0, []),
  (.aload_n 0, (61, 1), (0, 0, 0, 0), 0, []),
  (.getfield 175, (62, 3), (8, 23, 0, 0), 0, []),
  (.putfield 201, (65, 3), (8, 24, 0, 0), 0, []),
  (.goto (-49), (68, 3), (11, 0, 0, 0), 0, []),
  (.aload_n 0, (71, 1), (0, 0, 0, 0), 0, []),
  (.dup, (72, 1), (0, 0, 0, 0), 0, []),
  (.getfield 175, (73, 3), (8, 23, 0, 0), 0, []),
  (.iconst 1, (76, 1), (0, 0, 0, 0), 1, []),
  (.iadd, (77, 1), (0, 0, 0, 0), 0, []),
  (.putfield 175, (78, 3), (8, 23, 0, 0), 0, []),
  (.aload_n 0, (81, 1), (0, 0, 0, 0), 0, []),
  (.invokevirtual 229, (82, 3), (123, 0, 3, 8), 0, []),
  (.goto (-66), (85, 3), (11, 0, 0, 0), 0, []),
  (.aload_n 0, (88, 1), (0, 0, 0, 0), 0, []),
  (.iconst 0, (89, 1), (0, 0, 0, 0), 0, []),
  (.putfield 167, (90, 3), (8, 22, 0, 0), 0, []),
  (.aload_n 0, (93, 1), (0, 0, 0, 0), 0, []),
  (.getfield 201, (94, 3), (8, 24, 0, 0), 0, []),
  (.ifCond .lt 11, (97, 3), (56, 0, 0, 0), 0, []),
  (.bipush (-10), (100, 2), (0, 0, 0, 0), (-10), []),
  (.aload_n 0, (102, 1), (0, 0, 0, 0), 0, []),
  (.getfield 201, (103, 3), (8, 24, 0, 0), 0, []),
  (.isub, (106, 1), (0, 0, 0, 0), 0, []),
  (.ireturn, (107, 1), (0, 0, 0, 0), 0, []),
  (.iconst 0, (108, 1), (0, 0, 0, 0), 0, []),
  (.istore_n 1, (109, 1), (0, 0, 0, 0), 0, []),
  (.iconst 0, (110, 1), (0, 0, 0, 0), 0, []),
  (.istore_n 2, (111, 1), (0, 0, 0, 0), 0, []),
  (.nop, (112, 0), (61, 0, 0, 0), 0, [0, 1, 2]),
  (.iload_n 2, (112, 1), (0, 0, 0, 0), 0, []),
  (.aload_n 0, (113, 1), (0, 0, 0, 0), 0, []),
  (.getfield 211, (114, 3), (8, 25, 0, 0), 0, []),
  (.if_icmp .ge 20, (117, 3), (72, 0, 0, 0), 0, []),
  (.aload_n 0, (120, 1), (0, 0, 0, 0), 0, []),
  (.iload_n 2, (121, 1), (0, 0, 0, 0), 0, []),
  (.invokevirtual 232, (122, 3), (128, 1, 0, 8), 0, []),
  (.ifCond .lt 6, (125, 3), (70, 0, 0, 0), 0, []),
  (.iinc 1 1, (128, 3), (0, 0, 0, 0), 1, []),
  (.iinc 2 1, (131, 3), (0, 0, 0, 0), 1, []),
  (.goto (-22), (134, 3), (60, 0, 0, 0), 0, []),
  (.iload_n 1, (137, 1), (0, 0, 0, 0), 0, []),
  (.ireturn, (138, 1), (0, 0, 0, 0), 0, [])]
def cd_173 : List xz_Op := [(.iload_n 1, (0, 1), (0, 0, 0, 0), 0, []),
  (.i2l, (1, 1), (0, 0, 0, 0), 0, []),
  (.lconst 0, (2, 1), (1, 0, 0, 0), 0, []),
  (.aload_n 0, (3, 1), (0, 0, 0, 0), 0, []),
  (.getfield 123, (4, 3), (8, 1, 0, 0), 0, []),
  (.iconst 1, (7, 1), (0, 0, 0, 0), 1, []),
  (.isub, (8, 1), (0, 0, 0, 0), 0, []),
  (.i2l, (9, 1), (0, 0, 0, 0), 0, []),
  (.invokestatic 109, (10, 3), (139, 3, 0, 8), 0, []),
  (.ifCond .ne 8, (13, 3), (12, 0, 0, 0), 0, []),
  (.bipush (-13), (16, 2), (0, 0, 0, 0), (-13), []),
  (.goto 18, (18, 3), (20, 0, 0, 0), 0, []),
  (.aload_n 0, (21, 1), (0, 0, 0, 0), 0, []),
  (.getfield 15, (22, 3), (8, 2, 2, 0), 0, []),
  (.iload_n 1, (25, 1), (0, 0, 0, 0), 0, []),
  (.baload, (26, 1), (0, 0, 0, 0), 0, []),
  (.ifCond .eq 7, (27, 3), (19, 0, 0, 0), 0, []),
  (.iconst 0, (30, 1), (0, 0, 0, 0), 0, []),
  (.goto 5, (31, 3), (20, 0, 0, 0), 0, []),
  (.bipush (-11), (34, 2), (0, 0, 0, 0), (-11), []),
  (.ireturn, (36, 1), (0, 0, 0, 0), 0, [])]
def cd_174 : List xz_Op := [(.iload_n 1, (0, 1), (0, 0, 0, 0), 0, []),
  (.invokestatic 355, (1, 3), (147, 1, 0, 8), 0, []),
  (.ifCond .ne 7, (4, 3), (5, 0, 0, 0), 0, []),
  (.iconst (-1), (7, 1), (0, 0, 0, 0), (-1), []),
  (.goto 41, (8, 3), (27, 0, 0, 0), 0, []),
  (.aload_n 0, (11, 1), (0, 0, 0, 0), 0, []),
  (.getfield 94, (12, 3), (8, 47, 2, 0), 0, []),
  (.iload_n 1, (15, 1), (0, 0, 0, 0), 0, []),
  (.iaload, (16, 1), (0, 0, 0, 0), 0, []),
  (.ifCond .ge 8, (17, 3), (12, 0, 0, 0), 0, []),
  (.bipush (-11), (20, 2), (0, 0, 0, 0), (-11), []),
  (.goto 27, (22, 3), (27, 0, 0, 0), 0, []),
  (.iload_n 2, (25, 1), (0, 0, 0, 0), 0, []),
  (.i2l, (26, 1), (0, 0, 0, 0), 0, []),
  (.lconst 0, (27, 1), (1, 0, 0, 0), 0, []),
  (.aload_n 0, (28, 1), (0, 0, 0, 0), 0, []),
  (.getfield 97, (29, 3), (8, 48, 2, 0), 0, []),
  (.iload_n 1, (32, 1), (0, 0, 0, 0), 0, []),
  (.iaload, (33, 1), (0, 0, 0, 0), 0, []),
  (.iconst 1, (34, 1), (0, 0, 0, 0), 1, []),
  (.isub, (35, 1), (0, 0, 0, 0), 0, []),
  (.i2l, (36, 1), (0, 0, 0, 0), 0, []),
  (.invokestatic 109, (37, 3), (139, 3, 0, 8), 0, []),
  (.ifCond .eq 7, (40, 3), (26, 0, 0, 0), 0, []),
  (.iconst 0, (43, 1), (0, 0, 0, 0), 0, []),
  (.goto 5, (44, 3), (27, 0, 0, 0), 0, []),
  (.bipush (-13), (47, 2), (0, 0, 0, 0), (-13), []),
  (.ireturn, (49, 1), (0, 0, 0, 0), 0, [])]
def cd_175 : List xz_Op := [(.iload_n 2, (0, 1), (0, 0, 0, 0), 0, []),
  (.i2l, (1, 1), (0, 0, 0, 0), 0, []),
  (.lconst 0, (2, 1), (1, 0, 0, 0), 0, []),
  (.lconst 1, (3, 1), (2, 0, 0, 0), 0, []),
  (.invokestatic 109, (4, 3), (139, 3, 0, 8), 0, []),
  (.ifCond .ne 5, (7, 3), (8, 0, 0, 0), 0, []),
  (.iconst (-1), (10, 1), (0, 0, 0, 0), (-1), []),
  (.ireturn, (11, 1), (0, 0, 0, 0), 0, []),
  (.aload_n 0, (12, 1), (0, 0, 0, 0), 0, []),
  (.iload_n 1, (13, 1), (0, 0, 0, 0), 0, []),
  (.invokevirtual 150, (14, 3), (173, 1, 0, 8), 0, []),
  (.istore 4, (17, 2), (0, 0, 0, 0), 0, []),
  (.iload 4, (19, 2), (0, 0, 0, 0), 0, []),
  (.ifCond .eq 6, (21, 3), (16, 0, 0, 0), 0, []),
  (.iload 4, (24, 2), (0, 0, 0, 0), 0, []),
  (.ireturn, (26, 1), (0, 0, 0, 0), 0, []),
  (.iload_n 2, (27, 1), (0, 0, 0, 0), 0, []),
  (.ifCond .ne 13, (28, 3), (22, 0, 0, 0), 0, []),
  (.iload_n 3, (31, 1), (0, 0, 0, 0), 0, []),
  (.invokestatic 145, (32, 3), (149, 1, 0, 8), 0, []),
  (.ifCond .ne 21, (35, 3), (30, 0, 0, 0), 0, []),
  (.goto 15, (38, 3), (28, 0, 0, 0), 0, []),
  (.iload_n 3, (41, 1), (0, 0, 0, 0), 0, []),
  (.i2l, (42, 1), (0, 0, 0, 0), 0, []),
  (.lconst 1, (43, 1), (2, 0, 0, 0), 0, []),
  (.ldc2_w 148, (44, 3), (3, 0, 0, 0), 0, []),
  (.invokestatic 109, (47, 3), (139, 3, 0, 8), 0, []),
  (.ifCond .ne 6, (50, 3), (30, 0, 0, 0), 0, []),
  (.bipush (-2), (53, 2), (0, 0, 0, 0), (-2), []),
  (.ireturn, (55, 1), (0, 0, 0, 0), 0, []),
  (.iload_n 2, (56, 1), (0, 0, 0, 0), 0, []),
  (.ifCond .ne 12, (57, 3), (37, 0, 0, 0), 0, []),
  (.aload_n 0, (60, 1), (0, 0, 0, 0), 0, []),
  (.getfield 19, (61, 3), (8, 3, 2, 0), 0, []),
  (.iload_n 1, (64, 1), (0, 0, 0, 0), 0, []),
  (.iaload, (65, 1), (0, 0, 0, 0), 0, []),
  (.goto 9, (66, 3), (41, 0, 0, 0), 0, []),
  (.aload_n 0, (69, 1), (0, 0, 0, 0), 0, []),
  (.getfield 29, (70, 3), (8, 6, 2, 0), 0, []),
  (.iload_n 1, (73, 1), (0, 0, 0, 0), 0, []),
  (.iaload, (74, 1), (0, 0, 0, 0), 0, []),
  (.istore 5, (75, 2), (0, 0, 0, 0), 0, []),
  (.iload_n 2, (77, 1), (0, 0, 0, 0), 0, []),
  (.ifCond .ne 13, (78, 3), (50, 0, 0, 0), 0, []),
  (.aload_n 0, (81, 1), (0, 0, 0, 0), 0, []),
  (.getfield 19, (82, 3), (8, 3, 2, 0), 0, []),
  (.iload_n 1, (85, 1), (0, 0, 0, 0), 0, []),
  (.iload_n 3, (86, 1), (0, 0, 0, 0), 0, []),
  (.iastore, (87, 1), (0, 0, 0, 0), 0, []),
  (.goto 10, (88, 3), (55, 0, 0, 0), 0, []),
  (.aload_n 0, (91, 1), (0, 0, 0, 0), 0, []),
  (.getfield 29, (92, 3), (8, 6, 2, 0), 0, []),
  (.iload_n 1, (95, 1), (0, 0, 0, 0), 0, []),
  (.iload_n 3, (96, 1), (0, 0, 0, 0), 0, []),
  (.iastore, (97, 1), (0, 0, 0, 0), 0, []),
  (.iload 5, (98, 2), (0, 0, 0, 0), 0, []),
  (.ireturn, (100, 1), (0, 0, 0, 0), 0, [])]
def cd_176 : List xz_Op := [(.iload_n 1, (0, 1), (0, 0, 0, 0), 0, []),
  (.ifCond .ne 10, (1, 3), (5, 0, 0, 0), 0, []),
  (.aload_n 0, (4, 1), (0, 0, 0, 0), 0, []),
  (.getfield 19, (5, 3), (8, 3, 2, 0), 0, []),
  (.goto 106, (8, 3), (55, 0, 0, 0), 0, []),
  (.iload_n 1, (11, 1), (0, 0, 0, 0), 0, []),
  (.iconst 1, (12, 1), (0, 0, 0, 0), 1, []),
  (.if_icmp .ne 10, (13, 3), (11, 0, 0, 0), 0, []),
  (.aload_n 0, (16, 1), (0, 0, 0, 0), 0, []),
  (.getfield 23, (17, 3), (8, 4, 2, 0), 0, []),
  (.goto 94, (20, 3), (55, 0, 0, 0), 0, []),
  (.iload_n 1, (23, 1), (0, 0, 0, 0), 0, []),
  (.iconst 2, (24, 1), (0, 0, 0, 0), 2, []),
  (.if_icmp .ne 10, (25, 3), (17, 0, 0, 0), 0, []),
  (.aload_n 0, (28, 1), (0, 0, 0, 0), 0, []),
  (.getfield 26, (29, 3), (8, 5, 2, 0), 0, []),
  (.goto 82, (32, 3), (55, 0, 0, 0), 0, []),
  (.iload_n 1, (35, 1), (0, 0, 0, 0), 0, []),
  (.iconst 3, (36, 1), (0, 0, 0, 0), 3, []),
  (.if_icmp .ne 10, (37, 3), (23, 0, 0, 0), 0, []),
  (.aload_n 0, (40, 1), (0, 0, 0, 0), 0, []),
  (.getfield 29, (41, 3), (8, 6, 2, 0), 0, []),
  (.goto 70, (44, 3), (55, 0, 0, 0), 0, []),
  (.iload_n 1, (47, 1), (0, 0, 0, 0), 0, []),
  (.iconst 4, (48, 1), (0, 0, 0, 0), 4, []),
  (.if_icmp .ne 10, (49, 3), (29, 0, 0, 0), 0, []),
  (.aload_n 0, (52, 1), (0, 0, 0, 0), 0, []),
  (.getfield 38, (53, 3), (8, 14, 2, 0), 0, []),
  (.goto 58, (56, 3), (55, 0, 0, 0), 0, []),
  (.iload_n 1, (59, 1), (0, 0, 0, 0), 0, []),
  (.iconst 5, (60, 1), (0, 0, 0, 0), 5, []),
  (.if_icmp .ne 10, (61, 3), (35, 0, 0, 0), 0, []),
  (.aload_n 0, (64, 1), (0, 0, 0, 0), 0, []),
  (.getfield 41, (65, 3), (8, 15, 2, 0), 0, []),
  (.goto 46, (68, 3), (55, 0, 0, 0), 0, []),
  (.iload_n 1, (71, 1), (0, 0, 0, 0), 0, []),
  (.bipush 6, (72, 2), (0, 0, 0, 0), 6, []),
  (.if_icmp .ne 10, (74, 3), (41, 0, 0, 0), 0, []),
  (.aload_n 0, (77, 1), (0, 0, 0, 0), 0, []),
  (.getfield 44, (78, 3), (8, 16, 2, 0), 0, []),
  (.goto 33, (81, 3), (55, 0, 0, 0), 0, []),
  (.iload_n 1, (84, 1), (0, 0, 0, 0), 0, []),
  (.bipush 7, (85, 2), (0, 0, 0, 0), 7, []),
  (.if_icmp .ne 10, (87, 3), (47, 0, 0, 0), 0, []),
  (.aload_n 0, (90, 1), (0, 0, 0, 0), 0, []),
  (.getfield 47, (91, 3), (8, 17, 2, 0), 0, []),
  (.goto 20, (94, 3), (55, 0, 0, 0), 0, []),
  (.iload_n 1, (97, 1), (0, 0, 0, 0), 0, []),
  (.bipush 8, (98, 2), (0, 0, 0, 0), 8, []),
  (.if_icmp .ne 10, (100, 3), (53, 0, 0, 0), 0, []),
  (.aload_n 0, (103, 1), (0, 0, 0, 0), 0, []),
  (.getfield 50, (104, 3), (8, 18, 2, 0), 0, []),
  (.goto 7, (107, 3), (55, 0, 0, 0), 0, []),
  (.aload_n 0, (110, 1), (0, 0, 0, 0), 0, []),
  (.getfield 53, (111, 3), (8, 19, 2, 0), 0, []),
  (.areturn, (114, 1), (0, 0, 0, 0), 0, [])]
def cd_177 : List xz_Op := [(.iload_n 1, (0, 1), (0, 0, 0, 0), 0, []),
  (.iconst (-1), (1, 1), (0, 0, 0, 0), (-1), []),
  (.if_icmp .ne 10, (2, 3), (8, 0, 0, 0), 0, []),
  (.aload_n 0, (5, 1), (0, 0, 0, 0), 0, []),
  (.iconst 0, (6, 1), (0, 0, 0, 0), 0, []),
  (.putfield 132, (7, 3), (8, 11, 0, 0), 0, []),
  (.iconst 0, (10, 1), (0, 0, 0, 0), 0, []),
  (.ireturn, (11, 1), (0, 0, 0, 0), 0, []),
  (.aload_n 0, (12, 1), (0, 0, 0, 0), 0, []),
  (.iload_n 1, (13, 1), (0, 0, 0, 0), 0, []),
  (.invokevirtual 113, (14, 3), (144, 1, 0, 8), 0, []),
  (.ifCond .ne 5, (17, 3), (14, 0, 0, 0), 0, []),
  (.iconst (-1), (20, 1), (0, 0, 0, 0), (-1), []),
  (.ireturn, (21, 1), (0, 0, 0, 0), 0, []),
  (.iload_n 2, (22, 1), (0, 0, 0, 0), 0, []),
  (.invokestatic 145, (23, 3), (149, 1, 0, 8), 0, []),
  (.ifCond .ne 6, (26, 3), (19, 0, 0, 0), 0, []),
  (.bipush (-2), (29, 2), (0, 0, 0, 0), (-2), []),
  (.ireturn, (31, 1), (0, 0, 0, 0), 0, []),
  (.aload_n 0, (32, 1), (0, 0, 0, 0), 0, []),
  (.getfield 132, (33, 3), (8, 11, 0, 0), 0, []),
  (.bipush 6, (36, 2), (0, 0, 0, 0), 6, []),
  (.if_icmp .ne 6, (38, 3), (25, 0, 0, 0), 0, []),
  (.bipush (-4), (41, 2), (0, 0, 0, 0), (-4), []),
  (.ireturn, (43, 1), (0, 0, 0, 0), 0, []),
  (.aload_n 0, (44, 1), (0, 0, 0, 0), 0, []),
  (.getfield 38, (45, 3), (8, 14, 2, 0), 0, []),
  (.aload_n 0, (48, 1), (0, 0, 0, 0), 0, []),
  (.getfield 132, (49, 3), (8, 11, 0, 0), 0, []),
  (.iload_n 1, (52, 1), (0, 0, 0, 0), 0, []),
  (.iastore, (53, 1), (0, 0, 0, 0), 0, []),
  (.aload_n 0, (54, 1), (0, 0, 0, 0), 0, []),
  (.getfield 41, (55, 3), (8, 15, 2, 0), 0, []),
  (.aload_n 0, (58, 1), (0, 0, 0, 0), 0, []),
  (.getfield 132, (59, 3), (8, 11, 0, 0), 0, []),
  (.iload_n 2, (62, 1), (0, 0, 0, 0), 0, []),
  (.iastore, (63, 1), (0, 0, 0, 0), 0, []),
  (.aload_n 0, (64, 1), (0, 0, 0, 0), 0, []),
  (.getfield 56, (65, 3), (8, 20, 2, 0), 0, []),
  (.aload_n 0, (68, 1), (0, 0, 0, 0), 0, []),
  (.getfield 132, (69, 3), (8, 11, 0, 0), 0, []),
  (.iload_n 3, (72, 1), (0, 0, 0, 0), 0, []),
  (.bastore, (73, 1), (0, 0, 0, 0), 0, []),
  (.aload_n 0, (74, 1), (0, 0, 0, 0), 0, []),
  (.dup, (75, 1), (0, 0, 0, 0), 0, []),
  (.getfield 132, (76, 3), (8, 11, 0, 0), 0, []),
  (.iconst 1, (79, 1), (0, 0, 0, 0), 1, []),
  (.iadd, (80, 1), (0, 0, 0, 0), 0, []),
  (.putfield 132, (81, 3), (8, 11, 0, 0), 0, []),
  (.aload_n 0, (84, 1), (0, 0, 0, 0), 0, []),
  (.getfield 132, (85, 3), (8, 11, 0, 0), 0, []),
  (.ireturn, (88, 1), (0, 0, 0, 0), 0, [])]
def cd_178 : List xz_Op := [(.iload_n 1, (0, 1), (0, 0, 0, 0), 0, []),
  (.invokestatic 355, (1, 3), (147, 1, 0, 8), 0, []),
  (.ifCond .eq 10, (4, 3), (6, 0, 0, 0), 0, []),
  (.iload_n 3, (7, 1), (0, 0, 0, 0), 0, []),
  (.invokestatic 355, (8, 3), (147, 1, 0, 8), 0, []),
  (.ifCond .ne 5, (11, 3), (8, 0, 0, 0), 0, []),
  (.iconst (-1), (14, 1), (0, 0, 0, 0), (-1), []),
  (.ireturn, (15, 1), (0, 0, 0, 0), 0, []),
  (.aload_n 0, (16, 1), (0, 0, 0, 0), 0, []),
  (.getfield 94, (17, 3), (8, 47, 2, 0), 0, []),
  (.iload_n 1, (20, 1), (0, 0, 0, 0), 0, []),
  (.iaload, (21, 1), (0, 0, 0, 0), 0, []),
  (.ifCond .lt 12, (22, 3), (18, 0, 0, 0), 0, []),
  (.aload_n 0, (25, 1), (0, 0, 0, 0), 0, []),
  (.getfield 94, (26, 3), (8, 47, 2, 0), 0, []),
  (.iload_n 3, (29, 1), (0, 0, 0, 0), 0, []),
  (.iaload, (30, 1), (0, 0, 0, 0), 0, []),
  (.ifCond .ge 6, (31, 3), (20, 0, 0, 0), 0, []),
  (.bipush (-11), (34, 2), (0, 0, 0, 0), (-11), []),
  (.ireturn, (36, 1), (0, 0, 0, 0), 0, []),
  (.aload_n 0, (37, 1), (0, 0, 0, 0), 0, []),
  (.getfield 94, (38, 3), (8, 47, 2, 0), 0, []),
  (.iload_n 1, (41, 1), (0, 0, 0, 0), 0, []),
  (.iaload, (42, 1), (0, 0, 0, 0), 0, []),
  (.aload_n 0, (43, 1), (0, 0, 0, 0), 0, []),
  (.getfield 94, (44, 3), (8, 47, 2, 0), 0, []),
  (.iload_n 3, (47, 1), (0, 0, 0, 0), 0, []),
  (.iaload, (48, 1), (0, 0, 0, 0), 0, []),
  (.if_icmp .eq 6, (49, 3), (31, 0, 0, 0), 0, []),
  (.bipush (-12), (52, 2), (0, 0, 0, 0), (-12), []),
  (.ireturn, (54, 1), (0, 0, 0, 0), 0, []),
  (.iload 5, (55, 2), (0, 0, 0, 0), 0, []),
  (.ifCond .lt 39, (57, 3), (53, 0, 0, 0), 0, []),
  (.iload_n 2, (60, 1), (0, 0, 0, 0), 0, []),
  (.ifCond .lt 35, (61, 3), (53, 0, 0, 0), 0, []),
  (.iload 4, (64, 2), (0, 0, 0, 0), 0, []),
  (.ifCond .lt 30, (66, 3), (53, 0, 0, 0), 0, []),
  (.iload_n 2, (69, 1), (0, 0, 0, 0), 0, []),
  (.aload_n 0, (70, 1), (0, 0, 0, 0), 0, []),
  (.getfield 97, (71, 3), (8, 48, 2, 0), 0, []),
  (.iload_n 1, (74, 1), (0, 0, 0, 0), 0, []),
  (.iaload, (75, 1), (0, 0, 0, 0), 0, []),
  (.iload 5, (76, 2), (0, 0, 0, 0), 0, []),
  (.isub, (78, 1), (0, 0, 0, 0), 0, []),
  (.if_icmp .gt 17, (79, 3), (53, 0, 0, 0), 0, []),
  (.iload 4, (82, 2), (0, 0, 0, 0), 0, []),
  (.aload_n 0, (84, 1), (0, 0, 0, 0), 0, []),
  (.getfield 97, (85, 3), (8, 48, 2, 0), 0, []),
  (.iload_n 3, (88, 1), (0, 0, 0, 0), 0, []),
  (.iaload, (89, 1), (0, 0, 0, 0), 0, []),
  (.iload 5, (90, 2), (0, 0, 0, 0), 0, []),
  (.isub, (92, 1), (0, 0, 0, 0), 0, []),
  (.if_icmp .le 6, (93, 3), (55, 0, 0, 0), 0, []),
  (.bipush (-13), (96, 2), (0, 0, 0, 0), (-13), []),
  (.ireturn, (98, 1), (0, 0, 0, 0), 0, []),
  (.aload_n 0, (99, 1), (0, 0, 0, 0), 0, []),
  (.getfield 102, (100, 3), (8, 49, 2, 0), 0, []),
  (.iload_n 1, (103, 1), (0, 0, 0, 0), 0, []),
  (.aaload, (104, 1), (0, 0, 0, 0), 0, []),
  (.iload_n 2, (105, 1), (0, 0, 0, 0), 0, []),
  (.aload_n 0, (106, 1), (0, 0, 0, 0), 0, []),
  (.getfield 105, (107, 3), (8, 50, 2, 0), 0, []),
  (.iconst 0, (110, 1), (0, 0, 0, 0), 0, []),
  (.iload 5, (111, 2), (0, 0, 0, 0), 0, []),
  (.invokestatic 263, (113, 3), (0, 5, 10, 0), 0, []),
  (.aload_n 0, (116, 1), (0, 0, 0, 0), 0, []),
  (.getfield 105, (117, 3), (8, 50, 2, 0), 0, []),
  (.iconst 0, (120, 1), (0, 0, 0, 0), 0, []),
  (.aload_n 0, (121, 1), (0, 0, 0, 0), 0, []),
  (.getfield 102, (122, 3), (8, 49, 2, 0), 0, []),
  (.iload_n 3, (125, 1), (0, 0, 0, 0), 0, []),
  (.aaload, (126, 1), (0, 0, 0, 0), 0, []),
  (.iload 4, (127, 2), (0, 0, 0, 0), 0, []),
  (.iload 5, (129, 2), (0, 0, 0, 0), 0, []),
  (.invokestatic 263, (131, 3), (0, 5, 10, 0), 0, []),
  (.iload 5, (134, 2), (0, 0, 0, 0), 0, []),
  (.ireturn, (136, 1), (0, 0, 0, 0), 0, [])]
def cd_179 : List xz_Op := [(.iload_n 1, (0, 1), (0, 0, 0, 0), 0, []),
  (.aload_n 0, (1, 1), (0, 0, 0, 0), 0, []),
  (.getfield 167, (2, 3), (8, 22, 0, 0), 0, []),
  (.if_icmp .ge 12, (5, 3), (9, 0, 0, 0), 0, []),
  (.aload_n 0, (8, 1), (0, 0, 0, 0), 0, []),
  (.getfield 59, (9, 3), (8, 21, 2, 0), 0, []),
  (.iload_n 1, (12, 1), (0, 0, 0, 0), 0, []),
  (.iaload, (13, 1), (0, 0, 0, 0), 0, []),
  (.goto 4, (14, 3), (10, 0, 0, 0), 0, []),
  (.iconst (-1), (17, 1), (0, 0, 0, 0), (-1), []),
  (.ireturn, (18, 1), (0, 0, 0, 0), 0, [])]
def cd_180 : List xz_Op := [(.lconst 1, (0, 1), (2, 0, 0, 0), 0, []),
  (.lstore_n 3, (1, 1), (0, 0, 0, 0), 0, []),
  (.iconst 0, (2, 1), (0, 0, 0, 0), 0, []),
  (.istore 5, (3, 2), (0, 0, 0, 0), 0, []),
  (.nop, (5, 0), (5, 0, 0, 0), 0, [0, 1, 2, 3, 5]),
  (.iload 5, (5, 2), (0, 0, 0, 0), 0, []),
  (.iconst 5, (7, 1), (0, 0, 0, 0), 5, []),
  (.if_icmp .ge 34, (8, 3), (25, 0, 0, 0), 0, []),
  (.lload_n 3, (11, 1), (0, 0, 0, 0), 0, []),
  (.iload 5, (12, 2), (0, 0, 0, 0), 0, []),
  (.iload_n 2, (14, 1), (0, 0, 0, 0), 0, []),
  (.if_icmp .ge 16, (15, 3), (20, 0, 0, 0), 0, []),
  (.aload_n 0, (18, 1), (0, 0, 0, 0), 0, []),
  (.getfield 29, (19, 3), (8, 6, 2, 0), 0, []),
  (.aload_n 1, (22, 1), (0, 0, 0, 0), 0, []),
  (.iload 5, (23, 2), (0, 0, 0, 0), 0, []),
  (.iaload, (25, 1), (0, 0, 0, 0), 0, []),
  (.iaload, (26, 1), (0, 0, 0, 0), 0, []),
  (.i2l, (27, 1), (0, 0, 0, 0), 0, []),
  (.goto 6, (28, 3), (21, 0, 0, 0), 0, []),
  (.ldc2_w 148, (31, 3), (3, 0, 0, 0), 0, []),
  (.lmul, (34, 1), (0, 0, 0, 0), 0, []),
  (.lstore_n 3, (35, 1), (0, 0, 0, 0), 0, []),
  (.iinc 5 1, (36, 3), (0, 0, 0, 0), 1, []),
  (.goto (-34), (39, 3), (4, 0, 0, 0), 0, []),
  (.lload_n 3, (42, 1), (0, 0, 0, 0), 0, []),
  (.lreturn, (43, 1), (0, 0, 0, 0), 0, [])]
def cd_181 : List xz_Op := [(.iload_n 1, (0, 1), (0, 0, 0, 0), 0, []),
  (.invokestatic 300, (1, 3), (145, 1, 0, 8), 0, []),
  (.ifCond .eq 10, (4, 3), (6, 0, 0, 0), 0, []),
  (.iload_n 2, (7, 1), (0, 0, 0, 0), 0, []),
  (.invokestatic 303, (8, 3), (143, 1, 0, 8), 0, []),
  (.ifCond .ne 7, (11, 3), (8, 0, 0, 0), 0, []),
  (.ldc2_w 306, (14, 3), (5, 0, 0, 0), 0, []),
  (.lreturn, (17, 1), (0, 0, 0, 0), 0, []),
  (.aload_n 0, (18, 1), (0, 0, 0, 0), 0, []),
  (.aload_n 0, (19, 1), (0, 0, 0, 0), 0, []),
  (.getfield 35, (20, 3), (8, 9, 0, 0), 0, []),
  (.iconst 0, (23, 1), (0, 0, 0, 0), 0, []),
  (.bipush 6, (24, 2), (0, 0, 0, 0), 6, []),
  (.iload_n 1, (26, 1), (0, 0, 0, 0), 0, []),
  (.iconst 0, (27, 1), (0, 0, 0, 0), 0, []),
  (.invokevirtual 296, (28, 3), (132, 5, 3, 8), 0, []),
  (.aload_n 0, (31, 1), (0, 0, 0, 0), 0, []),
  (.getfield 235, (32, 3), (8, 37, 0, 0), 0, []),
  (.ifCond .ne 7, (35, 3), (21, 0, 0, 0), 0, []),
  (.ldc2_w 306, (38, 3), (5, 0, 0, 0), 0, []),
  (.lreturn, (41, 1), (0, 0, 0, 0), 0, []),
  (.lconst 1, (42, 1), (2, 0, 0, 0), 0, []),
  (.lstore_n 3, (43, 1), (0, 0, 0, 0), 0, []),
  (.lconst 1, (44, 1), (2, 0, 0, 0), 0, []),
  (.lstore 5, (45, 2), (0, 0, 0, 0), 0, []),
  (.iconst 0, (47, 1), (0, 0, 0, 0), 0, []),
  (.istore 7, (48, 2), (0, 0, 0, 0), 0, []),
  (.nop, (50, 0), (28, 0, 0, 0), 0, [0, 2, 3, 5, 7]),
  (.iload 7, (50, 2), (0, 0, 0, 0), 0, []),
  (.aload_n 0, (52, 1), (0, 0, 0, 0), 0, []),
  (.getfield 242, (53, 3), (8, 33, 0, 0), 0, []),
  (.if_icmp .ge 33, (56, 3), (49, 0, 0, 0), 0, []),
  (.lload_n 3, (59, 1), (0, 0, 0, 0), 0, []),
  (.aload_n 0, (60, 1), (0, 0, 0, 0), 0, []),
  (.getfield 29, (61, 3), (8, 6, 2, 0), 0, []),
  (.aload_n 0, (64, 1), (0, 0, 0, 0), 0, []),
  (.getfield 71, (65, 3), (8, 39, 2, 0), 0, []),
  (.iload 7, (68, 2), (0, 0, 0, 0), 0, []),
  (.iaload, (70, 1), (0, 0, 0, 0), 0, []),
  (.iaload, (71, 1), (0, 0, 0, 0), 0, []),
  (.i2l, (72, 1), (0, 0, 0, 0), 0, []),
  (.lmul, (73, 1), (0, 0, 0, 0), 0, []),
  (.lstore_n 3, (74, 1), (0, 0, 0, 0), 0, []),
  (.lload 5, (75, 2), (0, 0, 0, 0), 0, []),
  (.ldc2_w 148, (77, 3), (3, 0, 0, 0), 0, []),
  (.lmul, (80, 1), (0, 0, 0, 0), 0, []),
  (.lstore 5, (81, 2), (0, 0, 0, 0), 0, []),
  (.iinc 7 1, (83, 3), (0, 0, 0, 0), 1, []),
  (.goto (-36), (86, 3), (27, 0, 0, 0), 0, []),
  (.lload_n 3, (89, 1), (0, 0, 0, 0), 0, []),
  (.lload 5, (90, 2), (0, 0, 0, 0), 0, []),
  (.iload_n 2, (92, 1), (0, 0, 0, 0), 0, []),
  (.invokestatic 308, (93, 3), (157, 3, 1, 8), 0, []),
  (.lreturn, (96, 1), (0, 0, 0, 0), 0, [])]
def cd_182 : List xz_Op := [(.iload_n 1, (0, 1), (0, 0, 0, 0), 0, []),
  (.invokestatic 355, (1, 3), (147, 1, 0, 8), 0, []),
  (.ifCond .ne 5, (4, 3), (5, 0, 0, 0), 0, []),
  (.iconst (-1), (7, 1), (0, 0, 0, 0), (-1), []),
  (.ireturn, (8, 1), (0, 0, 0, 0), 0, []),
  (.iload_n 2, (9, 1), (0, 0, 0, 0), 0, []),
  (.i2l, (10, 1), (0, 0, 0, 0), 0, []),
  (.ldc2_w 365, (11, 3), (15, 0, 0, 0), 0, []),
  (.ldc2_w 367, (14, 3), (16, 0, 0, 0), 0, []),
  (.invokestatic 109, (17, 3), (139, 3, 0, 8), 0, []),
  (.ifCond .eq 13, (20, 3), (16, 0, 0, 0), 0, []),
  (.iload_n 2, (23, 1), (0, 0, 0, 0), 0, []),
  (.ifCond .lt 12, (24, 3), (18, 0, 0, 0), 0, []),
  (.iload_n 3, (27, 1), (0, 0, 0, 0), 0, []),
  (.bipush 60, (28, 2), (0, 0, 0, 0), 60, []),
  (.if_icmp .le 6, (30, 3), (18, 0, 0, 0), 0, []),
  (.bipush (-2), (33, 2), (0, 0, 0, 0), (-2), []),
  (.ireturn, (35, 1), (0, 0, 0, 0), 0, []),
  (.iload_n 2, (36, 1), (0, 0, 0, 0), 0, []),
  (.ifCond .lt 10, (37, 3), (24, 0, 0, 0), 0, []),
  (.iload_n 3, (40, 1), (0, 0, 0, 0), 0, []),
  (.ifCond .ge 6, (41, 3), (24, 0, 0, 0), 0, []),
  (.bipush (-14), (44, 2), (0, 0, 0, 0), (-14), []),
  (.ireturn, (46, 1), (0, 0, 0, 0), 0, []),
  (.aload_n 0, (47, 1), (0, 0, 0, 0), 0, []),
  (.getfield 94, (48, 3), (8, 47, 2, 0), 0, []),
  (.iload_n 1, (51, 1), (0, 0, 0, 0), 0, []),
  (.iload_n 2, (52, 1), (0, 0, 0, 0), 0, []),
  (.iastore, (53, 1), (0, 0, 0, 0), 0, []),
  (.aload_n 0, (54, 1), (0, 0, 0, 0), 0, []),
  (.getfield 97, (55, 3), (8, 48, 2, 0), 0, []),
  (.iload_n 1, (58, 1), (0, 0, 0, 0), 0, []),
  (.iload_n 2, (59, 1), (0, 0, 0, 0), 0, []),
  (.ifCond .ge 7, (60, 3), (36, 0, 0, 0), 0, []),
  (.iconst 0, (63, 1), (0, 0, 0, 0), 0, []),
  (.goto 4, (64, 3), (37, 0, 0, 0), 0, []),
  (.iload_n 3, (67, 1), (0, 0, 0, 0), 0, []),
  (.iastore, (68, 1), (0, 0, 0, 0), 0, []),
  (.iconst 0, (69, 1), (0, 0, 0, 0), 0, []),
  (.istore 4, (70, 2), (0, 0, 0, 0), 0, []),
  (.nop, (72, 0), (41, 0, 0, 0), 0, [0, 1, 4]),
  (.iload 4, (72, 2), (0, 0, 0, 0), 0, []),
  (.bipush 60, (74, 2), (0, 0, 0, 0), 60, []),
  (.if_icmp .ge 19, (76, 3), (53, 0, 0, 0), 0, []),
  (.aload_n 0, (79, 1), (0, 0, 0, 0), 0, []),
  (.getfield 102, (80, 3), (8, 49, 2, 0), 0, []),
  (.iload_n 1, (83, 1), (0, 0, 0, 0), 0, []),
  (.aaload, (84, 1), (0, 0, 0, 0), 0, []),
  (.iload 4, (85, 2), (0, 0, 0, 0), 0, []),
  (.lconst 0, (87, 1), (1, 0, 0, 0), 0, []),
  (.lastore, (88, 1), (0, 0, 0, 0), 0, []),
  (.iinc 4 1, (89, 3), (0, 0, 0, 0), 1, []),
  (.goto (-20), (92, 3), (40, 0, 0, 0), 0, []),
  (.iconst 1, (95, 1), (0, 0, 0, 0), 1, []),
  (.ireturn, (96, 1), (0, 0, 0, 0), 0, [])]
def cd_183 : List xz_Op := [(.iconst 0, (0, 1), (0, 0, 0, 0), 0, []),
  (.istore_n 1, (1, 1), (0, 0, 0, 0), 0, []),
  (.nop, (2, 0), (3, 0, 0, 0), 0, [0, 1]),
  (.iload_n 1, (2, 1), (0, 0, 0, 0), 0, []),
  (.aload_n 0, (3, 1), (0, 0, 0, 0), 0, []),
  (.getfield 9, (4, 3), (8, 0, 0, 0), 0, []),
  (.if_icmp .ge 20, (7, 3), (16, 0, 0, 0), 0, []),
  (.aload_n 0, (10, 1), (0, 0, 0, 0), 0, []),
  (.getfield 74, (11, 3), (8, 40, 2, 0), 0, []),
  (.iload_n 1, (14, 1), (0, 0, 0, 0), 0, []),
  (.aload_n 0, (15, 1), (0, 0, 0, 0), 0, []),
  (.iload_n 1, (16, 1), (0, 0, 0, 0), 0, []),
  (.invokevirtual 312, (17, 3), (170, 1, 0, 8), 0, []),
  (.iastore, (20, 1), (0, 0, 0, 0), 0, []),
  (.iinc 1 1, (21, 3), (0, 0, 0, 0), 1, []),
  (.goto (-22), (24, 3), (2, 0, 0, 0), 0, []),
  (.return_, (27, 1), (0, 0, 0, 0), 0, [])]
def cd_184 : List xz_Op := [(.iload_n 1, (0, 1), (0, 0, 0, 0), 0, []),
  (.tableswitch 123 0 11 #[63, 68, 73, 78, 83, 88, 93, 98, 103, 108, 113, 118], (1, 63), (38, 0, 0, 0), 0, [2, 5, 8, 11, 14, 17, 20, 23, 26, 29, 32, 35]),
  (.aload_n 0, (64, 1), (0, 0, 0, 0), 0, []),
  (.getfield 9, (65, 3), (8, 0, 0, 0), 0, []),
  (.ireturn, (68, 1), (0, 0, 0, 0), 0, []),
  (.aload_n 0, (69, 1), (0, 0, 0, 0), 0, []),
  (.invokevirtual 154, (70, 3), (155, 0, 0, 8), 0, []),
  (.ireturn, (73, 1), (0, 0, 0, 0), 0, []),
  (.aload_n 0, (74, 1), (0, 0, 0, 0), 0, []),
  (.getfield 32, (75, 3), (8, 7, 0, 0), 0, []),
  (.ireturn, (78, 1), (0, 0, 0, 0), 0, []),
  (.aload_n 0, (79, 1), (0, 0, 0, 0), 0, []),
  (.getfield 126, (80, 3), (8, 8, 0, 0), 0, []),
  (.ireturn, (83, 1), (0, 0, 0, 0), 0, []),
  (.aload_n 0, (84, 1), (0, 0, 0, 0), 0, []),
  (.getfield 35, (85, 3), (8, 9, 0, 0), 0, []),
  (.ireturn, (88, 1), (0, 0, 0, 0), 0, []),
  (.aload_n 0, (89, 1), (0, 0, 0, 0), 0, []),
  (.getfield 129, (90, 3), (8, 10, 0, 0), 0, []),
  (.ireturn, (93, 1), (0, 0, 0, 0), 0, []),
  (.aload_n 0, (94, 1), (0, 0, 0, 0), 0, []),
  (.invokevirtual 162, (95, 3), (187, 0, 0, 8), 0, []),
  (.ireturn, (98, 1), (0, 0, 0, 0), 0, []),
  (.aload_n 0, (99, 1), (0, 0, 0, 0), 0, []),
  (.invokevirtual 332, (100, 3), (153, 0, 0, 8), 0, []),
  (.ireturn, (103, 1), (0, 0, 0, 0), 0, []),
  (.aload_n 0, (104, 1), (0, 0, 0, 0), 0, []),
  (.invokevirtual 335, (105, 3), (167, 0, 0, 8), 0, []),
  (.ireturn, (108, 1), (0, 0, 0, 0), 0, []),
  (.aload_n 0, (109, 1), (0, 0, 0, 0), 0, []),
  (.invokevirtual 338, (110, 3), (154, 0, 0, 8), 0, []),
  (.ireturn, (113, 1), (0, 0, 0, 0), 0, []),
  (.aload_n 0, (114, 1), (0, 0, 0, 0), 0, []),
  (.invokevirtual 341, (115, 3), (171, 0, 0, 8), 0, []),
  (.ireturn, (118, 1), (0, 0, 0, 0), 0, []),
  (.aload_n 0, (119, 1), (0, 0, 0, 0), 0, []),
  (.getfield 123, (120, 3), (8, 1, 0, 0), 0, []),
  (.ireturn, (123, 1), (0, 0, 0, 0), 0, []),
  (.iconst (-1), (124, 1), (0, 0, 0, 0), (-1), []),
  (.ireturn, (125, 1), (0, 0, 0, 0), 0, [])]
def cd_185 : List xz_Op := [(.aload_n 0, (0, 1), (0, 0, 0, 0), 0, []),
  (.getfield 358, (1, 3), (8, 42, 0, 0), 0, []),
  (.ifCond .ne 6, (4, 3), (5, 0, 0, 0), 0, []),
  (.bipush (-3), (7, 2), (0, 0, 0, 0), (-3), []),
  (.ireturn, (9, 1), (0, 0, 0, 0), 0, []),
  (.aload_n 0, (10, 1), (0, 0, 0, 0), 0, []),
  (.aload_n 0, (11, 1), (0, 0, 0, 0), 0, []),
  (.getfield 80, (12, 3), (8, 43, 2, 0), 0, []),
  (.iconst 0, (15, 1), (0, 0, 0, 0), 0, []),
  (.iaload, (16, 1), (0, 0, 0, 0), 0, []),
  (.putfield 9, (17, 3), (8, 0, 0, 0), 0, []),
  (.aload_n 0, (20, 1), (0, 0, 0, 0), 0, []),
  (.aload_n 0, (21, 1), (0, 0, 0, 0), 0, []),
  (.getfield 80, (22, 3), (8, 43, 2, 0), 0, []),
  (.iconst 1, (25, 1), (0, 0, 0, 0), 1, []),
  (.iaload, (26, 1), (0, 0, 0, 0), 0, []),
  (.putfield 123, (27, 3), (8, 1, 0, 0), 0, []),
  (.aload_n 0, (30, 1), (0, 0, 0, 0), 0, []),
  (.aload_n 0, (31, 1), (0, 0, 0, 0), 0, []),
  (.getfield 80, (32, 3), (8, 43, 2, 0), 0, []),
  (.iconst 2, (35, 1), (0, 0, 0, 0), 2, []),
  (.iaload, (36, 1), (0, 0, 0, 0), 0, []),
  (.putfield 32, (37, 3), (8, 7, 0, 0), 0, []),
  (.aload_n 0, (40, 1), (0, 0, 0, 0), 0, []),
  (.aload_n 0, (41, 1), (0, 0, 0, 0), 0, []),
  (.getfield 80, (42, 3), (8, 43, 2, 0), 0, []),
  (.iconst 3, (45, 1), (0, 0, 0, 0), 3, []),
  (.iaload, (46, 1), (0, 0, 0, 0), 0, []),
  (.putfield 126, (47, 3), (8, 8, 0, 0), 0, []),
  (.aload_n 0, (50, 1), (0, 0, 0, 0), 0, []),
  (.aload_n 0, (51, 1), (0, 0, 0, 0), 0, []),
  (.getfield 80, (52, 3), (8, 43, 2, 0), 0, []),
  (.iconst 4, (55, 1), (0, 0, 0, 0), 4, []),
  (.iaload, (56, 1), (0, 0, 0, 0), 0, []),
  (.putfield 35, (57, 3), (8, 9, 0, 0), 0, []),
  (.aload_n 0, (60, 1), (0, 0, 0, 0), 0, []),
  (.aload_n 0, (61, 1), (0, 0, 0, 0), 0, []),
  (.getfield 80, (62, 3), (8, 43, 2, 0), 0, []),
  (.iconst 5, (65, 1), (0, 0, 0, 0), 5, []),
  (.iaload, (66, 1), (0, 0, 0, 0), 0, []),
  (.putfield 129, (67, 3), (8, 10, 0, 0), 0, []),
  (.aload_n 0, (70, 1), (0, 0, 0, 0), 0, []),
  (.aload_n 0, (71, 1), (0, 0, 0, 0), 0, []),
  (.getfield 80, (72, 3), (8, 43, 2, 0), 0, []),
  (.bipush 6, (75, 2), (0, 0, 0, 0), 6, []),
  (.iaload, (77, 1), (0, 0, 0, 0), 0, []),
  (.putfield 132, (78, 3), (8, 11, 0, 0), 0, []),
  (.aload_n 0, (81, 1), (0, 0, 0, 0), 0, []),
  (.aload_n 0, (82, 1), (0, 0, 0, 0), 0, []),
  (.getfield 80, (83, 3), (8, 43, 2, 0), 0, []),
  (.bipush 7, (86, 2), (0, 0, 0, 0), 7, []),
  (.iaload, (88, 1), (0, 0, 0, 0), 0, []),
  (.putfield 135, (89, 3), (8, 12, 0, 0), 0, []),
  (.aload_n 0, (92, 1), (0, 0, 0, 0), 0, []),
  (.aload_n 0, (93, 1), (0, 0, 0, 0), 0, []),
  (.getfield 80, (94, 3), (8, 43, 2, 0), 0, []),
  (.bipush 8, (97, 2), (0, 0, 0, 0), 8, []),
  (.iaload, (99, 1), (0, 0, 0, 0), 0, []),
  (.putfield 138, (100, 3), (8, 13, 0, 0), 0, []),
  (.aload_n 0, (103, 1), (0, 0, 0, 0), 0, []),
  (.getfield 83, (104, 3), (8, 44, 2, 0), 0, []),
  (.iconst 0, (107, 1), (0, 0, 0, 0), 0, []),
  (.aload_n 0, (108, 1), (0, 0, 0, 0), 0, []),
  (.getfield 15, (109, 3), (8, 2, 2, 0), 0, []),
  (.iconst 0, (112, 1), (0, 0, 0, 0), 0, []),
  (.bipush 14, (113, 2), (0, 0, 0, 0), 14, []),
  (.invokestatic 263, (115, 3), (0, 5, 10, 0), 0, []),
  (.aload_n 0, (118, 1), (0, 0, 0, 0), 0, []),
  (.getfield 86, (119, 3), (8, 45, 2, 0), 0, []),
  (.iconst 0, (122, 1), (0, 0, 0, 0), 0, []),
  (.aload_n 0, (123, 1), (0, 0, 0, 0), 0, []),
  (.getfield 56, (124, 3), (8, 20, 2, 0), 0, []),
  (.iconst 0, (127, 1), (0, 0, 0, 0), 0, []),
  (.bipush 6, (128, 2), (0, 0, 0, 0), 6, []),
  (.invokestatic 263, (130, 3), (0, 5, 10, 0), 0, []),
  (.iconst 0, (133, 1), (0, 0, 0, 0), 0, []),
  (.istore_n 1, (134, 1), (0, 0, 0, 0), 0, []),
  (.nop, (135, 0), (78, 0, 0, 0), 0, [0, 1]),
  (.iload_n 1, (135, 1), (0, 0, 0, 0), 0, []),
  (.bipush 10, (136, 2), (0, 0, 0, 0), 10, []),
  (.if_icmp .ge 31, (138, 3), (97, 0, 0, 0), 0, []),
  (.aload_n 0, (141, 1), (0, 0, 0, 0), 0, []),
  (.getfield 91, (142, 3), (8, 46, 2, 0), 0, []),
  (.iload_n 1, (145, 1), (0, 0, 0, 0), 0, []),
  (.aaload, (146, 1), (0, 0, 0, 0), 0, []),
  (.iconst 0, (147, 1), (0, 0, 0, 0), 0, []),
  (.aload_n 0, (148, 1), (0, 0, 0, 0), 0, []),
  (.iload_n 1, (149, 1), (0, 0, 0, 0), 0, []),
  (.invokevirtual 361, (150, 3), (176, 1, 2, 8), 0, []),
  (.iconst 0, (153, 1), (0, 0, 0, 0), 0, []),
  (.aload_n 0, (154, 1), (0, 0, 0, 0), 0, []),
  (.iload_n 1, (155, 1), (0, 0, 0, 0), 0, []),
  (.invokevirtual 361, (156, 3), (176, 1, 2, 8), 0, []),
  (.arraylength, (159, 1), (0, 0, 0, 0), 0, []),
  (.invokestatic 263, (160, 3), (0, 5, 10, 0), 0, []),
  (.iinc 1 1, (163, 3), (0, 0, 0, 0), 1, []),
  (.goto (-31), (166, 3), (77, 0, 0, 0), 0, []),
  (.aload_n 0, (169, 1), (0, 0, 0, 0), 0, []),
  (.invokevirtual 154, (170, 3), (155, 0, 0, 8), 0, []),
  (.ireturn, (173, 1), (0, 0, 0, 0), 0, [])]
def cd_186 : List xz_Op := [(.iload_n 1, (0, 1), (0, 0, 0, 0), 0, []),
  (.invokestatic 300, (1, 3), (145, 1, 0, 8), 0, []),
  (.ifCond .ne 6, (4, 3), (5, 0, 0, 0), 0, []),
  (.bipush (-2), (7, 2), (0, 0, 0, 0), (-2), []),
  (.ireturn, (9, 1), (0, 0, 0, 0), 0, []),
  (.aload_n 0, (10, 1), (0, 0, 0, 0), 0, []),
  (.aload_n 0, (11, 1), (0, 0, 0, 0), 0, []),
  (.getfield 35, (12, 3), (8, 9, 0, 0), 0, []),
  (.iconst 0, (15, 1), (0, 0, 0, 0), 0, []),
  (.bipush 6, (16, 2), (0, 0, 0, 0), 6, []),
  (.iload_n 1, (18, 1), (0, 0, 0, 0), 0, []),
  (.iconst 0, (19, 1), (0, 0, 0, 0), 0, []),
  (.invokevirtual 296, (20, 3), (132, 5, 3, 8), 0, []),
  (.aload_n 0, (23, 1), (0, 0, 0, 0), 0, []),
  (.getfield 235, (24, 3), (8, 37, 0, 0), 0, []),
  (.ifCond .ne 6, (27, 3), (18, 0, 0, 0), 0, []),
  (.bipush (-5), (30, 2), (0, 0, 0, 0), (-5), []),
  (.ireturn, (32, 1), (0, 0, 0, 0), 0, []),
  (.iload_n 2, (33, 1), (0, 0, 0, 0), 0, []),
  (.iconst (-1), (34, 1), (0, 0, 0, 0), (-1), []),
  (.if_icmp .ne 8, (35, 3), (24, 0, 0, 0), 0, []),
  (.aload_n 0, (38, 1), (0, 0, 0, 0), 0, []),
  (.getfield 242, (39, 3), (8, 33, 0, 0), 0, []),
  (.ireturn, (42, 1), (0, 0, 0, 0), 0, []),
  (.iload_n 2, (43, 1), (0, 0, 0, 0), 0, []),
  (.bipush (-2), (44, 2), (0, 0, 0, 0), (-2), []),
  (.if_icmp .ne 8, (46, 3), (30, 0, 0, 0), 0, []),
  (.aload_n 0, (49, 1), (0, 0, 0, 0), 0, []),
  (.getfield 245, (50, 3), (8, 34, 0, 0), 0, []),
  (.ireturn, (53, 1), (0, 0, 0, 0), 0, []),
  (.iload_n 2, (54, 1), (0, 0, 0, 0), 0, []),
  (.i2l, (55, 1), (0, 0, 0, 0), 0, []),
  (.lconst 0, (56, 1), (1, 0, 0, 0), 0, []),
  (.aload_n 0, (57, 1), (0, 0, 0, 0), 0, []),
  (.getfield 242, (58, 3), (8, 33, 0, 0), 0, []),
  (.iconst 1, (61, 1), (0, 0, 0, 0), 1, []),
  (.isub, (62, 1), (0, 0, 0, 0), 0, []),
  (.i2l, (63, 1), (0, 0, 0, 0), 0, []),
  (.invokestatic 109, (64, 3), (139, 3, 0, 8), 0, []),
  (.ifCond .eq 12, (67, 3), (45, 0, 0, 0), 0, []),
  (.aload_n 0, (70, 1), (0, 0, 0, 0), 0, []),
  (.getfield 71, (71, 3), (8, 39, 2, 0), 0, []),
  (.iload_n 2, (74, 1), (0, 0, 0, 0), 0, []),
  (.iaload, (75, 1), (0, 0, 0, 0), 0, []),
  (.goto 4, (76, 3), (46, 0, 0, 0), 0, []),
  (.iconst (-1), (79, 1), (0, 0, 0, 0), (-1), []),
  (.ireturn, (80, 1), (0, 0, 0, 0), 0, [])]
def cd_187 : List xz_Op := [(.aload_n 0, (0, 1), (0, 0, 0, 0), 0, []),
  (.aload_n 0, (1, 1), (0, 0, 0, 0), 0, []),
  (.getfield 35, (2, 3), (8, 9, 0, 0), 0, []),
  (.iconst 0, (5, 1), (0, 0, 0, 0), 0, []),
  (.bipush 6, (6, 2), (0, 0, 0, 0), 6, []),
  (.iconst 0, (8, 1), (0, 0, 0, 0), 0, []),
  (.iconst 0, (9, 1), (0, 0, 0, 0), 0, []),
  (.invokevirtual 296, (10, 3), (132, 5, 3, 8), 0, []),
  (.aload_n 0, (13, 1), (0, 0, 0, 0), 0, []),
  (.getfield 252, (14, 3), (8, 32, 0, 0), 0, []),
  (.ireturn, (17, 1), (0, 0, 0, 0), 0, [])]
def cd_188 : List xz_Op := [(.aload_n 0, (0, 1), (0, 0, 0, 0), 0, []),
  (.getfield 175, (1, 3), (8, 23, 0, 0), 0, []),
  (.istore_n 1, (4, 1), (0, 0, 0, 0), 0, []),
  (.nop, (5, 0), (4, 0, 0, 0), 0, [0, 1]),
  (.aload_n 0, (5, 1), (0, 0, 0, 0), 0, []),
  (.iload_n 1, (6, 1), (0, 0, 0, 0), 0, []),
  (.invokevirtual 182, (7, 3), (179, 1, 0, 8), 0, []),
  (.i2l, (10, 1), (0, 0, 0, 0), 0, []),
  (.ldc2_w 185, (11, 3), (17, 0, 0, 0), 0, []),
  (.ldc2_w 187, (14, 3), (18, 0, 0, 0), 0, []),
  (.invokestatic 109, (17, 3), (139, 3, 0, 8), 0, []),
  (.ifCond .eq 9, (20, 3), (14, 0, 0, 0), 0, []),
  (.iinc 1 1, (23, 3), (0, 0, 0, 0), 1, []),
  (.goto (-21), (26, 3), (3, 0, 0, 0), 0, []),
  (.aload_n 0, (29, 1), (0, 0, 0, 0), 0, []),
  (.ldc 189, (30, 2), (0, 1, 0, 0), 0, []),
  (.iload_n 1, (32, 1), (0, 0, 0, 0), 0, []),
  (.invokevirtual 190, (33, 3), (150, 2, 0, 8), 0, []),
  (.ifCond .eq 7, (36, 3), (21, 0, 0, 0), 0, []),
  (.iconst 0, (39, 1), (0, 0, 0, 0), 0, []),
  (.goto 60, (40, 3), (50, 0, 0, 0), 0, []),
  (.aload_n 0, (43, 1), (0, 0, 0, 0), 0, []),
  (.ldc 194, (44, 2), (1, 1, 0, 0), 0, []),
  (.iload_n 1, (46, 1), (0, 0, 0, 0), 0, []),
  (.invokevirtual 190, (47, 3), (150, 2, 0, 8), 0, []),
  (.ifCond .eq 7, (50, 3), (28, 0, 0, 0), 0, []),
  (.iconst 1, (53, 1), (0, 0, 0, 0), 1, []),
  (.goto 46, (54, 3), (50, 0, 0, 0), 0, []),
  (.aload_n 0, (57, 1), (0, 0, 0, 0), 0, []),
  (.ldc 196, (58, 2), (2, 1, 0, 0), 0, []),
  (.iload_n 1, (60, 1), (0, 0, 0, 0), 0, []),
  (.invokevirtual 190, (61, 3), (150, 2, 0, 8), 0, []),
  (.ifCond .eq 7, (64, 3), (35, 0, 0, 0), 0, []),
  (.iconst 2, (67, 1), (0, 0, 0, 0), 2, []),
  (.goto 32, (68, 3), (50, 0, 0, 0), 0, []),
  (.aload_n 0, (71, 1), (0, 0, 0, 0), 0, []),
  (.ldc 198, (72, 2), (3, 1, 0, 0), 0, []),
  (.iload_n 1, (74, 1), (0, 0, 0, 0), 0, []),
  (.invokevirtual 190, (75, 3), (150, 2, 0, 8), 0, []),
  (.ifCond .eq 7, (78, 3), (42, 0, 0, 0), 0, []),
  (.iconst 3, (81, 1), (0, 0, 0, 0), 3, []),
  (.goto 18, (82, 3), (50, 0, 0, 0), 0, []),
  (.aload_n 0, (85, 1), (0, 0, 0, 0), 0, []),
  (.ldc 199, (86, 2), (4, 1, 0, 0), 0, []),
  (.iload_n 1, (88, 1), (0, 0, 0, 0), 0, []),
  (.invokevirtual 190, (89, 3), (150, 2, 0, 8), 0, []),
  (.ifCond .eq 7, (92, 3), (49, 0, 0, 0), 0, []),
  (.iconst 4, (95, 1), (0, 0, 0, 0), 4, []),
  (.goto 4, (96, 3), (50, 0, 0, 0), 0, []),
  (.iconst (-1), (99, 1), (0, 0, 0, 0), (-1), []),
  (.istore_n 2, (100, 1), (0, 0, 0, 0), 0, []),
  (.iload_n 2, (101, 1), (0, 0, 0, 0), 0, []),
  (.iconst (-1), (102, 1), (0, 0, 0, 0), (-1), []),
  (.if_icmp .ne 14, (103, 3), (59, 0, 0, 0), 0, []),
  (.aload_n 0, (106, 1), (0, 0, 0, 0), 0, []),
  (.aload_n 0, (107, 1), (0, 0, 0, 0), 0, []),
  (.getfield 175, (108, 3), (8, 23, 0, 0), 0, []),
  (.putfield 201, (111, 3), (8, 24, 0, 0), 0, []),
  (.goto 8, (114, 3), (62, 0, 0, 0), 0, []),
  (.aload_n 0, (117, 1), (0, 0, 0, 0), 0, []),
  (.iload_n 1, (118, 1), (0, 0, 0, 0), 0, []),
  (.putfield 175, (119, 3), (8, 23, 0, 0), 0, []),
  (.iload_n 2, (122, 1), (0, 0, 0, 0), 0, []),
  (.ireturn, (123, 1), (0, 0, 0, 0), 0, [])]
def cd_189 : List xz_Op := [(.aload_n 0, (0, 1), (0, 0, 0, 0), 0, []),
  (.invokevirtual 492, (1, 3), (192, 0, 0, 20), 0, []),
  (.ifCond .eq 12, (4, 3), (8, 0, 0, 0), 0, []),
  (.aload_n 0, (7, 1), (0, 0, 0, 0), 0, []),
  (.getfield 9, (8, 3), (0, 0, 4, 0), 0, []),
  (.iload_n 1, (11, 1), (0, 0, 0, 0), 0, []),
  (.invokestatic 495, (12, 3), (194, 2, 0, 0), 0, []),
  (.ireturn, (15, 1), (2, 0, 0, 0), 0, []),
  (.aload_n 0, (16, 1), (0, 0, 0, 0), 0, []),
  (.getfield 9, (17, 3), (0, 0, 4, 0), 0, []),
  (.iload_n 1, (20, 1), (0, 0, 0, 0), 0, []),
  (.invokestatic 498, (21, 3), (0, 2, 99, 0), 0, []),
  (.ireturn, (24, 1), (2, 0, 0, 0), 0, [])]
def cd_190 : List xz_Op := [(.iload_n 0, (0, 1), (0, 0, 0, 0), 0, []),
  (.iload_n 1, (1, 1), (0, 0, 0, 0), 0, []),
  (.getstatic 1053, (2, 3), (0, 0, 1, 0), 0, []),
  (.invokestatic 1059, (5, 3), (195, 3, 0, 0), 0, []),
  (.pop, (8, 1), (0, 0, 0, 0), 0, []),
  (.return_, (9, 1), (0, 0, 0, 0), 0, [])]
def cd_191 : List xz_Op := [(.getstatic 38, (0, 3), (0, 0, 0, 0), 1, []),
  (.ifCond .eq 10, (3, 3), (5, 0, 0, 0), 0, []),
  (.aload_n 0, (6, 1), (0, 0, 0, 0), 0, []),
  (.getfield 15, (7, 3), (0, 0, 5, 0), 0, []),
  (.goto 4, (10, 3), (6, 0, 0, 0), 0, []),
  (.iconst 1, (13, 1), (0, 0, 0, 0), 1, []),
  (.ireturn, (14, 1), (3, 0, 0, 0), 0, [])]
def cd_192 : List xz_Op := [(.getstatic 38, (0, 3), (0, 0, 0, 0), 1, []),
  (.ifCond .eq 14, (3, 3), (7, 0, 0, 0), 0, []),
  (.aload_n 0, (6, 1), (0, 0, 0, 0), 0, []),
  (.getfield 15, (7, 3), (0, 0, 5, 0), 0, []),
  (.ifCond .ne 7, (10, 3), (7, 0, 0, 0), 0, []),
  (.iconst 1, (13, 1), (0, 0, 0, 0), 1, []),
  (.goto 4, (14, 3), (8, 0, 0, 0), 0, []),
  (.iconst 0, (17, 1), (0, 0, 0, 0), 0, []),
  (.ireturn, (18, 1), (1, 0, 0, 0), 0, [])]
def cd_193 : List xz_Op := [(.aload_n 0, (0, 1), (0, 0, 0, 0), 0, []),
  (.getfield 9, (1, 3), (0, 0, 4, 0), 0, []),
  (.arraylength, (4, 1), (0, 0, 2, 0), 0, []),
  (.aload_n 0, (5, 1), (0, 0, 0, 0), 0, []),
  (.invokevirtual 335, (6, 3), (191, 0, 0, 20), 0, []),
  (.ishr, (9, 1), (0, 0, 0, 0), 0, []),
  (.ireturn, (10, 1), (0, 0, 0, 0), 0, [])]
def cd_194 : List xz_Op := [(.iload_n 1, (0, 1), (0, 0, 0, 0), 0, []),
  (.aload_n 0, (1, 1), (0, 0, 0, 0), 0, []),
  (.arraylength, (2, 1), (0, 0, 2, 0), 0, []),
  (.invokestatic 9, (3, 3), (190, 2, 3, 20), 0, []),
  (.aload_n 0, (6, 1), (0, 0, 0, 0), 0, []),
  (.iload_n 1, (7, 1), (0, 0, 0, 0), 0, []),
  (.baload, (8, 1), (0, 0, 1, 0), 0, []),
  (.sipush 255, (9, 3), (0, 0, 0, 0), 255, []),
  (.iand, (12, 1), (0, 0, 0, 0), 0, []),
  (.i2c, (13, 1), (0, 0, 0, 0), 0, []),
  (.ireturn, (14, 1), (2, 0, 0, 0), 0, [])]
def cd_195 : List xz_Op := [(.iload_n 0, (0, 1), (0, 0, 0, 0), 0, []),
  (.ifCond .lt 8, (1, 3), (5, 0, 0, 0), 0, []),
  (.iload_n 0, (4, 1), (0, 0, 0, 0), 0, []),
  (.iload_n 1, (5, 1), (0, 0, 0, 0), 0, []),
  (.if_icmp .lt 10, (6, 3), (10, 0, 0, 0), 0, []),
  (.aload_n 2, (9, 1), (0, 0, 0, 0), 0, []),
  (.iload_n 0, (10, 1), (0, 0, 0, 0), 0, []),
  (.iload_n 1, (11, 1), (0, 0, 0, 0), 0, []),
  (.invokestatic 95, (12, 3), (0, 0, 99, 0), 0, []),
  (.athrow, (15, 1), (0, 0, 0, 0), 0, []),
  (.iload_n 0, (16, 1), (0, 0, 0, 0), 0, []),
  (.ireturn, (17, 1), (0, 0, 0, 0), 0, [])]
def cd_196 : List xz_Op := [(.iload_n 0, (0, 1), (0, 0, 0, 0), 0, []),
  (.iload_n 0, (1, 1), (0, 0, 0, 0), 0, []),
  (.iconst 1, (2, 1), (0, 0, 0, 0), 1, []),
  (.iushr, (3, 1), (0, 0, 0, 0), 0, []),
  (.ldc_w 265, (4, 3), (0, 0, 0, 0), 1431655765, []),
  (.iand, (7, 1), (0, 0, 0, 0), 0, []),
  (.isub, (8, 1), (0, 0, 0, 0), 0, []),
  (.istore_n 0, (9, 1), (0, 0, 0, 0), 0, []),
  (.iload_n 0, (10, 1), (0, 0, 0, 0), 0, []),
  (.ldc_w 266, (11, 3), (0, 0, 0, 0), 858993459, []),
  (.iand, (14, 1), (0, 0, 0, 0), 0, []),
  (.iload_n 0, (15, 1), (0, 0, 0, 0), 0, []),
  (.iconst 2, (16, 1), (0, 0, 0, 0), 2, []),
  (.iushr, (17, 1), (0, 0, 0, 0), 0, []),
  (.ldc_w 266, (18, 3), (0, 0, 0, 0), 858993459, []),
  (.iand, (21, 1), (0, 0, 0, 0), 0, []),
  (.iadd, (22, 1), (0, 0, 0, 0), 0, []),
  (.istore_n 0, (23, 1), (0, 0, 0, 0), 0, []),
  (.iload_n 0, (24, 1), (0, 0, 0, 0), 0, []),
  (.iload_n 0, (25, 1), (0, 0, 0, 0), 0, []),
  (.iconst 4, (26, 1), (0, 0, 0, 0), 4, []),
  (.iushr, (27, 1), (0, 0, 0, 0), 0, []),
  (.iadd, (28, 1), (0, 0, 0, 0), 0, []),
  (.ldc_w 267, (29, 3), (0, 0, 0, 0), 252645135, []),
  (.iand, (32, 1), (0, 0, 0, 0), 0, []),
  (.istore_n 0, (33, 1), (0, 0, 0, 0), 0, []),
  (.iload_n 0, (34, 1), (0, 0, 0, 0), 0, []),
  (.iload_n 0, (35, 1), (0, 0, 0, 0), 0, []),
  (.bipush 8, (36, 2), (0, 0, 0, 0), 8, []),
  (.iushr, (38, 1), (0, 0, 0, 0), 0, []),
  (.iadd, (39, 1), (0, 0, 0, 0), 0, []),
  (.istore_n 0, (40, 1), (0, 0, 0, 0), 0, []),
  (.iload_n 0, (41, 1), (0, 0, 0, 0), 0, []),
  (.iload_n 0, (42, 1), (0, 0, 0, 0), 0, []),
  (.bipush 16, (43, 2), (0, 0, 0, 0), 16, []),
  (.iushr, (45, 1), (0, 0, 0, 0), 0, []),
  (.iadd, (46, 1), (0, 0, 0, 0), 0, []),
  (.istore_n 0, (47, 1), (0, 0, 0, 0), 0, []),
  (.iload_n 0, (48, 1), (0, 0, 0, 0), 0, []),
  (.bipush 63, (49, 2), (0, 0, 0, 0), 63, []),
  (.iand, (51, 1), (0, 0, 0, 0), 0, []),
  (.ireturn, (52, 1), (0, 0, 0, 0), 0, [])]
def cd_197 : List xz_Op := [(.iconst 0, (0, 1), (0, 0, 0, 0), 0, []),
  (.istore_n 2, (1, 1), (0, 0, 0, 0), 0, []),
  (.aload_n 0, (2, 1), (0, 0, 0, 0), 0, []),
  (.arraylength, (3, 1), (0, 0, 0, 0), 0, []),
  (.istore_n 3, (4, 1), (0, 0, 0, 0), 0, []),
  (.nop, (5, 0), (6, 0, 0, 0), 0, [0, 1, 2, 3]),
  (.iload_n 2, (5, 1), (0, 0, 0, 0), 0, []),
  (.iload_n 3, (6, 1), (0, 0, 0, 0), 0, []),
  (.if_icmp .ge 13, (7, 3), (15, 0, 0, 0), 0, []),
  (.aload_n 0, (10, 1), (0, 0, 0, 0), 0, []),
  (.iload_n 2, (11, 1), (0, 0, 0, 0), 0, []),
  (.iload_n 1, (12, 1), (0, 0, 0, 0), 0, []),
  (.iastore, (13, 1), (0, 0, 0, 0), 0, []),
  (.iinc 2 1, (14, 3), (0, 0, 0, 0), 1, []),
  (.goto (-12), (17, 3), (5, 0, 0, 0), 0, []),
  (.return_, (20, 1), (0, 0, 0, 0), 0, [])]
def cd_198 : List xz_Op := [(.iconst 0, (0, 1), (0, 0, 0, 0), 0, []),
  (.istore_n 3, (1, 1), (0, 0, 0, 0), 0, []),
  (.aload_n 0, (2, 1), (0, 0, 0, 0), 0, []),
  (.arraylength, (3, 1), (0, 0, 0, 0), 0, []),
  (.istore 4, (4, 2), (0, 0, 0, 0), 0, []),
  (.nop, (6, 0), (6, 0, 0, 0), 0, [0, 1, 3, 4]),
  (.iload_n 3, (6, 1), (0, 0, 0, 0), 0, []),
  (.iload 4, (7, 2), (0, 0, 0, 0), 0, []),
  (.if_icmp .ge 13, (9, 3), (15, 0, 0, 0), 0, []),
  (.aload_n 0, (12, 1), (0, 0, 0, 0), 0, []),
  (.iload_n 3, (13, 1), (0, 0, 0, 0), 0, []),
  (.lload_n 1, (14, 1), (0, 0, 0, 0), 0, []),
  (.lastore, (15, 1), (0, 0, 0, 0), 0, []),
  (.iinc 3 1, (16, 3), (0, 0, 0, 0), 1, []),
  (.goto (-13), (19, 3), (5, 0, 0, 0), 0, []),
  (.return_, (22, 1), (0, 0, 0, 0), 0, [])]
def cd_199 : List xz_Op := [(.lload_n 0, (0, 1), (0, 0, 0, 0), 0, []),
  (.lload_n 2, (1, 1), (0, 0, 0, 0), 0, []),
  (.lcmp, (2, 1), (0, 0, 0, 0), 0, []),
  (.ifCond .lt 7, (3, 3), (6, 0, 0, 0), 0, []),
  (.lload_n 0, (6, 1), (0, 0, 0, 0), 0, []),
  (.goto 4, (7, 3), (7, 0, 0, 0), 0, []),
  (.lload_n 2, (10, 1), (0, 0, 0, 0), 0, []),
  (.lreturn, (11, 1), (0, 0, 0, 0), 0, [])]
def xz_codes : List (List xz_Op) := [cd_0, cd_1, cd_2, cd_3, cd_4, cd_5, cd_6, cd_7, cd_8, cd_9, cd_10, cd_11, cd_12, cd_13, cd_14, cd_15, cd_16, cd_17, cd_18, cd_19, cd_20, cd_21, cd_22, cd_23, cd_24, cd_25, cd_26, cd_27, cd_28, cd_29, cd_30, cd_31, cd_32, cd_33, cd_34, cd_35, cd_36, cd_37, cd_38, cd_39, cd_40, cd_41, cd_42, cd_43, cd_44, cd_45, cd_46, cd_47, cd_48, cd_49, cd_50, cd_51, cd_52, cd_53, cd_54, cd_55, cd_56, cd_57, cd_58, cd_59, cd_60, cd_61, cd_62, cd_63, cd_64, cd_65, cd_66, cd_67, cd_68, cd_69, cd_70, cd_71, cd_72, cd_73, cd_74, cd_75, cd_76, cd_77, cd_78, cd_79, cd_80, cd_81, cd_82, cd_83, cd_84, cd_85, cd_86, cd_87, cd_88, cd_89, cd_90, cd_91, cd_92, cd_93, cd_94, cd_95, cd_96, cd_97, cd_98, cd_99, cd_100, cd_101, cd_102, cd_103, cd_104, cd_105, cd_106, cd_107, cd_108, cd_109, cd_110, cd_111, cd_112, cd_113, cd_114, cd_115, cd_116, cd_117, cd_118, cd_119, cd_120, cd_121, cd_122, cd_123, cd_124, cd_125, cd_126, cd_127, cd_128, cd_129, cd_130, cd_131, cd_132, cd_133, cd_134, cd_135, cd_136, cd_137, cd_138, cd_139, cd_140, cd_141, cd_142, cd_143, cd_144, cd_145, cd_146, cd_147, cd_148, cd_149, cd_150, cd_151, cd_152, cd_153, cd_154, cd_155, cd_156, cd_157, cd_158, cd_159, cd_160, cd_161, cd_162, cd_163, cd_164, cd_165, cd_166, cd_167, cd_168, cd_169, cd_170, cd_171, cd_172, cd_173, cd_174, cd_175, cd_176, cd_177, cd_178, cd_179, cd_180, cd_181, cd_182, cd_183, cd_184, cd_185, cd_186, cd_187, cd_188, cd_189, cd_190, cd_191, cd_192, cd_193, cd_194, cd_195, cd_196, cd_197, cd_198, cd_199]
def xz_code (y : Nat) : List xz_Op := xz_codes.getD y []
noncomputable def zC (d y : Nat) (as : List Value) (M : xz_M) : xz_Res := xz_cal xz_ml (xz_Run xz_code xz_lc xz_ml) d y as M
noncomputable def zL (d y k : Nat) (L : xz_L) (M : xz_M) : xz_Res := xz_Run xz_code xz_lc xz_ml d y none k L [] M
end
section
/-! WHAT EACH RESOLVED INSTRUCTION RESTS ON, as a program; it says yes to all of them -/
def xz_pcA (C : List xz_Op) (k q : Nat) : Bool := match C[k]? with
  | some op => op.2.1.1 == q
  | none => false
def xz_pcJ (C : List xz_Op) (a pc : Nat) (off : Int) : Bool := match C[a]? with
  | some op => decide ((pc : Int) + off = (op.2.1.1 : Int))
  | none => false
def xz_pcs (C : List xz_Op) (pc : Nat) : List Nat → List Int → Bool
  | [], [] => true
  | t :: ts, o :: os => xz_pcJ C t pc o && xz_pcs C pc ts os
  | _, _ => false
def xz_FWl : List (Nat × Nat × Nat × Nat) := xz_FWp.map (·.1)
def xz_MWl : List (Nat × Nat × Nat) := xz_MWp.map (·.1)
def xz_MXl : List (Nat × Nat × Nat) := xz_MXp.map (·.1)
def xz_IWl : List (Nat × Nat × Int32) := xz_IWp.map (·.1)
def xz_JWl : List (Nat × Nat × Nat) := xz_JWp.map (·.1)
def xz_SWl : List (Nat × Nat × Nat) := xz_SWp.map (·.1)
def xz_CWl : List (Nat × Nat × Nat) := xz_CWp.map (·.1)
def xz_AWl : List (Nat × Nat × Nat) := xz_AWp.map (·.1)
/-- the return's kind: 0 int, 4 boolean, 1 long, 2 a reference, 3 none -/
def xz_rk (t : Option FieldType) : Nat := match t with
  | none => 3
  | some .int => 0
  | some .boolean => 4
  | some .char => 5
  | some .byte => 6
  | some .long => 1
  | some (.object _) => 2
  | some (.array _) => 2
  | _ => 9
noncomputable def xz_oks (y : Nat) (C : List xz_Op) (k : Nat) (op : xz_Op) : Bool := match op with
  | (ins, (pc, len), (a, b, c, e), v, ts) => match ins with
    | .nop => a == k + 1 && xz_pcA C (k + 1) pc
    | .iconst n => len == 1 && xz_pcA C (k + 1) (pc + 1) && decide (Int32.ofInt n = v)
    | .bipush n => len == 2 && xz_pcA C (k + 1) (pc + 2) && decide ((Int8.ofInt n).toInt32 = v)
    | .sipush n => len == 3 && xz_pcA C (k + 1) (pc + 3) && decide ((Int16.ofInt n).toInt32 = v)
    | .ldc i => len == 2 && xz_pcA C (k + 1) (pc + 2) && (bif b == 1 then xz_SWl.contains (xz_mo y, i, a) else xz_IWl.contains (xz_mo y, i, v))
    | .ldc_w i => len == 3 && xz_pcA C (k + 1) (pc + 3) && xz_IWl.contains (xz_mo y, i, v)
    | .lconst n => len == 1 && xz_pcA C (k + 1) (pc + 1) && decide (Int64.ofNat n.val = xz_lc a)
    | .ldc2_w i => len == 3 && xz_pcA C (k + 1) (pc + 3) && xz_JWl.contains (xz_mo y, i, a)
    | .iload_n _ => len == 1 && xz_pcA C (k + 1) (pc + 1)
    | .lload_n _ => len == 1 && xz_pcA C (k + 1) (pc + 1)
    | .aload_n _ => len == 1 && xz_pcA C (k + 1) (pc + 1)
    | .iload _ => len == 2 && xz_pcA C (k + 1) (pc + 2)
    | .lload _ => len == 2 && xz_pcA C (k + 1) (pc + 2)
    | .aload _ => len == 2 && xz_pcA C (k + 1) (pc + 2)
    | .istore_n i => len == 1 && xz_pcA C (k + 1) (pc + 1) && Nat.blt i.val (xz_ml y)
    | .astore_n i => len == 1 && xz_pcA C (k + 1) (pc + 1) && Nat.blt i.val (xz_ml y)
    | .lstore_n i => len == 1 && xz_pcA C (k + 1) (pc + 1) && Nat.blt (i.val + 1) (xz_ml y)
    | .istore i => len == 2 && xz_pcA C (k + 1) (pc + 2) && Nat.blt i (xz_ml y)
    | .astore i => len == 2 && xz_pcA C (k + 1) (pc + 2) && Nat.blt i (xz_ml y)
    | .lstore i => len == 2 && xz_pcA C (k + 1) (pc + 2) && Nat.blt (i + 1) (xz_ml y)
    | .iinc i n => len == 3 && xz_pcA C (k + 1) (pc + 3) && Nat.blt i (xz_ml y) && decide (Int32.ofInt n = v)
    | .ifCond _ off => len == 3 && xz_pcA C (k + 1) (pc + 3) && xz_pcJ C a pc off
    | .if_icmp _ off => len == 3 && xz_pcA C (k + 1) (pc + 3) && xz_pcJ C a pc off
    | .goto off => len == 3 && xz_pcJ C a pc off
    | .tableswitch d lo hi offs => xz_pcJ C a pc d && xz_pcs C pc ts offs.toList && decide (Int32.ofInt lo = v) && decide (hi = lo + (ts.length : Int) - 1) && decide (0 ≤ lo) && decide (hi < 1000)
    | .ireturn => len == 1 && ((xz_rk (xz_mr y) == 0 && a == 0) || (xz_rk (xz_mr y) == 4 && a == 1) || (xz_rk (xz_mr y) == 5 && a == 2) || (xz_rk (xz_mr y) == 6 && a == 3))
    | .lreturn => len == 1 && xz_rk (xz_mr y) == 1
    | .areturn => len == 1 && xz_rk (xz_mr y) == 2
    | .return_ => len == 1 && xz_rk (xz_mr y) == 3
    | .getfield i => len == 3 && xz_pcA C (k + 1) (pc + 3) && (match c with
      | 4 => xz_mo y == 13 && i == 9
      | 5 => xz_mo y == 13 && i == 15
      | _ => Nat.blt a 9 && Nat.blt b (xz_NC a) && xz_FWl.contains (xz_mo y, i, a, b) && (match c with
        | 0 => xz_kty (xz_ty a b) == 0 || xz_kty (xz_ty a b) == 3
        | 1 => xz_kty (xz_ty a b) == 1
        | _ => xz_kty (xz_ty a b) == 2))
    | .putfield i => len == 3 && xz_pcA C (k + 1) (pc + 3) && Nat.blt a 9 && Nat.blt b (xz_NC a) && xz_FWl.contains (xz_mo y, i, a, b) && ((match c with
        | 0 => xz_kty (xz_ty a b) == 0
        | 1 => xz_kty (xz_ty a b) == 1
        | 2 => xz_kty (xz_ty a b) == 2
        | _ => xz_kty (xz_ty a b) == 3) && (bif (xz_T a b).2.2.2 then decide ((xz_mn y).name = "<init>") && decide ((xz_T a b).1 = xz_RN (xz_mo y)) else true))
    | .getstatic i => len == 3 && xz_pcA C (k + 1) (pc + 3) && xz_mo y == 13 && (bif c == 0 then i == 38 && decide (v = 1) else i == 1053)
    | .arraylength => len == 1 && xz_pcA C (k + 1) (pc + 1) && (c != 1 || y == 0)
    | .iaload => len == 1 && xz_pcA C (k + 1) (pc + 1) && (c != 1 || y == 0)
    | .newarray t => len == 2 && xz_pcA C (k + 1) (pc + 2) && Nat.blt (xz_aty t) 3
    | .multianewarray i dm => len == 4 && dm == 2 && xz_pcA C (k + 1) (pc + 4) && (a == 3 || a == 4) && xz_AWl.contains (xz_mo y, i, a)
    | .new i => len == 3 && xz_pcA C (k + 1) (pc + 3) && Nat.blt a 9 && b == xz_NC a && xz_CWl.contains (xz_mo y, i, a)
    | .invokestatic i => len == 3 && (c == 99 || (xz_pcA C (k + 1) (pc + 3) && (match c with
      | 14 => a == q_JD_max && (xz_stwp.map (·.1)).contains a && (xz_nwp.map (·.1)).contains a && xz_MWl.contains (xz_mo y, i, a)
      | 10 => (xz_mo y == 6 && i == 98) || (xz_mo y == 7 && i == 299) || (xz_mo y == 8 && i == 263)
      | _ => Nat.blt 0 a && (Nat.blt a 200 && a != q_JD_max) && (xz_stwp.map (·.1)).contains a && ((xz_nwp.map (·.1)).contains a && (xz_MWl.contains (xz_mo y, i, a) || xz_MXl.contains (xz_mo y, i, a))) && decide ((parseMethodDescriptor (xz_mn a).desc).map (fun d => d.parameters.length) = some b) && Nat.ble (xz_ml a) 40)))
    | .invokevirtual i => len == 3 && xz_pcA C (k + 1) (pc + 3) && Nat.blt 0 a && (Nat.blt a 200 && a != q_JD_max) && (xz_iwp.map (·.1)).contains a && (xz_swp.map (·.1)).contains a && (xz_nwp.map (·.1)).contains a && xz_MWl.contains (xz_mo y, i, a) && decide ((parseMethodDescriptor (xz_mn a).desc).map (fun d => d.parameters.length) = some b) && Nat.ble (xz_ml a) 40 && (bif e == 20 then decide ((xz_mn a).cls = "java/lang/String") else Nat.blt e 9 && decide ((xz_mn a).cls = xz_RN e))
    | .invokespecial i => len == 3 && xz_pcA C (k + 1) (pc + 3) && (match c with
      | 13 => Nat.blt (xz_mo y) 9 && i == (bif xz_mo y == 4 then 1 else 3)
      | _ => Nat.blt 0 a && (Nat.blt a 200 && a != q_JD_max) && (xz_iwp.map (·.1)).contains a && (xz_nwp.map (·.1)).contains a && xz_MWl.contains (xz_mo y, i, a) && decide ((parseMethodDescriptor (xz_mn a).desc).map (fun d => d.parameters.length) = some b) && Nat.ble (xz_ml a) 40 && decide ((xz_mn a).name = "<init>") && xz_rk (xz_mr a) == 3 && Nat.blt e 9)
    | _ => len == 1 && xz_pcA C (k + 1) (pc + 1)
noncomputable def xz_okd (y : Nat) (op : xz_Op) : Bool := decide (op.1 = .nop) || decide (decode (xz_mb y) op.2.1.1 = .ok (op.1, op.2.1.2))
noncomputable def xz_okm (y : Nat) : Bool := ((xz_code y).zipIdx).all fun q => xz_okd y q.1 && xz_oks y (xz_code y) q.2 q.1
/-- one method in pieces -/
noncomputable def xz_okr (y lo n : Nat) : Bool := ((((xz_code y).zipIdx).drop lo).take n).all fun q => xz_okd y q.1 && xz_oks y (xz_code y) q.2 q.1
theorem xz_okr_split {α : Type} (f : α → Bool) (l : List α) (n : Nat) (h : (l.take n).all f = true) (h2 : (l.drop n).all f = true) : l.all f = true := by
  rw [← List.take_append_drop n l, List.all_append, h, h2]
  rfl
end
section
/-! CELLS ARE ONLY ADDED: a run's heap is no shorter than its start's -/
def xz_slt (M : xz_M) : Nat := (M.1.map fun q => q.2.1).sum
def xz_le (M M' : xz_M) : Prop := M.1.length ≤ M'.1.length ∧ xz_slt M ≤ xz_slt M'
theorem xz_le.rf (M : xz_M) : xz_le M M := ⟨Nat.le_refl _, Nat.le_refl _⟩
theorem xz_le.tr {M M' M'' : xz_M} (h : xz_le M M') (h' : xz_le M' M'') : xz_le M M'' := ⟨Nat.le_trans h.1 h'.1, Nat.le_trans h.2 h'.2⟩
theorem xz_le_new (M : xz_M) (s : xz_Sh) : xz_le M (xz_new M s) := by
  refine ⟨?_, ?_⟩
  · show M.1.length ≤ (M.1 ++ [s]).length
    simp
  · show (M.1.map fun q => q.2.1).sum ≤ ((M.1 ++ [s]).map fun q => q.2.1).sum
    simp
theorem xz_le_news (M : xz_M) (s : xz_Sh) : ∀ n, xz_le M (xz_news M s n)
  | 0 => xz_le.rf M
  | n + 1 => (xz_le_news M s n).tr (xz_le_new _ s)
theorem xz_le_same {M M' : xz_M} (h : M'.1 = M.1) : xz_le M M' := by
  unfold xz_le xz_slt
  rw [h]
  exact ⟨Nat.le_refl _, Nat.le_refl _⟩
theorem xz_wI_s {M M' : xz_M} {r a b : Nat} {v : Int32} (h : xz_wI M r a b v = some M') : ∃ q, M.1[r]? = some q ∧ q.1 = a + 5 ∧ M' = (M.1, xz_up M.2.1 r b v, M.2.2) := by
  unfold xz_wI at h
  split at h
  · rename_i q hq
    cases hc : (q.1 == a + 5) with
    | true => rw [hc] at h; cases h; exact ⟨q, hq, by simpa using hc, rfl⟩
    | false => rw [hc] at h; cases h
  · cases h
theorem xz_wZ_s {M M' : xz_M} {r a b : Nat} {v : Int32} (h : xz_wZ M r a b v = some M') : ∃ q, M.1[r]? = some q ∧ q.1 = a + 5 ∧ v &&& 1 = v ∧ M' = (M.1, xz_up M.2.1 r b v, M.2.2) := by
  unfold xz_wZ at h
  split at h
  · rename_i q hq
    cases hc : (q.1 == a + 5 && v &&& 1 == v) with
    | true =>
      rw [hc] at h; cases h
      simp only [Bool.and_eq_true, beq_iff_eq] at hc
      exact ⟨q, hq, hc.1, hc.2, rfl⟩
    | false => rw [hc] at h; cases h
  · cases h
theorem xz_wJ_s {M M' : xz_M} {r a b : Nat} {v : Int64} (h : xz_wJ M r a b v = some M') : ∃ q, M.1[r]? = some q ∧ q.1 = a + 5 ∧ M' = (M.1, M.2.1, xz_up M.2.2 r b v) := by
  unfold xz_wJ at h
  split at h
  · rename_i q hq
    cases hc : (q.1 == a + 5) with
    | true => rw [hc] at h; cases h; exact ⟨q, hq, by simpa using hc, rfl⟩
    | false => rw [hc] at h; cases h
  · cases h
theorem xz_wR_s {M M' : xz_M} {r a b v : Nat} (h : xz_wR M r a b v = some M') : ∃ q, M.1[r]? = some q ∧ q.1 = a + 5 ∧ v < M.1.length ∧ M' = (M.1.set r (q.1, q.2.1, q.2.2.set b (some v)), M.2) := by
  unfold xz_wR at h
  split at h
  · rename_i q hq
    cases hc : (q.1 == a + 5 && Nat.blt v M.1.length) with
    | true => rw [hc] at h; cases h; simp only [Bool.and_eq_true, beq_iff_eq, Nat.blt_eq] at hc; exact ⟨q, hq, hc.1, hc.2, rfl⟩
    | false => rw [hc] at h; cases h
  · cases h
theorem xz_sI0_s {M M' : xz_M} {r : Nat} {i v : Int32} (h : xz_sI0 M r i v = some M') : ∃ q, M.1[r]? = some q ∧ q.1 = 0 ∧ xz_in i q.2.1 = true ∧ M' = (M.1, xz_up M.2.1 r i.toNatClampNeg v, M.2.2) := by
  unfold xz_sI0 at h
  split at h
  · rename_i q hq
    cases hc : (q.1 == 0 && xz_in i q.2.1) with
    | true => rw [hc] at h; cases h; simp only [Bool.and_eq_true, beq_iff_eq] at hc; exact ⟨q, hq, hc.1, hc.2, rfl⟩
    | false => rw [hc] at h; cases h
  · cases h
theorem xz_sZ0_s {M M' : xz_M} {r : Nat} {i v : Int32} (h : xz_sZ0 M r i v = some M') : ∃ q, M.1[r]? = some q ∧ q.1 = 1 ∧ xz_in i q.2.1 = true ∧ M' = (M.1, xz_up M.2.1 r i.toNatClampNeg (v &&& 1), M.2.2) := by
  unfold xz_sZ0 at h
  split at h
  · rename_i q hq
    cases hc : (q.1 == 1 && xz_in i q.2.1) with
    | true => rw [hc] at h; cases h; simp only [Bool.and_eq_true, beq_iff_eq] at hc; exact ⟨q, hq, hc.1, hc.2, rfl⟩
    | false => rw [hc] at h; cases h
  · cases h
theorem xz_sJ0_s {M M' : xz_M} {r : Nat} {i : Int32} {v : Int64} (h : xz_sJ0 M r i v = some M') : ∃ q, M.1[r]? = some q ∧ q.1 = 2 ∧ xz_in i q.2.1 = true ∧ M' = (M.1, M.2.1, xz_up M.2.2 r i.toNatClampNeg v) := by
  unfold xz_sJ0 at h
  split at h
  · rename_i q hq
    cases hc : (q.1 == 2 && xz_in i q.2.1) with
    | true => rw [hc] at h; cases h; simp only [Bool.and_eq_true, beq_iff_eq] at hc; exact ⟨q, hq, hc.1, hc.2, rfl⟩
    | false => rw [hc] at h; cases h
  · cases h
theorem xz_newA_s {M M' : xz_M} {kd : Nat} {n : Int32} (h : xz_newA M kd n = some M') : ¬ n < 0 ∧ n.toNatClampNeg ≤ 1000 ∧ M' = xz_new M (kd, n.toNatClampNeg, []) := by
  unfold xz_newA at h
  cases hc : (decide (¬ n < 0) && Nat.ble n.toNatClampNeg 1000) with
  | true => rw [hc] at h; cases h; simp only [Bool.and_eq_true, decide_eq_true_eq, Nat.ble_eq] at hc; exact ⟨hc.1, hc.2, rfl⟩
  | false => rw [hc] at h; cases h
theorem xz_newM_s {M M' : xz_M} {kd : Nat} {n k : Int32} (h : xz_newM M kd n k = some M') : ¬ n < 0 ∧ n.toNatClampNeg ≤ 100 ∧ ¬ k < 0 ∧ k.toNatClampNeg ≤ 100 ∧
    M' = xz_news (xz_new M (kd, n.toNatClampNeg, (List.range n.toNatClampNeg).map fun i => some (M.1.length + 1 + i))) (bif kd == 3 then 0 else 2, k.toNatClampNeg, []) n.toNatClampNeg := by
  unfold xz_newM at h
  cases hc : (decide (¬ n < 0) && Nat.ble n.toNatClampNeg 100 && decide (¬ k < 0) && Nat.ble k.toNatClampNeg 100) with
  | true => rw [hc] at h; cases h; simp only [Bool.and_eq_true, decide_eq_true_eq, Nat.ble_eq] at hc; exact ⟨hc.1.1.1, hc.1.1.2, hc.1.2, hc.2, rfl⟩
  | false => rw [hc] at h; cases h
theorem xz_copy_s {M M' : xz_M} {r r' : Nat} {sp dp n : Int32} (h : xz_copy M r sp r' dp n = some M') : ∃ q q', M.1[r]? = some q ∧ M.1[r']? = some q' ∧ ¬ sp < 0 ∧ ¬ dp < 0 ∧ ¬ n < 0 ∧ sp.toNatClampNeg + n.toNatClampNeg ≤ q.2.1 ∧ dp.toNatClampNeg + n.toNatClampNeg ≤ q'.2.1 ∧ q.1 = q'.1 ∧ q.1 ≤ 2 ∧
    ((q.1 = 2 ∧ M' = (M.1, M.2.1, xz_row M.2.2 r' (va_cpy (M.2.2 r) (M.2.2 r') sp.toNatClampNeg dp.toNatClampNeg n.toNatClampNeg))) ∨ (q.1 ≠ 2 ∧ M' = (M.1, xz_row M.2.1 r' (va_cpy (M.2.1 r) (M.2.1 r') sp.toNatClampNeg dp.toNatClampNeg n.toNatClampNeg), M.2.2))) := by
  unfold xz_copy at h
  split at h
  · rename_i q q' hq hq'
    cases hc : (decide (¬ sp < 0) && decide (¬ dp < 0) && decide (¬ n < 0) && Nat.ble (sp.toNatClampNeg + n.toNatClampNeg) q.2.1 && Nat.ble (dp.toNatClampNeg + n.toNatClampNeg) q'.2.1 && q.1 == q'.1 && Nat.ble q.1 2) with
    | true =>
      rw [hc] at h
      simp only [Bool.and_eq_true, decide_eq_true_eq, Nat.ble_eq, beq_iff_eq] at hc
      obtain ⟨⟨⟨⟨⟨⟨h1, h2⟩, h3⟩, h4⟩, h5⟩, h6⟩, h7⟩ := hc
      refine ⟨q, q', hq, hq', h1, h2, h3, h4, h5, h6, h7, ?_⟩
      cases h2 : (q.1 == 2) with
      | true => rw [h2] at h; cases h; exact Or.inl ⟨by simpa using h2, rfl⟩
      | false => rw [h2] at h; cases h; exact Or.inr ⟨by simpa using h2, rfl⟩
    | false => rw [hc] at h; cases h
  · cases h
def xz_Mo (M : xz_M) (o : xz_Res) : Prop := ∀ r, o = some r → xz_le M r.2
theorem xz_Mo_none (M : xz_M) : xz_Mo M none := fun _ h => by cases h
theorem xz_Mo_k (M : xz_M) (v : Option Value) : xz_Mo M (some (v, M)) := fun _ h => by cases h; exact xz_le.rf M
theorem xz_Mo_pI {M : xz_M} {S : List Value} {G : Int32 → List Value → xz_Res} (h : ∀ x S, xz_Mo M (G x S)) : xz_Mo M (xz_pI S G) := by
  unfold xz_pI; split
  · exact h _ _
  · exact xz_Mo_none _
theorem xz_Mo_pJ {M : xz_M} {S : List Value} {G : Int64 → List Value → xz_Res} (h : ∀ x S, xz_Mo M (G x S)) : xz_Mo M (xz_pJ S G) := by
  unfold xz_pJ; split
  · exact h _ _
  · exact xz_Mo_none _
theorem xz_Mo_pR {M : xz_M} {S : List Value} {G : Nat → List Value → xz_Res} (h : ∀ x S, xz_Mo M (G x S)) : xz_Mo M (xz_pR S G) := by
  unfold xz_pR; split
  · exact h _ _
  · exact xz_Mo_none _
theorem xz_Mo_p1 {M : xz_M} {S : List Value} {G : Value → List Value → xz_Res} (h : ∀ x S, xz_Mo M (G x S)) : xz_Mo M (xz_p1 S G) := by
  unfold xz_p1; split
  · exact h _ _
  · exact h _ _
  · exact xz_Mo_none _
theorem xz_Mo_lI {M : xz_M} {L : xz_L} {i : Nat} {G : Int32 → xz_Res} (h : ∀ x, xz_Mo M (G x)) : xz_Mo M (xz_lI L i G) := by
  unfold xz_lI; split
  · exact h _
  · exact xz_Mo_none _
theorem xz_Mo_lJ {M : xz_M} {L : xz_L} {i : Nat} {G : Int64 → xz_Res} (h : ∀ x, xz_Mo M (G x)) : xz_Mo M (xz_lJ L i G) := by
  unfold xz_lJ; split
  · exact h _
  · exact xz_Mo_none _
theorem xz_Mo_lR {M : xz_M} {L : xz_L} {i : Nat} {G : Nat → xz_Res} (h : ∀ x, xz_Mo M (G x)) : xz_Mo M (xz_lR L i G) := by
  unfold xz_lR; split
  · exact h _
  · exact xz_Mo_none _
theorem xz_Mo_o {α : Type} {M : xz_M} {o : Option α} {G : α → xz_Res} (h : ∀ x, xz_Mo M (G x)) : xz_Mo M (xz_o o G) := by
  unfold xz_o; split
  · exact h _
  · exact xz_Mo_none _
theorem xz_Mo_w {M : xz_M} {o : Option xz_M} {G : xz_M → xz_Res} (hw : ∀ x, o = some x → xz_le M x) (h : ∀ x, xz_Mo x (G x)) : xz_Mo M (xz_o o G) := by
  unfold xz_o; split
  · rename_i x
    exact fun r hr => (hw x rfl).tr (h x r hr)
  · exact xz_Mo_none _
theorem xz_Mo_b {M : xz_M} {c : Bool} {G : xz_Res} (h : xz_Mo M G) : xz_Mo M (xz_b c G) := by
  unfold xz_b; split
  · exact h
  · exact xz_Mo_none _
theorem xz_Mo_if {M : xz_M} {c : Prop} [Decidable c] {G G' : xz_Res} (h : xz_Mo M G) (h' : xz_Mo M G') : xz_Mo M (if c then G else G') := by
  split
  · exact h
  · exact h'
theorem xz_Mo_c {M : xz_M} {c : Bool} {G G' : xz_Res} (h : xz_Mo M G) (h' : xz_Mo M G') : xz_Mo M (bif c then G else G') := by
  cases c
  · exact h'
  · exact h
theorem xz_Mo_args {M : xz_M} {b : Nat} {S : List Value} {G : List Value → List Value → xz_Res} (h : ∀ x S, xz_Mo M (G x S)) : xz_Mo M (xz_args b S G) := by
  unfold xz_args
  exact xz_Mo_c (h _ _) (xz_Mo_none _)
theorem xz_Mo_ret {M : xz_M} {c : Nat} {o : xz_Res} {g : List Value → xz_M → xz_Res} (h : xz_Mo M o) (hf : ∀ vs M, xz_Mo M (g vs M)) : xz_Mo M (xz_ret c o g) := by
  have key : ∀ (v : Option Value) (M' : xz_M) (vs : List Value), o = some (v, M') → xz_Mo M (g vs M') := fun v M' vs ho r hr => (h _ ho).tr (hf vs M' r hr)
  match c with
  | 0 => 
    show xz_Mo M (xz_bI o _)
    unfold xz_bI; split
    · exact key _ _ _ rfl
    · exact xz_Mo_none _
  | 1 => 
    show xz_Mo M (xz_bJ o _)
    unfold xz_bJ; split
    · exact key _ _ _ rfl
    · exact xz_Mo_none _
  | 2 => 
    show xz_Mo M (xz_bR o _)
    unfold xz_bR; split
    · exact key _ _ _ rfl
    · exact xz_Mo_none _
  | _ + 3 => 
    show xz_Mo M (xz_bV o _)
    unfold xz_bV; split
    · exact key _ _ _ rfl
    · exact xz_Mo_none _
theorem xz_Mo_sw {M : xz_M} {d : Nat} {G : Nat → xz_Res} (h : ∀ t, xz_Mo M (G t)) : ∀ (ts : List Nat) (x lo : Int32), xz_Mo M (xz_sw x lo d G ts)
  | [], _, _ => h d
  | t :: ts, x, lo => by
    unfold xz_sw
    exact xz_Mo_if (h t) (xz_Mo_sw h ts x (lo + 1))
theorem xz_slt_set {M : xz_M} {r : Nat} {q : xz_Sh} {rs : List (Option Nat)} (h : M.1[r]? = some q) : xz_slt (M.1.set r (q.1, q.2.1, rs), M.2) = xz_slt M := by
  obtain ⟨hl, he⟩ := List.getElem?_eq_some_iff.mp h
  show ((M.1.set r (q.1, q.2.1, rs)).map fun q => q.2.1).sum = (M.1.map fun q => q.2.1).sum
  rw [List.map_set]
  have : (M.1.map fun q => q.2.1).set r q.2.1 = M.1.map fun q => q.2.1 := by
    apply List.ext_getElem?
    intro i
    by_cases hi : i = r
    · subst hi
      rw [List.getElem?_set_self (by simpa using hl), List.getElem?_map, h]
      rfl
    · rw [List.getElem?_set_ne (Ne.symm hi)]
  rw [this]
theorem xz_le_set {M : xz_M} {r : Nat} {q : xz_Sh} {rs : List (Option Nat)} (h : M.1[r]? = some q) : xz_le M (M.1.set r (q.1, q.2.1, rs), M.2) :=
  ⟨by simp, by rw [xz_slt_set h]; exact Nat.le_refl _⟩
set_option maxHeartbeats 4000000 in
set_option maxRecDepth 100000 in
theorem xz_Mo_blk {R' : Nat → List Value → xz_M → xz_Res} {Lp' : Nat → xz_L → List Value → xz_M → xz_Res}
    (hR : ∀ y as M, xz_Mo M (R' y as M)) (hL : ∀ k L S M, xz_Mo M (Lp' k L S M)) (nat : Bool) (X : xz_X) (lc : Nat → Int64) (C : List xz_Op) :
    ∀ (s : Nat) (C' : List xz_Op) (L : xz_L) (S : List Value) (M : xz_M), xz_Mo M (xz_blk R' Lp' nat X lc C s C' L S M) := by
  intro s
  induction s with
  | zero => intro C' L S M; exact xz_Mo_none _
  | succ s ih =>
    intro C' L S M
    match C' with
    | [] => exact xz_Mo_none _
    | (ins, (_, _), (a, b, c, e), v, ts) :: C' =>
      cases ins
      case nop => exact hL _ _ _ _
      case dup => unfold xz_blk; exact xz_Mo_p1 (G := fun x S => xz_blk R' Lp' nat X lc C s C' L (x :: x :: S) M) fun _ _ => ih _ _ _ _
      case pop => unfold xz_blk; exact xz_Mo_p1 (G := fun _ S => xz_blk R' Lp' nat X lc C s C' L S M) fun _ _ => ih _ _ _ _
      case ifCond q _ => cases q <;> exact xz_Mo_pI fun _ _ => xz_Mo_if (ih _ _ _ _) (ih _ _ _ _)
      case if_icmp q _ => cases q <;> exact xz_Mo_pI fun _ _ => xz_Mo_pI fun _ _ => xz_Mo_if (ih _ _ _ _) (ih _ _ _ _)
      case getfield => 
        match c with
        | 0 => exact xz_Mo_pR fun _ _ => xz_Mo_o fun _ => ih _ _ _ _
        | 1 => exact xz_Mo_pR fun _ _ => xz_Mo_o fun _ => ih _ _ _ _
        | 2 => exact xz_Mo_pR fun _ _ => xz_Mo_o fun _ => ih _ _ _ _
        | 3 => exact xz_Mo_pR fun _ _ => xz_Mo_o fun _ => ih _ _ _ _
        | 4 => exact xz_Mo_pR fun _ _ => xz_Mo_o fun _ => ih _ _ _ _
        | 5 => exact xz_Mo_pR fun _ _ => xz_Mo_o fun _ => ih _ _ _ _
        | _ + 6 => exact xz_Mo_pR fun _ _ => xz_Mo_o fun _ => ih _ _ _ _
      case getstatic => exact xz_Mo_c (ih _ _ _ _) (ih _ _ _ _)
      case putfield => 
        match c with
        | 0 => exact xz_Mo_pI fun _ _ => xz_Mo_pR fun _ _ => xz_Mo_w (fun _ h => by obtain ⟨_, _, _, rfl⟩ := xz_wI_s h; exact xz_le_same rfl) fun _ => ih _ _ _ _
        | 1 => exact xz_Mo_pJ fun _ _ => xz_Mo_pR fun _ _ => xz_Mo_w (fun _ h => by obtain ⟨_, _, _, rfl⟩ := xz_wJ_s h; exact xz_le_same rfl) fun _ => ih _ _ _ _
        | 2 => exact xz_Mo_pR fun _ _ => xz_Mo_pR fun _ _ => xz_Mo_w (fun _ h => by obtain ⟨_, hq, _, _, rfl⟩ := xz_wR_s h; exact xz_le_set hq) fun _ => ih _ _ _ _
        | _ + 3 => exact xz_Mo_pI fun _ _ => xz_Mo_pR fun _ _ => xz_Mo_w (fun _ h => by obtain ⟨_, _, _, _, rfl⟩ := xz_wZ_s h; exact xz_le_same rfl) fun _ => ih _ _ _ _
      case tableswitch => exact xz_Mo_pI fun _ _ => xz_Mo_sw (fun t => ih _ _ _ _) _ _ _
      case ireturn =>
        refine xz_Mo_pI fun _ S => ?_
        match S with
        | [] => exact xz_Mo_b (xz_Mo_k _ _)
        | _ :: _ => exact xz_Mo_none _
      case lreturn =>
        refine xz_Mo_pJ fun _ S => ?_
        match S with
        | [] => exact xz_Mo_k _ _
        | _ :: _ => exact xz_Mo_none _
      case areturn =>
        refine xz_Mo_pR fun _ S => ?_
        match S with
        | [] => exact xz_Mo_k _ _
        | _ :: _ => exact xz_Mo_none _
      case return_ =>
        match S with
        | [] => exact xz_Mo_k _ _
        | _ :: _ => exact xz_Mo_none _
      case invokestatic =>
        unfold xz_blk
        dsimp only
        split
        · exact xz_Mo_none _
        · exact xz_Mo_pJ fun _ _ => xz_Mo_pJ fun _ _ => xz_Mo_b (ih _ _ _ _)
        · refine xz_Mo_pI fun _ _ => xz_Mo_pI fun _ _ => xz_Mo_pR fun _ _ => xz_Mo_pI fun _ _ => xz_Mo_pR fun _ _ => xz_Mo_b (xz_Mo_w (fun _ h => ?_) fun _ => ih _ _ _ _)
          obtain ⟨_, _, _, _, _, _, _, _, _, _, _, ⟨_, rfl⟩ | ⟨_, rfl⟩⟩ := xz_copy_s h
          · exact xz_le_same rfl
          · exact xz_le_same rfl
        · exact xz_Mo_args fun _ _ => xz_Mo_b (xz_Mo_ret (hR _ _ _) fun _ _ => ih _ _ _ _)
      case invokevirtual =>
        unfold xz_blk
        dsimp only
        exact xz_Mo_args fun _ _ => xz_Mo_pR fun _ _ => xz_Mo_b (xz_Mo_ret (hR _ _ _) fun _ _ => ih _ _ _ _)
      case invokespecial =>
        unfold xz_blk
        dsimp only
        split
        · exact xz_Mo_pR fun _ _ => xz_Mo_b (ih _ _ _ _)
        · exact xz_Mo_args fun _ _ => xz_Mo_pR fun _ _ => xz_Mo_b (xz_Mo_ret (hR _ _ _) fun _ _ => ih _ _ _ _)
      case iaload =>
        exact xz_Mo_pI fun _ _ => xz_Mo_pR fun _ _ => xz_Mo_c (xz_Mo_o fun _ => xz_Mo_b (ih _ _ _ _)) (xz_Mo_o fun _ => ih _ _ _ _)
      case arraylength =>
        exact xz_Mo_pR fun _ _ => xz_Mo_c (xz_Mo_o fun _ => xz_Mo_b (ih _ _ _ _)) (xz_Mo_o fun _ => ih _ _ _ _)
      case ldc => exact xz_Mo_c (ih _ _ _ _) (ih _ _ _ _)
      case ldiv => exact xz_Mo_pJ fun _ _ => xz_Mo_pJ fun _ _ => xz_Mo_if (xz_Mo_none _) (ih _ _ _ _)
      case lrem => exact xz_Mo_pJ fun _ _ => xz_Mo_pJ fun _ _ => xz_Mo_if (xz_Mo_none _) (ih _ _ _ _)
      case iastore => exact xz_Mo_pI fun _ _ => xz_Mo_pI fun _ _ => xz_Mo_pR fun _ _ => xz_Mo_w (fun _ h => by obtain ⟨_, _, _, _, rfl⟩ := xz_sI0_s h; exact xz_le_same rfl) fun _ => ih _ _ _ _
      case bastore => exact xz_Mo_pI fun _ _ => xz_Mo_pI fun _ _ => xz_Mo_pR fun _ _ => xz_Mo_w (fun _ h => by obtain ⟨_, _, _, _, rfl⟩ := xz_sZ0_s h; exact xz_le_same rfl) fun _ => ih _ _ _ _
      case lastore => exact xz_Mo_pJ fun _ _ => xz_Mo_pI fun _ _ => xz_Mo_pR fun _ _ => xz_Mo_w (fun _ h => by obtain ⟨_, _, _, _, rfl⟩ := xz_sJ0_s h; exact xz_le_same rfl) fun _ => ih _ _ _ _
      case new => exact fun r hr => (xz_le_new M _).tr (ih _ _ _ _ r hr)
      case newarray => exact xz_Mo_pI fun _ _ => xz_Mo_w (fun _ h => by obtain ⟨_, _, rfl⟩ := xz_newA_s h; exact xz_le_new _ _) fun _ => ih _ _ _ _
      case multianewarray => exact xz_Mo_pI fun _ _ => xz_Mo_pI fun _ _ => xz_Mo_w (fun _ h => by obtain ⟨_, _, _, _, rfl⟩ := xz_newM_s h; exact (xz_le_new _ _).tr (xz_le_news _ _ _)) fun _ => ih _ _ _ _
      all_goals first
        | exact xz_Mo_none _
        | exact ih _ _ _ _
        | exact xz_Mo_lI fun _ => ih _ _ _ _
        | exact xz_Mo_lJ fun _ => ih _ _ _ _
        | exact xz_Mo_lR fun _ => ih _ _ _ _
        | exact xz_Mo_pI fun _ _ => ih _ _ _ _
        | exact xz_Mo_pJ fun _ _ => ih _ _ _ _
        | exact xz_Mo_pR fun _ _ => ih _ _ _ _
        | exact xz_Mo_pI fun _ _ => xz_Mo_pI fun _ _ => ih _ _ _ _
        | exact xz_Mo_pJ fun _ _ => xz_Mo_pJ fun _ _ => ih _ _ _ _
        | exact xz_Mo_pI fun _ _ => xz_Mo_pJ fun _ _ => ih _ _ _ _
        | exact xz_Mo_pI fun _ _ => xz_Mo_pR fun _ _ => xz_Mo_o fun _ => ih _ _ _ _
theorem xz_run_mono (cd : Nat → List xz_Op) (lc : Nat → Int64) (ml : Nat → Nat) : ∀ (n d y : Nat) (X : xz_X) (k : Nat) (L : xz_L) (S : List Value) (M : xz_M), xz_Mo M (xz_run cd lc ml n d y X k L S M)
  | 0, _, _, _, _, _, _, _ => xz_Mo_none _
  | n + 1, d, y, X, k, L, S, M => xz_Mo_blk (fun y as M => by
      cases d with
      | zero => exact xz_Mo_none _
      | succ d => exact xz_Mo_b (xz_run_mono cd lc ml n d y none 0 (lv_args 0 as) [] M)) (fun k L S M => xz_run_mono cd lc ml n d y X k L S M) _ X lc _ _ _ L S M
end
section
/-! THE LITTLE MACHINE'S HEAP AS A WORLD OF CELLS: place k lies at address ad k; references from 1000 on: the script, texts, their bytes; a retAddr stands for the one static of which only 'a reference or null' is said -/
def xz_V (ad : Nat → Nat) (v : Value) : Value := match v with
  | .ref q => .ref (ad q)
  | .retAddr _ => match ad 2200 with
    | 0 => .null
    | t + 1 => .ref t
  | v => v
def xz_VL (ad : Nat → Nat) (L : xz_L) : List (Nat × Value) := L.map fun q => (q.1, xz_V ad q.2)
theorem xz_V_cat (ad : Nat → Nat) (v : Value) : (xz_V ad v).category = v.category := by
  cases v with
  | retAddr _ =>
    show (match ad 2200 with | 0 => Value.null | t + 1 => .ref t).category = 1
    split <;> rfl
  | _ => rfl
def xz_fv (ad : Nat → Nat) (I : Nat → Int32) (J : Nat → Int64) (rs : List (Option Nat)) (j k : Nat) : Value := match k with
  | 1 => .long (J j)
  | 2 => va_rf ((rs.getD j none).map ad)
  | _ => .int (I j)
def xz_fs (ad : Nat → Nat) (I : Nat → Int32) (J : Nat → Int64) (rs : List (Option Nat)) (c : Nat) : List Value := (xz_fk c).mapIdx fun j k => xz_fv ad I J rs j k
def xz_ce (ad : Nat → Nat) (cA : Nat → ClassId) (M : xz_M) (k : Nat) (q : xz_Sh) : va_E := match q.1 with
  | 0 => .inl (cA k, q.2.1, .inl (M.2.1 k))
  | 1 => .inl (cA k, q.2.1, .inl (M.2.1 k))
  | 2 => .inl (cA k, q.2.1, .inr (.inl (M.2.2 k)))
  | 3 => .inl (cA k, q.2.1, .inr (.inr (.inr (.inr fun i => (q.2.2.getD i none).map ad))))
  | 4 => .inl (cA k, q.2.1, .inr (.inr (.inr (.inr fun i => (q.2.2.getD i none).map ad))))
  | c + 5 => .inr (c, xz_fs ad (M.2.1 k) (M.2.2 k) q.2.2 c)
def xz_ws (ad : Nat → Nat) (cA : Nat → ClassId) (M : xz_M) : va_W := M.1.mapIdx fun k q => (ad k, xz_ce ad cA M k q)
theorem xz_ws_get {ad : Nat → Nat} {cA : Nat → ClassId} {M : xz_M} {k : Nat} {q : xz_Sh} (h : M.1[k]? = some q) : (xz_ws ad cA M)[k]? = some (ad k, xz_ce ad cA M k q) := by
  simp [xz_ws, List.getElem?_mapIdx, h]
theorem xz_ws_len (ad : Nat → Nat) (cA : Nat → ClassId) (M : xz_M) : (xz_ws ad cA M).length = M.1.length := by simp [xz_ws]
theorem xz_ws_upd {ad : Nat → Nat} {cA : Nat → ClassId} {M M' : xz_M} {r : Nat} {q q' : xz_Sh} (h1 : M'.1 = M.1.set r q') (hI : ∀ k, k ≠ r → M'.2.1 k = M.2.1 k) (hJ : ∀ k, k ≠ r → M'.2.2 k = M.2.2 k) (hq : M.1[r]? = some q) : xz_ws ad cA M' = (xz_ws ad cA M).set r (ad r, xz_ce ad cA M' r q') := by
  have hl : r < M.1.length := (List.getElem?_eq_some_iff.mp hq).1
  apply List.ext_getElem?
  intro i
  by_cases hi : i = r
  · subst hi
    rw [List.getElem?_set_self (by rw [xz_ws_len]; exact hl)]
    exact xz_ws_get (by rw [h1]; exact List.getElem?_set_self hl)
  · rw [List.getElem?_set_ne (Ne.symm hi)]
    simp only [xz_ws, List.getElem?_mapIdx, h1, List.getElem?_set_ne (Ne.symm hi)]
    cases hx : M.1[i]? with
    | none => rfl
    | some x =>
      simp only [Option.map_some, xz_ce, hI i hi, hJ i hi]
theorem xz_up_ne {α : Type} {f : Nat → Nat → α} {r k : Nat} {v : α} {i : Nat} (h : i ≠ r) : xz_up f r k v i = f i := by
  funext j
  have : (i == r) = false := by simpa using h
  simp [xz_up, this]
theorem xz_up_eq {α : Type} {f : Nat → Nat → α} {r k : Nat} {v : α} : xz_up f r k v r = fun j => if j = k then v else f r j := by
  funext j
  by_cases h : j = k
  · subst h; simp [xz_up]
  · have : (j == k) = false := by simpa using h
    simp [xz_up, this, h]
theorem xz_row_ne {α : Type} {f : Nat → Nat → α} {r : Nat} {g : Nat → α} {i : Nat} (h : i ≠ r) : xz_row f r g i = f i := by
  have : (i == r) = false := by simpa using h
  simp [xz_row, this]
theorem xz_row_eq {α : Type} {f : Nat → Nat → α} {r : Nat} {g : Nat → α} : xz_row f r g r = g := by simp [xz_row]
theorem xz_set_self {α : Type} {l : List α} {r : Nat} {q : α} (h : l[r]? = some q) : l.set r q = l := by
  apply List.ext_getElem?
  intro i
  by_cases hi : i = r
  · subst hi
    rw [List.getElem?_set_self (List.getElem?_eq_some_iff.mp h).1, h]
  · rw [List.getElem?_set_ne (Ne.symm hi)]
theorem xz_fs_get {ad : Nat → Nat} {I : Nat → Int32} {J : Nat → Int64} {rs : List (Option Nat)} {c b k : Nat} (h : (xz_fk c)[b]? = some k) : (xz_fs ad I J rs c)[b]? = some (xz_fv ad I J rs b k) := by
  simp [xz_fs, List.getElem?_mapIdx, h]
theorem xz_fs_len (ad : Nat → Nat) (I : Nat → Int32) (J : Nat → Int64) (rs : List (Option Nat)) (c : Nat) : (xz_fs ad I J rs c).length = (xz_fk c).length := by simp [xz_fs]
theorem xz_fs_set {ad : Nat → Nat} {I I' : Nat → Int32} {J J' : Nat → Int64} {rs rs' : List (Option Nat)} {c b k : Nat} (h : (xz_fk c)[b]? = some k) (hI : ∀ j, j ≠ b → I' j = I j) (hJ : ∀ j, j ≠ b → J' j = J j) (hr : ∀ j, j ≠ b → rs'.getD j none = rs.getD j none) : xz_fs ad I' J' rs' c = (xz_fs ad I J rs c).set b (xz_fv ad I' J' rs' b k) := by
  have hl : b < (xz_fk c).length := (List.getElem?_eq_some_iff.mp h).1
  apply List.ext_getElem?
  intro i
  by_cases hi : i = b
  · subst hi
    rw [List.getElem?_set_self (by rw [xz_fs_len]; exact hl), xz_fs_get h]
  · rw [List.getElem?_set_ne (Ne.symm hi)]
    simp only [xz_fs, List.getElem?_mapIdx]
    cases hx : (xz_fk c)[i]? with
    | none => rfl
    | some x =>
      simp only [Option.map_some, xz_fv, hI i hi, hJ i hi, hr i hi]
/-- the array's component type -/
def xz_aT (k : Nat) : FieldType := match k with
  | 0 => .int
  | 1 => .boolean
  | 2 => .long
  | 3 => .array .int
  | _ => .array .long
def xz_Wf (cA : Nat → ClassId) (tys : List (ClassId × FieldType)) (M : xz_M) : Prop :=
  (∀ (k : Nat) (q : xz_Sh), M.1[k]? = some q → q.1 < 5 → ∃ t0 : Nat, tys[t0]? = some (cA k, xz_aT q.1)) ∧ (∀ (k : Nat) (q : xz_Sh) (i : Nat), M.1[k]? = some q → q.1 = 1 → M.2.1 k i &&& 1 = M.2.1 k i) ∧ (∀ (k : Nat) (q : xz_Sh), M.1[k]? = some q → (∀ r : Nat, some r ∈ q.2.2 → r < M.1.length) ∧ ∀ a, q.1 = a + 5 → q.2.2.length = xz_NC a) ∧ M.1.length ≤ 900
/-- a value whose reference is a place, or one of the fixed ones -/
def xz_vv (n : Nat) (v : Value) : Prop := match v with
  | .ref q => q < n ∨ 1000 ≤ q
  | _ => True
theorem xz_vv_mono {n n' : Nat} (h : n ≤ n') {v : Value} (hv : xz_vv n v) : xz_vv n' v := by
  cases v with
  | ref q => exact hv.elim (fun a => Or.inl (Nat.lt_of_lt_of_le a h)) Or.inr
  | _ => trivial
theorem xz_V_congr {ad ad' : Nat → Nat} {n : Nat} (h : ∀ k, k < n ∨ 1000 ≤ k → ad' k = ad k) {v : Value} (hv : xz_vv n v) : xz_V ad' v = xz_V ad v := by
  cases v with
  | ref q => exact congrArg Value.ref (h q hv)
  | retAddr _ => show (match ad' 2200 with | 0 => Value.null | t + 1 => .ref t) = (match ad 2200 with | 0 => Value.null | t + 1 => .ref t); rw [h 2200 (Or.inr (by omega))]
  | _ => rfl
theorem xz_VS_congr {ad ad' : Nat → Nat} {n : Nat} (h : ∀ k, k < n ∨ 1000 ≤ k → ad' k = ad k) {S : List Value} (hv : ∀ v ∈ S, xz_vv n v) : S.map (xz_V ad') = S.map (xz_V ad) := List.map_congr_left fun v hm => xz_V_congr h (hv v hm)
theorem xz_VL_congr {ad ad' : Nat → Nat} {n : Nat} (h : ∀ k, k < n ∨ 1000 ≤ k → ad' k = ad k) {L : xz_L} (hv : ∀ q ∈ L, xz_vv n q.2) : xz_VL ad' L = xz_VL ad L := List.map_congr_left fun q hm => by
  show (q.1, xz_V ad' q.2) = (q.1, xz_V ad q.2)
  rw [xz_V_congr h (hv q hm)]
/-- the cells' addresses may be told anew where no cell is yet -/
theorem xz_ws_congr {ad ad' : Nat → Nat} {cA cA' : Nat → ClassId} {M : xz_M} (h : ∀ k, k < M.1.length ∨ 1000 ≤ k → ad' k = ad k) (hc : ∀ k, k < M.1.length → cA' k = cA k) (hr : ∀ (k : Nat) (q : xz_Sh), M.1[k]? = some q → ∀ r : Nat, some r ∈ q.2.2 → r < M.1.length) : xz_ws ad' cA' M = xz_ws ad cA M := by
  apply List.ext_getElem?
  intro i
  simp only [xz_ws, List.getElem?_mapIdx]
  cases hx : M.1[i]? with
  | none => rfl
  | some q =>
    have hl : i < M.1.length := (List.getElem?_eq_some_iff.mp hx).1
    have key : ∀ j, (q.2.2.getD j none).map ad' = (q.2.2.getD j none).map ad := by
      intro j
      cases hj : q.2.2.getD j none with
      | none => rfl
      | some r =>
        have hm : some r ∈ q.2.2 := by
          rw [List.getD_eq_getElem?_getD] at hj
          cases hz : q.2.2[j]? with
          | none => rw [hz] at hj; cases hj
          | some z => rw [hz] at hj; cases hj; exact List.mem_of_getElem? hz
        exact congrArg some (h r (Or.inl (hr i q hx r hm)))
    simp only [Option.map_some, xz_ce, xz_fs, xz_fv, key, h i (Or.inl hl), hc i hl]
theorem xz_get_mem : ∀ {L : xz_L} {i : Nat} {v : Value}, xz_get L i = some v → (i, v) ∈ L
  | [], _, _, h => by cases h
  | (j, w) :: L, i, v, h => by
    unfold xz_get at h
    cases hc : (j == i) with
    | true => rw [hc] at h; cases h; rw [show j = i by simpa using hc]; exact List.mem_cons_self
    | false => rw [hc] at h; exact List.mem_cons_of_mem _ (xz_get_mem h)
theorem xz_get_l {ls : Array Slot} {nL : Nat} {ad : Nat → Nat} {L : xz_L} {i : Nat} {v : Value} (h : lv_has ls nL (xz_VL ad L)) (hg : xz_get L i = some v) : ls[i]? = some (.val (xz_V ad v)) :=
  h.2.2 (i, xz_V ad v) (List.mem_map.mpr ⟨(i, v), xz_get_mem hg, rfl⟩)
theorem xz_filter_VL {ad : Nat → Nat} (f : Nat × Value → Bool) (hf : ∀ q : Nat × Value, f (q.1, xz_V ad q.2) = f q) : ∀ L : xz_L, (xz_VL ad L).filter f = xz_VL ad (L.filter f)
  | [] => rfl
  | q :: L => by
    show List.filter f ((q.1, xz_V ad q.2) :: xz_VL ad L) = xz_VL ad (List.filter f (q :: L))
    rw [List.filter_cons, List.filter_cons, hf q, xz_filter_VL f hf L]
    split <;> rfl
theorem xz_VL_s1 {ad : Nat → Nat} {L : xz_L} {i : Nat} {v w : Value} (hw : xz_V ad v = w) : (i, w) :: (xz_VL ad L).filter (fun q => !(q.1 == i) && !(q.1 + 1 == i && q.2.category == 2)) = xz_VL ad (xz_s1 L i v) := by
  rw [xz_filter_VL _ (fun q => by rw [xz_V_cat]), ← hw]
  rfl
theorem xz_VL_s2 {ad : Nat → Nat} {L : xz_L} {i : Nat} {v w : Value} (hw : xz_V ad v = w) : (i, w) :: (xz_VL ad L).filter (fun q => !(q.1 == i) && (!(q.1 == i + 1) && !(q.1 + 1 == i && q.2.category == 2))) = xz_VL ad (xz_s2 L i v) := by
  rw [xz_filter_VL _ (fun q => by rw [xz_V_cat]), ← hw]
  rfl
theorem xz_vL_s1 {n : Nat} {L : xz_L} {i : Nat} {v : Value} (h : ∀ q ∈ L, xz_vv n q.2) (hv : xz_vv n v) : ∀ q ∈ xz_s1 L i v, xz_vv n q.2 := by
  intro q hq
  rcases List.mem_cons.mp hq with rfl | hq
  · exact hv
  · exact h q (List.mem_filter.mp hq).1
theorem xz_vL_s2 {n : Nat} {L : xz_L} {i : Nat} {v : Value} (h : ∀ q ∈ L, xz_vv n q.2) (hv : xz_vv n v) : ∀ q ∈ xz_s2 L i v, xz_vv n q.2 := by
  intro q hq
  rcases List.mem_cons.mp hq with rfl | hq
  · exact hv
  · exact h q (List.mem_filter.mp hq).1
theorem xz_vL_get {n : Nat} {L : xz_L} {i : Nat} {v : Value} (h : ∀ q ∈ L, xz_vv n q.2) (hg : xz_get L i = some v) : xz_vv n v := h _ (xz_get_mem hg)
theorem xz_pick_mem {L : xz_L} {ts : List Nat} {q : Nat × Value} (h : q ∈ xz_pick L ts) : q ∈ L := by
  obtain ⟨i, -, hi⟩ := List.mem_filterMap.mp h
  cases hg : xz_get L i with
  | none => rw [hg] at hi; cases hi
  | some v => rw [hg] at hi; cases hi; exact xz_get_mem hg
theorem xz_pick_has {ls : Array Slot} {nL : Nat} {ad : Nat → Nat} {L : xz_L} (ts : List Nat) (h : lv_has ls nL (xz_VL ad L)) : lv_has ls nL (xz_VL ad (xz_pick L ts)) := by
  refine ⟨h.1, h.2.1, fun q hq => ?_⟩
  obtain ⟨z, hz, rfl⟩ := List.mem_map.mp hq
  exact h.2.2 _ (List.mem_map.mpr ⟨z, xz_pick_mem hz, rfl⟩)
theorem xz_v1 {n : Nat} {v : Value} {S : List Value} (h : ∀ w ∈ v :: S, xz_vv n w) : ∀ w ∈ S, xz_vv n w := fun w hw => h w (List.mem_cons_of_mem _ hw)
theorem xz_vc {n : Nat} {v : Value} {S : List Value} (hv : xz_vv n v) (h : ∀ w ∈ S, xz_vv n w) : ∀ w ∈ v :: S, xz_vv n w := List.forall_mem_cons.mpr ⟨hv, h⟩
/-! popping, backwards -/
theorem xz_pI_i {S : List Value} {k : Int32 → List Value → xz_Res} {r : Option Value × xz_M} (h : xz_pI S k = some r) : ∃ x S', S = .int x :: S' ∧ k x S' = some r := by
  unfold xz_pI at h; split at h
  · exact ⟨_, _, rfl, h⟩
  · cases h
theorem xz_pJ_i {S : List Value} {k : Int64 → List Value → xz_Res} {r : Option Value × xz_M} (h : xz_pJ S k = some r) : ∃ x S', S = .long x :: S' ∧ k x S' = some r := by
  unfold xz_pJ at h; split at h
  · exact ⟨_, _, rfl, h⟩
  · cases h
theorem xz_pR_i {S : List Value} {k : Nat → List Value → xz_Res} {r : Option Value × xz_M} (h : xz_pR S k = some r) : ∃ x S', S = .ref x :: S' ∧ k x S' = some r := by
  unfold xz_pR at h; split at h
  · exact ⟨_, _, rfl, h⟩
  · cases h
theorem xz_p1_i {S : List Value} {k : Value → List Value → xz_Res} {r : Option Value × xz_M} (h : xz_p1 S k = some r) : ∃ v S', S = v :: S' ∧ ((∃ x, v = .int x) ∨ ∃ x, v = .ref x) ∧ k v S' = some r := by
  unfold xz_p1 at h; split at h
  · exact ⟨_, _, rfl, Or.inl ⟨_, rfl⟩, h⟩
  · exact ⟨_, _, rfl, Or.inr ⟨_, rfl⟩, h⟩
  · cases h
theorem xz_lI_i {L : xz_L} {i : Nat} {k : Int32 → xz_Res} {r : Option Value × xz_M} (h : xz_lI L i k = some r) : ∃ x, xz_get L i = some (.int x) ∧ k x = some r := by
  unfold xz_lI at h; split at h
  · rename_i hx; exact ⟨_, hx, h⟩
  · cases h
theorem xz_lJ_i {L : xz_L} {i : Nat} {k : Int64 → xz_Res} {r : Option Value × xz_M} (h : xz_lJ L i k = some r) : ∃ x, xz_get L i = some (.long x) ∧ k x = some r := by
  unfold xz_lJ at h; split at h
  · rename_i hx; exact ⟨_, hx, h⟩
  · cases h
theorem xz_lR_i {L : xz_L} {i : Nat} {k : Nat → xz_Res} {r : Option Value × xz_M} (h : xz_lR L i k = some r) : ∃ x, xz_get L i = some (.ref x) ∧ k x = some r := by
  unfold xz_lR at h; split at h
  · rename_i hx; exact ⟨_, hx, h⟩
  · cases h
theorem xz_o_i {α : Type} {o : Option α} {k : α → xz_Res} {r : Option Value × xz_M} (h : xz_o o k = some r) : ∃ x, o = some x ∧ k x = some r := by
  unfold xz_o at h; split at h
  · exact ⟨_, rfl, h⟩
  · cases h
theorem xz_b_i {c : Bool} {k : xz_Res} {r : Option Value × xz_M} (h : xz_b c k = some r) : c = true ∧ k = some r := by
  unfold xz_b at h; split at h
  · exact ⟨rfl, h⟩
  · cases h
theorem xz_args_i {b : Nat} {S : List Value} {k : List Value → List Value → xz_Res} {r : Option Value × xz_M} (h : xz_args b S k = some r) : ∃ as S', S = as.reverse ++ S' ∧ as.length = b ∧ k as S' = some r := by
  unfold xz_args at h
  cases hc : Nat.ble b S.length with
  | true =>
    rw [hc] at h
    refine ⟨(S.take b).reverse, S.drop b, by simp, ?_, h⟩
    simp only [Nat.ble_eq] at hc
    simp [hc]
  | false => rw [hc] at h; cases h
theorem xz_sw_i {d : Nat} {go : Nat → xz_Res} {r : Option Value × xz_M} : ∀ (ts : List Nat) (x lo : Int32), xz_sw x lo d go ts = some r → (∃ (i t : Nat), ts[i]? = some t ∧ x = lo + Int32.ofNat i ∧ go t = some r) ∨ (go d = some r ∧ ∀ i, i < ts.length → x ≠ lo + Int32.ofNat i)
  | [], x, lo, h => Or.inr ⟨h, fun i hi => absurd hi (Nat.not_lt_zero i)⟩
  | t :: ts, x, lo, h => by
    unfold xz_sw at h
    split at h
    · rename_i hx
      exact Or.inl ⟨0, t, rfl, by rw [hx, show Int32.ofNat 0 = 0 from rfl, Int32.add_zero], h⟩
    · rename_i hx
      have e : ∀ i : Nat, lo + 1 + Int32.ofNat i = lo + Int32.ofNat (i + 1) := fun i => by
        rw [Int32.ofNat_add, Int32.add_assoc, Int32.add_comm 1 (Int32.ofNat i)]
        rfl
      rcases xz_sw_i ts x (lo + 1) h with ⟨i, t', h1, h2, h3⟩ | ⟨h1, h2⟩
      · exact Or.inl ⟨i + 1, t', by rw [List.getElem?_cons_succ]; exact h1, by rw [h2, e], h3⟩
      · refine Or.inr ⟨h1, fun i hi => ?_⟩
        cases i with
        | zero => rw [show Int32.ofNat 0 = 0 from rfl, Int32.add_zero]; exact hx
        | succ i => rw [← e]; exact h2 i (by simpa using hi)
end
section
/-! ROWS OF THE KIT, at the little machine's world -/
theorem xz_ce_o {ad : Nat → Nat} {cA : Nat → ClassId} {M : xz_M} {k a : Nat} {q : xz_Sh} (h : q.1 = a + 5) : xz_ce ad cA M k q = .inr (a, xz_fs ad (M.2.1 k) (M.2.2 k) q.2.2 a) := by
  unfold xz_ce; rw [h]
theorem xz_ce_0 {ad : Nat → Nat} {cA : Nat → ClassId} {M : xz_M} {k : Nat} {q : xz_Sh} (h : q.1 = 0) : xz_ce ad cA M k q = .inl (cA k, q.2.1, .inl (M.2.1 k)) := by
  unfold xz_ce; rw [h]
theorem xz_ce_1 {ad : Nat → Nat} {cA : Nat → ClassId} {M : xz_M} {k : Nat} {q : xz_Sh} (h : q.1 = 1) : xz_ce ad cA M k q = .inl (cA k, q.2.1, .inl (M.2.1 k)) := by
  unfold xz_ce; rw [h]
theorem xz_ce_2 {ad : Nat → Nat} {cA : Nat → ClassId} {M : xz_M} {k : Nat} {q : xz_Sh} (h : q.1 = 2) : xz_ce ad cA M k q = .inl (cA k, q.2.1, .inr (.inl (M.2.2 k))) := by
  unfold xz_ce; rw [h]
theorem xz_ce_r {ad : Nat → Nat} {cA : Nat → ClassId} {M : xz_M} {k : Nat} {q : xz_Sh} (h : q.1 = 3 ∨ q.1 = 4) : xz_ce ad cA M k q = .inl (cA k, q.2.1, .inr (.inr (.inr (.inr fun i => (q.2.2.getD i none).map ad)))) := by
  unfold xz_ce; rcases h with h | h <;> rw [h]
theorem xz_vp_in {i : Int32} {n : Nat} (h : xz_in i n = true) : vp_in i n := by
  unfold xz_in at h
  exact (of_decide_eq_true h : ¬ (i < 0 ∨ n ≤ i.toNatClampNeg))
section XR
variable {p : Program} {l : Launch} {e : Env} {R : Room} {s : State} {m : MethodId} {args : Array Value} {below : List Frame} {meth : Method} {c : Code} {H H0 : Heap} {locs : List Loc} {cells slots : Nat} {Q : State → Prop}
variable {cc : ByteArray} {pc : Nat} {ls : Array Slot} {rest : List Value} {D : va_G} {A : Nat → Prop} {tys : List (ClassId × FieldType)} {ad : Nat → Nat} {cA : Nat → ClassId} {M : xz_M} {o i r a b : Nat} {q : xz_Sh}
theorem xz_fw (h : (o, i, a, b) ∈ xz_FWl) (hts : ∀ w ∈ xz_TB, w.before args s = true) : (Cond.fieldLink (xz_RN o) i (xz_T a b).1 (xz_T a b).2.1 (xz_T a b).2.2.1).before args s = true :=
  hts _ (xz_pl_ok (f := fun (q : Nat × Nat × Nat × Nat) => .fieldLink (xz_RN q.1) q.2.1 (xz_T q.2.2.1 q.2.2.2).1 (xz_T q.2.2.1 q.2.2.2).2.1 (xz_T q.2.2.1 q.2.2.2).2.2.1) xz_FWc (o, i, a, b) h)
theorem xz_Wget (hx : p.tables.exec = Jvm.exec) (hb : c.code = cc) (hts : ∀ w ∈ xz_TB, w.before args s = true) (hown : s.vm.findClass (xz_RN o) = some m.cls) (hK : va_K D vwCl tys s) (hP : va_P D vwCl (xz_ws ad cA M) H)
    (hq : M.1[r]? = some q) (hqa : q.1 = a + 5) (ha : a < 9) (hbN : b < xz_NC a) (hfw : (o, i, a, b) ∈ xz_FWl) (hdg : decode cc pc = .ok (.getfield i, 3))
    (kk : W p l e R s m args below meth c H locs cells slots Q (F0 m (pc + 3) ls (xz_fv ad (M.2.1 r) (M.2.2 r) q.2.2 b (xz_kty (xz_ty a b)) :: rest))) : W p l e R s m args below meth c H locs cells slots Q (F0 m pc ls (.ref (ad r) :: rest)) :=
  va_get (own := xz_RN o) (ref := (xz_T a b).1) (C := xz_RN a) (T := xz_T a) (N := xz_NC a) (ci := a) hx hb hts (xz_inT ha) hown hK hP r (by rw [xz_ws_get hq, xz_ce_o hqa]) (xz_cl a ha) b hbN (xz_fw hfw hts) (fun _ h => h) (xz_fs_get (xz_fkok a ha b hbN)) hdg kk
theorem xz_Wput (hx : p.tables.exec = Jvm.exec) (hb : c.code = cc) (hts : ∀ w ∈ xz_TB, w.before args s = true) (hown : s.vm.findClass (xz_RN o) = some m.cls) (hK : va_K D vwCl tys s) (hP : va_P D vwCl (xz_ws ad cA M) H) (hD : va_D A (xz_ws ad cA M)) (hS : va_S A H0 H locs)
    (hq : M.1[r]? = some q) (hqa : q.1 = a + 5) (ha : a < 9) (hbN : b < xz_NC a) (hfw : (o, i, a, b) ∈ xz_FWl) (hfin : (xz_T a b).2.2.2 = true → meth.name = "<init>" ∧ (xz_T a b).1 = xz_RN o) {v : Value} (hn : narrow (xz_ty a b) v = v) (hfit : fits (xz_ty a b) v = true) (hdg : decode cc pc = .ok (.putfield i, 3))
    (kk : ∀ (H1 : Heap) (locs1 : List Loc), va_P D vwCl ((xz_ws ad cA M).set r (ad r, .inr (a, (xz_fs ad (M.2.1 r) (M.2.2 r) q.2.2 a).set b v))) H1 → va_D A ((xz_ws ad cA M).set r (ad r, .inr (a, (xz_fs ad (M.2.1 r) (M.2.2 r) q.2.2 a).set b v))) → va_S A H0 H1 locs1 → W p l e R s m args below meth c H1 locs1 cells slots Q (F0 m (pc + 3) ls rest)) : W p l e R s m args below meth c H locs cells slots Q (F0 m pc ls (v :: .ref (ad r) :: rest)) := by
  have he : (xz_ws ad cA M)[r]? = some (ad r, .inr (a, xz_fs ad (M.2.1 r) (M.2.2 r) q.2.2 a)) := by rw [xz_ws_get hq, xz_ce_o hqa]
  have hl : b < (xz_fs ad (M.2.1 r) (M.2.2 r) q.2.2 a).length := by rw [xz_fs_len, xz_fklen a ha]; exact hbN
  cases hf : (xz_T a b).2.2.2 with
  | false => exact va_put (own := xz_RN o) (ref := (xz_T a b).1) (C := xz_RN a) (T := xz_T a) (N := xz_NC a) (ci := a) hx hb hts (xz_inT ha) (xz_ty a) (xz_tyok a ha) (xz_nm a ha) hown hK hP hD hS r he (xz_cl a ha) b hbN (xz_fw hfw hts) (fun _ h => h) hf (xz_tyok a ha b hbN) hn hfit hl hdg kk
  | true =>
    obtain ⟨h1, h2⟩ := hfin hf
    exact va_putF (own := xz_RN o) (ref := (xz_T a b).1) (C := xz_RN a) (T := xz_T a) (N := xz_NC a) (ci := a) hx hb hts (xz_inT ha) (xz_ty a) (xz_tyok a ha) (xz_nm a ha) hown hK hP hD hS r he (xz_cl a ha) b hbN (xz_fw hfw hts) (fun _ h => h) hf h1 h2 (xz_tyok a ha b hbN) hn hfit hl hdg kk
theorem xz_Waald (hx : p.tables.exec = Jvm.exec) (hb : c.code = cc) (hK : va_K D vwCl tys s) (hP : va_P D vwCl (xz_ws ad cA M) H) (hq : M.1[r]? = some q) (hqa : q.1 = 3 ∨ q.1 = 4) {t0 : Nat} (ht : tys[t0]? = some (cA r, xz_aT q.1)) {j : Int32} (hin : xz_in j q.2.1 = true) (hdg : decode cc pc = .ok (.aaload, 1))
    (kk : W p l e R s m args below meth c H locs cells slots Q (F0 m (pc + 1) ls (va_rf ((q.2.2.getD j.toNatClampNeg none).map ad) :: rest))) : W p l e R s m args below meth c H locs cells slots Q (F0 m pc ls (.int j :: .ref (ad r) :: rest)) := by
  have hin := xz_vp_in hin
  have hlt : j.toNatClampNeg < q.2.1 := Nat.not_le.mp fun z => hin (Or.inr z)
  have he : (xz_ws ad cA M)[r]? = some (ad r, .inl (cA r, q.2.1, .inr (.inr (.inr (.inr fun i => (q.2.2.getD i none).map ad))))) := by rw [xz_ws_get hq, xz_ce_r hqa]
  rcases hqa with hqa | hqa <;> rw [hqa] at ht
  · exact W.aald (v := va_rf ((q.2.2.getD j.toNatClampNeg none).map ad)) (ty := .array .int) hx hb (hP r _ he) ((hK.2 t0 _ ht).1 q.2.1 (fun i => va_rf ((q.2.2.getD i none).map ad))) rfl (fun z => by cases z) (by show ¬ (j < 0 ∨ (arrV _ _ _).slots.size ≤ _); rw [arrV_size]; exact hin) (by show (arrV _ _ _).slots[_]? = _; rw [arrV_read _ _ hlt]) rfl rfl hdg kk
  · exact W.aald (v := va_rf ((q.2.2.getD j.toNatClampNeg none).map ad)) (ty := .array .long) hx hb (hP r _ he) ((hK.2 t0 _ ht).1 q.2.1 (fun i => va_rf ((q.2.2.getD i none).map ad))) rfl (fun z => by cases z) (by show ¬ (j < 0 ∨ (arrV _ _ _).slots.size ≤ _); rw [arrV_size]; exact hin) (by show (arrV _ _ _).slots[_]? = _; rw [arrV_read _ _ hlt]) rfl rfl hdg kk
end XR
theorem xz_cm {α : Type} [BEq α] [LawfulBEq α] {l : List α} {a : α} (h : l.contains a = true) : a ∈ l := by simpa using h
theorem xz_kty0 {t : FieldType} (h : xz_kty t = 0) : t = .int := by cases t <;> first | rfl | (simp [xz_kty] at h)
theorem xz_kty1 {t : FieldType} (h : xz_kty t = 1) : t = .long := by cases t <;> first | rfl | (simp [xz_kty] at h)
theorem xz_kty3 {t : FieldType} (h : xz_kty t = 3) : t = .boolean := by cases t <;> first | rfl | (simp [xz_kty] at h)
theorem xz_kty2 {t : FieldType} (h : xz_kty t = 2) : (∃ n, t = .object n) ∨ ∃ u, t = .array u := by
  cases t <;> first | exact Or.inl ⟨_, rfl⟩ | exact Or.inr ⟨_, rfl⟩ | (simp [xz_kty] at h)
theorem xz_narB {x : Int32} (h : x &&& 1 = x) : narrow .boolean (.int x) = .int x := by
  show Value.int (x &&& 1) = .int x
  rw [h]
theorem xz_fitB {x : Int32} (h : x &&& 1 = x) : fits .boolean (.int x) = true := by
  have e := pk_and x (m := 1) 1 rfl
  rw [h] at e
  show (x == 0 || x == 1) = true
  rcases Nat.mod_two_eq_zero_or_one x.toBitVec.toNat with z | z
  · rw [show (2 : Nat) ^ 1 = 2 from rfl, z] at e
    rw [e]; rfl
  · rw [show (2 : Nat) ^ 1 = 2 from rfl, z] at e
    rw [e]; rfl
theorem xz_narR {t : FieldType} (h : xz_kty t = 2) (q : Nat) : narrow t (.ref q) = .ref q := by
  rcases xz_kty2 h with ⟨n, rfl⟩ | ⟨u, rfl⟩ <;> rfl
theorem xz_fitR {t : FieldType} (h : xz_kty t = 2) (q : Nat) : fits t (.ref q) = true := by
  rcases xz_kty2 h with ⟨n, rfl⟩ | ⟨u, rfl⟩ <;> rfl
section XW
variable {ad : Nat → Nat} {cA : Nat → ClassId} {M : xz_M} {r a b : Nat} {q : xz_Sh} {tys : List (ClassId × FieldType)}
theorem xz_ws_putI (hq : M.1[r]? = some q) (hqa : q.1 = a + 5) (ha : a < 9) (hbN : b < xz_NC a) (hk : xz_kty (xz_ty a b) = 0 ∨ xz_kty (xz_ty a b) = 3) (x : Int32) :
    xz_ws ad cA (M.1, xz_up M.2.1 r b x, M.2.2) = (xz_ws ad cA M).set r (ad r, .inr (a, (xz_fs ad (M.2.1 r) (M.2.2 r) q.2.2 a).set b (.int x))) := by
  rw [xz_ws_upd (M' := (M.1, xz_up M.2.1 r b x, M.2.2)) (M := M) (r := r) (q := q) (q' := q) (xz_set_self hq).symm (fun k h => xz_up_ne h) (fun _ _ => rfl) hq, xz_ce_o hqa]
  have e := xz_fs_set (ad := ad) (I := M.2.1 r) (I' := xz_up M.2.1 r b x r) (J := M.2.2 r) (J' := M.2.2 r) (rs := q.2.2) (rs' := q.2.2) (xz_fkok a ha b hbN) (fun j h => by rw [xz_up_eq]; simp [h]) (fun _ _ => rfl) (fun _ _ => rfl)
  have ev : xz_fv ad (xz_up M.2.1 r b x r) (M.2.2 r) q.2.2 b (xz_kty (xz_ty a b)) = .int x := by
    rcases hk with hk | hk <;> rw [hk] <;> show Value.int (xz_up M.2.1 r b x r b) = .int x <;> rw [xz_up_eq] <;> simp
  rw [ev] at e
  rw [← e]
theorem xz_ws_putJ (hq : M.1[r]? = some q) (hqa : q.1 = a + 5) (ha : a < 9) (hbN : b < xz_NC a) (hk : xz_kty (xz_ty a b) = 1) (x : Int64) :
    xz_ws ad cA (M.1, M.2.1, xz_up M.2.2 r b x) = (xz_ws ad cA M).set r (ad r, .inr (a, (xz_fs ad (M.2.1 r) (M.2.2 r) q.2.2 a).set b (.long x))) := by
  rw [xz_ws_upd (M' := (M.1, M.2.1, xz_up M.2.2 r b x)) (M := M) (r := r) (q := q) (q' := q) (xz_set_self hq).symm (fun _ _ => rfl) (fun k h => xz_up_ne h) hq, xz_ce_o hqa]
  have e := xz_fs_set (ad := ad) (I := M.2.1 r) (I' := M.2.1 r) (J := M.2.2 r) (J' := xz_up M.2.2 r b x r) (rs := q.2.2) (rs' := q.2.2) (xz_fkok a ha b hbN) (fun _ _ => rfl) (fun j h => by rw [xz_up_eq]; simp [h]) (fun _ _ => rfl)
  have ev : xz_fv ad (M.2.1 r) (xz_up M.2.2 r b x r) q.2.2 b (xz_kty (xz_ty a b)) = .long x := by
    rw [hk]
    show Value.long (xz_up M.2.2 r b x r b) = .long x
    rw [xz_up_eq]
    simp
  rw [ev] at e
  rw [← e]
theorem xz_ws_putR (hq : M.1[r]? = some q) (hqa : q.1 = a + 5) (ha : a < 9) (hbN : b < xz_NC a) (hk : xz_kty (xz_ty a b) = 2) (hl : b < q.2.2.length) (x : Nat) :
    xz_ws ad cA (M.1.set r (q.1, q.2.1, q.2.2.set b (some x)), M.2) = (xz_ws ad cA M).set r (ad r, .inr (a, (xz_fs ad (M.2.1 r) (M.2.2 r) q.2.2 a).set b (.ref (ad x)))) := by
  rw [xz_ws_upd (M' := (M.1.set r (q.1, q.2.1, q.2.2.set b (some x)), M.2)) (M := M) (r := r) (q := q) (q' := (q.1, q.2.1, q.2.2.set b (some x))) rfl (fun _ _ => rfl) (fun _ _ => rfl) hq, xz_ce_o (q := (q.1, q.2.1, q.2.2.set b (some x))) (a := a) hqa]
  have e := xz_fs_set (ad := ad) (I := M.2.1 r) (I' := M.2.1 r) (J := M.2.2 r) (J' := M.2.2 r) (rs := q.2.2) (rs' := q.2.2.set b (some x)) (xz_fkok a ha b hbN) (fun _ _ => rfl) (fun _ _ => rfl) (fun j h => by
    rw [List.getD_eq_getElem?_getD, List.getD_eq_getElem?_getD, List.getElem?_set_ne (Ne.symm h)])
  have ev : xz_fv ad (M.2.1 r) (M.2.2 r) (q.2.2.set b (some x)) b (xz_kty (xz_ty a b)) = .ref (ad x) := by
    rw [hk]
    show va_rf (((q.2.2.set b (some x)).getD b none).map ad) = .ref (ad x)
    rw [List.getD_eq_getElem?_getD, List.getElem?_set_self hl]
    rfl
  rw [ev] at e
  rw [← e]
theorem xz_ws_stI (hq : M.1[r]? = some q) (hqa : q.1 = 0 ∨ q.1 = 1) (i : Nat) (x : Int32) :
    xz_ws ad cA (M.1, xz_up M.2.1 r i x, M.2.2) = (xz_ws ad cA M).set r (ad r, .inl (cA r, q.2.1, .inl (upd (M.2.1 r) i x))) := by
  rw [xz_ws_upd (M' := (M.1, xz_up M.2.1 r i x, M.2.2)) (M := M) (r := r) (q := q) (q' := q) (xz_set_self hq).symm (fun k h => xz_up_ne h) (fun _ _ => rfl) hq]
  rcases hqa with h | h
  · rw [xz_ce_0 h]; show (xz_ws ad cA M).set r (ad r, .inl (cA r, q.2.1, .inl (xz_up M.2.1 r i x r))) = _; rw [xz_up_eq]; rfl
  · rw [xz_ce_1 h]; show (xz_ws ad cA M).set r (ad r, .inl (cA r, q.2.1, .inl (xz_up M.2.1 r i x r))) = _; rw [xz_up_eq]; rfl
theorem xz_ws_stJ (hq : M.1[r]? = some q) (hqa : q.1 = 2) (i : Nat) (x : Int64) :
    xz_ws ad cA (M.1, M.2.1, xz_up M.2.2 r i x) = (xz_ws ad cA M).set r (ad r, .inl (cA r, q.2.1, .inr (.inl (vp_updL (M.2.2 r) i x)))) := by
  rw [xz_ws_upd (M' := (M.1, M.2.1, xz_up M.2.2 r i x)) (M := M) (r := r) (q := q) (q' := q) (xz_set_self hq).symm (fun _ _ => rfl) (fun k h => xz_up_ne h) hq, xz_ce_2 hqa]
  show (xz_ws ad cA M).set r (ad r, .inl (cA r, q.2.1, .inr (.inl (xz_up M.2.2 r i x r)))) = _
  rw [xz_up_eq]
  rfl
theorem xz_ws_rowI (hq : M.1[r]? = some q) (hqa : q.1 = 0 ∨ q.1 = 1) (g : Nat → Int32) :
    xz_ws ad cA (M.1, xz_row M.2.1 r g, M.2.2) = (xz_ws ad cA M).set r (ad r, .inl (cA r, q.2.1, .inl g)) := by
  rw [xz_ws_upd (M' := (M.1, xz_row M.2.1 r g, M.2.2)) (M := M) (r := r) (q := q) (q' := q) (xz_set_self hq).symm (fun k h => xz_row_ne h) (fun _ _ => rfl) hq]
  rcases hqa with h | h
  · rw [xz_ce_0 h]; show (xz_ws ad cA M).set r (ad r, .inl (cA r, q.2.1, .inl (xz_row M.2.1 r g r))) = _; rw [xz_row_eq]
  · rw [xz_ce_1 h]; show (xz_ws ad cA M).set r (ad r, .inl (cA r, q.2.1, .inl (xz_row M.2.1 r g r))) = _; rw [xz_row_eq]
theorem xz_ws_rowJ (hq : M.1[r]? = some q) (hqa : q.1 = 2) (g : Nat → Int64) :
    xz_ws ad cA (M.1, M.2.1, xz_row M.2.2 r g) = (xz_ws ad cA M).set r (ad r, .inl (cA r, q.2.1, .inr (.inl g))) := by
  rw [xz_ws_upd (M' := (M.1, M.2.1, xz_row M.2.2 r g)) (M := M) (r := r) (q := q) (q' := q) (xz_set_self hq).symm (fun _ _ => rfl) (fun k h => xz_row_ne h) hq, xz_ce_2 hqa]
  show (xz_ws ad cA M).set r (ad r, .inl (cA r, q.2.1, .inr (.inl (xz_row M.2.2 r g r)))) = _
  rw [xz_row_eq]
theorem xz_Wf_same (h : xz_Wf cA tys M) {I' : Nat → Nat → Int32} {J' : Nat → Nat → Int64} (hb : ∀ (k : Nat) (q : xz_Sh) (i : Nat), M.1[k]? = some q → q.1 = 1 → I' k i &&& 1 = I' k i) : xz_Wf cA tys (M.1, I', J') := ⟨h.1, hb, h.2.2.1, h.2.2.2⟩
theorem xz_Wf_putI (h : xz_Wf cA tys M) (hq : M.1[r]? = some q) (hqa : q.1 ≠ 1) (i : Nat) (x : Int32) : xz_Wf cA tys (M.1, xz_up M.2.1 r i x, M.2.2) := by
  refine xz_Wf_same h fun k z j hz h1 => ?_
  have hkr : k ≠ r := by
    rintro rfl
    rw [hq] at hz
    cases hz
    exact hqa h1
  rw [xz_up_ne hkr]
  exact h.2.1 k z j hz h1
theorem xz_and1 (x : Int32) : x &&& 1 &&& 1 = x &&& 1 := by
  rw [Int32.and_assoc]
  rfl
theorem xz_Wf_putZ (h : xz_Wf cA tys M) (i : Nat) (x : Int32) (hx : x &&& 1 = x) : xz_Wf cA tys (M.1, xz_up M.2.1 r i x, M.2.2) := by
  refine xz_Wf_same h fun k z j hz h1 => ?_
  by_cases hkr : k = r
  · subst hkr
    rw [xz_up_eq]
    by_cases hj : j = i
    · simp only [hj, if_true]; exact hx
    · simp only [hj, if_false]; exact h.2.1 k z j hz h1
  · rw [xz_up_ne hkr]
    exact h.2.1 k z j hz h1
theorem xz_Wf_putR (h : xz_Wf cA tys M) (hq : M.1[r]? = some q) (b x : Nat) (hx : x < M.1.length) : xz_Wf cA tys (M.1.set r (q.1, q.2.1, q.2.2.set b (some x)), M.2) := by
  obtain ⟨h1, h2, h3, h4⟩ := h
  have hl : r < M.1.length := (List.getElem?_eq_some_iff.mp hq).1
  have key : ∀ (k : Nat) (z : xz_Sh), (M.1.set r (q.1, q.2.1, q.2.2.set b (some x)))[k]? = some z → ∃ z0, M.1[k]? = some z0 ∧ z.1 = z0.1 ∧ (z = z0 ∨ z.2.2 = z0.2.2.set b (some x)) := by
    intro k z hz
    by_cases hk : k = r
    · subst hk
      rw [List.getElem?_set_self hl] at hz
      cases hz
      exact ⟨q, hq, rfl, Or.inr rfl⟩
    · rw [List.getElem?_set_ne (Ne.symm hk)] at hz
      exact ⟨z, hz, rfl, Or.inl rfl⟩
  refine ⟨fun k z hz hz5 => ?_, fun k z i hz h1z => ?_, fun k z hz => ?_, ?_⟩
  · obtain ⟨z0, hz0, e, -⟩ := key k z hz
    rw [e]
    exact h1 k z0 hz0 (by rw [← e]; exact hz5)
  · obtain ⟨z0, hz0, e, -⟩ := key k z hz
    exact h2 k z0 i hz0 (by rw [← e]; exact h1z)
  · obtain ⟨z0, hz0, e, e2⟩ := key k z hz
    obtain ⟨g1, g2⟩ := h3 k z0 hz0
    have hlen : (M.1.set r (q.1, q.2.1, q.2.2.set b (some x))).length = M.1.length := by simp
    show (∀ w : Nat, some w ∈ z.2.2 → w < (M.1.set r (q.1, q.2.1, q.2.2.set b (some x))).length) ∧ _
    rw [hlen]
    rcases e2 with rfl | e2
    · exact ⟨g1, g2⟩
    · refine ⟨fun w hw => ?_, fun a' ha' => ?_⟩
      · rw [e2] at hw
        rcases List.mem_or_eq_of_mem_set hw with hw | hw
        · exact g1 w hw
        · cases hw; exact hx
      · rw [e2, List.length_set]
        exact g2 a' (by rw [← e]; exact ha')
  · show (M.1.set r (q.1, q.2.1, q.2.2.set b (some x))).length ≤ 900
    simpa using h4
theorem xz_new_get_lt {s : xz_Sh} {k : Nat} (h : k < M.1.length) : (xz_new M s).1[k]? = M.1[k]? := List.getElem?_append_left h
theorem xz_new_get_eq {s : xz_Sh} : (xz_new M s).1[M.1.length]? = some s := by
  show (M.1 ++ [s])[M.1.length]? = some s
  simp
theorem xz_new_len (M : xz_M) (s : xz_Sh) : (xz_new M s).1.length = M.1.length + 1 := by
  show (M.1 ++ [s]).length = _
  simp
theorem xz_new_slt (M : xz_M) (s : xz_Sh) : xz_slt (xz_new M s) = xz_slt M + s.2.1 := by
  show ((M.1 ++ [s]).map fun q => q.2.1).sum = _
  simp [xz_slt]
theorem xz_up_ag {z : Nat} (hlen : M.1.length ≤ 900) : ∀ k, k < M.1.length ∨ 1000 ≤ k → va_up ad M.1.length z k = ad k := by
  intro k hk
  unfold va_up
  rw [if_neg (by omega)]
/-- one more cell -/
theorem xz_ws_new (h3 : ∀ (k : Nat) (q : xz_Sh), M.1[k]? = some q → ∀ r : Nat, some r ∈ q.2.2 → r < M.1.length) (s : xz_Sh) {ad' : Nat → Nat} {cA' : Nat → ClassId} (ha : ∀ k, k < M.1.length ∨ 1000 ≤ k → ad' k = ad k) (hc : ∀ k, k < M.1.length → cA' k = cA k) :
    xz_ws ad' cA' (xz_new M s) = xz_ws ad cA M ++ [(ad' M.1.length, xz_ce ad' cA' (xz_new M s) M.1.length s)] := by
  rw [← xz_ws_congr ha hc h3]
  apply List.ext_getElem?
  intro i
  rcases Nat.lt_trichotomy i M.1.length with hi | hi | hi
  · rw [List.getElem?_append_left (by rw [xz_ws_len]; exact hi)]
    simp only [xz_ws, List.getElem?_mapIdx, xz_new_get_lt hi]
    have hne : i ≠ M.1.length := by omega
    cases hx : M.1[i]? with
    | none => rfl
    | some x =>
      simp only [Option.map_some, xz_ce, xz_new, xz_row_ne hne]
  · subst hi
    rw [List.getElem?_append_right (by rw [xz_ws_len]; exact Nat.le_refl _), xz_ws_len, Nat.sub_self]
    rw [xz_ws_get xz_new_get_eq]
    rfl
  · rw [List.getElem?_append_right (by rw [xz_ws_len]; omega), xz_ws_len]
    have h1 : (xz_ws ad' cA' (xz_new M s))[i]? = none := List.getElem?_eq_none (by rw [xz_ws_len, xz_new_len]; omega)
    rw [h1]
    exact (List.getElem?_eq_none (by simp; omega)).symm
theorem xz_Wf_new (h : xz_Wf cA tys M) {s : xz_Sh} {cA' : Nat → ClassId} {tl : List (ClassId × FieldType)} (hc : ∀ k, k < M.1.length → cA' k = cA k) (hty : s.1 < 5 → ∃ t0 : Nat, (tys ++ tl)[t0]? = some (cA' M.1.length, xz_aT s.1)) (hs1 : ∀ r : Nat, some r ∈ s.2.2 → r < M.1.length + 1) (hs2 : ∀ a, s.1 = a + 5 → s.2.2.length = xz_NC a) (hl : M.1.length + 1 ≤ 900) : xz_Wf cA' (tys ++ tl) (xz_new M s) := by
  obtain ⟨h1, h2, h3, h4⟩ := h
  have key : ∀ (k : Nat) (q : xz_Sh), (xz_new M s).1[k]? = some q → (k < M.1.length ∧ M.1[k]? = some q) ∨ (k = M.1.length ∧ q = s) := by
    intro k q hq
    have hk : k < (xz_new M s).1.length := (List.getElem?_eq_some_iff.mp hq).1
    rw [xz_new_len] at hk
    rcases Nat.lt_or_ge k M.1.length with z | z
    · rw [xz_new_get_lt z] at hq
      exact Or.inl ⟨z, hq⟩
    · obtain rfl : k = M.1.length := by omega
      rw [xz_new_get_eq] at hq
      cases hq
      exact Or.inr ⟨rfl, rfl⟩
  refine ⟨fun k q hq hq5 => ?_, fun k q i hq hq1 => ?_, fun k q hq => ?_, by rw [xz_new_len]; exact hl⟩
  · rcases key k q hq with ⟨hk, hq'⟩ | ⟨rfl, rfl⟩
    · obtain ⟨t0, ht0⟩ := h1 k q hq' hq5
      exact ⟨t0, by rw [hc k hk, List.getElem?_append_left (List.getElem?_eq_some_iff.mp ht0).1]; exact ht0⟩
    · exact hty hq5
  · show xz_row M.2.1 M.1.length (fun _ => 0) k i &&& 1 = xz_row M.2.1 M.1.length (fun _ => 0) k i
    rcases key k q hq with ⟨hk, hq'⟩ | ⟨rfl, rfl⟩
    · rw [xz_row_ne (by omega)]
      exact h2 k q i hq' hq1
    · rw [xz_row_eq]
      rfl
  · rw [xz_new_len]
    rcases key k q hq with ⟨hk, hq'⟩ | ⟨rfl, rfl⟩
    · exact ⟨fun r hr => Nat.lt_succ_of_lt ((h3 k q hq').1 r hr), (h3 k q hq').2⟩
    · exact ⟨hs1, hs2⟩
end XW
end
section
/-! arrays of arrays: the words that stand behind new T[n][m], kept from state to state -/
theorem va_AOA.moved {t : FieldType} {u U : State} (hvm : u.vm.Alike U.vm) (h : va_AOA t u) : va_AOA t U := by
  obtain ⟨comp, c, k, h1, h2, h3, h4, h5⟩ := Jvm.Stand.arrayOver_specB h
  obtain ⟨k', hk', he⟩ := hvm.2.2 _ _ h3
  have hi : (U.vm.classes.findIdx? fun (x : Class) => match x.kind with | .array component _ => component == comp | _ => false) = some c := by
    have e1 := va_idx_bare U.vm comp
    have e2 := va_idx_bare u.vm comp
    have e3 : U.vm.bare = u.vm.bare := by first | exact hvm.bare_eq | exact hvm.bare_eq.symm
    rw [e3] at e1
    exact (e1.symm.trans e2).trans h2
  have hkind : k'.kind = .array comp (.array t) := by rw [he]; exact h4
  have f1 : U.vm.findClass (FieldType.array t).toString = some comp := by rw [hvm.findClass]; exact h1
  have f2 : U.vm.findClass ("[" ++ (FieldType.array t).toString) = some c := by rw [hvm.findClass]; exact h5
  unfold va_AOA Cond.before Cond.holds
  simp only [Cond.value]
  rw [f1, Option.bind_some]
  refine (congrArg (fun o : Option Nat => (o.bind (fun c => (U.vm.classes[c]?).map fun (k : Class) => match k.kind with | .array _ ty => decide (ty = FieldType.array t) && decide (U.vm.findClass ("[" ++ (FieldType.array t).toString) = some c) | _ => false) == some true)) hi).trans ?_
  simp [hk', hkind, f2]
theorem va_AOA.same {t : FieldType} {u U : State} (h : u.vm = U.vm) (hZ : va_AOA t u) : va_AOA t U := va_AOA.moved (by rw [h]; exact Vm.Alike.refl U.vm) hZ
/-- the class of a row of numbers, by its word -/
theorem xz_arrC {args : Array Value} {s : State} {t : FieldType} (h : (Cond.arrayClass t).before args s = true) (ht : ∀ n, t ≠ .object n) : ∃ cy, s.vm.findClass ("[" ++ t.toString) = some cy ∧ ArrOfT s cy t ∧ va_RA s cy t := by
  obtain ⟨cB, kB, comp, h1, h2, h3⟩ := Cond.arrayClass_spec h
  refine ⟨cB, h1, fun n z => ⟨fun k h => (by cases h), kB, h2, comp, h3⟩, ?_⟩
  cases t with
  | object n => exact absurd rfl (ht n)
  | _ => exact h1
section XM
variable {ad : Nat → Nat} {cA : Nat → ClassId} {M : xz_M} {tys : List (ClassId × FieldType)}
theorem xz_ws_app (s : xz_Sh) : xz_ws ad cA (xz_new M s) = xz_ws ad cA M ++ [(ad M.1.length, xz_ce ad cA (xz_new M s) M.1.length s)] := by
  apply List.ext_getElem?
  intro i
  rcases Nat.lt_trichotomy i M.1.length with hi | hi | hi
  · rw [List.getElem?_append_left (by rw [xz_ws_len]; exact hi)]
    simp only [xz_ws, List.getElem?_mapIdx, xz_new_get_lt hi]
    have hne : i ≠ M.1.length := by omega
    cases hx : M.1[i]? with
    | none => rfl
    | some x =>
      simp only [Option.map_some, xz_ce, xz_new, xz_row_ne hne]
  · subst hi
    rw [List.getElem?_append_right (by rw [xz_ws_len]; exact Nat.le_refl _), xz_ws_len, Nat.sub_self]
    rw [xz_ws_get xz_new_get_eq]
    rfl
  · rw [List.getElem?_append_right (by rw [xz_ws_len]; omega), xz_ws_len]
    have h1 : (xz_ws ad cA (xz_new M s))[i]? = none := List.getElem?_eq_none (by rw [xz_ws_len, xz_new_len]; omega)
    rw [h1]
    exact (List.getElem?_eq_none (by simp; omega)).symm
theorem xz_news_1 (M : xz_M) (s : xz_Sh) : ∀ j, (xz_news M s j).1 = M.1 ++ List.replicate j s
  | 0 => by simp [xz_news]
  | j + 1 => by
    show (xz_news M s j).1 ++ [s] = _
    rw [xz_news_1 M s j, List.append_assoc, ← List.replicate_succ']
theorem xz_news_len (M : xz_M) (s : xz_Sh) (j : Nat) : (xz_news M s j).1.length = M.1.length + j := by rw [xz_news_1]; simp
theorem xz_news_I (M : xz_M) (s : xz_Sh) {k : Nat} (hk : k < M.1.length) : ∀ j, (xz_news M s j).2.1 k = M.2.1 k
  | 0 => rfl
  | j + 1 => by
    show xz_row (xz_news M s j).2.1 (xz_news M s j).1.length (fun _ => 0) k = _
    rw [xz_row_ne (by rw [xz_news_len]; omega), xz_news_I M s hk j]
theorem xz_news_slt (M : xz_M) (s : xz_Sh) : ∀ j, xz_slt (xz_news M s j) = xz_slt M + j * s.2.1
  | 0 => by simp [xz_news]
  | j + 1 => by
    show xz_slt (xz_new (xz_news M s j) s) = _
    rw [xz_new_slt, xz_news_slt M s j, Nat.succ_mul]
    omega
/-- new T[n][k]: the outer row, then the inner ones, at their addresses -/
def xz_ad2 (ad : Nat → Nat) (n N q : Nat) (rr : Nat → Nat) : Nat → Nat := fun k => if k = n then q else if n < k ∧ k ≤ n + N then rr (k - n - 1) else ad k
def xz_cA2 (cA : Nat → ClassId) (n N : Nat) (c1 cy : ClassId) : Nat → ClassId := fun k => if k = n then c1 else if n < k ∧ k ≤ n + N then cy else cA k
theorem xz_ad2_ag {n N q : Nat} {rr : Nat → Nat} (h : n + N < 1000) : ∀ k, k < n ∨ 1000 ≤ k → xz_ad2 ad n N q rr k = ad k := by
  intro k hk
  unfold xz_ad2
  rw [if_neg (by omega), if_neg (by omega)]
theorem xz_cA2_ag {n N : Nat} {c1 cy : ClassId} : ∀ k, k < n → xz_cA2 cA n N c1 cy k = cA k := by
  intro k hk
  unfold xz_cA2
  rw [if_neg (by omega), if_neg (by omega)]
theorem xz_ws_multi (hW : xz_Wf cA tys M) {kd ik N K q : Nat} {rr : Nat → Nat} {c1 cy : ClassId} {z : vp_A} (hkd : kd = 3 ∨ kd = 4) (hcap : M.1.length + N < 1000) (f : Nat → va_E)
    (hz : ∀ (ad : Nat → Nat) (cA : Nat → ClassId) (M : xz_M) (k : Nat), M.2.1 k = (fun _ => 0) → M.2.2 k = (fun _ => 0) → xz_ce ad cA M k (ik, K, []) = .inl (cA k, z)) :
    xz_ws (xz_ad2 ad M.1.length N q rr) (xz_cA2 cA M.1.length N c1 cy) (xz_news (xz_new M (kd, N, (List.range N).map fun i => some (M.1.length + 1 + i))) (ik, K, []) N) =
      (xz_ws ad cA M ++ [(q, .inl (c1, N, .inr (.inr (.inr (.inr (fun i => if i < N then some (rr i) else none))))))]) ++ va_pl ([] ++ (List.range N).map rr) (vr_up f ((List.range N).map rr) (.inl (cy, z))) := by
  have e1 := xz_ws_congr (cA := cA) (cA' := xz_cA2 cA M.1.length N c1 cy) (M := M) (xz_ad2_ag (ad := ad) (q := q) (rr := rr) hcap) xz_cA2_ag (fun k q hq => (hW.2.2.1 k q hq).1)
  have hn0 : (xz_new M (kd, N, (List.range N).map fun i => some (M.1.length + 1 + i))).1.length = M.1.length + 1 := xz_new_len _ _
  have key : ∀ j, j < N → xz_ce (xz_ad2 ad M.1.length N q rr) (xz_cA2 cA M.1.length N c1 cy) (xz_new (xz_news (xz_new M (kd, N, (List.range N).map fun i => some (M.1.length + 1 + i))) (ik, K, []) j) (ik, K, [])) (M.1.length + 1 + j) (ik, K, []) = .inl (cy, z) := by
    intro j hj
    have hl : (xz_news (xz_new M (kd, N, (List.range N).map fun i => some (M.1.length + 1 + i))) (ik, K, []) j).1.length = M.1.length + 1 + j := by rw [xz_news_len, hn0]
    rw [hz _ _ _ _ (by rw [← hl]; exact xz_row_eq) (by rw [← hl]; exact xz_row_eq)]
    unfold xz_cA2
    rw [if_neg (by omega), if_pos (by omega)]
  have all : ∀ j, j ≤ N → xz_ws (xz_ad2 ad M.1.length N q rr) (xz_cA2 cA M.1.length N c1 cy) (xz_news (xz_new M (kd, N, (List.range N).map fun i => some (M.1.length + 1 + i))) (ik, K, []) j) = (xz_ws ad cA M ++ [(q, .inl (c1, N, .inr (.inr (.inr (.inr (fun i => if i < N then some (rr i) else none))))))]) ++ (List.range j).map (fun i => (rr i, .inl (cy, z))) := by
    intro j
    induction j with
    | zero =>
      intro _
      show xz_ws _ _ (xz_new M _) = _
      rw [xz_ws_app, e1]
      have e2 : xz_ad2 ad M.1.length N q rr M.1.length = q := by simp [xz_ad2]
      have e3 : xz_cA2 cA M.1.length N c1 cy M.1.length = c1 := by simp [xz_cA2]
      rw [e2, xz_ce_r hkd, e3]
      have e4 : (fun i => (((List.range N).map fun i => some (M.1.length + 1 + i)).getD i none).map (xz_ad2 ad M.1.length N q rr)) = fun i => if i < N then some (rr i) else none := by
        funext i
        rw [List.getD_eq_getElem?_getD, List.getElem?_map]
        by_cases hi : i < N
        · rw [List.getElem?_range hi, if_pos hi]
          show some (xz_ad2 ad M.1.length N q rr (M.1.length + 1 + i)) = some (rr i)
          unfold xz_ad2
          rw [if_neg (by omega), if_pos (by omega), show M.1.length + 1 + i - M.1.length - 1 = i by omega]
        · rw [List.getElem?_eq_none (by simp; omega), if_neg hi]
          rfl
      simp only [List.range_zero, List.map_nil, List.append_nil]
      rw [e4]
    | succ j ih =>
      intro hj
      show xz_ws _ _ (xz_new (xz_news (xz_new M (kd, N, (List.range N).map fun i => some (M.1.length + 1 + i))) (ik, K, []) j) (ik, K, [])) = _
      have hl : (xz_news (xz_new M (kd, N, (List.range N).map fun i => some (M.1.length + 1 + i))) (ik, K, []) j).1.length = M.1.length + 1 + j := by rw [xz_news_len, hn0]
      rw [xz_ws_app, ih (by omega), hl, key j (by omega), List.range_succ, List.map_append, ← List.append_assoc]
      have e2 : xz_ad2 ad M.1.length N q rr (M.1.length + 1 + j) = rr j := by
        unfold xz_ad2
        rw [if_neg (by omega), if_pos (by omega), show M.1.length + 1 + j - M.1.length - 1 = j by omega]
      rw [e2]
      rfl
  rw [all N (Nat.le_refl _)]
  congr 1
  show _ = ([] ++ (List.range N).map rr).map (fun a => (a, vr_up f ((List.range N).map rr) (.inl (cy, z)) a))
  rw [List.nil_append, List.map_map]
  apply List.map_congr_left
  intro i hi
  show (rr i, _) = (rr i, vr_up f ((List.range N).map rr) (.inl (cy, z)) (rr i))
  rw [vr_up_in (List.mem_map.mpr ⟨i, hi, rfl⟩)]
theorem xz_Wf_multi (hW : xz_Wf cA tys M) {kd ik N K : Nat} {c1 cy : ClassId} (hkd : kd = 3 ∨ kd = 4) (hik : ik = 0 ∨ ik = 2) (hcap : M.1.length + 1 + N ≤ 900) :
    xz_Wf (xz_cA2 cA M.1.length N c1 cy) (tys ++ [(c1, xz_aT kd)] ++ [(cy, xz_aT ik)]) (xz_news (xz_new M (kd, N, (List.range N).map fun i => some (M.1.length + 1 + i))) (ik, K, []) N) := by
  obtain ⟨h1, h2, h3, h4⟩ := hW
  have hM1 : (xz_news (xz_new M (kd, N, (List.range N).map fun i => some (M.1.length + 1 + i))) (ik, K, []) N).1 = (M.1 ++ [(kd, N, (List.range N).map fun i => some (M.1.length + 1 + i))]) ++ List.replicate N (ik, K, []) := xz_news_1 _ _ N
  have hlen : (xz_news (xz_new M (kd, N, (List.range N).map fun i => some (M.1.length + 1 + i))) (ik, K, []) N).1.length = M.1.length + 1 + N := by rw [xz_news_len, xz_new_len]
  have key : ∀ (k : Nat) (w : xz_Sh), (xz_news (xz_new M (kd, N, (List.range N).map fun i => some (M.1.length + 1 + i))) (ik, K, []) N).1[k]? = some w → (k < M.1.length ∧ M.1[k]? = some w) ∨ (k = M.1.length ∧ w = (kd, N, (List.range N).map fun i => some (M.1.length + 1 + i))) ∨ (M.1.length < k ∧ k ≤ M.1.length + N ∧ w = (ik, K, [])) := by
    intro k w hw
    have hk : k < M.1.length + 1 + N := by rw [← hlen]; exact (List.getElem?_eq_some_iff.mp hw).1
    rw [hM1] at hw
    rcases Nat.lt_trichotomy k M.1.length with z | z | z
    · rw [List.getElem?_append_left (by simp; omega), List.getElem?_append_left z] at hw
      exact Or.inl ⟨z, hw⟩
    · subst z
      rw [List.getElem?_append_left (by simp), List.getElem?_append_right (Nat.le_refl _), Nat.sub_self] at hw
      cases hw
      exact Or.inr (Or.inl ⟨rfl, rfl⟩)
    · rw [List.getElem?_append_right (by simp; omega)] at hw
      exact Or.inr (Or.inr ⟨z, by omega, List.eq_of_mem_replicate (List.mem_of_getElem? hw)⟩)
  refine ⟨fun k w hw hw5 => ?_, fun k w i hw hw1 => ?_, fun k w hw => ?_, by rw [hlen]; exact hcap⟩
  · rcases key k w hw with ⟨hk, hw'⟩ | ⟨rfl, rfl⟩ | ⟨hk1, hk2, rfl⟩
    · obtain ⟨t0, ht0⟩ := h1 k w hw' hw5
      have hl := (List.getElem?_eq_some_iff.mp ht0).1
      exact ⟨t0, by rw [xz_cA2_ag k hk, List.getElem?_append_left (by simp; omega), List.getElem?_append_left hl]; exact ht0⟩
    · refine ⟨tys.length, ?_⟩
      rw [List.getElem?_append_left (by simp), List.getElem?_append_right (Nat.le_refl _), Nat.sub_self]
      show some (c1, xz_aT kd) = some (xz_cA2 cA M.1.length N c1 cy M.1.length, xz_aT kd)
      simp [xz_cA2]
    · refine ⟨tys.length + 1, ?_⟩
      rw [List.getElem?_append_right (by simp)]
      have : tys.length + 1 - (tys ++ [(c1, xz_aT kd)]).length = 0 := by simp
      rw [this]
      show some (cy, xz_aT ik) = some (xz_cA2 cA M.1.length N c1 cy k, xz_aT ik)
      unfold xz_cA2
      rw [if_neg (by omega), if_pos ⟨hk1, hk2⟩]
  · rcases key k w hw with ⟨hk, hw'⟩ | ⟨rfl, rfl⟩ | ⟨hk1, hk2, rfl⟩
    · rw [xz_news_I _ _ (by rw [xz_new_len]; omega)]
      show xz_row M.2.1 M.1.length (fun _ => 0) k i &&& 1 = xz_row M.2.1 M.1.length (fun _ => 0) k i
      rw [xz_row_ne (by omega)]
      exact h2 k w i hw' hw1
    · have hw1 : kd = 1 := hw1
      omega
    · have hw1 : ik = 1 := hw1
      omega
  · rw [hlen]
    rcases key k w hw with ⟨hk, hw'⟩ | ⟨rfl, rfl⟩ | ⟨hk1, hk2, rfl⟩
    · exact ⟨fun r hr => by have := (h3 k w hw').1 r hr; omega, (h3 k w hw').2⟩
    · refine ⟨fun r hr => ?_, fun a ha => ?_⟩
      · obtain ⟨i, hi, he⟩ := List.mem_map.mp hr
        cases he
        have := List.mem_range.mp hi
        omega
      · have ha : kd = a + 5 := ha
        omega
    · exact ⟨fun r hr => (by cases hr), fun a ha => by have ha : ik = a + 5 := ha; omega⟩
end XM
end
section
/-! CALLS: a method's contract in the little machine's words; what a caller gets from it -/
theorem xz_mhok : ∀ w, w < 200 → (xz_mn w).cls ≠ "java/lang/invoke/MethodHandle" ∧ (xz_mn w).cls ≠ "java/lang/invoke/VarHandle" := by decide +kernel
def xz_slen : List Nat := xz_str.map List.length
def xz_sbyt : List (List Int32) := xz_str.map fun l => l.map Int32.ofNat
/-- what stands outside the world, and never changes: links between nest mates, texts, two statics -/
def xz_En (ad : Nat → Nat) (A : Nat → Prop) (U : State) (H : Heap) : Prop :=
  (∀ q ∈ xz_MXp.map (·.1), va_Nw (.methodLinkNest (xz_RN q.1) q.2.1 (xz_mn q.2.2) "HandRelay") U) ∧
  (∀ q ∈ xz_SWp.map (·.1), vk_R (xz_RN q.1) q.2.1 (xz_txs.getD q.2.2 "") (ad (2000 + q.2.2)) U) ∧
  vk_S 9 xz_slen xz_sbyt (fun i => ad (2000 + i)) (fun i => ad (2100 + i)) A U H ∧
  va_Z RJ0 "COMPACT_STRINGS" "Z" (.int 1) A U H ∧ va_Z RJ3 "SIOOBE_FORMATTER" "Ljava/util/function/BiFunction;" (xz_V ad (.retAddr 0)) A U H ∧ va_AOA .int U ∧ va_AOA .long U
theorem xz_En.call {ad ad' : Nat → Nat} {A A' : Nat → Prop} {s U : State} {H : Heap} {locs : List Loc} (h : xz_En ad A s s.heap) (hS : va_S A s.heap H locs) (hAA : ∀ q, A' q → A q) (hW : s.WarmedH U.vm) (hU : U.heap = H) (hag : ∀ k, 1000 ≤ k → ad' k = ad k) : xz_En ad' A' U U.heap := by
  obtain ⟨h1, h2, h3, h4, h5, h6, h7⟩ := h
  have e1 : (fun i => ad' (2000 + i)) = fun i => ad (2000 + i) := funext fun i => hag _ (by omega)
  have e2 : (fun i => ad' (2100 + i)) = fun i => ad (2100 + i) := funext fun i => hag _ (by omega)
  have e3 : xz_V ad' (.retAddr 0) = xz_V ad (.retAddr 0) := xz_V_congr (n := 0) (fun k hk => hk.elim (fun z => absurd z (Nat.not_lt_zero k)) (hag k)) trivial
  refine ⟨fun q hq => va_Nw.warmM hW (h1 q hq), fun q hq => by rw [hag _ (by omega)]; exact vk_R.warm hW (h2 q hq), ?_, ?_, ?_, h6.moved hW.alike, h7.moved hW.alike⟩
  · rw [e1, e2, hU]; exact vk_S.moved hW.alike (vk_S.narrow (vk_S.kept h3 hS.2.1) hAA)
  · rw [hU]; exact va_Z.moved hW.alike (va_Z.narrow (va_Z.kept h4 hS.2.1) hAA)
  · rw [e3, hU]; exact va_Z.moved hW.alike (va_Z.narrow (va_Z.kept h5 hS.2.1) hAA)
theorem xz_En.calling {ad : Nat → Nat} {A : Nat → Prop} {U : State} {g : JFrame} {mk : MethodId} {a : Array Value} (h : xz_En ad A U U.heap) : xz_En ad A (U.calling g mk a) (U.calling g mk a).heap := by
  obtain ⟨h1, h2, h3, h4, h5, h6, h7⟩ := h
  exact ⟨fun q hq => va_Nw.same rfl rfl (h1 q hq), fun q hq => vk_R.same rfl (h2 q hq), vk_S.moved (Vm.Alike.refl U.vm) h3, va_Z.moved (Vm.Alike.refl U.vm) h4, va_Z.moved (Vm.Alike.refl U.vm) h5, h6.same rfl, h7.same rfl⟩
def xz_Qc (D : va_G) (ad : Nat → Nat) (cA : Nat → ClassId) (M : xz_M) (sz : Nat) (r : Option Value × xz_M) : Array Value → State → Outcome → State → Prop := fun _ st oc t =>
  (∃ (tys' : List (ClassId × FieldType)) (ad' : Nat → Nat) (cA' : Nat → ClassId), oc = .returned (r.1.map (xz_V ad')) ∧ (∀ k, k < M.1.length ∨ 1000 ≤ k → ad' k = ad k) ∧ va_P D vwCl (xz_ws ad' cA' r.2) t.heap ∧ va_K D vwCl tys' t ∧ va_D (va_A (xz_ws ad cA M) sz) (xz_ws ad' cA' r.2) ∧ xz_Wf cA' tys' r.2 ∧ ∀ v ∈ r.1.toList, xz_vv r.2.1.length v) ∧ va_F (va_A (xz_ws ad cA M) sz) st t
def xz_Pc (D : va_G) (tys : List (ClassId × FieldType)) (ad : Nat → Nat) (cA : Nat → ClassId) (M : xz_M) (sz : Nat) (as : List Value) : Array Value → State → Prop :=
  va_Pc (as.map (xz_V ad)) (fun U => U.heap.size = sz ∧ va_P D vwCl (xz_ws ad cA M) U.heap ∧ va_K D vwCl tys U ∧ va_D (fun _ => True) (xz_ws ad cA M) ∧ xz_En ad (va_A (xz_ws ad cA M) sz) U U.heap)
def xz_rm (d mc ms : Nat) : Room := { frames := d + 1, cells := mc, slots := ms, locals := 64 * (d + 1) }
noncomputable abbrev xz_wsy (y : Nat) : List Cond := .code (xz_mn y) (xz_mb y) (xz_ml y) (xz_mr y) :: xz_TB
def xz_Ct (l : Launch) (D : va_G) (d y : Nat) (as : List Value) (M : xz_M) (r : Option Value × xz_M) : Prop := ∀ (tys : List (ClassId × FieldType)) (ad : Nat → Nat) (cA : Nat → ClassId) (sz : Nat), (∀ v ∈ as, xz_vv M.1.length v) → xz_Wf cA tys M →
  Met l (xz_mn y) (xz_wsy y) (xz_rm d (r.2.1.length - M.1.length) (xz_slt r.2 - xz_slt M)) (xz_Pc D tys ad cA M sz as) (xz_Qc D ad cA M sz r) (r.2.1.length - M.1.length) (xz_slt r.2 - xz_slt M) (va_A (xz_ws ad cA M) sz)
theorem xz_blind (D : va_G) (tys : List (ClassId × FieldType)) (ad : Nat → Nat) (cA : Nat → ClassId) (M : xz_M) (sz : Nat) (as : List Value) : FrameBlind (xz_Pc D tys ad cA M sz as) := by
  intro a U g mk h
  obtain ⟨h0, h1, h2, h3, h4, h5⟩ := h
  exact ⟨h0, h1, h2, va_K.moved (u := U) (U := U.calling g mk a) (Vm.Alike.refl U.vm) h3, h4, h5.calling⟩
theorem xz_goodwsy (y : Nat) (h0 : 0 < y) (h : y < 200) : GoodIn xz_TB (xz_wsy y) := by
  intro w hw
  rcases List.mem_cons.mp hw with rfl | hw
  · exact xz_TBgood _ (xz_cw y h0 h)
  · exact xz_TBgood w hw
theorem xz_ret_i {c : Nat} {o : xz_Res} {k : List Value → xz_M → xz_Res} {r : Option Value × xz_M} (h : xz_ret c o k = some r) : ∃ (ov : Option Value) (M1 : xz_M), o = some (ov, M1) ∧ k ov.toList M1 = some r := by
  match c with
  | 0 =>
    have h : (xz_bI o fun x M => k [.int x] M) = some r := h
    unfold xz_bI at h
    split at h
    · exact ⟨_, _, rfl, h⟩
    · cases h
  | 1 =>
    have h : (xz_bJ o fun x M => k [.long x] M) = some r := h
    unfold xz_bJ at h
    split at h
    · exact ⟨_, _, rfl, h⟩
    · cases h
  | 2 =>
    have h : (xz_bR o fun x M => k [.ref x] M) = some r := h
    unfold xz_bR at h
    split at h
    · exact ⟨_, _, rfl, h⟩
    · cases h
  | _ + 3 =>
    have h : (xz_bV o fun M => k [] M) = some r := h
    unfold xz_bV at h
    split at h
    · exact ⟨_, _, rfl, h⟩
    · cases h
section XC
variable {p : Program} {l : Launch} {e : Env} {R : Room} {s : State} {m : MethodId} {args : Array Value} {below : List Frame} {meth : Method} {c : Code} {H : Heap} {locs : List Loc} {cells slots : Nat} {Q : State → Prop}
variable {pc mc ms sz : Nat} {ls : Array Slot} {rest st0 : List Value} {a : Array Value} {A : Nat → Prop} {D : va_G} {ad : Nat → Nat} {cA : Nat → ClassId} {M M1 : xz_M} {ov : Option Value}
theorem xz_Wcall (hr : va_Run p l e R s m args below meth c H locs cells slots mc ms (F0 m pc ls st0) rest (xz_Qc D ad cA M H.size (ov, M1) a) (va_A (xz_ws ad cA M) H.size)) (hS : va_S A s.heap H locs) (hF : ∀ q, va_A (xz_ws ad cA M) H.size q → A q)
    (kk : ∀ (H1 : Heap) (locs1 : List Loc) (tys' : List (ClassId × FieldType)) (ad' : Nat → Nat) (cA' : Nat → ClassId), (∀ k, k < M.1.length ∨ 1000 ≤ k → ad' k = ad k) → va_P D vwCl (xz_ws ad' cA' M1) H1 → va_K D vwCl tys' s → va_D A (xz_ws ad' cA' M1) → va_S A s.heap H1 locs1 → xz_Wf cA' tys' M1 → (∀ v ∈ ov.toList, xz_vv M1.1.length v) →
      W p l e R s m args below meth c H1 locs1 (cells + mc) (slots + ms) Q (F0 m (pc + 3) ls ((ov.map (xz_V ad')).toList ++ rest))) : W p l e R s m args below meth c H locs cells slots Q (F0 m pc ls st0) := by
  intro T hT X
  obtain ⟨v, st₀, t, T', L, h0, X', hL, e1, e2, ⟨⟨tys', ad', cA', hv, hag, hP, hK, hD, hW, hvv⟩, hz, hk⟩, st⟩ := hr T hT X
  cases hv
  rw [h0] at hz hk
  have hal : s.vm.Alike t.vm := by rw [← e2]; exact X'.warmed.alike
  obtain ⟨t2, a1, b1⟩ := kk T'.heap (locs ++ L) tys' ad' cA' hag (by rw [e1]; exact hP) (va_K.moved hal.symm hK) (hD.weaken fun k q _ h => hF _ h)
    ⟨Nat.le_trans hS.1 (by rw [e1]; exact hz), fun q h1 h2 => by rw [e1, hk q (Nat.lt_of_lt_of_le h1 hS.1) (fun z => h2 (hF q z))]; exact hS.2.1 q h1 h2, fun q hq => by
      rcases List.mem_append.mp hq with h | h
      · exact hS.2.2 q h
      · exact hF _ (hL q h)⟩ hW hvv T' rfl X'
  exact ⟨t2, st t2 a1, b1⟩
end XC
end
section
/-! THE LITTLE MACHINE IS SOUND, one block: what it answers, the machine answers (cases by program: wip/whole/snd.py) -/
theorem xz_pcJ_i {C : List xz_Op} {a pc : Nat} {off : Int} (h : xz_pcJ C a pc off = true) : ∃ t : Nat, xz_pcA C a t = true ∧ (pc : Int) + off = (t : Int) := by
  unfold xz_pcJ at h
  cases ho : C[a]? with
  | none => rw [ho] at h; cases h
  | some op =>
    rw [ho] at h
    refine ⟨op.2.1.1, ?_, of_decide_eq_true h⟩
    unfold xz_pcA
    rw [ho]
    exact beq_self_eq_true _
theorem xz_pcs_i {C : List xz_Op} {pc : Nat} : ∀ {ts : List Nat} {os : List Int} {i t : Nat}, xz_pcs C pc ts os = true → ts[i]? = some t → ∃ o, os[i]? = some o ∧ xz_pcJ C t pc o = true
  | [], _, i, t, _, h => by simp at h
  | t0 :: ts, [], i, t, h, _ => by simp [xz_pcs] at h
  | t0 :: ts, o :: os, i, t, h, ht => by
    simp only [xz_pcs, Bool.and_eq_true] at h
    cases i with
    | zero => cases ht; exact ⟨o, rfl, h.1⟩
    | succ i => exact xz_pcs_i (i := i) h.2 ht
theorem xz_pcs_len {C : List xz_Op} {pc : Nat} : ∀ {ts : List Nat} {os : List Int}, xz_pcs C pc ts os = true → ts.length = os.length
  | [], [], _ => rfl
  | [], _ :: _, h => by simp [xz_pcs] at h
  | _ :: _, [], h => by simp [xz_pcs] at h
  | _ :: ts, _ :: os, h => by
    simp only [xz_pcs, Bool.and_eq_true] at h
    simp [xz_pcs_len h.2]
theorem xz_okm_at {y k : Nat} {op : xz_Op} (h : xz_okm y = true) (hk : (xz_code y)[k]? = some op) : xz_okd y op = true ∧ xz_oks y (xz_code y) k op = true := by
  have hm : (op, k) ∈ (xz_code y).zipIdx := by
    rw [List.mem_zipIdx_iff_getElem?]
    exact hk
  have h1 := List.all_eq_true.mp h (op, k) hm
  exact Bool.and_eq_true_iff.mp h1
theorem xz_drop_at {C : List xz_Op} {k : Nat} {op : xz_Op} (hk : C[k]? = some op) : C.drop k = op :: C.drop (k + 1) := by
  obtain ⟨hl, he⟩ := List.getElem?_eq_some_iff.mp hk
  rw [← he]
  exact List.drop_eq_getElem_cons hl
/-- how a method ends: its last instruction, its answer, its return's type -/
def xz_Ri (y : Nat) (ins : Instr) (ov : Option Value) : Prop :=
  (ins = .ireturn ∧ ∃ x ty, ov = some (.int x) ∧ xz_mr y = some ty ∧ narrow ty (.int x) = .int x) ∨ (ins = .lreturn ∧ ∃ x, ov = some (.long x) ∧ xz_mr y = some .long) ∨
  (ins = .areturn ∧ ∃ q ty, ov = some (.ref q) ∧ xz_mr y = some ty ∧ ((∃ n, ty = .object n) ∨ ∃ t, ty = .array t)) ∨ (ins = .return_ ∧ ov = none ∧ xz_mr y = none)

theorem xz_swx {lo : Int} {v z : Int32} {i : Nat} (h0 : 0 ≤ lo) (hl : lo + i < 1000) (hv : Int32.ofInt lo = v) (hz : z = v + Int32.ofNat i) : z.toInt = lo + i := by
  obtain ⟨n, rfl⟩ := Int.eq_ofNat_of_zero_le h0
  have e : Int32.ofInt (n : Int) = nI n := rfl
  rw [hz, ← hv, e, show Int32.ofNat i = nI i from rfl, nI_add, nI_toInt (by omega)]
  omega
theorem xz_rk0 {t : Option FieldType} (h : xz_rk t = 0) : t = some .int := by
  match t with
  | none => cases h
  | some t => cases t <;> first | rfl | (simp [xz_rk] at h)
theorem xz_rk1 {t : Option FieldType} (h : xz_rk t = 1) : t = some .long := by
  match t with
  | none => cases h
  | some t => cases t <;> first | rfl | (simp [xz_rk] at h)
theorem xz_rk2 {t : Option FieldType} (h : xz_rk t = 2) : ∃ ty, t = some ty ∧ ((∃ n, ty = .object n) ∨ ∃ u, ty = .array u) := by
  match t with
  | none => cases h
  | some t => cases t <;> first | exact ⟨_, rfl, Or.inl ⟨_, rfl⟩⟩ | exact ⟨_, rfl, Or.inr ⟨_, rfl⟩⟩ | (simp [xz_rk] at h)
theorem xz_rk3 {t : Option FieldType} (h : xz_rk t = 3) : t = none := by
  match t with
  | none => rfl
  | some t => cases t <;> (simp [xz_rk] at h)
theorem xz_rk4 {t : Option FieldType} (h : xz_rk t = 4) : t = some .boolean := by
  match t with
  | none => cases h
  | some t => cases t <;> first | rfl | (simp [xz_rk] at h)
theorem xz_rk5 {t : Option FieldType} (h : xz_rk t = 5) : t = some .char := by
  match t with
  | none => cases h
  | some t => cases t <;> first | rfl | (simp [xz_rk] at h)
theorem xz_rk6 {t : Option FieldType} (h : xz_rk t = 6) : t = some .byte := by
  match t with
  | none => cases h
  | some t => cases t <;> first | rfl | (simp [xz_rk] at h)
theorem xz_gI_s {M : xz_M} {r a b : Nat} {x : Int32} (h : xz_gI M r a b = some x) : ∃ q, M.1[r]? = some q ∧ q.1 = a + 5 ∧ x = M.2.1 r b := by
  unfold xz_gI at h
  split at h
  · rename_i q hq
    cases hc : (q.1 == a + 5) with
    | true => rw [hc] at h; cases h; exact ⟨q, hq, by simpa using hc, rfl⟩
    | false => rw [hc] at h; cases h
  · cases h
theorem xz_gJ_s {M : xz_M} {r a b : Nat} {x : Int64} (h : xz_gJ M r a b = some x) : ∃ q, M.1[r]? = some q ∧ q.1 = a + 5 ∧ x = M.2.2 r b := by
  unfold xz_gJ at h
  split at h
  · rename_i q hq
    cases hc : (q.1 == a + 5) with
    | true => rw [hc] at h; cases h; exact ⟨q, hq, by simpa using hc, rfl⟩
    | false => rw [hc] at h; cases h
  · cases h
theorem xz_gR_s {M : xz_M} {r a b x : Nat} (h : xz_gR M r a b = some x) : ∃ q, M.1[r]? = some q ∧ q.1 = a + 5 ∧ q.2.2.getD b none = some x := by
  unfold xz_gR at h
  split at h
  · rename_i q hq
    cases hc : (q.1 == a + 5) with
    | true => rw [hc] at h; exact ⟨q, hq, by simpa using hc, h⟩
    | false => rw [hc] at h; cases h
  · cases h
theorem xz_lI0_s {M : xz_M} {kd r : Nat} {i x : Int32} (h : xz_lI0 M kd r i = some x) : ∃ q, M.1[r]? = some q ∧ q.1 = kd ∧ xz_in i q.2.1 = true ∧ x = M.2.1 r i.toNatClampNeg := by
  unfold xz_lI0 at h
  split at h
  · rename_i q hq
    cases hc : (q.1 == kd && xz_in i q.2.1) with
    | true => rw [hc] at h; cases h; simp only [Bool.and_eq_true, beq_iff_eq] at hc; exact ⟨q, hq, hc.1, hc.2, rfl⟩
    | false => rw [hc] at h; cases h
  · cases h
theorem xz_lJ0_s {M : xz_M} {r : Nat} {i : Int32} {x : Int64} (h : xz_lJ0 M r i = some x) : ∃ q, M.1[r]? = some q ∧ q.1 = 2 ∧ xz_in i q.2.1 = true ∧ x = M.2.2 r i.toNatClampNeg := by
  unfold xz_lJ0 at h
  split at h
  · rename_i q hq
    cases hc : (q.1 == 2 && xz_in i q.2.1) with
    | true => rw [hc] at h; cases h; simp only [Bool.and_eq_true, beq_iff_eq] at hc; exact ⟨q, hq, hc.1, hc.2, rfl⟩
    | false => rw [hc] at h; cases h
  · cases h
theorem xz_lR0_s {M : xz_M} {r x : Nat} {i : Int32} (h : xz_lR0 M r i = some x) : ∃ q, M.1[r]? = some q ∧ (q.1 = 3 ∨ q.1 = 4) ∧ xz_in i q.2.1 = true ∧ q.2.2.getD i.toNatClampNeg none = some x := by
  unfold xz_lR0 at h
  split at h
  · rename_i q hq
    cases hc : ((q.1 == 3 || q.1 == 4) && xz_in i q.2.1) with
    | true => rw [hc] at h; simp only [Bool.and_eq_true, Bool.or_eq_true, beq_iff_eq] at hc; exact ⟨q, hq, hc.1, hc.2, h⟩
    | false => rw [hc] at h; cases h
  · cases h
theorem xz_len_s {M : xz_M} {r : Nat} {x : Int32} (h : xz_len M r = some x) : ∃ q, M.1[r]? = some q ∧ q.1 < 5 ∧ Int32.ofNat q.2.1 = x := by
  unfold xz_len at h
  split at h
  · rename_i q hq
    cases hc : Nat.ble q.1 4 with
    | true => rw [hc] at h; cases h; simp only [Nat.ble_eq] at hc; exact ⟨q, hq, by omega, rfl⟩
    | false => rw [hc] at h; cases h
  · cases h
theorem xz_getD_mem {l : List (Option Nat)} {i x : Nat} (h : l.getD i none = some x) : some x ∈ l := by
  rw [List.getD_eq_getElem?_getD] at h
  cases hz : l[i]? with
  | none => rw [hz] at h; cases h
  | some z => rw [hz] at h; cases h; exact List.mem_of_getElem? hz
theorem xz_sval_s {r x : Nat} (h : xz_sval r = some x) : ∃ i, i < 9 ∧ r = 2000 + i ∧ x = 2100 + i := by
  unfold xz_sval at h
  cases hc : (Nat.ble 2000 r && Nat.blt r 2009) with
  | true =>
    rw [hc] at h; cases h
    simp only [Bool.and_eq_true, Nat.ble_eq, Nat.blt_eq] at hc
    exact ⟨r - 2000, by omega, by omega, by omega⟩
  | false => rw [hc] at h; cases h
theorem xz_scod_s {r : Nat} {x : Int32} (h : xz_scod r = some x) : ∃ i, i < 9 ∧ r = 2000 + i ∧ x = 0 := by
  unfold xz_scod at h
  cases hc : (Nat.ble 2000 r && Nat.blt r 2009) with
  | true =>
    rw [hc] at h; cases h
    simp only [Bool.and_eq_true, Nat.ble_eq, Nat.blt_eq] at hc
    exact ⟨r - 2000, by omega, by omega, rfl⟩
  | false => rw [hc] at h; cases h
theorem xz_sln_s {r : Nat} {x : Int32} (h : xz_sln r = some x) : ∃ j, j < 9 ∧ r = 2100 + j ∧ Int32.ofNat (xz_slen.getD j 0) = x := by
  unfold xz_sln at h
  cases hc : Nat.ble 2100 r with
  | true =>
    rw [hc] at h
    simp only [Nat.ble_eq] at hc
    cases hz : xz_str[r - 2100]? with
    | none => rw [hz] at h; cases h
    | some lz =>
      rw [hz] at h; cases h
      have hl : r - 2100 < 9 := (List.getElem?_eq_some_iff.mp hz).1
      refine ⟨r - 2100, hl, by omega, ?_⟩
      simp only [xz_slen, List.getD_eq_getElem?_getD, List.getElem?_map, hz]
      rfl
  | false => rw [hc] at h; cases h
theorem xz_sby_s {r : Nat} {i x : Int32} (h : xz_sby r i = some x) : ∃ j, j < 9 ∧ r = 2100 + j ∧ vp_in i (xz_slen.getD j 0) ∧ (xz_sbyt.getD j []).getD i.toNatClampNeg 0 = x := by
  unfold xz_sby at h
  cases hc : Nat.ble 2100 r with
  | true =>
    rw [hc] at h
    simp only [Nat.ble_eq] at hc
    cases hz : xz_str[r - 2100]? with
    | none => rw [hz] at h; cases h
    | some lz =>
      rw [hz] at h
      have h : (bif xz_in i lz.length then some (Int32.ofNat (lz.getD i.toNatClampNeg 0)) else none) = some x := h
      cases hi : xz_in i lz.length with
      | false => rw [hi] at h; cases h
      | true =>
        rw [hi] at h
        have h : some (Int32.ofNat (lz.getD i.toNatClampNeg 0)) = some x := h
        have hin := xz_vp_in hi
        have hl : r - 2100 < 9 := (List.getElem?_eq_some_iff.mp hz).1
        have hlt : i.toNatClampNeg < lz.length := Nat.not_le.mp fun z => hin (Or.inr z)
        have e1 : xz_slen.getD (r - 2100) 0 = lz.length := by
          simp only [xz_slen, List.getD_eq_getElem?_getD, List.getElem?_map, hz]; rfl
        have e2 : xz_sbyt.getD (r - 2100) [] = lz.map Int32.ofNat := by
          simp only [xz_sbyt, List.getD_eq_getElem?_getD, List.getElem?_map, hz]; rfl
        refine ⟨r - 2100, hl, by omega, by rw [e1]; exact hin, ?_⟩
        rw [e2]
        simp only [Option.some.injEq] at h
        rw [← h, List.getD_eq_getElem?_getD, List.getD_eq_getElem?_getD, List.getElem?_map, List.getElem?_eq_getElem hlt]
        rfl
  | false => rw [hc] at h; cases h
theorem xz_wIn (a : Nat) (h : a < 9) : Cond.instantiable (xz_RN a) (xz_NC a) ∈ xz_TB := by
  match a, h with
  | 0, _ => exact xz_wIn0
  | 1, _ => exact xz_wIn1
  | 2, _ => exact xz_wIn2
  | 3, _ => exact xz_wIn3
  | 4, _ => exact xz_wIn4
  | 5, _ => exact xz_wIn5
  | 6, _ => exact xz_wIn6
  | 7, _ => exact xz_wIn7
  | 8, _ => exact xz_wIn8
theorem xz_wIi (a : Nat) (h : a < 9) : Cond.initialized (xz_RN a) ∈ xz_TB := by
  match a, h with
  | 0, _ => exact xz_wIi0
  | 1, _ => exact xz_wIi1
  | 2, _ => exact xz_wIi2
  | 3, _ => exact xz_wIi3
  | 4, _ => exact xz_wIi4
  | 5, _ => exact xz_wIi5
  | 6, _ => exact xz_wIi6
  | 7, _ => exact xz_wIi7
  | 8, _ => exact xz_wIi8
theorem xz_ftk : ∀ a, a < 9 → ∀ j, j < xz_NC a → xz_kty (xz_ty a j) = 0 ∨ xz_kty (xz_ty a j) = 1 ∨ xz_kty (xz_ty a j) = 2 ∨ xz_kty (xz_ty a j) = 3 := by decide +kernel
theorem xz_is_s {r : Nat} (h : (Nat.ble 2000 r && Nat.blt r 2009) = true) : ∃ i, i < 9 ∧ r = 2000 + i := by
  simp only [Bool.and_eq_true, Nat.ble_eq, Nat.blt_eq] at h
  exact ⟨r - 2000, by omega, by omega⟩
theorem xz_cat_V {ad : Nat → Nat} {S : List Value} (h : xz_cat S = true) : ((S.map (xz_V ad)).map fun v => v.category).sum ≤ 8 := by
  unfold xz_cat at h
  rw [List.map_map, show ((fun v : Value => v.category) ∘ xz_V ad) = fun v => v.category from funext fun v => xz_V_cat ad v]
  exact Nat.le_of_ble_eq_true h
theorem xz_free {A : Nat → Prop} {ws : va_W} {H0 H : Heap} {locs : List Loc} (hD : va_D A ws) (hS : va_S A H0 H locs) (hA : ∀ q, H0.size ≤ q → A q) : ∀ q, va_A ws H.size q → A q := by
  intro q h
  rcases h with ⟨k, e, h⟩ | h
  · exact hD.2 k (q, e) h
  · exact hA q (Nat.le_trans hS.1 h)
section SND
variable {p : Program} {l : Launch} {e : Env} {R : Room} {s : State} {m : MethodId} {args : Array Value} {below : List Frame} {meth : Method} {c : Code} {Q : State → Prop}
/-- the frame of one method's run -/
def xz_Fx (p : Program) (R : Room) (s : State) (m : MethodId) (args : Array Value) (meth : Method) (c : Code) (y d mc ms : Nat) : Prop :=
  p.tables.exec = Jvm.exec ∧ c.code = xz_mb y ∧ c.maxLocals = xz_ml y ∧ s.vm.findClass (xz_RN (xz_mo y)) = some m.cls ∧ (∀ w ∈ xz_TB, w.before args s = true) ∧ (y ≠ 0 → meth.name = (xz_mn y).name) ∧ d + 1 ≤ R.frames ∧ 64 * (d + 1) ≤ R.locals ∧ mc ≤ R.cells ∧ ms ≤ R.slots ∧ xz_okm y = true
set_option maxHeartbeats 8000000 in
set_option maxRecDepth 100000 in
theorem xz_snd_blk {y d mc ms n0 : Nat} {X : xz_X} {r : Option Value × xz_M} {D : va_G} {A : Nat → Prop} {ad0 : Nat → Nat} {RR : Nat → List Value → xz_M → xz_Res} {Lp : Nat → xz_L → List Value → xz_M → xz_Res}
    (F : xz_Fx p R s m args meth c y d mc ms) (hA : ∀ q, s.heap.size ≤ q → A q) (hE : xz_En ad0 A s s.heap) (hcap : r.2.1.length ≤ 900)
    (hX : ∀ q, X = some q → va_X (ad0 1000) q.1 q.2 s s.heap ∧ ad0 1000 < s.heap.size ∧ ¬ A (ad0 1000))
    (hRm : ∀ y as M, xz_Mo M (RR y as M)) (hLm : ∀ k L S M, xz_Mo M (Lp k L S M))
    (K : ∀ (ins : Instr) (pc : Nat) (ls : Array Slot) (H : Heap) (locs : List Loc) (tys : List (ClassId × FieldType)) (ad : Nat → Nat) (cA : Nat → ClassId), decode (xz_mb y) pc = .ok (ins, 1) → xz_Ri y ins r.1 → (∀ v ∈ r.1.toList, xz_vv r.2.1.length v) →
      va_P D vwCl (xz_ws ad cA r.2) H → va_K D vwCl tys s → va_D A (xz_ws ad cA r.2) → va_S A s.heap H locs → xz_Wf cA tys r.2 → (∀ k, k < n0 ∨ 1000 ≤ k → ad k = ad0 k) → W p l e R s m args below meth c H locs mc ms Q (F0 m pc ls (r.1.toList.map (xz_V ad))))
    (hLp : ∀ (k pc : Nat) (L : xz_L) (S : List Value) (M : xz_M) (ls : Array Slot) (H : Heap) (locs : List Loc) (cells slots : Nat) (tys : List (ClassId × FieldType)) (ad : Nat → Nat) (cA : Nat → ClassId), xz_pcA (xz_code y) k pc = true → Lp k L S M = some r → lv_has ls (xz_ml y) (xz_VL ad L) → (∀ q ∈ L, xz_vv M.1.length q.2) → (∀ v ∈ S, xz_vv M.1.length v) →
      va_P D vwCl (xz_ws ad cA M) H → va_K D vwCl tys s → va_D A (xz_ws ad cA M) → va_S A s.heap H locs → xz_Wf cA tys M → (∀ k, k < n0 ∨ 1000 ≤ k → ad k = ad0 k) → n0 ≤ M.1.length → cells + r.2.1.length = mc + M.1.length → slots + xz_slt r.2 = ms + xz_slt M → W p l e R s m args below meth c H locs cells slots Q (F0 m pc ls (S.map (xz_V ad))))
    (hC : ∀ (w : Nat) (as : List Value) (M : xz_M) (ov : Option Value) (M1 : xz_M), 0 < w → w < 200 → w ≠ q_JD_max → RR w as M = some (ov, M1) → M1.1.length ≤ 900 → ∃ dw, d = dw + 1 ∧ xz_Ct l D dw w as M (ov, M1)) :
    ∀ (s' k pc : Nat) (L : xz_L) (S : List Value) (M : xz_M) (ls : Array Slot) (H : Heap) (locs : List Loc) (cells slots : Nat) (tys : List (ClassId × FieldType)) (ad : Nat → Nat) (cA : Nat → ClassId), xz_pcA (xz_code y) k pc = true → xz_blk RR Lp true X xz_lc (xz_code y) s' ((xz_code y).drop k) L S M = some r → lv_has ls (xz_ml y) (xz_VL ad L) → (∀ q ∈ L, xz_vv M.1.length q.2) → (∀ v ∈ S, xz_vv M.1.length v) →
      va_P D vwCl (xz_ws ad cA M) H → va_K D vwCl tys s → va_D A (xz_ws ad cA M) → va_S A s.heap H locs → xz_Wf cA tys M → (∀ k, k < n0 ∨ 1000 ≤ k → ad k = ad0 k) → n0 ≤ M.1.length → cells + r.2.1.length = mc + M.1.length → slots + xz_slt r.2 = ms + xz_slt M → W p l e R s m args below meth c H locs cells slots Q (F0 m pc ls (S.map (xz_V ad))) := by
  obtain ⟨hx, hb, hml, hown, hts, hnm, hfr, hlo, hmc, hms, hokm⟩ := id F
  intro s'
  induction s' with
  | zero => intro k pc L S M ls H locs cells slots tys ad cA _ h; cases h
  | succ s' ih =>
    intro k pc L S M ls H locs cells slots tys ad cA hpc h hl hvL hvS hP hK hD hS hW hag hn0 hc hs
    cases hk : (xz_code y)[k]? with
    | none =>
      unfold xz_pcA at hpc
      rw [hk] at hpc
      cases hpc
    | some op =>
      rw [xz_drop_at hk] at h
      obtain ⟨hd, hok⟩ := xz_okm_at hokm hk
      obtain ⟨ins, ⟨pc', len⟩, ⟨a, b, c0, e0⟩, v, ts⟩ := op
      obtain rfl : pc' = pc := by
        unfold xz_pcA at hpc
        rw [hk] at hpc
        simpa using hpc
      -- same heap, new locals and stack
      have nxL : ∀ (k' pc' : Nat) (ls' : Array Slot) (L' : xz_L) (S' : List Value), xz_pcA (xz_code y) k' pc' = true → lv_has ls' (xz_ml y) (xz_VL ad L') → (∀ q ∈ L', xz_vv M.1.length q.2) → (∀ v ∈ S', xz_vv M.1.length v) → xz_blk RR Lp true X xz_lc (xz_code y) s' ((xz_code y).drop k') L' S' M = some r → W p l e R s m args below meth c H locs cells slots Q (F0 m pc' ls' (S'.map (xz_V ad))) :=
        fun k' pc' ls' L' S' h1 h2 h3 h4 h5 => ih k' pc' L' S' M ls' H locs cells slots tys ad cA h1 h5 h2 h3 h4 hP hK hD hS hW hag hn0 hc hs
      have nx : ∀ (k' pc' : Nat) (S' : List Value), xz_pcA (xz_code y) k' pc' = true → (∀ v ∈ S', xz_vv M.1.length v) → xz_blk RR Lp true X xz_lc (xz_code y) s' ((xz_code y).drop k') L S' M = some r → W p l e R s m args below meth c H locs cells slots Q (F0 m pc' ls (S'.map (xz_V ad))) :=
        fun k' pc' S' h1 h4 h5 => nxL k' pc' ls L S' h1 hl hvL h4 h5
      have nxM : ∀ (k' pc' : Nat) (S' : List Value) (M' : xz_M) (H' : Heap) (locs' : List Loc), xz_pcA (xz_code y) k' pc' = true → (∀ v ∈ S', xz_vv M.1.length v) → M'.1.length = M.1.length → xz_slt M' = xz_slt M → va_P D vwCl (xz_ws ad cA M') H' → va_D A (xz_ws ad cA M') → va_S A s.heap H' locs' → xz_Wf cA tys M' → xz_blk RR Lp true X xz_lc (xz_code y) s' ((xz_code y).drop k') L S' M' = some r → W p l e R s m args below meth c H' locs' cells slots Q (F0 m pc' ls (S'.map (xz_V ad))) :=
        fun k' pc' S' M' H' locs' h1 h2 h3 h4 h5 h6 h7 h8 h9 => ih k' pc' L S' M' ls H' locs' cells slots tys ad cA h1 h9 hl (by rw [h3]; exact hvL) (by rw [h3]; exact h2) h5 hK h6 h7 h8 hag (by rw [h3]; exact hn0) (by rw [h3]; exact hc) (by rw [h4]; exact hs)
      have dec : ins ≠ .nop → decode (xz_mb y) pc' = .ok (ins, len) := by
        intro hi
        unfold xz_okd at hd
        simpa [hi] using hd
      -- behind a call
      have after : ∀ (ov : Option Value) (M1 : xz_M) (S1 : List Value) (H1 : Heap) (locs1 : List Loc) (tys1 : List (ClassId × FieldType)) (ad1 : Nat → Nat) (cA1 : Nat → ClassId) (pc1 : Nat), xz_pcA (xz_code y) (k + 1) pc1 = true → xz_le M M1 → (∀ v ∈ S1, xz_vv M.1.length v) → (∀ k, k < M.1.length ∨ 1000 ≤ k → ad1 k = ad k) → va_P D vwCl (xz_ws ad1 cA1 M1) H1 → va_K D vwCl tys1 s → va_D A (xz_ws ad1 cA1 M1) → va_S A s.heap H1 locs1 → xz_Wf cA1 tys1 M1 → (∀ v ∈ ov.toList, xz_vv M1.1.length v) →
          xz_blk RR Lp true X xz_lc (xz_code y) s' ((xz_code y).drop (k + 1)) L (ov.toList ++ S1) M1 = some r → W p l e R s m args below meth c H1 locs1 (cells + (M1.1.length - M.1.length)) (slots + (xz_slt M1 - xz_slt M)) Q (F0 m pc1 ls ((ov.map (xz_V ad1)).toList ++ S1.map (xz_V ad))) := by
        intro ov M1 S1 H1 locs1 tys1 ad1 cA1 pc1 g0 g1 g2 g3 g4 g5 g6 g7 g8 g9 g10
        have e1 : (ov.map (xz_V ad1)).toList ++ S1.map (xz_V ad) = (ov.toList ++ S1).map (xz_V ad1) := by
          rw [List.map_append, xz_VS_congr g3 g2]
          cases ov <;> rfl
        rw [e1]
        obtain ⟨g11, g12⟩ := g1
        refine ih (k + 1) pc1 L (ov.toList ++ S1) M1 ls H1 locs1 _ _ tys1 ad1 cA1 g0 g10 (by rw [xz_VL_congr g3 hvL]; exact hl) (fun q hq => xz_vv_mono g11 (hvL q hq)) (fun v hv => (List.mem_append.mp hv).elim (g9 v) (fun hh => xz_vv_mono g11 (g2 v hh))) g4 g5 g6 g7 g8 (fun k' hk' => ?_) (Nat.le_trans hn0 g11) (by omega) (by omega)
        rw [g3 k' (hk'.imp (fun z => Nat.lt_of_lt_of_le z hn0) id)]
        exact hag k' hk'
      cases ins
      case nop =>
        simp only [xz_oks, Bool.and_eq_true, beq_iff_eq] at hok
        obtain ⟨rfl, hn⟩ := hok
        exact hLp _ _ _ _ _ _ _ _ _ _ _ _ _ hn h (xz_pick_has ts hl) (fun q hq => hvL q (xz_pick_mem hq)) hvS hP hK hD hS hW hag hn0 hc hs
      case iconst z =>
        have hd := dec (by simp)
        simp only [xz_oks, Bool.and_eq_true, beq_iff_eq, decide_eq_true_eq, Nat.blt_eq] at hok
        obtain ⟨⟨rfl, hn⟩, hv⟩ := hok
        exact lv_iconst hx hb hd hv (nx _ _ (.int v :: S) hn (xz_vc trivial hvS) h)
      case bipush z =>
        have hd := dec (by simp)
        simp only [xz_oks, Bool.and_eq_true, beq_iff_eq, decide_eq_true_eq, Nat.blt_eq] at hok
        obtain ⟨⟨rfl, hn⟩, hv⟩ := hok
        exact lv_bipush hx hb hd hv (nx _ _ (.int v :: S) hn (xz_vc trivial hvS) h)
      case sipush z =>
        have hd := dec (by simp)
        simp only [xz_oks, Bool.and_eq_true, beq_iff_eq, decide_eq_true_eq, Nat.blt_eq] at hok
        obtain ⟨⟨rfl, hn⟩, hv⟩ := hok
        exact lv_sipush hx hb hd hv (nx _ _ (.int v :: S) hn (xz_vc trivial hvS) h)
      case lconst z =>
        have hd := dec (by simp)
        simp only [xz_oks, Bool.and_eq_true, beq_iff_eq, decide_eq_true_eq, Nat.blt_eq] at hok
        obtain ⟨⟨rfl, hn⟩, hv⟩ := hok
        exact lv_lconst hx hb hd hv (nx _ _ (.long (xz_lc a) :: S) hn (xz_vc trivial hvS) h)
      case ldc2_w z =>
        have hd := dec (by simp)
        simp only [xz_oks, Bool.and_eq_true, beq_iff_eq, decide_eq_true_eq, Nat.blt_eq] at hok
        obtain ⟨⟨rfl, hn⟩, hv⟩ := hok
        have hw := xz_pl_ok (f := fun (q : Nat × Nat × Nat) => .constantLong (xz_RN q.1) q.2.1 (xz_lc q.2.2)) xz_JWc (xz_mo y, z, a) (xz_cm hv)
        exact lv_ldc2 hx hb hown (hts _ hw) hd (nx _ _ (.long (xz_lc a) :: S) hn (xz_vc trivial hvS) h)
      case ldc_w z =>
        have hd := dec (by simp)
        simp only [xz_oks, Bool.and_eq_true, beq_iff_eq, decide_eq_true_eq, Nat.blt_eq] at hok
        obtain ⟨⟨rfl, hn⟩, hv⟩ := hok
        have hw := xz_pl_ok (f := fun (q : Nat × Nat × Int32) => .constant (xz_RN q.1) q.2.1 q.2.2) xz_IWc (xz_mo y, z, v) (xz_cm hv)
        exact lv_ldcw hx hb hown (hts _ hw) hd (nx _ _ (.int v :: S) hn (xz_vc trivial hvS) h)
      case ldc z =>
        have hd := dec (by simp)
        simp only [xz_oks, Bool.and_eq_true, beq_iff_eq, decide_eq_true_eq, Nat.blt_eq] at hok
        obtain ⟨⟨rfl, hn⟩, hv⟩ := hok
        cases hb1 : (b == 1) with
        | false =>
          rw [hb1] at hv
          have h : (bif b == 1 then _ else _) = some r := h
          rw [hb1] at h
          have hw := xz_pl_ok (f := fun (q : Nat × Nat × Int32) => .constant (xz_RN q.1) q.2.1 q.2.2) xz_IWc (xz_mo y, z, v) (xz_cm hv)
          exact lv_ldc hx hb hown (hts _ hw) hd (nx _ _ (.int v :: S) hn (xz_vc trivial hvS) h)
        | true =>
          rw [hb1] at hv
          have h : (bif b == 1 then _ else _) = some r := h
          rw [hb1] at h
          have hw := hE.2.1 (xz_mo y, z, a) (xz_cm hv)
          have e : ad (2000 + a) = ad0 (2000 + a) := hag _ (Or.inr (by omega))
          exact va_ldcS hx hb hown hw hd (by rw [← e]; exact nx _ _ (.ref (2000 + a) :: S) hn (xz_vc (show xz_vv M.1.length (.ref (2000 + a)) from Or.inr (Nat.le_trans (by decide) (Nat.le_add_right 2000 a))) hvS) h)
      case iload_n z =>
        have hd := dec (by simp)
        simp only [xz_oks, Bool.and_eq_true, beq_iff_eq, decide_eq_true_eq, Nat.blt_eq] at hok
        obtain ⟨rfl, hn⟩ := hok
        obtain ⟨x1, hg, h⟩ := xz_lI_i h
        exact lv_iload_n hx hb hd rfl (xz_get_l hl hg) (nx _ _ (.int x1 :: S) hn (xz_vc trivial hvS) h)
      case iload z =>
        have hd := dec (by simp)
        simp only [xz_oks, Bool.and_eq_true, beq_iff_eq, decide_eq_true_eq, Nat.blt_eq] at hok
        obtain ⟨rfl, hn⟩ := hok
        obtain ⟨x1, hg, h⟩ := xz_lI_i h
        exact lv_iload hx hb hd (xz_get_l hl hg) (nx _ _ (.int x1 :: S) hn (xz_vc trivial hvS) h)
      case lload_n z =>
        have hd := dec (by simp)
        simp only [xz_oks, Bool.and_eq_true, beq_iff_eq, decide_eq_true_eq, Nat.blt_eq] at hok
        obtain ⟨rfl, hn⟩ := hok
        obtain ⟨x1, hg, h⟩ := xz_lJ_i h
        exact lv_lload_n hx hb hd rfl (xz_get_l hl hg) (nx _ _ (.long x1 :: S) hn (xz_vc trivial hvS) h)
      case lload z =>
        have hd := dec (by simp)
        simp only [xz_oks, Bool.and_eq_true, beq_iff_eq, decide_eq_true_eq, Nat.blt_eq] at hok
        obtain ⟨rfl, hn⟩ := hok
        obtain ⟨x1, hg, h⟩ := xz_lJ_i h
        exact lv_lload hx hb hd (xz_get_l hl hg) (nx _ _ (.long x1 :: S) hn (xz_vc trivial hvS) h)
      case aload_n z =>
        have hd := dec (by simp)
        simp only [xz_oks, Bool.and_eq_true, beq_iff_eq, decide_eq_true_eq, Nat.blt_eq] at hok
        obtain ⟨rfl, hn⟩ := hok
        obtain ⟨x1, hg, h⟩ := xz_lR_i h
        exact lv_aload_n hx hb hd rfl (xz_get_l hl hg) (nx _ _ (.ref x1 :: S) hn (xz_vc (xz_vL_get hvL hg) hvS) h)
      case aload z =>
        have hd := dec (by simp)
        simp only [xz_oks, Bool.and_eq_true, beq_iff_eq, decide_eq_true_eq, Nat.blt_eq] at hok
        obtain ⟨rfl, hn⟩ := hok
        obtain ⟨x1, hg, h⟩ := xz_lR_i h
        exact lv_aload hx hb hd (xz_get_l hl hg) (nx _ _ (.ref x1 :: S) hn (xz_vc (xz_vL_get hvL hg) hvS) h)
      case istore_n z =>
        have hd := dec (by simp)
        simp only [xz_oks, Bool.and_eq_true, beq_iff_eq, decide_eq_true_eq, Nat.blt_eq] at hok
        obtain ⟨⟨rfl, hn⟩, hlt⟩ := hok
        obtain ⟨x1, S1, rfl, h⟩ := xz_pI_i h
        exact lv_istore_n (lv' := xz_VL ad (xz_s1 L z.val (.int x1))) hx hb hd rfl hl hlt (xz_VL_s1 rfl) (fun ls' hl' => nxL _ _ ls' _ S1 hn hl' (xz_vL_s1 hvL trivial) (xz_v1 hvS) h)
      case istore z =>
        have hd := dec (by simp)
        simp only [xz_oks, Bool.and_eq_true, beq_iff_eq, decide_eq_true_eq, Nat.blt_eq] at hok
        obtain ⟨⟨rfl, hn⟩, hlt⟩ := hok
        obtain ⟨x1, S1, rfl, h⟩ := xz_pI_i h
        exact lv_istore (lv' := xz_VL ad (xz_s1 L z (.int x1))) hx hb hd hl hlt (xz_VL_s1 rfl) (fun ls' hl' => nxL _ _ ls' _ S1 hn hl' (xz_vL_s1 hvL trivial) (xz_v1 hvS) h)
      case lstore_n z =>
        have hd := dec (by simp)
        simp only [xz_oks, Bool.and_eq_true, beq_iff_eq, decide_eq_true_eq, Nat.blt_eq] at hok
        obtain ⟨⟨rfl, hn⟩, hlt⟩ := hok
        obtain ⟨x1, S1, rfl, h⟩ := xz_pJ_i h
        exact lv_lstore_n (lv' := xz_VL ad (xz_s2 L z.val (.long x1))) hx hb hd rfl hl hlt (xz_VL_s2 rfl) (fun ls' hl' => nxL _ _ ls' _ S1 hn hl' (xz_vL_s2 hvL trivial) (xz_v1 hvS) h)
      case lstore z =>
        have hd := dec (by simp)
        simp only [xz_oks, Bool.and_eq_true, beq_iff_eq, decide_eq_true_eq, Nat.blt_eq] at hok
        obtain ⟨⟨rfl, hn⟩, hlt⟩ := hok
        obtain ⟨x1, S1, rfl, h⟩ := xz_pJ_i h
        exact lv_lstore (lv' := xz_VL ad (xz_s2 L z (.long x1))) hx hb hd hl hlt (xz_VL_s2 rfl) (fun ls' hl' => nxL _ _ ls' _ S1 hn hl' (xz_vL_s2 hvL trivial) (xz_v1 hvS) h)
      case astore_n z =>
        have hd := dec (by simp)
        simp only [xz_oks, Bool.and_eq_true, beq_iff_eq, decide_eq_true_eq, Nat.blt_eq] at hok
        obtain ⟨⟨rfl, hn⟩, hlt⟩ := hok
        obtain ⟨x1, S1, rfl, h⟩ := xz_pR_i h
        exact lv_astore_n (lv' := xz_VL ad (xz_s1 L z.val (.ref x1))) hx hb hd rfl hl hlt (xz_VL_s1 rfl) (fun ls' hl' => nxL _ _ ls' _ S1 hn hl' (xz_vL_s1 hvL (hvS _ List.mem_cons_self)) (xz_v1 hvS) h)
      case astore z =>
        have hd := dec (by simp)
        simp only [xz_oks, Bool.and_eq_true, beq_iff_eq, decide_eq_true_eq, Nat.blt_eq] at hok
        obtain ⟨⟨rfl, hn⟩, hlt⟩ := hok
        obtain ⟨x1, S1, rfl, h⟩ := xz_pR_i h
        exact lv_astore (lv' := xz_VL ad (xz_s1 L z (.ref x1))) hx hb hd hl hlt (xz_VL_s1 rfl) (fun ls' hl' => nxL _ _ ls' _ S1 hn hl' (xz_vL_s1 hvL (hvS _ List.mem_cons_self)) (xz_v1 hvS) h)
      case iinc z w =>
        have hd := dec (by simp)
        simp only [xz_oks, Bool.and_eq_true, beq_iff_eq, decide_eq_true_eq, Nat.blt_eq] at hok
        obtain ⟨⟨⟨rfl, hn⟩, hlt⟩, hv⟩ := hok
        obtain ⟨x1, hg, h⟩ := xz_lI_i h
        obtain ⟨kp, hkp⟩ := List.getElem?_of_mem (show (z, Value.int x1) ∈ xz_VL ad L from List.mem_map.mpr ⟨(z, .int x1), xz_get_mem hg, rfl⟩)
        exact lv_iinc (k := kp) (v := x1 + v) (lv' := xz_VL ad (xz_s1 L z (.int (x1 + v)))) hx hb hd hl hkp (by rw [hv]) hlt (xz_VL_s1 rfl) (fun ls' hl' => nxL _ _ ls' _ S hn hl' (xz_vL_s1 hvL trivial) hvS h)
      case iadd =>
        have hd := dec (by simp)
        simp only [xz_oks, Bool.and_eq_true, beq_iff_eq, decide_eq_true_eq, Nat.blt_eq] at hok
        obtain ⟨rfl, hn⟩ := hok
        obtain ⟨y1, S1, rfl, h⟩ := xz_pI_i h
        obtain ⟨x1, S2, rfl, h⟩ := xz_pI_i h
        exact lv_iadd hx hb hd (nx _ _ (.int (x1 + y1) :: S2) hn (xz_vc trivial (xz_v1 (xz_v1 hvS))) h)
      case isub =>
        have hd := dec (by simp)
        simp only [xz_oks, Bool.and_eq_true, beq_iff_eq, decide_eq_true_eq, Nat.blt_eq] at hok
        obtain ⟨rfl, hn⟩ := hok
        obtain ⟨y1, S1, rfl, h⟩ := xz_pI_i h
        obtain ⟨x1, S2, rfl, h⟩ := xz_pI_i h
        exact lv_isub hx hb hd (nx _ _ (.int (x1 - y1) :: S2) hn (xz_vc trivial (xz_v1 (xz_v1 hvS))) h)
      case imul =>
        have hd := dec (by simp)
        simp only [xz_oks, Bool.and_eq_true, beq_iff_eq, decide_eq_true_eq, Nat.blt_eq] at hok
        obtain ⟨rfl, hn⟩ := hok
        obtain ⟨y1, S1, rfl, h⟩ := xz_pI_i h
        obtain ⟨x1, S2, rfl, h⟩ := xz_pI_i h
        exact lv_imul hx hb hd (nx _ _ (.int (x1 * y1) :: S2) hn (xz_vc trivial (xz_v1 (xz_v1 hvS))) h)
      case iand =>
        have hd := dec (by simp)
        simp only [xz_oks, Bool.and_eq_true, beq_iff_eq, decide_eq_true_eq, Nat.blt_eq] at hok
        obtain ⟨rfl, hn⟩ := hok
        obtain ⟨y1, S1, rfl, h⟩ := xz_pI_i h
        obtain ⟨x1, S2, rfl, h⟩ := xz_pI_i h
        exact lv_iand hx hb hd (nx _ _ (.int (x1 &&& y1) :: S2) hn (xz_vc trivial (xz_v1 (xz_v1 hvS))) h)
      case ior =>
        have hd := dec (by simp)
        simp only [xz_oks, Bool.and_eq_true, beq_iff_eq, decide_eq_true_eq, Nat.blt_eq] at hok
        obtain ⟨rfl, hn⟩ := hok
        obtain ⟨y1, S1, rfl, h⟩ := xz_pI_i h
        obtain ⟨x1, S2, rfl, h⟩ := xz_pI_i h
        exact lv_ior hx hb hd (nx _ _ (.int (x1 ||| y1) :: S2) hn (xz_vc trivial (xz_v1 (xz_v1 hvS))) h)
      case ishl =>
        have hd := dec (by simp)
        simp only [xz_oks, Bool.and_eq_true, beq_iff_eq, decide_eq_true_eq, Nat.blt_eq] at hok
        obtain ⟨rfl, hn⟩ := hok
        obtain ⟨y1, S1, rfl, h⟩ := xz_pI_i h
        obtain ⟨x1, S2, rfl, h⟩ := xz_pI_i h
        exact lv_ishl hx hb hd (nx _ _ (.int (x1 <<< (y1 &&& 31)) :: S2) hn (xz_vc trivial (xz_v1 (xz_v1 hvS))) h)
      case ishr =>
        have hd := dec (by simp)
        simp only [xz_oks, Bool.and_eq_true, beq_iff_eq, decide_eq_true_eq, Nat.blt_eq] at hok
        obtain ⟨rfl, hn⟩ := hok
        obtain ⟨y1, S1, rfl, h⟩ := xz_pI_i h
        obtain ⟨x1, S2, rfl, h⟩ := xz_pI_i h
        exact lv_ishr hx hb hd (nx _ _ (.int (x1 >>> (y1 &&& 31)) :: S2) hn (xz_vc trivial (xz_v1 (xz_v1 hvS))) h)
      case iushr =>
        have hd := dec (by simp)
        simp only [xz_oks, Bool.and_eq_true, beq_iff_eq, decide_eq_true_eq, Nat.blt_eq] at hok
        obtain ⟨rfl, hn⟩ := hok
        obtain ⟨y1, S1, rfl, h⟩ := xz_pI_i h
        obtain ⟨x1, S2, rfl, h⟩ := xz_pI_i h
        exact lv_iushr hx hb hd rfl (nx _ _ (.int ((x1.toUInt32 >>> (y1.toUInt32 &&& Int32.toUInt32 31)).toInt32) :: S2) hn (xz_vc trivial (xz_v1 (xz_v1 hvS))) h)
      case ladd =>
        have hd := dec (by simp)
        simp only [xz_oks, Bool.and_eq_true, beq_iff_eq, decide_eq_true_eq, Nat.blt_eq] at hok
        obtain ⟨rfl, hn⟩ := hok
        obtain ⟨y1, S1, rfl, h⟩ := xz_pJ_i h
        obtain ⟨x1, S2, rfl, h⟩ := xz_pJ_i h
        exact lv_ladd hx hb hd (nx _ _ (.long (x1 + y1) :: S2) hn (xz_vc trivial (xz_v1 (xz_v1 hvS))) h)
      case lmul =>
        have hd := dec (by simp)
        simp only [xz_oks, Bool.and_eq_true, beq_iff_eq, decide_eq_true_eq, Nat.blt_eq] at hok
        obtain ⟨rfl, hn⟩ := hok
        obtain ⟨y1, S1, rfl, h⟩ := xz_pJ_i h
        obtain ⟨x1, S2, rfl, h⟩ := xz_pJ_i h
        exact lv_lmul hx hb hd (nx _ _ (.long (x1 * y1) :: S2) hn (xz_vc trivial (xz_v1 (xz_v1 hvS))) h)
      case land =>
        have hd := dec (by simp)
        simp only [xz_oks, Bool.and_eq_true, beq_iff_eq, decide_eq_true_eq, Nat.blt_eq] at hok
        obtain ⟨rfl, hn⟩ := hok
        obtain ⟨y1, S1, rfl, h⟩ := xz_pJ_i h
        obtain ⟨x1, S2, rfl, h⟩ := xz_pJ_i h
        exact lv_land hx hb hd (nx _ _ (.long (x1 &&& y1) :: S2) hn (xz_vc trivial (xz_v1 (xz_v1 hvS))) h)
      case lor =>
        have hd := dec (by simp)
        simp only [xz_oks, Bool.and_eq_true, beq_iff_eq, decide_eq_true_eq, Nat.blt_eq] at hok
        obtain ⟨rfl, hn⟩ := hok
        obtain ⟨y1, S1, rfl, h⟩ := xz_pJ_i h
        obtain ⟨x1, S2, rfl, h⟩ := xz_pJ_i h
        exact lv_lor hx hb hd (nx _ _ (.long (x1 ||| y1) :: S2) hn (xz_vc trivial (xz_v1 (xz_v1 hvS))) h)
      case ldiv =>
        have hd := dec (by simp)
        simp only [xz_oks, Bool.and_eq_true, beq_iff_eq, decide_eq_true_eq, Nat.blt_eq] at hok
        obtain ⟨rfl, hn⟩ := hok
        obtain ⟨y1, S1, hS1, hp⟩ := xz_pJ_i h
        obtain ⟨x1, S2, hS2, hq⟩ := xz_pJ_i hp
        subst hS2
        subst hS1
        by_cases hy : y1 = 0
        · simp only [if_pos hy] at hq
          cases hq
        · simp only [if_neg hy] at hq
          exact lv_ldiv hx hb hd hy (nx _ _ (.long (x1 / y1) :: S2) hn (xz_vc trivial (xz_v1 (xz_v1 hvS))) hq)
      case lrem =>
        have hd := dec (by simp)
        simp only [xz_oks, Bool.and_eq_true, beq_iff_eq, decide_eq_true_eq, Nat.blt_eq] at hok
        obtain ⟨rfl, hn⟩ := hok
        obtain ⟨y1, S1, hS1, hp⟩ := xz_pJ_i h
        obtain ⟨x1, S2, hS2, hq⟩ := xz_pJ_i hp
        subst hS2
        subst hS1
        by_cases hy : y1 = 0
        · simp only [if_pos hy] at hq
          cases hq
        · simp only [if_neg hy] at hq
          exact lv_lrem hx hb hd hy (nx _ _ (.long (x1 - x1 / y1 * y1) :: S2) hn (xz_vc trivial (xz_v1 (xz_v1 hvS))) hq)
      case lshl =>
        have hd := dec (by simp)
        simp only [xz_oks, Bool.and_eq_true, beq_iff_eq, decide_eq_true_eq, Nat.blt_eq] at hok
        obtain ⟨rfl, hn⟩ := hok
        obtain ⟨y1, S1, rfl, h⟩ := xz_pI_i h
        obtain ⟨x1, S2, rfl, h⟩ := xz_pJ_i h
        exact lv_lshl hx hb hd rfl (nx _ _ (.long (x1 <<< (y1.toInt64 &&& 63)) :: S2) hn (xz_vc trivial (xz_v1 (xz_v1 hvS))) h)
      case lcmp =>
        have hd := dec (by simp)
        simp only [xz_oks, Bool.and_eq_true, beq_iff_eq, decide_eq_true_eq, Nat.blt_eq] at hok
        obtain ⟨rfl, hn⟩ := hok
        obtain ⟨y1, S1, rfl, h⟩ := xz_pJ_i h
        obtain ⟨x1, S2, rfl, h⟩ := xz_pJ_i h
        exact W.lcmp hx hb hd (nx _ _ (.int (lg_cmp x1 y1) :: S2) hn (xz_vc trivial (xz_v1 (xz_v1 hvS))) h)
      case i2l =>
        have hd := dec (by simp)
        simp only [xz_oks, Bool.and_eq_true, beq_iff_eq, decide_eq_true_eq, Nat.blt_eq] at hok
        obtain ⟨rfl, hn⟩ := hok
        obtain ⟨x1, S1, rfl, h⟩ := xz_pI_i h
        exact lv_i2l hx hb hd rfl (nx _ _ (.long x1.toInt64 :: S1) hn (xz_vc trivial (xz_v1 hvS)) h)
      case l2i =>
        have hd := dec (by simp)
        simp only [xz_oks, Bool.and_eq_true, beq_iff_eq, decide_eq_true_eq, Nat.blt_eq] at hok
        obtain ⟨rfl, hn⟩ := hok
        obtain ⟨x1, S1, rfl, h⟩ := xz_pJ_i h
        exact lv_l2i hx hb hd rfl (nx _ _ (.int x1.toInt32 :: S1) hn (xz_vc trivial (xz_v1 hvS)) h)
      case i2b =>
        have hd := dec (by simp)
        simp only [xz_oks, Bool.and_eq_true, beq_iff_eq, decide_eq_true_eq, Nat.blt_eq] at hok
        obtain ⟨rfl, hn⟩ := hok
        obtain ⟨x1, S1, rfl, h⟩ := xz_pI_i h
        exact lv_i2b hx hb hd rfl (nx _ _ (.int x1.toInt8.toInt32 :: S1) hn (xz_vc trivial (xz_v1 hvS)) h)
      case i2s =>
        have hd := dec (by simp)
        simp only [xz_oks, Bool.and_eq_true, beq_iff_eq, decide_eq_true_eq, Nat.blt_eq] at hok
        obtain ⟨rfl, hn⟩ := hok
        obtain ⟨x1, S1, rfl, h⟩ := xz_pI_i h
        exact lv_i2s hx hb hd rfl (nx _ _ (.int x1.toInt16.toInt32 :: S1) hn (xz_vc trivial (xz_v1 hvS)) h)
      case i2c =>
        have hd := dec (by simp)
        simp only [xz_oks, Bool.and_eq_true, beq_iff_eq, decide_eq_true_eq, Nat.blt_eq] at hok
        obtain ⟨rfl, hn⟩ := hok
        obtain ⟨x1, S1, rfl, h⟩ := xz_pI_i h
        exact lv_i2c hx hb hd rfl (nx _ _ (.int (x1.toUInt32 % 65536).toInt32 :: S1) hn (xz_vc trivial (xz_v1 hvS)) h)
      case dup =>
        have hd := dec (by simp)
        simp only [xz_oks, Bool.and_eq_true, beq_iff_eq, decide_eq_true_eq, Nat.blt_eq] at hok
        obtain ⟨rfl, hn⟩ := hok
        have h : xz_p1 S (fun x S => xz_blk RR Lp true X xz_lc (xz_code y) s' ((xz_code y).drop (k + 1)) L (x :: x :: S) M) = some r := h
        obtain ⟨w, S1, rfl, hw, h⟩ := xz_p1_i h
        have h1 : (xz_V ad w).category = 1 := by rw [xz_V_cat]; rcases hw with ⟨z, rfl⟩ | ⟨z, rfl⟩ <;> rfl
        exact lv_dup hx hb hd h1 (nx _ _ (w :: w :: S1) hn (xz_vc (hvS _ List.mem_cons_self) hvS) h)
      case pop =>
        have hd := dec (by simp)
        simp only [xz_oks, Bool.and_eq_true, beq_iff_eq, decide_eq_true_eq, Nat.blt_eq] at hok
        obtain ⟨rfl, hn⟩ := hok
        have h : xz_p1 S (fun _ S => xz_blk RR Lp true X xz_lc (xz_code y) s' ((xz_code y).drop (k + 1)) L S M) = some r := h
        obtain ⟨w, S1, rfl, hw, h⟩ := xz_p1_i h
        have h1 : (xz_V ad w).category = 1 := by rw [xz_V_cat]; rcases hw with ⟨z, rfl⟩ | ⟨z, rfl⟩ <;> rfl
        exact lv_pop hx hb hd h1 (nx _ _ S1 hn (xz_v1 hvS) h)
      case ifCond q z =>
        cases q
        case eq =>
          have hd := dec (by simp)
          simp only [xz_oks, Bool.and_eq_true, beq_iff_eq] at hok
          obtain ⟨⟨rfl, hn⟩, hj⟩ := hok
          obtain ⟨tg, htg, hto⟩ := xz_pcJ_i hj
          obtain ⟨x1, S1, hS1, hq⟩ := xz_pI_i h
          subst hS1
          refine lv_if_eq hx hb hd hto (fun hz => ?_) (fun hz => ?_)
          · simp only [if_pos hz] at hq; exact nx _ _ S1 htg (xz_v1 hvS) hq
          · simp only [if_neg hz] at hq; exact nx _ _ S1 hn (xz_v1 hvS) hq
        case ne =>
          have hd := dec (by simp)
          simp only [xz_oks, Bool.and_eq_true, beq_iff_eq] at hok
          obtain ⟨⟨rfl, hn⟩, hj⟩ := hok
          obtain ⟨tg, htg, hto⟩ := xz_pcJ_i hj
          obtain ⟨x1, S1, hS1, hq⟩ := xz_pI_i h
          subst hS1
          refine lv_if_ne hx hb hd hto (fun hz => ?_) (fun hz => ?_)
          · simp only [if_neg hz] at hq; exact nx _ _ S1 htg (xz_v1 hvS) hq
          · simp only [if_pos hz] at hq; exact nx _ _ S1 hn (xz_v1 hvS) hq
        case lt =>
          have hd := dec (by simp)
          simp only [xz_oks, Bool.and_eq_true, beq_iff_eq] at hok
          obtain ⟨⟨rfl, hn⟩, hj⟩ := hok
          obtain ⟨tg, htg, hto⟩ := xz_pcJ_i hj
          obtain ⟨x1, S1, hS1, hq⟩ := xz_pI_i h
          subst hS1
          refine lv_if_lt hx hb hd hto (fun hz => ?_) (fun hz => ?_)
          · simp only [if_pos hz] at hq; exact nx _ _ S1 htg (xz_v1 hvS) hq
          · simp only [if_neg hz] at hq; exact nx _ _ S1 hn (xz_v1 hvS) hq
        case ge =>
          have hd := dec (by simp)
          simp only [xz_oks, Bool.and_eq_true, beq_iff_eq] at hok
          obtain ⟨⟨rfl, hn⟩, hj⟩ := hok
          obtain ⟨tg, htg, hto⟩ := xz_pcJ_i hj
          obtain ⟨x1, S1, hS1, hq⟩ := xz_pI_i h
          subst hS1
          refine lv_if_ge hx hb hd hto (fun hz => ?_) (fun hz => ?_)
          · simp only [if_pos hz] at hq; exact nx _ _ S1 htg (xz_v1 hvS) hq
          · simp only [if_neg hz] at hq; exact nx _ _ S1 hn (xz_v1 hvS) hq
        case gt =>
          have hd := dec (by simp)
          simp only [xz_oks, Bool.and_eq_true, beq_iff_eq] at hok
          obtain ⟨⟨rfl, hn⟩, hj⟩ := hok
          obtain ⟨tg, htg, hto⟩ := xz_pcJ_i hj
          obtain ⟨x1, S1, hS1, hq⟩ := xz_pI_i h
          subst hS1
          refine lv_if_gt hx hb hd hto (fun hz => ?_) (fun hz => ?_)
          · simp only [if_pos hz] at hq; exact nx _ _ S1 htg (xz_v1 hvS) hq
          · simp only [if_neg hz] at hq; exact nx _ _ S1 hn (xz_v1 hvS) hq
        case le =>
          have hd := dec (by simp)
          simp only [xz_oks, Bool.and_eq_true, beq_iff_eq] at hok
          obtain ⟨⟨rfl, hn⟩, hj⟩ := hok
          obtain ⟨tg, htg, hto⟩ := xz_pcJ_i hj
          obtain ⟨x1, S1, hS1, hq⟩ := xz_pI_i h
          subst hS1
          refine lv_if_le hx hb hd hto (fun hz => ?_) (fun hz => ?_)
          · simp only [if_pos hz] at hq; exact nx _ _ S1 htg (xz_v1 hvS) hq
          · simp only [if_neg hz] at hq; exact nx _ _ S1 hn (xz_v1 hvS) hq
      case if_icmp q z =>
        cases q
        case eq =>
          have hd := dec (by simp)
          simp only [xz_oks, Bool.and_eq_true, beq_iff_eq] at hok
          obtain ⟨⟨rfl, hn⟩, hj⟩ := hok
          obtain ⟨tg, htg, hto⟩ := xz_pcJ_i hj
          obtain ⟨y1, S1, hS1, hp⟩ := xz_pI_i h
          obtain ⟨x1, S2, hS2, hq⟩ := xz_pI_i hp
          subst hS2
          subst hS1
          refine lv_icmp_eq hx hb hd hto (fun hz => ?_) (fun hz => ?_)
          · simp only [if_pos hz] at hq; exact nx _ _ S2 htg (xz_v1 (xz_v1 hvS)) hq
          · simp only [if_neg hz] at hq; exact nx _ _ S2 hn (xz_v1 (xz_v1 hvS)) hq
        case ne =>
          have hd := dec (by simp)
          simp only [xz_oks, Bool.and_eq_true, beq_iff_eq] at hok
          obtain ⟨⟨rfl, hn⟩, hj⟩ := hok
          obtain ⟨tg, htg, hto⟩ := xz_pcJ_i hj
          obtain ⟨y1, S1, hS1, hp⟩ := xz_pI_i h
          obtain ⟨x1, S2, hS2, hq⟩ := xz_pI_i hp
          subst hS2
          subst hS1
          refine lv_icmp_ne hx hb hd hto (fun hz => ?_) (fun hz => ?_)
          · simp only [if_neg hz] at hq; exact nx _ _ S2 htg (xz_v1 (xz_v1 hvS)) hq
          · simp only [if_pos hz] at hq; exact nx _ _ S2 hn (xz_v1 (xz_v1 hvS)) hq
        case lt =>
          have hd := dec (by simp)
          simp only [xz_oks, Bool.and_eq_true, beq_iff_eq] at hok
          obtain ⟨⟨rfl, hn⟩, hj⟩ := hok
          obtain ⟨tg, htg, hto⟩ := xz_pcJ_i hj
          obtain ⟨y1, S1, hS1, hp⟩ := xz_pI_i h
          obtain ⟨x1, S2, hS2, hq⟩ := xz_pI_i hp
          subst hS2
          subst hS1
          refine lv_icmp_lt hx hb hd hto (fun hz => ?_) (fun hz => ?_)
          · simp only [if_pos hz] at hq; exact nx _ _ S2 htg (xz_v1 (xz_v1 hvS)) hq
          · simp only [if_neg hz] at hq; exact nx _ _ S2 hn (xz_v1 (xz_v1 hvS)) hq
        case ge =>
          have hd := dec (by simp)
          simp only [xz_oks, Bool.and_eq_true, beq_iff_eq] at hok
          obtain ⟨⟨rfl, hn⟩, hj⟩ := hok
          obtain ⟨tg, htg, hto⟩ := xz_pcJ_i hj
          obtain ⟨y1, S1, hS1, hp⟩ := xz_pI_i h
          obtain ⟨x1, S2, hS2, hq⟩ := xz_pI_i hp
          subst hS2
          subst hS1
          refine lv_icmp_ge hx hb hd hto (fun hz => ?_) (fun hz => ?_)
          · simp only [if_pos hz] at hq; exact nx _ _ S2 htg (xz_v1 (xz_v1 hvS)) hq
          · simp only [if_neg hz] at hq; exact nx _ _ S2 hn (xz_v1 (xz_v1 hvS)) hq
        case gt =>
          have hd := dec (by simp)
          simp only [xz_oks, Bool.and_eq_true, beq_iff_eq] at hok
          obtain ⟨⟨rfl, hn⟩, hj⟩ := hok
          obtain ⟨tg, htg, hto⟩ := xz_pcJ_i hj
          obtain ⟨y1, S1, hS1, hp⟩ := xz_pI_i h
          obtain ⟨x1, S2, hS2, hq⟩ := xz_pI_i hp
          subst hS2
          subst hS1
          refine lv_icmp_gt hx hb hd hto (fun hz => ?_) (fun hz => ?_)
          · simp only [if_pos hz] at hq; exact nx _ _ S2 htg (xz_v1 (xz_v1 hvS)) hq
          · simp only [if_neg hz] at hq; exact nx _ _ S2 hn (xz_v1 (xz_v1 hvS)) hq
        case le =>
          have hd := dec (by simp)
          simp only [xz_oks, Bool.and_eq_true, beq_iff_eq] at hok
          obtain ⟨⟨rfl, hn⟩, hj⟩ := hok
          obtain ⟨tg, htg, hto⟩ := xz_pcJ_i hj
          obtain ⟨y1, S1, hS1, hp⟩ := xz_pI_i h
          obtain ⟨x1, S2, hS2, hq⟩ := xz_pI_i hp
          subst hS2
          subst hS1
          refine lv_icmp_le hx hb hd hto (fun hz => ?_) (fun hz => ?_)
          · simp only [if_pos hz] at hq; exact nx _ _ S2 htg (xz_v1 (xz_v1 hvS)) hq
          · simp only [if_neg hz] at hq; exact nx _ _ S2 hn (xz_v1 (xz_v1 hvS)) hq
      case goto z =>
        have hd := dec (by simp)
        simp only [xz_oks, Bool.and_eq_true, beq_iff_eq, decide_eq_true_eq, Nat.blt_eq] at hok
        obtain ⟨rfl, hj⟩ := hok
        obtain ⟨tg, htg, hto⟩ := xz_pcJ_i hj
        exact lv_goto hx hb hd hto (nx _ _ S htg hvS h)
      case tableswitch dd lo hi offs =>
        have hd := dec (by simp)
        simp only [xz_oks, Bool.and_eq_true, beq_iff_eq, decide_eq_true_eq, Nat.blt_eq] at hok
        obtain ⟨⟨⟨⟨⟨hj, hps⟩, hv⟩, hhi⟩, hlo0⟩, hhi2⟩ := hok
        obtain ⟨x1, S1, rfl, h⟩ := xz_pI_i h
        rcases xz_sw_i ts x1 v h with ⟨i1, t1, ht1, hz, h⟩ | ⟨h, hne⟩
        · obtain ⟨o1, ho1, hj1⟩ := xz_pcs_i hps ht1
          obtain ⟨tg, htg, hto⟩ := xz_pcJ_i hj1
          have hi1 : i1 < ts.length := (List.getElem?_eq_some_iff.mp ht1).1
          have hxi := xz_swx hlo0 (by omega) hv hz
          exact lv_tableIn (off := o1) (tgt := tg) hx hb hd (by omega) (by omega) (by rw [show (x1.toInt - lo).toNat = i1 by omega, ← Array.getElem?_toList]; exact ho1) hto (nx _ _ S1 htg (xz_v1 hvS) h)
        · obtain ⟨tg, htg, hto⟩ := xz_pcJ_i hj
          refine lv_tableOut hx hb hd ?_ hto (nx _ _ S1 htg (xz_v1 hvS) h)
          rcases Int.lt_or_le x1.toInt lo with z | z
          · exact Or.inl z
          · rcases Int.lt_or_le hi x1.toInt with z2 | z2
            · exact Or.inr z2
            · exfalso
              refine hne (x1.toInt - lo).toNat (by omega) (Int32.toInt_inj.mp ?_)
              have e := xz_swx (i := (x1.toInt - lo).toNat) hlo0 (by omega) hv rfl
              rw [e]
              omega
      case ireturn =>
        have hd := dec (by simp)
        simp only [xz_oks, Bool.and_eq_true, Bool.or_eq_true, beq_iff_eq] at hok
        obtain ⟨rfl, hrk⟩ := hok
        obtain ⟨x1, S1, rfl, h⟩ := xz_pI_i h
        cases S1 with
        | cons _ _ => cases h
        | nil =>
          obtain ⟨hnr, h⟩ := xz_b_i h
          have h : some (some (.int x1), M) = some r := h
          cases h
          obtain rfl : cells = mc := Nat.add_right_cancel hc
          obtain rfl : slots = ms := Nat.add_right_cancel hs
          have hri : ∃ ty, xz_mr y = some ty ∧ narrow ty (.int x1) = .int x1 := by
            rcases hrk with ((⟨h1, rfl⟩ | ⟨h1, rfl⟩) | ⟨h1, rfl⟩) | ⟨h1, rfl⟩
            · exact ⟨_, xz_rk0 h1, rfl⟩
            · exact ⟨_, xz_rk4 h1, xz_narB (by simpa [xz_nr] using hnr)⟩
            · refine ⟨_, xz_rk5 h1, ?_⟩
              have e : (x1.toUInt32 % 65536).toInt32 = x1 := by simpa [xz_nr] using hnr
              have e2 := pk_nc x1
              rw [e] at e2
              exact e2
            · refine ⟨_, xz_rk6 h1, ?_⟩
              have e : x1.toInt8.toInt32 = x1 := by simpa [xz_nr] using hnr
              show Value.int x1.toInt8.toInt32 = .int x1
              rw [e]
          obtain ⟨ty, hty, hnar⟩ := hri
          exact K _ pc' ls H locs tys ad cA hd (Or.inl ⟨rfl, x1, ty, rfl, hty, hnar⟩) (hvS) hP hK hD hS hW hag
      case lreturn =>
        have hd := dec (by simp)
        simp only [xz_oks, Bool.and_eq_true, beq_iff_eq] at hok
        obtain ⟨rfl, hrk⟩ := hok
        obtain ⟨x1, S1, rfl, h⟩ := xz_pJ_i h
        cases S1 with
        | cons _ _ => cases h
        | nil =>
          have h : some (some (.long x1), M) = some r := h
          cases h
          obtain rfl : cells = mc := Nat.add_right_cancel hc
          obtain rfl : slots = ms := Nat.add_right_cancel hs
          exact K _ pc' ls H locs tys ad cA hd (Or.inr (Or.inl ⟨rfl, x1, rfl, xz_rk1 hrk⟩)) (hvS) hP hK hD hS hW hag
      case areturn =>
        have hd := dec (by simp)
        simp only [xz_oks, Bool.and_eq_true, beq_iff_eq] at hok
        obtain ⟨rfl, hrk⟩ := hok
        obtain ⟨x1, S1, rfl, h⟩ := xz_pR_i h
        cases S1 with
        | cons _ _ => cases h
        | nil =>
          have h : some (some (.ref x1), M) = some r := h
          cases h
          obtain rfl : cells = mc := Nat.add_right_cancel hc
          obtain rfl : slots = ms := Nat.add_right_cancel hs
          obtain ⟨ty, hty, hto⟩ := xz_rk2 hrk
          exact K _ pc' ls H locs tys ad cA hd (Or.inr (Or.inr (Or.inl ⟨rfl, x1, ty, rfl, hty, hto⟩))) (hvS) hP hK hD hS hW hag
      case return_ =>
        have hd := dec (by simp)
        simp only [xz_oks, Bool.and_eq_true, beq_iff_eq] at hok
        obtain ⟨rfl, hrk⟩ := hok
        cases S with
        | cons _ _ => cases h
        | nil =>
          have h : some (none, M) = some r := h
          cases h
          obtain rfl : cells = mc := Nat.add_right_cancel hc
          obtain rfl : slots = ms := Nat.add_right_cancel hs
          exact K _ pc' ls H locs tys ad cA hd (Or.inr (Or.inr (Or.inr ⟨rfl, rfl, xz_rk3 hrk⟩))) (hvS) hP hK hD hS hW hag
      case getfield z =>
        have hdd := dec (by simp)
        clear hd
        simp only [xz_oks, Bool.and_eq_true, beq_iff_eq] at hok
        obtain ⟨⟨rfl, hn⟩, hm⟩ := hok
        obtain ⟨r1, S1, hS1, hq⟩ := xz_pR_i h
        clear h hk
        subst hS1
        have gen : ∀ (x1 : Nat), xz_gR M r1 a b = some x1 → a < 9 → b < xz_NC a → xz_FWl.contains (xz_mo y, z, a, b) = true → xz_kty (xz_ty a b) = 2 → xz_blk RR Lp true X xz_lc (xz_code y) s' ((xz_code y).drop (k + 1)) L (.ref x1 :: S1) M = some r → W p l e R s m args below meth c H locs cells slots Q (F0 m pc' ls ((.ref r1 :: S1).map (xz_V ad))) := by
          intro x1 hx1 ha hbN hfw hkt h2
          obtain ⟨q, hqr, hqa, hxe⟩ := xz_gR_s hx1
          refine xz_Wget hx hb hts hown hK hP hqr hqa ha hbN (xz_cm hfw) hdd ?_
          have ev : xz_fv ad (M.2.1 r1) (M.2.2 r1) q.2.2 b (xz_kty (xz_ty a b)) = .ref (ad x1) := by
            rw [hkt]
            show va_rf ((q.2.2.getD b none).map ad) = _
            rw [hxe]
            rfl
          rw [ev]
          exact nx _ _ (.ref x1 :: S1) hn (xz_vc (Or.inl ((hW.2.2.1 r1 q hqr).1 x1 (xz_getD_mem hxe))) (xz_v1 hvS)) h2
        match c0, hm, hq with
        | 0, hm, hq =>
          simp only [Bool.and_eq_true, Bool.or_eq_true, beq_iff_eq, Nat.blt_eq] at hm
          obtain ⟨⟨⟨ha, hbN⟩, hfw⟩, hkt⟩ := hm
          obtain ⟨x1, hx1, h2⟩ := xz_o_i hq
          obtain ⟨q, hqr, hqa, rfl⟩ := xz_gI_s hx1
          refine xz_Wget hx hb hts hown hK hP hqr hqa ha hbN (xz_cm hfw) hdd ?_
          have ev : xz_fv ad (M.2.1 r1) (M.2.2 r1) q.2.2 b (xz_kty (xz_ty a b)) = .int (M.2.1 r1 b) := by
            rcases hkt with hkt | hkt <;> rw [hkt] <;> rfl
          rw [ev]
          exact nx _ _ (.int (M.2.1 r1 b) :: S1) hn (xz_vc trivial (xz_v1 hvS)) h2
        | 1, hm, hq =>
          simp only [Bool.and_eq_true, beq_iff_eq, Nat.blt_eq] at hm
          obtain ⟨⟨⟨ha, hbN⟩, hfw⟩, hkt⟩ := hm
          obtain ⟨x1, hx1, h2⟩ := xz_o_i hq
          obtain ⟨q, hqr, hqa, rfl⟩ := xz_gJ_s hx1
          refine xz_Wget hx hb hts hown hK hP hqr hqa ha hbN (xz_cm hfw) hdd ?_
          have ev : xz_fv ad (M.2.1 r1) (M.2.2 r1) q.2.2 b (xz_kty (xz_ty a b)) = .long (M.2.2 r1 b) := by rw [hkt]; rfl
          rw [ev]
          exact nx _ _ (.long (M.2.2 r1 b) :: S1) hn (xz_vc trivial (xz_v1 hvS)) h2
        | 2, hm, hq =>
          simp only [Bool.and_eq_true, beq_iff_eq, Nat.blt_eq] at hm
          obtain ⟨⟨⟨ha, hbN⟩, hfw⟩, hkt⟩ := hm
          obtain ⟨x1, hx1, h2⟩ := xz_o_i hq
          exact gen x1 hx1 ha hbN hfw hkt h2
        | 3, hm, hq =>
          simp only [Bool.and_eq_true, beq_iff_eq, Nat.blt_eq] at hm
          obtain ⟨⟨⟨ha, hbN⟩, hfw⟩, hkt⟩ := hm
          obtain ⟨x1, hx1, h2⟩ := xz_o_i hq
          exact gen x1 hx1 ha hbN hfw hkt h2
        | 4, hm, hq =>
          simp only [Bool.and_eq_true, beq_iff_eq] at hm
          obtain ⟨hmo, rfl⟩ := hm
          rw [hmo] at hown
          obtain ⟨x1, hx1, h2⟩ := xz_o_i hq
          obtain ⟨i1, hi1, rfl, rfl⟩ := xz_sval_s hx1
          have e1 : ad (2000 + i1) = ad0 (2000 + i1) := hag _ (Or.inr (Nat.le_trans (by decide) (Nat.le_add_right 2000 i1)))
          have e2 : ad (2100 + i1) = ad0 (2100 + i1) := hag _ (Or.inr (Nat.le_trans (by decide) (Nat.le_add_right 2100 i1)))
          have hO := (hE.2.2.1.1 i1 hi1).2.2.1
          show W p l e R s m args below meth c H locs cells slots Q (F0 m pc' ls (.ref (ad (2000 + i1)) :: S1.map (xz_V ad)))
          rw [e1]
          refine vk_getf hx hb hO hS hown (hts _ xz_wSv) (fun _ hh => hh) hdd ?_
          show W p l e R s m args below meth c H locs cells slots Q (F0 m (pc' + 3) ls (.ref (ad0 (2100 + i1)) :: S1.map (xz_V ad)))
          rw [← e2]
          exact nx _ _ (.ref (2100 + i1) :: S1) hn (xz_vc (Or.inr (Nat.le_trans (by decide) (Nat.le_add_right 2100 i1))) (xz_v1 hvS)) h2
        | 5, hm, hq =>
          simp only [Bool.and_eq_true, beq_iff_eq] at hm
          obtain ⟨hmo, rfl⟩ := hm
          rw [hmo] at hown
          obtain ⟨x1, hx1, h2⟩ := xz_o_i hq
          obtain ⟨i1, hi1, rfl, rfl⟩ := xz_scod_s hx1
          have e1 : ad (2000 + i1) = ad0 (2000 + i1) := hag _ (Or.inr (Nat.le_trans (by decide) (Nat.le_add_right 2000 i1)))
          have hO := (hE.2.2.1.1 i1 hi1).2.1
          show W p l e R s m args below meth c H locs cells slots Q (F0 m pc' ls (.ref (ad (2000 + i1)) :: S1.map (xz_V ad)))
          rw [e1]
          exact vk_getf hx hb hO hS hown (hts _ xz_wSc) (fun _ hh => hh) hdd (nx _ _ (.int 0 :: S1) hn (xz_vc trivial (xz_v1 hvS)) h2)
        | _ + 6, hm, hq =>
          simp only [Bool.and_eq_true, beq_iff_eq, Nat.blt_eq] at hm
          obtain ⟨⟨⟨ha, hbN⟩, hfw⟩, hkt⟩ := hm
          obtain ⟨x1, hx1, h2⟩ := xz_o_i hq
          exact gen x1 hx1 ha hbN hfw hkt h2
      case putfield z =>
        have hdd := dec (by simp)
        clear hd
        simp only [xz_oks, Bool.and_eq_true, beq_iff_eq, Nat.blt_eq] at hok
        obtain ⟨⟨⟨⟨⟨rfl, hn⟩, ha⟩, hbN⟩, hfw⟩, hm, hfn⟩ := hok
        have hfin : (xz_T a b).2.2.2 = true → meth.name = "<init>" ∧ (xz_T a b).1 = xz_RN (xz_mo y) := by
          intro hf
          rw [hf] at hfn
          simp only [cond_true, Bool.and_eq_true, decide_eq_true_eq] at hfn
          exact ⟨(hnm (fun z0 => absurd hfn.1 (by rw [z0]; decide +kernel))).trans hfn.1, hfn.2⟩
        clear hk
        match c0, hm, h with
        | 0, hm, h =>
          have hkt : xz_kty (xz_ty a b) = 0 := by simpa using hm
          obtain ⟨x1, S1, hS1, hp⟩ := xz_pI_i h
          obtain ⟨r1, S2, hS2, hq⟩ := xz_pR_i hp
          clear h hp
          subst hS2
          subst hS1
          obtain ⟨M1, hM1, h2⟩ := xz_o_i hq
          obtain ⟨q, hqr, hqa, rfl⟩ := xz_wI_s hM1
          refine xz_Wput (v := .int x1) hx hb hts hown hK hP hD hS hqr hqa ha hbN (xz_cm hfw) hfin (by rw [xz_kty0 hkt]; rfl) (by rw [xz_kty0 hkt]; rfl) hdd (fun H1 locs1 h5 h6 h7 => ?_)
          rw [← xz_ws_putI hqr hqa ha hbN (Or.inl hkt)] at h5 h6
          exact nxM _ _ S2 (M.1, xz_up M.2.1 r1 b x1, M.2.2) H1 locs1 hn (xz_v1 (xz_v1 hvS)) rfl rfl h5 h6 h7 (xz_Wf_putI hW hqr (by omega) b x1) h2
        | 1, hm, h =>
          have hkt : xz_kty (xz_ty a b) = 1 := by simpa using hm
          obtain ⟨x1, S1, hS1, hp⟩ := xz_pJ_i h
          obtain ⟨r1, S2, hS2, hq⟩ := xz_pR_i hp
          clear h hp
          subst hS2
          subst hS1
          obtain ⟨M1, hM1, h2⟩ := xz_o_i hq
          obtain ⟨q, hqr, hqa, rfl⟩ := xz_wJ_s hM1
          refine xz_Wput (v := .long x1) hx hb hts hown hK hP hD hS hqr hqa ha hbN (xz_cm hfw) hfin (by rw [xz_kty1 hkt]; rfl) (by rw [xz_kty1 hkt]; rfl) hdd (fun H1 locs1 h5 h6 h7 => ?_)
          rw [← xz_ws_putJ hqr hqa ha hbN hkt] at h5 h6
          exact nxM _ _ S2 (M.1, M.2.1, xz_up M.2.2 r1 b x1) H1 locs1 hn (xz_v1 (xz_v1 hvS)) rfl rfl h5 h6 h7 (xz_Wf_same hW hW.2.1) h2
        | 2, hm, h =>
          have hkt : xz_kty (xz_ty a b) = 2 := by simpa using hm
          obtain ⟨x1, S1, hS1, hp⟩ := xz_pR_i h
          obtain ⟨r1, S2, hS2, hq⟩ := xz_pR_i hp
          clear h hp
          subst hS2
          subst hS1
          obtain ⟨M1, hM1, h2⟩ := xz_o_i hq
          obtain ⟨q, hqr, hqa, hx1, rfl⟩ := xz_wR_s hM1
          refine xz_Wput (v := .ref (ad x1)) hx hb hts hown hK hP hD hS hqr hqa ha hbN (xz_cm hfw) hfin (xz_narR hkt _) (xz_fitR hkt _) hdd (fun H1 locs1 h5 h6 h7 => ?_)
          rw [← xz_ws_putR hqr hqa ha hbN hkt (by rw [(hW.2.2.1 r1 q hqr).2 a hqa]; exact hbN)] at h5 h6
          exact nxM _ _ S2 (M.1.set r1 (q.1, q.2.1, q.2.2.set b (some x1)), M.2) H1 locs1 hn (xz_v1 (xz_v1 hvS)) (by simp) (xz_slt_set hqr) h5 h6 h7 (xz_Wf_putR hW hqr b x1 hx1) h2
        | _ + 3, hm, h =>
          have hkt : xz_kty (xz_ty a b) = 3 := by simpa using hm
          obtain ⟨x1, S1, hS1, hp⟩ := xz_pI_i h
          obtain ⟨r1, S2, hS2, hq⟩ := xz_pR_i hp
          clear h hp
          subst hS2
          subst hS1
          obtain ⟨M1, hM1, h2⟩ := xz_o_i hq
          obtain ⟨q, hqr, hqa, hx1, rfl⟩ := xz_wZ_s hM1
          refine xz_Wput (v := .int x1) hx hb hts hown hK hP hD hS hqr hqa ha hbN (xz_cm hfw) hfin (by rw [xz_kty3 hkt]; exact xz_narB hx1) (by rw [xz_kty3 hkt]; exact xz_fitB hx1) hdd (fun H1 locs1 h5 h6 h7 => ?_)
          rw [← xz_ws_putI hqr hqa ha hbN (Or.inr hkt)] at h5 h6
          exact nxM _ _ S2 (M.1, xz_up M.2.1 r1 b x1, M.2.2) H1 locs1 hn (xz_v1 (xz_v1 hvS)) rfl rfl h5 h6 h7 (xz_Wf_putI hW hqr (by omega) b x1) h2
      case getstatic z =>
        have hdd := dec (by simp)
        clear hd
        simp only [xz_oks, Bool.and_eq_true, beq_iff_eq] at hok
        obtain ⟨⟨⟨rfl, hn⟩, hmo⟩, hm⟩ := hok
        rw [hmo] at hown
        have hq : (bif c0 == 0 then _ else _) = some r := h
        clear h
        cases hc0 : (c0 == 0) with
        | true =>
          rw [hc0] at hm hq
          simp only [cond_true, Bool.and_eq_true, beq_iff_eq, decide_eq_true_eq] at hm
          obtain ⟨rfl, rfl⟩ := hm
          exact va_gets hx hb hE.2.2.2.1 hS hown (hts _ xz_wSs) (fun _ hh => hh) hdd (nx _ _ (.int 1 :: S) hn (xz_vc trivial hvS) hq)
        | false =>
          rw [hc0] at hm hq
          simp only [cond_false, beq_iff_eq] at hm
          obtain rfl := hm
          have e1 : xz_V ad (.retAddr 0) = xz_V ad0 (.retAddr 0) := xz_V_congr (n := n0) hag trivial
          refine va_gets hx hb hE.2.2.2.2.1 hS hown (hts _ xz_wSf) (fun _ hh => hh) hdd ?_
          rw [← e1]
          exact nx _ _ (.retAddr 0 :: S) hn (xz_vc trivial hvS) hq
      case laload =>
        have hdd := dec (by simp)
        clear hd
        simp only [xz_oks, Bool.and_eq_true, beq_iff_eq] at hok
        obtain ⟨rfl, hn⟩ := hok
        obtain ⟨i1, S1, hS1, hp⟩ := xz_pI_i h
        obtain ⟨r1, S2, hS2, hq⟩ := xz_pR_i hp
        clear h hp
        subst hS2
        subst hS1
        obtain ⟨x1, hx1, h2⟩ := xz_o_i hq
        obtain ⟨q, hqr, hqa, hin, rfl⟩ := xz_lJ0_s hx1
        obtain ⟨t0, ht0⟩ := hW.1 r1 q hqr (by omega)
        exact va_lald (n := q.2.1) (f := M.2.2 r1) hx hb hK hP r1 t0 (by rw [xz_ws_get hqr, xz_ce_2 hqa]) (by rw [ht0, hqa]; rfl) (xz_vp_in hin) hdd (nx _ _ (.long (M.2.2 r1 i1.toNatClampNeg) :: S2) hn (xz_vc trivial (xz_v1 (xz_v1 hvS))) h2)
      case aaload =>
        have hdd := dec (by simp)
        clear hd
        simp only [xz_oks, Bool.and_eq_true, beq_iff_eq] at hok
        obtain ⟨rfl, hn⟩ := hok
        obtain ⟨i1, S1, hS1, hp⟩ := xz_pI_i h
        obtain ⟨r1, S2, hS2, hq⟩ := xz_pR_i hp
        clear h hp
        subst hS2
        subst hS1
        obtain ⟨x1, hx1, h2⟩ := xz_o_i hq
        obtain ⟨q, hqr, hqa, hin, hxe⟩ := xz_lR0_s hx1
        obtain ⟨t0, ht0⟩ := hW.1 r1 q hqr (by omega)
        refine xz_Waald hx hb hK hP hqr hqa ht0 hin hdd ?_
        rw [hxe]
        exact nx _ _ (.ref x1 :: S2) hn (xz_vc (Or.inl ((hW.2.2.1 r1 q hqr).1 x1 (xz_getD_mem hxe))) (xz_v1 (xz_v1 hvS))) h2
      case iastore =>
        have hdd := dec (by simp)
        clear hd
        simp only [xz_oks, Bool.and_eq_true, beq_iff_eq] at hok
        obtain ⟨rfl, hn⟩ := hok
        obtain ⟨x1, S1, hS1, hp⟩ := xz_pI_i h
        obtain ⟨i1, S2, hS2, hp2⟩ := xz_pI_i hp
        obtain ⟨r1, S3, hS3, hq⟩ := xz_pR_i hp2
        clear h hp hp2
        subst hS3
        subst hS2
        subst hS1
        obtain ⟨M1, hM1, h2⟩ := xz_o_i hq
        obtain ⟨q, hqr, hqa, hin, rfl⟩ := xz_sI0_s hM1
        obtain ⟨t0, ht0⟩ := hW.1 r1 q hqr (by omega)
        refine va_iast (n := q.2.1) (f := M.2.1 r1) (cA := cA r1) hx hb hK hP hD hS r1 t0 (by rw [xz_ws_get hqr, xz_ce_0 hqa]) (by rw [ht0, hqa]; rfl) (xz_vp_in hin) hdd (fun H1 locs1 h5 h6 h7 => ?_)
        rw [← xz_ws_stI hqr (Or.inl hqa)] at h5 h6
        exact nxM _ _ S3 (M.1, xz_up M.2.1 r1 i1.toNatClampNeg x1, M.2.2) H1 locs1 hn (xz_v1 (xz_v1 (xz_v1 hvS))) rfl rfl h5 h6 h7 (xz_Wf_putI hW hqr (by omega) _ x1) h2
      case bastore =>
        have hdd := dec (by simp)
        clear hd
        simp only [xz_oks, Bool.and_eq_true, beq_iff_eq] at hok
        obtain ⟨rfl, hn⟩ := hok
        obtain ⟨x1, S1, hS1, hp⟩ := xz_pI_i h
        obtain ⟨i1, S2, hS2, hp2⟩ := xz_pI_i hp
        obtain ⟨r1, S3, hS3, hq⟩ := xz_pR_i hp2
        clear h hp hp2
        subst hS3
        subst hS2
        subst hS1
        obtain ⟨M1, hM1, h2⟩ := xz_o_i hq
        obtain ⟨q, hqr, hqa, hin, rfl⟩ := xz_sZ0_s hM1
        obtain ⟨t0, ht0⟩ := hW.1 r1 q hqr (by omega)
        refine va_zast (n := q.2.1) (f := M.2.1 r1) (cA := cA r1) hx hb hK hP hD hS r1 t0 (by rw [xz_ws_get hqr, xz_ce_1 hqa]) (by rw [ht0, hqa]; rfl) (xz_vp_in hin) hdd (fun H1 locs1 h5 h6 h7 => ?_)
        have en : vp_nar .boolean x1 = x1 &&& 1 := rfl
        rw [en, ← xz_ws_stI hqr (Or.inr hqa)] at h5 h6
        exact nxM _ _ S3 (M.1, xz_up M.2.1 r1 i1.toNatClampNeg (x1 &&& 1), M.2.2) H1 locs1 hn (xz_v1 (xz_v1 (xz_v1 hvS))) rfl rfl h5 h6 h7 (xz_Wf_putZ hW _ _ (xz_and1 x1)) h2
      case lastore =>
        have hdd := dec (by simp)
        clear hd
        simp only [xz_oks, Bool.and_eq_true, beq_iff_eq] at hok
        obtain ⟨rfl, hn⟩ := hok
        obtain ⟨x1, S1, hS1, hp⟩ := xz_pJ_i h
        obtain ⟨i1, S2, hS2, hp2⟩ := xz_pI_i hp
        obtain ⟨r1, S3, hS3, hq⟩ := xz_pR_i hp2
        clear h hp hp2
        subst hS3
        subst hS2
        subst hS1
        obtain ⟨M1, hM1, h2⟩ := xz_o_i hq
        obtain ⟨q, hqr, hqa, hin, rfl⟩ := xz_sJ0_s hM1
        obtain ⟨t0, ht0⟩ := hW.1 r1 q hqr (by omega)
        refine va_last (n := q.2.1) (f := M.2.2 r1) (cA := cA r1) hx hb hK hP hD hS r1 t0 (by rw [xz_ws_get hqr, xz_ce_2 hqa]) (by rw [ht0, hqa]; rfl) (xz_vp_in hin) hdd (fun H1 locs1 h5 h6 h7 => ?_)
        rw [← xz_ws_stJ hqr hqa] at h5 h6
        exact nxM _ _ S3 (M.1, M.2.1, xz_up M.2.2 r1 i1.toNatClampNeg x1) H1 locs1 hn (xz_v1 (xz_v1 (xz_v1 hvS))) rfl rfl h5 h6 h7 (xz_Wf_same hW hW.2.1) h2
      case iaload =>
        have hdd := dec (by simp)
        clear hd
        simp only [xz_oks, Bool.and_eq_true, beq_iff_eq] at hok
        obtain ⟨⟨rfl, hn⟩, -⟩ := hok
        obtain ⟨i1, S1, hS1, hp⟩ := xz_pI_i h
        obtain ⟨r1, S2, hS2, hq⟩ := xz_pR_i hp
        clear h hp
        subst hS2
        subst hS1
        have hq : (bif c0 == 1 then _ else _) = some r := hq
        cases hc1 : (c0 == 1) with
        | true =>
          rw [hc1] at hq
          obtain ⟨q, hXq, h2⟩ := xz_o_i hq
          obtain ⟨hb1, h3⟩ := xz_b_i h2
          simp only [Bool.and_eq_true, beq_iff_eq] at hb1
          obtain ⟨rfl, hin⟩ := hb1
          obtain ⟨hv1, hv2, hv3⟩ := hX q hXq
          have e1 : ad 1000 = ad0 1000 := hag _ (Or.inr (Nat.le_refl _))
          show W p l e R s m args below meth c H locs cells slots Q (F0 m pc' ls (.int i1 :: .ref (ad 1000) :: S2.map (xz_V ad)))
          rw [e1]
          exact va_sld hx hb hv1 hv2 hv3 hS (xz_vp_in hin) hdd (nx _ _ (.int (q.2 i1.toNatClampNeg) :: S2) hn (xz_vc trivial (xz_v1 (xz_v1 hvS))) h3)
        | false =>
          rw [hc1] at hq
          obtain ⟨x1, hx1, h2⟩ := xz_o_i hq
          obtain ⟨q, hqr, hqa, hin, rfl⟩ := xz_lI0_s hx1
          obtain ⟨t0, ht0⟩ := hW.1 r1 q hqr (by omega)
          exact va_iald (n := q.2.1) (f := M.2.1 r1) hx hb hK hP r1 t0 (by rw [xz_ws_get hqr, xz_ce_0 hqa]) (by rw [ht0, hqa]; rfl) (xz_vp_in hin) hdd (nx _ _ (.int (M.2.1 r1 i1.toNatClampNeg) :: S2) hn (xz_vc trivial (xz_v1 (xz_v1 hvS))) h2)
      case baload =>
        have hdd := dec (by simp)
        clear hd
        simp only [xz_oks, Bool.and_eq_true, beq_iff_eq] at hok
        obtain ⟨rfl, hn⟩ := hok
        obtain ⟨i1, S1, hS1, hp⟩ := xz_pI_i h
        obtain ⟨r1, S2, hS2, hq⟩ := xz_pR_i hp
        clear h hp
        subst hS2
        subst hS1
        obtain ⟨x1, hx1, h2⟩ := xz_o_i hq
        have hx1 : (bif c0 == 1 then xz_sby r1 i1 else xz_lI0 M 1 r1 i1) = some x1 := hx1
        cases hc1 : (c0 == 1) with
        | true =>
          rw [hc1] at hx1
          obtain ⟨j1, hj1, rfl, hin, hxe⟩ := xz_sby_s hx1
          have e1 : ad (2100 + j1) = ad0 (2100 + j1) := hag _ (Or.inr (Nat.le_trans (by decide) (Nat.le_add_right 2100 j1)))
          have hO := (hE.2.2.1.1 j1 hj1).2.2.2
          show W p l e R s m args below meth c H locs cells slots Q (F0 m pc' ls (.int i1 :: .ref (ad (2100 + j1)) :: S2.map (xz_V ad)))
          rw [e1]
          exact va_tb (v := .int x1) hx hb hO hS hin (by rw [hxe]) hdd (nx _ _ (.int x1 :: S2) hn (xz_vc trivial (xz_v1 (xz_v1 hvS))) h2)
        | false =>
          rw [hc1] at hx1
          obtain ⟨q, hqr, hqa, hin, rfl⟩ := xz_lI0_s hx1
          obtain ⟨t0, ht0⟩ := hW.1 r1 q hqr (by omega)
          exact va_zald (n := q.2.1) (f := M.2.1 r1) hx hb hK hP r1 t0 (by rw [xz_ws_get hqr, xz_ce_1 hqa]) (by rw [ht0, hqa]; rfl) (xz_vp_in hin) hdd (nx _ _ (.int (M.2.1 r1 i1.toNatClampNeg) :: S2) hn (xz_vc trivial (xz_v1 (xz_v1 hvS))) h2)
      case arraylength =>
        have hdd := dec (by simp)
        clear hd
        simp only [xz_oks, Bool.and_eq_true, beq_iff_eq] at hok
        obtain ⟨⟨rfl, hn⟩, -⟩ := hok
        obtain ⟨r1, S2, hS2, hq⟩ := xz_pR_i h
        clear h
        subst hS2
        have hq : (bif c0 == 1 then _ else _) = some r := hq
        cases hc1 : (c0 == 1) with
        | true =>
          rw [hc1] at hq
          obtain ⟨q, hXq, h2⟩ := xz_o_i hq
          obtain ⟨hb1, h3⟩ := xz_b_i h2
          obtain rfl : r1 = 1000 := by simpa using hb1
          obtain ⟨hv1, hv2, hv3⟩ := hX q hXq
          have e1 : ad 1000 = ad0 1000 := hag _ (Or.inr (Nat.le_refl _))
          show W p l e R s m args below meth c H locs cells slots Q (F0 m pc' ls (.ref (ad 1000) :: S2.map (xz_V ad)))
          rw [e1]
          exact va_slen hx hb hv1 hv2 hv3 hS hdd (nx _ _ (.int (Int32.ofNat q.1) :: S2) hn (xz_vc trivial (xz_v1 hvS)) h3)
        | false =>
          rw [hc1] at hq
          obtain ⟨x1, hx1, h2⟩ := xz_o_i hq
          have hx1 : (bif c0 == 2 then xz_sln r1 else xz_len M r1) = some x1 := hx1
          cases hc2 : (c0 == 2) with
          | true =>
            rw [hc2] at hx1
            obtain ⟨j1, hj1, rfl, hxe⟩ := xz_sln_s hx1
            have e1 : ad (2100 + j1) = ad0 (2100 + j1) := hag _ (Or.inr (Nat.le_trans (by decide) (Nat.le_add_right 2100 j1)))
            have hO := (hE.2.2.1.1 j1 hj1).2.2.2
            show W p l e R s m args below meth c H locs cells slots Q (F0 m pc' ls (.ref (ad (2100 + j1)) :: S2.map (xz_V ad)))
            rw [e1]
            exact va_tlen hx hb hO hS hxe hdd (nx _ _ (.int x1 :: S2) hn (xz_vc trivial (xz_v1 hvS)) h2)
          | false =>
            rw [hc2] at hx1
            obtain ⟨q, hqr, hqa, hxe⟩ := xz_len_s hx1
            obtain ⟨t0, ht0⟩ := hW.1 r1 q hqr hqa
            have hcx : ∃ w : vp_A, xz_ce ad cA M r1 q = .inl (cA r1, w) ∧ w.1 = q.2.1 := by
              rcases (show q.1 = 0 ∨ q.1 = 1 ∨ q.1 = 2 ∨ (q.1 = 3 ∨ q.1 = 4) by omega) with h0 | h0 | h0 | h0
              · exact ⟨_, xz_ce_0 h0, rfl⟩
              · exact ⟨_, xz_ce_1 h0, rfl⟩
              · exact ⟨_, xz_ce_2 h0, rfl⟩
              · exact ⟨_, xz_ce_r h0, rfl⟩
            obtain ⟨w, hw, hw1⟩ := hcx
            exact va_alen (x := w) hx hb hK hP r1 t0 (by rw [xz_ws_get hqr, hw]) ht0 (by rw [hw1]; exact hxe) hdd (nx _ _ (.int x1 :: S2) hn (xz_vc trivial (xz_v1 hvS)) h2)
      case new z =>
        have hdd := dec (by simp)
        clear hd
        simp only [xz_oks, Bool.and_eq_true, beq_iff_eq, Nat.blt_eq] at hok
        obtain ⟨⟨⟨⟨rfl, hn⟩, ha⟩, rfl⟩, hcw⟩ := hok
        have h : xz_blk RR Lp true X xz_lc (xz_code y) s' ((xz_code y).drop (k + 1)) L (.ref M.1.length :: S) (xz_new M (a + 5, xz_NC a, List.replicate (xz_NC a) none)) = some r := h
        have hmono2 := xz_Mo_blk hRm hLm true X xz_lc (xz_code y) s' ((xz_code y).drop (k + 1)) L (.ref M.1.length :: S) _ r h
        obtain ⟨hm1, hm2⟩ := hmono2
        rw [xz_new_len] at hm1
        rw [xz_new_slt] at hm2
        dsimp only at hm2
        have hcw1 := xz_pl_ok (f := fun (q : Nat × Nat × Nat) => .classLink (xz_RN q.1) q.2.1 (xz_RN q.2.2)) xz_CWc (xz_mo y, z, a) (xz_cm hcw)
        have hlen := hW.2.2.2
        refine va_new (ci := a) (own := xz_RN (xz_mo y)) (C := xz_RN a) (T := xz_T a) (N := xz_NC a) (fs := xz_fs ad (fun _ => 0) (fun _ => 0) (List.replicate (xz_NC a) none) a) hx hb hts (xz_inT ha) (xz_ty a) (xz_tyok a ha) hown (hts _ hcw1) (hts _ (xz_wIn a ha)) (hts _ (xz_wIi a ha)) hK hP hD hS hA (xz_cl a ha) (fun j hj => ?_) (by omega) (by omega) hdd (fun q1 H1 hP1 hD1 hS1 => ?_)
        · show defaultValue (xz_ty a j) = (xz_fs ad (fun _ => 0) (fun _ => 0) (List.replicate (xz_NC a) none) a).getD j .null
          rw [List.getD_eq_getElem?_getD, xz_fs_get (xz_fkok a ha j hj)]
          have hkk := xz_ftk a ha j hj
          show defaultValue (xz_ty a j) = xz_fv ad (fun _ => 0) (fun _ => 0) (List.replicate (xz_NC a) none) j (xz_kty (xz_ty a j))
          have hrep : ((List.replicate (xz_NC a) (none : Option Nat)).getD j none) = none := by
            rw [List.getD_eq_getElem?_getD]
            cases hz : (List.replicate (xz_NC a) (none : Option Nat))[j]? with
            | none => rfl
            | some w => exact List.eq_of_mem_replicate (List.mem_of_getElem? hz)
          rcases hkk with h0 | h0 | h0 | h0
          · rw [xz_kty0 h0]; rfl
          · rw [xz_kty1 h0]; rfl
          · rcases xz_kty2 h0 with ⟨n, e⟩ | ⟨u, e⟩ <;> rw [e] <;> show Value.null = va_rf (((List.replicate (xz_NC a) (none : Option Nat)).getD j none).map ad) <;> rw [hrep] <;> rfl
          · rw [xz_kty3 h0]; rfl
        · have hag1 := xz_up_ag (M := M) (ad := ad) (z := q1) hlen
          have e := xz_ws_new (ad := ad) (cA := cA) (M := M) (fun k' q' hq' => (hW.2.2.1 k' q' hq').1) (a + 5, xz_NC a, List.replicate (xz_NC a) none) (ad' := va_up ad M.1.length q1) (cA' := cA) hag1 (fun _ _ => rfl)
          have e2 : va_up ad M.1.length q1 M.1.length = q1 := by simp [va_up]
          have e3 : xz_ce (va_up ad M.1.length q1) cA (xz_new M (a + 5, xz_NC a, List.replicate (xz_NC a) none)) M.1.length (a + 5, xz_NC a, List.replicate (xz_NC a) none) = .inr (a, xz_fs ad (fun _ => 0) (fun _ => 0) (List.replicate (xz_NC a) none) a) := by
            rw [xz_ce_o rfl]
            have e4 : (xz_new M (a + 5, xz_NC a, List.replicate (xz_NC a) none)).2.1 M.1.length = fun _ => 0 := xz_row_eq
            have e5 : (xz_new M (a + 5, xz_NC a, List.replicate (xz_NC a) none)).2.2 M.1.length = fun _ => 0 := xz_row_eq
            rw [e4, e5]
            have e6 : ∀ j, ((List.replicate (xz_NC a) (none : Option Nat)).getD j none) = none := by
              intro j
              rw [List.getD_eq_getElem?_getD]
              cases hz : (List.replicate (xz_NC a) (none : Option Nat))[j]? with
              | none => rfl
              | some w => exact List.eq_of_mem_replicate (List.mem_of_getElem? hz)
            simp only [xz_fs, xz_fv, e6, Option.map_none]
          rw [e2, e3] at e
          rw [← e] at hP1 hD1
          have hWf := xz_Wf_new (tl := []) hW (s := (a + 5, xz_NC a, List.replicate (xz_NC a) none)) (cA' := cA) (fun _ _ => rfl) (fun hlt => absurd hlt (by show ¬ (a + 5 < 5); omega)) (fun w hw => by cases List.eq_of_mem_replicate hw) (fun a' ha' => by
            have : a' = a := by have : a + 5 = a' + 5 := ha'; omega
            rw [this]
            simp) (by omega)
          rw [List.append_nil] at hWf
          have hfin := after (some (.ref M.1.length)) (xz_new M (a + 5, xz_NC a, List.replicate (xz_NC a) none)) S H1 locs tys (va_up ad M.1.length q1) cA (pc' + 3) hn (xz_le_new M _) hvS hag1 hP1 hK hD1 hS1 hWf (fun w hw => by
            cases hw with
            | head => exact Or.inl (by rw [xz_new_len]; exact Nat.lt_succ_self _)
            | tail _ hw => cases hw) h
          rw [xz_new_len, xz_new_slt, Nat.add_sub_cancel_left, Nat.add_sub_cancel_left] at hfin
          have e7 : ((some (Value.ref M.1.length)).map (xz_V (va_up ad M.1.length q1))).toList = [.ref q1] := by
            show [Value.ref (va_up ad M.1.length q1 M.1.length)] = _
            rw [e2]
          rw [e7] at hfin
          exact hfin
      case newarray z =>
        have hdd := dec (by simp)
        clear hd
        simp only [xz_oks, Bool.and_eq_true, beq_iff_eq, Nat.blt_eq] at hok
        obtain ⟨⟨rfl, hn⟩, hat⟩ := hok
        obtain ⟨n1, S1, hS1, h1⟩ := xz_pI_i h
        clear h
        subst hS1
        obtain ⟨M1, hM1, h2⟩ := xz_o_i h1
        obtain ⟨hn0', hn1, rfl⟩ := xz_newA_s hM1
        have hmono2 := xz_Mo_blk hRm hLm true X xz_lc (xz_code y) s' ((xz_code y).drop (k + 1)) L (.ref M.1.length :: S1) _ r h2
        obtain ⟨hm1, hm2⟩ := hmono2
        rw [xz_new_len] at hm1
        rw [xz_new_slt] at hm2
        dsimp only at hm2
        have hlen := hW.2.2.2
        have fin : ∀ (q1 : Nat) (cA1 : ClassId) (H1 : Heap) (ty : FieldType), ty = xz_aT (xz_aty z) → va_K D vwCl (tys ++ [(cA1, ty)]) s → va_P D vwCl (xz_ws ad cA M ++ [(q1, xz_ce (va_up ad M.1.length q1) (va_up cA M.1.length cA1) (xz_new M (xz_aty z, n1.toNatClampNeg, [])) M.1.length (xz_aty z, n1.toNatClampNeg, []))]) H1 → va_D A (xz_ws ad cA M ++ [(q1, xz_ce (va_up ad M.1.length q1) (va_up cA M.1.length cA1) (xz_new M (xz_aty z, n1.toNatClampNeg, [])) M.1.length (xz_aty z, n1.toNatClampNeg, []))]) → va_S A s.heap H1 locs → W p l e R s m args below meth c H1 locs (cells + 1) (slots + n1.toNatClampNeg) Q (F0 m (pc' + 2) ls (.ref q1 :: S1.map (xz_V ad))) := by
          intro q1 cA1 H1 ty hty hK1 hP1 hD1 hS1
          have hag1 := xz_up_ag (M := M) (ad := ad) (z := q1) hlen
          have hcc : ∀ k', k' < M.1.length → va_up cA M.1.length cA1 k' = cA k' := fun k' hk' => by unfold va_up; rw [if_neg (by omega)]
          have e := xz_ws_new (ad := ad) (cA := cA) (M := M) (fun k' q' hq' => (hW.2.2.1 k' q' hq').1) (xz_aty z, n1.toNatClampNeg, []) (ad' := va_up ad M.1.length q1) (cA' := va_up cA M.1.length cA1) hag1 hcc
          have e2 : va_up ad M.1.length q1 M.1.length = q1 := by simp [va_up]
          rw [e2] at e
          rw [← e] at hP1 hD1
          have hWf := xz_Wf_new (tl := [(cA1, ty)]) hW (s := (xz_aty z, n1.toNatClampNeg, [])) (cA' := va_up cA M.1.length cA1) hcc (fun _ => ⟨tys.length, by rw [List.getElem?_append_right (Nat.le_refl _), Nat.sub_self, hty]; show some (cA1, _) = some (va_up cA M.1.length cA1 M.1.length, _); simp [va_up]⟩) (fun w hw => by cases hw) (fun a' ha' => by
            have : xz_aty z = a' + 5 := ha'
            omega) (by omega)
          have hfin := after (some (.ref M.1.length)) (xz_new M (xz_aty z, n1.toNatClampNeg, [])) S1 H1 locs (tys ++ [(cA1, ty)]) (va_up ad M.1.length q1) (va_up cA M.1.length cA1) (pc' + 2) hn (xz_le_new M _) (xz_v1 hvS) hag1 hP1 hK1 hD1 hS1 hWf (fun w hw => by
            cases hw with
            | head => exact Or.inl (by rw [xz_new_len]; exact Nat.lt_succ_self _)
            | tail _ hw => cases hw) h2
          rw [xz_new_len, xz_new_slt, Nat.add_sub_cancel_left, Nat.add_sub_cancel_left] at hfin
          have e7 : ((some (Value.ref M.1.length)).map (xz_V (va_up ad M.1.length q1))).toList = [.ref q1] := by
            show [Value.ref (va_up ad M.1.length q1 M.1.length)] = _
            rw [e2]
          rw [e7] at hfin
          exact hfin
        have hup : ∀ cA1 : ClassId, va_up cA M.1.length cA1 M.1.length = cA1 := fun cA1 => by simp [va_up]
        have h2r : (xz_new M (xz_aty z, n1.toNatClampNeg, [])).2.1 M.1.length = fun _ => 0 := xz_row_eq
        have h2l : (xz_new M (xz_aty z, n1.toNatClampNeg, [])).2.2 M.1.length = fun _ => 0 := xz_row_eq
        cases z
        case int =>
          refine va_newa (atype := .int) (ty := .int) (a0 := (n1.toNatClampNeg, .inl (fun _ => 0))) (N' := n1.toNatClampNeg) hx hb (hts _ xz_wAI) rfl hK hP hD hS hA (fun _ => rfl) hn0' rfl (by show n1.toNatClampNeg * 4 ≤ 536870912; omega) (by omega) (by omega) hdd (fun q1 cA1 H1 hK1 hP1 hD1 hS1 => ?_)
          have e3 : xz_ce (va_up ad M.1.length q1) (va_up cA M.1.length cA1) (xz_new M (xz_aty .int, n1.toNatClampNeg, [])) M.1.length (xz_aty .int, n1.toNatClampNeg, []) = .inl (cA1, n1.toNatClampNeg, .inl (fun _ => 0)) := by
            rw [xz_ce_0 rfl, h2r, hup]
          exact fin q1 cA1 H1 .int rfl hK1 (by rw [e3]; exact hP1) (by rw [e3]; exact hD1) hS1
        case boolean =>
          refine va_newa (atype := .boolean) (ty := .boolean) (a0 := (n1.toNatClampNeg, .inl (fun _ => 0))) (N' := n1.toNatClampNeg) hx hb (hts _ xz_wAZ) rfl hK hP hD hS hA (fun _ => rfl) hn0' rfl (by show n1.toNatClampNeg * 1 ≤ 536870912; omega) (by omega) (by omega) hdd (fun q1 cA1 H1 hK1 hP1 hD1 hS1 => ?_)
          have e3 : xz_ce (va_up ad M.1.length q1) (va_up cA M.1.length cA1) (xz_new M (xz_aty .boolean, n1.toNatClampNeg, [])) M.1.length (xz_aty .boolean, n1.toNatClampNeg, []) = .inl (cA1, n1.toNatClampNeg, .inl (fun _ => 0)) := by
            rw [xz_ce_1 rfl, h2r, hup]
          exact fin q1 cA1 H1 .boolean rfl hK1 (by rw [e3]; exact hP1) (by rw [e3]; exact hD1) hS1
        case long =>
          refine va_newa (atype := .long) (ty := .long) (a0 := (n1.toNatClampNeg, .inr (.inl (fun _ => 0)))) (N' := n1.toNatClampNeg) hx hb (hts _ xz_wAJ) rfl hK hP hD hS hA (fun _ => rfl) hn0' rfl (by show n1.toNatClampNeg * 8 ≤ 536870912; omega) (by omega) (by omega) hdd (fun q1 cA1 H1 hK1 hP1 hD1 hS1 => ?_)
          have e3 : xz_ce (va_up ad M.1.length q1) (va_up cA M.1.length cA1) (xz_new M (xz_aty .long, n1.toNatClampNeg, [])) M.1.length (xz_aty .long, n1.toNatClampNeg, []) = .inl (cA1, n1.toNatClampNeg, .inr (.inl (fun _ => 0))) := by
            rw [xz_ce_2 rfl, h2l, hup]
          exact fin q1 cA1 H1 .long rfl hK1 (by rw [e3]; exact hP1) (by rw [e3]; exact hD1) hS1
        all_goals exact absurd hat (by decide)
      case multianewarray z w =>
        have hdd := dec (by simp)
        clear hd
        simp only [xz_oks, Bool.and_eq_true, Bool.or_eq_true, beq_iff_eq] at hok
        obtain ⟨⟨⟨⟨rfl, rfl⟩, hn⟩, hkd⟩, hcw⟩ := hok
        obtain ⟨k1, S0, hS0, h0⟩ := xz_pI_i h
        obtain ⟨n1, S1, hS1, h1⟩ := xz_pI_i h0
        clear h h0
        subst hS1
        subst hS0
        obtain ⟨M1, hM1, h2⟩ := xz_o_i h1
        obtain ⟨hn0', hn1, hk0', hk1, rfl⟩ := xz_newM_s hM1
        have hmono2 := xz_Mo_blk hRm hLm true X xz_lc (xz_code y) s' ((xz_code y).drop (k + 1)) L (.ref M.1.length :: S1) _ r h2
        obtain ⟨hm1, hm2⟩ := hmono2
        rw [xz_news_len, xz_new_len] at hm1
        rw [xz_news_slt, xz_new_slt] at hm2
        dsimp only at hm2
        have hlen := hW.2.2.2
        have hcw1 := xz_pl_ok (f := fun (q : Nat × Nat × Nat) => .classLink (xz_RN q.1) q.2.1 (bif q.2.2 == 3 then "[[I" else "[[J")) xz_AWc (xz_mo y, z, a) (xz_cm hcw)
        have hP0 : va_P D vwCl (xz_ws ad cA M ++ va_pl [] (fun _ => .inr (0, []))) H := by
          show va_P D vwCl (xz_ws ad cA M ++ []) H
          rw [List.append_nil]
          exact hP
        have hD0 : va_D A (xz_ws ad cA M ++ va_pl [] (fun _ => .inr (0, []))) := by
          show va_D A (xz_ws ad cA M ++ [])
          rw [List.append_nil]
          exact hD
        have fin : ∀ (q1 : Nat) (rr : Nat → Nat) (c1 cy : ClassId) (H1 : Heap) (ik : Nat) (zz : vp_A), ik = (bif a == 3 then 0 else 2) → (∀ (ad : Nat → Nat) (cA : Nat → ClassId) (M : xz_M) (k : Nat), M.2.1 k = (fun _ => 0) → M.2.2 k = (fun _ => 0) → xz_ce ad cA M k (ik, k1.toNatClampNeg, []) = .inl (cA k, zz)) → va_K D vwCl (tys ++ [(c1, xz_aT a)] ++ [(cy, xz_aT ik)]) s →
            va_P D vwCl ((xz_ws ad cA M ++ [(q1, .inl (c1, n1.toNatClampNeg, .inr (.inr (.inr (.inr (fun i => if i < n1.toNatClampNeg then some (rr i) else none))))))]) ++ va_pl ([] ++ (List.range n1.toNatClampNeg).map rr) (vr_up (fun _ => .inr (0, [])) ((List.range n1.toNatClampNeg).map rr) (.inl (cy, zz)))) H1 →
            va_D A ((xz_ws ad cA M ++ [(q1, .inl (c1, n1.toNatClampNeg, .inr (.inr (.inr (.inr (fun i => if i < n1.toNatClampNeg then some (rr i) else none))))))]) ++ va_pl ([] ++ (List.range n1.toNatClampNeg).map rr) (vr_up (fun _ => .inr (0, [])) ((List.range n1.toNatClampNeg).map rr) (.inl (cy, zz)))) →
            va_S A s.heap H1 locs → W p l e R s m args below meth c H1 locs (cells + 1 + n1.toNatClampNeg) (slots + n1.toNatClampNeg + n1.toNatClampNeg * k1.toNatClampNeg) Q (F0 m (pc' + 4) ls (.ref q1 :: S1.map (xz_V ad))) := by
          intro q1 rr c1 cy H1 ik zz hik hzz hK1 hP1 hD1 hS1
          have hik2 : ik = 0 ∨ ik = 2 := by
            rw [hik]
            cases (a == 3)
            · exact Or.inr rfl
            · exact Or.inl rfl
          rw [← xz_ws_multi hW (kd := a) (ik := ik) hkd (by omega) _ hzz] at hP1 hD1
          rw [hik] at hP1 hD1 hK1
          have hWf := xz_Wf_multi (c1 := c1) (cy := cy) (K := k1.toNatClampNeg) (N := n1.toNatClampNeg) hW (kd := a) (ik := ik) hkd hik2 (by omega)
          rw [hik] at hWf
          have e2 : xz_ad2 ad M.1.length n1.toNatClampNeg q1 rr M.1.length = q1 := by simp [xz_ad2]
          have hfin := after (some (.ref M.1.length)) _ S1 H1 locs (tys ++ [(c1, xz_aT a)] ++ [(cy, xz_aT (bif a == 3 then 0 else 2))]) (xz_ad2 ad M.1.length n1.toNatClampNeg q1 rr) (xz_cA2 cA M.1.length n1.toNatClampNeg c1 cy) (pc' + 4) hn ((xz_le_new M _).tr (xz_le_news _ _ _)) (xz_v1 (xz_v1 hvS)) (xz_ad2_ag (by omega)) hP1 hK1 hD1 hS1 hWf (fun w hw => by
            cases hw with
            | head => exact Or.inl (by rw [xz_news_len, xz_new_len]; exact Nat.lt_of_lt_of_le (Nat.lt_succ_self _) (Nat.le_add_right _ _))
            | tail _ hw => cases hw) h2
          rw [xz_news_len, xz_new_len, xz_news_slt, xz_new_slt] at hfin
          have e7 : ((some (Value.ref M.1.length)).map (xz_V (xz_ad2 ad M.1.length n1.toNatClampNeg q1 rr))).toList = [.ref q1] := by
            show [Value.ref (xz_ad2 ad M.1.length n1.toNatClampNeg q1 rr M.1.length)] = _
            rw [e2]
          rw [e7] at hfin
          have e8 : cells + (M.1.length + 1 + n1.toNatClampNeg - M.1.length) = cells + 1 + n1.toNatClampNeg := by omega
          have e9 : slots + (xz_slt M + n1.toNatClampNeg + n1.toNatClampNeg * k1.toNatClampNeg - xz_slt M) = slots + n1.toNatClampNeg + n1.toNatClampNeg * k1.toNatClampNeg := by omega
          dsimp only at hfin
          rw [e8, e9] at hfin
          exact hfin
        rcases hkd with rfl | rfl
        · obtain ⟨cy, f1, f2, f3⟩ := xz_arrC (hts _ xz_wAI) (fun n hh => by cases hh)
          refine va_mna (X := xz_ws ad cA M) (L := []) (f := fun _ => .inr (0, [])) (ty := .int) (cy := cy) (N' := n1.toNatClampNeg) (K' := k1.toNatClampNeg) (z := (k1.toNatClampNeg, .inl (fun _ => 0))) hx hb hown (hts _ hcw1) hE.2.2.2.2.2.1 (hts _ xz_wAI) f1 hK hP0 hD0 hS hA hn0' hk0' rfl rfl (by omega) (by show k1.toNatClampNeg * 4 ≤ 536870912; omega) (by omega) rfl rfl (by omega) (by omega) (fun cc => by
            show ({ cls := cc, slots := Array.replicate k1.toNatClampNeg (defaultValue .int), vm := .none } : Cell) = _
            rw [arrV_new]
            rfl) hdd (fun q1 rr c1 H1 hinj hnl hK1 hP1 hD1 hS1 => ?_)
          exact fin q1 rr c1 cy H1 0 (k1.toNatClampNeg, .inl (fun _ => 0)) rfl (fun ad cA M k hI hJ => by rw [xz_ce_0 rfl, hI]) (hK1.app ⟨hK.1, fun k' q' hq' => by
            cases k' with
            | zero => cases hq'; exact ⟨f2, f3⟩
            | succ k' => cases hq'⟩) hP1 hD1 hS1
        · obtain ⟨cy, f1, f2, f3⟩ := xz_arrC (hts _ xz_wAJ) (fun n hh => by cases hh)
          refine va_mna (X := xz_ws ad cA M) (L := []) (f := fun _ => .inr (0, [])) (ty := .long) (cy := cy) (N' := n1.toNatClampNeg) (K' := k1.toNatClampNeg) (z := (k1.toNatClampNeg, .inr (.inl (fun _ => 0)))) hx hb hown (hts _ hcw1) hE.2.2.2.2.2.2 (hts _ xz_wAJ) f1 hK hP0 hD0 hS hA hn0' hk0' rfl rfl (by omega) (by show k1.toNatClampNeg * 8 ≤ 536870912; omega) (by omega) rfl rfl (by omega) (by omega) (fun cc => by
            show ({ cls := cc, slots := Array.replicate k1.toNatClampNeg (defaultValue .long), vm := .none } : Cell) = _
            rw [arrV_new]
            rfl) hdd (fun q1 rr c1 H1 hinj hnl hK1 hP1 hD1 hS1 => ?_)
          exact fin q1 rr c1 cy H1 2 (k1.toNatClampNeg, .inr (.inl (fun _ => 0))) rfl (fun ad cA M k hI hJ => by rw [xz_ce_2 rfl, hJ]) (hK1.app ⟨hK.1, fun k' q' hq' => by
            cases k' with
            | zero => cases hq'; exact ⟨f2, f3⟩
            | succ k' => cases hq'⟩) hP1 hD1 hS1
      case invokestatic z =>
        have hdd := dec (by simp)
        clear hd
        simp only [xz_oks, Bool.and_eq_true, Bool.or_eq_true, beq_iff_eq] at hok
        obtain ⟨rfl, hok⟩ := hok
        by_cases h99 : c0 = 99
        · subst h99
          cases h
        by_cases h10 : c0 = 10
        · subst h10
          obtain ⟨hn, hm⟩ := hok.resolve_left (by decide)
          obtain ⟨n1, S1, hS1, hp1⟩ := xz_pI_i h
          obtain ⟨dp1, S2, hS2, hp2⟩ := xz_pI_i hp1
          obtain ⟨r2, S3, hS3, hp3⟩ := xz_pR_i hp2
          obtain ⟨sp1, S4, hS4, hp4⟩ := xz_pI_i hp3
          obtain ⟨r1, S5, hS5, hp5⟩ := xz_pR_i hp4
          clear h hp1 hp2 hp3 hp4
          subst hS5
          subst hS4
          subst hS3
          subst hS2
          subst hS1
          obtain ⟨hcat, hp6⟩ := xz_b_i hp5
          obtain ⟨M1, hM1, h2⟩ := xz_o_i hp6
          obtain ⟨q, q', hqr, hqr', g1, g2, g3, g4, g5, g6, g7, g8⟩ := xz_copy_s hM1
          have hcs : ((S5.map (xz_V ad)).map fun v => v.category).sum ≤ 8 := xz_cat_V hcat
          have hlk : (Cond.methodLink (xz_RN (xz_mo y)) z arraycopyName).before args s = true := by
            simp only [Bool.or_eq_true, Bool.and_eq_true, beq_iff_eq] at hm
            rcases hm with (⟨h1, rfl⟩ | ⟨h1, rfl⟩) | ⟨h1, rfl⟩ <;> rw [h1]
            · exact hts _ xz_wAc6
            · exact hts _ xz_wAc7
            · exact hts _ xz_wAc8
          have hnf : ((S5.map (xz_V ad)).map fun v => v.category).sum + (nativeFrameWords "java/lang/System" "arraycopy" 5 + 11) ≤ R.locals := by
            have : nativeFrameWords "java/lang/System" "arraycopy" 5 = 7 := by decide +kernel
            omega
          obtain ⟨t0, ht0⟩ := hW.1 r1 q hqr (by omega)
          obtain ⟨t1, ht1⟩ := hW.1 r2 q' hqr' (by omega)
          have hvs : ∀ v ∈ S5, xz_vv M.1.length v := xz_v1 (xz_v1 (xz_v1 (xz_v1 (xz_v1 hvS))))
          rcases g8 with ⟨h2q, rfl⟩ | ⟨h2q, rfl⟩
          · have h2q' : q'.1 = 2 := by omega
            refine va_copyl (q0 := r1) (q1 := r2) (t0 := t0) (t1 := t1) (ty := .long) (n0 := q.2.1) (n1 := q'.2.1) (f := M.2.2 r1) (g := M.2.2 r2) (c0 := cA r1) (c1 := cA r2) (a0 := ad r1) (a := ad r2) hx hb (hml.trans hl.1.symm) hown hlk (hts _ xz_wAn) (hts _ xz_wAs) (hts _ xz_wAi) hK hP hD hS (by rw [xz_ws_get hqr, xz_ce_2 h2q]) (by rw [xz_ws_get hqr', xz_ce_2 h2q']) (by rw [ht0, h2q]; rfl) (by rw [ht1, h2q']; rfl) rfl g1 g2 g3 g4 g5 (fun _ _ => rfl) (by omega) hnf hdd (fun H1 locs1 h5 h6 h7 => ?_)
            rw [← xz_ws_rowJ hqr' h2q'] at h5 h6
            exact nxM _ _ S5 (M.1, M.2.1, xz_row M.2.2 r2 (va_cpy (M.2.2 r1) (M.2.2 r2) sp1.toNatClampNeg dp1.toNatClampNeg n1.toNatClampNeg)) H1 locs1 hn hvs rfl rfl h5 h6 h7 (xz_Wf_same hW hW.2.1) h2
          · have h01 : q.1 = 0 ∨ q.1 = 1 := by omega
            have h01' : q'.1 = 0 ∨ q'.1 = 1 := by omega
            have hWf : xz_Wf cA tys (M.1, xz_row M.2.1 r2 (va_cpy (M.2.1 r1) (M.2.1 r2) sp1.toNatClampNeg dp1.toNatClampNeg n1.toNatClampNeg), M.2.2) := by
              refine xz_Wf_same hW fun k' z' j hz' hz1 => ?_
              by_cases hk2 : k' = r2
              · subst hk2
                rw [hqr'] at hz'
                cases hz'
                rw [xz_row_eq]
                unfold va_cpy
                split
                · exact hW.2.1 r1 q _ hqr (by omega)
                · exact hW.2.1 k' q' _ hqr' hz1
              · rw [xz_row_ne hk2]
                exact hW.2.1 k' z' j hz' hz1
            have hce : xz_ce ad cA M r1 q = .inl (cA r1, q.2.1, .inl (M.2.1 r1)) := by rcases h01 with h0 | h0; exact xz_ce_0 h0; exact xz_ce_1 h0
            have hce' : xz_ce ad cA M r2 q' = .inl (cA r2, q'.2.1, .inl (M.2.1 r2)) := by rcases h01' with h0 | h0; exact xz_ce_0 h0; exact xz_ce_1 h0
            have hty : refKind (xz_aT q.1) = false := by rcases h01 with h0 | h0 <;> rw [h0] <;> rfl
            have hfit : ∀ i, i < n1.toNatClampNeg → fits (xz_aT q.1) (.int (M.2.1 r1 (sp1.toNatClampNeg + i))) = true := by
              intro i _
              rcases h01 with h0 | h0
              · rw [h0]; rfl
              · have := hW.2.1 r1 q (sp1.toNatClampNeg + i) hqr h0
                rw [h0]
                exact xz_fitB this
            refine va_copyi (q0 := r1) (q1 := r2) (t0 := t0) (t1 := t1) (ty := xz_aT q.1) (n0 := q.2.1) (n1 := q'.2.1) (f := M.2.1 r1) (g := M.2.1 r2) (c0 := cA r1) (c1 := cA r2) (a0 := ad r1) (a := ad r2) hx hb (hml.trans hl.1.symm) hown hlk (hts _ xz_wAn) (hts _ xz_wAs) (hts _ xz_wAi) hK hP hD hS (by rw [xz_ws_get hqr, hce]) (by rw [xz_ws_get hqr', hce']) ht0 (by rw [ht1, g6]) hty g1 g2 g3 g4 g5 hfit (by omega) hnf hdd (fun H1 locs1 h5 h6 h7 => ?_)
            rw [← xz_ws_rowI hqr' h01'] at h5 h6
            exact nxM _ _ S5 (M.1, xz_row M.2.1 r2 (va_cpy (M.2.1 r1) (M.2.1 r2) sp1.toNatClampNeg dp1.toNatClampNeg n1.toNatClampNeg), M.2.2) H1 locs1 hn hvs rfl rfl h5 h6 h7 hWf h2
        by_cases h14 : c0 = 14
        · subst h14
          obtain ⟨hn, hm⟩ := hok.resolve_left (by decide)
          simp only [Bool.and_eq_true, beq_iff_eq] at hm
          obtain ⟨⟨⟨hae, hst⟩, hnw⟩, hmw⟩ := hm
          have hst1 := xz_pl_ok (f := fun y => .static (xz_mn y)) xz_stwc a (xz_cm hst)
          have hnw1 := xz_pl_ok (f := fun y => .initialized (xz_mn y).cls) xz_nwc a (xz_cm hnw)
          have hmw1 := xz_pl_ok (f := fun (q : Nat × Nat × Nat) => .methodLink (xz_RN q.1) q.2.1 (xz_mn q.2.2)) xz_MWc (xz_mo y, z, a) (xz_cm hmw)
          have hcw1 := xz_cw a (by rw [hae]; decide) (by rw [hae]; decide)
          rw [hae] at hst1 hnw1 hmw1 hcw1
          obtain ⟨y1, S1, hS1, hp1⟩ := xz_pJ_i h
          obtain ⟨x1, S2, hS2, hp2⟩ := xz_pJ_i hp1
          clear h hp1
          subst hS2
          subst hS1
          obtain ⟨hcat, h2⟩ := xz_b_i hp2
          have hcs : ((S2.map (xz_V ad)).map fun v => v.category).sum ≤ 8 := xz_cat_V hcat
          have hm1 := (xz_Mo_blk hRm hLm true X xz_lc (xz_code y) s' ((xz_code y).drop (k + 1)) L (.long (if y1 < x1 then x1 else y1) :: S2) M r h2)
          obtain ⟨hm2, hm3⟩ := hm1
          exact va_mmax_long hx hb (hml.trans hl.1.symm) hown (hts _ hmw1) (hts _ hst1) (hts _ hnw1) (hts _ hcw1) (by omega) (by omega) (by omega) (by omega) hdd (nx _ _ (.long (if y1 < x1 then x1 else y1) :: S2) hn (xz_vc trivial (xz_v1 (xz_v1 hvS))) h2)
        obtain ⟨hn, hm⟩ := hok.resolve_left h99
        have hq : xz_args b S (fun as S => xz_b (xz_cat S) (xz_ret c0 (RR a as M) fun vs M => xz_blk RR Lp true X xz_lc (xz_code y) s' ((xz_code y).drop (k + 1)) L (vs ++ S) M)) = some r := by
          unfold xz_blk at h
          dsimp only at h
          split at h
          · exact absurd rfl h99
          · exact absurd rfl h14
          · exact absurd rfl h10
          · exact h
        have hm : (Nat.blt 0 a && (Nat.blt a 200 && a != q_JD_max) && (xz_stwp.map (·.1)).contains a && ((xz_nwp.map (·.1)).contains a && (xz_MWl.contains (xz_mo y, z, a) || xz_MXl.contains (xz_mo y, z, a))) && decide ((parseMethodDescriptor (xz_mn a).desc).map (fun d => d.parameters.length) = some b) && Nat.ble (xz_ml a) 40) = true := by
          split at hm
          · exact absurd rfl h14
          · exact absurd rfl h10
          · exact hm
        clear h hok
        obtain ⟨as, S1, hS1, hlen, h3⟩ := xz_args_i hq
        clear hq
        subst hS1
        obtain ⟨hcat, h4⟩ := xz_b_i h3
        obtain ⟨ov, M1, hR1, h5⟩ := xz_ret_i h4
        simp only [Bool.and_eq_true, Bool.or_eq_true, Nat.blt_eq, Nat.ble_eq, decide_eq_true_eq] at hm
        obtain ⟨⟨⟨⟨⟨ha0, ha2, hnmx⟩, hst⟩, hnw, hmw⟩, hpar⟩, hmx⟩ := hm
        have hnmx : a ≠ q_JD_max := by simpa using hnmx
        have hst1 := xz_pl_ok (f := fun y => .static (xz_mn y)) xz_stwc a (xz_cm hst)
        have hnw1 := xz_pl_ok (f := fun y => .initialized (xz_mn y).cls) xz_nwc a (xz_cm hnw)
        have hcap1 : M1.1.length ≤ 900 := Nat.le_trans (xz_Mo_blk hRm hLm true X xz_lc (xz_code y) s' ((xz_code y).drop (k + 1)) L (ov.toList ++ S1) M1 r h5).1 hcap
        obtain ⟨dw, hdw, hCt⟩ := hC a as M ov M1 ha0 ha2 hnmx hR1 hcap1
        subst hdw
        have hmono := hRm a as M (ov, M1) hR1
        have hmono2 := xz_Mo_blk hRm hLm true X xz_lc (xz_code y) s' ((xz_code y).drop (k + 1)) L (ov.toList ++ S1) M1 r h5
        have hvas : ∀ v ∈ as, xz_vv M.1.length v := fun v hv => hvS v (List.mem_append_left _ (List.mem_reverse.mpr hv))
        have hvs : ∀ v ∈ S1, xz_vv M.1.length v := fun v hv => hvS v (List.mem_append_right _ hv)
        have hF : ∀ q, va_A (xz_ws ad cA M) H.size q → A q := xz_free hD hS hA
        have hCt1 := hCt tys ad cA H.size hvas hW
        have hroom : (xz_rm dw (M1.1.length - M.1.length) (xz_slt M1 - xz_slt M)).frames + 1 ≤ R.frames ∧ 8 + (xz_ml a + 11) + (xz_rm dw (M1.1.length - M.1.length) (xz_slt M1 - xz_slt M)).locals ≤ R.locals := by
          show dw + 1 + 1 ≤ R.frames ∧ 8 + (xz_ml a + 11) + 64 * (dw + 1) ≤ R.locals
          omega
        have hpre : PreS s H (xz_Pc D tys ad cA M H.size as) (as.map (xz_V ad)) := ⟨xz_blind _ _ _ _ _ _ _, fun U hU hWm => ⟨rfl, by rw [hU], by rw [hU]; exact hP, va_K.moved hWm.alike hK, hD.weaken (fun _ _ _ _ => trivial), hE.call hS hF hWm hU (fun k' hk' => hag k' (Or.inr hk'))⟩⟩
        have hfit : cells + (M1.1.length - M.1.length) ≤ R.cells ∧ slots + (xz_slt M1 - xz_slt M) ≤ R.slots := by
          obtain ⟨e1, e2⟩ := hmono
          obtain ⟨e3, e4⟩ := hmono2
          dsimp only at e1 e2
          omega
        have hstk : (as.reverse ++ S1).map (xz_V ad) = (as.map (xz_V ad)).reverse ++ S1.map (xz_V ad) := by rw [List.map_append, List.map_reverse]
        have hrun : va_Run p l e R s m args below meth c H locs cells slots (M1.1.length - M.1.length) (xz_slt M1 - xz_slt M) (F0 m pc' ls ((as.reverse ++ S1).map (xz_V ad))) (S1.map (xz_V ad)) (xz_Qc D ad cA M H.size (ov, M1) (as.map (xz_V ad)).toArray) (va_A (xz_ws ad cA M) H.size) := by
          rcases hmw with hmw | hmw
          · have hmw1 := xz_pl_ok (f := fun (q : Nat × Nat × Nat) => .methodLink (xz_RN q.1) q.2.1 (xz_mn q.2.2)) xz_MWc (xz_mo y, z, a) (xz_cm hmw)
            exact va_runS ⟨hx, hb, hml, hown, hts⟩ hCt1 ⟨callB_of b hts (xz_goodwsy a ha0 ha2) rfl rfl rfl (hts _ hnw1) (hts _ hmw1) ⟨(xz_mhok a ha2).1, (xz_mhok a ha2).2, hpar⟩ hroom, hts _ hst1⟩ hpre rfl (by rw [List.length_map, hlen]) hl.1 hstk (lv_room (xz_cat_V hcat)) hdd hfit
          · have hmw1 := hE.1 (xz_mo y, z, a) (xz_cm hmw)
            exact va_runSN ⟨hx, hb, hml, hown, hts⟩ hCt1 ⟨va_cnB b hts (xz_goodwsy a ha0 ha2) rfl rfl rfl hmw1 (hts _ hnw1) ⟨(xz_mhok a ha2).1, (xz_mhok a ha2).2, hpar⟩ hroom, hts _ hst1, trivial⟩ hpre rfl (by rw [List.length_map, hlen]) hl.1 hstk (lv_room (xz_cat_V hcat)) hdd hfit
        refine xz_Wcall hrun hS hF (fun H1 locs1 tys1 ad1 cA1 k1 k2 k3 k4 k5 k6 k7 => ?_)
        exact after ov M1 S1 H1 locs1 tys1 ad1 cA1 _ hn hmono hvs k1 k2 k3 k4 k5 k6 k7 h5
      case invokevirtual z =>
        have hdd := dec (by simp)
        clear hd
        simp only [xz_oks, Bool.and_eq_true, beq_iff_eq, Nat.blt_eq, Nat.ble_eq, decide_eq_true_eq] at hok
        obtain ⟨⟨⟨⟨⟨⟨⟨⟨⟨⟨rfl, hn⟩, ha0⟩, ha2, hnmx⟩, hiw⟩, hsw⟩, hnw⟩, hmw⟩, hpar⟩, hmx⟩, hcl⟩ := hok
        have hnmx : a ≠ q_JD_max := by simpa using hnmx
        have hq : xz_args b S (fun as S => xz_pR S fun r1 S => xz_b (xz_cat S && xz_is M r1 e0) (xz_ret c0 (RR a (.ref r1 :: as) M) fun vs M => xz_blk RR Lp true X xz_lc (xz_code y) s' ((xz_code y).drop (k + 1)) L (vs ++ S) M)) = some r := h
        clear h
        obtain ⟨as, S0, hS0, hlen, hq1⟩ := xz_args_i hq
        obtain ⟨r1, S1, hS1, h3⟩ := xz_pR_i hq1
        clear hq hq1
        subst hS1
        subst hS0
        obtain ⟨hcat0, h4⟩ := xz_b_i h3
        obtain ⟨hcat, his⟩ := Bool.and_eq_true_iff.mp hcat0
        obtain ⟨ov, M1, hR1, h5⟩ := xz_ret_i h4
        have hiw1 := xz_pl_ok (f := fun y => .instanceMethod (xz_mn y)) xz_iwc a (xz_cm hiw)
        have hsw1 := xz_pl_ok (f := fun y => .selects (xz_mn y).cls (xz_mn y) (xz_mn y)) xz_swc a (xz_cm hsw)
        have hnw1 := xz_pl_ok (f := fun y => .initialized (xz_mn y).cls) xz_nwc a (xz_cm hnw)
        have hmw1 := xz_pl_ok (f := fun (q : Nat × Nat × Nat) => .methodLink (xz_RN q.1) q.2.1 (xz_mn q.2.2)) xz_MWc (xz_mo y, z, a) (xz_cm hmw)
        have hcap1 : M1.1.length ≤ 900 := Nat.le_trans (xz_Mo_blk hRm hLm true X xz_lc (xz_code y) s' ((xz_code y).drop (k + 1)) L (ov.toList ++ S1) M1 r h5).1 hcap
        obtain ⟨dw, hdw, hCt⟩ := hC a (.ref r1 :: as) M ov M1 ha0 ha2 hnmx hR1 hcap1
        subst hdw
        have hmono := hRm a (.ref r1 :: as) M (ov, M1) hR1
        have hmono2 := xz_Mo_blk hRm hLm true X xz_lc (xz_code y) s' ((xz_code y).drop (k + 1)) L (ov.toList ++ S1) M1 r h5
        have hvr : xz_vv M.1.length (.ref r1) := hvS _ (List.mem_append_right _ List.mem_cons_self)
        have hvas : ∀ v ∈ Value.ref r1 :: as, xz_vv M.1.length v := List.forall_mem_cons.mpr ⟨hvr, fun v hv => hvS v (List.mem_append_left _ (List.mem_reverse.mpr hv))⟩
        have hvs : ∀ v ∈ S1, xz_vv M.1.length v := fun v hv => hvS v (List.mem_append_right _ (List.mem_cons_of_mem _ hv))
        have hF : ∀ q, va_A (xz_ws ad cA M) H.size q → A q := xz_free hD hS hA
        have hCt1 := hCt tys ad cA H.size hvas hW
        have hroom : (xz_rm dw (M1.1.length - M.1.length) (xz_slt M1 - xz_slt M)).frames + 1 ≤ R.frames ∧ 8 + (xz_ml a + 11) + (xz_rm dw (M1.1.length - M.1.length) (xz_slt M1 - xz_slt M)).locals ≤ R.locals := by
          show dw + 1 + 1 ≤ R.frames ∧ 8 + (xz_ml a + 11) + 64 * (dw + 1) ≤ R.locals
          omega
        have hcell : ∃ cellB : Cell, H[ad r1]? = some cellB ∧ cellB.vm.isStatics = false ∧ s.vm.findClass (xz_mn a).cls = some cellB.cls := by
          have his : (bif e0 == 20 then Nat.ble 2000 r1 && Nat.blt r1 2009 else match M.1[r1]? with | some q => q.1 == e0 + 5 | none => false) = true := his
          cases he0 : (e0 == 20) with
          | true =>
            rw [he0] at hcl his
            have hcl : (xz_mn a).cls = "java/lang/String" := of_decide_eq_true hcl
            obtain ⟨i1, hi1, hri⟩ := xz_is_s his
            have e1 : ad r1 = ad0 (2000 + i1) := by
              rw [hri]
              exact hag _ (Or.inr (Nat.le_trans (by decide) (Nat.le_add_right 2000 i1)))
            rw [e1, hcl]
            exact vk_recv hE.2.2.1 (i := i1) hi1 hS
          | false =>
            rw [he0] at hcl his
            obtain ⟨g1, g2⟩ := Bool.and_eq_true_iff.mp hcl
            have g1 : e0 < 9 := Nat.le_of_ble_eq_true g1
            have g2 : (xz_mn a).cls = xz_RN e0 := of_decide_eq_true g2
            have his : (match M.1[r1]? with | some q => q.1 == e0 + 5 | none => false) = true := his
            cases hqr : M.1[r1]? with
            | none => rw [hqr] at his; cases his
            | some q =>
              rw [hqr] at his
              have hqa : q.1 = e0 + 5 := by simpa using his
              rw [g2]
              exact va_recv hK hP (xz_cl e0 g1) (q0 := r1) (by rw [xz_ws_get hqr, xz_ce_o hqa])
        have hpre : PreV s H (xz_mn a).cls (ad r1) (xz_Pc D tys ad cA M H.size (.ref r1 :: as)) (as.map (xz_V ad)) := ⟨xz_blind _ _ _ _ _ _ _, hcell, fun U hU hWm => ⟨rfl, by rw [hU], by rw [hU]; exact hP, va_K.moved hWm.alike hK, hD.weaken (fun _ _ _ _ => trivial), hE.call hS hF hWm hU (fun k' hk' => hag k' (Or.inr hk'))⟩⟩
        have hfit : cells + (M1.1.length - M.1.length) ≤ R.cells ∧ slots + (xz_slt M1 - xz_slt M) ≤ R.slots := by
          obtain ⟨e1, e2⟩ := hmono
          obtain ⟨e3, e4⟩ := hmono2
          dsimp only at e1 e2
          omega
        have hstk : (as.reverse ++ .ref r1 :: S1).map (xz_V ad) = (as.map (xz_V ad)).reverse ++ .ref (ad r1) :: S1.map (xz_V ad) := by rw [List.map_append, List.map_reverse]; rfl
        have hrun : va_Run p l e R s m args below meth c H locs cells slots (M1.1.length - M.1.length) (xz_slt M1 - xz_slt M) (F0 m pc' ls ((as.reverse ++ .ref r1 :: S1).map (xz_V ad))) (S1.map (xz_V ad)) (xz_Qc D ad cA M H.size (ov, M1) (Value.ref (ad r1) :: as.map (xz_V ad)).toArray) (va_A (xz_ws ad cA M) H.size) :=
          va_runV ⟨hx, hb, hml, hown, hts⟩ hCt1 ⟨callB_of b hts (xz_goodwsy a ha0 ha2) rfl rfl rfl (hts _ hnw1) (hts _ hmw1) ⟨(xz_mhok a ha2).1, (xz_mhok a ha2).2, hpar⟩ hroom, hts _ hiw1, hts _ hsw1⟩ hpre rfl (by rw [List.length_map, hlen]) hl.1 hstk (lv_room (xz_cat_V hcat)) hdd hfit
        refine xz_Wcall hrun hS hF (fun H1 locs1 tys1 ad1 cA1 k1 k2 k3 k4 k5 k6 k7 => ?_)
        exact after ov M1 S1 H1 locs1 tys1 ad1 cA1 _ hn hmono hvs k1 k2 k3 k4 k5 k6 k7 h5
      case invokespecial z =>
        have hdd := dec (by simp)
        clear hd
        simp only [xz_oks, Bool.and_eq_true, beq_iff_eq] at hok
        obtain ⟨⟨rfl, hn⟩, hm⟩ := hok
        by_cases h13 : c0 = 13
        · subst h13
          have hm : (Nat.blt (xz_mo y) 9 && z == (bif xz_mo y == 4 then 1 else 3)) = true := hm
          obtain ⟨g1, g2⟩ := Bool.and_eq_true_iff.mp hm
          have g1 : xz_mo y < 9 := Nat.le_of_ble_eq_true g1
          have g2 : z = (bif xz_mo y == 4 then 1 else 3) := by simpa using g2
          obtain ⟨r1, S1, hS1, h1⟩ := xz_pR_i h
          clear h
          subst hS1
          obtain ⟨hcat, h2⟩ := xz_b_i h1
          have hlk : (Cond.methodLink (xz_RN (xz_mo y)) z Lib.objectInit).before args s = true := by
            rw [g2]
            have : ∀ o, o < 9 → (Cond.methodLink (xz_RN o) (bif o == 4 then 1 else 3) Lib.objectInit) ∈ xz_TB := by
              intro o ho
              match o, ho with
              | 0, _ => exact xz_wOi0
              | 1, _ => exact xz_wOi1
              | 2, _ => exact xz_wOi2
              | 3, _ => exact xz_wOi3
              | 4, _ => exact xz_wOi4
              | 5, _ => exact xz_wOi5
              | 6, _ => exact xz_wOi6
              | 7, _ => exact xz_wOi7
              | 8, _ => exact xz_wOi8
            exact hts _ (this _ g1)
          have hcs : ((S1.map (xz_V ad)).map fun v => v.category).sum ≤ 8 := xz_cat_V hcat
          have hcs2 := lv_room (m := m) (pc := pc') (ls := ls) (rest := (S1.map (xz_V ad))) hcs
          exact W.objInit hx hb hown hlk (hts _ xz_wOn) (hts _ xz_wOc) (g := F0 m pc' ls (.ref (ad r1) :: S1.map (xz_V ad))) rfl (hl.1.trans hml.symm) rfl hdd (by omega) (by
            have e1 : (F0 m pc' ls (.ref (ad r1) :: S1.map (xz_V ad))).monitorRoom = (F0 m pc' ls (S1.map (xz_V ad))).monitorRoom := rfl
            rw [e1]
            omega) (nx _ _ S1 hn (xz_v1 hvS) h2)
        have hm : (Nat.blt 0 a && (Nat.blt a 200 && a != q_JD_max) && (xz_iwp.map (·.1)).contains a && (xz_nwp.map (·.1)).contains a && xz_MWl.contains (xz_mo y, z, a) && decide ((parseMethodDescriptor (xz_mn a).desc).map (fun d => d.parameters.length) = some b) && Nat.ble (xz_ml a) 40 && decide ((xz_mn a).name = "<init>") && xz_rk (xz_mr a) == 3 && Nat.blt e0 9) = true := by
          split at hm
          · exact absurd rfl h13
          · exact hm
        have hq : xz_args b S (fun as S => xz_pR S fun r1 S => xz_b (xz_cat S && xz_is M r1 e0) (xz_ret c0 (RR a (.ref r1 :: as) M) fun vs M => xz_blk RR Lp true X xz_lc (xz_code y) s' ((xz_code y).drop (k + 1)) L (vs ++ S) M)) = some r := by
          unfold xz_blk at h
          dsimp only at h
          split at h
          · exact absurd rfl h13
          · exact h
        clear h
        simp only [Bool.and_eq_true, beq_iff_eq, Nat.blt_eq, Nat.ble_eq, decide_eq_true_eq] at hm
        obtain ⟨⟨⟨⟨⟨⟨⟨⟨⟨ha0, ha2, hnmx⟩, hiw⟩, hnw⟩, hmw⟩, hpar⟩, hmx⟩, hni⟩, hrk⟩, he9⟩ := hm
        have hnmx : a ≠ q_JD_max := by simpa using hnmx
        obtain ⟨as, S0, hS0, hlen, hq1⟩ := xz_args_i hq
        obtain ⟨r1, S1, hS1, h3⟩ := xz_pR_i hq1
        clear hq hq1
        subst hS1
        subst hS0
        obtain ⟨hcat0, h4⟩ := xz_b_i h3
        obtain ⟨hcat, his⟩ := Bool.and_eq_true_iff.mp hcat0
        obtain ⟨ov, M1, hR1, h5⟩ := xz_ret_i h4
        have hiw1 := xz_pl_ok (f := fun y => .instanceMethod (xz_mn y)) xz_iwc a (xz_cm hiw)
        have hnw1 := xz_pl_ok (f := fun y => .initialized (xz_mn y).cls) xz_nwc a (xz_cm hnw)
        have hmw1 := xz_pl_ok (f := fun (q : Nat × Nat × Nat) => .methodLink (xz_RN q.1) q.2.1 (xz_mn q.2.2)) xz_MWc (xz_mo y, z, a) (xz_cm hmw)
        have hret : xz_mr a = none := xz_rk3 hrk
        have hcap1 : M1.1.length ≤ 900 := Nat.le_trans (xz_Mo_blk hRm hLm true X xz_lc (xz_code y) s' ((xz_code y).drop (k + 1)) L (ov.toList ++ S1) M1 r h5).1 hcap
        obtain ⟨dw, hdw, hCt⟩ := hC a (.ref r1 :: as) M ov M1 ha0 ha2 hnmx hR1 hcap1
        subst hdw
        have hmono := hRm a (.ref r1 :: as) M (ov, M1) hR1
        have hmono2 := xz_Mo_blk hRm hLm true X xz_lc (xz_code y) s' ((xz_code y).drop (k + 1)) L (ov.toList ++ S1) M1 r h5
        have hvr : xz_vv M.1.length (.ref r1) := hvS _ (List.mem_append_right _ List.mem_cons_self)
        have hvas : ∀ v ∈ Value.ref r1 :: as, xz_vv M.1.length v := List.forall_mem_cons.mpr ⟨hvr, fun v hv => hvS v (List.mem_append_left _ (List.mem_reverse.mpr hv))⟩
        have hvs : ∀ v ∈ S1, xz_vv M.1.length v := fun v hv => hvS v (List.mem_append_right _ (List.mem_cons_of_mem _ hv))
        have hF : ∀ q, va_A (xz_ws ad cA M) H.size q → A q := xz_free hD hS hA
        have hCt1 := hCt tys ad cA H.size hvas hW
        have hroom : (xz_rm dw (M1.1.length - M.1.length) (xz_slt M1 - xz_slt M)).frames + 1 ≤ R.frames ∧ 8 + (xz_ml a + 11) + (xz_rm dw (M1.1.length - M.1.length) (xz_slt M1 - xz_slt M)).locals ≤ R.locals := by
          show dw + 1 + 1 ≤ R.frames ∧ 8 + (xz_ml a + 11) + 64 * (dw + 1) ≤ R.locals
          omega
        have hpre : PreS s H (xz_Pc D tys ad cA M H.size (.ref r1 :: as)) (.ref (ad r1) :: as.map (xz_V ad)) := ⟨xz_blind _ _ _ _ _ _ _, fun U hU hWm => ⟨rfl, by rw [hU], by rw [hU]; exact hP, va_K.moved hWm.alike hK, hD.weaken (fun _ _ _ _ => trivial), hE.call hS hF hWm hU (fun k' hk' => hag k' (Or.inr hk'))⟩⟩
        have hfit : cells + (M1.1.length - M.1.length) ≤ R.cells ∧ slots + (xz_slt M1 - xz_slt M) ≤ R.slots := by
          obtain ⟨e1, e2⟩ := hmono
          obtain ⟨e3, e4⟩ := hmono2
          dsimp only at e1 e2
          omega
        have hstk : (as.reverse ++ .ref r1 :: S1).map (xz_V ad) = (as.map (xz_V ad)).reverse ++ .ref (ad r1) :: S1.map (xz_V ad) := by rw [List.map_append, List.map_reverse]; rfl
        have hcb := callB_of (own := xz_RN (xz_mo y)) (index := z) (R := R) b hts (xz_goodwsy a ha0 ha2) rfl (rm := xz_rm dw (M1.1.length - M.1.length) (xz_slt M1 - xz_slt M)) rfl rfl (hts _ hnw1) (hts _ hmw1) ⟨(xz_mhok a ha2).1, (xz_mhok a ha2).2, hpar⟩ hroom
        rw [hret] at hcb
        have hws : xz_wsy a = .code (xz_mn a) (xz_mb a) (xz_ml a) none :: xz_TB := by rw [← hret]
        rw [hws] at hCt1 hcb
        have hrun : va_Run p l e R s m args below meth c H locs cells slots (M1.1.length - M.1.length) (xz_slt M1 - xz_slt M) (F0 m pc' ls ((as.reverse ++ .ref r1 :: S1).map (xz_V ad))) (S1.map (xz_V ad)) (xz_Qc D ad cA M H.size (ov, M1) (Value.ref (ad r1) :: as.map (xz_V ad)).toArray) (va_A (xz_ws ad cA M) H.size) :=
          va_runI ⟨hx, hb, hml, hown, hts⟩ hCt1 ⟨hcb, hni, hts _ hiw1⟩ hpre rfl (by rw [List.length_map, hlen]) hl.1 hstk (lv_room (xz_cat_V hcat)) hdd hfit
        refine xz_Wcall hrun hS hF (fun H1 locs1 tys1 ad1 cA1 k1 k2 k3 k4 k5 k6 k7 => ?_)
        exact after ov M1 S1 H1 locs1 tys1 ad1 cA1 _ hn hmono hvs k1 k2 k3 k4 k5 k6 k7 h5
      all_goals (cases h)
end SND
end
section
/-! THE LITTLE MACHINE IS SOUND, whole runs: what a run answers is what the method's contract says -/
theorem xz_plain : ∀ w, w < 200 → w ≠ q_JD_max → plainName (xz_mn w).cls = true := by decide +kernel
theorem xz_pc0 : ∀ w, w < 200 → xz_pcA (xz_code w) 0 0 = true := by decide +kernel
theorem xz_mocls : ∀ w, w < 200 → 0 < w → (xz_mn w).cls = xz_RN (xz_mo w) := by decide +kernel
theorem xz_VL_args (ad : Nat → Nat) : ∀ (vs : List Value) (i : Nat), xz_VL ad (lv_args i vs) = lv_args i (vs.map (xz_V ad))
  | [], _ => rfl
  | v :: vs, i => by
    show (i, xz_V ad v) :: xz_VL ad (lv_args _ vs) = (i, xz_V ad v) :: lv_args _ (vs.map (xz_V ad))
    rw [xz_VL_args ad vs, xz_V_cat]
theorem xz_args_mem : ∀ (vs : List Value) (i : Nat) (q : Nat × Value), q ∈ lv_args i vs → q.2 ∈ vs
  | [], _, _, h => by cases h
  | v :: vs, i, q, h => by
    rcases List.mem_cons.mp h with rfl | h
    · exact List.mem_cons_self
    · exact List.mem_cons_of_mem _ (xz_args_mem vs _ q h)
theorem xz_sl_len : ∀ vs : List Value, (lg_sl vs).length = xz_aw vs := by
  intro vs
  induction vs with
  | nil => rfl
  | cons v vs ih =>
    have e : xz_aw (v :: vs) = v.category + xz_aw vs := by simp [xz_aw]
    rw [e, ← ih]
    cases v <;> simp [lg_sl, Value.category] <;> omega
theorem xz_aw_V (ad : Nat → Nat) (vs : List Value) : xz_aw (vs.map (xz_V ad)) = xz_aw vs := by
  unfold xz_aw
  rw [List.map_map, show ((fun v : Value => v.category) ∘ xz_V ad) = fun v => v.category from funext fun v => xz_V_cat ad v]
def xz_PR (l : Launch) (D : va_G) (n : Nat) : Prop := ∀ (p : Program) (e : Env) (R : Room) (s : State) (m : MethodId) (args : Array Value) (below : List Frame) (meth : Method) (c : Code) (Q : State → Prop) (y d mc ms n0 : Nat) (X : xz_X) (r : Option Value × xz_M) (A : Nat → Prop) (ad0 : Nat → Nat),
    xz_Fx p R s m args meth c y d mc ms → (∀ q, s.heap.size ≤ q → A q) → xz_En ad0 A s s.heap → r.2.1.length ≤ 900 →
    (∀ q, X = some q → va_X (ad0 1000) q.1 q.2 s s.heap ∧ ad0 1000 < s.heap.size ∧ ¬ A (ad0 1000)) →
    (∀ (ins : Instr) (pc : Nat) (ls : Array Slot) (H : Heap) (locs : List Loc) (tys : List (ClassId × FieldType)) (ad : Nat → Nat) (cA : Nat → ClassId), decode (xz_mb y) pc = .ok (ins, 1) → xz_Ri y ins r.1 → (∀ v ∈ r.1.toList, xz_vv r.2.1.length v) →
      va_P D vwCl (xz_ws ad cA r.2) H → va_K D vwCl tys s → va_D A (xz_ws ad cA r.2) → va_S A s.heap H locs → xz_Wf cA tys r.2 → (∀ k, k < n0 ∨ 1000 ≤ k → ad k = ad0 k) → W p l e R s m args below meth c H locs mc ms Q (F0 m pc ls (r.1.toList.map (xz_V ad)))) →
    ∀ (k pc : Nat) (L : xz_L) (S : List Value) (M : xz_M) (ls : Array Slot) (H : Heap) (locs : List Loc) (cells slots : Nat) (tys : List (ClassId × FieldType)) (ad : Nat → Nat) (cA : Nat → ClassId), xz_pcA (xz_code y) k pc = true → xz_run xz_code xz_lc xz_ml n d y X k L S M = some r → lv_has ls (xz_ml y) (xz_VL ad L) → (∀ q ∈ L, xz_vv M.1.length q.2) → (∀ v ∈ S, xz_vv M.1.length v) →
      va_P D vwCl (xz_ws ad cA M) H → va_K D vwCl tys s → va_D A (xz_ws ad cA M) → va_S A s.heap H locs → xz_Wf cA tys M → (∀ k, k < n0 ∨ 1000 ≤ k → ad k = ad0 k) → n0 ≤ M.1.length → cells + r.2.1.length = mc + M.1.length → slots + xz_slt r.2 = ms + xz_slt M → W p l e R s m args below meth c H locs cells slots Q (F0 m pc ls (S.map (xz_V ad)))
theorem xz_Ct_of {l : Launch} {D : va_G} {n : Nat} (ih : xz_PR l D n) {d w : Nat} {as : List Value} {M : xz_M} {r : Option Value × xz_M} (h0 : 0 < w) (h200 : w < 200) (hmx : w ≠ q_JD_max) (hok : xz_okm w = true) (haw : xz_aw as ≤ xz_ml w) (h : xz_run xz_code xz_lc xz_ml n d w none 0 (lv_args 0 as) [] M = some r) (hcap : r.2.1.length ≤ 900) : xz_Ct l D d w as M r := by
  intro tys ad cA sz hvas hW
  have hmono := xz_run_mono xz_code xz_lc xz_ml n d w none 0 (lv_args 0 as) [] M r h
  refine Met.ofW (cc := xz_mb w) (maxL := xz_ml w) (ret := xz_mr w) (xz_plain w h200 hmx) rfl ?_
  intro p e s m args below meth c s₁ B hml hv
  obtain ⟨rfl, hsz, hP, hK, hD0, hE⟩ := hv
  have hx := B.exec
  have hb := B.bytes
  have hr := B.returns
  have hts0 := atoms_spec (ws := xz_wsy w) B.pre
  have hts : ∀ z ∈ xz_TB, z.before (as.map (xz_V ad)).toArray s = true := fun z hz => hts0 z (List.mem_cons_of_mem _ hz)
  have hown : s.vm.findClass (xz_RN (xz_mo w)) = some m.cls := by rw [← xz_mocls w h200 h0]; exact findClass_of_methodNamed B.named
  have hlocks := B.notSynchronized
  have hin : meth.name = (xz_mn w).name := (name_of_methodNamed B.named B.method).1
  subst hsz
  have hD : va_D (va_A (xz_ws ad cA M) s.heap.size) (xz_ws ad cA M) := hD0.self
  have hA : ∀ q : Nat, s.heap.size ≤ q → va_A (xz_ws ad cA M) s.heap.size q := fun q hq => Or.inr hq
  rw [lg_entry_eq]
  have hl := lv_entry (as.map (xz_V ad)) (n := xz_ml w) (by rw [xz_sl_len, xz_aw_V]; exact haw)
  rw [← xz_VL_args] at hl
  obtain ⟨hm1, hm2⟩ := hmono
  refine ih p e _ s m _ below meth c _ w d (r.2.1.length - M.1.length) (xz_slt r.2 - xz_slt M) M.1.length none r (va_A (xz_ws ad cA M) s.heap.size) ad ⟨hx, hb, hml, hown, hts, fun _ => hin, ?_, ?_, ?_, ?_, hok⟩ hA hE hcap (fun q hq => by cases hq) ?_ 0 0 (lv_args 0 as) [] M _ s.heap [] 0 0 tys ad cA (xz_pc0 w h200) h hl (fun q hq => hvas q.2 (xz_args_mem as 0 q hq)) (fun v hv => by cases hv) hP hK hD va_S.rf hW (fun _ _ => rfl) (Nat.le_refl _) (by omega) (by omega)
  · exact Nat.le_refl _
  · exact Nat.le_refl _
  · exact Nat.le_refl _
  · exact Nat.le_refl _
  · intro ins pc ls H locs tys' ad' cA' hdg hri hvv hP' hK' hD' hS' hW' hag'
    have hq : ∀ t : State, t.heap = H → s.WarmedH t.vm → xz_Qc D ad cA M s.heap.size r (as.map (xz_V ad)).toArray s (.returned (r.1.map (xz_V ad'))) t := fun t ht hwm =>
      ⟨⟨tys', ad', cA', rfl, hag', by rw [ht]; exact hP', va_K.moved hwm.alike hK', hD', hW', hvv⟩, hS'.F ht⟩
    rcases hri with ⟨rfl, x1, ty, he, hty, hn⟩ | ⟨rfl, x1, he, hty⟩ | ⟨rfl, q1, ty, he, hty, hto⟩ | ⟨rfl, he, hty⟩
    · rw [he] at hq ⊢
      exact W.zret hx hb (hr.trans hty) hn hq hS'.2.2 hdg
    · rw [he] at hq ⊢
      exact W.lret hx hb (hr.trans hty) hq hS'.2.2 hdg
    · rw [he] at hq ⊢
      exact W.aret hx hb (hr.trans hty) hto (Or.inr ⟨_, rfl⟩) hq hS'.2.2 hdg
    · rw [he] at hq ⊢
      exact W.vret hx hb (hr.trans hty) hq hS'.2.2 hdg
theorem xz_sound (hok : ∀ w, w < 200 → xz_okm w = true) (l : Launch) (D : va_G) : ∀ n, xz_PR l D n := by
  intro n
  induction n with
  | zero => intro p e R s m args below meth c Q y d mc ms n0 X r A ad0 F hA hE hcap hX K k pc L S M ls H locs cells slots tys ad cA hpc h; cases h
  | succ n ih =>
    intro p e R s m args below meth c Q y d mc ms n0 X r A ad0 F hA hE hcap hX K k pc L S M ls H locs cells slots tys ad cA hpc h
    refine xz_snd_blk (RR := xz_cal xz_ml (xz_run xz_code xz_lc xz_ml n) d) (Lp := fun k L S M => xz_run xz_code xz_lc xz_ml n d y X k L S M) F hA hE hcap hX ?_ (fun k L S M => xz_run_mono _ _ _ n d y X k L S M) K (fun k pc L S M ls H locs cells slots tys ad cA h1 h2 => ih p e R s m args below meth c Q y d mc ms n0 X r A ad0 F hA hE hcap hX K k pc L S M ls H locs cells slots tys ad cA h1 h2) ?_ 400 k pc L S M ls H locs cells slots tys ad cA hpc h
    · intro y as M
      cases d with
      | zero => exact xz_Mo_none _
      | succ d => exact xz_Mo_b (xz_run_mono _ _ _ n d y none 0 (lv_args 0 as) [] M)
    · intro w as M ov M1 h0 h200 hmx hR hc1
      cases d with
      | zero => cases hR
      | succ d =>
        obtain ⟨h1, h2⟩ := xz_b_i hR
        exact ⟨d, rfl, xz_Ct_of ih h0 h200 hmx (hok w h200) (Nat.le_of_ble_eq_true h1) h2 hc1⟩
end
section
/-! THE START: what the Statement gives of the texts and statics, and the law's run out of the little machine's -/
def xz_tix : List Nat := [74, 76, 78, 80, 82, 84, 86, 88, 90]
def xz_tm (i : Nat) : Term := .string "HandRelay$Text" (xz_tix.getD i 0)
abbrev xz_pre : List Cond := flatC (Jvm.Cond.and given_1 narrow_1)
theorem xz_pr_ex : ∀ i, i < 9 → Cond.exactly (xz_tm i) "java/lang/String" ∈ xz_pre := by decide +kernel
theorem xz_pr_co : ∀ i, i < 9 → Cond.eq (.field (xz_tm i) "java/lang/String" "coder" "B") (.int 0) ∈ xz_pre := by decide +kernel
theorem xz_pr_ar : ∀ i, i < 9 → Cond.arrayOf (.field (xz_tm i) "java/lang/String" "value" "[B") .byte ∈ xz_pre := by decide +kernel
theorem xz_pr_le : ∀ i, i < 9 → Cond.eq (.length (.field (xz_tm i) "java/lang/String" "value" "[B")) (.int (Int32.ofNat (xz_slen.getD i 0))) ∈ xz_pre := by decide +kernel
theorem xz_pr_el : ∀ i, i < 9 → ∀ j, j < xz_slen.getD i 0 → Cond.eq (.elem (.field (xz_tm i) "java/lang/String" "value" "[B") (.int (Int32.ofNat j))) (.int ((xz_sbyt.getD i []).getD j 0)) ∈ xz_pre := by decide +kernel
theorem xz_pr_ne : ∀ i, i < 9 → ∀ j, j < 9 → i ≠ j → (Cond.not (Cond.eq (xz_tm i) (xz_tm j)) ∈ xz_pre ∨ Cond.not (Cond.eq (xz_tm j) (xz_tm i)) ∈ xz_pre) := by decide +kernel
def xz_mix : List Nat := [189, 194, 196, 198, 199]
theorem xz_pr_m : ∀ i, i < 5 → Cond.eq (xz_tm i) (.string "HandRelayModel" (xz_mix.getD i 0)) ∈ xz_pre ∧ Cond.exactly (.string "HandRelayModel" (xz_mix.getD i 0)) "java/lang/String" ∈ xz_pre := by decide +kernel
theorem xz_pr_cs : Cond.eq (.static "java/lang/String" "COMPACT_STRINGS" "Z") (.int 1) ∈ xz_pre := by decide +kernel
theorem xz_pr_sf : Cond.isRef (.static "jdk/internal/util/Preconditions" "SIOOBE_FORMATTER" "Ljava/util/function/BiFunction;") ∈ xz_pre := by decide +kernel
end
section
/-! THE CLAIM OUT OF ONE WALK OF THE LAW'S BODY. Your part is whole_start (and what it stands on); all else here is the same for every law, but numbers. -/
def R_law : String := "HandRelayLaw"
def lw_P (b : Addr) (xs : List Int32) (args : Array Value) (s : State) : Prop := args = #[.ref b] ∧ s.IntsAt b xs ∧ xs.length ≤ 3072 ∧ (Jvm.Cond.and given_1 narrow_1).before args s = true
def lw_Q (_ : Array Value) (s : State) (o : Outcome) (t : State) : Prop := o = .returned (some (.int 1)) ∧ Framed s o t [] 600000 7302250
def lw_Z (below : List Frame) (a : Array Value) (s : State) : State → Prop := fun t => ∃ o, t.status = .running ∧ Ended t below o ∧ lw_Q a s o t
/-- the law's own end, with 1 on the stack, nothing written that was there before, its room as the claim has it -/
theorem lw_ret {p : Program} {l : Launch} {e : Env} {s : State} {m : MethodId} {below : List Frame} {meth : Method} {c : Code} {b : Nat} (hx : p.tables.exec = Jvm.exec) (hb : c.code = code) (hr : meth.sig.returnType = ret) (hlocks : meth.locks = false) {pc : Nat} {H : Heap} {ls : Array Slot} (hdg : decode code pc = .ok (.ireturn, 1)) : W p l e room_1 s m #[Value.ref b] below meth c H [] 600000 7302250 (lw_Z below #[Value.ref b] s) (F0 m pc ls [.int 1]) := by
  intro T hT X
  obtain ⟨fs, hret, hrun, hended, hW, hframe⟩ := X.leave (v := some (.int 1)) (hlocks := hlocks) (fun h => by rw [hr] at h; cases h)
  have hmeth' : T.vm.method? m = some meth := X.method'
  refine ⟨T.setFrames fs, ?_, .returned (some (.int 1)), hrun, hended, rfl, ⟨_, rfl⟩, hW, hframe⟩
  jvm_step X.here [X.here.top, hx, hb, hdg, hmeth', hr, ret, narrow_b1]
  (try refine ⟨rfl, ?_⟩); (try refine ⟨rfl, ?_⟩)
  first | (intro acts; rw [hret _ acts rfl rfl rfl]) | rw [hret _ _ rfl rfl rfl]
  exact Steps.refl _
/-- what holds at the law's entry: the machine, the code, the tables' words (any of lw_tbl by 'hts w (by decide +kernel)'), the script of L ints xs at the cell b, what the Statement gives of the start (any of its parts by flat_of_before) -/
def lw_At (p : Program) (s : State) (m : MethodId) (meth : Method) (c : Code) (b L : Nat) (xs : Nat → Int32) : Prop :=
  p.tables.exec = Jvm.exec ∧ c.code = code ∧ meth.sig.returnType = ret ∧ c.maxLocals = 4 ∧ s.vm.findClass R_law = some m.cls ∧ (∀ w ∈ lw_tbl, w.before #[Value.ref b] s = true) ∧ va_X b L xs s s.heap ∧ b < s.heap.size ∧ meth.locks = false ∧ (Jvm.Cond.and given_1 narrow_1).before #[Value.ref b] s = true
theorem xz_exact_ref {args : Array Value} {s : State} {t : Term} {C : String} (h : (Cond.exactly t C).before args s = true) : ∃ a, t.eval args s none [] s = some (.ref a) := by
  simp only [Cond.before, Cond.holds, Cond.value] at h
  cases ht : t.eval args s none [] s with
  | none => rw [ht] at h; simp at h
  | some v =>
    rw [ht] at h
    cases v with
    | ref a => exact ⟨a, rfl⟩
    | null => cases hf : s.vm.findClass C <;> rw [hf] at h <;> simp at h
    | _ => simp at h
theorem xz_env {args : Array Value} {s : State} {A : Nat → Prop} (hts : ∀ w ∈ lw_tbl, w.before args s = true) (hg : (Jvm.Cond.and given_1 narrow_1).before args s = true) (hA : ∀ a : Nat, a < s.heap.size → ¬ A a) (b : Nat) : ∃ ad0 : Nat → Nat, ad0 1000 = b ∧ xz_En ad0 A s s.heap := by
  have hs := flat_of_before _ hg
  obtain ⟨adK, adV, hS, hK⟩ := vk_Sof (args := args) (s := s) (N := 9) (tm := xz_tm) (len := xz_slen) (byt := xz_sbyt) (A := A) (by decide +kernel) (fun i hi => hs _ (xz_pr_ex i hi)) (fun i hi => hs _ (xz_pr_co i hi)) (fun i hi => hs _ (xz_pr_ar i hi)) (fun i hi => hs _ (xz_pr_le i hi)) (fun i hi j hj => hs _ (xz_pr_el i hi j hj)) (fun i j hi hj hij => (xz_pr_ne i hi j hj hij).imp (hs _) (hs _)) hA
  have hz := va_Zqof (A := A) (hts (.laysStatic "jdk/internal/util/Preconditions" "SIOOBE_FORMATTER" "Ljava/util/function/BiFunction;") (by decide +kernel)) (hts (.initialized "jdk/internal/util/Preconditions") (by decide +kernel)) (hs _ xz_pr_sf) hA
  obtain ⟨sv, hsv⟩ : ∃ sv : Nat, va_Z RJ3 "SIOOBE_FORMATTER" "Ljava/util/function/BiFunction;" (match sv with | 0 => Value.null | t + 1 => .ref t) A s s.heap := by
    rcases hz with h | ⟨t, h⟩
    · exact ⟨0, h⟩
    · exact ⟨t + 1, h⟩
  have hcs : (Term.static "java/lang/String" "COMPACT_STRINGS" "Z").eval args s none [] s = some (.int 1) := by
    have h := hs _ xz_pr_cs
    simp only [Cond.before, Cond.holds, Cond.value] at h
    cases ht : (Term.static "java/lang/String" "COMPACT_STRINGS" "Z").eval args s none [] s with
    | none => rw [ht] at h; simp [Term.eval] at h
    | some v =>
      rw [ht] at h
      cases v <;> simp [Term.eval] at h
      rw [h]
  refine ⟨fun k => if k = 1000 then b else if k = 2200 then sv else if 2100 ≤ k then adV (k - 2100) else adK (k - 2000), by simp, ?_, ?_, ?_, ?_, ?_, ?_, ?_⟩
  · intro q hq
    obtain ⟨q', hq', rfl⟩ := List.mem_map.mp hq
    have h1 := List.all_eq_true.mp xz_MXc q' hq'
    exact va_Nw.of rfl (hts _ (List.mem_of_getElem? (of_decide_eq_true h1)))
  · intro q hq
    obtain ⟨q', hq', rfl⟩ := List.mem_map.mp hq
    have h1 := List.all_eq_true.mp xz_SWc q' hq'
    have hw := hts _ (List.mem_of_getElem? (of_decide_eq_true h1))
    refine vk_R.of hw ?_
    have hcase : ∀ q' ∈ xz_SWp, (xz_RN q'.1.1 = "HandRelay$Text" ∧ q'.1.2.2 < 9 ∧ q'.1.2.1 = xz_tix.getD q'.1.2.2 0) ∨ (xz_RN q'.1.1 = "HandRelayModel" ∧ q'.1.2.2 < 5 ∧ q'.1.2.1 = xz_mix.getD q'.1.2.2 0) := by decide +kernel
    have hval : ∀ i, i < 9 → (if 2000 + i = 1000 then b else if 2000 + i = 2200 then sv else if 2100 ≤ 2000 + i then adV (2000 + i - 2100) else adK (2000 + i - 2000)) = adK i := by
      intro i hi
      rw [if_neg (by omega), if_neg (by omega), if_neg (by omega), show 2000 + i - 2000 = i by omega]
    rcases hcase q' hq' with ⟨e1, e2, e3⟩ | ⟨e1, e2, e3⟩
    · rw [e1, e3]
      dsimp only
      rw [hval _ e2]
      exact hK _ e2
    · rw [e1, e3]
      dsimp only
      rw [hval q'.1.2.2 (by omega)]
      obtain ⟨g1, g2⟩ := xz_pr_m _ e2
      obtain ⟨a2, ha2⟩ := xz_exact_ref (hs _ g2)
      have h3 := Cond.eq_refs (hs _ g1) ha2 rfl
      rw [hK _ (by omega)] at h3
      cases h3
      exact ha2
  · have e1 : (fun i => (fun k => if k = 1000 then b else if k = 2200 then sv else if 2100 ≤ k then adV (k - 2100) else adK (k - 2000)) (2000 + i)) = fun i => if i < 9 then adK i else (fun k => if k = 1000 then b else if k = 2200 then sv else if 2100 ≤ k then adV (k - 2100) else adK (k - 2000)) (2000 + i) := by
      funext i
      by_cases hi : i < 9
      · rw [if_pos hi]
        show (if 2000 + i = 1000 then b else if 2000 + i = 2200 then sv else if 2100 ≤ 2000 + i then adV (2000 + i - 2100) else adK (2000 + i - 2000)) = adK i
        rw [if_neg (by omega), if_neg (by omega), if_neg (by omega), show 2000 + i - 2000 = i by omega]
      · rw [if_neg hi]
    refine ⟨fun i hi => ?_, fun i j hi hj hij => ?_⟩
    · have k1 : (if 2000 + i = 1000 then b else if 2000 + i = 2200 then sv else if 2100 ≤ 2000 + i then adV (2000 + i - 2100) else adK (2000 + i - 2000)) = adK i := by
        rw [if_neg (by omega), if_neg (by omega), if_neg (by omega), show 2000 + i - 2000 = i by omega]
      have k2 : (if 2100 + i = 1000 then b else if 2100 + i = 2200 then sv else if 2100 ≤ 2100 + i then adV (2100 + i - 2100) else adK (2100 + i - 2000)) = adV i := by
        rw [if_neg (by omega), if_neg (by omega), if_pos (by omega), show 2100 + i - 2100 = i by omega]
      dsimp only
      rw [k1, k2]
      exact hS.1 i hi
    · have k1 : ∀ i, i < 9 → (if 2000 + i = 1000 then b else if 2000 + i = 2200 then sv else if 2100 ≤ 2000 + i then adV (2000 + i - 2100) else adK (2000 + i - 2000)) = adK i := by
        intro i hi
        rw [if_neg (by omega), if_neg (by omega), if_neg (by omega), show 2000 + i - 2000 = i by omega]
      dsimp only at hij
      rw [k1 i hi, k1 j hj] at hij
      exact hS.2 i j hi hj hij
  · exact va_Zof (hts (.laysStatic "java/lang/String" "COMPACT_STRINGS" "Z") (by decide +kernel)) (hts (.initialized "java/lang/String") (by decide +kernel)) hcs hA
  · exact hsv
  · exact va_AOA.of (hts _ (List.mem_of_getElem? xz_wOI))
  · exact va_AOA.of (hts _ (List.mem_of_getElem? xz_wOJ))
set_option maxHeartbeats 4000000 in
set_option maxRecDepth 100000 in
/-- THE LAW out of the little machine's run of it -/
theorem xz_start (hok : ∀ w, w < 200 → xz_okm w = true) {p : Program} {e : Env} {s : State} {m : MethodId} {below : List Frame} {meth : Method} {c : Code} (l : Launch) {b L : Nat} {xs : Nat → Int32} (C0 : lw_At p s m meth c b L xs)
    {M1 : xz_M} (hrun : ∃ n, xz_run xz_code xz_lc xz_ml n 60 0 (some (L, xs)) 0 [(0, .ref 1000)] [] ([], fun _ _ => 0, fun _ _ => 0) = some (some (.int 1), M1)) (hc1 : M1.1.length ≤ 900) (hc2 : xz_slt M1 ≤ 7302250) :
    W p l e room_1 s m #[Value.ref b] below meth c s.heap [] 0 0 (lw_Z below #[Value.ref b] s) (entryFrame m ([Value.ref b] : List Value).toArray 4) := by
  obtain ⟨hx, hb, hr, hml, hown, hts, hX, hbl, hlocks, hgv⟩ := id C0
  obtain ⟨n, hrun⟩ := hrun
  have hAn : ∀ a : Nat, a < s.heap.size → ¬ s.heap.size ≤ a := fun a h => Nat.not_le.mpr h
  obtain ⟨ad0, hb0, hE⟩ := xz_env (A := fun q => s.heap.size ≤ q) hts hgv hAn b
  have hts' : ∀ w ∈ xz_TB, w.before #[Value.ref b] s = true := fun w hw => hts w (xz_TBsub w hw)
  have h9 : ∀ a : Nat, ∃ q : ClassId × (Nat → Nat), a < 9 → u_Kn s (xz_RN a) (xz_T a) (xz_NC a) q.1 q.2 := by
    intro a
    by_cases ha : a < 9
    · obtain ⟨c1, i1, h1⟩ := u_known hts' (xz_inT ha) (hts' _ (xz_wIn a ha))
      exact ⟨(c1, i1), fun _ => h1⟩
    · exact ⟨(0, fun _ => 0), fun h => absurd h ha⟩
  have hK : va_K (fun a => (Classical.choose (h9 a)).1, fun a => (Classical.choose (h9 a)).2) vwCl [] s := by
    refine ⟨fun a q hq => ?_, fun k q h => by simp at h⟩
    have ha : a < 9 := (List.getElem?_eq_some_iff.mp hq).1
    rw [xz_cl a ha] at hq
    cases hq
    exact Classical.choose_spec (h9 a) ha
  have hP : va_P (fun a => (Classical.choose (h9 a)).1, fun a => (Classical.choose (h9 a)).2) vwCl (xz_ws ad0 (fun _ => 0) ([], fun _ _ => 0, fun _ _ => 0)) s.heap := fun k q h => by simp [xz_ws] at h
  have hD : va_D (fun q : Nat => s.heap.size ≤ q) (xz_ws ad0 (fun _ => 0) ([], fun _ _ => 0, fun _ _ => 0)) := ⟨fun i j p q h => by simp [xz_ws] at h, fun k q h => by simp [xz_ws] at h⟩
  rw [lg_entry_eq]
  have hl := lv_entry ([.ref b]) (n := 4) (Nat.le_of_ble_eq_true rfl)
  have hlv : lv_args 0 [Value.ref b] = xz_VL ad0 [(0, .ref 1000)] := by
    show [(0, Value.ref b)] = [(0, Value.ref (ad0 1000))]
    rw [hb0]
  rw [hlv] at hl
  have hWf : xz_Wf (fun _ => 0) [] ([], fun _ _ => 0, fun _ _ => 0) := ⟨fun k q h => by simp at h, fun k q i h => by simp at h, fun k q h => by simp at h, Nat.zero_le _⟩
  refine xz_sound hok l (fun a => (Classical.choose (h9 a)).1, fun a => (Classical.choose (h9 a)).2) n p e room_1 s m #[Value.ref b] below meth c (lw_Z below #[Value.ref b] s) 0 60 M1.1.length (xz_slt M1) 0 (some (L, xs)) (some (.int 1), M1) (fun q => s.heap.size ≤ q) ad0 ⟨hx, hb, hml, hown, hts', fun h => absurd rfl h, by decide +kernel, by decide +kernel, Nat.le_trans hc1 (by decide +kernel), Nat.le_trans hc2 (by decide +kernel), hok 0 (by decide)⟩ (fun _ h => h) hE hc1 ?_ ?_ 0 0 [(0, .ref 1000)] [] ([], fun _ _ => 0, fun _ _ => 0) _ s.heap [] 0 0 [] ad0 (fun _ => 0) (xz_pc0 0 (by decide)) hrun hl ?_ (fun v hv => by cases hv) hP hK hD va_S.rf hWf (fun _ _ => rfl) (Nat.le_refl _) ?_ ?_
  · intro q hq
    cases hq
    rw [hb0]
    exact ⟨hX, hbl, Nat.not_le.mpr hbl⟩
  · intro ins pc ls H locs tys ad cA hdg hri hvv hP1 hK1 hD1 hS1 hW1 hag
    rcases hri with ⟨rfl, x1, ty, he, hty, hn⟩ | ⟨rfl, x1, he, hty⟩ | ⟨rfl, q1, ty, he, hty, hto⟩ | ⟨rfl, he, hty⟩
    · refine va_forget (fun q hq => hS1.2.2 q hq) ?_
      refine W.widen (k := 600000) (n := 7302250) (Nat.le_trans hc1 (by decide)) hc2 ?_
      exact lw_ret hx hb hr hlocks hdg
    · cases he
    · cases he
    · cases he
  · intro q hq
    cases hq with
    | head => exact Or.inr (Nat.le_refl _)
    | tail _ h => cases h
  · show 0 + M1.1.length = M1.1.length + 0
    omega
  · show 0 + xz_slt M1 = xz_slt M1 + 0
    omega
end
section
/-! AFTER THE TWO CONSTRUCTORS: the shape of the heap, and its numbers (by program: wip/whole/sim.py) -/
theorem xz_run_le (cd : Nat → List xz_Op) (lc : Nat → Int64) (ml : Nat → Nat) : ∀ (n d y : Nat) (X : xz_X) (k : Nat) (L : xz_L) (S : List Value) (M : xz_M) (r : Option Value × xz_M), xz_run cd lc ml n d y X k L S M = some r → xz_run cd lc ml (n + 1) d y X k L S M = some r
  | 0, _, _, _, _, _, _, _, _, h => by cases h
  | n + 1, d, y, X, k, L, S, M, r, h => by
    obtain ⟨n0, h0⟩ := xz_Cn_blk (R := fun _ => xz_cal ml (xz_run cd lc ml (n + 1)) d) (R' := xz_cal ml (xz_run cd lc ml n) d) (Lp := fun _ k L S M => xz_run cd lc ml (n + 1) d y X k L S M) (Lp' := fun k L S M => xz_run cd lc ml n d y X k L S M)
      (fun y as M => by
        cases d with
        | zero => exact xz_Cn_none _
        | succ d => exact xz_Cn_b fun r hr => ⟨0, fun _ _ => xz_run_le cd lc ml n d y none 0 (lv_args 0 as) [] M r hr⟩) (fun k L S M r hr => ⟨0, fun _ _ => xz_run_le cd lc ml n d y X k L S M r hr⟩) true X lc (cd y) 400 ((cd y).drop k) L S M r h
    exact h0 n0 (Nat.le_refl _)
theorem xz_Run_comp {cd : Nat → List xz_Op} {lc : Nat → Int64} {ml : Nat → Nat} {n d y : Nat} {X : xz_X} {k : Nat} {L : xz_L} {S : List Value} {M : xz_M} {r : Option Value × xz_M} (h : xz_run cd lc ml n d y X k L S M = some r) : xz_Run cd lc ml d y X k L S M = some r := by
  have key : ∀ j, xz_run cd lc ml (n + j) d y X k L S M = some r := by
    intro j
    induction j with
    | zero => exact h
    | succ j ih => exact xz_run_le cd lc ml (n + j) d y X k L S M r ih
  exact xz_Run_in ⟨n, fun q hq => by
    obtain ⟨j, rfl⟩ := Nat.exists_eq_add_of_le hq
    exact key j⟩
def xz_SH : List xz_Sh := [(12, 8, [some 1, some 20, some 39, some 58, some 60, some 66, some 82, none]),
  (8, 9, [none, none, none, none, none, some 2, some 8, some 12, some 16]),
  (5, 6, [none, some 3, some 4, some 5, some 6, some 7]),
  (0, 14, []),
  (0, 14, []),
  (0, 14, []),
  (0, 14, []),
  (1, 14, []),
  (7, 5, [none, none, some 9, some 10, some 11]),
  (0, 6, []),
  (0, 6, []),
  (0, 6, []),
  (7, 5, [none, none, some 13, some 14, some 15]),
  (0, 8, []),
  (0, 8, []),
  (0, 8, []),
  (7, 5, [none, none, some 17, some 18, some 19]),
  (0, 8, []),
  (0, 8, []),
  (0, 8, []),
  (8, 9, [none, none, none, none, none, some 21, some 27, some 31, some 35]),
  (5, 6, [none, some 22, some 23, some 24, some 25, some 26]),
  (0, 14, []),
  (0, 14, []),
  (0, 14, []),
  (0, 14, []),
  (1, 14, []),
  (7, 5, [none, none, some 28, some 29, some 30]),
  (0, 6, []),
  (0, 6, []),
  (0, 6, []),
  (7, 5, [none, none, some 32, some 33, some 34]),
  (0, 8, []),
  (0, 8, []),
  (0, 8, []),
  (7, 5, [none, none, some 36, some 37, some 38]),
  (0, 8, []),
  (0, 8, []),
  (0, 8, []),
  (8, 9, [none, none, none, none, none, some 40, some 46, some 50, some 54]),
  (5, 6, [none, some 41, some 42, some 43, some 44, some 45]),
  (0, 14, []),
  (0, 14, []),
  (0, 14, []),
  (0, 14, []),
  (1, 14, []),
  (7, 5, [none, none, some 47, some 48, some 49]),
  (0, 6, []),
  (0, 6, []),
  (0, 6, []),
  (7, 5, [none, none, some 51, some 52, some 53]),
  (0, 8, []),
  (0, 8, []),
  (0, 8, []),
  (7, 5, [none, none, some 55, some 56, some 57]),
  (0, 8, []),
  (0, 8, []),
  (0, 8, []),
  (6, 1, [some 59]),
  (0, 6, []),
  (11, 10, [none, none, none, none, none, some 61, some 62, some 63, some 64, some 65]),
  (0, 5, []),
  (0, 6, []),
  (0, 6, []),
  (0, 5, []),
  (0, 6, []),
  (10, 6, [none, none, some 67, some 68, some 69, none]),
  (0, 100, []),
  (0, 12, []),
  (3, 12, [some 70, some 71, some 72, some 73, some 74, some 75, some 76, some 77, some 78, some 79, some 80, some 81]),
  (0, 4, []),
  (0, 4, []),
  (0, 4, []),
  (0, 4, []),
  (0, 4, []),
  (0, 4, []),
  (0, 4, []),
  (0, 4, []),
  (0, 4, []),
  (0, 4, []),
  (0, 4, []),
  (0, 4, []),
  (9, 3, [some 83, some 84, some 85]),
  (0, 6, []),
  (0, 6, []),
  (4, 6, [some 86, some 87, some 88, some 89, some 90, some 91]),
  (2, 60, []),
  (2, 60, []),
  (2, 60, []),
  (2, 60, []),
  (2, 60, []),
  (2, 60, []),
  (13, 51, [none, none, some 93, some 94, some 95, some 96, some 97, none, none, none, none, none, none, none, some 98, some 99, some 100, some 101, some 102, some 103, some 104, some 105, none, none, none, none, some 106, some 107, none, none, none, none, none, none, none, none, none, none, some 108, some 109, some 110, some 111, none, some 112, some 113, some 114, some 115, some 126, some 127, some 128, some 135]),
  (1, 14, []),
  (0, 14, []),
  (0, 14, []),
  (0, 14, []),
  (0, 14, []),
  (0, 6, []),
  (0, 6, []),
  (0, 8, []),
  (0, 8, []),
  (0, 8, []),
  (0, 8, []),
  (1, 6, []),
  (0, 100, []),
  (0, 12, []),
  (0, 48, []),
  (0, 6, []),
  (0, 6, []),
  (0, 6, []),
  (1, 14, []),
  (0, 9, []),
  (1, 14, []),
  (1, 6, []),
  (3, 10, [some 116, some 117, some 118, some 119, some 120, some 121, some 122, some 123, some 124, some 125]),
  (0, 14, []),
  (0, 14, []),
  (0, 14, []),
  (0, 14, []),
  (0, 14, []),
  (0, 14, []),
  (0, 14, []),
  (0, 14, []),
  (0, 14, []),
  (0, 14, []),
  (0, 6, []),
  (0, 6, []),
  (4, 6, [some 129, some 130, some 131, some 132, some 133, some 134]),
  (2, 60, []),
  (2, 60, []),
  (2, 60, []),
  (2, 60, []),
  (2, 60, []),
  (2, 60, []),
  (2, 60, [])]
def xz_I0 : List (Nat × Nat × Int32) := [(1, 0, 3), (1, 1, 1), (1, 3, 1), (8, 1, 6), (12, 1, 8), (16, 1, 8), (20, 0, 3), (20, 1, 1), (20, 3, 1), (27, 1, 6), (31, 1, 8), (35, 1, 8), (39, 0, 3), (39, 1, 1), (39, 3, 1), (46, 1, 6), (50, 1, 8), (54, 1, 8), (83, 0, (-1)), (83, 1, (-1)), (83, 2, (-1)), (83, 3, (-1)), (83, 4, (-1)), (83, 5, (-1)), (92, 0, 3), (92, 7, 1), (92, 9, 1), (126, 0, (-1)), (126, 1, (-1)), (126, 2, (-1)), (126, 3, (-1)), (126, 4, (-1)), (126, 5, (-1))]
/-- a number of the heap after the constructors -/
def xz_i0 (k j : Nat) : Int32 := match xz_I0.find? (fun q => q.1 == k && q.2.1 == j) with
  | some q => q.2.2
  | none => 0
def xz_e0 : xz_M := xz_new ([], fun _ _ => 0, fun _ _ => 0) (12, 8, List.replicate 8 none)
def xz_r1 : xz_Res := xz_run xz_code xz_lc xz_ml 20 59 q_HR_init none 0 [(0, .ref 0)] [] xz_e0
def xz_e1 : xz_M := match xz_r1 with
  | some r => xz_new r.2 (13, 51, List.replicate 51 none)
  | none => xz_e0
def xz_r2 : xz_Res := xz_run xz_code xz_lc xz_ml 20 59 q_Mo_init none 0 [(0, .ref 92)] [] xz_e1
def xz_e2 : xz_M := match xz_r2 with
  | some r => r.2
  | none => xz_e0
theorem xz_r1_ok : (match xz_r1 with | some r => r.1 == none && r.2.1.length == 92 | none => false) = true := by decide +kernel
theorem xz_r2_ok : (match xz_r2 with | some r => r.1 == none | none => false) = true := by decide +kernel
theorem xz_e2_sh : xz_e2.1 = xz_SH := by decide +kernel
def xz_pts : List (Nat × Nat) := [(0, 8), (1, 9), (2, 6), (8, 5), (12, 5), (16, 5), (20, 9), (21, 6), (27, 5), (31, 5), (35, 5), (39, 9), (40, 6), (46, 5), (50, 5), (54, 5), (60, 10), (66, 6), (83, 6), (84, 6), (92, 51), (126, 6), (127, 6)]
theorem xz_e2_I : (xz_pts.all fun q => (List.range q.2).all fun j => xz_e2.2.1 q.1 j == xz_i0 q.1 j) = true := by decide +kernel
theorem xz_e2_J : (([86, 87, 88, 89, 90, 91] : List Nat).all fun k => (List.range 60).all fun j => xz_e2.2.2 k j == 0) = true := by decide +kernel
theorem xz_e2_J2 : (([129, 130, 131, 132, 133, 134] : List Nat).all fun k => (List.range 60).all fun j => xz_e2.2.2 k j == 0) = true := by decide +kernel
end
section
/-! BODIES: what each method, and each loop, does in one go; by program (wip/whole/emit.py), checked by unfolding -/
theorem b_Me_add (d : Nat) (a0 : Nat) (a1 : Int32) (a2 : Int32) (a3 : Int32) (a4 : Int32) (M : xz_M) (r : Option Value × xz_M) (h : (xz_o (xz_gI M a0 0 0) fun x1 => (if x1 < (14 : Int32) then xz_o (xz_gR M a0 0 1) fun x2 => xz_o (xz_gI M a0 0 0) fun x3 => xz_o (xz_sI0 M x2 x3 a1) fun M1 => xz_o (xz_gR M1 a0 0 2) fun x4 => xz_o (xz_gI M1 a0 0 0) fun x5 => xz_o (xz_sI0 M1 x4 x5 a2) fun M2 => xz_o (xz_gR M2 a0 0 3) fun x6 => xz_o (xz_gI M2 a0 0 0) fun x7 => xz_o (xz_sI0 M2 x6 x7 a3) fun M3 => xz_o (xz_gR M3 a0 0 4) fun x8 => xz_o (xz_gI M3 a0 0 0) fun x9 => xz_o (xz_sI0 M3 x8 x9 a4) fun M4 => xz_o (xz_gR M4 a0 0 5) fun x10 => xz_o (xz_gI M4 a0 0 0) fun x11 => xz_o (xz_sZ0 M4 x10 x11 (0 : Int32)) fun M5 => xz_o (xz_gI M5 a0 0 0) fun x12 => xz_o (xz_wI M5 a0 0 0 (x12 + (1 : Int32))) fun M6 => xz_o (xz_gI M6 a0 0 0) fun x13 => some (some (.int (x13 - (1 : Int32))), M6) else some (some (.int (-4 : Int32)), M))) = some r) : zC (d + 1) q_Me_add [.ref a0, .int a1, .int a2, .int a3, .int a4] M = some r := xz_Run_of h
theorem b_Me_become (d : Nat) (a0 : Nat) (a1 : Nat) (M : xz_M) (r : Option Value × xz_M) (h : (xz_o (xz_gI M a1 0 0) fun x1 => xz_o (xz_wI M a0 0 0 x1) fun M1 => zL d q_Me_become 7 [(0, .ref a0), (1, .ref a1), (2, .int (0 : Int32))] M1) = some r) : zC (d + 1) q_Me_become [.ref a0, .ref a1] M = some r := xz_Run_of h
theorem b_Me_become_l7 (d : Nat) (a0 : Nat) (a1 : Nat) (a2 : Int32) (M : xz_M) (r : Option Value × xz_M) (h : ((if (14 : Int32) ≤ a2 then some (none, M) else xz_o (xz_gR M a0 0 1) fun x1 => xz_o (xz_gR M a1 0 1) fun x2 => xz_o (xz_lI0 M 0 x2 a2) fun x3 => xz_o (xz_sI0 M x1 a2 x3) fun M1 => xz_o (xz_gR M1 a0 0 2) fun x4 => xz_o (xz_gR M1 a1 0 2) fun x5 => xz_o (xz_lI0 M1 0 x5 a2) fun x6 => xz_o (xz_sI0 M1 x4 a2 x6) fun M2 => xz_o (xz_gR M2 a0 0 3) fun x7 => xz_o (xz_gR M2 a1 0 3) fun x8 => xz_o (xz_lI0 M2 0 x8 a2) fun x9 => xz_o (xz_sI0 M2 x7 a2 x9) fun M3 => xz_o (xz_gR M3 a0 0 4) fun x10 => xz_o (xz_gR M3 a1 0 4) fun x11 => xz_o (xz_lI0 M3 0 x11 a2) fun x12 => xz_o (xz_sI0 M3 x10 a2 x12) fun M4 => xz_o (xz_gR M4 a0 0 5) fun x13 => xz_o (xz_gR M4 a1 0 5) fun x14 => xz_o (xz_lI0 M4 1 x14 a2) fun x15 => xz_o (xz_sZ0 M4 x13 a2 x15) fun M5 => zL d q_Me_become 7 [(0, .ref a0), (1, .ref a1), (2, .int (a2 + (1 : Int32)))] M5)) = some r) : zL d q_Me_become 7 [(0, .ref a0), (1, .ref a1), (2, .int a2)] M = some r := xz_Run_of h
theorem b_Me_change (d : Nat) (a0 : Nat) (a1 : Int32) (a2 : Int32) (a3 : Int32) (M : xz_M) (r : Option Value × xz_M) (h : ((if a2 = 0 then xz_o (xz_gR M a0 0 1) fun x3 => xz_o (xz_lI0 M 0 x3 a1) fun x4 => xz_o (xz_sI0 M x3 a1 a3) fun M2 => some (some (.int x4), M2) else xz_o (xz_gR M a0 0 4) fun x1 => xz_o (xz_lI0 M 0 x1 a1) fun x2 => xz_o (xz_sI0 M x1 a1 a3) fun M1 => some (some (.int x2), M1))) = some r) : zC (d + 1) q_Me_change [.ref a0, .int a1, .int a2, .int a3] M = some r := xz_Run_of h
theorem b_Me_hasCome (d : Nat) (a0 : Nat) (a1 : Int32) (M : xz_M) (r : Option Value × xz_M) (h : ((if a1 < 0 then some (some (.int (0 : Int32)), M) else xz_o (xz_gI M a0 0 0) fun x1 => (if x1 ≤ a1 then some (some (.int (0 : Int32)), M) else some (some (.int (1 : Int32)), M)))) = some r) : zC (d + 1) q_Me_hasCome [.ref a0, .int a1] M = some r := xz_Run_of h
theorem b_Me_howManyAhead (d : Nat) (a0 : Nat) (a1 : Int32) (M : xz_M) (r : Option Value × xz_M) (h : (zL d q_Me_howManyAhead 5 [(0, .ref a0), (1, .int a1), (2, .int (0 : Int32)), (3, .int (0 : Int32))] M) = some r) : zC (d + 1) q_Me_howManyAhead [.ref a0, .int a1] M = some r := xz_Run_of h
theorem b_Me_howManyAhead_l5 (d : Nat) (a0 : Nat) (a1 : Int32) (a2 : Int32) (a3 : Int32) (M : xz_M) (r : Option Value × xz_M) (h : (xz_o (xz_gI M a0 0 0) fun x1 => (if x1 ≤ a3 then some (some (.int a2), M) else xz_o (xz_gR M a0 0 5) fun x2 => xz_o (xz_lI0 M 1 x2 a3) fun x3 => (if x3 = 0 then xz_o (xz_gR M a0 0 1) fun x4 => xz_o (xz_lI0 M 0 x4 a3) fun x5 => xz_o (xz_gR M a0 0 1) fun x6 => xz_o (xz_lI0 M 0 x6 a1) fun x7 => (if x5 < x7 then zL d q_Me_howManyAhead 5 [(0, .ref a0), (1, .int a1), (2, .int (a2 + (1 : Int32))), (3, .int (a3 + (1 : Int32)))] M else xz_o (xz_gR M a0 0 1) fun x8 => xz_o (xz_lI0 M 0 x8 a3) fun x9 => xz_o (xz_gR M a0 0 1) fun x10 => xz_o (xz_lI0 M 0 x10 a1) fun x11 => (if x9 = x11 then (if a1 ≤ a3 then zL d q_Me_howManyAhead 5 [(0, .ref a0), (1, .int a1), (2, .int a2), (3, .int (a3 + (1 : Int32)))] M else zL d q_Me_howManyAhead 5 [(0, .ref a0), (1, .int a1), (2, .int (a2 + (1 : Int32))), (3, .int (a3 + (1 : Int32)))] M) else zL d q_Me_howManyAhead 5 [(0, .ref a0), (1, .int a1), (2, .int a2), (3, .int (a3 + (1 : Int32)))] M)) else zL d q_Me_howManyAhead 5 [(0, .ref a0), (1, .int a1), (2, .int a2), (3, .int (a3 + (1 : Int32)))] M))) = some r) : zL d q_Me_howManyAhead 5 [(0, .ref a0), (1, .int a1), (2, .int a2), (3, .int a3)] M = some r := xz_Run_of h
theorem b_Me_isThere (d : Nat) (a0 : Nat) (a1 : Int32) (M : xz_M) (r : Option Value × xz_M) (h : ((if a1 < 0 then some (some (.int (0 : Int32)), M) else xz_o (xz_gI M a0 0 0) fun x1 => (if x1 ≤ a1 then some (some (.int (0 : Int32)), M) else xz_o (xz_gR M a0 0 5) fun x2 => xz_o (xz_lI0 M 1 x2 a1) fun x3 => (if x3 = 0 then some (some (.int (1 : Int32)), M) else some (some (.int (0 : Int32)), M))))) = some r) : zC (d + 1) q_Me_isThere [.ref a0, .int a1] M = some r := xz_Run_of h
theorem b_Me_left (d : Nat) (a0 : Nat) (M : xz_M) (r : Option Value × xz_M) (h : (zL d q_Me_left 5 [(0, .ref a0), (1, .int (0 : Int32)), (2, .int (0 : Int32))] M) = some r) : zC (d + 1) q_Me_left [.ref a0] M = some r := xz_Run_of h
theorem b_Me_left_l5 (d : Nat) (a0 : Nat) (a1 : Int32) (a2 : Int32) (M : xz_M) (r : Option Value × xz_M) (h : (xz_o (xz_gI M a0 0 0) fun x1 => (if x1 ≤ a2 then some (some (.int a1), M) else xz_o (xz_gR M a0 0 5) fun x2 => xz_o (xz_lI0 M 1 x2 a2) fun x3 => (if x3 = 0 then zL d q_Me_left 5 [(0, .ref a0), (1, .int (a1 + (1 : Int32))), (2, .int (a2 + (1 : Int32)))] M else zL d q_Me_left 5 [(0, .ref a0), (1, .int (a1 + (0 : Int32))), (2, .int (a2 + (1 : Int32)))] M))) = some r) : zL d q_Me_left 5 [(0, .ref a0), (1, .int a1), (2, .int a2)] M = some r := xz_Run_of h
theorem b_Me_other (d : Nat) (a0 : Nat) (a1 : Int32) (a2 : Int32) (M : xz_M) (r : Option Value × xz_M) (h : (xz_o (xz_gR M a0 0 2) fun x1 => xz_o (xz_lI0 M 0 x1 a1) fun x2 => (if x2 = a2 then xz_o (xz_gR M a0 0 3) fun x7 => xz_o (xz_lI0 M 0 x7 a1) fun x8 => some (some (.int x8), M) else xz_o (xz_gR M a0 0 3) fun x3 => xz_o (xz_lI0 M 0 x3 a1) fun x4 => (if x4 = a2 then xz_o (xz_gR M a0 0 2) fun x5 => xz_o (xz_lI0 M 0 x5 a1) fun x6 => some (some (.int x6), M) else some (some (.int (-1 : Int32)), M)))) = some r) : zC (d + 1) q_Me_other [.ref a0, .int a1, .int a2] M = some r := xz_Run_of h
theorem b_Me_refusal (d : Nat) (a0 : Nat) (a1 : Int32) (M : xz_M) (r : Option Value × xz_M) (h : (xz_b (xz_is M a0 0) (xz_bI (zC d q_Me_hasCome [.ref a0, .int a1] M) fun x1 M1 => (if x1 = 0 then some (some (.int (-13 : Int32)), M1) else xz_o (xz_gR M1 a0 0 5) fun x2 => xz_o (xz_lI0 M1 1 x2 a1) fun x3 => (if x3 = 0 then some (some (.int (0 : Int32)), M1) else some (some (.int (-11 : Int32)), M1))))) = some r) : zC (d + 1) q_Me_refusal [.ref a0, .int a1] M = some r := xz_Run_of h
theorem b_Me_remove (d : Nat) (a0 : Nat) (a1 : Int32) (M : xz_M) (r : Option Value × xz_M) (h : (xz_b (xz_is M a0 0) (xz_bI (zC d q_Me_hasCome [.ref a0, .int a1] M) fun x1 M1 => (if x1 = 0 then some (none, M1) else xz_o (xz_gR M1 a0 0 5) fun x2 => xz_o (xz_sZ0 M1 x2 a1 (1 : Int32)) fun M2 => some (none, M2)))) = some r) : zC (d + 1) q_Me_remove [.ref a0, .int a1] M = some r := xz_Run_of h
theorem b_Me_removeAllOf (d : Nat) (a0 : Nat) (a1 : Int32) (M : xz_M) (r : Option Value × xz_M) (h : (zL d q_Me_removeAllOf 3 [(0, .ref a0), (1, .int a1), (2, .int (0 : Int32))] M) = some r) : zC (d + 1) q_Me_removeAllOf [.ref a0, .int a1] M = some r := xz_Run_of h
theorem b_Me_removeAllOf_l3 (d : Nat) (a0 : Nat) (a1 : Int32) (a2 : Int32) (M : xz_M) (r : Option Value × xz_M) (h : (xz_o (xz_gI M a0 0 0) fun x1 => (if x1 ≤ a2 then some (none, M) else xz_o (xz_gR M a0 0 2) fun x2 => xz_o (xz_lI0 M 0 x2 a2) fun x3 => (if x3 = a1 then xz_o (xz_gR M a0 0 5) fun x4 => xz_o (xz_sZ0 M x4 a2 (1 : Int32)) fun M1 => zL d q_Me_removeAllOf 3 [(0, .ref a0), (1, .int a1), (2, .int (a2 + (1 : Int32)))] M1 else xz_o (xz_gR M a0 0 3) fun x5 => xz_o (xz_lI0 M 0 x5 a2) fun x6 => (if x6 = a1 then xz_o (xz_gR M a0 0 5) fun x7 => xz_o (xz_sZ0 M x7 a2 (1 : Int32)) fun M2 => zL d q_Me_removeAllOf 3 [(0, .ref a0), (1, .int a1), (2, .int (a2 + (1 : Int32)))] M2 else zL d q_Me_removeAllOf 3 [(0, .ref a0), (1, .int a1), (2, .int (a2 + (1 : Int32)))] M)))) = some r) : zL d q_Me_removeAllOf 3 [(0, .ref a0), (1, .int a1), (2, .int a2)] M = some r := xz_Run_of h
theorem b_Me_taker (d : Nat) (a0 : Nat) (a1 : Int32) (a2 : Int32) (a3 : Int32) (a4 : Int32) (M : xz_M) (r : Option Value × xz_M) (h : (xz_b (xz_is M a0 0) (xz_bI (zC d q_Me_isThere [.ref a0, .int a1] M) fun x1 M1 => (if x1 = 0 then some (some (.int (-1 : Int32)), M1) else xz_o (xz_gR M1 a0 0 1) fun x2 => xz_o (xz_lI0 M1 0 x2 a1) fun x3 => (if a3 ≤ x3 then xz_b (xz_is M1 a0 0) (xz_bI (zC d q_Me_other [.ref a0, .int a1, .int a2] M1) fun x4 M2 => (if x4 = (-1 : Int32) then some (some (.int (-1 : Int32)), M2) else xz_bI (zC d q_HR_hasBit [.int a4, .int x4] M2) fun x5 M3 => (if x5 = 0 then some (some (.int x4), M3) else some (some (.int (-1 : Int32)), M3)))) else some (some (.int (-1 : Int32)), M1))))) = some r) : zC (d + 1) q_Me_taker [.ref a0, .int a1, .int a2, .int a3, .int a4] M = some r := xz_Run_of h
theorem b_Re_fill (d : Nat) (a0 : Nat) (a1 : Nat) (a2 : Int32) (M : xz_M) (r : Option Value × xz_M) (h : (xz_b (xz_is M a0 1) (xz_bV (zC d q_Re_fillWithout [.ref a0, .ref a1, .int a2, .int (0 : Int32), .int (-1 : Int32)] M) fun M1 => some (none, M1))) = some r) : zC (d + 1) q_Re_fill [.ref a0, .ref a1, .int a2] M = some r := xz_Run_of h
theorem b_Re_fillWithout (d : Nat) (a0 : Nat) (a1 : Nat) (a2 : Int32) (a3 : Int32) (a4 : Int32) (M : xz_M) (r : Option Value × xz_M) (h : (xz_o (xz_gR M a0 1 0) fun x1 => xz_bV (zC d q_JD_fillI [.ref x1, .int (-5 : Int32)] M) fun M1 => xz_o (xz_gR M1 a0 1 0) fun x2 => xz_o (xz_gI M1 a1 3 2) fun x3 => xz_o (xz_sI0 M1 x2 x3 a2) fun M2 => zL d q_Re_fillWithout 15 [(0, .ref a0), (1, .ref a1), (3, .int a3), (4, .int a4), (5, .int (1 : Int32)), (6, .int (0 : Int32))] M2) = some r) : zC (d + 1) q_Re_fillWithout [.ref a0, .ref a1, .int a2, .int a3, .int a4] M = some r := xz_Run_of h
theorem b_Re_fillWithout_l15 (d : Nat) (a0 : Nat) (a1 : Nat) (a3 : Int32) (a4 : Int32) (a5 : Int32) (a6 : Int32) (M : xz_M) (r : Option Value × xz_M) (h : ((if (6 : Int32) ≤ a6 then some (none, M) else (if a5 = 0 then some (none, M) else zL d q_Re_fillWithout 25 [(0, .ref a0), (1, .ref a1), (3, .int a3), (4, .int a4), (5, .int (0 : Int32)), (6, .int a6), (7, .int (0 : Int32))] M))) = some r) : zL d q_Re_fillWithout 15 [(0, .ref a0), (1, .ref a1), (3, .int a3), (4, .int a4), (5, .int a5), (6, .int a6)] M = some r := xz_Run_of h
theorem b_Re_fillWithout_l25 (d : Nat) (a0 : Nat) (a1 : Nat) (a3 : Int32) (a4 : Int32) (a5 : Int32) (a6 : Int32) (a7 : Int32) (M : xz_M) (r : Option Value × xz_M) (h : (xz_o (xz_gR M a1 3 5) fun x1 => xz_o (xz_gI M x1 0 0) fun x2 => (if x2 ≤ a7 then zL d q_Re_fillWithout 15 [(0, .ref a0), (1, .ref a1), (3, .int a3), (4, .int a4), (5, .int a5), (6, .int (a6 + (1 : Int32)))] M else (if a7 = a4 then zL d q_Re_fillWithout 25 [(0, .ref a0), (1, .ref a1), (3, .int a3), (4, .int a4), (5, .int a5), (6, .int a6), (7, .int (a7 + (1 : Int32)))] M else xz_o (xz_gR M a1 3 5) fun x3 => xz_b (xz_is M x3 0) (xz_bI (zC d q_Me_isThere [.ref x3, .int a7] M) fun x4 M1 => (if x4 = 0 then zL d q_Re_fillWithout 25 [(0, .ref a0), (1, .ref a1), (3, .int a3), (4, .int a4), (5, .int a5), (6, .int a6), (7, .int (a7 + (1 : Int32)))] M1 else xz_b (xz_is M1 a0 1) (xz_bI (zC d q_Re_handOn [.ref a0, .ref a1, .int a7, .int a3] M1) fun x5 M2 => (if x5 = 0 then zL d q_Re_fillWithout 25 [(0, .ref a0), (1, .ref a1), (3, .int a3), (4, .int a4), (5, .int a5), (6, .int a6), (7, .int (a7 + (1 : Int32)))] M2 else zL d q_Re_fillWithout 25 [(0, .ref a0), (1, .ref a1), (3, .int a3), (4, .int a4), (5, .int (1 : Int32)), (6, .int a6), (7, .int (a7 + (1 : Int32)))] M2))))))) = some r) : zL d q_Re_fillWithout 25 [(0, .ref a0), (1, .ref a1), (3, .int a3), (4, .int a4), (5, .int a5), (6, .int a6), (7, .int a7)] M = some r := xz_Run_of h
theorem b_Re_give (d : Nat) (a0 : Nat) (a1 : Nat) (a2 : Int32) (a3 : Int32) (a4 : Int32) (M : xz_M) (r : Option Value × xz_M) (h : (xz_o (xz_gR M a0 1 0) fun x1 => xz_o (xz_lI0 M 0 x1 a3) fun x2 => (if x2 < 0 then zL d q_Re_give 17 [] M else xz_o (xz_gR M a0 1 0) fun x3 => xz_o (xz_lI0 M 0 x3 a4) fun x4 => (if x4 < 0 then zL d q_Re_give 20 [(0, .ref a0), (1, .ref a1), (2, .int a2), (3, .int a3), (4, .int a4)] M else xz_o (xz_gR M a0 1 0) fun x5 => xz_o (xz_lI0 M 0 x5 a4) fun x6 => (if a2 < x6 then zL d q_Re_give 20 [(0, .ref a0), (1, .ref a1), (2, .int a2), (3, .int a3), (4, .int a4)] M else zL d q_Re_give 17 [] M)))) = some r) : zC (d + 1) q_Re_give [.ref a0, .ref a1, .int a2, .int a3, .int a4] M = some r := xz_Run_of h
theorem b_Re_give_l17 (d : Nat)  (M : xz_M) (r : Option Value × xz_M) (h : (some (some (.int (0 : Int32)), M)) = some r) : zL d q_Re_give 17 [] M = some r := xz_Run_of h
theorem b_Re_give_l20 (d : Nat) (a0 : Nat) (a1 : Nat) (a2 : Int32) (a3 : Int32) (a4 : Int32) (M : xz_M) (r : Option Value × xz_M) (h : (xz_o (xz_gI M a1 3 2) fun x1 => (if a3 = x1 then xz_o (xz_gR M a0 1 0) fun x6 => xz_o (xz_lI0 M 0 x6 a3) fun x7 => (if x7 ≤ a2 then xz_o (xz_gR M a0 1 0) fun x8 => xz_o (xz_sI0 M x8 a4 a2) fun M2 => some (some (.int (1 : Int32)), M2) else some (some (.int (0 : Int32)), M)) else xz_o (xz_gR M a0 1 0) fun x2 => xz_o (xz_lI0 M 0 x2 a3) fun x3 => xz_o (xz_gI M a1 3 1) fun x4 => (if (x3 + x4) ≤ a2 then xz_o (xz_gR M a0 1 0) fun x5 => xz_o (xz_sI0 M x5 a4 a2) fun M1 => some (some (.int (1 : Int32)), M1) else some (some (.int (0 : Int32)), M)))) = some r) : zL d q_Re_give 20 [(0, .ref a0), (1, .ref a1), (2, .int a2), (3, .int a3), (4, .int a4)] M = some r := xz_Run_of h
theorem b_Re_handOn (d : Nat) (a0 : Nat) (a1 : Nat) (a2 : Int32) (a3 : Int32) (M : xz_M) (r : Option Value × xz_M) (h : (xz_o (xz_gR M a1 3 5) fun x1 => xz_o (xz_gR M x1 0 2) fun x2 => xz_o (xz_lI0 M 0 x2 a2) fun x3 => xz_o (xz_gR M a1 3 5) fun x4 => xz_o (xz_gR M x4 0 3) fun x5 => xz_o (xz_lI0 M 0 x5 a2) fun x6 => xz_bI (zC d q_HR_hasBit [.int a3, .int x3] M) fun x7 M1 => (if x7 = 0 then xz_bI (zC d q_HR_hasBit [.int a3, .int x6] M1) fun x8 M2 => (if x8 = 0 then xz_o (xz_gR M2 a1 3 5) fun x9 => xz_o (xz_gR M2 x9 0 1) fun x10 => xz_o (xz_lI0 M2 0 x10 a2) fun x11 => xz_b (xz_is M2 a0 1) (xz_bI (zC d q_Re_give [.ref a0, .ref a1, .int x11, .int x3, .int x6] M2) fun x12 M3 => xz_b (xz_is M3 a0 1) (xz_bI (zC d q_Re_give [.ref a0, .ref a1, .int x11, .int x6, .int x3] M3) fun x13 M4 => (if x12 = 0 then (if x13 = 0 then some (some (.int (0 : Int32)), M4) else some (some (.int (1 : Int32)), M4)) else some (some (.int (1 : Int32)), M4)))) else some (some (.int (0 : Int32)), M2)) else some (some (.int (0 : Int32)), M1))) = some r) : zC (d + 1) q_Re_handOn [.ref a0, .ref a1, .int a2, .int a3] M = some r := xz_Run_of h
theorem b_Re_howManyAhead (d : Nat) (a0 : Nat) (a1 : Int32) (M : xz_M) (r : Option Value × xz_M) (h : (zL d q_Re_howManyAhead 5 [(0, .ref a0), (1, .int a1), (2, .int (0 : Int32)), (3, .int (0 : Int32))] M) = some r) : zC (d + 1) q_Re_howManyAhead [.ref a0, .int a1] M = some r := xz_Run_of h
theorem b_Re_howManyAhead_l5 (d : Nat) (a0 : Nat) (a1 : Int32) (a2 : Int32) (a3 : Int32) (M : xz_M) (r : Option Value × xz_M) (h : ((if (6 : Int32) ≤ a3 then some (some (.int a2), M) else xz_o (xz_gR M a0 1 0) fun x1 => xz_o (xz_lI0 M 0 x1 a3) fun x2 => (if x2 < 0 then zL d q_Re_howManyAhead 5 [(0, .ref a0), (1, .int a1), (2, .int a2), (3, .int (a3 + (1 : Int32)))] M else xz_o (xz_gR M a0 1 0) fun x3 => xz_o (xz_lI0 M 0 x3 a3) fun x4 => xz_o (xz_gR M a0 1 0) fun x5 => xz_o (xz_lI0 M 0 x5 a1) fun x6 => (if x4 < x6 then zL d q_Re_howManyAhead 5 [(0, .ref a0), (1, .int a1), (2, .int (a2 + (1 : Int32))), (3, .int (a3 + (1 : Int32)))] M else xz_o (xz_gR M a0 1 0) fun x7 => xz_o (xz_lI0 M 0 x7 a3) fun x8 => xz_o (xz_gR M a0 1 0) fun x9 => xz_o (xz_lI0 M 0 x9 a1) fun x10 => (if x8 = x10 then (if a3 ≤ a1 then zL d q_Re_howManyAhead 5 [(0, .ref a0), (1, .int a1), (2, .int a2), (3, .int (a3 + (1 : Int32)))] M else zL d q_Re_howManyAhead 5 [(0, .ref a0), (1, .int a1), (2, .int (a2 + (1 : Int32))), (3, .int (a3 + (1 : Int32)))] M) else zL d q_Re_howManyAhead 5 [(0, .ref a0), (1, .int a1), (2, .int a2), (3, .int (a3 + (1 : Int32)))] M))))) = some r) : zL d q_Re_howManyAhead 5 [(0, .ref a0), (1, .int a1), (2, .int a2), (3, .int a3)] M = some r := xz_Run_of h
theorem b_Re_of (d : Nat) (a0 : Nat) (a1 : Int32) (M : xz_M) (r : Option Value × xz_M) (h : ((if a1 < 0 then some (some (.int (-5 : Int32)), M) else (if (6 : Int32) ≤ a1 then some (some (.int (-5 : Int32)), M) else xz_o (xz_gR M a0 1 0) fun x1 => xz_o (xz_lI0 M 0 x1 a1) fun x2 => some (some (.int x2), M)))) = some r) : zC (d + 1) q_Re_of [.ref a0, .int a1] M = some r := xz_Run_of h
theorem b_Ro_add (d : Nat) (a0 : Nat) (a1 : Int32) (a2 : Int32) (a3 : Int32) (M : xz_M) (r : Option Value × xz_M) (h : (xz_o (xz_gI M a0 2 0) fun x1 => xz_o (xz_gI M a0 2 1) fun x2 => (if x1 < x2 then xz_o (xz_gR M a0 2 2) fun x3 => xz_o (xz_gI M a0 2 0) fun x4 => xz_o (xz_sI0 M x3 x4 a1) fun M1 => xz_o (xz_gR M1 a0 2 3) fun x5 => xz_o (xz_gI M1 a0 2 0) fun x6 => xz_o (xz_sI0 M1 x5 x6 a2) fun M2 => xz_o (xz_gR M2 a0 2 4) fun x7 => xz_o (xz_gI M2 a0 2 0) fun x8 => xz_o (xz_sI0 M2 x7 x8 a3) fun M3 => xz_o (xz_gI M3 a0 2 0) fun x9 => xz_o (xz_wI M3 a0 2 0 (x9 + (1 : Int32))) fun M4 => xz_o (xz_gI M4 a0 2 0) fun x10 => some (some (.int x10), M4) else some (some (.int (-4 : Int32)), M))) = some r) : zC (d + 1) q_Ro_add [.ref a0, .int a1, .int a2, .int a3] M = some r := xz_Run_of h
theorem b_Ro_become (d : Nat) (a0 : Nat) (a1 : Nat) (M : xz_M) (r : Option Value × xz_M) (h : (xz_o (xz_gI M a1 2 0) fun x1 => xz_o (xz_wI M a0 2 0 x1) fun M1 => zL d q_Ro_become 7 [(0, .ref a0), (1, .ref a1), (2, .int (0 : Int32))] M1) = some r) : zC (d + 1) q_Ro_become [.ref a0, .ref a1] M = some r := xz_Run_of h
theorem b_Ro_become_l7 (d : Nat) (a0 : Nat) (a1 : Nat) (a2 : Int32) (M : xz_M) (r : Option Value × xz_M) (h : (xz_o (xz_gI M a0 2 0) fun x1 => (if x1 ≤ a2 then some (none, M) else xz_o (xz_gR M a0 2 2) fun x2 => xz_o (xz_gR M a1 2 2) fun x3 => xz_o (xz_lI0 M 0 x3 a2) fun x4 => xz_o (xz_sI0 M x2 a2 x4) fun M1 => xz_o (xz_gR M1 a0 2 3) fun x5 => xz_o (xz_gR M1 a1 2 3) fun x6 => xz_o (xz_lI0 M1 0 x6 a2) fun x7 => xz_o (xz_sI0 M1 x5 a2 x7) fun M2 => xz_o (xz_gR M2 a0 2 4) fun x8 => xz_o (xz_gR M2 a1 2 4) fun x9 => xz_o (xz_lI0 M2 0 x9 a2) fun x10 => xz_o (xz_sI0 M2 x8 a2 x10) fun M3 => zL d q_Ro_become 7 [(0, .ref a0), (1, .ref a1), (2, .int (a2 + (1 : Int32)))] M3)) = some r) : zL d q_Ro_become 7 [(0, .ref a0), (1, .ref a1), (2, .int a2)] M = some r := xz_Run_of h
theorem b_Ro_clear (d : Nat) (a0 : Nat) (M : xz_M) (r : Option Value × xz_M) (h : (xz_o (xz_wI M a0 2 0 (0 : Int32)) fun M1 => xz_o (xz_gI M1 a0 2 0) fun x1 => some (some (.int x1), M1)) = some r) : zC (d + 1) q_Ro_clear [.ref a0] M = some r := xz_Run_of h
theorem b_Se_become (d : Nat) (a0 : Nat) (a1 : Nat) (M : xz_M) (r : Option Value × xz_M) (h : (xz_o (xz_gI M a1 3 0) fun x1 => xz_o (xz_wI M a0 3 0 x1) fun M1 => xz_o (xz_gI M1 a1 3 1) fun x2 => xz_o (xz_wI M1 a0 3 1 x2) fun M2 => xz_o (xz_gI M2 a1 3 2) fun x3 => xz_o (xz_wI M2 a0 3 2 x3) fun M3 => xz_o (xz_gI M3 a1 3 3) fun x4 => xz_o (xz_wI M3 a0 3 3 x4) fun M4 => xz_o (xz_gI M4 a1 3 4) fun x5 => xz_o (xz_wI M4 a0 3 4 x5) fun M5 => xz_o (xz_gR M5 a0 3 5) fun x6 => xz_o (xz_gR M5 a1 3 5) fun x7 => xz_b (xz_is M5 x6 0) (xz_bV (zC d q_Me_become [.ref x6, .ref x7] M5) fun M6 => xz_o (xz_gR M6 a0 3 6) fun x8 => xz_o (xz_gR M6 a1 3 6) fun x9 => xz_b (xz_is M6 x8 2) (xz_bV (zC d q_Ro_become [.ref x8, .ref x9] M6) fun M7 => xz_o (xz_gR M7 a0 3 7) fun x10 => xz_o (xz_gR M7 a1 3 7) fun x11 => xz_b (xz_is M7 x10 2) (xz_bV (zC d q_Ro_become [.ref x10, .ref x11] M7) fun M8 => xz_o (xz_gR M8 a0 3 8) fun x12 => xz_o (xz_gR M8 a1 3 8) fun x13 => xz_b (xz_is M8 x12 2) (xz_bV (zC d q_Ro_become [.ref x12, .ref x13] M8) fun M9 => some (none, M9)))))) = some r) : zC (d + 1) q_Se_become [.ref a0, .ref a1] M = some r := xz_Run_of h
theorem b_Se_isPair (d : Nat) (a0 : Nat) (a1 : Int32) (a2 : Int32) (M : xz_M) (r : Option Value × xz_M) (h : (xz_b (xz_is M a0 3) (xz_bI (zC d q_Se_isPerson [.ref a0, .int a1] M) fun x1 M1 => (if x1 = 0 then some (some (.int (0 : Int32)), M1) else xz_b (xz_is M1 a0 3) (xz_bI (zC d q_Se_isPerson [.ref a0, .int a2] M1) fun x2 M2 => (if x2 = 0 then some (some (.int (0 : Int32)), M2) else (if a1 = a2 then some (some (.int (0 : Int32)), M2) else some (some (.int (1 : Int32)), M2))))))) = some r) : zC (d + 1) q_Se_isPair [.ref a0, .int a1, .int a2] M = some r := xz_Run_of h
theorem b_Se_isPerson (d : Nat) (a0 : Nat) (a1 : Int32) (M : xz_M) (r : Option Value × xz_M) (h : ((if a1 < 0 then some (some (.int (0 : Int32)), M) else xz_o (xz_gI M a0 3 0) fun x1 => (if x1 ≤ a1 then some (some (.int (0 : Int32)), M) else some (some (.int (1 : Int32)), M)))) = some r) : zC (d + 1) q_Se_isPerson [.ref a0, .int a1] M = some r := xz_Run_of h
theorem b_Se_startAnew (d : Nat) (a0 : Nat) (a1 : Int32) (M : xz_M) (r : Option Value × xz_M) (h : (xz_o (xz_wI M a0 3 0 a1) fun M1 => xz_o (xz_wI M1 a0 3 2 (0 : Int32)) fun M2 => xz_o (xz_wI M2 a0 3 3 (1 : Int32)) fun M3 => xz_o (xz_wI M3 a0 3 4 (0 : Int32)) fun M4 => xz_o (xz_gR M4 a0 3 5) fun x1 => xz_o (xz_wI M4 x1 0 0 (0 : Int32)) fun M5 => xz_o (xz_gR M5 a0 3 6) fun x2 => xz_b (xz_is M5 x2 2) (xz_bI (zC d q_Ro_clear [.ref x2] M5) fun x3 M6 => xz_o (xz_gR M6 a0 3 7) fun x4 => xz_b (xz_is M6 x4 2) (xz_bI (zC d q_Ro_clear [.ref x4] M6) fun x5 M7 => xz_o (xz_gR M7 a0 3 8) fun x6 => xz_b (xz_is M7 x6 2) (xz_bI (zC d q_Ro_clear [.ref x6] M7) fun x7 M8 => some (none, M8))))) = some r) : zC (d + 1) q_Se_startAnew [.ref a0, .int a1] M = some r := xz_Run_of h
theorem b_Se_undergo (d : Nat) (a0 : Nat) (a1 : Int32) (a2 : Int32) (M : xz_M) (r : Option Value × xz_M) (h : ((if a1 = (0 : Int32) then xz_o (xz_gR M a0 3 5) fun x2 => xz_b (xz_is M x2 0) (xz_bV (zC d q_Me_remove [.ref x2, .int a2] M) fun M4 => some (none, M4)) else (if a1 = (1 : Int32) then xz_o (xz_wI M a0 3 1 a2) fun M3 => some (none, M3) else (if a1 = (2 : Int32) then xz_o (xz_gR M a0 3 5) fun x1 => xz_b (xz_is M x1 0) (xz_bV (zC d q_Me_removeAllOf [.ref x1, .int a2] M) fun M2 => some (none, M2)) else xz_o (xz_wI M a0 3 4 a2) fun M1 => some (none, M1))))) = some r) : zC (d + 1) q_Se_undergo [.ref a0, .int a1, .int a2] M = some r := xz_Run_of h
theorem b_Ta_become (d : Nat) (a0 : Nat) (a1 : Int32) (a2 : Int32) (a3 : Int32) (M : xz_M) (r : Option Value × xz_M) (h : (xz_o (xz_gR M a0 4 0) fun x1 => xz_o (xz_sI0 M x1 a1 a2) fun M1 => xz_o (xz_gR M1 a0 4 1) fun x2 => xz_o (xz_sI0 M1 x2 a1 a3) fun M2 => xz_o (xz_gR M2 a0 4 2) fun x3 => xz_o (xz_lR0 M2 x3 a1) fun x4 => xz_bV (zC d q_JD_fillJ [.ref x4, .long (0 : Int64)] M2) fun M3 => some (some (.int (1 : Int32)), M3)) = some r) : zC (d + 1) q_Ta_become [.ref a0, .int a1, .int a2, .int a3] M = some r := xz_Run_of h
theorem b_Ta_cutTo (d : Nat) (a0 : Int32) (a1 : Int64) (M : xz_M) (r : Option Value × xz_M) (h : ((if a0 = (0 : Int32) then some (some (.long (Int32.toInt64 (Int8.toInt32 (Int32.toInt8 (Int64.toInt32 a1))))), M) else (if a0 = (1 : Int32) then some (some (.long (Int32.toInt64 (Int16.toInt32 (Int32.toInt16 (Int64.toInt32 a1))))), M) else (if a0 = (2 : Int32) then some (some (.long (Int32.toInt64 (Int64.toInt32 a1))), M) else (if a0 = (3 : Int32) then some (some (.long a1), M) else (if a0 = (4 : Int32) then (if (lg_cmp a1 (0 : Int64)) = 0 then some (some (.long (0 : Int64)), M) else some (some (.long (1 : Int64)), M)) else some (some (.long a1), M))))))) = some r) : zC (d + 1) q_Ta_cutTo [.int a0, .long a1] M = some r := xz_Run_of h
theorem b_Ta_hasPlace (d : Nat) (a0 : Nat) (a1 : Int32) (a2 : Int32) (M : xz_M) (r : Option Value × xz_M) (h : (xz_b (xz_is M a0 4) (xz_bI (zC d q_Ta_holds [.ref a0, .int a1] M) fun x1 M1 => (if x1 = 0 then some (some (.int (0 : Int32)), M1) else (if a2 < 0 then some (some (.int (0 : Int32)), M1) else xz_o (xz_gR M1 a0 4 1) fun x2 => xz_o (xz_lI0 M1 0 x2 a1) fun x3 => (if x3 ≤ a2 then some (some (.int (0 : Int32)), M1) else some (some (.int (1 : Int32)), M1)))))) = some r) : zC (d + 1) q_Ta_hasPlace [.ref a0, .int a1, .int a2] M = some r := xz_Run_of h
theorem b_Ta_hasRun (d : Nat) (a0 : Nat) (a1 : Int32) (a2 : Int32) (a3 : Int32) (M : xz_M) (r : Option Value × xz_M) (h : ((if a3 < 0 then some (some (.int (0 : Int32)), M) else (if a2 < 0 then some (some (.int (0 : Int32)), M) else xz_o (xz_gR M a0 4 1) fun x1 => xz_o (xz_lI0 M 0 x1 a1) fun x2 => (if 0 < (lg_cmp ((Int32.toInt64 a2) + (Int32.toInt64 a3)) (Int32.toInt64 x2)) then some (some (.int (0 : Int32)), M) else some (some (.int (1 : Int32)), M))))) = some r) : zC (d + 1) q_Ta_hasRun [.ref a0, .int a1, .int a2, .int a3] M = some r := xz_Run_of h
theorem b_Ta_holds (d : Nat) (a0 : Nat) (a1 : Int32) (M : xz_M) (r : Option Value × xz_M) (h : (xz_b (xz_is M a0 4) (xz_bI (zC d q_Ta_isTape [.ref a0, .int a1] M) fun x1 M1 => (if x1 = 0 then some (some (.int (0 : Int32)), M1) else xz_o (xz_gR M1 a0 4 0) fun x2 => xz_o (xz_lI0 M1 0 x2 a1) fun x3 => (if x3 = (-1 : Int32) then some (some (.int (0 : Int32)), M1) else some (some (.int (1 : Int32)), M1))))) = some r) : zC (d + 1) q_Ta_holds [.ref a0, .int a1] M = some r := xz_Run_of h
theorem b_Ta_isTape (d : Nat) (a0 : Nat) (a1 : Int32) (M : xz_M) (r : Option Value × xz_M) (h : ((if a1 < 0 then some (some (.int (0 : Int32)), M) else (if (6 : Int32) ≤ a1 then some (some (.int (0 : Int32)), M) else some (some (.int (1 : Int32)), M)))) = some r) : zC (d + 1) q_Ta_isTape [.ref a0, .int a1] M = some r := xz_Run_of h
theorem b_Ta_put (d : Nat) (a0 : Nat) (a1 : Int32) (a2 : Int32) (a3 : Int64) (M : xz_M) (r : Option Value × xz_M) (h : (xz_o (xz_gR M a0 4 2) fun x1 => xz_o (xz_lR0 M x1 a1) fun x2 => xz_o (xz_gR M a0 4 0) fun x3 => xz_o (xz_lI0 M 0 x3 a1) fun x4 => xz_bJ (zC d q_Ta_cutTo [.int x4, .long a3] M) fun x5 M1 => xz_o (xz_sJ0 M1 x2 a2 x5) fun M2 => some (some (.int (1 : Int32)), M2)) = some r) : zC (d + 1) q_Ta_put [.ref a0, .int a1, .int a2, .long a3] M = some r := xz_Run_of h
theorem b_Te_add (d : Nat) (a0 : Nat) (a1 : Int32) (M : xz_M) (r : Option Value × xz_M) (h : (xz_o (xz_gI M a0 5 0) fun x1 => (if x1 < (100 : Int32) then xz_o (xz_gR M a0 5 2) fun x2 => xz_o (xz_gI M a0 5 0) fun x3 => xz_o (xz_sI0 M x2 x3 a1) fun M1 => xz_o (xz_gI M1 a0 5 0) fun x4 => xz_o (xz_wI M1 a0 5 0 (x4 + (1 : Int32))) fun M2 => xz_o (xz_gI M2 a0 5 0) fun x5 => some (some (.int x5), M2) else some (some (.int (-4 : Int32)), M))) = some r) : zC (d + 1) q_Te_add [.ref a0, .int a1] M = some r := xz_Run_of h
theorem b_Te_empty (d : Nat) (a0 : Nat) (M : xz_M) (r : Option Value × xz_M) (h : (xz_o (xz_wI M a0 5 0 (0 : Int32)) fun M1 => some (none, M1)) = some r) : zC (d + 1) q_Te_empty [.ref a0] M = some r := xz_Run_of h
theorem b_Te_isDigit (d : Nat) (a0 : Int32) (M : xz_M) (r : Option Value × xz_M) (h : ((if a0 < (48 : Int32) then some (some (.int (0 : Int32)), M) else (if (57 : Int32) < a0 then some (some (.int (0 : Int32)), M) else some (some (.int (1 : Int32)), M)))) = some r) : zC (d + 1) q_Te_isDigit [.int a0] M = some r := xz_Run_of h
theorem b_Te_isLetter (d : Nat) (a0 : Int32) (M : xz_M) (r : Option Value × xz_M) (h : ((if a0 < (97 : Int32) then some (some (.int (0 : Int32)), M) else (if (122 : Int32) < a0 then some (some (.int (0 : Int32)), M) else some (some (.int (1 : Int32)), M)))) = some r) : zC (d + 1) q_Te_isLetter [.int a0] M = some r := xz_Run_of h
theorem b_Te_isSpelt (d : Nat) (a0 : Nat) (a1 : Nat) (a2 : Int32) (M : xz_M) (r : Option Value × xz_M) (h : (xz_b (xz_is M a1 20) (xz_bI (zC d q_JD_sLength [.ref a1] M) fun x1 M1 => (if x1 = a2 then zL d q_Te_isSpelt 9 [(0, .ref a0), (1, .ref a1), (2, .int a2), (3, .int (0 : Int32))] M1 else some (some (.int (0 : Int32)), M1)))) = some r) : zC (d + 1) q_Te_isSpelt [.ref a0, .ref a1, .int a2] M = some r := xz_Run_of h
theorem b_Te_isSpelt_l9 (d : Nat) (a0 : Nat) (a1 : Nat) (a2 : Int32) (a3 : Int32) (M : xz_M) (r : Option Value × xz_M) (h : ((if a2 ≤ a3 then some (some (.int (1 : Int32)), M) else xz_o (xz_gI M a0 5 5) fun x1 => xz_b (xz_is M a0 5) (xz_bI (zC d q_Te_sign [.ref a0, .int (x1 + a3)] M) fun x2 M1 => xz_b (xz_is M1 a1 20) (xz_bI (zC d q_JD_sCharAt [.ref a1, .int a3] M1) fun x3 M2 => (if x2 = x3 then zL d q_Te_isSpelt 9 [(0, .ref a0), (1, .ref a1), (2, .int a2), (3, .int (a3 + (1 : Int32)))] M2 else some (some (.int (0 : Int32)), M2)))))) = some r) : zL d q_Te_isSpelt 9 [(0, .ref a0), (1, .ref a1), (2, .int a2), (3, .int a3)] M = some r := xz_Run_of h
set_option maxRecDepth 100000 in
theorem b_Te_number (d : Nat) (a0 : Nat) (a1 : Int32) (a2 : Int32) (M : xz_M) (r : Option Value × xz_M) (h : ((if a1 < 0 then (if (0 : Int32) = 0 then some (some (.int (-1 : Int32)), M) else xz_o (xz_gR M a0 5 4) fun x1 => xz_o (xz_lR0 M x1 a1) fun x2 => xz_o (xz_lI0 M 0 x2 a2) fun x3 => some (some (.int x3), M)) else xz_o (xz_gI M a0 5 1) fun x4 => (if x4 ≤ a1 then (if (0 : Int32) = 0 then some (some (.int (-1 : Int32)), M) else xz_o (xz_gR M a0 5 4) fun x5 => xz_o (xz_lR0 M x5 a1) fun x6 => xz_o (xz_lI0 M 0 x6 a2) fun x7 => some (some (.int x7), M)) else (if a2 < 0 then (if (0 : Int32) = 0 then some (some (.int (-1 : Int32)), M) else xz_o (xz_gR M a0 5 4) fun x8 => xz_o (xz_lR0 M x8 a1) fun x9 => xz_o (xz_lI0 M 0 x9 a2) fun x10 => some (some (.int x10), M)) else (if (4 : Int32) ≤ a2 then (if (0 : Int32) = 0 then some (some (.int (-1 : Int32)), M) else xz_o (xz_gR M a0 5 4) fun x11 => xz_o (xz_lR0 M x11 a1) fun x12 => xz_o (xz_lI0 M 0 x12 a2) fun x13 => some (some (.int x13), M)) else (if (1 : Int32) = 0 then some (some (.int (-1 : Int32)), M) else xz_o (xz_gR M a0 5 4) fun x14 => xz_o (xz_lR0 M x14 a1) fun x15 => xz_o (xz_lI0 M 0 x15 a2) fun x16 => some (some (.int x16), M))))))) = some r) : zC (d + 1) q_Te_number [.ref a0, .int a1, .int a2] M = some r := xz_Run_of h
theorem b_Te_parse (d : Nat) (a0 : Nat) (M : xz_M) (r : Option Value × xz_M) (h : (xz_o (xz_wI M a0 5 5 (0 : Int32)) fun M1 => xz_o (xz_wI M1 a0 5 1 (0 : Int32)) fun M2 => zL d q_Te_parse 9 [(0, .ref a0), (1, .int (0 : Int32))] M2) = some r) : zC (d + 1) q_Te_parse [.ref a0] M = some r := xz_Run_of h
set_option maxRecDepth 100000 in
theorem b_Te_parse_l9 (d : Nat) (a0 : Nat) (a1 : Int32) (M : xz_M) (r : Option Value × xz_M) (h : ((if (12 : Int32) ≤ a1 then xz_o (xz_gI M a0 5 5) fun x1 => some (some (.int x1), M) else xz_b (xz_is M a0 5) (xz_bI (zC d q_Te_takeClause [.ref a0, .int a1] M) fun x2 M1 => (if x2 = 0 then xz_o (xz_gI M1 a0 5 5) fun x15 => some (some (.int x15), M1) else xz_o (xz_gI M1 a0 5 5) fun x3 => xz_b (xz_is M1 a0 5) (xz_bI (zC d q_Te_sign [.ref a0, .int x3] M1) fun x4 M2 => (if x4 = (-1 : Int32) then xz_o (xz_wI M2 a0 5 1 (a1 + (1 : Int32))) fun M7 => some (some (.int (-1 : Int32)), M7) else (if a1 = (11 : Int32) then (if (1 : Int32) = 0 then xz_o (xz_gI M2 a0 5 5) fun x11 => xz_b (xz_is M2 a0 5) (xz_bI (zC d q_Te_sign [.ref a0, .int x11] M2) fun x12 M5 => (if x12 = (59 : Int32) then xz_o (xz_gI M5 a0 5 5) fun x13 => xz_o (xz_wI M5 a0 5 5 (x13 + (1 : Int32))) fun M6 => zL d q_Te_parse 9 [(0, .ref a0), (1, .int (a1 + (1 : Int32)))] M6 else xz_o (xz_gI M5 a0 5 5) fun x14 => some (some (.int x14), M5))) else xz_o (xz_gI M2 a0 5 5) fun x10 => some (some (.int x10), M2)) else (if (0 : Int32) = 0 then xz_o (xz_gI M2 a0 5 5) fun x6 => xz_b (xz_is M2 a0 5) (xz_bI (zC d q_Te_sign [.ref a0, .int x6] M2) fun x7 M3 => (if x7 = (59 : Int32) then xz_o (xz_gI M3 a0 5 5) fun x8 => xz_o (xz_wI M3 a0 5 5 (x8 + (1 : Int32))) fun M4 => zL d q_Te_parse 9 [(0, .ref a0), (1, .int (a1 + (1 : Int32)))] M4 else xz_o (xz_gI M3 a0 5 5) fun x9 => some (some (.int x9), M3))) else xz_o (xz_gI M2 a0 5 5) fun x5 => some (some (.int x5), M2))))))))) = some r) : zL d q_Te_parse 9 [(0, .ref a0), (1, .int a1)] M = some r := xz_Run_of h
theorem b_Te_sign (d : Nat) (a0 : Nat) (a1 : Int32) (M : xz_M) (r : Option Value × xz_M) (h : ((if a1 < 0 then some (some (.int (-1 : Int32)), M) else xz_o (xz_gI M a0 5 0) fun x1 => (if x1 ≤ a1 then some (some (.int (-1 : Int32)), M) else xz_o (xz_gR M a0 5 2) fun x2 => xz_o (xz_lI0 M 0 x2 a1) fun x3 => some (some (.int x3), M)))) = some r) : zC (d + 1) q_Te_sign [.ref a0, .int a1] M = some r := xz_Run_of h
theorem b_Te_spelling (d : Nat) (a0 : Int32) (M : xz_M) (r : Option Value × xz_M) (h : ((if a0 = (0 : Int32) then some (some (.ref 2000), M) else (if a0 = (1 : Int32) then some (some (.ref 2001), M) else (if a0 = (2 : Int32) then some (some (.ref 2002), M) else (if a0 = (3 : Int32) then some (some (.ref 2003), M) else some (some (.ref 2004), M)))))) = some r) : zC (d + 1) q_Te_spelling [.int a0] M = some r := xz_Run_of h
theorem b_Te_takeClause (d : Nat) (a0 : Nat) (a1 : Int32) (M : xz_M) (r : Option Value × xz_M) (h : (xz_b (xz_is M a0 5) (xz_bI (zC d q_Te_wordHere [.ref a0] M) fun x1 M1 => (if x1 = (-1 : Int32) then some (some (.int (0 : Int32)), M1) else xz_o (xz_gI M1 a0 5 5) fun x2 => xz_bR (zC d q_Te_spelling [.int x1] M1) fun x3 M2 => xz_b (xz_is M2 x3 20) (xz_bI (zC d q_JD_sLength [.ref x3] M2) fun x4 M3 => xz_o (xz_wI M3 a0 5 5 (x2 + x4)) fun M4 => xz_o (xz_gR M4 a0 5 3) fun x5 => xz_o (xz_sI0 M4 x5 a1 x1) fun M5 => xz_bR (zC d q_Te_widths [.int x1] M5) fun x6 M6 => zL d q_Te_takeClause 27 [(0, .ref a0), (1, .int a1), (3, .ref x6), (4, .int (0 : Int32))] M6)))) = some r) : zC (d + 1) q_Te_takeClause [.ref a0, .int a1] M = some r := xz_Run_of h
theorem b_Te_takeClause_l27 (d : Nat) (a0 : Nat) (a1 : Int32) (a3 : Nat) (a4 : Int32) (M : xz_M) (r : Option Value × xz_M) (h : (xz_b (xz_is M a3 20) (xz_bI (zC d q_JD_sLength [.ref a3] M) fun x1 M1 => (if x1 ≤ a4 then some (some (.int (1 : Int32)), M1) else (if (4 : Int32) ≤ a4 then some (some (.int (1 : Int32)), M1) else xz_o (xz_gI M1 a0 5 5) fun x2 => xz_b (xz_is M1 a0 5) (xz_bI (zC d q_Te_sign [.ref a0, .int x2] M1) fun x3 M2 => (if x3 = (32 : Int32) then xz_o (xz_gI M2 a0 5 5) fun x4 => xz_o (xz_wI M2 a0 5 5 (x4 + (1 : Int32))) fun M3 => xz_o (xz_gI M3 a0 5 5) fun x5 => xz_b (xz_is M3 a0 5) (xz_bI (zC d q_Te_sign [.ref a0, .int x5] M3) fun x6 M4 => xz_bI (zC d q_Te_isDigit [.int x6] M4) fun x7 M5 => (if x7 = 0 then some (some (.int (0 : Int32)), M5) else xz_o (xz_gR M5 a0 5 4) fun x8 => xz_o (xz_lR0 M5 x8 a1) fun x9 => xz_b (xz_is M5 a3 20) (xz_bI (zC d q_JD_sCharAt [.ref a3, .int a4] M5) fun x10 M6 => xz_b (xz_is M6 a0 5) (xz_bI (zC d q_Te_takeNumber [.ref a0, .int (x10 - (48 : Int32))] M6) fun x11 M7 => xz_o (xz_sI0 M7 x9 a4 x11) fun M8 => zL d q_Te_takeClause 27 [(0, .ref a0), (1, .int a1), (3, .ref a3), (4, .int (a4 + (1 : Int32)))] M8)))) else some (some (.int (0 : Int32)), M2))))))) = some r) : zL d q_Te_takeClause 27 [(0, .ref a0), (1, .int a1), (3, .ref a3), (4, .int a4)] M = some r := xz_Run_of h
theorem b_Te_takeNumber (d : Nat) (a0 : Nat) (a1 : Int32) (M : xz_M) (r : Option Value × xz_M) (h : (zL d q_Te_takeNumber 5 [(0, .ref a0), (1, .int a1), (2, .int (0 : Int32)), (3, .int (0 : Int32))] M) = some r) : zC (d + 1) q_Te_takeNumber [.ref a0, .int a1] M = some r := xz_Run_of h
theorem b_Te_takeNumber_l5 (d : Nat) (a0 : Nat) (a1 : Int32) (a2 : Int32) (a3 : Int32) (M : xz_M) (r : Option Value × xz_M) (h : ((if a1 ≤ a3 then some (some (.int a2), M) else xz_o (xz_gI M a0 5 5) fun x1 => xz_b (xz_is M a0 5) (xz_bI (zC d q_Te_sign [.ref a0, .int x1] M) fun x2 M1 => xz_bI (zC d q_Te_isDigit [.int x2] M1) fun x3 M2 => (if x3 = 0 then some (some (.int a2), M2) else xz_o (xz_gI M2 a0 5 5) fun x4 => xz_b (xz_is M2 a0 5) (xz_bI (zC d q_Te_sign [.ref a0, .int x4] M2) fun x5 M3 => xz_o (xz_gI M3 a0 5 5) fun x6 => xz_o (xz_wI M3 a0 5 5 (x6 + (1 : Int32))) fun M4 => zL d q_Te_takeNumber 5 [(0, .ref a0), (1, .int a1), (2, .int (((a2 * (10 : Int32)) + x5) - (48 : Int32))), (3, .int (a3 + (1 : Int32)))] M4))))) = some r) : zL d q_Te_takeNumber 5 [(0, .ref a0), (1, .int a1), (2, .int a2), (3, .int a3)] M = some r := xz_Run_of h
theorem b_Te_widths (d : Nat) (a0 : Int32) (M : xz_M) (r : Option Value × xz_M) (h : ((if a0 = (1 : Int32) then some (some (.ref 2005), M) else (if a0 = (2 : Int32) then some (some (.ref 2006), M) else (if a0 = (3 : Int32) then some (some (.ref 2008), M) else (if a0 = (4 : Int32) then some (some (.ref 2007), M) else some (some (.ref 2008), M)))))) = some r) : zC (d + 1) q_Te_widths [.int a0] M = some r := xz_Run_of h
theorem b_Te_word (d : Nat) (a0 : Nat) (a1 : Int32) (M : xz_M) (r : Option Value × xz_M) (h : ((if a1 < 0 then some (some (.int (-1 : Int32)), M) else xz_o (xz_gI M a0 5 1) fun x1 => (if x1 ≤ a1 then some (some (.int (-1 : Int32)), M) else xz_o (xz_gR M a0 5 3) fun x2 => xz_o (xz_lI0 M 0 x2 a1) fun x3 => some (some (.int x3), M)))) = some r) : zC (d + 1) q_Te_word [.ref a0, .int a1] M = some r := xz_Run_of h
theorem b_Te_wordHere (d : Nat) (a0 : Nat) (M : xz_M) (r : Option Value × xz_M) (h : (xz_o (xz_gI M a0 5 5) fun x1 => zL d q_Te_wordHere 4 [(0, .ref a0), (1, .int x1)] M) = some r) : zC (d + 1) q_Te_wordHere [.ref a0] M = some r := xz_Run_of h
theorem b_Te_wordHere_l4 (d : Nat) (a0 : Nat) (a1 : Int32) (M : xz_M) (r : Option Value × xz_M) (h : (xz_o (xz_gI M a0 5 0) fun x1 => (if x1 ≤ a1 then zL d q_Te_wordHere 18 [(0, .ref a0), (1, .int a1), (2, .int (0 : Int32))] M else xz_b (xz_is M a0 5) (xz_bI (zC d q_Te_sign [.ref a0, .int a1] M) fun x2 M1 => xz_bI (zC d q_Te_isLetter [.int x2] M1) fun x3 M2 => (if x3 = 0 then zL d q_Te_wordHere 18 [(0, .ref a0), (1, .int a1), (2, .int (0 : Int32))] M2 else zL d q_Te_wordHere 4 [(0, .ref a0), (1, .int (a1 + (1 : Int32)))] M2)))) = some r) : zL d q_Te_wordHere 4 [(0, .ref a0), (1, .int a1)] M = some r := xz_Run_of h
theorem b_Te_wordHere_l18 (d : Nat) (a0 : Nat) (a1 : Int32) (a2 : Int32) (M : xz_M) (r : Option Value × xz_M) (h : ((if (5 : Int32) ≤ a2 then some (some (.int (-1 : Int32)), M) else xz_bR (zC d q_Te_spelling [.int a2] M) fun x1 M1 => xz_o (xz_gI M1 a0 5 5) fun x2 => xz_b (xz_is M1 a0 5) (xz_bI (zC d q_Te_isSpelt [.ref a0, .ref x1, .int (a1 - x2)] M1) fun x3 M2 => (if x3 = 0 then zL d q_Te_wordHere 18 [(0, .ref a0), (1, .int a1), (2, .int (a2 + (1 : Int32)))] M2 else some (some (.int a2), M2))))) = some r) : zL d q_Te_wordHere 18 [(0, .ref a0), (1, .int a1), (2, .int a2)] M = some r := xz_Run_of h
theorem b_Wa_goOn (d : Nat) (a0 : Nat) (a1 : Nat) (a2 : Int32) (a3 : Int32) (a4 : Int32) (a5 : Int64) (M : xz_M) (r : Option Value × xz_M) (h : (xz_o (xz_gR M a0 6 9) fun x1 => xz_o (xz_lI0 M 0 x1 a2) fun x2 => xz_o (xz_gI M a1 3 3) fun x3 => (if x2 = x3 then (if a2 = 0 then xz_o (xz_gI M a1 3 4) fun x9 => xz_b (xz_is M a0 6) (xz_bV (zC d q_Wa_take [.ref a0, .int a2, .int x9, .long a5] M) fun M2 => some (none, M2)) else xz_o (xz_gR M a1 3 5) fun x4 => xz_o (xz_gR M x4 0 1) fun x5 => xz_o (xz_gR M a0 6 8) fun x6 => xz_o (xz_lI0 M 0 x6 (a2 - (1 : Int32))) fun x7 => xz_o (xz_lI0 M 0 x5 x7) fun x8 => xz_b (xz_is M a0 6) (xz_bV (zC d q_Wa_take [.ref a0, .int a2, .int x8, .long a5] M) fun M1 => some (none, M1))) else (if a2 < (5 : Int32) then zL d q_Wa_goOn 36 [(0, .ref a0), (1, .ref a1), (2, .int a2), (3, .int a3), (4, .int a4), (5, .long a5), (7, .int (0 : Int32))] M else some (none, M)))) = some r) : zC (d + 1) q_Wa_goOn [.ref a0, .ref a1, .int a2, .int a3, .int a4, .long a5] M = some r := xz_Run_of h
set_option maxRecDepth 100000 in
theorem b_Wa_goOn_l36 (d : Nat) (a0 : Nat) (a1 : Nat) (a2 : Int32) (a3 : Int32) (a4 : Int32) (a5 : Int64) (a7 : Int32) (M : xz_M) (r : Option Value × xz_M) (h : (xz_o (xz_gR M a1 3 5) fun x1 => xz_o (xz_gI M x1 0 0) fun x2 => (if x2 ≤ a7 then some (none, M) else xz_o (xz_gR M a1 3 5) fun x3 => xz_o (xz_gR M a0 6 9) fun x4 => xz_o (xz_lI0 M 0 x4 a2) fun x5 => xz_b (xz_is M x3 0) (xz_bI (zC d q_Me_taker [.ref x3, .int a7, .int x5, .int a3, .int a4] M) fun x6 M1 => (if x6 = (-1 : Int32) then zL d q_Wa_goOn 36 [(0, .ref a0), (1, .ref a1), (2, .int a2), (3, .int a3), (4, .int a4), (5, .long a5), (7, .int (a7 + (1 : Int32)))] M1 else xz_o (xz_gR M1 a0 6 8) fun x7 => xz_o (xz_sI0 M1 x7 a2 a7) fun M2 => xz_o (xz_gR M2 a0 6 9) fun x8 => xz_o (xz_sI0 M2 x8 (a2 + (1 : Int32)) x6) fun M3 => xz_o (xz_gR M3 a1 3 5) fun x9 => xz_o (xz_gR M3 x9 0 1) fun x10 => xz_o (xz_lI0 M3 0 x10 a7) fun x11 => xz_o (xz_gI M3 a1 3 1) fun x12 => (if (100 : Int64) = 0 then none else xz_o (xz_gR M3 a1 3 5) fun x13 => xz_o (xz_gR M3 x13 0 4) fun x14 => xz_o (xz_lI0 M3 0 x14 a7) fun x15 => xz_bV (zC d q_Wa_goOn [.ref a0, .ref a1, .int (a2 + (1 : Int32)), .int (x11 + x12), .int (a4 ||| ((1 : Int32) <<< (x6 &&& 31))), .long ((a5 / (100 : Int64)) * (Int32.toInt64 x15))] M3) fun M4 => zL d q_Wa_goOn 36 [(0, .ref a0), (1, .ref a1), (2, .int a2), (3, .int a3), (4, .int a4), (5, .long a5), (7, .int (a7 + (1 : Int32)))] M4))))) = some r) : zL d q_Wa_goOn 36 [(0, .ref a0), (1, .ref a1), (2, .int a2), (3, .int a3), (4, .int a4), (5, .long a5), (7, .int a7)] M = some r := xz_Run_of h
set_option maxRecDepth 100000 in
theorem b_Wa_isBetter (d : Nat) (a0 : Nat) (a1 : Int32) (a2 : Int32) (a3 : Int64) (M : xz_M) (r : Option Value × xz_M) (h : (xz_o (xz_gI M a0 6 0) fun x1 => (if x1 = (2 : Int32) then xz_o (xz_gJ M a0 6 4) fun x11 => (if (lg_cmp a3 x11) = 0 then xz_o (xz_gI M a0 6 0) fun x12 => (if x12 = (1 : Int32) then xz_o (xz_gI M a0 6 2) fun x16 => (if a1 = x16 then xz_o (xz_gI M a0 6 3) fun x17 => (if a2 = x17 then xz_o (xz_gI M a0 6 2) fun x18 => (if x18 ≤ a1 then some (some (.int (0 : Int32)), M) else some (some (.int (1 : Int32)), M)) else xz_o (xz_gI M a0 6 3) fun x19 => (if x19 ≤ a2 then some (some (.int (0 : Int32)), M) else some (some (.int (1 : Int32)), M))) else xz_o (xz_gI M a0 6 2) fun x20 => (if x20 ≤ a1 then some (some (.int (0 : Int32)), M) else some (some (.int (1 : Int32)), M))) else xz_o (xz_gI M a0 6 3) fun x13 => (if a2 = x13 then xz_o (xz_gI M a0 6 2) fun x14 => (if x14 ≤ a1 then some (some (.int (0 : Int32)), M) else some (some (.int (1 : Int32)), M)) else xz_o (xz_gI M a0 6 3) fun x15 => (if x15 ≤ a2 then some (some (.int (0 : Int32)), M) else some (some (.int (1 : Int32)), M)))) else xz_o (xz_gJ M a0 6 4) fun x21 => (if (lg_cmp a3 x21) ≤ 0 then some (some (.int (0 : Int32)), M) else some (some (.int (1 : Int32)), M))) else xz_o (xz_gI M a0 6 0) fun x2 => (if x2 = (1 : Int32) then xz_o (xz_gI M a0 6 2) fun x6 => (if a1 = x6 then xz_o (xz_gI M a0 6 3) fun x7 => (if a2 = x7 then xz_o (xz_gI M a0 6 2) fun x8 => (if x8 ≤ a1 then some (some (.int (0 : Int32)), M) else some (some (.int (1 : Int32)), M)) else xz_o (xz_gI M a0 6 3) fun x9 => (if x9 ≤ a2 then some (some (.int (0 : Int32)), M) else some (some (.int (1 : Int32)), M))) else xz_o (xz_gI M a0 6 2) fun x10 => (if x10 ≤ a1 then some (some (.int (0 : Int32)), M) else some (some (.int (1 : Int32)), M))) else xz_o (xz_gI M a0 6 3) fun x3 => (if a2 = x3 then xz_o (xz_gI M a0 6 2) fun x4 => (if x4 ≤ a1 then some (some (.int (0 : Int32)), M) else some (some (.int (1 : Int32)), M)) else xz_o (xz_gI M a0 6 3) fun x5 => (if x5 ≤ a2 then some (some (.int (0 : Int32)), M) else some (some (.int (1 : Int32)), M)))))) = some r) : zC (d + 1) q_Wa_isBetter [.ref a0, .int a1, .int a2, .long a3] M = some r := xz_Run_of h
theorem b_Wa_leastBy (d : Nat) (a0 : Nat) (a1 : Int32) (M : xz_M) (r : Option Value × xz_M) (h : (zL d q_Wa_leastBy 5 [(0, .ref a0), (1, .int a1), (2, .int (-5 : Int32)), (3, .int (0 : Int32))] M) = some r) : zC (d + 1) q_Wa_leastBy [.ref a0, .int a1] M = some r := xz_Run_of h
theorem b_Wa_leastBy_l5 (d : Nat) (a0 : Nat) (a1 : Int32) (a2 : Int32) (a3 : Int32) (M : xz_M) (r : Option Value × xz_M) (h : ((if a1 < a3 then some (some (.int a2), M) else (if (5 : Int32) < a3 then some (some (.int a2), M) else xz_o (xz_gR M a0 6 7) fun x1 => xz_o (xz_lI0 M 0 x1 a3) fun x2 => (if x2 < 0 then zL d q_Wa_leastBy 5 [(0, .ref a0), (1, .int a1), (2, .int a2), (3, .int (a3 + (1 : Int32)))] M else (if a2 < 0 then xz_o (xz_gR M a0 6 7) fun x3 => xz_o (xz_lI0 M 0 x3 a3) fun x4 => zL d q_Wa_leastBy 5 [(0, .ref a0), (1, .int a1), (2, .int x4), (3, .int (a3 + (1 : Int32)))] M else xz_o (xz_gR M a0 6 7) fun x5 => xz_o (xz_lI0 M 0 x5 a3) fun x6 => (if a2 ≤ x6 then zL d q_Wa_leastBy 5 [(0, .ref a0), (1, .int a1), (2, .int a2), (3, .int (a3 + (1 : Int32)))] M else xz_o (xz_gR M a0 6 7) fun x7 => xz_o (xz_lI0 M 0 x7 a3) fun x8 => zL d q_Wa_leastBy 5 [(0, .ref a0), (1, .int a1), (2, .int x8), (3, .int (a3 + (1 : Int32)))] M)))))) = some r) : zL d q_Wa_leastBy 5 [(0, .ref a0), (1, .int a1), (2, .int a2), (3, .int a3)] M = some r := xz_Run_of h
theorem b_Wa_search (d : Nat) (a0 : Nat) (a1 : Nat) (a2 : Int32) (M : xz_M) (r : Option Value × xz_M) (h : (xz_o (xz_wI M a0 6 0 a2) fun M1 => xz_o (xz_wI M1 a0 6 1 (0 : Int32)) fun M2 => xz_o (xz_wI M2 a0 6 2 (-5 : Int32)) fun M3 => xz_o (xz_gR M3 a0 6 7) fun x1 => xz_bV (zC d q_JD_fillI [.ref x1, .int (-5 : Int32)] M3) fun M4 => xz_o (xz_gR M4 a0 6 9) fun x2 => xz_o (xz_gI M4 a1 3 2) fun x3 => xz_o (xz_sI0 M4 x2 (0 : Int32) x3) fun M5 => xz_o (xz_gI M5 a1 3 4) fun x4 => xz_o (xz_gI M5 a1 3 2) fun x5 => xz_bV (zC d q_Wa_goOn [.ref a0, .ref a1, .int (0 : Int32), .int x4, .int ((1 : Int32) <<< (x5 &&& 31)), .long (10000000000 : Int64)] M5) fun M6 => some (none, M6)) = some r) : zC (d + 1) q_Wa_search [.ref a0, .ref a1, .int a2] M = some r := xz_Run_of h
theorem b_Wa_take (d : Nat) (a0 : Nat) (a1 : Int32) (a2 : Int32) (a3 : Int64) (M : xz_M) (r : Option Value × xz_M) (h : (xz_o (xz_gI M a0 6 1) fun x1 => xz_o (xz_wI M a0 6 1 (x1 + (1 : Int32))) fun M1 => xz_o (xz_gR M1 a0 6 7) fun x2 => xz_o (xz_lI0 M1 0 x2 a1) fun x3 => (if x3 < 0 then zL d q_Wa_take 18 [(0, .ref a0), (1, .int a1), (2, .int a2), (3, .long a3)] M1 else xz_o (xz_gR M1 a0 6 7) fun x4 => xz_o (xz_lI0 M1 0 x4 a1) fun x5 => (if x5 ≤ a2 then zL d q_Wa_take 24 [(0, .ref a0), (1, .int a1), (2, .int a2), (3, .long a3)] M1 else zL d q_Wa_take 18 [(0, .ref a0), (1, .int a1), (2, .int a2), (3, .long a3)] M1))) = some r) : zC (d + 1) q_Wa_take [.ref a0, .int a1, .int a2, .long a3] M = some r := xz_Run_of h
theorem b_Wa_take_l18 (d : Nat) (a0 : Nat) (a1 : Int32) (a2 : Int32) (a3 : Int64) (M : xz_M) (r : Option Value × xz_M) (h : (xz_o (xz_gR M a0 6 7) fun x1 => xz_o (xz_sI0 M x1 a1 a2) fun M1 => zL d q_Wa_take 24 [(0, .ref a0), (1, .int a1), (2, .int a2), (3, .long a3)] M1) = some r) : zL d q_Wa_take 18 [(0, .ref a0), (1, .int a1), (2, .int a2), (3, .long a3)] M = some r := xz_Run_of h
theorem b_Wa_take_l24 (d : Nat) (a0 : Nat) (a1 : Int32) (a2 : Int32) (a3 : Int64) (M : xz_M) (r : Option Value × xz_M) (h : (xz_o (xz_gI M a0 6 2) fun x1 => (if x1 < 0 then zL d q_Wa_take 35 [(0, .ref a0), (1, .int a1), (2, .int a2), (3, .long a3)] M else xz_b (xz_is M a0 6) (xz_bI (zC d q_Wa_isBetter [.ref a0, .int a1, .int a2, .long a3] M) fun x2 M1 => (if x2 = 0 then some (none, M1) else zL d q_Wa_take 35 [(0, .ref a0), (1, .int a1), (2, .int a2), (3, .long a3)] M1)))) = some r) : zL d q_Wa_take 24 [(0, .ref a0), (1, .int a1), (2, .int a2), (3, .long a3)] M = some r := xz_Run_of h
theorem b_Wa_take_l35 (d : Nat) (a0 : Nat) (a1 : Int32) (a2 : Int32) (a3 : Int64) (M : xz_M) (r : Option Value × xz_M) (h : (xz_o (xz_wI M a0 6 2 a1) fun M1 => xz_o (xz_wI M1 a0 6 3 a2) fun M2 => xz_o (xz_wJ M2 a0 6 4 a3) fun M3 => xz_o (xz_gR M3 a0 6 8) fun x1 => xz_o (xz_gR M3 a0 6 5) fun x2 => xz_o (xz_gI M3 a0 6 2) fun x3 => xz_o (xz_copy M3 x1 (0 : Int32) x2 (0 : Int32) x3) fun M4 => xz_o (xz_gR M4 a0 6 9) fun x4 => xz_o (xz_gR M4 a0 6 6) fun x5 => xz_o (xz_gI M4 a0 6 2) fun x6 => xz_o (xz_copy M4 x4 (0 : Int32) x5 (0 : Int32) (x6 + (1 : Int32))) fun M5 => some (none, M5)) = some r) : zL d q_Wa_take 35 [(0, .ref a0), (1, .int a1), (2, .int a2), (3, .long a3)] M = some r := xz_Run_of h
theorem b_HR_after (d : Nat) (a0 : Nat) (a1 : Int32) (M : xz_M) (r : Option Value × xz_M) (h : ((if a1 < 0 then some (some (.int (-1 : Int32)), M) else (if a1 ≤ (2 : Int32) then xz_o (xz_gR M a0 7 2) fun x1 => xz_o (xz_gR M a0 7 0) fun x2 => xz_b (xz_is M x1 3) (xz_bV (zC d q_Se_become [.ref x1, .ref x2] M) fun M1 => zL d q_HR_after 15 [(0, .ref a0), (1, .int a1), (2, .int (0 : Int32))] M1) else some (some (.int (-1 : Int32)), M)))) = some r) : zC (d + 1) q_HR_after [.ref a0, .int a1] M = some r := xz_Run_of h
theorem b_HR_after_l15 (d : Nat) (a0 : Nat) (a1 : Int32) (a2 : Int32) (M : xz_M) (r : Option Value × xz_M) (h : (xz_o (xz_gR M a0 7 0) fun x1 => xz_o (xz_gR M x1 3 7) fun x2 => xz_o (xz_gI M x2 2 0) fun x3 => (if x3 ≤ a2 then (if a1 = 0 then xz_o (xz_gR M a0 7 3) fun x10 => xz_o (xz_gR M a0 7 2) fun x11 => xz_o (xz_gR M a0 7 2) fun x12 => xz_o (xz_gI M x12 3 4) fun x13 => xz_b (xz_is M x10 1) (xz_bV (zC d q_Re_fill [.ref x10, .ref x11, .int x13] M) fun M2 => xz_o (xz_gR M2 a0 7 3) fun x14 => xz_o (xz_gR M2 a0 7 2) fun x15 => xz_o (xz_gI M2 x15 3 3) fun x16 => xz_b (xz_is M2 x14 1) (xz_bI (zC d q_Re_of [.ref x14, .int x16] M2) fun x17 M3 => some (some (.int x17), M3))) else xz_o (xz_gR M a0 7 4) fun x4 => xz_o (xz_gR M a0 7 2) fun x5 => xz_b (xz_is M x4 6) (xz_bV (zC d q_Wa_search [.ref x4, .ref x5, .int (1 : Int32)] M) fun M1 => (if a1 = (1 : Int32) then xz_o (xz_gR M1 a0 7 4) fun x8 => xz_o (xz_gI M1 x8 6 2) fun x9 => some (some (.int x9), M1) else xz_o (xz_gR M1 a0 7 4) fun x6 => xz_o (xz_gI M1 x6 6 1) fun x7 => some (some (.int x7), M1)))) else xz_o (xz_gR M a0 7 2) fun x18 => xz_o (xz_gR M a0 7 0) fun x19 => xz_o (xz_gR M x19 3 7) fun x20 => xz_o (xz_gR M x20 2 2) fun x21 => xz_o (xz_lI0 M 0 x21 a2) fun x22 => xz_o (xz_gR M a0 7 0) fun x23 => xz_o (xz_gR M x23 3 7) fun x24 => xz_o (xz_gR M x24 2 3) fun x25 => xz_o (xz_lI0 M 0 x25 a2) fun x26 => xz_b (xz_is M x18 3) (xz_bV (zC d q_Se_undergo [.ref x18, .int x22, .int x26] M) fun M4 => zL d q_HR_after 15 [(0, .ref a0), (1, .int a1), (2, .int (a2 + (1 : Int32)))] M4))) = some r) : zL d q_HR_after 15 [(0, .ref a0), (1, .int a1), (2, .int a2)] M = some r := xz_Run_of h
theorem b_HR_agenda (d : Nat) (a0 : Nat) (a1 : Int32) (M : xz_M) (r : Option Value × xz_M) (h : ((if 0 ≤ a1 then zL d q_HR_agenda 7 [(0, .ref a0), (1, .int a1), (2, .int (0 : Int32))] M else some (some (.int (-1 : Int32)), M))) = some r) : zC (d + 1) q_HR_agenda [.ref a0, .int a1] M = some r := xz_Run_of h
theorem b_HR_agenda_l7 (d : Nat) (a0 : Nat) (a1 : Int32) (a2 : Int32) (M : xz_M) (r : Option Value × xz_M) (h : (xz_o (xz_gR M a0 7 0) fun x1 => xz_o (xz_gR M x1 3 5) fun x2 => xz_o (xz_gI M x2 0 0) fun x3 => (if x3 ≤ a2 then some (some (.int (-5 : Int32)), M) else xz_o (xz_gR M a0 7 0) fun x4 => xz_o (xz_gR M x4 3 5) fun x5 => xz_b (xz_is M x5 0) (xz_bI (zC d q_Me_isThere [.ref x5, .int a2] M) fun x6 M1 => (if x6 = 0 then zL d q_HR_agenda 7 [(0, .ref a0), (1, .int a1), (2, .int (a2 + (1 : Int32)))] M1 else xz_o (xz_gR M1 a0 7 0) fun x7 => xz_o (xz_gR M1 x7 3 5) fun x8 => xz_b (xz_is M1 x8 0) (xz_bI (zC d q_Me_howManyAhead [.ref x8, .int a2] M1) fun x9 M2 => (if x9 = a1 then some (some (.int a2), M2) else zL d q_HR_agenda 7 [(0, .ref a0), (1, .int a1), (2, .int (a2 + (1 : Int32)))] M2)))))) = some r) : zL d q_HR_agenda 7 [(0, .ref a0), (1, .int a1), (2, .int a2)] M = some r := xz_Run_of h
theorem b_HR_ask (d : Nat) (a0 : Nat) (a1 : Int32) (a2 : Int32) (a3 : Int32) (M : xz_M) (r : Option Value × xz_M) (h : (xz_o (xz_gR M a0 7 0) fun x1 => xz_b (xz_is M x1 3) (xz_bI (zC d q_Se_isPerson [.ref x1, .int a1] M) fun x2 M1 => (if x2 = 0 then some (some (.int (-1 : Int32)), M1) else xz_o (xz_gR M1 a0 7 0) fun x3 => xz_b (xz_is M1 x3 3) (xz_bI (zC d q_Se_isPerson [.ref x3, .int a2] M1) fun x4 M2 => (if x4 = 0 then some (some (.int (-1 : Int32)), M2) else xz_bI (zC d q_HR_isTime [.int a3] M2) fun x5 M3 => (if x5 = 0 then some (some (.int (-2 : Int32)), M3) else xz_o (xz_gR M3 a0 7 0) fun x6 => xz_o (xz_wI M3 x6 3 2 a1) fun M4 => xz_o (xz_gR M4 a0 7 0) fun x7 => xz_o (xz_wI M4 x7 3 3 a2) fun M5 => xz_o (xz_gR M5 a0 7 0) fun x8 => xz_o (xz_wI M5 x8 3 4 a3) fun M6 => xz_o (xz_gR M6 a0 7 4) fun x9 => xz_o (xz_gR M6 a0 7 0) fun x10 => xz_b (xz_is M6 x9 6) (xz_bV (zC d q_Wa_search [.ref x9, .ref x10, .int (0 : Int32)] M6) fun M7 => xz_o (xz_gR M7 a0 7 4) fun x11 => xz_o (xz_gI M7 x11 6 1) fun x12 => some (some (.int x12), M7)))))))) = some r) : zC (d + 1) q_HR_ask [.ref a0, .int a1, .int a2, .int a3] M = some r := xz_Run_of h
theorem b_HR_between (d : Nat) (a0 : Nat) (a1 : Int32) (a2 : Int32) (M : xz_M) (r : Option Value × xz_M) (h : (xz_o (xz_gR M a0 7 0) fun x1 => xz_b (xz_is M x1 3) (xz_bI (zC d q_Se_isPair [.ref x1, .int a1, .int a2] M) fun x2 M1 => (if x2 = 0 then some (some (.int (-1 : Int32)), M1) else zL d q_HR_between 13 [(0, .ref a0), (1, .int a1), (2, .int a2), (3, .int (0 : Int32)), (4, .int (0 : Int32))] M1))) = some r) : zC (d + 1) q_HR_between [.ref a0, .int a1, .int a2] M = some r := xz_Run_of h
theorem b_HR_between_l13 (d : Nat) (a0 : Nat) (a1 : Int32) (a2 : Int32) (a3 : Int32) (a4 : Int32) (M : xz_M) (r : Option Value × xz_M) (h : (xz_o (xz_gR M a0 7 0) fun x1 => xz_o (xz_gR M x1 3 5) fun x2 => xz_o (xz_gI M x2 0 0) fun x3 => (if x3 ≤ a4 then some (some (.int a3), M) else xz_o (xz_gR M a0 7 0) fun x4 => xz_o (xz_gR M x4 3 5) fun x5 => xz_b (xz_is M x5 0) (xz_bI (zC d q_Me_isThere [.ref x5, .int a4] M) fun x6 M1 => (if x6 = 0 then zL d q_HR_between 13 [(0, .ref a0), (1, .int a1), (2, .int a2), (3, .int a3), (4, .int (a4 + (1 : Int32)))] M1 else xz_o (xz_gR M1 a0 7 0) fun x7 => xz_o (xz_gR M1 x7 3 5) fun x8 => xz_b (xz_is M1 x8 0) (xz_bI (zC d q_Me_other [.ref x8, .int a4, .int a1] M1) fun x9 M2 => (if x9 = a2 then zL d q_HR_between 13 [(0, .ref a0), (1, .int a1), (2, .int a2), (3, .int (a3 ||| ((1 : Int32) <<< (a4 &&& 31)))), (4, .int (a4 + (1 : Int32)))] M2 else zL d q_HR_between 13 [(0, .ref a0), (1, .int a1), (2, .int a2), (3, .int a3), (4, .int (a4 + (1 : Int32)))] M2)))))) = some r) : zL d q_HR_between 13 [(0, .ref a0), (1, .int a1), (2, .int a2), (3, .int a3), (4, .int a4)] M = some r := xz_Run_of h
theorem b_HR_book (d : Nat) (a0 : Nat) (a1 : Int32) (a2 : Int32) (M : xz_M) (r : Option Value × xz_M) (h : ((if a1 = (-1 : Int32) then xz_o (xz_gR M a0 7 0) fun x5 => xz_o (xz_gR M x5 3 8) fun x6 => xz_b (xz_is M x6 2) (xz_bI (zC d q_Ro_clear [.ref x6] M) fun x7 M3 => some (some (.int x7), M3)) else xz_b (xz_is M a0 7) (xz_bI (zC d q_HR_refusalOf [.ref a0, .int a1, .int a2] M) fun x1 M1 => (if x1 = 0 then xz_o (xz_gR M1 a0 7 0) fun x2 => xz_o (xz_gR M1 x2 3 8) fun x3 => xz_b (xz_is M1 x3 2) (xz_bI (zC d q_Ro_add [.ref x3, .int a1, .int a2, .int (0 : Int32)] M1) fun x4 M2 => some (some (.int x4), M2)) else some (some (.int x1), M1))))) = some r) : zC (d + 1) q_HR_book [.ref a0, .int a1, .int a2] M = some r := xz_Run_of h
theorem b_HR_by (d : Nat) (a0 : Nat) (a1 : Int32) (M : xz_M) (r : Option Value × xz_M) (h : ((if a1 < 0 then some (some (.int (-2 : Int32)), M) else (if a1 ≤ (5 : Int32) then xz_o (xz_gR M a0 7 4) fun x1 => xz_o (xz_gR M a0 7 0) fun x2 => xz_b (xz_is M x1 6) (xz_bV (zC d q_Wa_search [.ref x1, .ref x2, .int (0 : Int32)] M) fun M1 => xz_o (xz_gR M1 a0 7 4) fun x3 => xz_b (xz_is M1 x3 6) (xz_bI (zC d q_Wa_leastBy [.ref x3, .int a1] M1) fun x4 M2 => some (some (.int x4), M2))) else some (some (.int (-2 : Int32)), M)))) = some r) : zC (d + 1) q_HR_by [.ref a0, .int a1] M = some r := xz_Run_of h
theorem b_HR_commonDivisor (d : Nat) (a0 : Int64) (a2 : Int64) (M : xz_M) (r : Option Value × xz_M) (h : (zL d q_HR_commonDivisor 7 [(4, .long a0), (6, .long a2), (8, .int (0 : Int32))] M) = some r) : zC (d + 1) q_HR_commonDivisor [.long a0, .long a2] M = some r := xz_Run_of h
theorem b_HR_commonDivisor_l7 (d : Nat) (a4 : Int64) (a6 : Int64) (a8 : Int32) (M : xz_M) (r : Option Value × xz_M) (h : ((if (1000 : Int32) ≤ a8 then some (some (.long (if a4 < (1 : Int64) then (1 : Int64) else a4)), M) else (if (lg_cmp a6 (0 : Int64)) = 0 then some (some (.long (if a4 < (1 : Int64) then (1 : Int64) else a4)), M) else (if a6 = 0 then none else zL d q_HR_commonDivisor 7 [(4, .long a6), (6, .long (a4 - a4 / a6 * a6)), (8, .int (a8 + (1 : Int32)))] M)))) = some r) : zL d q_HR_commonDivisor 7 [(4, .long a4), (6, .long a6), (8, .int a8)] M = some r := xz_Run_of h
theorem b_HR_count (d : Nat) (a0 : Nat) (a1 : Int32) (M : xz_M) (r : Option Value × xz_M) (h : ((if a1 = (0 : Int32) then xz_o (xz_gR M a0 7 0) fun x9 => xz_o (xz_gR M x9 3 6) fun x10 => xz_o (xz_gI M x10 2 0) fun x11 => some (some (.int x11), M) else (if a1 = (1 : Int32) then xz_o (xz_gR M a0 7 0) fun x6 => xz_o (xz_gR M x6 3 7) fun x7 => xz_o (xz_gI M x7 2 0) fun x8 => some (some (.int x8), M) else (if a1 = (2 : Int32) then xz_o (xz_gR M a0 7 0) fun x3 => xz_o (xz_gR M x3 3 8) fun x4 => xz_o (xz_gI M x4 2 0) fun x5 => some (some (.int x5), M) else (if a1 = (3 : Int32) then xz_o (xz_gR M a0 7 5) fun x1 => xz_o (xz_gI M x1 5 0) fun x2 => some (some (.int x2), M) else some (some (.int (-2 : Int32)), M)))))) = some r) : zC (d + 1) q_HR_count [.ref a0, .int a1] M = some r := xz_Run_of h
theorem b_HR_cut (d : Nat) (a0 : Nat) (a1 : Int32) (M : xz_M) (r : Option Value × xz_M) (h : (xz_b (xz_is M a0 7) (xz_bI (zC d q_HR_mayCut [.ref a0, .int a1] M) fun x1 M1 => (if x1 = 0 then some (some (.int (-2 : Int32)), M1) else xz_b (xz_is M1 a0 7) (xz_bI (zC d q_HR_cutsAll [.ref a0, .int a1] M1) fun x2 M2 => (if x2 = 0 then some (some (.int (0 : Int32)), M2) else some (some (.int (1 : Int32)), M2)))))) = some r) : zC (d + 1) q_HR_cut [.ref a0, .int a1] M = some r := xz_Run_of h
theorem b_HR_cutsAll (d : Nat) (a0 : Nat) (a1 : Int32) (M : xz_M) (r : Option Value × xz_M) (h : (xz_o (xz_gR M a0 7 3) fun x1 => xz_o (xz_gR M a0 7 0) fun x2 => xz_o (xz_gR M a0 7 0) fun x3 => xz_o (xz_gI M x3 3 4) fun x4 => xz_b (xz_is M x1 1) (xz_bV (zC d q_Re_fillWithout [.ref x1, .ref x2, .int x4, .int a1, .int (-1 : Int32)] M) fun M1 => xz_o (xz_gR M1 a0 7 3) fun x5 => xz_o (xz_gR M1 a0 7 0) fun x6 => xz_o (xz_gI M1 x6 3 3) fun x7 => xz_b (xz_is M1 x5 1) (xz_bI (zC d q_Re_of [.ref x5, .int x7] M1) fun x8 M2 => (if 0 ≤ x8 then some (some (.int (0 : Int32)), M2) else some (some (.int (1 : Int32)), M2))))) = some r) : zC (d + 1) q_HR_cutsAll [.ref a0, .int a1] M = some r := xz_Run_of h
theorem b_HR_delay (d : Nat) (a0 : Nat) (a1 : Int32) (M : xz_M) (r : Option Value × xz_M) (h : (xz_bI (zC d q_HR_isDelay [.int a1] M) fun x1 M1 => (if x1 = 0 then some (some (.int (-2 : Int32)), M1) else xz_o (xz_gR M1 a0 7 0) fun x2 => xz_o (xz_gI M1 x2 3 1) fun x3 => xz_o (xz_gR M1 a0 7 0) fun x4 => xz_o (xz_wI M1 x4 3 1 a1) fun M2 => some (some (.int x3), M2))) = some r) : zC (d + 1) q_HR_delay [.ref a0, .int a1] M = some r := xz_Run_of h
theorem b_HR_drop (d : Nat) (a0 : Nat) (a1 : Int32) (M : xz_M) (r : Option Value × xz_M) (h : (xz_o (xz_gR M a0 7 0) fun x1 => xz_o (xz_gR M x1 3 5) fun x2 => xz_b (xz_is M x2 0) (xz_bI (zC d q_Me_refusal [.ref x2, .int a1] M) fun x3 M1 => (if x3 = 0 then xz_o (xz_gR M1 a0 7 0) fun x4 => xz_o (xz_gR M1 x4 3 5) fun x5 => xz_b (xz_is M1 x5 0) (xz_bV (zC d q_Me_remove [.ref x5, .int a1] M1) fun M2 => xz_o (xz_gR M2 a0 7 0) fun x6 => xz_o (xz_gR M2 x6 3 5) fun x7 => xz_b (xz_is M2 x7 0) (xz_bI (zC d q_Me_left [.ref x7] M2) fun x8 M3 => some (some (.int x8), M3))) else some (some (.int x3), M1)))) = some r) : zC (d + 1) q_HR_drop [.ref a0, .int a1] M = some r := xz_Run_of h
theorem b_HR_event (d : Nat) (a0 : Nat) (a1 : Int32) (a2 : Int32) (M : xz_M) (r : Option Value × xz_M) (h : ((if a1 = (-1 : Int32) then xz_o (xz_gR M a0 7 0) fun x5 => xz_o (xz_gR M x5 3 7) fun x6 => xz_b (xz_is M x6 2) (xz_bI (zC d q_Ro_clear [.ref x6] M) fun x7 M3 => some (some (.int x7), M3)) else xz_b (xz_is M a0 7) (xz_bI (zC d q_HR_eventRefusal [.ref a0, .int a1, .int a2] M) fun x1 M1 => (if x1 = 0 then xz_o (xz_gR M1 a0 7 0) fun x2 => xz_o (xz_gR M1 x2 3 7) fun x3 => xz_b (xz_is M1 x3 2) (xz_bI (zC d q_Ro_add [.ref x3, .int a1, .int a2, .int (0 : Int32)] M1) fun x4 M2 => some (some (.int x4), M2)) else some (some (.int x1), M1))))) = some r) : zC (d + 1) q_HR_event [.ref a0, .int a1, .int a2] M = some r := xz_Run_of h
theorem b_HR_eventRefusal (d : Nat) (a0 : Nat) (a1 : Int32) (a2 : Int32) (M : xz_M) (r : Option Value × xz_M) (h : ((if a1 = (0 : Int32) then xz_o (xz_gR M a0 7 0) fun x5 => xz_o (xz_gR M x5 3 5) fun x6 => xz_b (xz_is M x6 0) (xz_bI (zC d q_Me_hasCome [.ref x6, .int a2] M) fun x7 M4 => (if x7 = 0 then some (some (.int (-1 : Int32)), M4) else some (some (.int (0 : Int32)), M4))) else (if a1 = (1 : Int32) then xz_bI (zC d q_HR_isDelay [.int a2] M) fun x4 M3 => (if x4 = 0 then some (some (.int (-2 : Int32)), M3) else some (some (.int (0 : Int32)), M3)) else (if a1 = (2 : Int32) then xz_o (xz_gR M a0 7 0) fun x2 => xz_b (xz_is M x2 3) (xz_bI (zC d q_Se_isPerson [.ref x2, .int a2] M) fun x3 M2 => (if x3 = 0 then some (some (.int (-1 : Int32)), M2) else some (some (.int (0 : Int32)), M2))) else (if a1 = (3 : Int32) then xz_bI (zC d q_HR_isTime [.int a2] M) fun x1 M1 => (if x1 = 0 then some (some (.int (-2 : Int32)), M1) else some (some (.int (0 : Int32)), M1)) else some (some (.int (-1 : Int32)), M)))))) = some r) : zC (d + 1) q_HR_eventRefusal [.ref a0, .int a1, .int a2] M = some r := xz_Run_of h
theorem b_HR_feed (d : Nat) (a0 : Nat) (a1 : Int32) (M : xz_M) (r : Option Value × xz_M) (h : ((if a1 < 0 then some (some (.int (-2 : Int32)), M) else (if a1 ≤ (127 : Int32) then xz_o (xz_gR M a0 7 5) fun x1 => xz_b (xz_is M x1 5) (xz_bI (zC d q_Te_add [.ref x1, .int a1] M) fun x2 M1 => some (some (.int x2), M1)) else some (some (.int (-2 : Int32)), M)))) = some r) : zC (d + 1) q_HR_feed [.ref a0, .int a1] M = some r := xz_Run_of h
theorem b_HR_fits (d : Nat) (a0 : Nat) (a1 : Int32) (M : xz_M) (r : Option Value × xz_M) (h : ((if a1 = 0 then zL d q_HR_fits 14 [(0, .ref a0), (1, .int a1), (2, .int (0 : Int32)), (3, .int (-5 : Int32)), (4, .int (0 : Int32))] M else (if a1 = (1 : Int32) then zL d q_HR_fits 14 [(0, .ref a0), (1, .int a1), (2, .int (0 : Int32)), (3, .int (-5 : Int32)), (4, .int (0 : Int32))] M else some (some (.int (-1 : Int32)), M)))) = some r) : zC (d + 1) q_HR_fits [.ref a0, .int a1] M = some r := xz_Run_of h
theorem b_HR_fits_l14 (d : Nat) (a0 : Nat) (a1 : Int32) (a2 : Int32) (a3 : Int32) (a4 : Int32) (M : xz_M) (r : Option Value × xz_M) (h : ((if (20 : Int32) < a4 then (if a1 = 0 then some (some (.int a2), M) else some (some (.int a3), M)) else xz_b (xz_is M a0 7) (xz_bI (zC d q_HR_isAsSeen [.ref a0, .int a4] M) fun x1 M1 => (if x1 = 0 then zL d q_HR_fits 14 [(0, .ref a0), (1, .int a1), (2, .int a2), (3, .int a3), (4, .int (a4 + (1 : Int32)))] M1 else (if a2 = 0 then zL d q_HR_fits 14 [(0, .ref a0), (1, .int a1), (2, .int (a2 + (1 : Int32))), (3, .int a4), (4, .int (a4 + (1 : Int32)))] M1 else zL d q_HR_fits 14 [(0, .ref a0), (1, .int a1), (2, .int (a2 + (1 : Int32))), (3, .int a3), (4, .int (a4 + (1 : Int32)))] M1))))) = some r) : zL d q_HR_fits 14 [(0, .ref a0), (1, .int a1), (2, .int a2), (3, .int a3), (4, .int a4)] M = some r := xz_Run_of h
theorem b_HR_hasBit (d : Nat) (a0 : Int32) (a1 : Int32) (M : xz_M) (r : Option Value × xz_M) (h : ((if ((a0 >>> (a1 &&& 31)) &&& (1 : Int32)) = 0 then some (some (.int (0 : Int32)), M) else some (some (.int (1 : Int32)), M))) = some r) : zC (d + 1) q_HR_hasBit [.int a0, .int a1] M = some r := xz_Run_of h
theorem b_HR_holder (d : Nat) (a0 : Nat) (a1 : Int32) (a2 : Int32) (M : xz_M) (r : Option Value × xz_M) (h : (xz_bI (zC d q_HR_isRule [.int a1] M) fun x1 M1 => (if x1 = 0 then some (some (.int (-2 : Int32)), M1) else xz_o (xz_gR M1 a0 7 4) fun x2 => xz_o (xz_gR M1 a0 7 0) fun x3 => xz_b (xz_is M1 x2 6) (xz_bV (zC d q_Wa_search [.ref x2, .ref x3, .int a1] M1) fun M2 => xz_o (xz_gR M2 a0 7 4) fun x4 => xz_o (xz_gI M2 x4 6 2) fun x5 => (if 0 ≤ x5 then (if a2 < 0 then some (some (.int (-1 : Int32)), M2) else xz_o (xz_gR M2 a0 7 4) fun x6 => xz_o (xz_gI M2 x6 6 2) fun x7 => (if a2 ≤ x7 then xz_o (xz_gR M2 a0 7 4) fun x8 => xz_o (xz_gR M2 x8 6 6) fun x9 => xz_o (xz_lI0 M2 0 x9 a2) fun x10 => some (some (.int x10), M2) else some (some (.int (-1 : Int32)), M2))) else some (some (.int (-5 : Int32)), M2))))) = some r) : zC (d + 1) q_HR_holder [.ref a0, .int a1, .int a2] M = some r := xz_Run_of h
theorem b_HR_image (d : Nat) (a0 : Nat) (M : xz_M) (r : Option Value × xz_M) (h : (xz_o (xz_gR M a0 7 1) fun x1 => xz_o (xz_gR M a0 7 0) fun x2 => xz_b (xz_is M x1 3) (xz_bV (zC d q_Se_become [.ref x1, .ref x2] M) fun M1 => xz_o (xz_wZ M1 a0 7 7 (1 : Int32)) fun M2 => xz_o (xz_gR M2 a0 7 0) fun x3 => xz_o (xz_gR M2 x3 3 5) fun x4 => xz_b (xz_is M2 x4 0) (xz_bI (zC d q_Me_left [.ref x4] M2) fun x5 M3 => some (some (.int x5), M3)))) = some r) : zC (d + 1) q_HR_image [.ref a0] M = some r := xz_Run_of h
theorem b_HR_isAsSeen (d : Nat) (a0 : Nat) (a1 : Int32) (M : xz_M) (r : Option Value × xz_M) (h : (xz_o (xz_gR M a0 7 3) fun x1 => xz_o (xz_gR M a0 7 0) fun x2 => xz_b (xz_is M x1 1) (xz_bV (zC d q_Re_fill [.ref x1, .ref x2, .int a1] M) fun M1 => zL d q_HR_isAsSeen 9 [(0, .ref a0), (2, .int (0 : Int32))] M1)) = some r) : zC (d + 1) q_HR_isAsSeen [.ref a0, .int a1] M = some r := xz_Run_of h
set_option maxRecDepth 100000 in
theorem b_HR_isAsSeen_l9 (d : Nat) (a0 : Nat) (a2 : Int32) (M : xz_M) (r : Option Value × xz_M) (h : (xz_o (xz_gR M a0 7 0) fun x1 => xz_o (xz_gR M x1 3 6) fun x2 => xz_o (xz_gI M x2 2 0) fun x3 => (if x3 ≤ a2 then some (some (.int (1 : Int32)), M) else xz_o (xz_gR M a0 7 3) fun x4 => xz_o (xz_gR M a0 7 0) fun x5 => xz_o (xz_gR M x5 3 6) fun x6 => xz_o (xz_gR M x6 2 2) fun x7 => xz_o (xz_lI0 M 0 x7 a2) fun x8 => xz_b (xz_is M x4 1) (xz_bI (zC d q_Re_of [.ref x4, .int x8] M) fun x9 M1 => (if x9 < 0 then xz_o (xz_gR M1 a0 7 0) fun x10 => xz_o (xz_gR M1 x10 3 6) fun x11 => xz_o (xz_gR M1 x11 2 4) fun x12 => xz_o (xz_lI0 M1 0 x12 a2) fun x13 => (if x13 = (1 : Int32) then (if (0 : Int32) = (1 : Int32) then zL d q_HR_isAsSeen 9 [(0, .ref a0), (2, .int (a2 + (1 : Int32)))] M1 else some (some (.int (0 : Int32)), M1)) else (if (0 : Int32) = (0 : Int32) then zL d q_HR_isAsSeen 9 [(0, .ref a0), (2, .int (a2 + (1 : Int32)))] M1 else some (some (.int (0 : Int32)), M1))) else xz_o (xz_gR M1 a0 7 0) fun x14 => xz_o (xz_gR M1 x14 3 6) fun x15 => xz_o (xz_gR M1 x15 2 3) fun x16 => xz_o (xz_lI0 M1 0 x16 a2) fun x17 => (if x17 < x9 then xz_o (xz_gR M1 a0 7 0) fun x18 => xz_o (xz_gR M1 x18 3 6) fun x19 => xz_o (xz_gR M1 x19 2 4) fun x20 => xz_o (xz_lI0 M1 0 x20 a2) fun x21 => (if x21 = (1 : Int32) then (if (0 : Int32) = (1 : Int32) then zL d q_HR_isAsSeen 9 [(0, .ref a0), (2, .int (a2 + (1 : Int32)))] M1 else some (some (.int (0 : Int32)), M1)) else (if (0 : Int32) = (0 : Int32) then zL d q_HR_isAsSeen 9 [(0, .ref a0), (2, .int (a2 + (1 : Int32)))] M1 else some (some (.int (0 : Int32)), M1))) else xz_o (xz_gR M1 a0 7 0) fun x22 => xz_o (xz_gR M1 x22 3 6) fun x23 => xz_o (xz_gR M1 x23 2 4) fun x24 => xz_o (xz_lI0 M1 0 x24 a2) fun x25 => (if x25 = (1 : Int32) then (if (1 : Int32) = (1 : Int32) then zL d q_HR_isAsSeen 9 [(0, .ref a0), (2, .int (a2 + (1 : Int32)))] M1 else some (some (.int (0 : Int32)), M1)) else (if (1 : Int32) = (0 : Int32) then zL d q_HR_isAsSeen 9 [(0, .ref a0), (2, .int (a2 + (1 : Int32)))] M1 else some (some (.int (0 : Int32)), M1)))))))) = some r) : zL d q_HR_isAsSeen 9 [(0, .ref a0), (2, .int a2)] M = some r := xz_Run_of h
theorem b_HR_isDelay (d : Nat) (a0 : Int32) (M : xz_M) (r : Option Value × xz_M) (h : ((if a0 < 0 then some (some (.int (0 : Int32)), M) else (if (9 : Int32) < a0 then some (some (.int (0 : Int32)), M) else some (some (.int (1 : Int32)), M)))) = some r) : zC (d + 1) q_HR_isDelay [.int a0] M = some r := xz_Run_of h
theorem b_HR_isPart (d : Nat) (a0 : Int32) (M : xz_M) (r : Option Value × xz_M) (h : ((if a0 = 0 then some (some (.int (1 : Int32)), M) else (if a0 = (1 : Int32) then some (some (.int (1 : Int32)), M) else some (some (.int (0 : Int32)), M)))) = some r) : zC (d + 1) q_HR_isPart [.int a0] M = some r := xz_Run_of h
theorem b_HR_isRule (d : Nat) (a0 : Int32) (M : xz_M) (r : Option Value × xz_M) (h : ((if a0 < 0 then some (some (.int (0 : Int32)), M) else (if (2 : Int32) < a0 then some (some (.int (0 : Int32)), M) else some (some (.int (1 : Int32)), M)))) = some r) : zC (d + 1) q_HR_isRule [.int a0] M = some r := xz_Run_of h
theorem b_HR_isSure (d : Nat) (a0 : Int32) (M : xz_M) (r : Option Value × xz_M) (h : ((if a0 < (1 : Int32) then some (some (.int (0 : Int32)), M) else (if (100 : Int32) < a0 then some (some (.int (0 : Int32)), M) else some (some (.int (1 : Int32)), M)))) = some r) : zC (d + 1) q_HR_isSure [.int a0] M = some r := xz_Run_of h
theorem b_HR_isTime (d : Nat) (a0 : Int32) (M : xz_M) (r : Option Value × xz_M) (h : ((if a0 < 0 then some (some (.int (0 : Int32)), M) else (if (99 : Int32) < a0 then some (some (.int (0 : Int32)), M) else some (some (.int (1 : Int32)), M)))) = some r) : zC (d + 1) q_HR_isTime [.int a0] M = some r := xz_Run_of h
theorem b_HR_item (d : Nat) (a0 : Nat) (a1 : Int32) (a2 : Int32) (a3 : Int64) (M : xz_M) (r : Option Value × xz_M) (h : (xz_o (xz_gR M a0 7 6) fun x1 => xz_b (xz_is M x1 4) (xz_bI (zC d q_Ta_isTape [.ref x1, .int a1] M) fun x2 M1 => (if x2 = 0 then some (some (.int (-1 : Int32)), M1) else xz_o (xz_gR M1 a0 7 6) fun x3 => xz_b (xz_is M1 x3 4) (xz_bI (zC d q_Ta_holds [.ref x3, .int a1] M1) fun x4 M2 => (if x4 = 0 then some (some (.int (-11 : Int32)), M2) else xz_o (xz_gR M2 a0 7 6) fun x5 => xz_b (xz_is M2 x5 4) (xz_bI (zC d q_Ta_hasPlace [.ref x5, .int a1, .int a2] M2) fun x6 M3 => (if x6 = 0 then some (some (.int (-13 : Int32)), M3) else xz_o (xz_gR M3 a0 7 6) fun x7 => xz_b (xz_is M3 x7 4) (xz_bI (zC d q_Ta_put [.ref x7, .int a1, .int a2, .long a3] M3) fun x8 M4 => some (some (.int x8), M4))))))))) = some r) : zC (d + 1) q_HR_item [.ref a0, .int a1, .int a2, .long a3] M = some r := xz_Run_of h
theorem b_HR_judge (d : Nat) (a0 : Nat) (a1 : Int32) (a2 : Int32) (M : xz_M) (r : Option Value × xz_M) (h : (xz_o (xz_gR M a0 7 6) fun x1 => xz_b (xz_is M x1 4) (xz_bI (zC d q_Ta_isTape [.ref x1, .int a1] M) fun x2 M1 => (if x2 = 0 then some (some (.int (-1 : Int32)), M1) else xz_o (xz_gR M1 a0 7 6) fun x3 => xz_b (xz_is M1 x3 4) (xz_bI (zC d q_Ta_holds [.ref x3, .int a1] M1) fun x4 M2 => (if x4 = 0 then xz_o (xz_gR M2 a0 7 0) fun x5 => xz_o (xz_gI M2 x5 3 2) fun x6 => xz_o (xz_gR M2 a0 7 0) fun x7 => xz_o (xz_gI M2 x7 3 3) fun x8 => (if x6 = x8 then some (some (.int (-5 : Int32)), M2) else (if 0 ≤ a2 then xz_b (xz_is M2 a0 7) (xz_bI (zC d q_HR_judgeFrom [.ref a0, .int a1, .int a2] M2) fun x9 M3 => some (some (.int x9), M3)) else some (some (.int (100 : Int32)), M2))) else xz_o (xz_gR M2 a0 7 6) fun x10 => xz_o (xz_gR M2 x10 4 0) fun x11 => xz_o (xz_lI0 M2 0 x11 a1) fun x12 => (if x12 = 0 then xz_o (xz_gR M2 a0 7 0) fun x13 => xz_o (xz_gI M2 x13 3 2) fun x14 => xz_o (xz_gR M2 a0 7 0) fun x15 => xz_o (xz_gI M2 x15 3 3) fun x16 => (if x14 = x16 then some (some (.int (-5 : Int32)), M2) else (if 0 ≤ a2 then xz_b (xz_is M2 a0 7) (xz_bI (zC d q_HR_judgeFrom [.ref a0, .int a1, .int a2] M2) fun x17 M4 => some (some (.int x17), M4)) else some (some (.int (100 : Int32)), M2))) else some (some (.int (-12 : Int32)), M2))))))) = some r) : zC (d + 1) q_HR_judge [.ref a0, .int a1, .int a2] M = some r := xz_Run_of h
theorem b_HR_judgeFrom (d : Nat) (a0 : Nat) (a1 : Int32) (a2 : Int32) (M : xz_M) (r : Option Value × xz_M) (h : (xz_o (xz_gR M a0 7 0) fun x1 => xz_o (xz_gI M x1 3 2) fun x2 => xz_o (xz_gR M a0 7 0) fun x3 => xz_o (xz_gI M x3 3 4) fun x4 => zL d q_HR_judgeFrom 17 [(0, .ref a0), (1, .int a1), (3, .int x2), (4, .int x4), (5, .int ((1 : Int32) <<< (x2 &&& 31))), (6, .int (0 : Int32)), (7, .int a2)] M) = some r) : zC (d + 1) q_HR_judgeFrom [.ref a0, .int a1, .int a2] M = some r := xz_Run_of h
set_option maxRecDepth 100000 in
theorem b_HR_judgeFrom_l17 (d : Nat) (a0 : Nat) (a1 : Int32) (a3 : Int32) (a4 : Int32) (a5 : Int32) (a6 : Int32) (a7 : Int32) (M : xz_M) (r : Option Value × xz_M) (h : (xz_o (xz_gR M a0 7 6) fun x1 => xz_o (xz_gR M x1 4 1) fun x2 => xz_o (xz_lI0 M 0 x2 a1) fun x3 => (if x3 ≤ a7 then some (some (.int ((100 : Int32) + a6)), M) else xz_o (xz_gR M a0 7 6) fun x4 => xz_o (xz_gR M x4 4 2) fun x5 => xz_o (xz_lR0 M x5 a1) fun x6 => xz_o (xz_lJ0 M x6 a7) fun x7 => xz_o (xz_gR M a0 7 0) fun x8 => xz_o (xz_gR M x8 3 5) fun x9 => xz_b (xz_is M x9 0) (xz_bI (zC d q_Me_taker [.ref x9, .int (Int64.toInt32 x7), .int a3, .int a4, .int a5] M) fun x10 M1 => (if x10 = (-1 : Int32) then some (some (.int a6), M1) else xz_o (xz_gR M1 a0 7 0) fun x11 => xz_o (xz_gI M1 x11 3 3) fun x12 => (if x10 = x12 then some (some (.int (-5 : Int32)), M1) else xz_o (xz_gR M1 a0 7 0) fun x13 => xz_o (xz_gR M1 x13 3 5) fun x14 => xz_o (xz_gR M1 x14 0 1) fun x15 => xz_o (xz_lI0 M1 0 x15 (Int64.toInt32 x7)) fun x16 => xz_o (xz_gR M1 a0 7 0) fun x17 => xz_o (xz_gI M1 x17 3 1) fun x18 => zL d q_HR_judgeFrom 17 [(0, .ref a0), (1, .int a1), (3, .int x10), (4, .int (x16 + x18)), (5, .int (a5 ||| ((1 : Int32) <<< (x10 &&& 31)))), (6, .int (a6 + (1 : Int32))), (7, .int (a7 + (1 : Int32)))] M1))))) = some r) : zL d q_HR_judgeFrom 17 [(0, .ref a0), (1, .int a1), (3, .int a3), (4, .int a4), (5, .int a5), (6, .int a6), (7, .int a7)] M = some r := xz_Run_of h
theorem b_HR_latest (d : Nat) (a0 : Nat) (M : xz_M) (r : Option Value × xz_M) (h : (zL d q_HR_latest 3 [(0, .ref a0), (1, .int (99 : Int32))] M) = some r) : zC (d + 1) q_HR_latest [.ref a0] M = some r := xz_Run_of h
theorem b_HR_latest_l3 (d : Nat) (a0 : Nat) (a1 : Int32) (M : xz_M) (r : Option Value × xz_M) (h : ((if a1 < 0 then some (some (.int (-5 : Int32)), M) else xz_o (xz_gR M a0 7 3) fun x1 => xz_o (xz_gR M a0 7 0) fun x2 => xz_b (xz_is M x1 1) (xz_bV (zC d q_Re_fill [.ref x1, .ref x2, .int a1] M) fun M1 => xz_o (xz_gR M1 a0 7 3) fun x3 => xz_o (xz_gR M1 a0 7 0) fun x4 => xz_o (xz_gI M1 x4 3 3) fun x5 => xz_b (xz_is M1 x3 1) (xz_bI (zC d q_Re_of [.ref x3, .int x5] M1) fun x6 M2 => (if x6 < 0 then zL d q_HR_latest 3 [(0, .ref a0), (1, .int (a1 + (-1 : Int32)))] M2 else some (some (.int a1), M2)))))) = some r) : zL d q_HR_latest 3 [(0, .ref a0), (1, .int a1)] M = some r := xz_Run_of h
theorem b_HR_leastCut (d : Nat) (a0 : Nat) (M : xz_M) (r : Option Value × xz_M) (h : (zL d q_HR_leastCut 7 [(0, .ref a0), (1, .int (-5 : Int32)), (2, .int (7 : Int32)), (3, .int (0 : Int32))] M) = some r) : zC (d + 1) q_HR_leastCut [.ref a0] M = some r := xz_Run_of h
theorem b_HR_leastCut_l7 (d : Nat) (a0 : Nat) (a1 : Int32) (a2 : Int32) (a3 : Int32) (M : xz_M) (r : Option Value × xz_M) (h : (xz_o (xz_gR M a0 7 0) fun x1 => xz_o (xz_gI M x1 3 0) fun x2 => (if ((1 : Int32) <<< (x2 &&& 31)) ≤ a3 then some (some (.int a1), M) else xz_bI (zC d q_JD_bitCount [.int a3] M) fun x3 M1 => (if a2 ≤ x3 then zL d q_HR_leastCut 7 [(0, .ref a0), (1, .int a1), (2, .int a2), (3, .int (a3 + (1 : Int32)))] M1 else xz_b (xz_is M1 a0 7) (xz_bI (zC d q_HR_mayCut [.ref a0, .int a3] M1) fun x4 M2 => (if x4 = 0 then zL d q_HR_leastCut 7 [(0, .ref a0), (1, .int a1), (2, .int a2), (3, .int (a3 + (1 : Int32)))] M2 else xz_b (xz_is M2 a0 7) (xz_bI (zC d q_HR_cutsAll [.ref a0, .int a3] M2) fun x5 M3 => (if x5 = 0 then zL d q_HR_leastCut 7 [(0, .ref a0), (1, .int a1), (2, .int a2), (3, .int (a3 + (1 : Int32)))] M3 else zL d q_HR_leastCut 7 [(0, .ref a0), (1, .int a3), (2, .int x3), (3, .int (a3 + (1 : Int32)))] M3))))))) = some r) : zL d q_HR_leastCut 7 [(0, .ref a0), (1, .int a1), (2, .int a2), (3, .int a3)] M = some r := xz_Run_of h
theorem b_HR_looked (d : Nat) (a0 : Nat) (M : xz_M) (r : Option Value × xz_M) (h : (xz_o (xz_gR M a0 7 3) fun x1 => xz_o (xz_gR M a0 7 0) fun x2 => xz_o (xz_gR M a0 7 0) fun x3 => xz_o (xz_gI M x3 3 4) fun x4 => xz_b (xz_is M x1 1) (xz_bV (zC d q_Re_fill [.ref x1, .ref x2, .int x4] M) fun M1 => zL d q_HR_looked 11 [(0, .ref a0), (1, .int (0 : Int32))] M1)) = some r) : zC (d + 1) q_HR_looked [.ref a0] M = some r := xz_Run_of h
theorem b_HR_looked_l11 (d : Nat) (a0 : Nat) (a1 : Int32) (M : xz_M) (r : Option Value × xz_M) (h : (xz_o (xz_gR M a0 7 0) fun x1 => xz_o (xz_gR M x1 3 8) fun x2 => xz_o (xz_gI M x2 2 0) fun x3 => (if x3 ≤ a1 then some (some (.int (-5 : Int32)), M) else xz_o (xz_gR M a0 7 3) fun x4 => xz_o (xz_gR M a0 7 0) fun x5 => xz_o (xz_gR M x5 3 8) fun x6 => xz_o (xz_gR M x6 2 2) fun x7 => xz_o (xz_lI0 M 0 x7 a1) fun x8 => xz_b (xz_is M x4 1) (xz_bI (zC d q_Re_of [.ref x4, .int x8] M) fun x9 M1 => xz_o (xz_gR M1 a0 7 0) fun x10 => xz_o (xz_gR M1 x10 3 8) fun x11 => xz_o (xz_gR M1 x11 2 3) fun x12 => xz_o (xz_lI0 M1 0 x12 a1) fun x13 => (if x9 = x13 then zL d q_HR_looked 11 [(0, .ref a0), (1, .int (a1 + (1 : Int32)))] M1 else some (some (.int a1), M1))))) = some r) : zL d q_HR_looked 11 [(0, .ref a0), (1, .int a1)] M = some r := xz_Run_of h
theorem b_HR_lowest (d : Nat) (a0 : Int64) (a2 : Int64) (a4 : Int32) (M : xz_M) (r : Option Value × xz_M) (h : (xz_bJ (zC d q_HR_commonDivisor [.long a0, .long a2] M) fun x1 M1 => (if a4 = 0 then (if x1 = 0 then none else some (some (.long (a0 / x1)), M1)) else (if x1 = 0 then none else some (some (.long (a2 / x1)), M1)))) = some r) : zC (d + 1) q_HR_lowest [.long a0, .long a2, .int a4] M = some r := xz_Run_of h
theorem b_HR_mayCut (d : Nat) (a0 : Nat) (a1 : Int32) (M : xz_M) (r : Option Value × xz_M) (h : ((if a1 < 0 then some (some (.int (0 : Int32)), M) else xz_o (xz_gR M a0 7 0) fun x1 => xz_o (xz_gI M x1 3 0) fun x2 => (if ((1 : Int32) <<< (x2 &&& 31)) ≤ a1 then some (some (.int (0 : Int32)), M) else xz_o (xz_gR M a0 7 0) fun x3 => xz_o (xz_gI M x3 3 2) fun x4 => xz_bI (zC d q_HR_hasBit [.int a1, .int x4] M) fun x5 M1 => (if x5 = 0 then xz_o (xz_gR M1 a0 7 0) fun x6 => xz_o (xz_gI M1 x6 3 3) fun x7 => xz_bI (zC d q_HR_hasBit [.int a1, .int x7] M1) fun x8 M2 => (if x8 = 0 then some (some (.int (1 : Int32)), M2) else some (some (.int (0 : Int32)), M2)) else some (some (.int (0 : Int32)), M1))))) = some r) : zC (d + 1) q_HR_mayCut [.ref a0, .int a1] M = some r := xz_Run_of h
theorem b_HR_mean (d : Nat) (a0 : Nat) (a1 : Int32) (M : xz_M) (r : Option Value × xz_M) (h : (xz_bI (zC d q_HR_isPart [.int a1] M) fun x1 M1 => (if x1 = 0 then some (some (.long (-9223372036854775808 : Int64)), M1) else xz_o (xz_gR M1 a0 7 3) fun x2 => xz_o (xz_gR M1 a0 7 0) fun x3 => xz_o (xz_gR M1 a0 7 0) fun x4 => xz_o (xz_gI M1 x4 3 4) fun x5 => xz_b (xz_is M1 x2 1) (xz_bV (zC d q_Re_fill [.ref x2, .ref x3, .int x5] M1) fun M2 => zL d q_HR_mean 20 [(0, .ref a0), (1, .int a1), (2, .int (0 : Int32)), (3, .int (0 : Int32)), (4, .int (0 : Int32))] M2))) = some r) : zC (d + 1) q_HR_mean [.ref a0, .int a1] M = some r := xz_Run_of h
theorem b_HR_mean_l20 (d : Nat) (a0 : Nat) (a1 : Int32) (a2 : Int32) (a3 : Int32) (a4 : Int32) (M : xz_M) (r : Option Value × xz_M) (h : (xz_o (xz_gR M a0 7 0) fun x1 => xz_o (xz_gI M x1 3 0) fun x2 => (if x2 ≤ a4 then xz_bJ (zC d q_HR_lowest [.long (Int32.toInt64 a2), .long (Int32.toInt64 a3), .int a1] M) fun x3 M1 => some (some (.long x3), M1) else xz_o (xz_gR M a0 7 3) fun x4 => xz_b (xz_is M x4 1) (xz_bI (zC d q_Re_of [.ref x4, .int a4] M) fun x5 M2 => (if x5 < 0 then zL d q_HR_mean 20 [(0, .ref a0), (1, .int a1), (2, .int a2), (3, .int a3), (4, .int (a4 + (1 : Int32)))] M2 else xz_o (xz_gR M2 a0 7 3) fun x6 => xz_b (xz_is M2 x6 1) (xz_bI (zC d q_Re_of [.ref x6, .int a4] M2) fun x7 M3 => zL d q_HR_mean 20 [(0, .ref a0), (1, .int a1), (2, .int (a2 + x7)), (3, .int (a3 + (1 : Int32))), (4, .int (a4 + (1 : Int32)))] M3))))) = some r) : zL d q_HR_mean 20 [(0, .ref a0), (1, .int a1), (2, .int a2), (3, .int a3), (4, .int a4)] M = some r := xz_Run_of h
theorem b_HR_meet (d : Nat) (a0 : Nat) (a1 : Int32) (a2 : Int32) (a3 : Int32) (a4 : Int32) (M : xz_M) (r : Option Value × xz_M) (h : (xz_o (xz_gR M a0 7 0) fun x1 => xz_b (xz_is M x1 3) (xz_bI (zC d q_Se_isPair [.ref x1, .int a2, .int a3] M) fun x2 M1 => (if x2 = 0 then some (some (.int (-1 : Int32)), M1) else xz_bI (zC d q_HR_isTime [.int a1] M1) fun x3 M2 => (if x3 = 0 then some (some (.int (-2 : Int32)), M2) else xz_bI (zC d q_HR_isSure [.int a4] M2) fun x4 M3 => (if x4 = 0 then some (some (.int (-2 : Int32)), M3) else xz_o (xz_gR M3 a0 7 0) fun x5 => xz_o (xz_gR M3 x5 3 5) fun x6 => xz_b (xz_is M3 x6 0) (xz_bI (zC d q_Me_add [.ref x6, .int a1, .int a2, .int a3, .int a4] M3) fun x7 M4 => some (some (.int x7), M4))))))) = some r) : zC (d + 1) q_HR_meet [.ref a0, .int a1, .int a2, .int a3, .int a4] M = some r := xz_Run_of h
theorem b_HR_meeting (d : Nat) (a0 : Nat) (a1 : Int32) (a2 : Int32) (M : xz_M) (r : Option Value × xz_M) (h : ((if a2 < 0 then some (some (.int (-1 : Int32)), M) else (if a2 ≤ (3 : Int32) then xz_o (xz_gR M a0 7 0) fun x1 => xz_o (xz_gR M x1 3 5) fun x2 => xz_b (xz_is M x2 0) (xz_bI (zC d q_Me_refusal [.ref x2, .int a1] M) fun x3 M1 => (if x3 = 0 then (if a2 = (0 : Int32) then xz_o (xz_gR M1 a0 7 0) fun x16 => xz_o (xz_gR M1 x16 3 5) fun x17 => xz_o (xz_gR M1 x17 0 1) fun x18 => xz_o (xz_lI0 M1 0 x18 a1) fun x19 => some (some (.int x19), M1) else (if a2 = (1 : Int32) then xz_o (xz_gR M1 a0 7 0) fun x12 => xz_o (xz_gR M1 x12 3 5) fun x13 => xz_o (xz_gR M1 x13 0 2) fun x14 => xz_o (xz_lI0 M1 0 x14 a1) fun x15 => some (some (.int x15), M1) else (if a2 = (2 : Int32) then xz_o (xz_gR M1 a0 7 0) fun x8 => xz_o (xz_gR M1 x8 3 5) fun x9 => xz_o (xz_gR M1 x9 0 3) fun x10 => xz_o (xz_lI0 M1 0 x10 a1) fun x11 => some (some (.int x11), M1) else xz_o (xz_gR M1 a0 7 0) fun x4 => xz_o (xz_gR M1 x4 3 5) fun x5 => xz_o (xz_gR M1 x5 0 4) fun x6 => xz_o (xz_lI0 M1 0 x6 a1) fun x7 => some (some (.int x7), M1)))) else some (some (.int x3), M1))) else some (some (.int (-1 : Int32)), M)))) = some r) : zC (d + 1) q_HR_meeting [.ref a0, .int a1, .int a2] M = some r := xz_Run_of h
set_option maxRecDepth 100000 in
theorem b_HR_obey (d : Nat) (a0 : Nat) (a1 : Int32) (M : xz_M) (r : Option Value × xz_M) (h : (xz_o (xz_gR M a0 7 5) fun x1 => xz_b (xz_is M x1 5) (xz_bI (zC d q_Te_word [.ref x1, .int a1] M) fun x2 M1 => (if x2 = (0 : Int32) then xz_o (xz_gR M1 a0 7 5) fun x25 => xz_b (xz_is M1 x25 5) (xz_bI (zC d q_Te_number [.ref x25, .int a1, .int (0 : Int32)] M1) fun x26 M15 => xz_b (xz_is M15 a0 7) (xz_bI (zC d q_HR_people [.ref a0, .int x26] M15) fun x27 M16 => some (some (.int x27), M16))) else (if x2 = (1 : Int32) then xz_o (xz_gR M1 a0 7 5) fun x16 => xz_b (xz_is M1 x16 5) (xz_bI (zC d q_Te_number [.ref x16, .int a1, .int (0 : Int32)] M1) fun x17 M10 => xz_o (xz_gR M10 a0 7 5) fun x18 => xz_b (xz_is M10 x18 5) (xz_bI (zC d q_Te_number [.ref x18, .int a1, .int (1 : Int32)] M10) fun x19 M11 => xz_o (xz_gR M11 a0 7 5) fun x20 => xz_b (xz_is M11 x20 5) (xz_bI (zC d q_Te_number [.ref x20, .int a1, .int (2 : Int32)] M11) fun x21 M12 => xz_o (xz_gR M12 a0 7 5) fun x22 => xz_b (xz_is M12 x22 5) (xz_bI (zC d q_Te_number [.ref x22, .int a1, .int (3 : Int32)] M12) fun x23 M13 => xz_b (xz_is M13 a0 7) (xz_bI (zC d q_HR_meet [.ref a0, .int x17, .int x19, .int x21, .int x23] M13) fun x24 M14 => some (some (.int x24), M14)))))) else (if x2 = (2 : Int32) then xz_o (xz_gR M1 a0 7 5) fun x13 => xz_b (xz_is M1 x13 5) (xz_bI (zC d q_Te_number [.ref x13, .int a1, .int (0 : Int32)] M1) fun x14 M8 => xz_b (xz_is M8 a0 7) (xz_bI (zC d q_HR_drop [.ref a0, .int x14] M8) fun x15 M9 => some (some (.int x15), M9))) else (if x2 = (3 : Int32) then xz_o (xz_gR M1 a0 7 5) fun x10 => xz_b (xz_is M1 x10 5) (xz_bI (zC d q_Te_number [.ref x10, .int a1, .int (0 : Int32)] M1) fun x11 M6 => xz_b (xz_is M6 a0 7) (xz_bI (zC d q_HR_delay [.ref a0, .int x11] M6) fun x12 M7 => some (some (.int x12), M7))) else xz_o (xz_gR M1 a0 7 5) fun x3 => xz_b (xz_is M1 x3 5) (xz_bI (zC d q_Te_number [.ref x3, .int a1, .int (0 : Int32)] M1) fun x4 M2 => xz_o (xz_gR M2 a0 7 5) fun x5 => xz_b (xz_is M2 x5 5) (xz_bI (zC d q_Te_number [.ref x5, .int a1, .int (1 : Int32)] M2) fun x6 M3 => xz_o (xz_gR M3 a0 7 5) fun x7 => xz_b (xz_is M3 x7 5) (xz_bI (zC d q_Te_number [.ref x7, .int a1, .int (2 : Int32)] M3) fun x8 M4 => xz_b (xz_is M4 a0 7) (xz_bI (zC d q_HR_ask [.ref a0, .int x4, .int x6, .int x8] M4) fun x9 M5 => some (some (.int x9), M5))))))))))) = some r) : zC (d + 1) q_HR_obey [.ref a0, .int a1] M = some r := xz_Run_of h
theorem b_HR_odds (d : Nat) (a0 : Nat) (a1 : Int32) (M : xz_M) (r : Option Value × xz_M) (h : (xz_o (xz_gR M a0 7 0) fun x1 => xz_o (xz_gR M x1 3 5) fun x2 => xz_b (xz_is M x2 0) (xz_bI (zC d q_Me_left [.ref x2] M) fun x3 M1 => xz_bI (zC d q_HR_isPart [.int a1] M1) fun x4 M2 => (if x4 = 0 then some (some (.long (-9223372036854775808 : Int64)), M2) else (if x3 = 0 then some (some (.long (-9223372036854775808 : Int64)), M2) else zL d q_HR_odds 17 [(0, .ref a0), (1, .int a1), (2, .int x3), (3, .int (0 : Int32)), (4, .int (0 : Int32))] M2)))) = some r) : zC (d + 1) q_HR_odds [.ref a0, .int a1] M = some r := xz_Run_of h
theorem b_HR_odds_l17 (d : Nat) (a0 : Nat) (a1 : Int32) (a2 : Int32) (a3 : Int32) (a4 : Int32) (M : xz_M) (r : Option Value × xz_M) (h : (xz_o (xz_gR M a0 7 0) fun x1 => xz_o (xz_gR M x1 3 5) fun x2 => xz_o (xz_gI M x2 0 0) fun x3 => (if x3 ≤ a4 then xz_bJ (zC d q_HR_lowest [.long (Int32.toInt64 a3), .long (Int32.toInt64 a2), .int a1] M) fun x4 M1 => some (some (.long x4), M1) else xz_o (xz_gR M a0 7 0) fun x5 => xz_o (xz_gR M x5 3 5) fun x6 => xz_b (xz_is M x6 0) (xz_bI (zC d q_Me_isThere [.ref x6, .int a4] M) fun x7 M2 => (if x7 = 0 then zL d q_HR_odds 17 [(0, .ref a0), (1, .int a1), (2, .int a2), (3, .int a3), (4, .int (a4 + (1 : Int32)))] M2 else xz_o (xz_gR M2 a0 7 3) fun x8 => xz_o (xz_gR M2 a0 7 0) fun x9 => xz_o (xz_gR M2 a0 7 0) fun x10 => xz_o (xz_gI M2 x10 3 4) fun x11 => xz_b (xz_is M2 x8 1) (xz_bV (zC d q_Re_fillWithout [.ref x8, .ref x9, .int x11, .int (0 : Int32), .int a4] M2) fun M3 => xz_o (xz_gR M3 a0 7 3) fun x12 => xz_o (xz_gR M3 a0 7 0) fun x13 => xz_o (xz_gI M3 x13 3 3) fun x14 => xz_b (xz_is M3 x12 1) (xz_bI (zC d q_Re_of [.ref x12, .int x14] M3) fun x15 M4 => (if x15 < 0 then zL d q_HR_odds 17 [(0, .ref a0), (1, .int a1), (2, .int a2), (3, .int (a3 + (0 : Int32))), (4, .int (a4 + (1 : Int32)))] M4 else zL d q_HR_odds 17 [(0, .ref a0), (1, .int a1), (2, .int a2), (3, .int (a3 + (1 : Int32))), (4, .int (a4 + (1 : Int32)))] M4))))))) = some r) : zL d q_HR_odds 17 [(0, .ref a0), (1, .int a1), (2, .int a2), (3, .int a3), (4, .int a4)] M = some r := xz_Run_of h
theorem b_HR_peek (d : Nat) (a0 : Nat) (a1 : Int32) (a2 : Int32) (M : xz_M) (r : Option Value × xz_M) (h : (xz_o (xz_gR M a0 7 6) fun x1 => xz_b (xz_is M x1 4) (xz_bI (zC d q_Ta_hasPlace [.ref x1, .int a1, .int a2] M) fun x2 M1 => (if x2 = 0 then some (some (.long (-9223372036854775808 : Int64)), M1) else xz_o (xz_gR M1 a0 7 6) fun x3 => xz_o (xz_gR M1 x3 4 2) fun x4 => xz_o (xz_lR0 M1 x4 a1) fun x5 => xz_o (xz_lJ0 M1 x5 a2) fun x6 => some (some (.long x6), M1)))) = some r) : zC (d + 1) q_HR_peek [.ref a0, .int a1, .int a2] M = some r := xz_Run_of h
theorem b_HR_people (d : Nat) (a0 : Nat) (a1 : Int32) (M : xz_M) (r : Option Value × xz_M) (h : ((if a1 < (2 : Int32) then some (some (.int (-2 : Int32)), M) else (if a1 ≤ (6 : Int32) then xz_o (xz_gR M a0 7 0) fun x1 => xz_o (xz_gI M x1 3 0) fun x2 => xz_o (xz_gR M a0 7 0) fun x3 => xz_b (xz_is M x3 3) (xz_bV (zC d q_Se_startAnew [.ref x3, .int a1] M) fun M1 => some (some (.int x2), M1)) else some (some (.int (-2 : Int32)), M)))) = some r) : zC (d + 1) q_HR_people [.ref a0, .int a1] M = some r := xz_Run_of h
theorem b_HR_points (d : Nat) (a0 : Nat) (M : xz_M) (r : Option Value × xz_M) (h : (zL d q_HR_points 5 [(0, .ref a0), (1, .int (0 : Int32)), (2, .int (0 : Int32))] M) = some r) : zC (d + 1) q_HR_points [.ref a0] M = some r := xz_Run_of h
theorem b_HR_points_l5 (d : Nat) (a0 : Nat) (a1 : Int32) (a2 : Int32) (M : xz_M) (r : Option Value × xz_M) (h : (xz_o (xz_gR M a0 7 0) fun x1 => xz_o (xz_gI M x1 3 0) fun x2 => (if x2 ≤ a2 then some (some (.int a1), M) else xz_b (xz_is M a0 7) (xz_bI (zC d q_HR_mayCut [.ref a0, .int ((1 : Int32) <<< (a2 &&& 31))] M) fun x3 M1 => (if x3 = 0 then zL d q_HR_points 5 [(0, .ref a0), (1, .int a1), (2, .int (a2 + (1 : Int32)))] M1 else xz_b (xz_is M1 a0 7) (xz_bI (zC d q_HR_cutsAll [.ref a0, .int ((1 : Int32) <<< (a2 &&& 31))] M1) fun x4 M2 => (if x4 = 0 then zL d q_HR_points 5 [(0, .ref a0), (1, .int a1), (2, .int (a2 + (1 : Int32)))] M2 else zL d q_HR_points 5 [(0, .ref a0), (1, .int (a1 ||| ((1 : Int32) <<< (a2 &&& 31)))), (2, .int (a2 + (1 : Int32)))] M2)))))) = some r) : zL d q_HR_points 5 [(0, .ref a0), (1, .int a1), (2, .int a2)] M = some r := xz_Run_of h
theorem b_HR_rank (d : Nat) (a0 : Nat) (a1 : Int32) (M : xz_M) (r : Option Value × xz_M) (h : ((if 0 ≤ a1 then xz_o (xz_gR M a0 7 3) fun x1 => xz_o (xz_gR M a0 7 0) fun x2 => xz_o (xz_gR M a0 7 0) fun x3 => xz_o (xz_gI M x3 3 4) fun x4 => xz_b (xz_is M x1 1) (xz_bV (zC d q_Re_fill [.ref x1, .ref x2, .int x4] M) fun M1 => zL d q_HR_rank 15 [(0, .ref a0), (1, .int a1), (2, .int (0 : Int32))] M1) else some (some (.int (-1 : Int32)), M))) = some r) : zC (d + 1) q_HR_rank [.ref a0, .int a1] M = some r := xz_Run_of h
theorem b_HR_rank_l15 (d : Nat) (a0 : Nat) (a1 : Int32) (a2 : Int32) (M : xz_M) (r : Option Value × xz_M) (h : (xz_o (xz_gR M a0 7 0) fun x1 => xz_o (xz_gI M x1 3 0) fun x2 => (if x2 ≤ a2 then some (some (.int (-5 : Int32)), M) else xz_o (xz_gR M a0 7 3) fun x3 => xz_b (xz_is M x3 1) (xz_bI (zC d q_Re_of [.ref x3, .int a2] M) fun x4 M1 => (if x4 < 0 then zL d q_HR_rank 15 [(0, .ref a0), (1, .int a1), (2, .int (a2 + (1 : Int32)))] M1 else xz_o (xz_gR M1 a0 7 3) fun x5 => xz_b (xz_is M1 x5 1) (xz_bI (zC d q_Re_howManyAhead [.ref x5, .int a2] M1) fun x6 M2 => (if x6 = a1 then some (some (.int a2), M2) else zL d q_HR_rank 15 [(0, .ref a0), (1, .int a1), (2, .int (a2 + (1 : Int32)))] M2)))))) = some r) : zL d q_HR_rank 15 [(0, .ref a0), (1, .int a1), (2, .int a2)] M = some r := xz_Run_of h
theorem b_HR_reach (d : Nat) (a0 : Nat) (a1 : Int32) (M : xz_M) (r : Option Value × xz_M) (h : (xz_o (xz_gR M a0 7 0) fun x1 => xz_b (xz_is M x1 3) (xz_bI (zC d q_Se_isPerson [.ref x1, .int a1] M) fun x2 M1 => (if x2 = 0 then some (some (.int (-1 : Int32)), M1) else xz_o (xz_gR M1 a0 7 3) fun x3 => xz_o (xz_gR M1 a0 7 0) fun x4 => xz_o (xz_gR M1 a0 7 0) fun x5 => xz_o (xz_gI M1 x5 3 4) fun x6 => xz_b (xz_is M1 x3 1) (xz_bV (zC d q_Re_fill [.ref x3, .ref x4, .int x6] M1) fun M2 => xz_o (xz_gR M2 a0 7 3) fun x7 => xz_b (xz_is M2 x7 1) (xz_bI (zC d q_Re_of [.ref x7, .int a1] M2) fun x8 M3 => some (some (.int x8), M3)))))) = some r) : zC (d + 1) q_HR_reach [.ref a0, .int a1] M = some r := xz_Run_of h
theorem b_HR_reached (d : Nat) (a0 : Nat) (M : xz_M) (r : Option Value × xz_M) (h : (xz_o (xz_gR M a0 7 3) fun x1 => xz_o (xz_gR M a0 7 0) fun x2 => xz_o (xz_gR M a0 7 0) fun x3 => xz_o (xz_gI M x3 3 4) fun x4 => xz_b (xz_is M x1 1) (xz_bV (zC d q_Re_fill [.ref x1, .ref x2, .int x4] M) fun M1 => zL d q_HR_reached 13 [(0, .ref a0), (1, .int (0 : Int32)), (2, .int (0 : Int32))] M1)) = some r) : zC (d + 1) q_HR_reached [.ref a0] M = some r := xz_Run_of h
theorem b_HR_reached_l13 (d : Nat) (a0 : Nat) (a1 : Int32) (a2 : Int32) (M : xz_M) (r : Option Value × xz_M) (h : (xz_o (xz_gR M a0 7 0) fun x1 => xz_o (xz_gI M x1 3 0) fun x2 => (if x2 ≤ a2 then some (some (.int a1), M) else xz_o (xz_gR M a0 7 3) fun x3 => xz_b (xz_is M x3 1) (xz_bI (zC d q_Re_of [.ref x3, .int a2] M) fun x4 M1 => (if x4 < 0 then zL d q_HR_reached 13 [(0, .ref a0), (1, .int a1), (2, .int (a2 + (1 : Int32)))] M1 else zL d q_HR_reached 13 [(0, .ref a0), (1, .int (a1 ||| ((1 : Int32) <<< (a2 &&& 31)))), (2, .int (a2 + (1 : Int32)))] M1)))) = some r) : zL d q_HR_reached 13 [(0, .ref a0), (1, .int a1), (2, .int a2)] M = some r := xz_Run_of h
theorem b_HR_read (d : Nat) (a0 : Nat) (M : xz_M) (r : Option Value × xz_M) (h : (xz_o (xz_gR M a0 7 5) fun x1 => xz_b (xz_is M x1 5) (xz_bI (zC d q_Te_parse [.ref x1] M) fun x2 M1 => xz_o (xz_gR M1 a0 7 5) fun x3 => xz_b (xz_is M1 x3 5) (xz_bV (zC d q_Te_empty [.ref x3] M1) fun M2 => (if x2 = (-1 : Int32) then zL d q_HR_read 19 [(0, .ref a0), (2, .int (0 : Int32)), (3, .int (0 : Int32))] M2 else some (some (.int ((-10 : Int32) - x2)), M2))))) = some r) : zC (d + 1) q_HR_read [.ref a0] M = some r := xz_Run_of h
theorem b_HR_read_l19 (d : Nat) (a0 : Nat) (a2 : Int32) (a3 : Int32) (M : xz_M) (r : Option Value × xz_M) (h : (xz_o (xz_gR M a0 7 5) fun x1 => xz_o (xz_gI M x1 5 1) fun x2 => (if x2 ≤ a3 then some (some (.int a2), M) else xz_b (xz_is M a0 7) (xz_bI (zC d q_HR_obey [.ref a0, .int a3] M) fun x3 M1 => (if x3 < 0 then zL d q_HR_read 19 [(0, .ref a0), (2, .int a2), (3, .int (a3 + (1 : Int32)))] M1 else zL d q_HR_read 19 [(0, .ref a0), (2, .int (a2 + (1 : Int32))), (3, .int (a3 + (1 : Int32)))] M1)))) = some r) : zL d q_HR_read 19 [(0, .ref a0), (2, .int a2), (3, .int a3)] M = some r := xz_Run_of h
theorem b_HR_refusalOf (d : Nat) (a0 : Nat) (a1 : Int32) (a2 : Int32) (M : xz_M) (r : Option Value × xz_M) (h : (xz_o (xz_gR M a0 7 0) fun x1 => xz_b (xz_is M x1 3) (xz_bI (zC d q_Se_isPerson [.ref x1, .int a1] M) fun x2 M1 => (if x2 = 0 then some (some (.int (-1 : Int32)), M1) else xz_bI (zC d q_HR_isTime [.int a2] M1) fun x3 M2 => (if x3 = 0 then some (some (.int (-2 : Int32)), M2) else some (some (.int (0 : Int32)), M2))))) = some r) : zC (d + 1) q_HR_refusalOf [.ref a0, .int a1, .int a2] M = some r := xz_Run_of h
set_option maxRecDepth 100000 in
theorem b_HR_renew (d : Nat) (a0 : Nat) (a1 : Int32) (a2 : Int32) (a3 : Int32) (M : xz_M) (r : Option Value × xz_M) (h : ((if a2 = 0 then xz_o (xz_gR M a0 7 0) fun x1 => xz_o (xz_gR M x1 3 5) fun x2 => xz_b (xz_is M x2 0) (xz_bI (zC d q_Me_refusal [.ref x2, .int a1] M) fun x3 M1 => (if x3 = 0 then (if a2 = 0 then xz_bI (zC d q_HR_isTime [.int a3] M1) fun x8 M4 => (if x8 = 0 then some (some (.int (-2 : Int32)), M4) else xz_o (xz_gR M4 a0 7 0) fun x9 => xz_o (xz_gR M4 x9 3 5) fun x10 => xz_b (xz_is M4 x10 0) (xz_bI (zC d q_Me_change [.ref x10, .int a1, .int a2, .int a3] M4) fun x11 M5 => some (some (.int x11), M5))) else xz_bI (zC d q_HR_isSure [.int a3] M1) fun x4 M2 => (if x4 = 0 then some (some (.int (-2 : Int32)), M2) else xz_o (xz_gR M2 a0 7 0) fun x5 => xz_o (xz_gR M2 x5 3 5) fun x6 => xz_b (xz_is M2 x6 0) (xz_bI (zC d q_Me_change [.ref x6, .int a1, .int a2, .int a3] M2) fun x7 M3 => some (some (.int x7), M3)))) else some (some (.int x3), M1))) else (if a2 = (1 : Int32) then xz_o (xz_gR M a0 7 0) fun x12 => xz_o (xz_gR M x12 3 5) fun x13 => xz_b (xz_is M x13 0) (xz_bI (zC d q_Me_refusal [.ref x13, .int a1] M) fun x14 M6 => (if x14 = 0 then (if a2 = 0 then xz_bI (zC d q_HR_isTime [.int a3] M6) fun x19 M9 => (if x19 = 0 then some (some (.int (-2 : Int32)), M9) else xz_o (xz_gR M9 a0 7 0) fun x20 => xz_o (xz_gR M9 x20 3 5) fun x21 => xz_b (xz_is M9 x21 0) (xz_bI (zC d q_Me_change [.ref x21, .int a1, .int a2, .int a3] M9) fun x22 M10 => some (some (.int x22), M10))) else xz_bI (zC d q_HR_isSure [.int a3] M6) fun x15 M7 => (if x15 = 0 then some (some (.int (-2 : Int32)), M7) else xz_o (xz_gR M7 a0 7 0) fun x16 => xz_o (xz_gR M7 x16 3 5) fun x17 => xz_b (xz_is M7 x17 0) (xz_bI (zC d q_Me_change [.ref x17, .int a1, .int a2, .int a3] M7) fun x18 M8 => some (some (.int x18), M8)))) else some (some (.int x14), M6))) else some (some (.int (-1 : Int32)), M)))) = some r) : zC (d + 1) q_HR_renew [.ref a0, .int a1, .int a2, .int a3] M = some r := xz_Run_of h
theorem b_HR_see (d : Nat) (a0 : Nat) (a1 : Int32) (a2 : Int32) (a3 : Int32) (M : xz_M) (r : Option Value × xz_M) (h : ((if a1 = (-1 : Int32) then xz_o (xz_gR M a0 7 0) fun x6 => xz_o (xz_gR M x6 3 6) fun x7 => xz_b (xz_is M x7 2) (xz_bI (zC d q_Ro_clear [.ref x7] M) fun x8 M4 => some (some (.int x8), M4)) else xz_b (xz_is M a0 7) (xz_bI (zC d q_HR_refusalOf [.ref a0, .int a1, .int a2] M) fun x1 M1 => (if x1 = 0 then xz_o (xz_gR M1 a0 7 0) fun x2 => xz_o (xz_gR M1 x2 3 6) fun x3 => (if a3 = 0 then xz_b (xz_is M1 x3 2) (xz_bI (zC d q_Ro_add [.ref x3, .int a1, .int a2, .int (0 : Int32)] M1) fun x4 M2 => some (some (.int x4), M2)) else xz_b (xz_is M1 x3 2) (xz_bI (zC d q_Ro_add [.ref x3, .int a1, .int a2, .int (1 : Int32)] M1) fun x5 M3 => some (some (.int x5), M3))) else some (some (.int x1), M1))))) = some r) : zC (d + 1) q_HR_see [.ref a0, .int a1, .int a2, .int a3] M = some r := xz_Run_of h
set_option maxRecDepth 100000 in
theorem b_HR_shift (d : Nat) (a0 : Nat) (a1 : Int32) (a2 : Int32) (a3 : Int32) (a4 : Int32) (a5 : Int32) (M : xz_M) (r : Option Value × xz_M) (h : (xz_o (xz_gR M a0 7 6) fun x1 => xz_b (xz_is M x1 4) (xz_bI (zC d q_Ta_isTape [.ref x1, .int a1] M) fun x2 M1 => (if x2 = 0 then some (some (.int (-1 : Int32)), M1) else xz_o (xz_gR M1 a0 7 6) fun x3 => xz_b (xz_is M1 x3 4) (xz_bI (zC d q_Ta_isTape [.ref x3, .int a3] M1) fun x4 M2 => (if x4 = 0 then some (some (.int (-1 : Int32)), M2) else xz_o (xz_gR M2 a0 7 6) fun x5 => xz_b (xz_is M2 x5 4) (xz_bI (zC d q_Ta_holds [.ref x5, .int a1] M2) fun x6 M3 => (if x6 = 0 then some (some (.int (-11 : Int32)), M3) else xz_o (xz_gR M3 a0 7 6) fun x7 => xz_b (xz_is M3 x7 4) (xz_bI (zC d q_Ta_holds [.ref x7, .int a3] M3) fun x8 M4 => (if x8 = 0 then some (some (.int (-11 : Int32)), M4) else xz_o (xz_gR M4 a0 7 6) fun x9 => xz_o (xz_gR M4 x9 4 0) fun x10 => xz_o (xz_lI0 M4 0 x10 a1) fun x11 => xz_o (xz_gR M4 a0 7 6) fun x12 => xz_o (xz_gR M4 x12 4 0) fun x13 => xz_o (xz_lI0 M4 0 x13 a3) fun x14 => (if x11 = x14 then xz_o (xz_gR M4 a0 7 6) fun x15 => xz_b (xz_is M4 x15 4) (xz_bI (zC d q_Ta_hasRun [.ref x15, .int a1, .int a2, .int a5] M4) fun x16 M5 => (if x16 = 0 then some (some (.int (-13 : Int32)), M5) else xz_o (xz_gR M5 a0 7 6) fun x17 => xz_b (xz_is M5 x17 4) (xz_bI (zC d q_Ta_hasRun [.ref x17, .int a3, .int a4, .int a5] M5) fun x18 M6 => (if x18 = 0 then some (some (.int (-13 : Int32)), M6) else xz_o (xz_gR M6 a0 7 6) fun x19 => xz_o (xz_gR M6 x19 4 2) fun x20 => xz_o (xz_lR0 M6 x20 a1) fun x21 => xz_o (xz_gR M6 a0 7 6) fun x22 => xz_o (xz_gR M6 x22 4 2) fun x23 => xz_o (xz_lR0 M6 x23 a3) fun x24 => xz_o (xz_copy M6 x21 a2 x24 a4 a5) fun M7 => some (some (.int a5), M7))))) else some (some (.int (-12 : Int32)), M4))))))))))) = some r) : zC (d + 1) q_HR_shift [.ref a0, .int a1, .int a2, .int a3, .int a4, .int a5] M = some r := xz_Run_of h
theorem b_HR_sureness (d : Nat) (a0 : Nat) (a1 : Int32) (a2 : Int32) (M : xz_M) (r : Option Value × xz_M) (h : (xz_bI (zC d q_HR_isRule [.int a1] M) fun x1 M1 => (if x1 = 0 then some (some (.long (-9223372036854775808 : Int64)), M1) else xz_bI (zC d q_HR_isPart [.int a2] M1) fun x2 M2 => (if x2 = 0 then some (some (.long (-9223372036854775808 : Int64)), M2) else xz_o (xz_gR M2 a0 7 4) fun x3 => xz_o (xz_gR M2 a0 7 0) fun x4 => xz_b (xz_is M2 x3 6) (xz_bV (zC d q_Wa_search [.ref x3, .ref x4, .int a1] M2) fun M3 => xz_o (xz_gR M3 a0 7 4) fun x5 => xz_o (xz_gI M3 x5 6 2) fun x6 => (if 0 ≤ x6 then xz_o (xz_gR M3 a0 7 4) fun x7 => xz_o (xz_gJ M3 x7 6 4) fun x8 => xz_bJ (zC d q_HR_lowest [.long x8, .long (10000000000 : Int64), .int a2] M3) fun x9 M4 => some (some (.long x9), M4) else some (some (.long (-9223372036854775808 : Int64)), M3)))))) = some r) : zC (d + 1) q_HR_sureness [.ref a0, .int a1, .int a2] M = some r := xz_Run_of h
theorem b_HR_tape (d : Nat) (a0 : Nat) (a1 : Int32) (a2 : Int32) (a3 : Int32) (M : xz_M) (r : Option Value × xz_M) (h : (xz_o (xz_gR M a0 7 6) fun x1 => xz_b (xz_is M x1 4) (xz_bI (zC d q_Ta_isTape [.ref x1, .int a1] M) fun x2 M1 => (if x2 = 0 then some (some (.int (-1 : Int32)), M1) else (if a2 = (-1 : Int32) then xz_o (xz_gR M1 a0 7 6) fun x5 => xz_b (xz_is M1 x5 4) (xz_bI (zC d q_Ta_become [.ref x5, .int a1, .int a2, .int (0 : Int32)] M1) fun x6 M3 => some (some (.int x6), M3)) else (if a2 < 0 then some (some (.int (-2 : Int32)), M1) else (if (4 : Int32) < a2 then some (some (.int (-2 : Int32)), M1) else (if a3 ≤ (60 : Int32) then (if 0 ≤ a3 then xz_o (xz_gR M1 a0 7 6) fun x3 => xz_b (xz_is M1 x3 4) (xz_bI (zC d q_Ta_become [.ref x3, .int a1, .int a2, .int a3] M1) fun x4 M2 => some (some (.int x4), M2)) else some (some (.int (-14 : Int32)), M1)) else some (some (.int (-2 : Int32)), M1)))))))) = some r) : zC (d + 1) q_HR_tape [.ref a0, .int a1, .int a2, .int a3] M = some r := xz_Run_of h
theorem b_HR_told (d : Nat) (a0 : Nat) (a1 : Int32) (M : xz_M) (r : Option Value × xz_M) (h : ((if a1 = (0 : Int32) then xz_o (xz_gR M a0 7 0) fun x23 => xz_o (xz_gI M x23 3 0) fun x24 => some (some (.int x24), M) else (if a1 = (1 : Int32) then xz_o (xz_gR M a0 7 0) fun x20 => xz_o (xz_gR M x20 3 5) fun x21 => xz_b (xz_is M x21 0) (xz_bI (zC d q_Me_left [.ref x21] M) fun x22 M6 => some (some (.int x22), M6)) else (if a1 = (2 : Int32) then xz_o (xz_gR M a0 7 0) fun x18 => xz_o (xz_gI M x18 3 1) fun x19 => some (some (.int x19), M) else (if a1 = (3 : Int32) then xz_o (xz_gR M a0 7 0) fun x16 => xz_o (xz_gI M x16 3 2) fun x17 => some (some (.int x17), M) else (if a1 = (4 : Int32) then xz_o (xz_gR M a0 7 0) fun x14 => xz_o (xz_gI M x14 3 3) fun x15 => some (some (.int x15), M) else (if a1 = (5 : Int32) then xz_o (xz_gR M a0 7 0) fun x12 => xz_o (xz_gI M x12 3 4) fun x13 => some (some (.int x13), M) else (if a1 = (6 : Int32) then xz_o (xz_gR M a0 7 4) fun x8 => xz_o (xz_gR M a0 7 0) fun x9 => xz_b (xz_is M x8 6) (xz_bV (zC d q_Wa_search [.ref x8, .ref x9, .int (0 : Int32)] M) fun M5 => xz_o (xz_gR M5 a0 7 4) fun x10 => xz_o (xz_gI M5 x10 6 1) fun x11 => some (some (.int x11), M5)) else (if a1 = (7 : Int32) then xz_b (xz_is M a0 7) (xz_bI (zC d q_HR_latest [.ref a0] M) fun x7 M4 => some (some (.int x7), M4)) else (if a1 = (8 : Int32) then xz_b (xz_is M a0 7) (xz_bI (zC d q_HR_points [.ref a0] M) fun x6 M3 => some (some (.int x6), M3)) else (if a1 = (9 : Int32) then xz_b (xz_is M a0 7) (xz_bI (zC d q_HR_leastCut [.ref a0] M) fun x5 M2 => some (some (.int x5), M2)) else (if a1 = (10 : Int32) then xz_b (xz_is M a0 7) (xz_bI (zC d q_HR_reached [.ref a0] M) fun x4 M1 => some (some (.int x4), M1)) else (if a1 = (11 : Int32) then xz_o (xz_gR M a0 7 0) fun x1 => xz_o (xz_gR M x1 3 5) fun x2 => xz_o (xz_gI M x2 0 0) fun x3 => some (some (.int x3), M) else some (some (.int (-1 : Int32)), M)))))))))))))) = some r) : zC (d + 1) q_HR_told [.ref a0, .int a1] M = some r := xz_Run_of h
theorem b_HR_undo (d : Nat) (a0 : Nat) (M : xz_M) (r : Option Value × xz_M) (h : (xz_o (xz_gI M a0 7 7) fun x1 => (if x1 = 0 then some (some (.int (-3 : Int32)), M) else xz_o (xz_gR M a0 7 0) fun x2 => xz_o (xz_gR M a0 7 1) fun x3 => xz_b (xz_is M x2 3) (xz_bV (zC d q_Se_become [.ref x2, .ref x3] M) fun M1 => xz_o (xz_gR M1 a0 7 0) fun x4 => xz_o (xz_gR M1 x4 3 5) fun x5 => xz_b (xz_is M1 x5 0) (xz_bI (zC d q_Me_left [.ref x5] M1) fun x6 M2 => some (some (.int x6), M2))))) = some r) : zC (d + 1) q_HR_undo [.ref a0] M = some r := xz_Run_of h
theorem b_HR_way (d : Nat) (a0 : Nat) (a1 : Int32) (a2 : Int32) (M : xz_M) (r : Option Value × xz_M) (h : (xz_bI (zC d q_HR_isRule [.int a1] M) fun x1 M1 => (if x1 = 0 then some (some (.int (-2 : Int32)), M1) else xz_o (xz_gR M1 a0 7 4) fun x2 => xz_o (xz_gR M1 a0 7 0) fun x3 => xz_b (xz_is M1 x2 6) (xz_bV (zC d q_Wa_search [.ref x2, .ref x3, .int a1] M1) fun M2 => xz_o (xz_gR M2 a0 7 4) fun x4 => xz_o (xz_gI M2 x4 6 2) fun x5 => (if 0 ≤ x5 then (if a2 = (-1 : Int32) then xz_o (xz_gR M2 a0 7 4) fun x13 => xz_o (xz_gI M2 x13 6 2) fun x14 => some (some (.int x14), M2) else (if a2 = (-2 : Int32) then xz_o (xz_gR M2 a0 7 4) fun x11 => xz_o (xz_gI M2 x11 6 3) fun x12 => some (some (.int x12), M2) else (if a2 < 0 then some (some (.int (-1 : Int32)), M2) else xz_o (xz_gR M2 a0 7 4) fun x6 => xz_o (xz_gI M2 x6 6 2) fun x7 => (if a2 < x7 then xz_o (xz_gR M2 a0 7 4) fun x8 => xz_o (xz_gR M2 x8 6 5) fun x9 => xz_o (xz_lI0 M2 0 x9 a2) fun x10 => some (some (.int x10), M2) else some (some (.int (-1 : Int32)), M2))))) else some (some (.int (-5 : Int32)), M2))))) = some r) : zC (d + 1) q_HR_way [.ref a0, .int a1, .int a2] M = some r := xz_Run_of h
theorem b_Mo_after (d : Nat) (a0 : Nat) (a1 : Int32) (M : xz_M) (r : Option Value × xz_M) (h : (xz_bI (zC d q_Mo_in [.long (Int32.toInt64 a1), .long (0 : Int64), .long (2 : Int64)] M) fun x1 M1 => (if x1 = 0 then some (some (.int (-1 : Int32)), M1) else xz_o (xz_gI M1 a0 8 7) fun x2 => xz_o (xz_gI M1 a0 8 10) fun x3 => xz_o (xz_gR M1 a0 8 2) fun x4 => xz_o (xz_gR M1 a0 8 41) fun x5 => xz_o (xz_copy M1 x4 (0 : Int32) x5 (0 : Int32) (14 : Int32)) fun M2 => zL d q_Mo_after 25 [(0, .ref a0), (1, .int a1), (2, .int x2), (3, .int x3), (4, .int (0 : Int32))] M2)) = some r) : zC (d + 1) q_Mo_after [.ref a0, .int a1] M = some r := xz_Run_of h
set_option maxRecDepth 100000 in
theorem b_Mo_after_l25 (d : Nat) (a0 : Nat) (a1 : Int32) (a2 : Int32) (a3 : Int32) (a4 : Int32) (M : xz_M) (r : Option Value × xz_M) (h : (xz_o (xz_gI M a0 8 12) fun x1 => (if x1 ≤ a4 then (if a1 = 0 then xz_o (xz_gI M a0 8 9) fun x8 => xz_b (xz_is M a0 8) (xz_bI (zC d q_Mo_reachOf [.ref a0, .int x8] M) fun x9 M9 => xz_o (xz_gR M9 a0 8 41) fun x10 => xz_o (xz_gR M9 a0 8 2) fun x11 => xz_o (xz_copy M9 x10 (0 : Int32) x11 (0 : Int32) (14 : Int32)) fun M10 => xz_o (xz_wI M10 a0 8 7 a2) fun M11 => xz_o (xz_wI M11 a0 8 10 a3) fun M12 => some (some (.int x9), M12)) else (if a1 = (1 : Int32) then xz_b (xz_is M a0 8) (xz_bI (zC d q_Mo_way [.ref a0, .int (1 : Int32), .int (-1 : Int32)] M) fun x5 M5 => xz_o (xz_gR M5 a0 8 41) fun x6 => xz_o (xz_gR M5 a0 8 2) fun x7 => xz_o (xz_copy M5 x6 (0 : Int32) x7 (0 : Int32) (14 : Int32)) fun M6 => xz_o (xz_wI M6 a0 8 7 a2) fun M7 => xz_o (xz_wI M7 a0 8 10 a3) fun M8 => some (some (.int x5), M8)) else xz_b (xz_is M a0 8) (xz_bI (zC d q_Mo_ways [.ref a0] M) fun x2 M1 => xz_o (xz_gR M1 a0 8 41) fun x3 => xz_o (xz_gR M1 a0 8 2) fun x4 => xz_o (xz_copy M1 x3 (0 : Int32) x4 (0 : Int32) (14 : Int32)) fun M2 => xz_o (xz_wI M2 a0 8 7 a2) fun M3 => xz_o (xz_wI M3 a0 8 10 a3) fun M4 => some (some (.int x2), M4)))) else xz_o (xz_gR M a0 8 16) fun x12 => xz_o (xz_lI0 M 0 x12 a4) fun x13 => xz_o (xz_gR M a0 8 17) fun x14 => xz_o (xz_lI0 M 0 x14 a4) fun x15 => xz_b (xz_is M a0 8) (xz_bV (zC d q_Mo_happens [.ref a0, .int x13, .int x15] M) fun M13 => zL d q_Mo_after 25 [(0, .ref a0), (1, .int a1), (2, .int a2), (3, .int a3), (4, .int (a4 + (1 : Int32)))] M13))) = some r) : zL d q_Mo_after 25 [(0, .ref a0), (1, .int a1), (2, .int a2), (3, .int a3), (4, .int a4)] M = some r := xz_Run_of h
theorem b_Mo_agenda (d : Nat) (a0 : Nat) (a1 : Int32) (M : xz_M) (r : Option Value × xz_M) (h : ((if 0 ≤ a1 then zL d q_Mo_agenda 9 [(0, .ref a0), (2, .int a1), (3, .int (0 : Int32))] M else some (some (.int (-1 : Int32)), M))) = some r) : zC (d + 1) q_Mo_agenda [.ref a0, .int a1] M = some r := xz_Run_of h
theorem b_Mo_agenda_l9 (d : Nat) (a0 : Nat) (a2 : Int32) (a3 : Int32) (M : xz_M) (r : Option Value × xz_M) (h : ((if (99 : Int32) < a3 then some (some (.int (-5 : Int32)), M) else zL d q_Mo_agenda 15 [(0, .ref a0), (2, .int a2), (3, .int a3), (4, .int (0 : Int32))] M)) = some r) : zL d q_Mo_agenda 9 [(0, .ref a0), (2, .int a2), (3, .int a3)] M = some r := xz_Run_of h
theorem b_Mo_agenda_l15 (d : Nat) (a0 : Nat) (a2 : Int32) (a3 : Int32) (a4 : Int32) (M : xz_M) (r : Option Value × xz_M) (h : (xz_o (xz_gI M a0 8 1) fun x1 => (if x1 ≤ a4 then zL d q_Mo_agenda 9 [(0, .ref a0), (2, .int a2), (3, .int (a3 + (1 : Int32)))] M else xz_o (xz_gR M a0 8 2) fun x2 => xz_o (xz_lI0 M 1 x2 a4) fun x3 => (if x3 = 0 then zL d q_Mo_agenda 15 [(0, .ref a0), (2, .int a2), (3, .int a3), (4, .int (a4 + (1 : Int32)))] M else xz_o (xz_gR M a0 8 3) fun x4 => xz_o (xz_lI0 M 0 x4 a4) fun x5 => (if x5 = a3 then (if a2 = 0 then some (some (.int a4), M) else zL d q_Mo_agenda 15 [(0, .ref a0), (2, .int (a2 + (-1 : Int32))), (3, .int a3), (4, .int (a4 + (1 : Int32)))] M) else zL d q_Mo_agenda 15 [(0, .ref a0), (2, .int a2), (3, .int a3), (4, .int (a4 + (1 : Int32)))] M)))) = some r) : zL d q_Mo_agenda 15 [(0, .ref a0), (2, .int a2), (3, .int a3), (4, .int a4)] M = some r := xz_Run_of h
theorem b_Mo_areTwo (d : Nat) (a0 : Nat) (a1 : Int32) (a2 : Int32) (M : xz_M) (r : Option Value × xz_M) (h : (xz_b (xz_is M a0 8) (xz_bI (zC d q_Mo_isPerson [.ref a0, .int a1] M) fun x1 M1 => (if x1 = 0 then some (some (.int (0 : Int32)), M1) else xz_b (xz_is M1 a0 8) (xz_bI (zC d q_Mo_isPerson [.ref a0, .int a2] M1) fun x2 M2 => (if x2 = 0 then some (some (.int (0 : Int32)), M2) else (if a1 = a2 then some (some (.int (0 : Int32)), M2) else some (some (.int (1 : Int32)), M2))))))) = some r) : zC (d + 1) q_Mo_areTwo [.ref a0, .int a1, .int a2] M = some r := xz_Run_of h
theorem b_Mo_ask (d : Nat) (a0 : Nat) (a1 : Int32) (a2 : Int32) (a3 : Int32) (M : xz_M) (r : Option Value × xz_M) (h : (xz_b (xz_is M a0 8) (xz_bI (zC d q_Mo_isPerson [.ref a0, .int a1] M) fun x1 M1 => (if x1 = 0 then some (some (.int (-1 : Int32)), M1) else xz_b (xz_is M1 a0 8) (xz_bI (zC d q_Mo_isPerson [.ref a0, .int a2] M1) fun x2 M2 => (if x2 = 0 then some (some (.int (-1 : Int32)), M2) else xz_bI (zC d q_Mo_isTime [.int a3] M2) fun x3 M3 => (if x3 = 0 then some (some (.int (-2 : Int32)), M3) else xz_o (xz_wI M3 a0 8 8 a1) fun M4 => xz_o (xz_wI M4 a0 8 9 a2) fun M5 => xz_o (xz_wI M5 a0 8 10 a3) fun M6 => xz_b (xz_is M6 a0 8) (xz_bI (zC d q_Mo_ways [.ref a0] M6) fun x4 M7 => some (some (.int x4), M7)))))))) = some r) : zC (d + 1) q_Mo_ask [.ref a0, .int a1, .int a2, .int a3] M = some r := xz_Run_of h
theorem b_Mo_between (d : Nat) (a0 : Nat) (a1 : Int32) (a2 : Int32) (M : xz_M) (r : Option Value × xz_M) (h : (xz_b (xz_is M a0 8) (xz_bI (zC d q_Mo_areTwo [.ref a0, .int a1, .int a2] M) fun x1 M1 => (if x1 = 0 then some (some (.int (-1 : Int32)), M1) else zL d q_Mo_between 12 [(0, .ref a0), (1, .int a1), (2, .int a2), (3, .int (0 : Int32)), (4, .int (0 : Int32))] M1))) = some r) : zC (d + 1) q_Mo_between [.ref a0, .int a1, .int a2] M = some r := xz_Run_of h
theorem b_Mo_between_l12 (d : Nat) (a0 : Nat) (a1 : Int32) (a2 : Int32) (a3 : Int32) (a4 : Int32) (M : xz_M) (r : Option Value × xz_M) (h : (xz_o (xz_gI M a0 8 1) fun x1 => (if x1 ≤ a4 then some (some (.int a3), M) else xz_o (xz_gR M a0 8 2) fun x2 => xz_o (xz_lI0 M 1 x2 a4) fun x3 => (if x3 = 0 then zL d q_Mo_between 12 [(0, .ref a0), (1, .int a1), (2, .int a2), (3, .int a3), (4, .int (a4 + (1 : Int32)))] M else xz_b (xz_is M a0 8) (xz_bI (zC d q_Mo_otherBy [.ref a0, .int a4, .int a1] M) fun x4 M1 => (if x4 = a2 then zL d q_Mo_between 12 [(0, .ref a0), (1, .int a1), (2, .int a2), (3, .int (a3 ||| ((1 : Int32) <<< (a4 &&& 31)))), (4, .int (a4 + (1 : Int32)))] M1 else zL d q_Mo_between 12 [(0, .ref a0), (1, .int a1), (2, .int a2), (3, .int a3), (4, .int (a4 + (1 : Int32)))] M1))))) = some r) : zL d q_Mo_between 12 [(0, .ref a0), (1, .int a1), (2, .int a2), (3, .int a3), (4, .int a4)] M = some r := xz_Run_of h
theorem b_Mo_bits (d : Nat) (a0 : Int32) (M : xz_M) (r : Option Value × xz_M) (h : (zL d q_Mo_bits 5 [(0, .int a0), (1, .int (0 : Int32)), (2, .int (0 : Int32))] M) = some r) : zC (d + 1) q_Mo_bits [.int a0] M = some r := xz_Run_of h
theorem b_Mo_bits_l5 (d : Nat) (a0 : Int32) (a1 : Int32) (a2 : Int32) (M : xz_M) (r : Option Value × xz_M) (h : ((if (6 : Int32) ≤ a2 then some (some (.int a1), M) else zL d q_Mo_bits 5 [(0, .int a0), (1, .int (a1 + ((a0 >>> (a2 &&& 31)) &&& (1 : Int32)))), (2, .int (a2 + (1 : Int32)))] M)) = some r) : zL d q_Mo_bits 5 [(0, .int a0), (1, .int a1), (2, .int a2)] M = some r := xz_Run_of h
theorem b_Mo_book (d : Nat) (a0 : Nat) (a1 : Int32) (a2 : Int32) (M : xz_M) (r : Option Value × xz_M) (h : ((if a1 = (-1 : Int32) then xz_o (xz_wI M a0 8 13 (0 : Int32)) fun M6 => some (some (.int (0 : Int32)), M6) else xz_b (xz_is M a0 8) (xz_bI (zC d q_Mo_isPerson [.ref a0, .int a1] M) fun x1 M1 => (if x1 = 0 then some (some (.int (-1 : Int32)), M1) else xz_bI (zC d q_Mo_isTime [.int a2] M1) fun x2 M2 => (if x2 = 0 then some (some (.int (-2 : Int32)), M2) else xz_o (xz_gI M2 a0 8 13) fun x3 => (if x3 = (8 : Int32) then some (some (.int (-4 : Int32)), M2) else xz_o (xz_gR M2 a0 8 18) fun x4 => xz_o (xz_gI M2 a0 8 13) fun x5 => xz_o (xz_sI0 M2 x4 x5 a1) fun M3 => xz_o (xz_gR M3 a0 8 19) fun x6 => xz_o (xz_gI M3 a0 8 13) fun x7 => xz_o (xz_sI0 M3 x6 x7 a2) fun M4 => xz_o (xz_gI M4 a0 8 13) fun x8 => xz_o (xz_wI M4 a0 8 13 (x8 + (1 : Int32))) fun M5 => xz_o (xz_gI M5 a0 8 13) fun x9 => some (some (.int x9), M5))))))) = some r) : zC (d + 1) q_Mo_book [.ref a0, .int a1, .int a2] M = some r := xz_Run_of h
theorem b_Mo_by (d : Nat) (a0 : Nat) (a1 : Int32) (M : xz_M) (r : Option Value × xz_M) (h : (xz_bI (zC d q_Mo_in [.long (Int32.toInt64 a1), .long (0 : Int64), .long (5 : Int64)] M) fun x1 M1 => (if x1 = 0 then some (some (.int (-2 : Int32)), M1) else xz_o (xz_gI M1 a0 8 9) fun x2 => xz_b (xz_is M1 a0 8) (xz_bV (zC d q_Mo_finds [.ref a0, .int x2, .int (0 : Int32), .int a1, .int (0 : Int32), .int (0 : Int32)] M1) fun M2 => xz_o (xz_gI M2 a0 8 37) fun x3 => (if x3 = 0 then some (some (.int (-5 : Int32)), M2) else xz_o (xz_gI M2 a0 8 34) fun x4 => some (some (.int x4), M2))))) = some r) : zC (d + 1) q_Mo_by [.ref a0, .int a1] M = some r := xz_Run_of h
set_option maxRecDepth 100000 in
theorem b_Mo_clauseRead (d : Nat) (a0 : Nat) (M : xz_M) (r : Option Value × xz_M) (h : (xz_b (xz_is M a0 8) (xz_bI (zC d q_Mo_wordRead [.ref a0] M) fun x1 M1 => xz_o (xz_gI M1 a0 8 24) fun x2 => (if x2 < 0 then xz_o (xz_gI M1 a0 8 25) fun x3 => xz_o (xz_gR M1 a0 8 26) fun x4 => xz_o (xz_gI M1 a0 8 25) fun x5 => xz_o (xz_sI0 M1 x4 x5 x1) fun M2 => xz_o (xz_gR M2 a0 8 27) fun x6 => (if x1 = (1 : Int32) then xz_b (xz_is M2 a0 8) (xz_bI (zC d q_Mo_numberRead [.ref a0, .int (2 : Int32)] M2) fun x7 M3 => xz_o (xz_sI0 M3 x6 ((4 : Int32) * x3) x7) fun M4 => (if x1 = (1 : Int32) then zL d q_Mo_clauseRead 40 [(0, .ref a0), (1, .int x1), (2, .int ((4 : Int32) * x3))] M4 else (if x1 = (4 : Int32) then zL d q_Mo_clauseRead 40 [(0, .ref a0), (1, .int x1), (2, .int ((4 : Int32) * x3))] M4 else zL d q_Mo_clauseRead 64 [(0, .ref a0), (1, .int x1), (2, .int ((4 : Int32) * x3))] M4))) else (if x1 = (2 : Int32) then xz_b (xz_is M2 a0 8) (xz_bI (zC d q_Mo_numberRead [.ref a0, .int (2 : Int32)] M2) fun x9 M7 => xz_o (xz_sI0 M7 x6 ((4 : Int32) * x3) x9) fun M8 => (if x1 = (1 : Int32) then zL d q_Mo_clauseRead 40 [(0, .ref a0), (1, .int x1), (2, .int ((4 : Int32) * x3))] M8 else (if x1 = (4 : Int32) then zL d q_Mo_clauseRead 40 [(0, .ref a0), (1, .int x1), (2, .int ((4 : Int32) * x3))] M8 else zL d q_Mo_clauseRead 64 [(0, .ref a0), (1, .int x1), (2, .int ((4 : Int32) * x3))] M8))) else xz_b (xz_is M2 a0 8) (xz_bI (zC d q_Mo_numberRead [.ref a0, .int (1 : Int32)] M2) fun x8 M5 => xz_o (xz_sI0 M5 x6 ((4 : Int32) * x3) x8) fun M6 => (if x1 = (1 : Int32) then zL d q_Mo_clauseRead 40 [(0, .ref a0), (1, .int x1), (2, .int ((4 : Int32) * x3))] M6 else (if x1 = (4 : Int32) then zL d q_Mo_clauseRead 40 [(0, .ref a0), (1, .int x1), (2, .int ((4 : Int32) * x3))] M6 else zL d q_Mo_clauseRead 64 [(0, .ref a0), (1, .int x1), (2, .int ((4 : Int32) * x3))] M6))))) else some (none, M1)))) = some r) : zC (d + 1) q_Mo_clauseRead [.ref a0] M = some r := xz_Run_of h
theorem b_Mo_clauseRead_l40 (d : Nat) (a0 : Nat) (a1 : Int32) (a2 : Int32) (M : xz_M) (r : Option Value × xz_M) (h : (xz_o (xz_gR M a0 8 27) fun x1 => xz_b (xz_is M a0 8) (xz_bI (zC d q_Mo_numberRead [.ref a0, .int (1 : Int32)] M) fun x2 M1 => xz_o (xz_sI0 M1 x1 (a2 + (1 : Int32)) x2) fun M2 => xz_o (xz_gR M2 a0 8 27) fun x3 => (if a1 = (1 : Int32) then xz_b (xz_is M2 a0 8) (xz_bI (zC d q_Mo_numberRead [.ref a0, .int (1 : Int32)] M2) fun x5 M5 => xz_o (xz_sI0 M5 x3 (a2 + (2 : Int32)) x5) fun M6 => zL d q_Mo_clauseRead 64 [(0, .ref a0), (1, .int a1), (2, .int a2)] M6) else xz_b (xz_is M2 a0 8) (xz_bI (zC d q_Mo_numberRead [.ref a0, .int (2 : Int32)] M2) fun x4 M3 => xz_o (xz_sI0 M3 x3 (a2 + (2 : Int32)) x4) fun M4 => zL d q_Mo_clauseRead 64 [(0, .ref a0), (1, .int a1), (2, .int a2)] M4)))) = some r) : zL d q_Mo_clauseRead 40 [(0, .ref a0), (1, .int a1), (2, .int a2)] M = some r := xz_Run_of h
theorem b_Mo_clauseRead_l64 (d : Nat) (a0 : Nat) (a1 : Int32) (a2 : Int32) (M : xz_M) (r : Option Value × xz_M) (h : ((if a1 = (1 : Int32) then xz_o (xz_gR M a0 8 27) fun x1 => xz_b (xz_is M a0 8) (xz_bI (zC d q_Mo_numberRead [.ref a0, .int (3 : Int32)] M) fun x2 M1 => xz_o (xz_sI0 M1 x1 (a2 + (3 : Int32)) x2) fun M2 => zL d q_Mo_clauseRead 77 [(0, .ref a0)] M2) else zL d q_Mo_clauseRead 77 [(0, .ref a0)] M)) = some r) : zL d q_Mo_clauseRead 64 [(0, .ref a0), (1, .int a1), (2, .int a2)] M = some r := xz_Run_of h
theorem b_Mo_clauseRead_l77 (d : Nat) (a0 : Nat) (M : xz_M) (r : Option Value × xz_M) (h : (xz_o (xz_gI M a0 8 24) fun x1 => (if 0 ≤ x1 then zL d q_Mo_clauseRead 87 [] M else xz_o (xz_gI M a0 8 25) fun x2 => xz_o (xz_wI M a0 8 25 (x2 + (1 : Int32))) fun M1 => zL d q_Mo_clauseRead 87 [] M1)) = some r) : zL d q_Mo_clauseRead 77 [(0, .ref a0)] M = some r := xz_Run_of h
theorem b_Mo_clauseRead_l87 (d : Nat)  (M : xz_M) (r : Option Value × xz_M) (h : (some (none, M)) = some r) : zL d q_Mo_clauseRead 87 [] M = some r := xz_Run_of h
set_option maxRecDepth 100000 in
theorem b_Mo_comes (d : Nat) (a0 : Nat) (a1 : Int32) (M : xz_M) (r : Option Value × xz_M) (h : (xz_o (xz_gI M a0 8 32) fun x1 => xz_o (xz_wI M a0 8 32 (x1 + (1 : Int32))) fun M1 => (if a1 = 0 then xz_o (xz_gI M1 a0 8 10) fun x11 => xz_o (xz_gR M1 a0 8 38) fun x12 => xz_b (xz_is M1 a0 8) (xz_bJ (zC d q_Mo_sureOf [.ref a0, .ref x12, .int a1] M1) fun x13 M9 => xz_b (xz_is M9 a0 8) (xz_bI (zC d q_Mo_isBetter [.ref a0, .int a1, .int x11, .long x13] M9) fun x14 M10 => (if x14 = 0 then some (none, M10) else xz_o (xz_wZ M10 a0 8 37 (1 : Int32)) fun M11 => xz_o (xz_wI M11 a0 8 33 a1) fun M12 => xz_o (xz_wI M12 a0 8 34 x11) fun M13 => xz_o (xz_wJ M13 a0 8 35 x13) fun M14 => xz_o (xz_gR M14 a0 8 38) fun x15 => xz_o (xz_gR M14 a0 8 39) fun x16 => xz_o (xz_copy M14 x15 (0 : Int32) x16 (0 : Int32) a1) fun M15 => some (none, M15)))) else xz_o (xz_gR M1 a0 8 3) fun x2 => xz_o (xz_gR M1 a0 8 38) fun x3 => xz_o (xz_lI0 M1 0 x3 (a1 - (1 : Int32))) fun x4 => xz_o (xz_lI0 M1 0 x2 x4) fun x5 => xz_o (xz_gR M1 a0 8 38) fun x6 => xz_b (xz_is M1 a0 8) (xz_bJ (zC d q_Mo_sureOf [.ref a0, .ref x6, .int a1] M1) fun x7 M2 => xz_b (xz_is M2 a0 8) (xz_bI (zC d q_Mo_isBetter [.ref a0, .int a1, .int x5, .long x7] M2) fun x8 M3 => (if x8 = 0 then some (none, M3) else xz_o (xz_wZ M3 a0 8 37 (1 : Int32)) fun M4 => xz_o (xz_wI M4 a0 8 33 a1) fun M5 => xz_o (xz_wI M5 a0 8 34 x5) fun M6 => xz_o (xz_wJ M6 a0 8 35 x7) fun M7 => xz_o (xz_gR M7 a0 8 38) fun x9 => xz_o (xz_gR M7 a0 8 39) fun x10 => xz_o (xz_copy M7 x9 (0 : Int32) x10 (0 : Int32) a1) fun M8 => some (none, M8)))))) = some r) : zC (d + 1) q_Mo_comes [.ref a0, .int a1] M = some r := xz_Run_of h
theorem b_Mo_count (d : Nat) (a0 : Nat) (a1 : Int32) (M : xz_M) (r : Option Value × xz_M) (h : ((if a1 = 0 then xz_o (xz_gI M a0 8 11) fun x4 => some (some (.int x4), M) else (if a1 = (1 : Int32) then xz_o (xz_gI M a0 8 12) fun x3 => some (some (.int x3), M) else (if a1 = (2 : Int32) then xz_o (xz_gI M a0 8 13) fun x2 => some (some (.int x2), M) else (if a1 = (3 : Int32) then xz_o (xz_gI M a0 8 22) fun x1 => some (some (.int x1), M) else some (some (.int (-2 : Int32)), M)))))) = some r) : zC (d + 1) q_Mo_count [.ref a0, .int a1] M = some r := xz_Run_of h
theorem b_Mo_cut (d : Nat) (a0 : Nat) (a1 : Int32) (M : xz_M) (r : Option Value × xz_M) (h : (xz_b (xz_is M a0 8) (xz_bI (zC d q_Mo_isSet [.ref a0, .int a1] M) fun x1 M1 => (if x1 = 0 then some (some (.int (-2 : Int32)), M1) else xz_b (xz_is M1 a0 8) (xz_bI (zC d q_Mo_isThereOne [.ref a0, .int a1] M1) fun x2 M2 => (if x2 = 0 then some (some (.int (1 : Int32)), M2) else some (some (.int (0 : Int32)), M2)))))) = some r) : zC (d + 1) q_Mo_cut [.ref a0, .int a1] M = some r := xz_Run_of h
theorem b_Mo_delay (d : Nat) (a0 : Nat) (a1 : Int32) (M : xz_M) (r : Option Value × xz_M) (h : (xz_bI (zC d q_Mo_in [.long (Int32.toInt64 a1), .long (0 : Int64), .long (9 : Int64)] M) fun x1 M1 => (if x1 = 0 then some (some (.int (-2 : Int32)), M1) else xz_o (xz_gI M1 a0 8 7) fun x2 => xz_o (xz_wI M1 a0 8 7 a1) fun M2 => some (some (.int x2), M2))) = some r) : zC (d + 1) q_Mo_delay [.ref a0, .int a1] M = some r := xz_Run_of h
set_option maxRecDepth 100000 in
theorem b_Mo_done (d : Nat) (a0 : Nat) (a1 : Int32) (M : xz_M) (r : Option Value × xz_M) (h : (xz_o (xz_gR M a0 8 26) fun x1 => xz_o (xz_lI0 M 0 x1 a1) fun x2 => (if x2 = (0 : Int32) then xz_o (xz_gR M a0 8 27) fun x25 => xz_o (xz_lI0 M 0 x25 ((4 : Int32) * a1)) fun x26 => xz_b (xz_is M a0 8) (xz_bI (zC d q_Mo_people [.ref a0, .int x26] M) fun x27 M5 => some (some (.int x27), M5)) else (if x2 = (1 : Int32) then xz_o (xz_gR M a0 8 27) fun x16 => xz_o (xz_lI0 M 0 x16 ((4 : Int32) * a1)) fun x17 => xz_o (xz_gR M a0 8 27) fun x18 => xz_o (xz_lI0 M 0 x18 (((4 : Int32) * a1) + (1 : Int32))) fun x19 => xz_o (xz_gR M a0 8 27) fun x20 => xz_o (xz_lI0 M 0 x20 (((4 : Int32) * a1) + (2 : Int32))) fun x21 => xz_o (xz_gR M a0 8 27) fun x22 => xz_o (xz_lI0 M 0 x22 (((4 : Int32) * a1) + (3 : Int32))) fun x23 => xz_b (xz_is M a0 8) (xz_bI (zC d q_Mo_meet [.ref a0, .int x17, .int x19, .int x21, .int x23] M) fun x24 M4 => some (some (.int x24), M4)) else (if x2 = (2 : Int32) then xz_o (xz_gR M a0 8 27) fun x13 => xz_o (xz_lI0 M 0 x13 ((4 : Int32) * a1)) fun x14 => xz_b (xz_is M a0 8) (xz_bI (zC d q_Mo_drop [.ref a0, .int x14] M) fun x15 M3 => some (some (.int x15), M3)) else (if x2 = (3 : Int32) then xz_o (xz_gR M a0 8 27) fun x10 => xz_o (xz_lI0 M 0 x10 ((4 : Int32) * a1)) fun x11 => xz_b (xz_is M a0 8) (xz_bI (zC d q_Mo_delay [.ref a0, .int x11] M) fun x12 M2 => some (some (.int x12), M2)) else xz_o (xz_gR M a0 8 27) fun x3 => xz_o (xz_lI0 M 0 x3 ((4 : Int32) * a1)) fun x4 => xz_o (xz_gR M a0 8 27) fun x5 => xz_o (xz_lI0 M 0 x5 (((4 : Int32) * a1) + (1 : Int32))) fun x6 => xz_o (xz_gR M a0 8 27) fun x7 => xz_o (xz_lI0 M 0 x7 (((4 : Int32) * a1) + (2 : Int32))) fun x8 => xz_b (xz_is M a0 8) (xz_bI (zC d q_Mo_ask [.ref a0, .int x4, .int x6, .int x8] M) fun x9 M1 => some (some (.int x9), M1))))))) = some r) : zC (d + 1) q_Mo_done [.ref a0, .int a1] M = some r := xz_Run_of h
theorem b_Mo_drop (d : Nat) (a0 : Nat) (a1 : Int32) (M : xz_M) (r : Option Value × xz_M) (h : (xz_b (xz_is M a0 8) (xz_bI (zC d q_Mo_refusal1 [.ref a0, .int a1] M) fun x1 M1 => (if x1 = 0 then xz_o (xz_gR M1 a0 8 2) fun x2 => xz_o (xz_sZ0 M1 x2 a1 (0 : Int32)) fun M2 => xz_b (xz_is M2 a0 8) (xz_bI (zC d q_Mo_left [.ref a0] M2) fun x3 M3 => some (some (.int x3), M3)) else some (some (.int x1), M1)))) = some r) : zC (d + 1) q_Mo_drop [.ref a0, .int a1] M = some r := xz_Run_of h
theorem b_Mo_event (d : Nat) (a0 : Nat) (a1 : Int32) (a2 : Int32) (M : xz_M) (r : Option Value × xz_M) (h : ((if a1 = (-1 : Int32) then xz_o (xz_wI M a0 8 12 (0 : Int32)) fun M3 => some (some (.int (0 : Int32)), M3) else xz_bI (zC d q_Mo_in [.long (Int32.toInt64 a1), .long (0 : Int64), .long (3 : Int64)] M) fun x1 M1 => (if x1 = 0 then zL d q_Mo_event 35 [] M1 else (if a1 = 0 then xz_o (xz_gI M1 a0 8 1) fun x2 => xz_bI (zC d q_Mo_in [.long (Int32.toInt64 a2), .long (0 : Int64), .long (Int32.toInt64 (x2 - (1 : Int32)))] M1) fun x3 M2 => (if x3 = 0 then zL d q_Mo_event 35 [] M2 else zL d q_Mo_event 27 [(0, .ref a0), (1, .int a1), (2, .int a2)] M2) else zL d q_Mo_event 27 [(0, .ref a0), (1, .int a1), (2, .int a2)] M1)))) = some r) : zC (d + 1) q_Mo_event [.ref a0, .int a1, .int a2] M = some r := xz_Run_of h
theorem b_Mo_event_l27 (d : Nat) (a0 : Nat) (a1 : Int32) (a2 : Int32) (M : xz_M) (r : Option Value × xz_M) (h : ((if a1 = (2 : Int32) then xz_b (xz_is M a0 8) (xz_bI (zC d q_Mo_isPerson [.ref a0, .int a2] M) fun x1 M1 => (if x1 = 0 then zL d q_Mo_event 35 [] M1 else zL d q_Mo_event 38 [(0, .ref a0), (1, .int a1), (2, .int a2)] M1)) else zL d q_Mo_event 38 [(0, .ref a0), (1, .int a1), (2, .int a2)] M)) = some r) : zL d q_Mo_event 27 [(0, .ref a0), (1, .int a1), (2, .int a2)] M = some r := xz_Run_of h
theorem b_Mo_event_l35 (d : Nat)  (M : xz_M) (r : Option Value × xz_M) (h : (some (some (.int (-1 : Int32)), M)) = some r) : zL d q_Mo_event 35 [] M = some r := xz_Run_of h
theorem b_Mo_event_l38 (d : Nat) (a0 : Nat) (a1 : Int32) (a2 : Int32) (M : xz_M) (r : Option Value × xz_M) (h : ((if a1 = (1 : Int32) then xz_bI (zC d q_Mo_in [.long (Int32.toInt64 a2), .long (0 : Int64), .long (9 : Int64)] M) fun x1 M1 => (if x1 = 0 then zL d q_Mo_event 55 [] M1 else zL d q_Mo_event 48 [(0, .ref a0), (1, .int a1), (2, .int a2)] M1) else zL d q_Mo_event 48 [(0, .ref a0), (1, .int a1), (2, .int a2)] M)) = some r) : zL d q_Mo_event 38 [(0, .ref a0), (1, .int a1), (2, .int a2)] M = some r := xz_Run_of h
theorem b_Mo_event_l48 (d : Nat) (a0 : Nat) (a1 : Int32) (a2 : Int32) (M : xz_M) (r : Option Value × xz_M) (h : ((if a1 = (3 : Int32) then xz_bI (zC d q_Mo_isTime [.int a2] M) fun x1 M1 => (if x1 = 0 then zL d q_Mo_event 55 [] M1 else zL d q_Mo_event 58 [(0, .ref a0), (1, .int a1), (2, .int a2)] M1) else zL d q_Mo_event 58 [(0, .ref a0), (1, .int a1), (2, .int a2)] M)) = some r) : zL d q_Mo_event 48 [(0, .ref a0), (1, .int a1), (2, .int a2)] M = some r := xz_Run_of h
theorem b_Mo_event_l55 (d : Nat)  (M : xz_M) (r : Option Value × xz_M) (h : (some (some (.int (-2 : Int32)), M)) = some r) : zL d q_Mo_event 55 [] M = some r := xz_Run_of h
theorem b_Mo_event_l58 (d : Nat) (a0 : Nat) (a1 : Int32) (a2 : Int32) (M : xz_M) (r : Option Value × xz_M) (h : (xz_o (xz_gI M a0 8 12) fun x1 => (if x1 = (8 : Int32) then some (some (.int (-4 : Int32)), M) else xz_o (xz_gR M a0 8 16) fun x2 => xz_o (xz_gI M a0 8 12) fun x3 => xz_o (xz_sI0 M x2 x3 a1) fun M1 => xz_o (xz_gR M1 a0 8 17) fun x4 => xz_o (xz_gI M1 a0 8 12) fun x5 => xz_o (xz_sI0 M1 x4 x5 a2) fun M2 => xz_o (xz_gI M2 a0 8 12) fun x6 => xz_o (xz_wI M2 a0 8 12 (x6 + (1 : Int32))) fun M3 => xz_o (xz_gI M3 a0 8 12) fun x7 => some (some (.int x7), M3))) = some r) : zL d q_Mo_event 58 [(0, .ref a0), (1, .int a1), (2, .int a2)] M = some r := xz_Run_of h
theorem b_Mo_feed (d : Nat) (a0 : Nat) (a1 : Int32) (M : xz_M) (r : Option Value × xz_M) (h : (xz_bI (zC d q_Mo_in [.long (Int32.toInt64 a1), .long (0 : Int64), .long (127 : Int64)] M) fun x1 M1 => (if x1 = 0 then some (some (.int (-2 : Int32)), M1) else xz_o (xz_gI M1 a0 8 22) fun x2 => (if x2 = (100 : Int32) then some (some (.int (-4 : Int32)), M1) else xz_o (xz_gR M1 a0 8 21) fun x3 => xz_o (xz_gI M1 a0 8 22) fun x4 => xz_o (xz_sI0 M1 x3 x4 a1) fun M2 => xz_o (xz_gI M2 a0 8 22) fun x5 => xz_o (xz_wI M2 a0 8 22 (x5 + (1 : Int32))) fun M3 => xz_o (xz_gI M3 a0 8 22) fun x6 => some (some (.int x6), M3)))) = some r) : zC (d + 1) q_Mo_feed [.ref a0, .int a1] M = some r := xz_Run_of h
theorem b_Mo_finds (d : Nat) (a0 : Nat) (a1 : Int32) (a2 : Int32) (a3 : Int32) (a4 : Int32) (a5 : Int32) (M : xz_M) (r : Option Value × xz_M) (h : (xz_o (xz_wI M a0 8 28 a1) fun M1 => xz_o (xz_wI M1 a0 8 29 a2) fun M2 => xz_o (xz_wI M2 a0 8 30 a3) fun M3 => xz_o (xz_wI M3 a0 8 31 a4) fun M4 => xz_o (xz_wZ M4 a0 8 36 a5) fun M5 => xz_o (xz_wI M5 a0 8 32 (0 : Int32)) fun M6 => xz_o (xz_wZ M6 a0 8 37 (0 : Int32)) fun M7 => xz_o (xz_gI M7 a0 8 8) fun x1 => xz_o (xz_gI M7 a0 8 10) fun x2 => xz_o (xz_gI M7 a0 8 8) fun x3 => xz_b (xz_is M7 a0 8) (xz_bV (zC d q_Mo_goes [.ref a0, .int x1, .int x2, .int ((1 : Int32) <<< (x3 &&& 31)), .int (0 : Int32)] M7) fun M8 => some (none, M8))) = some r) : zC (d + 1) q_Mo_finds [.ref a0, .int a1, .int a2, .int a3, .int a4, .int a5] M = some r := xz_Run_of h
theorem b_Mo_fits (d : Nat) (a0 : Nat) (a1 : Int32) (M : xz_M) (r : Option Value × xz_M) (h : (xz_bI (zC d q_Mo_in [.long (Int32.toInt64 a1), .long (0 : Int64), .long (1 : Int64)] M) fun x1 M1 => (if x1 = 0 then some (some (.int (-1 : Int32)), M1) else xz_o (xz_gI M1 a0 8 10) fun x2 => zL d q_Mo_fits 18 [(0, .ref a0), (1, .int a1), (2, .int x2), (3, .int (0 : Int32)), (4, .int (-5 : Int32)), (5, .int (0 : Int32))] M1)) = some r) : zC (d + 1) q_Mo_fits [.ref a0, .int a1] M = some r := xz_Run_of h
theorem b_Mo_fits_l18 (d : Nat) (a0 : Nat) (a1 : Int32) (a2 : Int32) (a3 : Int32) (a4 : Int32) (a5 : Int32) (M : xz_M) (r : Option Value × xz_M) (h : ((if (20 : Int32) < a5 then xz_o (xz_wI M a0 8 10 a2) fun M1 => (if a1 = 0 then some (some (.int a3), M1) else some (some (.int a4), M1)) else xz_o (xz_wI M a0 8 10 a5) fun M2 => xz_b (xz_is M2 a0 8) (xz_bI (zC d q_Mo_isAsSeen [.ref a0] M2) fun x1 M3 => (if x1 = 0 then zL d q_Mo_fits 18 [(0, .ref a0), (1, .int a1), (2, .int a2), (3, .int a3), (4, .int a4), (5, .int (a5 + (1 : Int32)))] M3 else (if a3 = 0 then zL d q_Mo_fits 18 [(0, .ref a0), (1, .int a1), (2, .int a2), (3, .int (a3 + (1 : Int32))), (4, .int a5), (5, .int (a5 + (1 : Int32)))] M3 else zL d q_Mo_fits 18 [(0, .ref a0), (1, .int a1), (2, .int a2), (3, .int (a3 + (1 : Int32))), (4, .int a4), (5, .int (a5 + (1 : Int32)))] M3))))) = some r) : zL d q_Mo_fits 18 [(0, .ref a0), (1, .int a1), (2, .int a2), (3, .int a3), (4, .int a4), (5, .int a5)] M = some r := xz_Run_of h
theorem b_Mo_goes (d : Nat) (a0 : Nat) (a1 : Int32) (a2 : Int32) (a3 : Int32) (a4 : Int32) (M : xz_M) (r : Option Value × xz_M) (h : (xz_o (xz_gI M a0 8 36) fun x1 => (if x1 = 0 then xz_o (xz_gI M a0 8 28) fun x2 => (if a1 = x2 then xz_b (xz_is M a0 8) (xz_bV (zC d q_Mo_comes [.ref a0, .int a4] M) fun M1 => some (none, M1)) else xz_o (xz_gI M a0 8 30) fun x3 => (if a4 = x3 then some (none, M) else zL d q_Mo_goes 23 [(0, .ref a0), (1, .int a1), (2, .int a2), (3, .int a3), (4, .int a4), (5, .int (0 : Int32))] M)) else xz_o (xz_gI M a0 8 37) fun x4 => (if x4 = 0 then xz_o (xz_gI M a0 8 28) fun x5 => (if a1 = x5 then xz_b (xz_is M a0 8) (xz_bV (zC d q_Mo_comes [.ref a0, .int a4] M) fun M2 => some (none, M2)) else xz_o (xz_gI M a0 8 30) fun x6 => (if a4 = x6 then some (none, M) else zL d q_Mo_goes 23 [(0, .ref a0), (1, .int a1), (2, .int a2), (3, .int a3), (4, .int a4), (5, .int (0 : Int32))] M)) else some (none, M)))) = some r) : zC (d + 1) q_Mo_goes [.ref a0, .int a1, .int a2, .int a3, .int a4] M = some r := xz_Run_of h
set_option maxRecDepth 100000 in
theorem b_Mo_goes_l23 (d : Nat) (a0 : Nat) (a1 : Int32) (a2 : Int32) (a3 : Int32) (a4 : Int32) (a5 : Int32) (M : xz_M) (r : Option Value × xz_M) (h : (xz_o (xz_gI M a0 8 1) fun x1 => (if x1 ≤ a5 then some (none, M) else xz_o (xz_gR M a0 8 2) fun x2 => xz_o (xz_lI0 M 1 x2 a5) fun x3 => (if x3 = 0 then (if (-1 : Int32) = (-1 : Int32) then zL d q_Mo_goes 23 [(0, .ref a0), (1, .int a1), (2, .int a2), (3, .int a3), (4, .int a4), (5, .int (a5 + (1 : Int32)))] M else xz_o (xz_gR M a0 8 3) fun x4 => xz_o (xz_lI0 M 0 x4 a5) fun x5 => (if x5 < a2 then zL d q_Mo_goes 23 [(0, .ref a0), (1, .int a1), (2, .int a2), (3, .int a3), (4, .int a4), (5, .int (a5 + (1 : Int32)))] M else xz_bI (zC d q_Mo_has [.int a3, .int (-1 : Int32)] M) fun x6 M1 => (if x6 = 0 then xz_o (xz_gI M1 a0 8 29) fun x7 => xz_bI (zC d q_Mo_has [.int x7, .int (-1 : Int32)] M1) fun x8 M2 => (if x8 = 0 then xz_o (xz_gR M2 a0 8 38) fun x9 => xz_o (xz_sI0 M2 x9 a4 a5) fun M3 => xz_o (xz_gR M3 a0 8 3) fun x10 => xz_o (xz_lI0 M3 0 x10 a5) fun x11 => xz_o (xz_gI M3 a0 8 7) fun x12 => xz_b (xz_is M3 a0 8) (xz_bV (zC d q_Mo_goes [.ref a0, .int (-1 : Int32), .int (x11 + x12), .int (a3 ||| ((1 : Int32) <<< ((-1 : Int32) &&& 31))), .int (a4 + (1 : Int32))] M3) fun M4 => zL d q_Mo_goes 23 [(0, .ref a0), (1, .int a1), (2, .int a2), (3, .int a3), (4, .int a4), (5, .int (a5 + (1 : Int32)))] M4) else zL d q_Mo_goes 23 [(0, .ref a0), (1, .int a1), (2, .int a2), (3, .int a3), (4, .int a4), (5, .int (a5 + (1 : Int32)))] M2) else zL d q_Mo_goes 23 [(0, .ref a0), (1, .int a1), (2, .int a2), (3, .int a3), (4, .int a4), (5, .int (a5 + (1 : Int32)))] M1))) else xz_b (xz_is M a0 8) (xz_bI (zC d q_Mo_otherBy [.ref a0, .int a5, .int a1] M) fun x13 M5 => (if x13 = (-1 : Int32) then zL d q_Mo_goes 23 [(0, .ref a0), (1, .int a1), (2, .int a2), (3, .int a3), (4, .int a4), (5, .int (a5 + (1 : Int32)))] M5 else xz_o (xz_gR M5 a0 8 3) fun x14 => xz_o (xz_lI0 M5 0 x14 a5) fun x15 => (if x15 < a2 then zL d q_Mo_goes 23 [(0, .ref a0), (1, .int a1), (2, .int a2), (3, .int a3), (4, .int a4), (5, .int (a5 + (1 : Int32)))] M5 else xz_bI (zC d q_Mo_has [.int a3, .int x13] M5) fun x16 M6 => (if x16 = 0 then xz_o (xz_gI M6 a0 8 29) fun x17 => xz_bI (zC d q_Mo_has [.int x17, .int x13] M6) fun x18 M7 => (if x18 = 0 then xz_o (xz_gR M7 a0 8 38) fun x19 => xz_o (xz_sI0 M7 x19 a4 a5) fun M8 => xz_o (xz_gR M8 a0 8 3) fun x20 => xz_o (xz_lI0 M8 0 x20 a5) fun x21 => xz_o (xz_gI M8 a0 8 7) fun x22 => xz_b (xz_is M8 a0 8) (xz_bV (zC d q_Mo_goes [.ref a0, .int x13, .int (x21 + x22), .int (a3 ||| ((1 : Int32) <<< (x13 &&& 31))), .int (a4 + (1 : Int32))] M8) fun M9 => zL d q_Mo_goes 23 [(0, .ref a0), (1, .int a1), (2, .int a2), (3, .int a3), (4, .int a4), (5, .int (a5 + (1 : Int32)))] M9) else zL d q_Mo_goes 23 [(0, .ref a0), (1, .int a1), (2, .int a2), (3, .int a3), (4, .int a4), (5, .int (a5 + (1 : Int32)))] M7) else zL d q_Mo_goes 23 [(0, .ref a0), (1, .int a1), (2, .int a2), (3, .int a3), (4, .int a4), (5, .int (a5 + (1 : Int32)))] M6))))))) = some r) : zL d q_Mo_goes 23 [(0, .ref a0), (1, .int a1), (2, .int a2), (3, .int a3), (4, .int a4), (5, .int a5)] M = some r := xz_Run_of h
theorem b_Mo_happens (d : Nat) (a0 : Nat) (a1 : Int32) (a2 : Int32) (M : xz_M) (r : Option Value × xz_M) (h : ((if a1 = 0 then xz_o (xz_gR M a0 8 2) fun x1 => xz_o (xz_sZ0 M x1 a2 (0 : Int32)) fun M2 => (if a1 = (1 : Int32) then xz_o (xz_wI M2 a0 8 7 a2) fun M3 => zL d q_Mo_happens 16 [(0, .ref a0), (1, .int a1), (2, .int a2), (3, .int (0 : Int32))] M3 else zL d q_Mo_happens 16 [(0, .ref a0), (1, .int a1), (2, .int a2), (3, .int (0 : Int32))] M2) else (if a1 = (1 : Int32) then xz_o (xz_wI M a0 8 7 a2) fun M1 => zL d q_Mo_happens 16 [(0, .ref a0), (1, .int a1), (2, .int a2), (3, .int (0 : Int32))] M1 else zL d q_Mo_happens 16 [(0, .ref a0), (1, .int a1), (2, .int a2), (3, .int (0 : Int32))] M))) = some r) : zC (d + 1) q_Mo_happens [.ref a0, .int a1, .int a2] M = some r := xz_Run_of h
theorem b_Mo_happens_l16 (d : Nat) (a0 : Nat) (a1 : Int32) (a2 : Int32) (a3 : Int32) (M : xz_M) (r : Option Value × xz_M) (h : ((if a1 = (2 : Int32) then xz_o (xz_gI M a0 8 1) fun x1 => (if x1 ≤ a3 then (if a1 = (3 : Int32) then xz_o (xz_wI M a0 8 10 a2) fun M2 => some (none, M2) else some (none, M)) else xz_o (xz_gR M a0 8 4) fun x2 => xz_o (xz_lI0 M 0 x2 a3) fun x3 => (if x3 = a2 then xz_o (xz_gR M a0 8 2) fun x4 => xz_o (xz_sZ0 M x4 a3 (0 : Int32)) fun M3 => zL d q_Mo_happens 16 [(0, .ref a0), (1, .int a1), (2, .int a2), (3, .int (a3 + (1 : Int32)))] M3 else xz_o (xz_gR M a0 8 5) fun x5 => xz_o (xz_lI0 M 0 x5 a3) fun x6 => (if x6 = a2 then xz_o (xz_gR M a0 8 2) fun x7 => xz_o (xz_sZ0 M x7 a3 (0 : Int32)) fun M4 => zL d q_Mo_happens 16 [(0, .ref a0), (1, .int a1), (2, .int a2), (3, .int (a3 + (1 : Int32)))] M4 else zL d q_Mo_happens 16 [(0, .ref a0), (1, .int a1), (2, .int a2), (3, .int (a3 + (1 : Int32)))] M))) else (if a1 = (3 : Int32) then xz_o (xz_wI M a0 8 10 a2) fun M1 => some (none, M1) else some (none, M)))) = some r) : zL d q_Mo_happens 16 [(0, .ref a0), (1, .int a1), (2, .int a2), (3, .int a3)] M = some r := xz_Run_of h
theorem b_Mo_has (d : Nat) (a0 : Int32) (a1 : Int32) (M : xz_M) (r : Option Value × xz_M) (h : ((if ((a0 >>> (a1 &&& 31)) &&& (1 : Int32)) = (1 : Int32) then some (some (.int (1 : Int32)), M) else some (some (.int (0 : Int32)), M))) = some r) : zC (d + 1) q_Mo_has [.int a0, .int a1] M = some r := xz_Run_of h
theorem b_Mo_holder (d : Nat) (a0 : Nat) (a1 : Int32) (a2 : Int32) (M : xz_M) (r : Option Value × xz_M) (h : (xz_bI (zC d q_Mo_isRule [.int a1] M) fun x1 M1 => (if x1 = 0 then some (some (.int (-2 : Int32)), M1) else xz_o (xz_gI M1 a0 8 9) fun x2 => xz_b (xz_is M1 a0 8) (xz_bV (zC d q_Mo_finds [.ref a0, .int x2, .int (0 : Int32), .int (6 : Int32), .int a1, .int (0 : Int32)] M1) fun M2 => xz_o (xz_gI M2 a0 8 37) fun x3 => (if x3 = 0 then some (some (.int (-5 : Int32)), M2) else xz_o (xz_gI M2 a0 8 33) fun x4 => xz_bI (zC d q_Mo_in [.long (Int32.toInt64 a2), .long (0 : Int64), .long (Int32.toInt64 x4)] M2) fun x5 M3 => (if x5 = 0 then some (some (.int (-1 : Int32)), M3) else xz_o (xz_gI M3 a0 8 8) fun x6 => zL d q_Mo_holder 34 [(0, .ref a0), (2, .int a2), (3, .int x6), (4, .int (0 : Int32))] M3))))) = some r) : zC (d + 1) q_Mo_holder [.ref a0, .int a1, .int a2] M = some r := xz_Run_of h
theorem b_Mo_holder_l34 (d : Nat) (a0 : Nat) (a2 : Int32) (a3 : Int32) (a4 : Int32) (M : xz_M) (r : Option Value × xz_M) (h : ((if a2 ≤ a4 then some (some (.int a3), M) else xz_o (xz_gR M a0 8 39) fun x1 => xz_o (xz_lI0 M 0 x1 a4) fun x2 => xz_b (xz_is M a0 8) (xz_bI (zC d q_Mo_otherBy [.ref a0, .int x2, .int a3] M) fun x3 M1 => zL d q_Mo_holder 34 [(0, .ref a0), (2, .int a2), (3, .int x3), (4, .int (a4 + (1 : Int32)))] M1))) = some r) : zL d q_Mo_holder 34 [(0, .ref a0), (2, .int a2), (3, .int a3), (4, .int a4)] M = some r := xz_Run_of h
set_option maxRecDepth 100000 in
theorem b_Mo_image (d : Nat) (a0 : Nat) (M : xz_M) (r : Option Value × xz_M) (h : (xz_o (xz_wZ M a0 8 42 (1 : Int32)) fun M1 => xz_o (xz_gR M1 a0 8 43) fun x1 => xz_o (xz_gI M1 a0 8 0) fun x2 => xz_o (xz_sI0 M1 x1 (0 : Int32) x2) fun M2 => xz_o (xz_gR M2 a0 8 43) fun x3 => xz_o (xz_gI M2 a0 8 1) fun x4 => xz_o (xz_sI0 M2 x3 (1 : Int32) x4) fun M3 => xz_o (xz_gR M3 a0 8 43) fun x5 => xz_o (xz_gI M3 a0 8 7) fun x6 => xz_o (xz_sI0 M3 x5 (2 : Int32) x6) fun M4 => xz_o (xz_gR M4 a0 8 43) fun x7 => xz_o (xz_gI M4 a0 8 8) fun x8 => xz_o (xz_sI0 M4 x7 (3 : Int32) x8) fun M5 => xz_o (xz_gR M5 a0 8 43) fun x9 => xz_o (xz_gI M5 a0 8 9) fun x10 => xz_o (xz_sI0 M5 x9 (4 : Int32) x10) fun M6 => xz_o (xz_gR M6 a0 8 43) fun x11 => xz_o (xz_gI M6 a0 8 10) fun x12 => xz_o (xz_sI0 M6 x11 (5 : Int32) x12) fun M7 => xz_o (xz_gR M7 a0 8 43) fun x13 => xz_o (xz_gI M7 a0 8 11) fun x14 => xz_o (xz_sI0 M7 x13 (6 : Int32) x14) fun M8 => xz_o (xz_gR M8 a0 8 43) fun x15 => xz_o (xz_gI M8 a0 8 12) fun x16 => xz_o (xz_sI0 M8 x15 (7 : Int32) x16) fun M9 => xz_o (xz_gR M9 a0 8 43) fun x17 => xz_o (xz_gI M9 a0 8 13) fun x18 => xz_o (xz_sI0 M9 x17 (8 : Int32) x18) fun M10 => xz_o (xz_gR M10 a0 8 2) fun x19 => xz_o (xz_gR M10 a0 8 44) fun x20 => xz_o (xz_copy M10 x19 (0 : Int32) x20 (0 : Int32) (14 : Int32)) fun M11 => xz_o (xz_gR M11 a0 8 20) fun x21 => xz_o (xz_gR M11 a0 8 45) fun x22 => xz_o (xz_copy M11 x21 (0 : Int32) x22 (0 : Int32) (6 : Int32)) fun M12 => zL d q_Mo_image 76 [(0, .ref a0), (1, .int (0 : Int32))] M12) = some r) : zC (d + 1) q_Mo_image [.ref a0] M = some r := xz_Run_of h
theorem b_Mo_image_l76 (d : Nat) (a0 : Nat) (a1 : Int32) (M : xz_M) (r : Option Value × xz_M) (h : ((if (10 : Int32) ≤ a1 then xz_b (xz_is M a0 8) (xz_bI (zC d q_Mo_left [.ref a0] M) fun x1 M1 => some (some (.int x1), M1)) else xz_b (xz_is M a0 8) (xz_bR (zC d q_Mo_row [.ref a0, .int a1] M) fun x2 M2 => xz_o (xz_gR M2 a0 8 46) fun x3 => xz_o (xz_lR0 M2 x3 a1) fun x4 => xz_b (xz_is M2 a0 8) (xz_bR (zC d q_Mo_row [.ref a0, .int a1] M2) fun x5 M3 => xz_o (xz_len M3 x5) fun x6 => xz_o (xz_copy M3 x2 (0 : Int32) x4 (0 : Int32) x6) fun M4 => zL d q_Mo_image 76 [(0, .ref a0), (1, .int (a1 + (1 : Int32)))] M4)))) = some r) : zL d q_Mo_image 76 [(0, .ref a0), (1, .int a1)] M = some r := xz_Run_of h
theorem b_Mo_in (d : Nat) (a0 : Int64) (a2 : Int64) (a4 : Int64) (M : xz_M) (r : Option Value × xz_M) (h : ((if (lg_cmp a0 a2) < 0 then some (some (.int (0 : Int32)), M) else (if 0 < (lg_cmp a0 a4) then some (some (.int (0 : Int32)), M) else some (some (.int (1 : Int32)), M)))) = some r) : zC (d + 1) q_Mo_in [.long a0, .long a2, .long a4] M = some r := xz_Run_of h
theorem b_Mo_isAsSeen (d : Nat) (a0 : Nat) (M : xz_M) (r : Option Value × xz_M) (h : (zL d q_Mo_isAsSeen 3 [(0, .ref a0), (1, .int (0 : Int32))] M) = some r) : zC (d + 1) q_Mo_isAsSeen [.ref a0] M = some r := xz_Run_of h
theorem b_Mo_isAsSeen_l3 (d : Nat) (a0 : Nat) (a1 : Int32) (M : xz_M) (r : Option Value × xz_M) (h : (xz_o (xz_gI M a0 8 11) fun x1 => (if x1 ≤ a1 then some (some (.int (1 : Int32)), M) else xz_o (xz_gR M a0 8 14) fun x2 => xz_o (xz_lI0 M 0 x2 a1) fun x3 => xz_b (xz_is M a0 8) (xz_bI (zC d q_Mo_reachOf [.ref a0, .int x3] M) fun x4 M1 => (if x4 = (-5 : Int32) then xz_o (xz_gR M1 a0 8 20) fun x5 => xz_o (xz_lI0 M1 1 x5 a1) fun x6 => (if (0 : Int32) = x6 then zL d q_Mo_isAsSeen 3 [(0, .ref a0), (1, .int (a1 + (1 : Int32)))] M1 else some (some (.int (0 : Int32)), M1)) else xz_o (xz_gR M1 a0 8 15) fun x7 => xz_o (xz_lI0 M1 0 x7 a1) fun x8 => (if x8 < x4 then xz_o (xz_gR M1 a0 8 20) fun x9 => xz_o (xz_lI0 M1 1 x9 a1) fun x10 => (if (0 : Int32) = x10 then zL d q_Mo_isAsSeen 3 [(0, .ref a0), (1, .int (a1 + (1 : Int32)))] M1 else some (some (.int (0 : Int32)), M1)) else xz_o (xz_gR M1 a0 8 20) fun x11 => xz_o (xz_lI0 M1 1 x11 a1) fun x12 => (if (1 : Int32) = x12 then zL d q_Mo_isAsSeen 3 [(0, .ref a0), (1, .int (a1 + (1 : Int32)))] M1 else some (some (.int (0 : Int32)), M1))))))) = some r) : zL d q_Mo_isAsSeen 3 [(0, .ref a0), (1, .int a1)] M = some r := xz_Run_of h
set_option maxRecDepth 100000 in
theorem b_Mo_isBetter (d : Nat) (a0 : Nat) (a1 : Int32) (a2 : Int32) (a3 : Int64) (M : xz_M) (r : Option Value × xz_M) (h : (xz_o (xz_gI M a0 8 37) fun x1 => (if x1 = 0 then some (some (.int (1 : Int32)), M) else xz_o (xz_gI M a0 8 31) fun x2 => (if x2 = (1 : Int32) then xz_o (xz_gI M a0 8 33) fun x12 => (if a1 < x12 then some (some (.int (1 : Int32)), M) else xz_o (xz_gI M a0 8 33) fun x13 => (if a1 = x13 then xz_o (xz_gI M a0 8 34) fun x14 => (if x14 ≤ a2 then some (some (.int (0 : Int32)), M) else some (some (.int (1 : Int32)), M)) else some (some (.int (0 : Int32)), M))) else xz_o (xz_gI M a0 8 31) fun x3 => (if x3 = (2 : Int32) then xz_o (xz_gJ M a0 8 35) fun x7 => (if (lg_cmp a3 x7) = 0 then xz_o (xz_gI M a0 8 34) fun x8 => (if a2 < x8 then some (some (.int (1 : Int32)), M) else xz_o (xz_gI M a0 8 34) fun x9 => (if a2 = x9 then xz_o (xz_gI M a0 8 33) fun x10 => (if x10 ≤ a1 then some (some (.int (0 : Int32)), M) else some (some (.int (1 : Int32)), M)) else some (some (.int (0 : Int32)), M))) else xz_o (xz_gJ M a0 8 35) fun x11 => (if (lg_cmp a3 x11) ≤ 0 then some (some (.int (0 : Int32)), M) else some (some (.int (1 : Int32)), M))) else xz_o (xz_gI M a0 8 34) fun x4 => (if a2 < x4 then some (some (.int (1 : Int32)), M) else xz_o (xz_gI M a0 8 34) fun x5 => (if a2 = x5 then xz_o (xz_gI M a0 8 33) fun x6 => (if x6 ≤ a1 then some (some (.int (0 : Int32)), M) else some (some (.int (1 : Int32)), M)) else some (some (.int (0 : Int32)), M))))))) = some r) : zC (d + 1) q_Mo_isBetter [.ref a0, .int a1, .int a2, .long a3] M = some r := xz_Run_of h
theorem b_Mo_isPart (d : Nat) (a0 : Int32) (M : xz_M) (r : Option Value × xz_M) (h : (xz_bI (zC d q_Mo_in [.long (Int32.toInt64 a0), .long (0 : Int64), .long (1 : Int64)] M) fun x1 M1 => xz_b (xz_nr 1 x1) (some (some (.int x1), M1))) = some r) : zC (d + 1) q_Mo_isPart [.int a0] M = some r := xz_Run_of h
theorem b_Mo_isPerson (d : Nat) (a0 : Nat) (a1 : Int32) (M : xz_M) (r : Option Value × xz_M) (h : (xz_o (xz_gI M a0 8 0) fun x1 => xz_bI (zC d q_Mo_in [.long (Int32.toInt64 a1), .long (0 : Int64), .long (Int32.toInt64 (x1 - (1 : Int32)))] M) fun x2 M1 => xz_b (xz_nr 1 x2) (some (some (.int x2), M1))) = some r) : zC (d + 1) q_Mo_isPerson [.ref a0, .int a1] M = some r := xz_Run_of h
theorem b_Mo_isRule (d : Nat) (a0 : Int32) (M : xz_M) (r : Option Value × xz_M) (h : (xz_bI (zC d q_Mo_in [.long (Int32.toInt64 a0), .long (0 : Int64), .long (2 : Int64)] M) fun x1 M1 => xz_b (xz_nr 1 x1) (some (some (.int x1), M1))) = some r) : zC (d + 1) q_Mo_isRule [.int a0] M = some r := xz_Run_of h
theorem b_Mo_isSet (d : Nat) (a0 : Nat) (a1 : Int32) (M : xz_M) (r : Option Value × xz_M) (h : (xz_o (xz_gI M a0 8 0) fun x1 => xz_bI (zC d q_Mo_in [.long (Int32.toInt64 a1), .long (0 : Int64), .long (Int32.toInt64 (((1 : Int32) <<< (x1 &&& 31)) - (1 : Int32)))] M) fun x2 M1 => (if x2 = 0 then some (some (.int (0 : Int32)), M1) else xz_o (xz_gI M1 a0 8 8) fun x3 => xz_bI (zC d q_Mo_has [.int a1, .int x3] M1) fun x4 M2 => (if x4 = 0 then xz_o (xz_gI M2 a0 8 9) fun x5 => xz_bI (zC d q_Mo_has [.int a1, .int x5] M2) fun x6 M3 => (if x6 = 0 then some (some (.int (1 : Int32)), M3) else some (some (.int (0 : Int32)), M3)) else some (some (.int (0 : Int32)), M2)))) = some r) : zC (d + 1) q_Mo_isSet [.ref a0, .int a1] M = some r := xz_Run_of h
theorem b_Mo_isTape (d : Nat) (a0 : Int32) (M : xz_M) (r : Option Value × xz_M) (h : (xz_bI (zC d q_Mo_in [.long (Int32.toInt64 a0), .long (0 : Int64), .long (5 : Int64)] M) fun x1 M1 => xz_b (xz_nr 1 x1) (some (some (.int x1), M1))) = some r) : zC (d + 1) q_Mo_isTape [.int a0] M = some r := xz_Run_of h
theorem b_Mo_isThereOne (d : Nat) (a0 : Nat) (a1 : Int32) (M : xz_M) (r : Option Value × xz_M) (h : (xz_o (xz_gI M a0 8 9) fun x1 => xz_b (xz_is M a0 8) (xz_bV (zC d q_Mo_finds [.ref a0, .int x1, .int a1, .int (6 : Int32), .int (0 : Int32), .int (1 : Int32)] M) fun M1 => xz_o (xz_gI M1 a0 8 37) fun x2 => xz_b (xz_nr 1 x2) (some (some (.int x2), M1)))) = some r) : zC (d + 1) q_Mo_isThereOne [.ref a0, .int a1] M = some r := xz_Run_of h
theorem b_Mo_isTime (d : Nat) (a0 : Int32) (M : xz_M) (r : Option Value × xz_M) (h : (xz_bI (zC d q_Mo_in [.long (Int32.toInt64 a0), .long (0 : Int64), .long (99 : Int64)] M) fun x1 M1 => xz_b (xz_nr 1 x1) (some (some (.int x1), M1))) = some r) : zC (d + 1) q_Mo_isTime [.int a0] M = some r := xz_Run_of h
theorem b_Mo_isWord (d : Nat) (a0 : Nat) (a1 : Nat) (a2 : Int32) (M : xz_M) (r : Option Value × xz_M) (h : (xz_b (xz_is M a1 20) (xz_bI (zC d q_JD_sLength [.ref a1] M) fun x1 M1 => xz_o (xz_gI M1 a0 8 23) fun x2 => (if x1 = (a2 - x2) then zL d q_Mo_isWord 12 [(0, .ref a0), (1, .ref a1), (3, .int (0 : Int32))] M1 else some (some (.int (0 : Int32)), M1)))) = some r) : zC (d + 1) q_Mo_isWord [.ref a0, .ref a1, .int a2] M = some r := xz_Run_of h
theorem b_Mo_isWord_l12 (d : Nat) (a0 : Nat) (a1 : Nat) (a3 : Int32) (M : xz_M) (r : Option Value × xz_M) (h : (xz_b (xz_is M a1 20) (xz_bI (zC d q_JD_sLength [.ref a1] M) fun x1 M1 => (if x1 ≤ a3 then some (some (.int (1 : Int32)), M1) else xz_b (xz_is M1 a1 20) (xz_bI (zC d q_JD_sCharAt [.ref a1, .int a3] M1) fun x2 M2 => xz_o (xz_gR M2 a0 8 21) fun x3 => xz_o (xz_gI M2 a0 8 23) fun x4 => xz_o (xz_lI0 M2 0 x3 (x4 + a3)) fun x5 => (if x2 = x5 then zL d q_Mo_isWord 12 [(0, .ref a0), (1, .ref a1), (3, .int (a3 + (1 : Int32)))] M2 else some (some (.int (0 : Int32)), M2)))))) = some r) : zL d q_Mo_isWord 12 [(0, .ref a0), (1, .ref a1), (3, .int a3)] M = some r := xz_Run_of h
set_option maxRecDepth 100000 in
theorem b_Mo_item (d : Nat) (a0 : Nat) (a1 : Int32) (a2 : Int32) (a3 : Int64) (M : xz_M) (r : Option Value × xz_M) (h : (xz_b (xz_is M a0 8) (xz_bI (zC d q_Mo_refusal2 [.ref a0, .int a1, .int a2] M) fun x1 M1 => (if x1 = 0 then xz_o (xz_gR M1 a0 8 47) fun x2 => xz_o (xz_lI0 M1 0 x2 a1) fun x3 => xz_o (xz_gR M1 a0 8 49) fun x4 => xz_o (xz_lR0 M1 x4 a1) fun x5 => (if x3 = 0 then xz_o (xz_sJ0 M1 x5 a2 (Int32.toInt64 (Int8.toInt32 (Int32.toInt8 (Int64.toInt32 a3))))) fun M7 => some (some (.int (1 : Int32)), M7) else (if x3 = (1 : Int32) then xz_o (xz_sJ0 M1 x5 a2 (Int32.toInt64 (Int16.toInt32 (Int32.toInt16 (Int64.toInt32 a3))))) fun M6 => some (some (.int (1 : Int32)), M6) else (if x3 = (2 : Int32) then xz_o (xz_sJ0 M1 x5 a2 (Int32.toInt64 (Int64.toInt32 a3))) fun M5 => some (some (.int (1 : Int32)), M5) else (if x3 = (3 : Int32) then xz_o (xz_sJ0 M1 x5 a2 a3) fun M4 => some (some (.int (1 : Int32)), M4) else (if (lg_cmp a3 (0 : Int64)) = 0 then xz_o (xz_sJ0 M1 x5 a2 (0 : Int64)) fun M2 => some (some (.int (1 : Int32)), M2) else xz_o (xz_sJ0 M1 x5 a2 (1 : Int64)) fun M3 => some (some (.int (1 : Int32)), M3)))))) else some (some (.int x1), M1)))) = some r) : zC (d + 1) q_Mo_item [.ref a0, .int a1, .int a2, .long a3] M = some r := xz_Run_of h
theorem b_Mo_judge (d : Nat) (a0 : Nat) (a1 : Int32) (a2 : Int32) (M : xz_M) (r : Option Value × xz_M) (h : (xz_bI (zC d q_Mo_isTape [.int a1] M) fun x1 M1 => (if x1 = 0 then some (some (.int (-1 : Int32)), M1) else xz_o (xz_gR M1 a0 8 47) fun x2 => xz_o (xz_lI0 M1 0 x2 a1) fun x3 => (if x3 ≤ 0 then xz_o (xz_gI M1 a0 8 8) fun x4 => xz_o (xz_gI M1 a0 8 9) fun x5 => (if x4 = x5 then some (some (.int (-5 : Int32)), M1) else xz_o (xz_gR M1 a0 8 47) fun x6 => xz_o (xz_lI0 M1 0 x6 a1) fun x7 => (if x7 < 0 then some (some (.int (100 : Int32)), M1) else (if 0 ≤ a2 then xz_o (xz_gI M1 a0 8 8) fun x8 => xz_o (xz_gI M1 a0 8 8) fun x9 => xz_o (xz_gI M1 a0 8 10) fun x10 => zL d q_Mo_judge 44 [(0, .ref a0), (1, .int a1), (3, .int x8), (4, .int ((1 : Int32) <<< (x9 &&& 31))), (5, .int x10), (6, .int (0 : Int32)), (7, .int a2)] M1 else some (some (.int (100 : Int32)), M1)))) else some (some (.int (-12 : Int32)), M1)))) = some r) : zC (d + 1) q_Mo_judge [.ref a0, .int a1, .int a2] M = some r := xz_Run_of h
set_option maxRecDepth 100000 in
theorem b_Mo_judge_l44 (d : Nat) (a0 : Nat) (a1 : Int32) (a3 : Int32) (a4 : Int32) (a5 : Int32) (a6 : Int32) (a7 : Int32) (M : xz_M) (r : Option Value × xz_M) (h : (xz_o (xz_gR M a0 8 48) fun x1 => xz_o (xz_lI0 M 0 x1 a1) fun x2 => (if x2 ≤ a7 then some (some (.int ((100 : Int32) + a6)), M) else xz_o (xz_gR M a0 8 49) fun x3 => xz_o (xz_lR0 M x3 a1) fun x4 => xz_o (xz_lJ0 M x4 a7) fun x5 => xz_o (xz_gI M a0 8 1) fun x6 => xz_bI (zC d q_Mo_in [.long x5, .long (0 : Int64), .long (Int32.toInt64 (x6 - (1 : Int32)))] M) fun x7 M1 => (if x7 = 0 then some (some (.int a6), M1) else xz_o (xz_gR M1 a0 8 2) fun x8 => xz_o (xz_lI0 M1 1 x8 (Int64.toInt32 x5)) fun x9 => (if x9 = 0 then (if (-1 : Int32) = (-1 : Int32) then some (some (.int a6), M1) else xz_o (xz_gR M1 a0 8 3) fun x10 => xz_o (xz_lI0 M1 0 x10 (Int64.toInt32 x5)) fun x11 => (if x11 < a5 then some (some (.int a6), M1) else xz_bI (zC d q_Mo_has [.int a4, .int (-1 : Int32)] M1) fun x12 M2 => (if x12 = 0 then xz_o (xz_gI M2 a0 8 9) fun x13 => (if (-1 : Int32) = x13 then some (some (.int (-5 : Int32)), M2) else xz_o (xz_gR M2 a0 8 3) fun x14 => xz_o (xz_lI0 M2 0 x14 (Int64.toInt32 x5)) fun x15 => xz_o (xz_gI M2 a0 8 7) fun x16 => zL d q_Mo_judge 44 [(0, .ref a0), (1, .int a1), (3, .int (-1 : Int32)), (4, .int (a4 ||| ((1 : Int32) <<< ((-1 : Int32) &&& 31)))), (5, .int (x15 + x16)), (6, .int (a6 + (1 : Int32))), (7, .int (a7 + (1 : Int32)))] M2) else some (some (.int a6), M2)))) else xz_b (xz_is M1 a0 8) (xz_bI (zC d q_Mo_otherBy [.ref a0, .int (Int64.toInt32 x5), .int a3] M1) fun x17 M3 => (if x17 = (-1 : Int32) then some (some (.int a6), M3) else xz_o (xz_gR M3 a0 8 3) fun x18 => xz_o (xz_lI0 M3 0 x18 (Int64.toInt32 x5)) fun x19 => (if x19 < a5 then some (some (.int a6), M3) else xz_bI (zC d q_Mo_has [.int a4, .int x17] M3) fun x20 M4 => (if x20 = 0 then xz_o (xz_gI M4 a0 8 9) fun x21 => (if x17 = x21 then some (some (.int (-5 : Int32)), M4) else xz_o (xz_gR M4 a0 8 3) fun x22 => xz_o (xz_lI0 M4 0 x22 (Int64.toInt32 x5)) fun x23 => xz_o (xz_gI M4 a0 8 7) fun x24 => zL d q_Mo_judge 44 [(0, .ref a0), (1, .int a1), (3, .int x17), (4, .int (a4 ||| ((1 : Int32) <<< (x17 &&& 31)))), (5, .int (x23 + x24)), (6, .int (a6 + (1 : Int32))), (7, .int (a7 + (1 : Int32)))] M4) else some (some (.int a6), M4))))))))) = some r) : zL d q_Mo_judge 44 [(0, .ref a0), (1, .int a1), (3, .int a3), (4, .int a4), (5, .int a5), (6, .int a6), (7, .int a7)] M = some r := xz_Run_of h
theorem b_Mo_latest (d : Nat) (a0 : Nat) (M : xz_M) (r : Option Value × xz_M) (h : (xz_o (xz_gI M a0 8 10) fun x1 => zL d q_Mo_latest 8 [(0, .ref a0), (1, .int x1), (2, .int (-5 : Int32)), (3, .int (0 : Int32))] M) = some r) : zC (d + 1) q_Mo_latest [.ref a0] M = some r := xz_Run_of h
theorem b_Mo_latest_l8 (d : Nat) (a0 : Nat) (a1 : Int32) (a2 : Int32) (a3 : Int32) (M : xz_M) (r : Option Value × xz_M) (h : ((if (99 : Int32) < a3 then xz_o (xz_wI M a0 8 10 a1) fun M1 => some (some (.int a2), M1) else xz_o (xz_wI M a0 8 10 a3) fun M2 => xz_b (xz_is M2 a0 8) (xz_bI (zC d q_Mo_isThereOne [.ref a0, .int (0 : Int32)] M2) fun x1 M3 => (if x1 = 0 then zL d q_Mo_latest 8 [(0, .ref a0), (1, .int a1), (2, .int a2), (3, .int (a3 + (1 : Int32)))] M3 else zL d q_Mo_latest 8 [(0, .ref a0), (1, .int a1), (2, .int a3), (3, .int (a3 + (1 : Int32)))] M3)))) = some r) : zL d q_Mo_latest 8 [(0, .ref a0), (1, .int a1), (2, .int a2), (3, .int a3)] M = some r := xz_Run_of h
theorem b_Mo_leastCut (d : Nat) (a0 : Nat) (M : xz_M) (r : Option Value × xz_M) (h : (zL d q_Mo_leastCut 3 [(0, .ref a0), (1, .int (0 : Int32))] M) = some r) : zC (d + 1) q_Mo_leastCut [.ref a0] M = some r := xz_Run_of h
theorem b_Mo_leastCut_l3 (d : Nat) (a0 : Nat) (a1 : Int32) (M : xz_M) (r : Option Value × xz_M) (h : (xz_o (xz_gI M a0 8 0) fun x1 => (if x1 ≤ a1 then some (some (.int (-5 : Int32)), M) else zL d q_Mo_leastCut 10 [(0, .ref a0), (1, .int a1), (2, .int (0 : Int32))] M)) = some r) : zL d q_Mo_leastCut 3 [(0, .ref a0), (1, .int a1)] M = some r := xz_Run_of h
theorem b_Mo_leastCut_l10 (d : Nat) (a0 : Nat) (a1 : Int32) (a2 : Int32) (M : xz_M) (r : Option Value × xz_M) (h : (xz_o (xz_gI M a0 8 0) fun x1 => (if ((1 : Int32) <<< (x1 &&& 31)) ≤ a2 then zL d q_Mo_leastCut 3 [(0, .ref a0), (1, .int (a1 + (1 : Int32)))] M else xz_bI (zC d q_Mo_bits [.int a2] M) fun x2 M1 => (if x2 = a1 then xz_b (xz_is M1 a0 8) (xz_bI (zC d q_Mo_isSet [.ref a0, .int a2] M1) fun x3 M2 => (if x3 = 0 then zL d q_Mo_leastCut 10 [(0, .ref a0), (1, .int a1), (2, .int (a2 + (1 : Int32)))] M2 else xz_b (xz_is M2 a0 8) (xz_bI (zC d q_Mo_isThereOne [.ref a0, .int a2] M2) fun x4 M3 => (if x4 = 0 then some (some (.int a2), M3) else zL d q_Mo_leastCut 10 [(0, .ref a0), (1, .int a1), (2, .int (a2 + (1 : Int32)))] M3)))) else zL d q_Mo_leastCut 10 [(0, .ref a0), (1, .int a1), (2, .int (a2 + (1 : Int32)))] M1))) = some r) : zL d q_Mo_leastCut 10 [(0, .ref a0), (1, .int a1), (2, .int a2)] M = some r := xz_Run_of h
theorem b_Mo_left (d : Nat) (a0 : Nat) (M : xz_M) (r : Option Value × xz_M) (h : (zL d q_Mo_left 5 [(0, .ref a0), (1, .int (0 : Int32)), (2, .int (0 : Int32))] M) = some r) : zC (d + 1) q_Mo_left [.ref a0] M = some r := xz_Run_of h
theorem b_Mo_left_l5 (d : Nat) (a0 : Nat) (a1 : Int32) (a2 : Int32) (M : xz_M) (r : Option Value × xz_M) (h : (xz_o (xz_gI M a0 8 1) fun x1 => (if x1 ≤ a2 then some (some (.int a1), M) else xz_o (xz_gR M a0 8 2) fun x2 => xz_o (xz_lI0 M 1 x2 a2) fun x3 => (if x3 = 0 then zL d q_Mo_left 5 [(0, .ref a0), (1, .int a1), (2, .int (a2 + (1 : Int32)))] M else zL d q_Mo_left 5 [(0, .ref a0), (1, .int (a1 + (1 : Int32))), (2, .int (a2 + (1 : Int32)))] M))) = some r) : zL d q_Mo_left 5 [(0, .ref a0), (1, .int a1), (2, .int a2)] M = some r := xz_Run_of h
theorem b_Mo_looked (d : Nat) (a0 : Nat) (M : xz_M) (r : Option Value × xz_M) (h : (zL d q_Mo_looked 3 [(0, .ref a0), (1, .int (0 : Int32))] M) = some r) : zC (d + 1) q_Mo_looked [.ref a0] M = some r := xz_Run_of h
theorem b_Mo_looked_l3 (d : Nat) (a0 : Nat) (a1 : Int32) (M : xz_M) (r : Option Value × xz_M) (h : (xz_o (xz_gI M a0 8 13) fun x1 => (if x1 ≤ a1 then some (some (.int (-5 : Int32)), M) else xz_o (xz_gR M a0 8 18) fun x2 => xz_o (xz_lI0 M 0 x2 a1) fun x3 => xz_b (xz_is M a0 8) (xz_bI (zC d q_Mo_reachOf [.ref a0, .int x3] M) fun x4 M1 => xz_o (xz_gR M1 a0 8 19) fun x5 => xz_o (xz_lI0 M1 0 x5 a1) fun x6 => (if x4 = x6 then zL d q_Mo_looked 3 [(0, .ref a0), (1, .int (a1 + (1 : Int32)))] M1 else some (some (.int a1), M1))))) = some r) : zL d q_Mo_looked 3 [(0, .ref a0), (1, .int a1)] M = some r := xz_Run_of h
theorem b_Mo_lowest (d : Nat) (a0 : Int64) (a2 : Int64) (a4 : Int32) (M : xz_M) (r : Option Value × xz_M) (h : (zL d q_Mo_lowest 5 [(0, .long a0), (2, .long a2), (4, .int a4), (5, .long a0), (7, .long a2)] M) = some r) : zC (d + 1) q_Mo_lowest [.long a0, .long a2, .int a4] M = some r := xz_Run_of h
theorem b_Mo_lowest_l5 (d : Nat) (a0 : Int64) (a2 : Int64) (a4 : Int32) (a5 : Int64) (a7 : Int64) (M : xz_M) (r : Option Value × xz_M) (h : ((if (lg_cmp a7 (0 : Int64)) = 0 then (if a4 = 0 then (if a5 = 0 then none else some (some (.long (a0 / a5)), M)) else (if a5 = 0 then none else some (some (.long (a2 / a5)), M))) else (if a7 = 0 then none else zL d q_Mo_lowest 5 [(0, .long a0), (2, .long a2), (4, .int a4), (5, .long a7), (7, .long (a5 - a5 / a7 * a7))] M))) = some r) : zL d q_Mo_lowest 5 [(0, .long a0), (2, .long a2), (4, .int a4), (5, .long a5), (7, .long a7)] M = some r := xz_Run_of h
theorem b_Mo_mayBeIn (d : Nat) (a0 : Nat) (a1 : Int32) (M : xz_M) (r : Option Value × xz_M) (h : (xz_o (xz_gI M a0 8 8) fun x1 => (if a1 = x1 then some (some (.int (0 : Int32)), M) else xz_o (xz_gI M a0 8 9) fun x2 => (if a1 = x2 then some (some (.int (0 : Int32)), M) else some (some (.int (1 : Int32)), M)))) = some r) : zC (d + 1) q_Mo_mayBeIn [.ref a0, .int a1] M = some r := xz_Run_of h
theorem b_Mo_mean (d : Nat) (a0 : Nat) (a1 : Int32) (M : xz_M) (r : Option Value × xz_M) (h : (xz_bI (zC d q_Mo_isPart [.int a1] M) fun x1 M1 => (if x1 = 0 then some (some (.long (-9223372036854775808 : Int64)), M1) else xz_b (xz_is M1 a0 8) (xz_bV (zC d q_Mo_tellReaches [.ref a0] M1) fun M2 => zL d q_Mo_mean 14 [(0, .ref a0), (1, .int a1), (2, .int (0 : Int32)), (3, .int (0 : Int32)), (4, .int (0 : Int32))] M2))) = some r) : zC (d + 1) q_Mo_mean [.ref a0, .int a1] M = some r := xz_Run_of h
theorem b_Mo_mean_l14 (d : Nat) (a0 : Nat) (a1 : Int32) (a2 : Int32) (a3 : Int32) (a4 : Int32) (M : xz_M) (r : Option Value × xz_M) (h : (xz_o (xz_gI M a0 8 0) fun x1 => (if x1 ≤ a4 then xz_bJ (zC d q_Mo_lowest [.long (Int32.toInt64 a2), .long (Int32.toInt64 a3), .int a1] M) fun x2 M1 => some (some (.long x2), M1) else xz_o (xz_gR M a0 8 40) fun x3 => xz_o (xz_lI0 M 0 x3 a4) fun x4 => (if x4 = (-5 : Int32) then zL d q_Mo_mean 14 [(0, .ref a0), (1, .int a1), (2, .int a2), (3, .int a3), (4, .int (a4 + (1 : Int32)))] M else xz_o (xz_gR M a0 8 40) fun x5 => xz_o (xz_lI0 M 0 x5 a4) fun x6 => zL d q_Mo_mean 14 [(0, .ref a0), (1, .int a1), (2, .int (a2 + x6)), (3, .int (a3 + (1 : Int32))), (4, .int (a4 + (1 : Int32)))] M))) = some r) : zL d q_Mo_mean 14 [(0, .ref a0), (1, .int a1), (2, .int a2), (3, .int a3), (4, .int a4)] M = some r := xz_Run_of h
set_option maxRecDepth 100000 in
theorem b_Mo_meet (d : Nat) (a0 : Nat) (a1 : Int32) (a2 : Int32) (a3 : Int32) (a4 : Int32) (M : xz_M) (r : Option Value × xz_M) (h : (xz_b (xz_is M a0 8) (xz_bI (zC d q_Mo_areTwo [.ref a0, .int a2, .int a3] M) fun x1 M1 => (if x1 = 0 then some (some (.int (-1 : Int32)), M1) else xz_bI (zC d q_Mo_isTime [.int a1] M1) fun x2 M2 => (if x2 = 0 then some (some (.int (-2 : Int32)), M2) else xz_bI (zC d q_Mo_in [.long (Int32.toInt64 a4), .long (1 : Int64), .long (100 : Int64)] M2) fun x3 M3 => (if x3 = 0 then some (some (.int (-2 : Int32)), M3) else xz_o (xz_gI M3 a0 8 1) fun x4 => (if x4 = (14 : Int32) then some (some (.int (-4 : Int32)), M3) else xz_o (xz_gR M3 a0 8 2) fun x5 => xz_o (xz_gI M3 a0 8 1) fun x6 => xz_o (xz_sZ0 M3 x5 x6 (1 : Int32)) fun M4 => xz_o (xz_gR M4 a0 8 3) fun x7 => xz_o (xz_gI M4 a0 8 1) fun x8 => xz_o (xz_sI0 M4 x7 x8 a1) fun M5 => xz_o (xz_gR M5 a0 8 4) fun x9 => xz_o (xz_gI M5 a0 8 1) fun x10 => xz_o (xz_sI0 M5 x9 x10 a2) fun M6 => xz_o (xz_gR M6 a0 8 5) fun x11 => xz_o (xz_gI M6 a0 8 1) fun x12 => xz_o (xz_sI0 M6 x11 x12 a3) fun M7 => xz_o (xz_gR M7 a0 8 6) fun x13 => xz_o (xz_gI M7 a0 8 1) fun x14 => xz_o (xz_sI0 M7 x13 x14 a4) fun M8 => xz_o (xz_gI M8 a0 8 1) fun x15 => xz_o (xz_wI M8 a0 8 1 (x15 + (1 : Int32))) fun M9 => xz_o (xz_gI M9 a0 8 1) fun x16 => some (some (.int (x16 - (1 : Int32))), M9))))))) = some r) : zC (d + 1) q_Mo_meet [.ref a0, .int a1, .int a2, .int a3, .int a4] M = some r := xz_Run_of h
theorem b_Mo_meeting (d : Nat) (a0 : Nat) (a1 : Int32) (a2 : Int32) (M : xz_M) (r : Option Value × xz_M) (h : (xz_bI (zC d q_Mo_in [.long (Int32.toInt64 a2), .long (0 : Int64), .long (3 : Int64)] M) fun x1 M1 => (if x1 = 0 then some (some (.int (-1 : Int32)), M1) else xz_b (xz_is M1 a0 8) (xz_bI (zC d q_Mo_refusal1 [.ref a0, .int a1] M1) fun x2 M2 => (if x2 = 0 then (if a2 = 0 then xz_o (xz_gR M2 a0 8 3) fun x9 => xz_o (xz_lI0 M2 0 x9 a1) fun x10 => some (some (.int x10), M2) else (if a2 = (1 : Int32) then xz_o (xz_gR M2 a0 8 4) fun x7 => xz_o (xz_lI0 M2 0 x7 a1) fun x8 => some (some (.int x8), M2) else (if a2 = (2 : Int32) then xz_o (xz_gR M2 a0 8 5) fun x5 => xz_o (xz_lI0 M2 0 x5 a1) fun x6 => some (some (.int x6), M2) else xz_o (xz_gR M2 a0 8 6) fun x3 => xz_o (xz_lI0 M2 0 x3 a1) fun x4 => some (some (.int x4), M2)))) else some (some (.int x2), M2))))) = some r) : zC (d + 1) q_Mo_meeting [.ref a0, .int a1, .int a2] M = some r := xz_Run_of h
theorem b_Mo_numberRead (d : Nat) (a0 : Nat) (a1 : Int32) (M : xz_M) (r : Option Value × xz_M) (h : (xz_o (xz_gI M a0 8 24) fun x1 => (if x1 < 0 then xz_o (xz_gI M a0 8 23) fun x2 => xz_b (xz_is M a0 8) (xz_bI (zC d q_Mo_signAt [.ref a0, .int x2] M) fun x3 M1 => (if x3 = (32 : Int32) then xz_o (xz_gI M1 a0 8 23) fun x4 => xz_o (xz_wI M1 a0 8 23 (x4 + (1 : Int32))) fun M2 => zL d q_Mo_numberRead 28 [(0, .ref a0), (1, .int a1), (2, .int (0 : Int32)), (3, .int (0 : Int32))] M2 else xz_o (xz_gI M1 a0 8 23) fun x5 => xz_o (xz_wI M1 a0 8 24 x5) fun M3 => some (some (.int (0 : Int32)), M3))) else some (some (.int (0 : Int32)), M))) = some r) : zC (d + 1) q_Mo_numberRead [.ref a0, .int a1] M = some r := xz_Run_of h
theorem b_Mo_numberRead_l28 (d : Nat) (a0 : Nat) (a1 : Int32) (a2 : Int32) (a3 : Int32) (M : xz_M) (r : Option Value × xz_M) (h : ((if a1 ≤ a2 then (if a2 = 0 then xz_o (xz_gI M a0 8 23) fun x1 => xz_o (xz_wI M a0 8 24 x1) fun M1 => some (some (.int a3), M1) else some (some (.int a3), M)) else xz_o (xz_gI M a0 8 23) fun x2 => xz_b (xz_is M a0 8) (xz_bI (zC d q_Mo_signAt [.ref a0, .int x2] M) fun x3 M2 => xz_bI (zC d q_Mo_in [.long (Int32.toInt64 x3), .long (48 : Int64), .long (57 : Int64)] M2) fun x4 M3 => (if x4 = 0 then (if a2 = 0 then xz_o (xz_gI M3 a0 8 23) fun x5 => xz_o (xz_wI M3 a0 8 24 x5) fun M4 => some (some (.int a3), M4) else some (some (.int a3), M3)) else xz_o (xz_gR M3 a0 8 21) fun x6 => xz_o (xz_gI M3 a0 8 23) fun x7 => xz_o (xz_lI0 M3 0 x6 x7) fun x8 => xz_o (xz_gI M3 a0 8 23) fun x9 => xz_o (xz_wI M3 a0 8 23 (x9 + (1 : Int32))) fun M5 => zL d q_Mo_numberRead 28 [(0, .ref a0), (1, .int a1), (2, .int (a2 + (1 : Int32))), (3, .int ((((10 : Int32) * a3) + x8) - (48 : Int32)))] M5)))) = some r) : zL d q_Mo_numberRead 28 [(0, .ref a0), (1, .int a1), (2, .int a2), (3, .int a3)] M = some r := xz_Run_of h
theorem b_Mo_odds (d : Nat) (a0 : Nat) (a1 : Int32) (M : xz_M) (r : Option Value × xz_M) (h : (xz_b (xz_is M a0 8) (xz_bI (zC d q_Mo_left [.ref a0] M) fun x1 M1 => xz_bI (zC d q_Mo_isPart [.int a1] M1) fun x2 M2 => (if x2 = 0 then some (some (.long (-9223372036854775808 : Int64)), M2) else (if x1 = 0 then some (some (.long (-9223372036854775808 : Int64)), M2) else zL d q_Mo_odds 15 [(0, .ref a0), (1, .int a1), (2, .int x1), (3, .int (0 : Int32)), (4, .int (0 : Int32))] M2)))) = some r) : zC (d + 1) q_Mo_odds [.ref a0, .int a1] M = some r := xz_Run_of h
theorem b_Mo_odds_l15 (d : Nat) (a0 : Nat) (a1 : Int32) (a2 : Int32) (a3 : Int32) (a4 : Int32) (M : xz_M) (r : Option Value × xz_M) (h : (xz_o (xz_gI M a0 8 1) fun x1 => (if x1 ≤ a4 then xz_bJ (zC d q_Mo_lowest [.long (Int32.toInt64 a3), .long (Int32.toInt64 a2), .int a1] M) fun x2 M1 => some (some (.long x2), M1) else xz_o (xz_gR M a0 8 2) fun x3 => xz_o (xz_lI0 M 1 x3 a4) fun x4 => (if x4 = 0 then zL d q_Mo_odds 15 [(0, .ref a0), (1, .int a1), (2, .int a2), (3, .int a3), (4, .int (a4 + (1 : Int32)))] M else xz_o (xz_gR M a0 8 2) fun x5 => xz_o (xz_sZ0 M x5 a4 (0 : Int32)) fun M2 => xz_b (xz_is M2 a0 8) (xz_bI (zC d q_Mo_isThereOne [.ref a0, .int (0 : Int32)] M2) fun x6 M3 => (if x6 = 0 then xz_o (xz_gR M3 a0 8 2) fun x7 => xz_o (xz_sZ0 M3 x7 a4 (1 : Int32)) fun M4 => zL d q_Mo_odds 15 [(0, .ref a0), (1, .int a1), (2, .int a2), (3, .int a3), (4, .int (a4 + (1 : Int32)))] M4 else xz_o (xz_gR M3 a0 8 2) fun x8 => xz_o (xz_sZ0 M3 x8 a4 (1 : Int32)) fun M5 => zL d q_Mo_odds 15 [(0, .ref a0), (1, .int a1), (2, .int a2), (3, .int (a3 + (1 : Int32))), (4, .int (a4 + (1 : Int32)))] M5))))) = some r) : zL d q_Mo_odds 15 [(0, .ref a0), (1, .int a1), (2, .int a2), (3, .int a3), (4, .int a4)] M = some r := xz_Run_of h
theorem b_Mo_otherBy (d : Nat) (a0 : Nat) (a1 : Int32) (a2 : Int32) (M : xz_M) (r : Option Value × xz_M) (h : (xz_o (xz_gR M a0 8 4) fun x1 => xz_o (xz_lI0 M 0 x1 a1) fun x2 => (if x2 = a2 then xz_o (xz_gR M a0 8 5) fun x7 => xz_o (xz_lI0 M 0 x7 a1) fun x8 => some (some (.int x8), M) else xz_o (xz_gR M a0 8 5) fun x3 => xz_o (xz_lI0 M 0 x3 a1) fun x4 => (if x4 = a2 then xz_o (xz_gR M a0 8 4) fun x5 => xz_o (xz_lI0 M 0 x5 a1) fun x6 => some (some (.int x6), M) else some (some (.int (-1 : Int32)), M)))) = some r) : zC (d + 1) q_Mo_otherBy [.ref a0, .int a1, .int a2] M = some r := xz_Run_of h
theorem b_Mo_peek (d : Nat) (a0 : Nat) (a1 : Int32) (a2 : Int32) (M : xz_M) (r : Option Value × xz_M) (h : (xz_b (xz_is M a0 8) (xz_bI (zC d q_Mo_refusal2 [.ref a0, .int a1, .int a2] M) fun x1 M1 => (if x1 = 0 then xz_o (xz_gR M1 a0 8 49) fun x2 => xz_o (xz_lR0 M1 x2 a1) fun x3 => xz_o (xz_lJ0 M1 x3 a2) fun x4 => some (some (.long x4), M1) else some (some (.long (-9223372036854775808 : Int64)), M1)))) = some r) : zC (d + 1) q_Mo_peek [.ref a0, .int a1, .int a2] M = some r := xz_Run_of h
theorem b_Mo_people (d : Nat) (a0 : Nat) (a1 : Int32) (M : xz_M) (r : Option Value × xz_M) (h : (xz_bI (zC d q_Mo_in [.long (Int32.toInt64 a1), .long (2 : Int64), .long (6 : Int64)] M) fun x1 M1 => (if x1 = 0 then some (some (.int (-2 : Int32)), M1) else xz_o (xz_gI M1 a0 8 0) fun x2 => xz_o (xz_wI M1 a0 8 0 a1) fun M2 => xz_o (xz_wI M2 a0 8 1 (0 : Int32)) fun M3 => xz_o (xz_wI M3 a0 8 8 (0 : Int32)) fun M4 => xz_o (xz_wI M4 a0 8 9 (1 : Int32)) fun M5 => xz_o (xz_wI M5 a0 8 10 (0 : Int32)) fun M6 => xz_o (xz_wI M6 a0 8 11 (0 : Int32)) fun M7 => xz_o (xz_wI M7 a0 8 12 (0 : Int32)) fun M8 => xz_o (xz_wI M8 a0 8 13 (0 : Int32)) fun M9 => some (some (.int x2), M9))) = some r) : zC (d + 1) q_Mo_people [.ref a0, .int a1] M = some r := xz_Run_of h
theorem b_Mo_points (d : Nat) (a0 : Nat) (M : xz_M) (r : Option Value × xz_M) (h : (zL d q_Mo_points 5 [(0, .ref a0), (1, .int (0 : Int32)), (2, .int (0 : Int32))] M) = some r) : zC (d + 1) q_Mo_points [.ref a0] M = some r := xz_Run_of h
theorem b_Mo_points_l5 (d : Nat) (a0 : Nat) (a1 : Int32) (a2 : Int32) (M : xz_M) (r : Option Value × xz_M) (h : (xz_o (xz_gI M a0 8 0) fun x1 => (if x1 ≤ a2 then some (some (.int a1), M) else xz_b (xz_is M a0 8) (xz_bI (zC d q_Mo_mayBeIn [.ref a0, .int a2] M) fun x2 M1 => (if x2 = 0 then zL d q_Mo_points 5 [(0, .ref a0), (1, .int a1), (2, .int (a2 + (1 : Int32)))] M1 else xz_b (xz_is M1 a0 8) (xz_bI (zC d q_Mo_isThereOne [.ref a0, .int ((1 : Int32) <<< (a2 &&& 31))] M1) fun x3 M2 => (if x3 = 0 then zL d q_Mo_points 5 [(0, .ref a0), (1, .int (a1 ||| ((1 : Int32) <<< (a2 &&& 31)))), (2, .int (a2 + (1 : Int32)))] M2 else zL d q_Mo_points 5 [(0, .ref a0), (1, .int a1), (2, .int (a2 + (1 : Int32)))] M2)))))) = some r) : zL d q_Mo_points 5 [(0, .ref a0), (1, .int a1), (2, .int a2)] M = some r := xz_Run_of h
theorem b_Mo_rank (d : Nat) (a0 : Nat) (a1 : Int32) (M : xz_M) (r : Option Value × xz_M) (h : ((if 0 ≤ a1 then xz_b (xz_is M a0 8) (xz_bV (zC d q_Mo_tellReaches [.ref a0] M) fun M1 => zL d q_Mo_rank 11 [(0, .ref a0), (2, .int a1), (3, .int (0 : Int32))] M1) else some (some (.int (-1 : Int32)), M))) = some r) : zC (d + 1) q_Mo_rank [.ref a0, .int a1] M = some r := xz_Run_of h
theorem b_Mo_rank_l11 (d : Nat) (a0 : Nat) (a2 : Int32) (a3 : Int32) (M : xz_M) (r : Option Value × xz_M) (h : ((if (99 : Int32) < a3 then some (some (.int (-5 : Int32)), M) else xz_o (xz_gI M a0 8 0) fun x1 => zL d q_Mo_rank 20 [(0, .ref a0), (2, .int a2), (3, .int a3), (4, .int (x1 - (1 : Int32)))] M)) = some r) : zL d q_Mo_rank 11 [(0, .ref a0), (2, .int a2), (3, .int a3)] M = some r := xz_Run_of h
theorem b_Mo_rank_l20 (d : Nat) (a0 : Nat) (a2 : Int32) (a3 : Int32) (a4 : Int32) (M : xz_M) (r : Option Value × xz_M) (h : ((if a4 < 0 then zL d q_Mo_rank 11 [(0, .ref a0), (2, .int a2), (3, .int (a3 + (1 : Int32)))] M else xz_o (xz_gR M a0 8 40) fun x1 => xz_o (xz_lI0 M 0 x1 a4) fun x2 => (if x2 = a3 then (if a2 = 0 then some (some (.int a4), M) else zL d q_Mo_rank 20 [(0, .ref a0), (2, .int (a2 + (-1 : Int32))), (3, .int a3), (4, .int (a4 + (-1 : Int32)))] M) else zL d q_Mo_rank 20 [(0, .ref a0), (2, .int a2), (3, .int a3), (4, .int (a4 + (-1 : Int32)))] M))) = some r) : zL d q_Mo_rank 20 [(0, .ref a0), (2, .int a2), (3, .int a3), (4, .int a4)] M = some r := xz_Run_of h
theorem b_Mo_reach (d : Nat) (a0 : Nat) (a1 : Int32) (M : xz_M) (r : Option Value × xz_M) (h : (xz_b (xz_is M a0 8) (xz_bI (zC d q_Mo_isPerson [.ref a0, .int a1] M) fun x1 M1 => (if x1 = 0 then some (some (.int (-1 : Int32)), M1) else xz_b (xz_is M1 a0 8) (xz_bI (zC d q_Mo_reachOf [.ref a0, .int a1] M1) fun x2 M2 => some (some (.int x2), M2))))) = some r) : zC (d + 1) q_Mo_reach [.ref a0, .int a1] M = some r := xz_Run_of h
theorem b_Mo_reachOf (d : Nat) (a0 : Nat) (a1 : Int32) (M : xz_M) (r : Option Value × xz_M) (h : (xz_b (xz_is M a0 8) (xz_bV (zC d q_Mo_finds [.ref a0, .int a1, .int (0 : Int32), .int (6 : Int32), .int (0 : Int32), .int (0 : Int32)] M) fun M1 => xz_o (xz_gI M1 a0 8 37) fun x1 => (if x1 = 0 then some (some (.int (-5 : Int32)), M1) else xz_o (xz_gI M1 a0 8 34) fun x2 => some (some (.int x2), M1)))) = some r) : zC (d + 1) q_Mo_reachOf [.ref a0, .int a1] M = some r := xz_Run_of h
theorem b_Mo_reachedSet (d : Nat) (a0 : Nat) (M : xz_M) (r : Option Value × xz_M) (h : (xz_b (xz_is M a0 8) (xz_bV (zC d q_Mo_tellReaches [.ref a0] M) fun M1 => zL d q_Mo_reachedSet 7 [(0, .ref a0), (1, .int (0 : Int32)), (2, .int (0 : Int32))] M1)) = some r) : zC (d + 1) q_Mo_reachedSet [.ref a0] M = some r := xz_Run_of h
theorem b_Mo_reachedSet_l7 (d : Nat) (a0 : Nat) (a1 : Int32) (a2 : Int32) (M : xz_M) (r : Option Value × xz_M) (h : (xz_o (xz_gI M a0 8 0) fun x1 => (if x1 ≤ a2 then some (some (.int a1), M) else xz_o (xz_gR M a0 8 40) fun x2 => xz_o (xz_lI0 M 0 x2 a2) fun x3 => (if x3 = (-5 : Int32) then zL d q_Mo_reachedSet 7 [(0, .ref a0), (1, .int a1), (2, .int (a2 + (1 : Int32)))] M else zL d q_Mo_reachedSet 7 [(0, .ref a0), (1, .int (a1 ||| ((1 : Int32) <<< (a2 &&& 31)))), (2, .int (a2 + (1 : Int32)))] M))) = some r) : zL d q_Mo_reachedSet 7 [(0, .ref a0), (1, .int a1), (2, .int a2)] M = some r := xz_Run_of h
theorem b_Mo_read (d : Nat) (a0 : Nat) (M : xz_M) (r : Option Value × xz_M) (h : (xz_o (xz_wI M a0 8 23 (0 : Int32)) fun M1 => xz_o (xz_wI M1 a0 8 24 (-1 : Int32)) fun M2 => xz_o (xz_wI M2 a0 8 25 (0 : Int32)) fun M3 => xz_b (xz_is M3 a0 8) (xz_bV (zC d q_Mo_clauseRead [.ref a0] M3) fun M4 => zL d q_Mo_read 12 [(0, .ref a0)] M4)) = some r) : zC (d + 1) q_Mo_read [.ref a0] M = some r := xz_Run_of h
set_option maxRecDepth 100000 in
theorem b_Mo_read_l12 (d : Nat) (a0 : Nat) (M : xz_M) (r : Option Value × xz_M) (h : (xz_o (xz_gI M a0 8 24) fun x1 => (if 0 ≤ x1 then xz_o (xz_wI M a0 8 22 (0 : Int32)) fun M1 => xz_o (xz_gI M1 a0 8 24) fun x2 => (if x2 < 0 then zL d q_Mo_read 61 [(0, .ref a0), (1, .int (0 : Int32)), (2, .int (0 : Int32))] M1 else xz_o (xz_gI M1 a0 8 24) fun x3 => some (some (.int ((-10 : Int32) - x3)), M1)) else xz_o (xz_gI M a0 8 23) fun x4 => xz_o (xz_gI M a0 8 22) fun x5 => (if x5 ≤ x4 then xz_o (xz_wI M a0 8 22 (0 : Int32)) fun M2 => xz_o (xz_gI M2 a0 8 24) fun x6 => (if x6 < 0 then zL d q_Mo_read 61 [(0, .ref a0), (1, .int (0 : Int32)), (2, .int (0 : Int32))] M2 else xz_o (xz_gI M2 a0 8 24) fun x7 => some (some (.int ((-10 : Int32) - x7)), M2)) else xz_o (xz_gR M a0 8 21) fun x8 => xz_o (xz_gI M a0 8 23) fun x9 => xz_o (xz_lI0 M 0 x8 x9) fun x10 => (if x10 = (59 : Int32) then xz_o (xz_gI M a0 8 25) fun x12 => (if x12 = (12 : Int32) then xz_o (xz_gI M a0 8 23) fun x14 => xz_o (xz_wI M a0 8 24 x14) fun M6 => zL d q_Mo_read 12 [(0, .ref a0)] M6 else xz_o (xz_gI M a0 8 23) fun x13 => xz_o (xz_wI M a0 8 23 (x13 + (1 : Int32))) fun M4 => xz_b (xz_is M4 a0 8) (xz_bV (zC d q_Mo_clauseRead [.ref a0] M4) fun M5 => zL d q_Mo_read 12 [(0, .ref a0)] M5)) else xz_o (xz_gI M a0 8 23) fun x11 => xz_o (xz_wI M a0 8 24 x11) fun M3 => zL d q_Mo_read 12 [(0, .ref a0)] M3)))) = some r) : zL d q_Mo_read 12 [(0, .ref a0)] M = some r := xz_Run_of h
theorem b_Mo_read_l61 (d : Nat) (a0 : Nat) (a1 : Int32) (a2 : Int32) (M : xz_M) (r : Option Value × xz_M) (h : (xz_o (xz_gI M a0 8 25) fun x1 => (if x1 ≤ a2 then some (some (.int a1), M) else xz_b (xz_is M a0 8) (xz_bI (zC d q_Mo_done [.ref a0, .int a2] M) fun x2 M1 => (if x2 < 0 then zL d q_Mo_read 61 [(0, .ref a0), (1, .int a1), (2, .int (a2 + (1 : Int32)))] M1 else zL d q_Mo_read 61 [(0, .ref a0), (1, .int (a1 + (1 : Int32))), (2, .int (a2 + (1 : Int32)))] M1)))) = some r) : zL d q_Mo_read 61 [(0, .ref a0), (1, .int a1), (2, .int a2)] M = some r := xz_Run_of h
theorem b_Mo_refusal1 (d : Nat) (a0 : Nat) (a1 : Int32) (M : xz_M) (r : Option Value × xz_M) (h : (xz_o (xz_gI M a0 8 1) fun x1 => xz_bI (zC d q_Mo_in [.long (Int32.toInt64 a1), .long (0 : Int64), .long (Int32.toInt64 (x1 - (1 : Int32)))] M) fun x2 M1 => (if x2 = 0 then some (some (.int (-13 : Int32)), M1) else xz_o (xz_gR M1 a0 8 2) fun x3 => xz_o (xz_lI0 M1 1 x3 a1) fun x4 => (if x4 = 0 then some (some (.int (-11 : Int32)), M1) else some (some (.int (0 : Int32)), M1)))) = some r) : zC (d + 1) q_Mo_refusal1 [.ref a0, .int a1] M = some r := xz_Run_of h
theorem b_Mo_refusal2 (d : Nat) (a0 : Nat) (a1 : Int32) (a2 : Int32) (M : xz_M) (r : Option Value × xz_M) (h : (xz_bI (zC d q_Mo_isTape [.int a1] M) fun x1 M1 => (if x1 = 0 then some (some (.int (-1 : Int32)), M1) else xz_o (xz_gR M1 a0 8 47) fun x2 => xz_o (xz_lI0 M1 0 x2 a1) fun x3 => (if 0 ≤ x3 then xz_o (xz_gR M1 a0 8 48) fun x4 => xz_o (xz_lI0 M1 0 x4 a1) fun x5 => xz_bI (zC d q_Mo_in [.long (Int32.toInt64 a2), .long (0 : Int64), .long (Int32.toInt64 (x5 - (1 : Int32)))] M1) fun x6 M2 => (if x6 = 0 then some (some (.int (-13 : Int32)), M2) else some (some (.int (0 : Int32)), M2)) else some (some (.int (-11 : Int32)), M1)))) = some r) : zC (d + 1) q_Mo_refusal2 [.ref a0, .int a1, .int a2] M = some r := xz_Run_of h
set_option maxRecDepth 100000 in
theorem b_Mo_renew (d : Nat) (a0 : Nat) (a1 : Int32) (a2 : Int32) (a3 : Int32) (M : xz_M) (r : Option Value × xz_M) (h : (xz_bI (zC d q_Mo_in [.long (Int32.toInt64 a2), .long (0 : Int64), .long (1 : Int64)] M) fun x1 M1 => (if x1 = 0 then some (some (.int (-1 : Int32)), M1) else xz_b (xz_is M1 a0 8) (xz_bI (zC d q_Mo_refusal1 [.ref a0, .int a1] M1) fun x2 M2 => (if x2 = 0 then (if a2 = 0 then xz_bI (zC d q_Mo_isTime [.int a3] M2) fun x12 M8 => (if x12 = 0 then some (some (.int (-2 : Int32)), M8) else (if a2 = 0 then xz_o (xz_gR M8 a0 8 3) fun x17 => xz_o (xz_lI0 M8 0 x17 a1) fun x18 => (if a2 = 0 then xz_o (xz_gR M8 a0 8 3) fun x20 => xz_o (xz_sI0 M8 x20 a1 a3) fun M12 => some (some (.int x18), M12) else xz_o (xz_gR M8 a0 8 6) fun x19 => xz_o (xz_sI0 M8 x19 a1 a3) fun M11 => some (some (.int x18), M11)) else xz_o (xz_gR M8 a0 8 6) fun x13 => xz_o (xz_lI0 M8 0 x13 a1) fun x14 => (if a2 = 0 then xz_o (xz_gR M8 a0 8 3) fun x16 => xz_o (xz_sI0 M8 x16 a1 a3) fun M10 => some (some (.int x14), M10) else xz_o (xz_gR M8 a0 8 6) fun x15 => xz_o (xz_sI0 M8 x15 a1 a3) fun M9 => some (some (.int x14), M9)))) else xz_bI (zC d q_Mo_in [.long (Int32.toInt64 a3), .long (1 : Int64), .long (100 : Int64)] M2) fun x3 M3 => (if x3 = 0 then some (some (.int (-2 : Int32)), M3) else (if a2 = 0 then xz_o (xz_gR M3 a0 8 3) fun x8 => xz_o (xz_lI0 M3 0 x8 a1) fun x9 => (if a2 = 0 then xz_o (xz_gR M3 a0 8 3) fun x11 => xz_o (xz_sI0 M3 x11 a1 a3) fun M7 => some (some (.int x9), M7) else xz_o (xz_gR M3 a0 8 6) fun x10 => xz_o (xz_sI0 M3 x10 a1 a3) fun M6 => some (some (.int x9), M6)) else xz_o (xz_gR M3 a0 8 6) fun x4 => xz_o (xz_lI0 M3 0 x4 a1) fun x5 => (if a2 = 0 then xz_o (xz_gR M3 a0 8 3) fun x7 => xz_o (xz_sI0 M3 x7 a1 a3) fun M5 => some (some (.int x5), M5) else xz_o (xz_gR M3 a0 8 6) fun x6 => xz_o (xz_sI0 M3 x6 a1 a3) fun M4 => some (some (.int x5), M4))))) else some (some (.int x2), M2))))) = some r) : zC (d + 1) q_Mo_renew [.ref a0, .int a1, .int a2, .int a3] M = some r := xz_Run_of h
set_option maxRecDepth 100000 in
theorem b_Mo_row (d : Nat) (a0 : Nat) (a1 : Int32) (M : xz_M) (r : Option Value × xz_M) (h : ((if a1 = 0 then xz_o (xz_gR M a0 8 3) fun x10 => some (some (.ref x10), M) else (if a1 = (1 : Int32) then xz_o (xz_gR M a0 8 4) fun x9 => some (some (.ref x9), M) else (if a1 = (2 : Int32) then xz_o (xz_gR M a0 8 5) fun x8 => some (some (.ref x8), M) else (if a1 = (3 : Int32) then xz_o (xz_gR M a0 8 6) fun x7 => some (some (.ref x7), M) else (if a1 = (4 : Int32) then xz_o (xz_gR M a0 8 14) fun x6 => some (some (.ref x6), M) else (if a1 = (5 : Int32) then xz_o (xz_gR M a0 8 15) fun x5 => some (some (.ref x5), M) else (if a1 = (6 : Int32) then xz_o (xz_gR M a0 8 16) fun x4 => some (some (.ref x4), M) else (if a1 = (7 : Int32) then xz_o (xz_gR M a0 8 17) fun x3 => some (some (.ref x3), M) else (if a1 = (8 : Int32) then xz_o (xz_gR M a0 8 18) fun x2 => some (some (.ref x2), M) else xz_o (xz_gR M a0 8 19) fun x1 => some (some (.ref x1), M))))))))))) = some r) : zC (d + 1) q_Mo_row [.ref a0, .int a1] M = some r := xz_Run_of h
theorem b_Mo_see (d : Nat) (a0 : Nat) (a1 : Int32) (a2 : Int32) (a3 : Int32) (M : xz_M) (r : Option Value × xz_M) (h : ((if a1 = (-1 : Int32) then xz_o (xz_wI M a0 8 11 (0 : Int32)) fun M7 => some (some (.int (0 : Int32)), M7) else xz_b (xz_is M a0 8) (xz_bI (zC d q_Mo_isPerson [.ref a0, .int a1] M) fun x1 M1 => (if x1 = 0 then some (some (.int (-1 : Int32)), M1) else xz_bI (zC d q_Mo_isTime [.int a2] M1) fun x2 M2 => (if x2 = 0 then some (some (.int (-2 : Int32)), M2) else xz_o (xz_gI M2 a0 8 11) fun x3 => (if x3 = (6 : Int32) then some (some (.int (-4 : Int32)), M2) else xz_o (xz_gR M2 a0 8 14) fun x4 => xz_o (xz_gI M2 a0 8 11) fun x5 => xz_o (xz_sI0 M2 x4 x5 a1) fun M3 => xz_o (xz_gR M3 a0 8 15) fun x6 => xz_o (xz_gI M3 a0 8 11) fun x7 => xz_o (xz_sI0 M3 x6 x7 a2) fun M4 => xz_o (xz_gR M4 a0 8 20) fun x8 => xz_o (xz_gI M4 a0 8 11) fun x9 => xz_o (xz_sZ0 M4 x8 x9 a3) fun M5 => xz_o (xz_gI M5 a0 8 11) fun x10 => xz_o (xz_wI M5 a0 8 11 (x10 + (1 : Int32))) fun M6 => xz_o (xz_gI M6 a0 8 11) fun x11 => some (some (.int x11), M6))))))) = some r) : zC (d + 1) q_Mo_see [.ref a0, .int a1, .int a2, .int a3] M = some r := xz_Run_of h
set_option maxRecDepth 100000 in
theorem b_Mo_shift (d : Nat) (a0 : Nat) (a1 : Int32) (a2 : Int32) (a3 : Int32) (a4 : Int32) (a5 : Int32) (M : xz_M) (r : Option Value × xz_M) (h : (xz_bI (zC d q_Mo_isTape [.int a1] M) fun x1 M1 => (if x1 = 0 then some (some (.int (-1 : Int32)), M1) else xz_bI (zC d q_Mo_isTape [.int a3] M1) fun x2 M2 => (if x2 = 0 then some (some (.int (-1 : Int32)), M2) else xz_o (xz_gR M2 a0 8 47) fun x3 => xz_o (xz_lI0 M2 0 x3 a1) fun x4 => (if x4 < 0 then some (some (.int (-11 : Int32)), M2) else xz_o (xz_gR M2 a0 8 47) fun x5 => xz_o (xz_lI0 M2 0 x5 a3) fun x6 => (if 0 ≤ x6 then xz_o (xz_gR M2 a0 8 47) fun x7 => xz_o (xz_lI0 M2 0 x7 a1) fun x8 => xz_o (xz_gR M2 a0 8 47) fun x9 => xz_o (xz_lI0 M2 0 x9 a3) fun x10 => (if x8 = x10 then (if a5 < 0 then some (some (.int (-13 : Int32)), M2) else (if a2 < 0 then some (some (.int (-13 : Int32)), M2) else (if a4 < 0 then some (some (.int (-13 : Int32)), M2) else xz_o (xz_gR M2 a0 8 48) fun x11 => xz_o (xz_lI0 M2 0 x11 a1) fun x12 => (if (x12 - a5) < a2 then some (some (.int (-13 : Int32)), M2) else xz_o (xz_gR M2 a0 8 48) fun x13 => xz_o (xz_lI0 M2 0 x13 a3) fun x14 => (if a4 ≤ (x14 - a5) then xz_o (xz_gR M2 a0 8 49) fun x15 => xz_o (xz_lR0 M2 x15 a1) fun x16 => xz_o (xz_gR M2 a0 8 50) fun x17 => xz_o (xz_copy M2 x16 a2 x17 (0 : Int32) a5) fun M3 => xz_o (xz_gR M3 a0 8 50) fun x18 => xz_o (xz_gR M3 a0 8 49) fun x19 => xz_o (xz_lR0 M3 x19 a3) fun x20 => xz_o (xz_copy M3 x18 (0 : Int32) x20 a4 a5) fun M4 => some (some (.int a5), M4) else some (some (.int (-13 : Int32)), M2)))))) else some (some (.int (-12 : Int32)), M2)) else some (some (.int (-11 : Int32)), M2)))))) = some r) : zC (d + 1) q_Mo_shift [.ref a0, .int a1, .int a2, .int a3, .int a4, .int a5] M = some r := xz_Run_of h
theorem b_Mo_signAt (d : Nat) (a0 : Nat) (a1 : Int32) (M : xz_M) (r : Option Value × xz_M) (h : (xz_o (xz_gI M a0 8 22) fun x1 => (if x1 ≤ a1 then some (some (.int (-1 : Int32)), M) else xz_o (xz_gR M a0 8 21) fun x2 => xz_o (xz_lI0 M 0 x2 a1) fun x3 => some (some (.int x3), M))) = some r) : zC (d + 1) q_Mo_signAt [.ref a0, .int a1] M = some r := xz_Run_of h
theorem b_Mo_sureOf (d : Nat) (a0 : Nat) (a1 : Nat) (a2 : Int32) (M : xz_M) (r : Option Value × xz_M) (h : (zL d q_Mo_sureOf 5 [(0, .ref a0), (1, .ref a1), (2, .int a2), (3, .long (1 : Int64)), (5, .int (0 : Int32))] M) = some r) : zC (d + 1) q_Mo_sureOf [.ref a0, .ref a1, .int a2] M = some r := xz_Run_of h
theorem b_Mo_sureOf_l5 (d : Nat) (a0 : Nat) (a1 : Nat) (a2 : Int32) (a3 : Int64) (a5 : Int32) (M : xz_M) (r : Option Value × xz_M) (h : ((if (5 : Int32) ≤ a5 then some (some (.long a3), M) else (if a2 ≤ a5 then zL d q_Mo_sureOf 5 [(0, .ref a0), (1, .ref a1), (2, .int a2), (3, .long (a3 * (100 : Int64))), (5, .int (a5 + (1 : Int32)))] M else xz_o (xz_gR M a0 8 6) fun x1 => xz_o (xz_lI0 M 0 a1 a5) fun x2 => xz_o (xz_lI0 M 0 x1 x2) fun x3 => zL d q_Mo_sureOf 5 [(0, .ref a0), (1, .ref a1), (2, .int a2), (3, .long (a3 * (Int32.toInt64 x3))), (5, .int (a5 + (1 : Int32)))] M))) = some r) : zL d q_Mo_sureOf 5 [(0, .ref a0), (1, .ref a1), (2, .int a2), (3, .long a3), (5, .int a5)] M = some r := xz_Run_of h
theorem b_Mo_sureness (d : Nat) (a0 : Nat) (a1 : Int32) (a2 : Int32) (M : xz_M) (r : Option Value × xz_M) (h : (xz_bI (zC d q_Mo_isRule [.int a1] M) fun x1 M1 => (if x1 = 0 then some (some (.long (-9223372036854775808 : Int64)), M1) else xz_bI (zC d q_Mo_isPart [.int a2] M1) fun x2 M2 => (if x2 = 0 then some (some (.long (-9223372036854775808 : Int64)), M2) else xz_o (xz_gI M2 a0 8 9) fun x3 => xz_b (xz_is M2 a0 8) (xz_bV (zC d q_Mo_finds [.ref a0, .int x3, .int (0 : Int32), .int (6 : Int32), .int a1, .int (0 : Int32)] M2) fun M3 => xz_o (xz_gI M3 a0 8 37) fun x4 => (if x4 = 0 then some (some (.long (-9223372036854775808 : Int64)), M3) else zL d q_Mo_sureness 28 [(0, .ref a0), (2, .int a2), (3, .long (1 : Int64)), (5, .long (1 : Int64)), (7, .int (0 : Int32))] M3))))) = some r) : zC (d + 1) q_Mo_sureness [.ref a0, .int a1, .int a2] M = some r := xz_Run_of h
theorem b_Mo_sureness_l28 (d : Nat) (a0 : Nat) (a2 : Int32) (a3 : Int64) (a5 : Int64) (a7 : Int32) (M : xz_M) (r : Option Value × xz_M) (h : (xz_o (xz_gI M a0 8 33) fun x1 => (if x1 ≤ a7 then xz_bJ (zC d q_Mo_lowest [.long a3, .long a5, .int a2] M) fun x2 M1 => some (some (.long x2), M1) else xz_o (xz_gR M a0 8 6) fun x3 => xz_o (xz_gR M a0 8 39) fun x4 => xz_o (xz_lI0 M 0 x4 a7) fun x5 => xz_o (xz_lI0 M 0 x3 x5) fun x6 => zL d q_Mo_sureness 28 [(0, .ref a0), (2, .int a2), (3, .long (a3 * (Int32.toInt64 x6))), (5, .long (a5 * (100 : Int64))), (7, .int (a7 + (1 : Int32)))] M)) = some r) : zL d q_Mo_sureness 28 [(0, .ref a0), (2, .int a2), (3, .long a3), (5, .long a5), (7, .int a7)] M = some r := xz_Run_of h
set_option maxRecDepth 100000 in
theorem b_Mo_tape (d : Nat) (a0 : Nat) (a1 : Int32) (a2 : Int32) (a3 : Int32) (M : xz_M) (r : Option Value × xz_M) (h : (xz_bI (zC d q_Mo_isTape [.int a1] M) fun x1 M1 => (if x1 = 0 then some (some (.int (-1 : Int32)), M1) else xz_bI (zC d q_Mo_in [.long (Int32.toInt64 a2), .long (-1 : Int64), .long (4 : Int64)] M1) fun x2 M2 => (if x2 = 0 then some (some (.int (-2 : Int32)), M2) else (if a2 < 0 then (if a2 < 0 then xz_o (xz_gR M2 a0 8 47) fun x3 => xz_o (xz_sI0 M2 x3 a1 a2) fun M3 => xz_o (xz_gR M3 a0 8 48) fun x4 => (if 0 ≤ a2 then xz_o (xz_sI0 M3 x4 a1 a3) fun M4 => zL d q_Mo_tape 41 [(0, .ref a0), (1, .int a1), (4, .int (0 : Int32))] M4 else xz_o (xz_sI0 M3 x4 a1 (0 : Int32)) fun M5 => zL d q_Mo_tape 41 [(0, .ref a0), (1, .int a1), (4, .int (0 : Int32))] M5) else (if 0 ≤ a3 then xz_o (xz_gR M2 a0 8 47) fun x5 => xz_o (xz_sI0 M2 x5 a1 a2) fun M6 => xz_o (xz_gR M6 a0 8 48) fun x6 => (if 0 ≤ a2 then xz_o (xz_sI0 M6 x6 a1 a3) fun M7 => zL d q_Mo_tape 41 [(0, .ref a0), (1, .int a1), (4, .int (0 : Int32))] M7 else xz_o (xz_sI0 M6 x6 a1 (0 : Int32)) fun M8 => zL d q_Mo_tape 41 [(0, .ref a0), (1, .int a1), (4, .int (0 : Int32))] M8) else some (some (.int (-14 : Int32)), M2))) else (if a3 ≤ (60 : Int32) then (if a2 < 0 then xz_o (xz_gR M2 a0 8 47) fun x7 => xz_o (xz_sI0 M2 x7 a1 a2) fun M9 => xz_o (xz_gR M9 a0 8 48) fun x8 => (if 0 ≤ a2 then xz_o (xz_sI0 M9 x8 a1 a3) fun M10 => zL d q_Mo_tape 41 [(0, .ref a0), (1, .int a1), (4, .int (0 : Int32))] M10 else xz_o (xz_sI0 M9 x8 a1 (0 : Int32)) fun M11 => zL d q_Mo_tape 41 [(0, .ref a0), (1, .int a1), (4, .int (0 : Int32))] M11) else (if 0 ≤ a3 then xz_o (xz_gR M2 a0 8 47) fun x9 => xz_o (xz_sI0 M2 x9 a1 a2) fun M12 => xz_o (xz_gR M12 a0 8 48) fun x10 => (if 0 ≤ a2 then xz_o (xz_sI0 M12 x10 a1 a3) fun M13 => zL d q_Mo_tape 41 [(0, .ref a0), (1, .int a1), (4, .int (0 : Int32))] M13 else xz_o (xz_sI0 M12 x10 a1 (0 : Int32)) fun M14 => zL d q_Mo_tape 41 [(0, .ref a0), (1, .int a1), (4, .int (0 : Int32))] M14) else some (some (.int (-14 : Int32)), M2))) else some (some (.int (-2 : Int32)), M2)))))) = some r) : zC (d + 1) q_Mo_tape [.ref a0, .int a1, .int a2, .int a3] M = some r := xz_Run_of h
theorem b_Mo_tape_l41 (d : Nat) (a0 : Nat) (a1 : Int32) (a4 : Int32) (M : xz_M) (r : Option Value × xz_M) (h : ((if (60 : Int32) ≤ a4 then some (some (.int (1 : Int32)), M) else xz_o (xz_gR M a0 8 49) fun x1 => xz_o (xz_lR0 M x1 a1) fun x2 => xz_o (xz_sJ0 M x2 a4 (0 : Int64)) fun M1 => zL d q_Mo_tape 41 [(0, .ref a0), (1, .int a1), (4, .int (a4 + (1 : Int32)))] M1)) = some r) : zL d q_Mo_tape 41 [(0, .ref a0), (1, .int a1), (4, .int a4)] M = some r := xz_Run_of h
theorem b_Mo_tellReaches (d : Nat) (a0 : Nat) (M : xz_M) (r : Option Value × xz_M) (h : (zL d q_Mo_tellReaches 3 [(0, .ref a0), (1, .int (0 : Int32))] M) = some r) : zC (d + 1) q_Mo_tellReaches [.ref a0] M = some r := xz_Run_of h
theorem b_Mo_tellReaches_l3 (d : Nat) (a0 : Nat) (a1 : Int32) (M : xz_M) (r : Option Value × xz_M) (h : (xz_o (xz_gI M a0 8 0) fun x1 => (if x1 ≤ a1 then some (none, M) else xz_o (xz_gR M a0 8 40) fun x2 => xz_b (xz_is M a0 8) (xz_bI (zC d q_Mo_reachOf [.ref a0, .int a1] M) fun x3 M1 => xz_o (xz_sI0 M1 x2 a1 x3) fun M2 => zL d q_Mo_tellReaches 3 [(0, .ref a0), (1, .int (a1 + (1 : Int32)))] M2))) = some r) : zL d q_Mo_tellReaches 3 [(0, .ref a0), (1, .int a1)] M = some r := xz_Run_of h
theorem b_Mo_told (d : Nat) (a0 : Nat) (a1 : Int32) (M : xz_M) (r : Option Value × xz_M) (h : ((if a1 = (0 : Int32) then xz_o (xz_gI M a0 8 0) fun x12 => some (some (.int x12), M) else (if a1 = (1 : Int32) then xz_b (xz_is M a0 8) (xz_bI (zC d q_Mo_left [.ref a0] M) fun x11 M6 => some (some (.int x11), M6)) else (if a1 = (2 : Int32) then xz_o (xz_gI M a0 8 7) fun x10 => some (some (.int x10), M) else (if a1 = (3 : Int32) then xz_o (xz_gI M a0 8 8) fun x9 => some (some (.int x9), M) else (if a1 = (4 : Int32) then xz_o (xz_gI M a0 8 9) fun x8 => some (some (.int x8), M) else (if a1 = (5 : Int32) then xz_o (xz_gI M a0 8 10) fun x7 => some (some (.int x7), M) else (if a1 = (6 : Int32) then xz_b (xz_is M a0 8) (xz_bI (zC d q_Mo_ways [.ref a0] M) fun x6 M5 => some (some (.int x6), M5)) else (if a1 = (7 : Int32) then xz_b (xz_is M a0 8) (xz_bI (zC d q_Mo_latest [.ref a0] M) fun x5 M4 => some (some (.int x5), M4)) else (if a1 = (8 : Int32) then xz_b (xz_is M a0 8) (xz_bI (zC d q_Mo_points [.ref a0] M) fun x4 M3 => some (some (.int x4), M3)) else (if a1 = (9 : Int32) then xz_b (xz_is M a0 8) (xz_bI (zC d q_Mo_leastCut [.ref a0] M) fun x3 M2 => some (some (.int x3), M2)) else (if a1 = (10 : Int32) then xz_b (xz_is M a0 8) (xz_bI (zC d q_Mo_reachedSet [.ref a0] M) fun x2 M1 => some (some (.int x2), M1)) else (if a1 = (11 : Int32) then xz_o (xz_gI M a0 8 1) fun x1 => some (some (.int x1), M) else some (some (.int (-1 : Int32)), M)))))))))))))) = some r) : zC (d + 1) q_Mo_told [.ref a0, .int a1] M = some r := xz_Run_of h
set_option maxRecDepth 100000 in
theorem b_Mo_undo (d : Nat) (a0 : Nat) (M : xz_M) (r : Option Value × xz_M) (h : (xz_o (xz_gI M a0 8 42) fun x1 => (if x1 = 0 then some (some (.int (-3 : Int32)), M) else xz_o (xz_gR M a0 8 43) fun x2 => xz_o (xz_lI0 M 0 x2 (0 : Int32)) fun x3 => xz_o (xz_wI M a0 8 0 x3) fun M1 => xz_o (xz_gR M1 a0 8 43) fun x4 => xz_o (xz_lI0 M1 0 x4 (1 : Int32)) fun x5 => xz_o (xz_wI M1 a0 8 1 x5) fun M2 => xz_o (xz_gR M2 a0 8 43) fun x6 => xz_o (xz_lI0 M2 0 x6 (2 : Int32)) fun x7 => xz_o (xz_wI M2 a0 8 7 x7) fun M3 => xz_o (xz_gR M3 a0 8 43) fun x8 => xz_o (xz_lI0 M3 0 x8 (3 : Int32)) fun x9 => xz_o (xz_wI M3 a0 8 8 x9) fun M4 => xz_o (xz_gR M4 a0 8 43) fun x10 => xz_o (xz_lI0 M4 0 x10 (4 : Int32)) fun x11 => xz_o (xz_wI M4 a0 8 9 x11) fun M5 => xz_o (xz_gR M5 a0 8 43) fun x12 => xz_o (xz_lI0 M5 0 x12 (5 : Int32)) fun x13 => xz_o (xz_wI M5 a0 8 10 x13) fun M6 => xz_o (xz_gR M6 a0 8 43) fun x14 => xz_o (xz_lI0 M6 0 x14 (6 : Int32)) fun x15 => xz_o (xz_wI M6 a0 8 11 x15) fun M7 => xz_o (xz_gR M7 a0 8 43) fun x16 => xz_o (xz_lI0 M7 0 x16 (7 : Int32)) fun x17 => xz_o (xz_wI M7 a0 8 12 x17) fun M8 => xz_o (xz_gR M8 a0 8 43) fun x18 => xz_o (xz_lI0 M8 0 x18 (8 : Int32)) fun x19 => xz_o (xz_wI M8 a0 8 13 x19) fun M9 => xz_o (xz_gR M9 a0 8 44) fun x20 => xz_o (xz_gR M9 a0 8 2) fun x21 => xz_o (xz_copy M9 x20 (0 : Int32) x21 (0 : Int32) (14 : Int32)) fun M10 => xz_o (xz_gR M10 a0 8 45) fun x22 => xz_o (xz_gR M10 a0 8 20) fun x23 => xz_o (xz_copy M10 x22 (0 : Int32) x23 (0 : Int32) (6 : Int32)) fun M11 => zL d q_Mo_undo 78 [(0, .ref a0), (1, .int (0 : Int32))] M11)) = some r) : zC (d + 1) q_Mo_undo [.ref a0] M = some r := xz_Run_of h
theorem b_Mo_undo_l78 (d : Nat) (a0 : Nat) (a1 : Int32) (M : xz_M) (r : Option Value × xz_M) (h : ((if (10 : Int32) ≤ a1 then xz_b (xz_is M a0 8) (xz_bI (zC d q_Mo_left [.ref a0] M) fun x1 M1 => some (some (.int x1), M1)) else xz_o (xz_gR M a0 8 46) fun x2 => xz_o (xz_lR0 M x2 a1) fun x3 => xz_b (xz_is M a0 8) (xz_bR (zC d q_Mo_row [.ref a0, .int a1] M) fun x4 M2 => xz_b (xz_is M2 a0 8) (xz_bR (zC d q_Mo_row [.ref a0, .int a1] M2) fun x5 M3 => xz_o (xz_len M3 x5) fun x6 => xz_o (xz_copy M3 x3 (0 : Int32) x4 (0 : Int32) x6) fun M4 => zL d q_Mo_undo 78 [(0, .ref a0), (1, .int (a1 + (1 : Int32)))] M4)))) = some r) : zL d q_Mo_undo 78 [(0, .ref a0), (1, .int a1)] M = some r := xz_Run_of h
theorem b_Mo_way (d : Nat) (a0 : Nat) (a1 : Int32) (a2 : Int32) (M : xz_M) (r : Option Value × xz_M) (h : (xz_bI (zC d q_Mo_isRule [.int a1] M) fun x1 M1 => (if x1 = 0 then some (some (.int (-2 : Int32)), M1) else xz_o (xz_gI M1 a0 8 9) fun x2 => xz_b (xz_is M1 a0 8) (xz_bV (zC d q_Mo_finds [.ref a0, .int x2, .int (0 : Int32), .int (6 : Int32), .int a1, .int (0 : Int32)] M1) fun M2 => xz_o (xz_gI M2 a0 8 37) fun x3 => (if x3 = 0 then some (some (.int (-5 : Int32)), M2) else (if a2 = (-1 : Int32) then xz_o (xz_gI M2 a0 8 33) fun x9 => some (some (.int x9), M2) else (if a2 = (-2 : Int32) then xz_o (xz_gI M2 a0 8 34) fun x8 => some (some (.int x8), M2) else xz_o (xz_gI M2 a0 8 33) fun x4 => xz_bI (zC d q_Mo_in [.long (Int32.toInt64 a2), .long (0 : Int64), .long (Int32.toInt64 (x4 - (1 : Int32)))] M2) fun x5 M3 => (if x5 = 0 then some (some (.int (-1 : Int32)), M3) else xz_o (xz_gR M3 a0 8 39) fun x6 => xz_o (xz_lI0 M3 0 x6 a2) fun x7 => some (some (.int x7), M3)))))))) = some r) : zC (d + 1) q_Mo_way [.ref a0, .int a1, .int a2] M = some r := xz_Run_of h
theorem b_Mo_ways (d : Nat) (a0 : Nat) (M : xz_M) (r : Option Value × xz_M) (h : (xz_o (xz_gI M a0 8 9) fun x1 => xz_b (xz_is M a0 8) (xz_bV (zC d q_Mo_finds [.ref a0, .int x1, .int (0 : Int32), .int (6 : Int32), .int (0 : Int32), .int (0 : Int32)] M) fun M1 => xz_o (xz_gI M1 a0 8 32) fun x2 => some (some (.int x2), M1))) = some r) : zC (d + 1) q_Mo_ways [.ref a0] M = some r := xz_Run_of h
theorem b_Mo_wordRead (d : Nat) (a0 : Nat) (M : xz_M) (r : Option Value × xz_M) (h : (xz_o (xz_gI M a0 8 23) fun x1 => zL d q_Mo_wordRead 4 [(0, .ref a0), (1, .int x1)] M) = some r) : zC (d + 1) q_Mo_wordRead [.ref a0] M = some r := xz_Run_of h
set_option maxRecDepth 100000 in
theorem b_Mo_wordRead_l4 (d : Nat) (a0 : Nat) (a1 : Int32) (M : xz_M) (r : Option Value × xz_M) (h : (xz_b (xz_is M a0 8) (xz_bI (zC d q_Mo_signAt [.ref a0, .int a1] M) fun x1 M1 => xz_bI (zC d q_Mo_in [.long (Int32.toInt64 x1), .long (97 : Int64), .long (122 : Int64)] M1) fun x2 M2 => (if x2 = 0 then xz_b (xz_is M2 a0 8) (xz_bI (zC d q_Mo_isWord [.ref a0, .ref 2000, .int a1] M2) fun x3 M3 => (if x3 = 0 then xz_b (xz_is M3 a0 8) (xz_bI (zC d q_Mo_isWord [.ref a0, .ref 2001, .int a1] M3) fun x4 M4 => (if x4 = 0 then xz_b (xz_is M4 a0 8) (xz_bI (zC d q_Mo_isWord [.ref a0, .ref 2002, .int a1] M4) fun x5 M5 => (if x5 = 0 then xz_b (xz_is M5 a0 8) (xz_bI (zC d q_Mo_isWord [.ref a0, .ref 2003, .int a1] M5) fun x6 M6 => (if x6 = 0 then xz_b (xz_is M6 a0 8) (xz_bI (zC d q_Mo_isWord [.ref a0, .ref 2004, .int a1] M6) fun x7 M7 => (if x7 = 0 then (if (-1 : Int32) = (-1 : Int32) then xz_o (xz_gI M7 a0 8 23) fun x8 => xz_o (xz_wI M7 a0 8 24 x8) fun M9 => some (some (.int (-1 : Int32)), M9) else xz_o (xz_wI M7 a0 8 23 a1) fun M8 => some (some (.int (-1 : Int32)), M8)) else (if (4 : Int32) = (-1 : Int32) then xz_o (xz_gI M7 a0 8 23) fun x9 => xz_o (xz_wI M7 a0 8 24 x9) fun M11 => some (some (.int (4 : Int32)), M11) else xz_o (xz_wI M7 a0 8 23 a1) fun M10 => some (some (.int (4 : Int32)), M10)))) else (if (3 : Int32) = (-1 : Int32) then xz_o (xz_gI M6 a0 8 23) fun x10 => xz_o (xz_wI M6 a0 8 24 x10) fun M13 => some (some (.int (3 : Int32)), M13) else xz_o (xz_wI M6 a0 8 23 a1) fun M12 => some (some (.int (3 : Int32)), M12)))) else (if (2 : Int32) = (-1 : Int32) then xz_o (xz_gI M5 a0 8 23) fun x11 => xz_o (xz_wI M5 a0 8 24 x11) fun M15 => some (some (.int (2 : Int32)), M15) else xz_o (xz_wI M5 a0 8 23 a1) fun M14 => some (some (.int (2 : Int32)), M14)))) else (if (1 : Int32) = (-1 : Int32) then xz_o (xz_gI M4 a0 8 23) fun x12 => xz_o (xz_wI M4 a0 8 24 x12) fun M17 => some (some (.int (1 : Int32)), M17) else xz_o (xz_wI M4 a0 8 23 a1) fun M16 => some (some (.int (1 : Int32)), M16)))) else (if (0 : Int32) = (-1 : Int32) then xz_o (xz_gI M3 a0 8 23) fun x13 => xz_o (xz_wI M3 a0 8 24 x13) fun M19 => some (some (.int (0 : Int32)), M19) else xz_o (xz_wI M3 a0 8 23 a1) fun M18 => some (some (.int (0 : Int32)), M18)))) else zL d q_Mo_wordRead 4 [(0, .ref a0), (1, .int (a1 + (1 : Int32)))] M2))) = some r) : zL d q_Mo_wordRead 4 [(0, .ref a0), (1, .int a1)] M = some r := xz_Run_of h
theorem b_JD_sCharAt (d : Nat) (a0 : Nat) (a1 : Int32) (M : xz_M) (r : Option Value × xz_M) (h : (xz_b (xz_is M a0 20) (xz_bI (zC d q_JD_sLatin [.ref a0] M) fun x1 M1 => (if x1 = 0 then xz_o (xz_sval a0) fun x2 => none else xz_o (xz_sval a0) fun x3 => xz_bI (zC d q_JD_lCharAt [.ref x3, .int a1] M1) fun x4 M2 => xz_b (xz_nr 2 x4) (some (some (.int x4), M2))))) = some r) : zC (d + 1) q_JD_sCharAt [.ref a0, .int a1] M = some r := xz_Run_of h
theorem b_JD_sCheck (d : Nat) (a0 : Int32) (a1 : Int32) (M : xz_M) (r : Option Value × xz_M) (h : (xz_bI (zC d q_JD_pCheck [.int a0, .int a1, .retAddr 0] M) fun x1 M1 => some (none, M1)) = some r) : zC (d + 1) q_JD_sCheck [.int a0, .int a1] M = some r := xz_Run_of h
theorem b_JD_sCoder (d : Nat) (a0 : Nat) (M : xz_M) (r : Option Value × xz_M) (h : ((if (1 : Int32) = 0 then some (some (.int (1 : Int32)), M) else xz_o (xz_scod a0) fun x1 => xz_b (xz_nr 3 x1) (some (some (.int x1), M)))) = some r) : zC (d + 1) q_JD_sCoder [.ref a0] M = some r := xz_Run_of h
theorem b_JD_sLatin (d : Nat) (a0 : Nat) (M : xz_M) (r : Option Value × xz_M) (h : ((if (1 : Int32) = 0 then some (some (.int (0 : Int32)), M) else xz_o (xz_scod a0) fun x1 => (if x1 = 0 then some (some (.int (1 : Int32)), M) else some (some (.int (0 : Int32)), M)))) = some r) : zC (d + 1) q_JD_sLatin [.ref a0] M = some r := xz_Run_of h
theorem b_JD_sLength (d : Nat) (a0 : Nat) (M : xz_M) (r : Option Value × xz_M) (h : (xz_o (xz_sval a0) fun x1 => xz_o (xz_sln x1) fun x2 => xz_b (xz_is M a0 20) (xz_bI (zC d q_JD_sCoder [.ref a0] M) fun x3 M1 => some (some (.int (x2 >>> (x3 &&& 31))), M1))) = some r) : zC (d + 1) q_JD_sLength [.ref a0] M = some r := xz_Run_of h
theorem b_JD_lCharAt (d : Nat) (a0 : Nat) (a1 : Int32) (M : xz_M) (r : Option Value × xz_M) (h : (xz_o (xz_sln a0) fun x1 => xz_bV (zC d q_JD_sCheck [.int a1, .int x1] M) fun M1 => xz_o (xz_sby a0 a1) fun x2 => xz_b (xz_nr 2 (((x2 &&& (255 : Int32))).toUInt32 % 65536).toInt32) (some (some (.int (((x2 &&& (255 : Int32))).toUInt32 % 65536).toInt32), M1))) = some r) : zC (d + 1) q_JD_lCharAt [.ref a0, .int a1] M = some r := xz_Run_of h
theorem b_JD_pCheck (d : Nat) (a0 : Int32) (a1 : Int32) (M : xz_M) (r : Option Value × xz_M) (h : ((if a0 < 0 then none else (if a0 < a1 then some (some (.int a0), M) else none))) = some r) : zC (d + 1) q_JD_pCheck [.int a0, .int a1, .retAddr 0] M = some r := xz_Run_of h
theorem b_JD_bitCount (d : Nat) (a0 : Int32) (M : xz_M) (r : Option Value × xz_M) (h : (some (some (.int ((((((((a0 - (((a0).toUInt32 >>> (((1 : Int32)).toUInt32 &&& Int32.toUInt32 31)).toInt32 &&& (1431655765 : Int32))) &&& (858993459 : Int32)) + ((((a0 - (((a0).toUInt32 >>> (((1 : Int32)).toUInt32 &&& Int32.toUInt32 31)).toInt32 &&& (1431655765 : Int32)))).toUInt32 >>> (((2 : Int32)).toUInt32 &&& Int32.toUInt32 31)).toInt32 &&& (858993459 : Int32))) + (((((a0 - (((a0).toUInt32 >>> (((1 : Int32)).toUInt32 &&& Int32.toUInt32 31)).toInt32 &&& (1431655765 : Int32))) &&& (858993459 : Int32)) + ((((a0 - (((a0).toUInt32 >>> (((1 : Int32)).toUInt32 &&& Int32.toUInt32 31)).toInt32 &&& (1431655765 : Int32)))).toUInt32 >>> (((2 : Int32)).toUInt32 &&& Int32.toUInt32 31)).toInt32 &&& (858993459 : Int32)))).toUInt32 >>> (((4 : Int32)).toUInt32 &&& Int32.toUInt32 31)).toInt32) &&& (252645135 : Int32)) + (((((((a0 - (((a0).toUInt32 >>> (((1 : Int32)).toUInt32 &&& Int32.toUInt32 31)).toInt32 &&& (1431655765 : Int32))) &&& (858993459 : Int32)) + ((((a0 - (((a0).toUInt32 >>> (((1 : Int32)).toUInt32 &&& Int32.toUInt32 31)).toInt32 &&& (1431655765 : Int32)))).toUInt32 >>> (((2 : Int32)).toUInt32 &&& Int32.toUInt32 31)).toInt32 &&& (858993459 : Int32))) + (((((a0 - (((a0).toUInt32 >>> (((1 : Int32)).toUInt32 &&& Int32.toUInt32 31)).toInt32 &&& (1431655765 : Int32))) &&& (858993459 : Int32)) + ((((a0 - (((a0).toUInt32 >>> (((1 : Int32)).toUInt32 &&& Int32.toUInt32 31)).toInt32 &&& (1431655765 : Int32)))).toUInt32 >>> (((2 : Int32)).toUInt32 &&& Int32.toUInt32 31)).toInt32 &&& (858993459 : Int32)))).toUInt32 >>> (((4 : Int32)).toUInt32 &&& Int32.toUInt32 31)).toInt32) &&& (252645135 : Int32))).toUInt32 >>> (((8 : Int32)).toUInt32 &&& Int32.toUInt32 31)).toInt32) + ((((((((a0 - (((a0).toUInt32 >>> (((1 : Int32)).toUInt32 &&& Int32.toUInt32 31)).toInt32 &&& (1431655765 : Int32))) &&& (858993459 : Int32)) + ((((a0 - (((a0).toUInt32 >>> (((1 : Int32)).toUInt32 &&& Int32.toUInt32 31)).toInt32 &&& (1431655765 : Int32)))).toUInt32 >>> (((2 : Int32)).toUInt32 &&& Int32.toUInt32 31)).toInt32 &&& (858993459 : Int32))) + (((((a0 - (((a0).toUInt32 >>> (((1 : Int32)).toUInt32 &&& Int32.toUInt32 31)).toInt32 &&& (1431655765 : Int32))) &&& (858993459 : Int32)) + ((((a0 - (((a0).toUInt32 >>> (((1 : Int32)).toUInt32 &&& Int32.toUInt32 31)).toInt32 &&& (1431655765 : Int32)))).toUInt32 >>> (((2 : Int32)).toUInt32 &&& Int32.toUInt32 31)).toInt32 &&& (858993459 : Int32)))).toUInt32 >>> (((4 : Int32)).toUInt32 &&& Int32.toUInt32 31)).toInt32) &&& (252645135 : Int32)) + (((((((a0 - (((a0).toUInt32 >>> (((1 : Int32)).toUInt32 &&& Int32.toUInt32 31)).toInt32 &&& (1431655765 : Int32))) &&& (858993459 : Int32)) + ((((a0 - (((a0).toUInt32 >>> (((1 : Int32)).toUInt32 &&& Int32.toUInt32 31)).toInt32 &&& (1431655765 : Int32)))).toUInt32 >>> (((2 : Int32)).toUInt32 &&& Int32.toUInt32 31)).toInt32 &&& (858993459 : Int32))) + (((((a0 - (((a0).toUInt32 >>> (((1 : Int32)).toUInt32 &&& Int32.toUInt32 31)).toInt32 &&& (1431655765 : Int32))) &&& (858993459 : Int32)) + ((((a0 - (((a0).toUInt32 >>> (((1 : Int32)).toUInt32 &&& Int32.toUInt32 31)).toInt32 &&& (1431655765 : Int32)))).toUInt32 >>> (((2 : Int32)).toUInt32 &&& Int32.toUInt32 31)).toInt32 &&& (858993459 : Int32)))).toUInt32 >>> (((4 : Int32)).toUInt32 &&& Int32.toUInt32 31)).toInt32) &&& (252645135 : Int32))).toUInt32 >>> (((8 : Int32)).toUInt32 &&& Int32.toUInt32 31)).toInt32)).toUInt32 >>> (((16 : Int32)).toUInt32 &&& Int32.toUInt32 31)).toInt32) &&& (63 : Int32))), M)) = some r) : zC (d + 1) q_JD_bitCount [.int a0] M = some r := xz_Run_of h
theorem b_JD_fillI (d : Nat) (a0 : Nat) (a1 : Int32) (M : xz_M) (r : Option Value × xz_M) (h : (xz_o (xz_len M a0) fun x1 => zL d q_JD_fillI 6 [(0, .ref a0), (1, .int a1), (2, .int (0 : Int32)), (3, .int x1)] M) = some r) : zC (d + 1) q_JD_fillI [.ref a0, .int a1] M = some r := xz_Run_of h
theorem b_JD_fillI_l6 (d : Nat) (a0 : Nat) (a1 : Int32) (a2 : Int32) (a3 : Int32) (M : xz_M) (r : Option Value × xz_M) (h : ((if a3 ≤ a2 then some (none, M) else xz_o (xz_sI0 M a0 a2 a1) fun M1 => zL d q_JD_fillI 6 [(0, .ref a0), (1, .int a1), (2, .int (a2 + (1 : Int32))), (3, .int a3)] M1)) = some r) : zL d q_JD_fillI 6 [(0, .ref a0), (1, .int a1), (2, .int a2), (3, .int a3)] M = some r := xz_Run_of h
theorem b_JD_fillJ (d : Nat) (a0 : Nat) (a1 : Int64) (M : xz_M) (r : Option Value × xz_M) (h : (xz_o (xz_len M a0) fun x1 => zL d q_JD_fillJ 6 [(0, .ref a0), (1, .long a1), (3, .int (0 : Int32)), (4, .int x1)] M) = some r) : zC (d + 1) q_JD_fillJ [.ref a0, .long a1] M = some r := xz_Run_of h
theorem b_JD_fillJ_l6 (d : Nat) (a0 : Nat) (a1 : Int64) (a3 : Int32) (a4 : Int32) (M : xz_M) (r : Option Value × xz_M) (h : ((if a4 ≤ a3 then some (none, M) else xz_o (xz_sJ0 M a0 a3 a1) fun M1 => zL d q_JD_fillJ 6 [(0, .ref a0), (1, .long a1), (3, .int (a3 + (1 : Int32))), (4, .int a4)] M1)) = some r) : zL d q_JD_fillJ 6 [(0, .ref a0), (1, .long a1), (3, .int a3), (4, .int a4)] M = some r := xz_Run_of h
theorem b_JD_max (d : Nat) (a0 : Int64) (a2 : Int64) (M : xz_M) (r : Option Value × xz_M) (h : ((if (lg_cmp a0 a2) < 0 then some (some (.long a2), M) else some (some (.long a0), M))) = some r) : zC (d + 1) q_JD_max [.long a0, .long a2] M = some r := xz_Run_of h
end
section
/-! THE HEAP AT ITS FIXED SHAPE: rewrite rules (by program: wip/whole/emitsh.py) -/
abbrev xz_T3 : Type := (Nat → Nat → Int32) × (Nat → Nat → Int64)
theorem sh_is0 (I : Nat → Nat → Int32) (J : Nat → Nat → Int64) : (xz_is (xz_SH, I, J) 0 7 = true) ∧ (xz_is (xz_SH, I, J) 1 3 = true) ∧ (xz_is (xz_SH, I, J) 2 0 = true) ∧ (xz_is (xz_SH, I, J) 8 2 = true) ∧ (xz_is (xz_SH, I, J) 12 2 = true) ∧ (xz_is (xz_SH, I, J) 16 2 = true) ∧ (xz_is (xz_SH, I, J) 20 3 = true) ∧ (xz_is (xz_SH, I, J) 21 0 = true) ∧ (xz_is (xz_SH, I, J) 27 2 = true) ∧ (xz_is (xz_SH, I, J) 31 2 = true) ∧ (xz_is (xz_SH, I, J) 35 2 = true) ∧ (xz_is (xz_SH, I, J) 39 3 = true) ∧ (xz_is (xz_SH, I, J) 40 0 = true) ∧ (xz_is (xz_SH, I, J) 46 2 = true) ∧ (xz_is (xz_SH, I, J) 50 2 = true) ∧ (xz_is (xz_SH, I, J) 54 2 = true) ∧ (xz_is (xz_SH, I, J) 58 1 = true) ∧ (xz_is (xz_SH, I, J) 60 6 = true) ∧ (xz_is (xz_SH, I, J) 66 5 = true) ∧ (xz_is (xz_SH, I, J) 82 4 = true) ∧ (xz_is (xz_SH, I, J) 92 8 = true) := ⟨rfl, rfl, rfl, rfl, rfl, rfl, rfl, rfl, rfl, rfl, rfl, rfl, rfl, rfl, rfl, rfl, rfl, rfl, rfl, rfl, rfl⟩
theorem sh_gI0 (I : Nat → Nat → Int32) (J : Nat → Nat → Int64) : (∀ b, xz_gI (xz_SH, I, J) 0 7 b = some (I 0 b)) ∧ (∀ b, xz_gI (xz_SH, I, J) 1 3 b = some (I 1 b)) ∧ (∀ b, xz_gI (xz_SH, I, J) 2 0 b = some (I 2 b)) ∧ (∀ b, xz_gI (xz_SH, I, J) 8 2 b = some (I 8 b)) ∧ (∀ b, xz_gI (xz_SH, I, J) 12 2 b = some (I 12 b)) ∧ (∀ b, xz_gI (xz_SH, I, J) 16 2 b = some (I 16 b)) ∧ (∀ b, xz_gI (xz_SH, I, J) 20 3 b = some (I 20 b)) ∧ (∀ b, xz_gI (xz_SH, I, J) 21 0 b = some (I 21 b)) ∧ (∀ b, xz_gI (xz_SH, I, J) 27 2 b = some (I 27 b)) ∧ (∀ b, xz_gI (xz_SH, I, J) 31 2 b = some (I 31 b)) ∧ (∀ b, xz_gI (xz_SH, I, J) 35 2 b = some (I 35 b)) ∧ (∀ b, xz_gI (xz_SH, I, J) 39 3 b = some (I 39 b)) ∧ (∀ b, xz_gI (xz_SH, I, J) 40 0 b = some (I 40 b)) ∧ (∀ b, xz_gI (xz_SH, I, J) 46 2 b = some (I 46 b)) ∧ (∀ b, xz_gI (xz_SH, I, J) 50 2 b = some (I 50 b)) ∧ (∀ b, xz_gI (xz_SH, I, J) 54 2 b = some (I 54 b)) ∧ (∀ b, xz_gI (xz_SH, I, J) 58 1 b = some (I 58 b)) ∧ (∀ b, xz_gI (xz_SH, I, J) 60 6 b = some (I 60 b)) ∧ (∀ b, xz_gI (xz_SH, I, J) 66 5 b = some (I 66 b)) ∧ (∀ b, xz_gI (xz_SH, I, J) 82 4 b = some (I 82 b)) ∧ (∀ b, xz_gI (xz_SH, I, J) 92 8 b = some (I 92 b)) := ⟨fun _ => rfl, fun _ => rfl, fun _ => rfl, fun _ => rfl, fun _ => rfl, fun _ => rfl, fun _ => rfl, fun _ => rfl, fun _ => rfl, fun _ => rfl, fun _ => rfl, fun _ => rfl, fun _ => rfl, fun _ => rfl, fun _ => rfl, fun _ => rfl, fun _ => rfl, fun _ => rfl, fun _ => rfl, fun _ => rfl, fun _ => rfl⟩
theorem sh_wI0 (I : Nat → Nat → Int32) (J : Nat → Nat → Int64) : (∀ b v, xz_wI (xz_SH, I, J) 0 7 b v = some (xz_SH, xz_up I 0 b v, J)) ∧ (∀ b v, xz_wI (xz_SH, I, J) 1 3 b v = some (xz_SH, xz_up I 1 b v, J)) ∧ (∀ b v, xz_wI (xz_SH, I, J) 2 0 b v = some (xz_SH, xz_up I 2 b v, J)) ∧ (∀ b v, xz_wI (xz_SH, I, J) 8 2 b v = some (xz_SH, xz_up I 8 b v, J)) ∧ (∀ b v, xz_wI (xz_SH, I, J) 12 2 b v = some (xz_SH, xz_up I 12 b v, J)) ∧ (∀ b v, xz_wI (xz_SH, I, J) 16 2 b v = some (xz_SH, xz_up I 16 b v, J)) ∧ (∀ b v, xz_wI (xz_SH, I, J) 20 3 b v = some (xz_SH, xz_up I 20 b v, J)) ∧ (∀ b v, xz_wI (xz_SH, I, J) 21 0 b v = some (xz_SH, xz_up I 21 b v, J)) ∧ (∀ b v, xz_wI (xz_SH, I, J) 27 2 b v = some (xz_SH, xz_up I 27 b v, J)) ∧ (∀ b v, xz_wI (xz_SH, I, J) 31 2 b v = some (xz_SH, xz_up I 31 b v, J)) ∧ (∀ b v, xz_wI (xz_SH, I, J) 35 2 b v = some (xz_SH, xz_up I 35 b v, J)) ∧ (∀ b v, xz_wI (xz_SH, I, J) 39 3 b v = some (xz_SH, xz_up I 39 b v, J)) ∧ (∀ b v, xz_wI (xz_SH, I, J) 40 0 b v = some (xz_SH, xz_up I 40 b v, J)) ∧ (∀ b v, xz_wI (xz_SH, I, J) 46 2 b v = some (xz_SH, xz_up I 46 b v, J)) ∧ (∀ b v, xz_wI (xz_SH, I, J) 50 2 b v = some (xz_SH, xz_up I 50 b v, J)) ∧ (∀ b v, xz_wI (xz_SH, I, J) 54 2 b v = some (xz_SH, xz_up I 54 b v, J)) ∧ (∀ b v, xz_wI (xz_SH, I, J) 58 1 b v = some (xz_SH, xz_up I 58 b v, J)) ∧ (∀ b v, xz_wI (xz_SH, I, J) 60 6 b v = some (xz_SH, xz_up I 60 b v, J)) ∧ (∀ b v, xz_wI (xz_SH, I, J) 66 5 b v = some (xz_SH, xz_up I 66 b v, J)) ∧ (∀ b v, xz_wI (xz_SH, I, J) 82 4 b v = some (xz_SH, xz_up I 82 b v, J)) ∧ (∀ b v, xz_wI (xz_SH, I, J) 92 8 b v = some (xz_SH, xz_up I 92 b v, J)) := ⟨fun _ _ => rfl, fun _ _ => rfl, fun _ _ => rfl, fun _ _ => rfl, fun _ _ => rfl, fun _ _ => rfl, fun _ _ => rfl, fun _ _ => rfl, fun _ _ => rfl, fun _ _ => rfl, fun _ _ => rfl, fun _ _ => rfl, fun _ _ => rfl, fun _ _ => rfl, fun _ _ => rfl, fun _ _ => rfl, fun _ _ => rfl, fun _ _ => rfl, fun _ _ => rfl, fun _ _ => rfl, fun _ _ => rfl⟩
theorem sh_wZ0 (I : Nat → Nat → Int32) (J : Nat → Nat → Int64) : (∀ b v, xz_wZ (xz_SH, I, J) 0 7 b v = bif (v &&& 1 == v) then some (xz_SH, xz_up I 0 b v, J) else none) ∧ (∀ b v, xz_wZ (xz_SH, I, J) 92 8 b v = bif (v &&& 1 == v) then some (xz_SH, xz_up I 92 b v, J) else none) := ⟨fun _ _ => rfl, fun _ _ => rfl⟩
theorem sh_gR0 (I : Nat → Nat → Int32) (J : Nat → Nat → Int64) : (xz_gR (xz_SH, I, J) 0 7 0 = some 1) ∧ (xz_gR (xz_SH, I, J) 0 7 1 = some 20) ∧ (xz_gR (xz_SH, I, J) 0 7 2 = some 39) ∧ (xz_gR (xz_SH, I, J) 0 7 3 = some 58) ∧ (xz_gR (xz_SH, I, J) 0 7 4 = some 60) ∧ (xz_gR (xz_SH, I, J) 0 7 5 = some 66) ∧ (xz_gR (xz_SH, I, J) 0 7 6 = some 82) ∧ (xz_gR (xz_SH, I, J) 1 3 5 = some 2) ∧ (xz_gR (xz_SH, I, J) 1 3 6 = some 8) ∧ (xz_gR (xz_SH, I, J) 1 3 7 = some 12) ∧ (xz_gR (xz_SH, I, J) 1 3 8 = some 16) ∧ (xz_gR (xz_SH, I, J) 2 0 1 = some 3) ∧ (xz_gR (xz_SH, I, J) 2 0 2 = some 4) ∧ (xz_gR (xz_SH, I, J) 2 0 3 = some 5) ∧ (xz_gR (xz_SH, I, J) 2 0 4 = some 6) ∧ (xz_gR (xz_SH, I, J) 2 0 5 = some 7) ∧ (xz_gR (xz_SH, I, J) 8 2 2 = some 9) ∧ (xz_gR (xz_SH, I, J) 8 2 3 = some 10) ∧ (xz_gR (xz_SH, I, J) 8 2 4 = some 11) ∧ (xz_gR (xz_SH, I, J) 12 2 2 = some 13) ∧ (xz_gR (xz_SH, I, J) 12 2 3 = some 14) ∧ (xz_gR (xz_SH, I, J) 12 2 4 = some 15) ∧ (xz_gR (xz_SH, I, J) 16 2 2 = some 17) ∧ (xz_gR (xz_SH, I, J) 16 2 3 = some 18) ∧ (xz_gR (xz_SH, I, J) 16 2 4 = some 19) ∧ (xz_gR (xz_SH, I, J) 20 3 5 = some 21) ∧ (xz_gR (xz_SH, I, J) 20 3 6 = some 27) ∧ (xz_gR (xz_SH, I, J) 20 3 7 = some 31) ∧ (xz_gR (xz_SH, I, J) 20 3 8 = some 35) ∧ (xz_gR (xz_SH, I, J) 21 0 1 = some 22) ∧ (xz_gR (xz_SH, I, J) 21 0 2 = some 23) ∧ (xz_gR (xz_SH, I, J) 21 0 3 = some 24) ∧ (xz_gR (xz_SH, I, J) 21 0 4 = some 25) ∧ (xz_gR (xz_SH, I, J) 21 0 5 = some 26) ∧ (xz_gR (xz_SH, I, J) 27 2 2 = some 28) ∧ (xz_gR (xz_SH, I, J) 27 2 3 = some 29) ∧ (xz_gR (xz_SH, I, J) 27 2 4 = some 30) ∧ (xz_gR (xz_SH, I, J) 31 2 2 = some 32) ∧ (xz_gR (xz_SH, I, J) 31 2 3 = some 33) ∧ (xz_gR (xz_SH, I, J) 31 2 4 = some 34) := ⟨rfl, rfl, rfl, rfl, rfl, rfl, rfl, rfl, rfl, rfl, rfl, rfl, rfl, rfl, rfl, rfl, rfl, rfl, rfl, rfl, rfl, rfl, rfl, rfl, rfl, rfl, rfl, rfl, rfl, rfl, rfl, rfl, rfl, rfl, rfl, rfl, rfl, rfl, rfl, rfl⟩
theorem sh_gR1 (I : Nat → Nat → Int32) (J : Nat → Nat → Int64) : (xz_gR (xz_SH, I, J) 35 2 2 = some 36) ∧ (xz_gR (xz_SH, I, J) 35 2 3 = some 37) ∧ (xz_gR (xz_SH, I, J) 35 2 4 = some 38) ∧ (xz_gR (xz_SH, I, J) 39 3 5 = some 40) ∧ (xz_gR (xz_SH, I, J) 39 3 6 = some 46) ∧ (xz_gR (xz_SH, I, J) 39 3 7 = some 50) ∧ (xz_gR (xz_SH, I, J) 39 3 8 = some 54) ∧ (xz_gR (xz_SH, I, J) 40 0 1 = some 41) ∧ (xz_gR (xz_SH, I, J) 40 0 2 = some 42) ∧ (xz_gR (xz_SH, I, J) 40 0 3 = some 43) ∧ (xz_gR (xz_SH, I, J) 40 0 4 = some 44) ∧ (xz_gR (xz_SH, I, J) 40 0 5 = some 45) ∧ (xz_gR (xz_SH, I, J) 46 2 2 = some 47) ∧ (xz_gR (xz_SH, I, J) 46 2 3 = some 48) ∧ (xz_gR (xz_SH, I, J) 46 2 4 = some 49) ∧ (xz_gR (xz_SH, I, J) 50 2 2 = some 51) ∧ (xz_gR (xz_SH, I, J) 50 2 3 = some 52) ∧ (xz_gR (xz_SH, I, J) 50 2 4 = some 53) ∧ (xz_gR (xz_SH, I, J) 54 2 2 = some 55) ∧ (xz_gR (xz_SH, I, J) 54 2 3 = some 56) ∧ (xz_gR (xz_SH, I, J) 54 2 4 = some 57) ∧ (xz_gR (xz_SH, I, J) 58 1 0 = some 59) ∧ (xz_gR (xz_SH, I, J) 60 6 5 = some 61) ∧ (xz_gR (xz_SH, I, J) 60 6 6 = some 62) ∧ (xz_gR (xz_SH, I, J) 60 6 7 = some 63) ∧ (xz_gR (xz_SH, I, J) 60 6 8 = some 64) ∧ (xz_gR (xz_SH, I, J) 60 6 9 = some 65) ∧ (xz_gR (xz_SH, I, J) 66 5 2 = some 67) ∧ (xz_gR (xz_SH, I, J) 66 5 3 = some 68) ∧ (xz_gR (xz_SH, I, J) 66 5 4 = some 69) ∧ (xz_gR (xz_SH, I, J) 82 4 0 = some 83) ∧ (xz_gR (xz_SH, I, J) 82 4 1 = some 84) ∧ (xz_gR (xz_SH, I, J) 82 4 2 = some 85) ∧ (xz_gR (xz_SH, I, J) 92 8 2 = some 93) ∧ (xz_gR (xz_SH, I, J) 92 8 3 = some 94) ∧ (xz_gR (xz_SH, I, J) 92 8 4 = some 95) ∧ (xz_gR (xz_SH, I, J) 92 8 5 = some 96) ∧ (xz_gR (xz_SH, I, J) 92 8 6 = some 97) ∧ (xz_gR (xz_SH, I, J) 92 8 14 = some 98) ∧ (xz_gR (xz_SH, I, J) 92 8 15 = some 99) := ⟨rfl, rfl, rfl, rfl, rfl, rfl, rfl, rfl, rfl, rfl, rfl, rfl, rfl, rfl, rfl, rfl, rfl, rfl, rfl, rfl, rfl, rfl, rfl, rfl, rfl, rfl, rfl, rfl, rfl, rfl, rfl, rfl, rfl, rfl, rfl, rfl, rfl, rfl, rfl, rfl⟩
theorem sh_gR2 (I : Nat → Nat → Int32) (J : Nat → Nat → Int64) : (xz_gR (xz_SH, I, J) 92 8 16 = some 100) ∧ (xz_gR (xz_SH, I, J) 92 8 17 = some 101) ∧ (xz_gR (xz_SH, I, J) 92 8 18 = some 102) ∧ (xz_gR (xz_SH, I, J) 92 8 19 = some 103) ∧ (xz_gR (xz_SH, I, J) 92 8 20 = some 104) ∧ (xz_gR (xz_SH, I, J) 92 8 21 = some 105) ∧ (xz_gR (xz_SH, I, J) 92 8 26 = some 106) ∧ (xz_gR (xz_SH, I, J) 92 8 27 = some 107) ∧ (xz_gR (xz_SH, I, J) 92 8 38 = some 108) ∧ (xz_gR (xz_SH, I, J) 92 8 39 = some 109) ∧ (xz_gR (xz_SH, I, J) 92 8 40 = some 110) ∧ (xz_gR (xz_SH, I, J) 92 8 41 = some 111) ∧ (xz_gR (xz_SH, I, J) 92 8 43 = some 112) ∧ (xz_gR (xz_SH, I, J) 92 8 44 = some 113) ∧ (xz_gR (xz_SH, I, J) 92 8 45 = some 114) ∧ (xz_gR (xz_SH, I, J) 92 8 46 = some 115) ∧ (xz_gR (xz_SH, I, J) 92 8 47 = some 126) ∧ (xz_gR (xz_SH, I, J) 92 8 48 = some 127) ∧ (xz_gR (xz_SH, I, J) 92 8 49 = some 128) ∧ (xz_gR (xz_SH, I, J) 92 8 50 = some 135) := ⟨rfl, rfl, rfl, rfl, rfl, rfl, rfl, rfl, rfl, rfl, rfl, rfl, rfl, rfl, rfl, rfl, rfl, rfl, rfl, rfl⟩
theorem sh_lI0 (I : Nat → Nat → Int32) (J : Nat → Nat → Int64) : (∀ i, xz_lI0 (xz_SH, I, J) 0 3 i = bif xz_in i 14 then some (I 3 i.toNatClampNeg) else none) ∧ (∀ i, xz_lI0 (xz_SH, I, J) 0 4 i = bif xz_in i 14 then some (I 4 i.toNatClampNeg) else none) ∧ (∀ i, xz_lI0 (xz_SH, I, J) 0 5 i = bif xz_in i 14 then some (I 5 i.toNatClampNeg) else none) ∧ (∀ i, xz_lI0 (xz_SH, I, J) 0 6 i = bif xz_in i 14 then some (I 6 i.toNatClampNeg) else none) ∧ (∀ i, xz_lI0 (xz_SH, I, J) 0 9 i = bif xz_in i 6 then some (I 9 i.toNatClampNeg) else none) ∧ (∀ i, xz_lI0 (xz_SH, I, J) 0 10 i = bif xz_in i 6 then some (I 10 i.toNatClampNeg) else none) ∧ (∀ i, xz_lI0 (xz_SH, I, J) 0 11 i = bif xz_in i 6 then some (I 11 i.toNatClampNeg) else none) ∧ (∀ i, xz_lI0 (xz_SH, I, J) 0 13 i = bif xz_in i 8 then some (I 13 i.toNatClampNeg) else none) ∧ (∀ i, xz_lI0 (xz_SH, I, J) 0 14 i = bif xz_in i 8 then some (I 14 i.toNatClampNeg) else none) ∧ (∀ i, xz_lI0 (xz_SH, I, J) 0 15 i = bif xz_in i 8 then some (I 15 i.toNatClampNeg) else none) ∧ (∀ i, xz_lI0 (xz_SH, I, J) 0 17 i = bif xz_in i 8 then some (I 17 i.toNatClampNeg) else none) ∧ (∀ i, xz_lI0 (xz_SH, I, J) 0 18 i = bif xz_in i 8 then some (I 18 i.toNatClampNeg) else none) ∧ (∀ i, xz_lI0 (xz_SH, I, J) 0 19 i = bif xz_in i 8 then some (I 19 i.toNatClampNeg) else none) ∧ (∀ i, xz_lI0 (xz_SH, I, J) 0 22 i = bif xz_in i 14 then some (I 22 i.toNatClampNeg) else none) ∧ (∀ i, xz_lI0 (xz_SH, I, J) 0 23 i = bif xz_in i 14 then some (I 23 i.toNatClampNeg) else none) ∧ (∀ i, xz_lI0 (xz_SH, I, J) 0 24 i = bif xz_in i 14 then some (I 24 i.toNatClampNeg) else none) ∧ (∀ i, xz_lI0 (xz_SH, I, J) 0 25 i = bif xz_in i 14 then some (I 25 i.toNatClampNeg) else none) ∧ (∀ i, xz_lI0 (xz_SH, I, J) 0 28 i = bif xz_in i 6 then some (I 28 i.toNatClampNeg) else none) ∧ (∀ i, xz_lI0 (xz_SH, I, J) 0 29 i = bif xz_in i 6 then some (I 29 i.toNatClampNeg) else none) ∧ (∀ i, xz_lI0 (xz_SH, I, J) 0 30 i = bif xz_in i 6 then some (I 30 i.toNatClampNeg) else none) ∧ (∀ i, xz_lI0 (xz_SH, I, J) 0 32 i = bif xz_in i 8 then some (I 32 i.toNatClampNeg) else none) ∧ (∀ i, xz_lI0 (xz_SH, I, J) 0 33 i = bif xz_in i 8 then some (I 33 i.toNatClampNeg) else none) ∧ (∀ i, xz_lI0 (xz_SH, I, J) 0 34 i = bif xz_in i 8 then some (I 34 i.toNatClampNeg) else none) ∧ (∀ i, xz_lI0 (xz_SH, I, J) 0 36 i = bif xz_in i 8 then some (I 36 i.toNatClampNeg) else none) ∧ (∀ i, xz_lI0 (xz_SH, I, J) 0 37 i = bif xz_in i 8 then some (I 37 i.toNatClampNeg) else none) ∧ (∀ i, xz_lI0 (xz_SH, I, J) 0 38 i = bif xz_in i 8 then some (I 38 i.toNatClampNeg) else none) ∧ (∀ i, xz_lI0 (xz_SH, I, J) 0 41 i = bif xz_in i 14 then some (I 41 i.toNatClampNeg) else none) ∧ (∀ i, xz_lI0 (xz_SH, I, J) 0 42 i = bif xz_in i 14 then some (I 42 i.toNatClampNeg) else none) ∧ (∀ i, xz_lI0 (xz_SH, I, J) 0 43 i = bif xz_in i 14 then some (I 43 i.toNatClampNeg) else none) ∧ (∀ i, xz_lI0 (xz_SH, I, J) 0 44 i = bif xz_in i 14 then some (I 44 i.toNatClampNeg) else none) ∧ (∀ i, xz_lI0 (xz_SH, I, J) 0 47 i = bif xz_in i 6 then some (I 47 i.toNatClampNeg) else none) ∧ (∀ i, xz_lI0 (xz_SH, I, J) 0 48 i = bif xz_in i 6 then some (I 48 i.toNatClampNeg) else none) ∧ (∀ i, xz_lI0 (xz_SH, I, J) 0 49 i = bif xz_in i 6 then some (I 49 i.toNatClampNeg) else none) ∧ (∀ i, xz_lI0 (xz_SH, I, J) 0 51 i = bif xz_in i 8 then some (I 51 i.toNatClampNeg) else none) ∧ (∀ i, xz_lI0 (xz_SH, I, J) 0 52 i = bif xz_in i 8 then some (I 52 i.toNatClampNeg) else none) ∧ (∀ i, xz_lI0 (xz_SH, I, J) 0 53 i = bif xz_in i 8 then some (I 53 i.toNatClampNeg) else none) ∧ (∀ i, xz_lI0 (xz_SH, I, J) 0 55 i = bif xz_in i 8 then some (I 55 i.toNatClampNeg) else none) ∧ (∀ i, xz_lI0 (xz_SH, I, J) 0 56 i = bif xz_in i 8 then some (I 56 i.toNatClampNeg) else none) ∧ (∀ i, xz_lI0 (xz_SH, I, J) 0 57 i = bif xz_in i 8 then some (I 57 i.toNatClampNeg) else none) ∧ (∀ i, xz_lI0 (xz_SH, I, J) 0 59 i = bif xz_in i 6 then some (I 59 i.toNatClampNeg) else none) := ⟨fun _ => rfl, fun _ => rfl, fun _ => rfl, fun _ => rfl, fun _ => rfl, fun _ => rfl, fun _ => rfl, fun _ => rfl, fun _ => rfl, fun _ => rfl, fun _ => rfl, fun _ => rfl, fun _ => rfl, fun _ => rfl, fun _ => rfl, fun _ => rfl, fun _ => rfl, fun _ => rfl, fun _ => rfl, fun _ => rfl, fun _ => rfl, fun _ => rfl, fun _ => rfl, fun _ => rfl, fun _ => rfl, fun _ => rfl, fun _ => rfl, fun _ => rfl, fun _ => rfl, fun _ => rfl, fun _ => rfl, fun _ => rfl, fun _ => rfl, fun _ => rfl, fun _ => rfl, fun _ => rfl, fun _ => rfl, fun _ => rfl, fun _ => rfl, fun _ => rfl⟩
theorem sh_lI1 (I : Nat → Nat → Int32) (J : Nat → Nat → Int64) : (∀ i, xz_lI0 (xz_SH, I, J) 0 61 i = bif xz_in i 5 then some (I 61 i.toNatClampNeg) else none) ∧ (∀ i, xz_lI0 (xz_SH, I, J) 0 62 i = bif xz_in i 6 then some (I 62 i.toNatClampNeg) else none) ∧ (∀ i, xz_lI0 (xz_SH, I, J) 0 63 i = bif xz_in i 6 then some (I 63 i.toNatClampNeg) else none) ∧ (∀ i, xz_lI0 (xz_SH, I, J) 0 64 i = bif xz_in i 5 then some (I 64 i.toNatClampNeg) else none) ∧ (∀ i, xz_lI0 (xz_SH, I, J) 0 65 i = bif xz_in i 6 then some (I 65 i.toNatClampNeg) else none) ∧ (∀ i, xz_lI0 (xz_SH, I, J) 0 67 i = bif xz_in i 100 then some (I 67 i.toNatClampNeg) else none) ∧ (∀ i, xz_lI0 (xz_SH, I, J) 0 68 i = bif xz_in i 12 then some (I 68 i.toNatClampNeg) else none) ∧ (∀ i, xz_lI0 (xz_SH, I, J) 0 70 i = bif xz_in i 4 then some (I 70 i.toNatClampNeg) else none) ∧ (∀ i, xz_lI0 (xz_SH, I, J) 0 71 i = bif xz_in i 4 then some (I 71 i.toNatClampNeg) else none) ∧ (∀ i, xz_lI0 (xz_SH, I, J) 0 72 i = bif xz_in i 4 then some (I 72 i.toNatClampNeg) else none) ∧ (∀ i, xz_lI0 (xz_SH, I, J) 0 73 i = bif xz_in i 4 then some (I 73 i.toNatClampNeg) else none) ∧ (∀ i, xz_lI0 (xz_SH, I, J) 0 74 i = bif xz_in i 4 then some (I 74 i.toNatClampNeg) else none) ∧ (∀ i, xz_lI0 (xz_SH, I, J) 0 75 i = bif xz_in i 4 then some (I 75 i.toNatClampNeg) else none) ∧ (∀ i, xz_lI0 (xz_SH, I, J) 0 76 i = bif xz_in i 4 then some (I 76 i.toNatClampNeg) else none) ∧ (∀ i, xz_lI0 (xz_SH, I, J) 0 77 i = bif xz_in i 4 then some (I 77 i.toNatClampNeg) else none) ∧ (∀ i, xz_lI0 (xz_SH, I, J) 0 78 i = bif xz_in i 4 then some (I 78 i.toNatClampNeg) else none) ∧ (∀ i, xz_lI0 (xz_SH, I, J) 0 79 i = bif xz_in i 4 then some (I 79 i.toNatClampNeg) else none) ∧ (∀ i, xz_lI0 (xz_SH, I, J) 0 80 i = bif xz_in i 4 then some (I 80 i.toNatClampNeg) else none) ∧ (∀ i, xz_lI0 (xz_SH, I, J) 0 81 i = bif xz_in i 4 then some (I 81 i.toNatClampNeg) else none) ∧ (∀ i, xz_lI0 (xz_SH, I, J) 0 83 i = bif xz_in i 6 then some (I 83 i.toNatClampNeg) else none) ∧ (∀ i, xz_lI0 (xz_SH, I, J) 0 84 i = bif xz_in i 6 then some (I 84 i.toNatClampNeg) else none) ∧ (∀ i, xz_lI0 (xz_SH, I, J) 0 94 i = bif xz_in i 14 then some (I 94 i.toNatClampNeg) else none) ∧ (∀ i, xz_lI0 (xz_SH, I, J) 0 95 i = bif xz_in i 14 then some (I 95 i.toNatClampNeg) else none) ∧ (∀ i, xz_lI0 (xz_SH, I, J) 0 96 i = bif xz_in i 14 then some (I 96 i.toNatClampNeg) else none) ∧ (∀ i, xz_lI0 (xz_SH, I, J) 0 97 i = bif xz_in i 14 then some (I 97 i.toNatClampNeg) else none) ∧ (∀ i, xz_lI0 (xz_SH, I, J) 0 98 i = bif xz_in i 6 then some (I 98 i.toNatClampNeg) else none) ∧ (∀ i, xz_lI0 (xz_SH, I, J) 0 99 i = bif xz_in i 6 then some (I 99 i.toNatClampNeg) else none) ∧ (∀ i, xz_lI0 (xz_SH, I, J) 0 100 i = bif xz_in i 8 then some (I 100 i.toNatClampNeg) else none) ∧ (∀ i, xz_lI0 (xz_SH, I, J) 0 101 i = bif xz_in i 8 then some (I 101 i.toNatClampNeg) else none) ∧ (∀ i, xz_lI0 (xz_SH, I, J) 0 102 i = bif xz_in i 8 then some (I 102 i.toNatClampNeg) else none) ∧ (∀ i, xz_lI0 (xz_SH, I, J) 0 103 i = bif xz_in i 8 then some (I 103 i.toNatClampNeg) else none) ∧ (∀ i, xz_lI0 (xz_SH, I, J) 0 105 i = bif xz_in i 100 then some (I 105 i.toNatClampNeg) else none) ∧ (∀ i, xz_lI0 (xz_SH, I, J) 0 106 i = bif xz_in i 12 then some (I 106 i.toNatClampNeg) else none) ∧ (∀ i, xz_lI0 (xz_SH, I, J) 0 107 i = bif xz_in i 48 then some (I 107 i.toNatClampNeg) else none) ∧ (∀ i, xz_lI0 (xz_SH, I, J) 0 108 i = bif xz_in i 6 then some (I 108 i.toNatClampNeg) else none) ∧ (∀ i, xz_lI0 (xz_SH, I, J) 0 109 i = bif xz_in i 6 then some (I 109 i.toNatClampNeg) else none) ∧ (∀ i, xz_lI0 (xz_SH, I, J) 0 110 i = bif xz_in i 6 then some (I 110 i.toNatClampNeg) else none) ∧ (∀ i, xz_lI0 (xz_SH, I, J) 0 112 i = bif xz_in i 9 then some (I 112 i.toNatClampNeg) else none) ∧ (∀ i, xz_lI0 (xz_SH, I, J) 0 116 i = bif xz_in i 14 then some (I 116 i.toNatClampNeg) else none) ∧ (∀ i, xz_lI0 (xz_SH, I, J) 0 117 i = bif xz_in i 14 then some (I 117 i.toNatClampNeg) else none) := ⟨fun _ => rfl, fun _ => rfl, fun _ => rfl, fun _ => rfl, fun _ => rfl, fun _ => rfl, fun _ => rfl, fun _ => rfl, fun _ => rfl, fun _ => rfl, fun _ => rfl, fun _ => rfl, fun _ => rfl, fun _ => rfl, fun _ => rfl, fun _ => rfl, fun _ => rfl, fun _ => rfl, fun _ => rfl, fun _ => rfl, fun _ => rfl, fun _ => rfl, fun _ => rfl, fun _ => rfl, fun _ => rfl, fun _ => rfl, fun _ => rfl, fun _ => rfl, fun _ => rfl, fun _ => rfl, fun _ => rfl, fun _ => rfl, fun _ => rfl, fun _ => rfl, fun _ => rfl, fun _ => rfl, fun _ => rfl, fun _ => rfl, fun _ => rfl, fun _ => rfl⟩
theorem sh_lI2 (I : Nat → Nat → Int32) (J : Nat → Nat → Int64) : (∀ i, xz_lI0 (xz_SH, I, J) 0 118 i = bif xz_in i 14 then some (I 118 i.toNatClampNeg) else none) ∧ (∀ i, xz_lI0 (xz_SH, I, J) 0 119 i = bif xz_in i 14 then some (I 119 i.toNatClampNeg) else none) ∧ (∀ i, xz_lI0 (xz_SH, I, J) 0 120 i = bif xz_in i 14 then some (I 120 i.toNatClampNeg) else none) ∧ (∀ i, xz_lI0 (xz_SH, I, J) 0 121 i = bif xz_in i 14 then some (I 121 i.toNatClampNeg) else none) ∧ (∀ i, xz_lI0 (xz_SH, I, J) 0 122 i = bif xz_in i 14 then some (I 122 i.toNatClampNeg) else none) ∧ (∀ i, xz_lI0 (xz_SH, I, J) 0 123 i = bif xz_in i 14 then some (I 123 i.toNatClampNeg) else none) ∧ (∀ i, xz_lI0 (xz_SH, I, J) 0 124 i = bif xz_in i 14 then some (I 124 i.toNatClampNeg) else none) ∧ (∀ i, xz_lI0 (xz_SH, I, J) 0 125 i = bif xz_in i 14 then some (I 125 i.toNatClampNeg) else none) ∧ (∀ i, xz_lI0 (xz_SH, I, J) 0 126 i = bif xz_in i 6 then some (I 126 i.toNatClampNeg) else none) ∧ (∀ i, xz_lI0 (xz_SH, I, J) 0 127 i = bif xz_in i 6 then some (I 127 i.toNatClampNeg) else none) := ⟨fun _ => rfl, fun _ => rfl, fun _ => rfl, fun _ => rfl, fun _ => rfl, fun _ => rfl, fun _ => rfl, fun _ => rfl, fun _ => rfl, fun _ => rfl⟩
theorem sh_sI0 (I : Nat → Nat → Int32) (J : Nat → Nat → Int64) : (∀ i v, xz_sI0 (xz_SH, I, J) 3 i v = bif xz_in i 14 then some (xz_SH, xz_up I 3 i.toNatClampNeg v, J) else none) ∧ (∀ i v, xz_sI0 (xz_SH, I, J) 4 i v = bif xz_in i 14 then some (xz_SH, xz_up I 4 i.toNatClampNeg v, J) else none) ∧ (∀ i v, xz_sI0 (xz_SH, I, J) 5 i v = bif xz_in i 14 then some (xz_SH, xz_up I 5 i.toNatClampNeg v, J) else none) ∧ (∀ i v, xz_sI0 (xz_SH, I, J) 6 i v = bif xz_in i 14 then some (xz_SH, xz_up I 6 i.toNatClampNeg v, J) else none) ∧ (∀ i v, xz_sI0 (xz_SH, I, J) 9 i v = bif xz_in i 6 then some (xz_SH, xz_up I 9 i.toNatClampNeg v, J) else none) ∧ (∀ i v, xz_sI0 (xz_SH, I, J) 10 i v = bif xz_in i 6 then some (xz_SH, xz_up I 10 i.toNatClampNeg v, J) else none) ∧ (∀ i v, xz_sI0 (xz_SH, I, J) 11 i v = bif xz_in i 6 then some (xz_SH, xz_up I 11 i.toNatClampNeg v, J) else none) ∧ (∀ i v, xz_sI0 (xz_SH, I, J) 13 i v = bif xz_in i 8 then some (xz_SH, xz_up I 13 i.toNatClampNeg v, J) else none) ∧ (∀ i v, xz_sI0 (xz_SH, I, J) 14 i v = bif xz_in i 8 then some (xz_SH, xz_up I 14 i.toNatClampNeg v, J) else none) ∧ (∀ i v, xz_sI0 (xz_SH, I, J) 15 i v = bif xz_in i 8 then some (xz_SH, xz_up I 15 i.toNatClampNeg v, J) else none) ∧ (∀ i v, xz_sI0 (xz_SH, I, J) 17 i v = bif xz_in i 8 then some (xz_SH, xz_up I 17 i.toNatClampNeg v, J) else none) ∧ (∀ i v, xz_sI0 (xz_SH, I, J) 18 i v = bif xz_in i 8 then some (xz_SH, xz_up I 18 i.toNatClampNeg v, J) else none) ∧ (∀ i v, xz_sI0 (xz_SH, I, J) 19 i v = bif xz_in i 8 then some (xz_SH, xz_up I 19 i.toNatClampNeg v, J) else none) ∧ (∀ i v, xz_sI0 (xz_SH, I, J) 22 i v = bif xz_in i 14 then some (xz_SH, xz_up I 22 i.toNatClampNeg v, J) else none) ∧ (∀ i v, xz_sI0 (xz_SH, I, J) 23 i v = bif xz_in i 14 then some (xz_SH, xz_up I 23 i.toNatClampNeg v, J) else none) ∧ (∀ i v, xz_sI0 (xz_SH, I, J) 24 i v = bif xz_in i 14 then some (xz_SH, xz_up I 24 i.toNatClampNeg v, J) else none) ∧ (∀ i v, xz_sI0 (xz_SH, I, J) 25 i v = bif xz_in i 14 then some (xz_SH, xz_up I 25 i.toNatClampNeg v, J) else none) ∧ (∀ i v, xz_sI0 (xz_SH, I, J) 28 i v = bif xz_in i 6 then some (xz_SH, xz_up I 28 i.toNatClampNeg v, J) else none) ∧ (∀ i v, xz_sI0 (xz_SH, I, J) 29 i v = bif xz_in i 6 then some (xz_SH, xz_up I 29 i.toNatClampNeg v, J) else none) ∧ (∀ i v, xz_sI0 (xz_SH, I, J) 30 i v = bif xz_in i 6 then some (xz_SH, xz_up I 30 i.toNatClampNeg v, J) else none) ∧ (∀ i v, xz_sI0 (xz_SH, I, J) 32 i v = bif xz_in i 8 then some (xz_SH, xz_up I 32 i.toNatClampNeg v, J) else none) ∧ (∀ i v, xz_sI0 (xz_SH, I, J) 33 i v = bif xz_in i 8 then some (xz_SH, xz_up I 33 i.toNatClampNeg v, J) else none) ∧ (∀ i v, xz_sI0 (xz_SH, I, J) 34 i v = bif xz_in i 8 then some (xz_SH, xz_up I 34 i.toNatClampNeg v, J) else none) ∧ (∀ i v, xz_sI0 (xz_SH, I, J) 36 i v = bif xz_in i 8 then some (xz_SH, xz_up I 36 i.toNatClampNeg v, J) else none) ∧ (∀ i v, xz_sI0 (xz_SH, I, J) 37 i v = bif xz_in i 8 then some (xz_SH, xz_up I 37 i.toNatClampNeg v, J) else none) ∧ (∀ i v, xz_sI0 (xz_SH, I, J) 38 i v = bif xz_in i 8 then some (xz_SH, xz_up I 38 i.toNatClampNeg v, J) else none) ∧ (∀ i v, xz_sI0 (xz_SH, I, J) 41 i v = bif xz_in i 14 then some (xz_SH, xz_up I 41 i.toNatClampNeg v, J) else none) ∧ (∀ i v, xz_sI0 (xz_SH, I, J) 42 i v = bif xz_in i 14 then some (xz_SH, xz_up I 42 i.toNatClampNeg v, J) else none) ∧ (∀ i v, xz_sI0 (xz_SH, I, J) 43 i v = bif xz_in i 14 then some (xz_SH, xz_up I 43 i.toNatClampNeg v, J) else none) ∧ (∀ i v, xz_sI0 (xz_SH, I, J) 44 i v = bif xz_in i 14 then some (xz_SH, xz_up I 44 i.toNatClampNeg v, J) else none) ∧ (∀ i v, xz_sI0 (xz_SH, I, J) 47 i v = bif xz_in i 6 then some (xz_SH, xz_up I 47 i.toNatClampNeg v, J) else none) ∧ (∀ i v, xz_sI0 (xz_SH, I, J) 48 i v = bif xz_in i 6 then some (xz_SH, xz_up I 48 i.toNatClampNeg v, J) else none) ∧ (∀ i v, xz_sI0 (xz_SH, I, J) 49 i v = bif xz_in i 6 then some (xz_SH, xz_up I 49 i.toNatClampNeg v, J) else none) ∧ (∀ i v, xz_sI0 (xz_SH, I, J) 51 i v = bif xz_in i 8 then some (xz_SH, xz_up I 51 i.toNatClampNeg v, J) else none) ∧ (∀ i v, xz_sI0 (xz_SH, I, J) 52 i v = bif xz_in i 8 then some (xz_SH, xz_up I 52 i.toNatClampNeg v, J) else none) ∧ (∀ i v, xz_sI0 (xz_SH, I, J) 53 i v = bif xz_in i 8 then some (xz_SH, xz_up I 53 i.toNatClampNeg v, J) else none) ∧ (∀ i v, xz_sI0 (xz_SH, I, J) 55 i v = bif xz_in i 8 then some (xz_SH, xz_up I 55 i.toNatClampNeg v, J) else none) ∧ (∀ i v, xz_sI0 (xz_SH, I, J) 56 i v = bif xz_in i 8 then some (xz_SH, xz_up I 56 i.toNatClampNeg v, J) else none) ∧ (∀ i v, xz_sI0 (xz_SH, I, J) 57 i v = bif xz_in i 8 then some (xz_SH, xz_up I 57 i.toNatClampNeg v, J) else none) ∧ (∀ i v, xz_sI0 (xz_SH, I, J) 59 i v = bif xz_in i 6 then some (xz_SH, xz_up I 59 i.toNatClampNeg v, J) else none) := ⟨fun _ _ => rfl, fun _ _ => rfl, fun _ _ => rfl, fun _ _ => rfl, fun _ _ => rfl, fun _ _ => rfl, fun _ _ => rfl, fun _ _ => rfl, fun _ _ => rfl, fun _ _ => rfl, fun _ _ => rfl, fun _ _ => rfl, fun _ _ => rfl, fun _ _ => rfl, fun _ _ => rfl, fun _ _ => rfl, fun _ _ => rfl, fun _ _ => rfl, fun _ _ => rfl, fun _ _ => rfl, fun _ _ => rfl, fun _ _ => rfl, fun _ _ => rfl, fun _ _ => rfl, fun _ _ => rfl, fun _ _ => rfl, fun _ _ => rfl, fun _ _ => rfl, fun _ _ => rfl, fun _ _ => rfl, fun _ _ => rfl, fun _ _ => rfl, fun _ _ => rfl, fun _ _ => rfl, fun _ _ => rfl, fun _ _ => rfl, fun _ _ => rfl, fun _ _ => rfl, fun _ _ => rfl, fun _ _ => rfl⟩
theorem sh_sI1 (I : Nat → Nat → Int32) (J : Nat → Nat → Int64) : (∀ i v, xz_sI0 (xz_SH, I, J) 61 i v = bif xz_in i 5 then some (xz_SH, xz_up I 61 i.toNatClampNeg v, J) else none) ∧ (∀ i v, xz_sI0 (xz_SH, I, J) 62 i v = bif xz_in i 6 then some (xz_SH, xz_up I 62 i.toNatClampNeg v, J) else none) ∧ (∀ i v, xz_sI0 (xz_SH, I, J) 63 i v = bif xz_in i 6 then some (xz_SH, xz_up I 63 i.toNatClampNeg v, J) else none) ∧ (∀ i v, xz_sI0 (xz_SH, I, J) 64 i v = bif xz_in i 5 then some (xz_SH, xz_up I 64 i.toNatClampNeg v, J) else none) ∧ (∀ i v, xz_sI0 (xz_SH, I, J) 65 i v = bif xz_in i 6 then some (xz_SH, xz_up I 65 i.toNatClampNeg v, J) else none) ∧ (∀ i v, xz_sI0 (xz_SH, I, J) 67 i v = bif xz_in i 100 then some (xz_SH, xz_up I 67 i.toNatClampNeg v, J) else none) ∧ (∀ i v, xz_sI0 (xz_SH, I, J) 68 i v = bif xz_in i 12 then some (xz_SH, xz_up I 68 i.toNatClampNeg v, J) else none) ∧ (∀ i v, xz_sI0 (xz_SH, I, J) 70 i v = bif xz_in i 4 then some (xz_SH, xz_up I 70 i.toNatClampNeg v, J) else none) ∧ (∀ i v, xz_sI0 (xz_SH, I, J) 71 i v = bif xz_in i 4 then some (xz_SH, xz_up I 71 i.toNatClampNeg v, J) else none) ∧ (∀ i v, xz_sI0 (xz_SH, I, J) 72 i v = bif xz_in i 4 then some (xz_SH, xz_up I 72 i.toNatClampNeg v, J) else none) ∧ (∀ i v, xz_sI0 (xz_SH, I, J) 73 i v = bif xz_in i 4 then some (xz_SH, xz_up I 73 i.toNatClampNeg v, J) else none) ∧ (∀ i v, xz_sI0 (xz_SH, I, J) 74 i v = bif xz_in i 4 then some (xz_SH, xz_up I 74 i.toNatClampNeg v, J) else none) ∧ (∀ i v, xz_sI0 (xz_SH, I, J) 75 i v = bif xz_in i 4 then some (xz_SH, xz_up I 75 i.toNatClampNeg v, J) else none) ∧ (∀ i v, xz_sI0 (xz_SH, I, J) 76 i v = bif xz_in i 4 then some (xz_SH, xz_up I 76 i.toNatClampNeg v, J) else none) ∧ (∀ i v, xz_sI0 (xz_SH, I, J) 77 i v = bif xz_in i 4 then some (xz_SH, xz_up I 77 i.toNatClampNeg v, J) else none) ∧ (∀ i v, xz_sI0 (xz_SH, I, J) 78 i v = bif xz_in i 4 then some (xz_SH, xz_up I 78 i.toNatClampNeg v, J) else none) ∧ (∀ i v, xz_sI0 (xz_SH, I, J) 79 i v = bif xz_in i 4 then some (xz_SH, xz_up I 79 i.toNatClampNeg v, J) else none) ∧ (∀ i v, xz_sI0 (xz_SH, I, J) 80 i v = bif xz_in i 4 then some (xz_SH, xz_up I 80 i.toNatClampNeg v, J) else none) ∧ (∀ i v, xz_sI0 (xz_SH, I, J) 81 i v = bif xz_in i 4 then some (xz_SH, xz_up I 81 i.toNatClampNeg v, J) else none) ∧ (∀ i v, xz_sI0 (xz_SH, I, J) 83 i v = bif xz_in i 6 then some (xz_SH, xz_up I 83 i.toNatClampNeg v, J) else none) ∧ (∀ i v, xz_sI0 (xz_SH, I, J) 84 i v = bif xz_in i 6 then some (xz_SH, xz_up I 84 i.toNatClampNeg v, J) else none) ∧ (∀ i v, xz_sI0 (xz_SH, I, J) 94 i v = bif xz_in i 14 then some (xz_SH, xz_up I 94 i.toNatClampNeg v, J) else none) ∧ (∀ i v, xz_sI0 (xz_SH, I, J) 95 i v = bif xz_in i 14 then some (xz_SH, xz_up I 95 i.toNatClampNeg v, J) else none) ∧ (∀ i v, xz_sI0 (xz_SH, I, J) 96 i v = bif xz_in i 14 then some (xz_SH, xz_up I 96 i.toNatClampNeg v, J) else none) ∧ (∀ i v, xz_sI0 (xz_SH, I, J) 97 i v = bif xz_in i 14 then some (xz_SH, xz_up I 97 i.toNatClampNeg v, J) else none) ∧ (∀ i v, xz_sI0 (xz_SH, I, J) 98 i v = bif xz_in i 6 then some (xz_SH, xz_up I 98 i.toNatClampNeg v, J) else none) ∧ (∀ i v, xz_sI0 (xz_SH, I, J) 99 i v = bif xz_in i 6 then some (xz_SH, xz_up I 99 i.toNatClampNeg v, J) else none) ∧ (∀ i v, xz_sI0 (xz_SH, I, J) 100 i v = bif xz_in i 8 then some (xz_SH, xz_up I 100 i.toNatClampNeg v, J) else none) ∧ (∀ i v, xz_sI0 (xz_SH, I, J) 101 i v = bif xz_in i 8 then some (xz_SH, xz_up I 101 i.toNatClampNeg v, J) else none) ∧ (∀ i v, xz_sI0 (xz_SH, I, J) 102 i v = bif xz_in i 8 then some (xz_SH, xz_up I 102 i.toNatClampNeg v, J) else none) ∧ (∀ i v, xz_sI0 (xz_SH, I, J) 103 i v = bif xz_in i 8 then some (xz_SH, xz_up I 103 i.toNatClampNeg v, J) else none) ∧ (∀ i v, xz_sI0 (xz_SH, I, J) 105 i v = bif xz_in i 100 then some (xz_SH, xz_up I 105 i.toNatClampNeg v, J) else none) ∧ (∀ i v, xz_sI0 (xz_SH, I, J) 106 i v = bif xz_in i 12 then some (xz_SH, xz_up I 106 i.toNatClampNeg v, J) else none) ∧ (∀ i v, xz_sI0 (xz_SH, I, J) 107 i v = bif xz_in i 48 then some (xz_SH, xz_up I 107 i.toNatClampNeg v, J) else none) ∧ (∀ i v, xz_sI0 (xz_SH, I, J) 108 i v = bif xz_in i 6 then some (xz_SH, xz_up I 108 i.toNatClampNeg v, J) else none) ∧ (∀ i v, xz_sI0 (xz_SH, I, J) 109 i v = bif xz_in i 6 then some (xz_SH, xz_up I 109 i.toNatClampNeg v, J) else none) ∧ (∀ i v, xz_sI0 (xz_SH, I, J) 110 i v = bif xz_in i 6 then some (xz_SH, xz_up I 110 i.toNatClampNeg v, J) else none) ∧ (∀ i v, xz_sI0 (xz_SH, I, J) 112 i v = bif xz_in i 9 then some (xz_SH, xz_up I 112 i.toNatClampNeg v, J) else none) ∧ (∀ i v, xz_sI0 (xz_SH, I, J) 116 i v = bif xz_in i 14 then some (xz_SH, xz_up I 116 i.toNatClampNeg v, J) else none) ∧ (∀ i v, xz_sI0 (xz_SH, I, J) 117 i v = bif xz_in i 14 then some (xz_SH, xz_up I 117 i.toNatClampNeg v, J) else none) := ⟨fun _ _ => rfl, fun _ _ => rfl, fun _ _ => rfl, fun _ _ => rfl, fun _ _ => rfl, fun _ _ => rfl, fun _ _ => rfl, fun _ _ => rfl, fun _ _ => rfl, fun _ _ => rfl, fun _ _ => rfl, fun _ _ => rfl, fun _ _ => rfl, fun _ _ => rfl, fun _ _ => rfl, fun _ _ => rfl, fun _ _ => rfl, fun _ _ => rfl, fun _ _ => rfl, fun _ _ => rfl, fun _ _ => rfl, fun _ _ => rfl, fun _ _ => rfl, fun _ _ => rfl, fun _ _ => rfl, fun _ _ => rfl, fun _ _ => rfl, fun _ _ => rfl, fun _ _ => rfl, fun _ _ => rfl, fun _ _ => rfl, fun _ _ => rfl, fun _ _ => rfl, fun _ _ => rfl, fun _ _ => rfl, fun _ _ => rfl, fun _ _ => rfl, fun _ _ => rfl, fun _ _ => rfl, fun _ _ => rfl⟩
theorem sh_sI2 (I : Nat → Nat → Int32) (J : Nat → Nat → Int64) : (∀ i v, xz_sI0 (xz_SH, I, J) 118 i v = bif xz_in i 14 then some (xz_SH, xz_up I 118 i.toNatClampNeg v, J) else none) ∧ (∀ i v, xz_sI0 (xz_SH, I, J) 119 i v = bif xz_in i 14 then some (xz_SH, xz_up I 119 i.toNatClampNeg v, J) else none) ∧ (∀ i v, xz_sI0 (xz_SH, I, J) 120 i v = bif xz_in i 14 then some (xz_SH, xz_up I 120 i.toNatClampNeg v, J) else none) ∧ (∀ i v, xz_sI0 (xz_SH, I, J) 121 i v = bif xz_in i 14 then some (xz_SH, xz_up I 121 i.toNatClampNeg v, J) else none) ∧ (∀ i v, xz_sI0 (xz_SH, I, J) 122 i v = bif xz_in i 14 then some (xz_SH, xz_up I 122 i.toNatClampNeg v, J) else none) ∧ (∀ i v, xz_sI0 (xz_SH, I, J) 123 i v = bif xz_in i 14 then some (xz_SH, xz_up I 123 i.toNatClampNeg v, J) else none) ∧ (∀ i v, xz_sI0 (xz_SH, I, J) 124 i v = bif xz_in i 14 then some (xz_SH, xz_up I 124 i.toNatClampNeg v, J) else none) ∧ (∀ i v, xz_sI0 (xz_SH, I, J) 125 i v = bif xz_in i 14 then some (xz_SH, xz_up I 125 i.toNatClampNeg v, J) else none) ∧ (∀ i v, xz_sI0 (xz_SH, I, J) 126 i v = bif xz_in i 6 then some (xz_SH, xz_up I 126 i.toNatClampNeg v, J) else none) ∧ (∀ i v, xz_sI0 (xz_SH, I, J) 127 i v = bif xz_in i 6 then some (xz_SH, xz_up I 127 i.toNatClampNeg v, J) else none) := ⟨fun _ _ => rfl, fun _ _ => rfl, fun _ _ => rfl, fun _ _ => rfl, fun _ _ => rfl, fun _ _ => rfl, fun _ _ => rfl, fun _ _ => rfl, fun _ _ => rfl, fun _ _ => rfl⟩
theorem sh_len0 (I : Nat → Nat → Int32) (J : Nat → Nat → Int64) : (xz_len (xz_SH, I, J) 3 = some 14) ∧ (xz_len (xz_SH, I, J) 4 = some 14) ∧ (xz_len (xz_SH, I, J) 5 = some 14) ∧ (xz_len (xz_SH, I, J) 6 = some 14) ∧ (xz_len (xz_SH, I, J) 7 = some 14) ∧ (xz_len (xz_SH, I, J) 9 = some 6) ∧ (xz_len (xz_SH, I, J) 10 = some 6) ∧ (xz_len (xz_SH, I, J) 11 = some 6) ∧ (xz_len (xz_SH, I, J) 13 = some 8) ∧ (xz_len (xz_SH, I, J) 14 = some 8) ∧ (xz_len (xz_SH, I, J) 15 = some 8) ∧ (xz_len (xz_SH, I, J) 17 = some 8) ∧ (xz_len (xz_SH, I, J) 18 = some 8) ∧ (xz_len (xz_SH, I, J) 19 = some 8) ∧ (xz_len (xz_SH, I, J) 22 = some 14) ∧ (xz_len (xz_SH, I, J) 23 = some 14) ∧ (xz_len (xz_SH, I, J) 24 = some 14) ∧ (xz_len (xz_SH, I, J) 25 = some 14) ∧ (xz_len (xz_SH, I, J) 26 = some 14) ∧ (xz_len (xz_SH, I, J) 28 = some 6) ∧ (xz_len (xz_SH, I, J) 29 = some 6) ∧ (xz_len (xz_SH, I, J) 30 = some 6) ∧ (xz_len (xz_SH, I, J) 32 = some 8) ∧ (xz_len (xz_SH, I, J) 33 = some 8) ∧ (xz_len (xz_SH, I, J) 34 = some 8) ∧ (xz_len (xz_SH, I, J) 36 = some 8) ∧ (xz_len (xz_SH, I, J) 37 = some 8) ∧ (xz_len (xz_SH, I, J) 38 = some 8) ∧ (xz_len (xz_SH, I, J) 41 = some 14) ∧ (xz_len (xz_SH, I, J) 42 = some 14) ∧ (xz_len (xz_SH, I, J) 43 = some 14) ∧ (xz_len (xz_SH, I, J) 44 = some 14) ∧ (xz_len (xz_SH, I, J) 45 = some 14) ∧ (xz_len (xz_SH, I, J) 47 = some 6) ∧ (xz_len (xz_SH, I, J) 48 = some 6) ∧ (xz_len (xz_SH, I, J) 49 = some 6) ∧ (xz_len (xz_SH, I, J) 51 = some 8) ∧ (xz_len (xz_SH, I, J) 52 = some 8) ∧ (xz_len (xz_SH, I, J) 53 = some 8) ∧ (xz_len (xz_SH, I, J) 55 = some 8) := ⟨rfl, rfl, rfl, rfl, rfl, rfl, rfl, rfl, rfl, rfl, rfl, rfl, rfl, rfl, rfl, rfl, rfl, rfl, rfl, rfl, rfl, rfl, rfl, rfl, rfl, rfl, rfl, rfl, rfl, rfl, rfl, rfl, rfl, rfl, rfl, rfl, rfl, rfl, rfl, rfl⟩
theorem sh_len1 (I : Nat → Nat → Int32) (J : Nat → Nat → Int64) : (xz_len (xz_SH, I, J) 56 = some 8) ∧ (xz_len (xz_SH, I, J) 57 = some 8) ∧ (xz_len (xz_SH, I, J) 59 = some 6) ∧ (xz_len (xz_SH, I, J) 61 = some 5) ∧ (xz_len (xz_SH, I, J) 62 = some 6) ∧ (xz_len (xz_SH, I, J) 63 = some 6) ∧ (xz_len (xz_SH, I, J) 64 = some 5) ∧ (xz_len (xz_SH, I, J) 65 = some 6) ∧ (xz_len (xz_SH, I, J) 67 = some 100) ∧ (xz_len (xz_SH, I, J) 68 = some 12) ∧ (xz_len (xz_SH, I, J) 70 = some 4) ∧ (xz_len (xz_SH, I, J) 71 = some 4) ∧ (xz_len (xz_SH, I, J) 72 = some 4) ∧ (xz_len (xz_SH, I, J) 73 = some 4) ∧ (xz_len (xz_SH, I, J) 74 = some 4) ∧ (xz_len (xz_SH, I, J) 75 = some 4) ∧ (xz_len (xz_SH, I, J) 76 = some 4) ∧ (xz_len (xz_SH, I, J) 77 = some 4) ∧ (xz_len (xz_SH, I, J) 78 = some 4) ∧ (xz_len (xz_SH, I, J) 79 = some 4) ∧ (xz_len (xz_SH, I, J) 80 = some 4) ∧ (xz_len (xz_SH, I, J) 81 = some 4) ∧ (xz_len (xz_SH, I, J) 83 = some 6) ∧ (xz_len (xz_SH, I, J) 84 = some 6) ∧ (xz_len (xz_SH, I, J) 86 = some 60) ∧ (xz_len (xz_SH, I, J) 87 = some 60) ∧ (xz_len (xz_SH, I, J) 88 = some 60) ∧ (xz_len (xz_SH, I, J) 89 = some 60) ∧ (xz_len (xz_SH, I, J) 90 = some 60) ∧ (xz_len (xz_SH, I, J) 91 = some 60) ∧ (xz_len (xz_SH, I, J) 93 = some 14) ∧ (xz_len (xz_SH, I, J) 94 = some 14) ∧ (xz_len (xz_SH, I, J) 95 = some 14) ∧ (xz_len (xz_SH, I, J) 96 = some 14) ∧ (xz_len (xz_SH, I, J) 97 = some 14) ∧ (xz_len (xz_SH, I, J) 98 = some 6) ∧ (xz_len (xz_SH, I, J) 99 = some 6) ∧ (xz_len (xz_SH, I, J) 100 = some 8) ∧ (xz_len (xz_SH, I, J) 101 = some 8) ∧ (xz_len (xz_SH, I, J) 102 = some 8) := ⟨rfl, rfl, rfl, rfl, rfl, rfl, rfl, rfl, rfl, rfl, rfl, rfl, rfl, rfl, rfl, rfl, rfl, rfl, rfl, rfl, rfl, rfl, rfl, rfl, rfl, rfl, rfl, rfl, rfl, rfl, rfl, rfl, rfl, rfl, rfl, rfl, rfl, rfl, rfl, rfl⟩
theorem sh_len2 (I : Nat → Nat → Int32) (J : Nat → Nat → Int64) : (xz_len (xz_SH, I, J) 103 = some 8) ∧ (xz_len (xz_SH, I, J) 104 = some 6) ∧ (xz_len (xz_SH, I, J) 105 = some 100) ∧ (xz_len (xz_SH, I, J) 106 = some 12) ∧ (xz_len (xz_SH, I, J) 107 = some 48) ∧ (xz_len (xz_SH, I, J) 108 = some 6) ∧ (xz_len (xz_SH, I, J) 109 = some 6) ∧ (xz_len (xz_SH, I, J) 110 = some 6) ∧ (xz_len (xz_SH, I, J) 111 = some 14) ∧ (xz_len (xz_SH, I, J) 112 = some 9) ∧ (xz_len (xz_SH, I, J) 113 = some 14) ∧ (xz_len (xz_SH, I, J) 114 = some 6) ∧ (xz_len (xz_SH, I, J) 116 = some 14) ∧ (xz_len (xz_SH, I, J) 117 = some 14) ∧ (xz_len (xz_SH, I, J) 118 = some 14) ∧ (xz_len (xz_SH, I, J) 119 = some 14) ∧ (xz_len (xz_SH, I, J) 120 = some 14) ∧ (xz_len (xz_SH, I, J) 121 = some 14) ∧ (xz_len (xz_SH, I, J) 122 = some 14) ∧ (xz_len (xz_SH, I, J) 123 = some 14) ∧ (xz_len (xz_SH, I, J) 124 = some 14) ∧ (xz_len (xz_SH, I, J) 125 = some 14) ∧ (xz_len (xz_SH, I, J) 126 = some 6) ∧ (xz_len (xz_SH, I, J) 127 = some 6) ∧ (xz_len (xz_SH, I, J) 129 = some 60) ∧ (xz_len (xz_SH, I, J) 130 = some 60) ∧ (xz_len (xz_SH, I, J) 131 = some 60) ∧ (xz_len (xz_SH, I, J) 132 = some 60) ∧ (xz_len (xz_SH, I, J) 133 = some 60) ∧ (xz_len (xz_SH, I, J) 134 = some 60) ∧ (xz_len (xz_SH, I, J) 135 = some 60) := ⟨rfl, rfl, rfl, rfl, rfl, rfl, rfl, rfl, rfl, rfl, rfl, rfl, rfl, rfl, rfl, rfl, rfl, rfl, rfl, rfl, rfl, rfl, rfl, rfl, rfl, rfl, rfl, rfl, rfl, rfl, rfl⟩
theorem sh_lZ0 (I : Nat → Nat → Int32) (J : Nat → Nat → Int64) : (∀ i, xz_lI0 (xz_SH, I, J) 1 7 i = bif xz_in i 14 then some (I 7 i.toNatClampNeg) else none) ∧ (∀ i, xz_lI0 (xz_SH, I, J) 1 26 i = bif xz_in i 14 then some (I 26 i.toNatClampNeg) else none) ∧ (∀ i, xz_lI0 (xz_SH, I, J) 1 45 i = bif xz_in i 14 then some (I 45 i.toNatClampNeg) else none) ∧ (∀ i, xz_lI0 (xz_SH, I, J) 1 93 i = bif xz_in i 14 then some (I 93 i.toNatClampNeg) else none) ∧ (∀ i, xz_lI0 (xz_SH, I, J) 1 104 i = bif xz_in i 6 then some (I 104 i.toNatClampNeg) else none) ∧ (∀ i, xz_lI0 (xz_SH, I, J) 1 111 i = bif xz_in i 14 then some (I 111 i.toNatClampNeg) else none) ∧ (∀ i, xz_lI0 (xz_SH, I, J) 1 113 i = bif xz_in i 14 then some (I 113 i.toNatClampNeg) else none) ∧ (∀ i, xz_lI0 (xz_SH, I, J) 1 114 i = bif xz_in i 6 then some (I 114 i.toNatClampNeg) else none) := ⟨fun _ => rfl, fun _ => rfl, fun _ => rfl, fun _ => rfl, fun _ => rfl, fun _ => rfl, fun _ => rfl, fun _ => rfl⟩
theorem sh_sZ0 (I : Nat → Nat → Int32) (J : Nat → Nat → Int64) : (∀ i v, xz_sZ0 (xz_SH, I, J) 7 i v = bif xz_in i 14 then some (xz_SH, xz_up I 7 i.toNatClampNeg (v &&& 1), J) else none) ∧ (∀ i v, xz_sZ0 (xz_SH, I, J) 26 i v = bif xz_in i 14 then some (xz_SH, xz_up I 26 i.toNatClampNeg (v &&& 1), J) else none) ∧ (∀ i v, xz_sZ0 (xz_SH, I, J) 45 i v = bif xz_in i 14 then some (xz_SH, xz_up I 45 i.toNatClampNeg (v &&& 1), J) else none) ∧ (∀ i v, xz_sZ0 (xz_SH, I, J) 93 i v = bif xz_in i 14 then some (xz_SH, xz_up I 93 i.toNatClampNeg (v &&& 1), J) else none) ∧ (∀ i v, xz_sZ0 (xz_SH, I, J) 104 i v = bif xz_in i 6 then some (xz_SH, xz_up I 104 i.toNatClampNeg (v &&& 1), J) else none) ∧ (∀ i v, xz_sZ0 (xz_SH, I, J) 111 i v = bif xz_in i 14 then some (xz_SH, xz_up I 111 i.toNatClampNeg (v &&& 1), J) else none) ∧ (∀ i v, xz_sZ0 (xz_SH, I, J) 113 i v = bif xz_in i 14 then some (xz_SH, xz_up I 113 i.toNatClampNeg (v &&& 1), J) else none) ∧ (∀ i v, xz_sZ0 (xz_SH, I, J) 114 i v = bif xz_in i 6 then some (xz_SH, xz_up I 114 i.toNatClampNeg (v &&& 1), J) else none) := ⟨fun _ _ => rfl, fun _ _ => rfl, fun _ _ => rfl, fun _ _ => rfl, fun _ _ => rfl, fun _ _ => rfl, fun _ _ => rfl, fun _ _ => rfl⟩
theorem sh_gJ0 (I : Nat → Nat → Int32) (J : Nat → Nat → Int64) : (∀ b, xz_gJ (xz_SH, I, J) 60 6 b = some (J 60 b)) ∧ (∀ b, xz_gJ (xz_SH, I, J) 92 8 b = some (J 92 b)) := ⟨fun _ => rfl, fun _ => rfl⟩
theorem sh_wJ0 (I : Nat → Nat → Int32) (J : Nat → Nat → Int64) : (∀ b v, xz_wJ (xz_SH, I, J) 60 6 b v = some (xz_SH, I, xz_up J 60 b v)) ∧ (∀ b v, xz_wJ (xz_SH, I, J) 92 8 b v = some (xz_SH, I, xz_up J 92 b v)) := ⟨fun _ _ => rfl, fun _ _ => rfl⟩
theorem sh_lR0 (I : Nat → Nat → Int32) (J : Nat → Nat → Int64) : (∀ i, xz_lR0 (xz_SH, I, J) 69 i = bif xz_in i 12 then ([some 70, some 71, some 72, some 73, some 74, some 75, some 76, some 77, some 78, some 79, some 80, some 81] : List (Option Nat)).getD i.toNatClampNeg none else none) ∧ (∀ i, xz_lR0 (xz_SH, I, J) 85 i = bif xz_in i 6 then ([some 86, some 87, some 88, some 89, some 90, some 91] : List (Option Nat)).getD i.toNatClampNeg none else none) ∧ (∀ i, xz_lR0 (xz_SH, I, J) 115 i = bif xz_in i 10 then ([some 116, some 117, some 118, some 119, some 120, some 121, some 122, some 123, some 124, some 125] : List (Option Nat)).getD i.toNatClampNeg none else none) ∧ (∀ i, xz_lR0 (xz_SH, I, J) 128 i = bif xz_in i 6 then ([some 129, some 130, some 131, some 132, some 133, some 134] : List (Option Nat)).getD i.toNatClampNeg none else none) := ⟨fun _ => rfl, fun _ => rfl, fun _ => rfl, fun _ => rfl⟩
theorem sh_lJ0 (I : Nat → Nat → Int32) (J : Nat → Nat → Int64) : (∀ i, xz_lJ0 (xz_SH, I, J) 86 i = bif xz_in i 60 then some (J 86 i.toNatClampNeg) else none) ∧ (∀ i, xz_lJ0 (xz_SH, I, J) 87 i = bif xz_in i 60 then some (J 87 i.toNatClampNeg) else none) ∧ (∀ i, xz_lJ0 (xz_SH, I, J) 88 i = bif xz_in i 60 then some (J 88 i.toNatClampNeg) else none) ∧ (∀ i, xz_lJ0 (xz_SH, I, J) 89 i = bif xz_in i 60 then some (J 89 i.toNatClampNeg) else none) ∧ (∀ i, xz_lJ0 (xz_SH, I, J) 90 i = bif xz_in i 60 then some (J 90 i.toNatClampNeg) else none) ∧ (∀ i, xz_lJ0 (xz_SH, I, J) 91 i = bif xz_in i 60 then some (J 91 i.toNatClampNeg) else none) ∧ (∀ i, xz_lJ0 (xz_SH, I, J) 129 i = bif xz_in i 60 then some (J 129 i.toNatClampNeg) else none) ∧ (∀ i, xz_lJ0 (xz_SH, I, J) 130 i = bif xz_in i 60 then some (J 130 i.toNatClampNeg) else none) ∧ (∀ i, xz_lJ0 (xz_SH, I, J) 131 i = bif xz_in i 60 then some (J 131 i.toNatClampNeg) else none) ∧ (∀ i, xz_lJ0 (xz_SH, I, J) 132 i = bif xz_in i 60 then some (J 132 i.toNatClampNeg) else none) ∧ (∀ i, xz_lJ0 (xz_SH, I, J) 133 i = bif xz_in i 60 then some (J 133 i.toNatClampNeg) else none) ∧ (∀ i, xz_lJ0 (xz_SH, I, J) 134 i = bif xz_in i 60 then some (J 134 i.toNatClampNeg) else none) ∧ (∀ i, xz_lJ0 (xz_SH, I, J) 135 i = bif xz_in i 60 then some (J 135 i.toNatClampNeg) else none) := ⟨fun _ => rfl, fun _ => rfl, fun _ => rfl, fun _ => rfl, fun _ => rfl, fun _ => rfl, fun _ => rfl, fun _ => rfl, fun _ => rfl, fun _ => rfl, fun _ => rfl, fun _ => rfl, fun _ => rfl⟩
theorem sh_sJ0 (I : Nat → Nat → Int32) (J : Nat → Nat → Int64) : (∀ i v, xz_sJ0 (xz_SH, I, J) 86 i v = bif xz_in i 60 then some (xz_SH, I, xz_up J 86 i.toNatClampNeg v) else none) ∧ (∀ i v, xz_sJ0 (xz_SH, I, J) 87 i v = bif xz_in i 60 then some (xz_SH, I, xz_up J 87 i.toNatClampNeg v) else none) ∧ (∀ i v, xz_sJ0 (xz_SH, I, J) 88 i v = bif xz_in i 60 then some (xz_SH, I, xz_up J 88 i.toNatClampNeg v) else none) ∧ (∀ i v, xz_sJ0 (xz_SH, I, J) 89 i v = bif xz_in i 60 then some (xz_SH, I, xz_up J 89 i.toNatClampNeg v) else none) ∧ (∀ i v, xz_sJ0 (xz_SH, I, J) 90 i v = bif xz_in i 60 then some (xz_SH, I, xz_up J 90 i.toNatClampNeg v) else none) ∧ (∀ i v, xz_sJ0 (xz_SH, I, J) 91 i v = bif xz_in i 60 then some (xz_SH, I, xz_up J 91 i.toNatClampNeg v) else none) ∧ (∀ i v, xz_sJ0 (xz_SH, I, J) 129 i v = bif xz_in i 60 then some (xz_SH, I, xz_up J 129 i.toNatClampNeg v) else none) ∧ (∀ i v, xz_sJ0 (xz_SH, I, J) 130 i v = bif xz_in i 60 then some (xz_SH, I, xz_up J 130 i.toNatClampNeg v) else none) ∧ (∀ i v, xz_sJ0 (xz_SH, I, J) 131 i v = bif xz_in i 60 then some (xz_SH, I, xz_up J 131 i.toNatClampNeg v) else none) ∧ (∀ i v, xz_sJ0 (xz_SH, I, J) 132 i v = bif xz_in i 60 then some (xz_SH, I, xz_up J 132 i.toNatClampNeg v) else none) ∧ (∀ i v, xz_sJ0 (xz_SH, I, J) 133 i v = bif xz_in i 60 then some (xz_SH, I, xz_up J 133 i.toNatClampNeg v) else none) ∧ (∀ i v, xz_sJ0 (xz_SH, I, J) 134 i v = bif xz_in i 60 then some (xz_SH, I, xz_up J 134 i.toNatClampNeg v) else none) ∧ (∀ i v, xz_sJ0 (xz_SH, I, J) 135 i v = bif xz_in i 60 then some (xz_SH, I, xz_up J 135 i.toNatClampNeg v) else none) := ⟨fun _ _ => rfl, fun _ _ => rfl, fun _ _ => rfl, fun _ _ => rfl, fun _ _ => rfl, fun _ _ => rfl, fun _ _ => rfl, fun _ _ => rfl, fun _ _ => rfl, fun _ _ => rfl, fun _ _ => rfl, fun _ _ => rfl, fun _ _ => rfl⟩
end
