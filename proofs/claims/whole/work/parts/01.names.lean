-- ===== PART A: goes FIRST, ahead of the names: the tables' words, and 'selects' of the private methods out of them =====
/-- a private method of a class that the tables say can be made, by its rows of tables_1 -/
def lw_okq (q : MethodName × Nat) : Prop := (q.1.cls ≠ "java/lang/invoke/MethodHandle" ∧ q.1.cls ≠ "java/lang/invoke/VarHandle") ∧ Cond.instantiable q.1.cls q.2 ∈ tables_1 ∧ Cond.privateMethod q.1 ∈ tables_1 ∧ Cond.instanceMethod q.1 ∈ tables_1
theorem lw_p0 : lw_okq (⟨"NameRevisions", "mostThatCanGo", "()I"⟩, 7) := ⟨⟨by decide +kernel, by decide +kernel⟩, List.mem_of_getElem? (i := 15) (by decide +kernel), List.mem_of_getElem? (i := 583) (by decide +kernel), List.mem_of_getElem? (i := 584) (by decide +kernel)⟩
theorem lw_p1 : lw_okq (⟨"NameRevisions", "tellByHand", "(LNameRevisions$Pairs;II)I"⟩, 7) := ⟨⟨by decide +kernel, by decide +kernel⟩, List.mem_of_getElem? (i := 15) (by decide +kernel), List.mem_of_getElem? (i := 656) (by decide +kernel), List.mem_of_getElem? (i := 657) (by decide +kernel)⟩
theorem lw_p2 : lw_okq (⟨"NameRevisionsModel", "fault", "()I"⟩, 42) := ⟨⟨by decide +kernel, by decide +kernel⟩, List.mem_of_getElem? (i := 762) (by decide +kernel), List.mem_of_getElem? (i := 906) (by decide +kernel), List.mem_of_getElem? (i := 907) (by decide +kernel)⟩
theorem lw_p3 : lw_okq (⟨"NameRevisionsModel", "isText", "(I)Z"⟩, 42) := ⟨⟨by decide +kernel, by decide +kernel⟩, List.mem_of_getElem? (i := 762) (by decide +kernel), List.mem_of_getElem? (i := 910) (by decide +kernel), List.mem_of_getElem? (i := 911) (by decide +kernel)⟩
theorem lw_p4 : lw_okq (⟨"NameRevisionsModel", "newName", "(I)I"⟩, 42) := ⟨⟨by decide +kernel, by decide +kernel⟩, List.mem_of_getElem? (i := 762) (by decide +kernel), List.mem_of_getElem? (i := 914) (by decide +kernel), List.mem_of_getElem? (i := 915) (by decide +kernel)⟩
theorem lw_p5 : lw_okq (⟨"NameRevisionsModel", "isName", "(I)Z"⟩, 42) := ⟨⟨by decide +kernel, by decide +kernel⟩, List.mem_of_getElem? (i := 762) (by decide +kernel), List.mem_of_getElem? (i := 922) (by decide +kernel), List.mem_of_getElem? (i := 923) (by decide +kernel)⟩
theorem lw_p6 : lw_okq (⟨"NameRevisionsModel", "value", "(I)I"⟩, 42) := ⟨⟨by decide +kernel, by decide +kernel⟩, List.mem_of_getElem? (i := 762) (by decide +kernel), List.mem_of_getElem? (i := 926) (by decide +kernel), List.mem_of_getElem? (i := 927) (by decide +kernel)⟩
theorem lw_p7 : lw_okq (⟨"NameRevisionsModel", "committing", "()I"⟩, 42) := ⟨⟨by decide +kernel, by decide +kernel⟩, List.mem_of_getElem? (i := 762) (by decide +kernel), List.mem_of_getElem? (i := 930) (by decide +kernel), List.mem_of_getElem? (i := 931) (by decide +kernel)⟩
theorem lw_p8 : lw_okq (⟨"NameRevisionsModel", "rowFor", "(II)I"⟩, 42) := ⟨⟨by decide +kernel, by decide +kernel⟩, List.mem_of_getElem? (i := 762) (by decide +kernel), List.mem_of_getElem? (i := 934) (by decide +kernel), List.mem_of_getElem? (i := 935) (by decide +kernel)⟩
theorem lw_p9 : lw_okq (⟨"NameRevisionsModel", "nameOf", "(II)I"⟩, 42) := ⟨⟨by decide +kernel, by decide +kernel⟩, List.mem_of_getElem? (i := 762) (by decide +kernel), List.mem_of_getElem? (i := 938) (by decide +kernel), List.mem_of_getElem? (i := 939) (by decide +kernel)⟩
theorem lw_p10 : lw_okq (⟨"NameRevisionsModel", "stored", "(I)I"⟩, 42) := ⟨⟨by decide +kernel, by decide +kernel⟩, List.mem_of_getElem? (i := 762) (by decide +kernel), List.mem_of_getElem? (i := 942) (by decide +kernel), List.mem_of_getElem? (i := 943) (by decide +kernel)⟩
theorem lw_p11 : lw_okq (⟨"NameRevisionsModel", "fresh", "(II)I"⟩, 42) := ⟨⟨by decide +kernel, by decide +kernel⟩, List.mem_of_getElem? (i := 762) (by decide +kernel), List.mem_of_getElem? (i := 946) (by decide +kernel), List.mem_of_getElem? (i := 947) (by decide +kernel)⟩
theorem lw_p12 : lw_okq (⟨"NameRevisionsModel", "lockedBy", "(II)I"⟩, 42) := ⟨⟨by decide +kernel, by decide +kernel⟩, List.mem_of_getElem? (i := 762) (by decide +kernel), List.mem_of_getElem? (i := 950) (by decide +kernel), List.mem_of_getElem? (i := 951) (by decide +kernel)⟩
theorem lw_p13 : lw_okq (⟨"NameRevisionsModel", "place", "(I)I"⟩, 42) := ⟨⟨by decide +kernel, by decide +kernel⟩, List.mem_of_getElem? (i := 762) (by decide +kernel), List.mem_of_getElem? (i := 954) (by decide +kernel), List.mem_of_getElem? (i := 955) (by decide +kernel)⟩
theorem lw_p14 : lw_okq (⟨"NameRevisionsModel", "isBefore", "(II)Z"⟩, 42) := ⟨⟨by decide +kernel, by decide +kernel⟩, List.mem_of_getElem? (i := 762) (by decide +kernel), List.mem_of_getElem? (i := 958) (by decide +kernel), List.mem_of_getElem? (i := 959) (by decide +kernel)⟩
theorem lw_p15 : lw_okq (⟨"NameRevisionsModel", "isFolder", "(II)Z"⟩, 42) := ⟨⟨by decide +kernel, by decide +kernel⟩, List.mem_of_getElem? (i := 762) (by decide +kernel), List.mem_of_getElem? (i := 966) (by decide +kernel), List.mem_of_getElem? (i := 967) (by decide +kernel)⟩
def lw_privs_1 : List (MethodName × Nat) := [(⟨"NameRevisions", "mostThatCanGo", "()I"⟩, 7), (⟨"NameRevisions", "tellByHand", "(LNameRevisions$Pairs;II)I"⟩, 7), (⟨"NameRevisionsModel", "fault", "()I"⟩, 42), (⟨"NameRevisionsModel", "isText", "(I)Z"⟩, 42), (⟨"NameRevisionsModel", "newName", "(I)I"⟩, 42), (⟨"NameRevisionsModel", "isName", "(I)Z"⟩, 42), (⟨"NameRevisionsModel", "value", "(I)I"⟩, 42), (⟨"NameRevisionsModel", "committing", "()I"⟩, 42), (⟨"NameRevisionsModel", "rowFor", "(II)I"⟩, 42), (⟨"NameRevisionsModel", "nameOf", "(II)I"⟩, 42), (⟨"NameRevisionsModel", "stored", "(I)I"⟩, 42), (⟨"NameRevisionsModel", "fresh", "(II)I"⟩, 42), (⟨"NameRevisionsModel", "lockedBy", "(II)I"⟩, 42), (⟨"NameRevisionsModel", "place", "(I)I"⟩, 42), (⟨"NameRevisionsModel", "isBefore", "(II)Z"⟩, 42), (⟨"NameRevisionsModel", "isFolder", "(II)Z"⟩, 42)]
theorem lw_r1 : ∀ q ∈ lw_privs_1, lw_okq q := List.forall_mem_cons.mpr ⟨lw_p0, List.forall_mem_cons.mpr ⟨lw_p1, List.forall_mem_cons.mpr ⟨lw_p2, List.forall_mem_cons.mpr ⟨lw_p3, List.forall_mem_cons.mpr ⟨lw_p4, List.forall_mem_cons.mpr ⟨lw_p5, List.forall_mem_cons.mpr ⟨lw_p6, List.forall_mem_cons.mpr ⟨lw_p7, List.forall_mem_cons.mpr ⟨lw_p8, List.forall_mem_cons.mpr ⟨lw_p9, List.forall_mem_cons.mpr ⟨lw_p10, List.forall_mem_cons.mpr ⟨lw_p11, List.forall_mem_cons.mpr ⟨lw_p12, List.forall_mem_cons.mpr ⟨lw_p13, List.forall_mem_cons.mpr ⟨lw_p14, List.forall_mem_cons.mpr ⟨lw_p15, fun _ h => absurd h List.not_mem_nil⟩⟩⟩⟩⟩⟩⟩⟩⟩⟩⟩⟩⟩⟩⟩⟩
theorem lw_p16 : lw_okq (⟨"NameRevisionsModel", "drops", "(I)V"⟩, 42) := ⟨⟨by decide +kernel, by decide +kernel⟩, List.mem_of_getElem? (i := 762) (by decide +kernel), List.mem_of_getElem? (i := 986) (by decide +kernel), List.mem_of_getElem? (i := 987) (by decide +kernel)⟩
theorem lw_p17 : lw_okq (⟨"NameRevisionsModel", "isDeal", "(I)Z"⟩, 42) := ⟨⟨by decide +kernel, by decide +kernel⟩, List.mem_of_getElem? (i := 762) (by decide +kernel), List.mem_of_getElem? (i := 998) (by decide +kernel), List.mem_of_getElem? (i := 999) (by decide +kernel)⟩
theorem lw_p18 : lw_okq (⟨"NameRevisionsModel", "wrong", "(I)I"⟩, 42) := ⟨⟨by decide +kernel, by decide +kernel⟩, List.mem_of_getElem? (i := 762) (by decide +kernel), List.mem_of_getElem? (i := 1009) (by decide +kernel), List.mem_of_getElem? (i := 1010) (by decide +kernel)⟩
theorem lw_p19 : lw_okq (⟨"NameRevisionsModel", "wrongOf", "(II)I"⟩, 42) := ⟨⟨by decide +kernel, by decide +kernel⟩, List.mem_of_getElem? (i := 762) (by decide +kernel), List.mem_of_getElem? (i := 1013) (by decide +kernel), List.mem_of_getElem? (i := 1014) (by decide +kernel)⟩
theorem lw_p20 : lw_okq (⟨"NameRevisionsModel", "isAsked", "(III)Z"⟩, 42) := ⟨⟨by decide +kernel, by decide +kernel⟩, List.mem_of_getElem? (i := 762) (by decide +kernel), List.mem_of_getElem? (i := 1017) (by decide +kernel), List.mem_of_getElem? (i := 1018) (by decide +kernel)⟩
theorem lw_p21 : lw_okq (⟨"NameRevisionsModel", "old", "(II)I"⟩, 42) := ⟨⟨by decide +kernel, by decide +kernel⟩, List.mem_of_getElem? (i := 762) (by decide +kernel), List.mem_of_getElem? (i := 1021) (by decide +kernel), List.mem_of_getElem? (i := 1022) (by decide +kernel)⟩
theorem lw_p22 : lw_okq (⟨"NameRevisionsModel", "clashes", "(II)Z"⟩, 42) := ⟨⟨by decide +kernel, by decide +kernel⟩, List.mem_of_getElem? (i := 762) (by decide +kernel), List.mem_of_getElem? (i := 1025) (by decide +kernel), List.mem_of_getElem? (i := 1026) (by decide +kernel)⟩
theorem lw_p23 : lw_okq (⟨"NameRevisionsModel", "isComing", "(II)Z"⟩, 42) := ⟨⟨by decide +kernel, by decide +kernel⟩, List.mem_of_getElem? (i := 762) (by decide +kernel), List.mem_of_getElem? (i := 1029) (by decide +kernel), List.mem_of_getElem? (i := 1030) (by decide +kernel)⟩
theorem lw_p24 : lw_okq (⟨"NameRevisionsModel", "steps", "(II)I"⟩, 42) := ⟨⟨by decide +kernel, by decide +kernel⟩, List.mem_of_getElem? (i := 762) (by decide +kernel), List.mem_of_getElem? (i := 1049) (by decide +kernel), List.mem_of_getElem? (i := 1050) (by decide +kernel)⟩
theorem lw_p25 : lw_okq (⟨"NameRevisionsModel", "goes", "(I)Z"⟩, 42) := ⟨⟨by decide +kernel, by decide +kernel⟩, List.mem_of_getElem? (i := 762) (by decide +kernel), List.mem_of_getElem? (i := 1053) (by decide +kernel), List.mem_of_getElem? (i := 1054) (by decide +kernel)⟩
theorem lw_p26 : lw_okq (⟨"NameRevisionsModel", "commits", "()Z"⟩, 42) := ⟨⟨by decide +kernel, by decide +kernel⟩, List.mem_of_getElem? (i := 762) (by decide +kernel), List.mem_of_getElem? (i := 1057) (by decide +kernel), List.mem_of_getElem? (i := 1058) (by decide +kernel)⟩
theorem lw_p27 : lw_okq (⟨"NameRevisionsModel", "applies", "(II)V"⟩, 42) := ⟨⟨by decide +kernel, by decide +kernel⟩, List.mem_of_getElem? (i := 762) (by decide +kernel), List.mem_of_getElem? (i := 1061) (by decide +kernel), List.mem_of_getElem? (i := 1062) (by decide +kernel)⟩
theorem lw_p28 : lw_okq (⟨"NameRevisionsModel", "notes", "(III)V"⟩, 42) := ⟨⟨by decide +kernel, by decide +kernel⟩, List.mem_of_getElem? (i := 762) (by decide +kernel), List.mem_of_getElem? (i := 1065) (by decide +kernel), List.mem_of_getElem? (i := 1066) (by decide +kernel)⟩
theorem lw_p29 : lw_okq (⟨"NameRevisionsModel", "repacks", "()Z"⟩, 42) := ⟨⟨by decide +kernel, by decide +kernel⟩, List.mem_of_getElem? (i := 762) (by decide +kernel), List.mem_of_getElem? (i := 1069) (by decide +kernel), List.mem_of_getElem? (i := 1070) (by decide +kernel)⟩
theorem lw_p30 : lw_okq (⟨"NameRevisionsModel", "nextToReach", "()I"⟩, 42) := ⟨⟨by decide +kernel, by decide +kernel⟩, List.mem_of_getElem? (i := 762) (by decide +kernel), List.mem_of_getElem? (i := 1073) (by decide +kernel), List.mem_of_getElem? (i := 1074) (by decide +kernel)⟩
theorem lw_p31 : lw_okq (⟨"NameRevisionsModel", "crashes", "()I"⟩, 42) := ⟨⟨by decide +kernel, by decide +kernel⟩, List.mem_of_getElem? (i := 762) (by decide +kernel), List.mem_of_getElem? (i := 1081) (by decide +kernel), List.mem_of_getElem? (i := 1082) (by decide +kernel)⟩
def lw_privs_2 : List (MethodName × Nat) := [(⟨"NameRevisionsModel", "drops", "(I)V"⟩, 42), (⟨"NameRevisionsModel", "isDeal", "(I)Z"⟩, 42), (⟨"NameRevisionsModel", "wrong", "(I)I"⟩, 42), (⟨"NameRevisionsModel", "wrongOf", "(II)I"⟩, 42), (⟨"NameRevisionsModel", "isAsked", "(III)Z"⟩, 42), (⟨"NameRevisionsModel", "old", "(II)I"⟩, 42), (⟨"NameRevisionsModel", "clashes", "(II)Z"⟩, 42), (⟨"NameRevisionsModel", "isComing", "(II)Z"⟩, 42), (⟨"NameRevisionsModel", "steps", "(II)I"⟩, 42), (⟨"NameRevisionsModel", "goes", "(I)Z"⟩, 42), (⟨"NameRevisionsModel", "commits", "()Z"⟩, 42), (⟨"NameRevisionsModel", "applies", "(II)V"⟩, 42), (⟨"NameRevisionsModel", "notes", "(III)V"⟩, 42), (⟨"NameRevisionsModel", "repacks", "()Z"⟩, 42), (⟨"NameRevisionsModel", "nextToReach", "()I"⟩, 42), (⟨"NameRevisionsModel", "crashes", "()I"⟩, 42)]
theorem lw_r2 : ∀ q ∈ lw_privs_2, lw_okq q := List.forall_mem_cons.mpr ⟨lw_p16, List.forall_mem_cons.mpr ⟨lw_p17, List.forall_mem_cons.mpr ⟨lw_p18, List.forall_mem_cons.mpr ⟨lw_p19, List.forall_mem_cons.mpr ⟨lw_p20, List.forall_mem_cons.mpr ⟨lw_p21, List.forall_mem_cons.mpr ⟨lw_p22, List.forall_mem_cons.mpr ⟨lw_p23, List.forall_mem_cons.mpr ⟨lw_p24, List.forall_mem_cons.mpr ⟨lw_p25, List.forall_mem_cons.mpr ⟨lw_p26, List.forall_mem_cons.mpr ⟨lw_p27, List.forall_mem_cons.mpr ⟨lw_p28, List.forall_mem_cons.mpr ⟨lw_p29, List.forall_mem_cons.mpr ⟨lw_p30, List.forall_mem_cons.mpr ⟨lw_p31, fun _ h => absurd h List.not_mem_nil⟩⟩⟩⟩⟩⟩⟩⟩⟩⟩⟩⟩⟩⟩⟩⟩
theorem lw_p32 : lw_okq (⟨"NameRevisionsModel", "deals", "()I"⟩, 42) := ⟨⟨by decide +kernel, by decide +kernel⟩, List.mem_of_getElem? (i := 762) (by decide +kernel), List.mem_of_getElem? (i := 1085) (by decide +kernel), List.mem_of_getElem? (i := 1086) (by decide +kernel)⟩
theorem lw_p33 : lw_okq (⟨"NameRevisionsModel", "wroteOnes", "()I"⟩, 42) := ⟨⟨by decide +kernel, by decide +kernel⟩, List.mem_of_getElem? (i := 762) (by decide +kernel), List.mem_of_getElem? (i := 1097) (by decide +kernel), List.mem_of_getElem? (i := 1098) (by decide +kernel)⟩
theorem lw_p34 : lw_okq (⟨"NameRevisionsModel", "allDeals", "()I"⟩, 42) := ⟨⟨by decide +kernel, by decide +kernel⟩, List.mem_of_getElem? (i := 762) (by decide +kernel), List.mem_of_getElem? (i := 1101) (by decide +kernel), List.mem_of_getElem? (i := 1102) (by decide +kernel)⟩
theorem lw_p35 : lw_okq (⟨"NameRevisionsModel", "most", "()I"⟩, 42) := ⟨⟨by decide +kernel, by decide +kernel⟩, List.mem_of_getElem? (i := 762) (by decide +kernel), List.mem_of_getElem? (i := 1105) (by decide +kernel), List.mem_of_getElem? (i := 1106) (by decide +kernel)⟩
theorem lw_p36 : lw_okq (⟨"NameRevisionsModel", "isSet", "(I)Z"⟩, 42) := ⟨⟨by decide +kernel, by decide +kernel⟩, List.mem_of_getElem? (i := 762) (by decide +kernel), List.mem_of_getElem? (i := 1109) (by decide +kernel), List.mem_of_getElem? (i := 1110) (by decide +kernel)⟩
theorem lw_p37 : lw_okq (⟨"NameRevisionsModel", "all", "(III)V"⟩, 42) := ⟨⟨by decide +kernel, by decide +kernel⟩, List.mem_of_getElem? (i := 762) (by decide +kernel), List.mem_of_getElem? (i := 1114) (by decide +kernel), List.mem_of_getElem? (i := 1115) (by decide +kernel)⟩
theorem lw_p38 : lw_okq (⟨"NameRevisionsModel", "tries", "(III)V"⟩, 42) := ⟨⟨by decide +kernel, by decide +kernel⟩, List.mem_of_getElem? (i := 762) (by decide +kernel), List.mem_of_getElem? (i := 1118) (by decide +kernel), List.mem_of_getElem? (i := 1119) (by decide +kernel)⟩
theorem lw_p39 : lw_okq (⟨"NameRevisionsModel", "isSeen", "(I)Z"⟩, 42) := ⟨⟨by decide +kernel, by decide +kernel⟩, List.mem_of_getElem? (i := 762) (by decide +kernel), List.mem_of_getElem? (i := 1122) (by decide +kernel), List.mem_of_getElem? (i := 1123) (by decide +kernel)⟩
theorem lw_p40 : lw_okq (⟨"NameRevisionsModel", "canGo", "(II)Z"⟩, 42) := ⟨⟨by decide +kernel, by decide +kernel⟩, List.mem_of_getElem? (i := 762) (by decide +kernel), List.mem_of_getElem? (i := 1126) (by decide +kernel), List.mem_of_getElem? (i := 1127) (by decide +kernel)⟩
theorem lw_p41 : lw_okq (⟨"NameRevisionsModel", "keep", "([I)V"⟩, 42) := ⟨⟨by decide +kernel, by decide +kernel⟩, List.mem_of_getElem? (i := 762) (by decide +kernel), List.mem_of_getElem? (i := 1134) (by decide +kernel), List.mem_of_getElem? (i := 1135) (by decide +kernel)⟩
theorem lw_p42 : lw_okq (⟨"NameRevisionsModel", "again", "([I)V"⟩, 42) := ⟨⟨by decide +kernel, by decide +kernel⟩, List.mem_of_getElem? (i := 762) (by decide +kernel), List.mem_of_getElem? (i := 1138) (by decide +kernel), List.mem_of_getElem? (i := 1139) (by decide +kernel)⟩
def lw_privs_3 : List (MethodName × Nat) := [(⟨"NameRevisionsModel", "deals", "()I"⟩, 42), (⟨"NameRevisionsModel", "wroteOnes", "()I"⟩, 42), (⟨"NameRevisionsModel", "allDeals", "()I"⟩, 42), (⟨"NameRevisionsModel", "most", "()I"⟩, 42), (⟨"NameRevisionsModel", "isSet", "(I)Z"⟩, 42), (⟨"NameRevisionsModel", "all", "(III)V"⟩, 42), (⟨"NameRevisionsModel", "tries", "(III)V"⟩, 42), (⟨"NameRevisionsModel", "isSeen", "(I)Z"⟩, 42), (⟨"NameRevisionsModel", "canGo", "(II)Z"⟩, 42), (⟨"NameRevisionsModel", "keep", "([I)V"⟩, 42), (⟨"NameRevisionsModel", "again", "([I)V"⟩, 42)]
theorem lw_r3 : ∀ q ∈ lw_privs_3, lw_okq q := List.forall_mem_cons.mpr ⟨lw_p32, List.forall_mem_cons.mpr ⟨lw_p33, List.forall_mem_cons.mpr ⟨lw_p34, List.forall_mem_cons.mpr ⟨lw_p35, List.forall_mem_cons.mpr ⟨lw_p36, List.forall_mem_cons.mpr ⟨lw_p37, List.forall_mem_cons.mpr ⟨lw_p38, List.forall_mem_cons.mpr ⟨lw_p39, List.forall_mem_cons.mpr ⟨lw_p40, List.forall_mem_cons.mpr ⟨lw_p41, List.forall_mem_cons.mpr ⟨lw_p42, fun _ h => absurd h List.not_mem_nil⟩⟩⟩⟩⟩⟩⟩⟩⟩⟩⟩
def lw_privs : List (MethodName × Nat) := lw_privs_1 ++ (lw_privs_2 ++ (lw_privs_3))
def lw_tbl : List Cond := k2_sels lw_privs ++ tables_1
theorem lw_privs_ok : ∀ q ∈ lw_privs, lw_okq q := by
  show ∀ q ∈ lw_privs_1 ++ (lw_privs_2 ++ (lw_privs_3)), lw_okq q
  exact List.forall_mem_append.mpr ⟨lw_r1, List.forall_mem_append.mpr ⟨lw_r2, lw_r3⟩⟩
def RX0 : String := "NameRevisions$Deal"
def TX0 : u_T := fun k => match k with
  | 0 => ("NameRevisions$Deal", "names", "[I", true)
  | 1 => ("NameRevisions$Deal", "olds", "[I", true)
  | 2 => ("NameRevisions$Deal", "freshes", "[I", true)
  | 3 => ("NameRevisions$Deal", "rows", "I", false)
  | 4 => ("NameRevisions$Deal", "kind", "I", false)
  | _ => ("NameRevisions$Deal", "phase", "I", false)
def tyX0 : Nat → FieldType := fun k => match k with
  | 0 => .array .int
  | 1 => .array .int
  | 2 => .array .int
  | 3 => .int
  | 4 => .int
  | _ => .int
theorem nmX0 : ∀ a, a < 6 → ∀ b, b < 6 → a ≠ b → (TX0 a).2.1 ≠ (TX0 b).2.1 := by decide +kernel
theorem tyX0_ok : ∀ k, k < 6 → parseFieldDescriptor (TX0 k).2.2.1 = some (tyX0 k) := by decide +kernel
abbrev cX0_init : ByteArray := prog_2_method_1_code
def yX0_init : MethodName := ⟨RX0, "<init>", "()V"⟩
abbrev cX0_begin : ByteArray := prog_2_method_2_code
def yX0_begin : MethodName := ⟨RX0, "begin", "(I)V"⟩
abbrev cX0_add : ByteArray := prog_2_method_3_code
def yX0_add : MethodName := ⟨RX0, "add", "(III)I"⟩
abbrev cX0_rowFor : ByteArray := prog_2_method_4_code
def yX0_rowFor : MethodName := ⟨RX0, "rowFor", "(I)I"⟩
abbrev cX0_locks : ByteArray := prog_2_method_5_code
def yX0_locks : MethodName := ⟨RX0, "locks", "(I)Z"⟩
abbrev cX0_isAskedFor : ByteArray := prog_2_method_6_code
def yX0_isAskedFor : MethodName := ⟨RX0, "isAskedFor", "(II)Z"⟩
abbrev cX0_namesInRows : ByteArray := prog_2_method_7_code
def yX0_namesInRows : MethodName := ⟨RX0, "namesInRows", "(Z)I"⟩
abbrev cX0_become : ByteArray := prog_2_method_8_code
def yX0_become : MethodName := ⟨RX0, "become", "(LNameRevisions$Deal;)V"⟩
def RX1 : String := "NameRevisions$Journal"
def TX1 : u_T := fun k => match k with
  | 0 => ("NameRevisions$Journal", "times", "[I", true)
  | 1 => ("NameRevisions$Journal", "before", "[I", true)
  | 2 => ("NameRevisions$Journal", "fresh", "[I", true)
  | _ => ("NameRevisions$Journal", "size", "I", false)
def tyX1 : Nat → FieldType := fun k => match k with
  | 0 => .array .int
  | 1 => .array .int
  | 2 => .array .int
  | _ => .int
theorem nmX1 : ∀ a, a < 4 → ∀ b, b < 4 → a ≠ b → (TX1 a).2.1 ≠ (TX1 b).2.1 := by decide +kernel
theorem tyX1_ok : ∀ k, k < 4 → parseFieldDescriptor (TX1 k).2.2.1 = some (tyX1 k) := by decide +kernel
abbrev cX1_init : ByteArray := prog_3_method_1_code
def yX1_init : MethodName := ⟨RX1, "<init>", "()V"⟩
abbrev cX1_add : ByteArray := prog_3_method_2_code
def yX1_add : MethodName := ⟨RX1, "add", "(III)V"⟩
abbrev cX1_cut : ByteArray := prog_3_method_3_code
def yX1_cut : MethodName := ⟨RX1, "cut", "(I)I"⟩
abbrev cX1_dropOldest : ByteArray := prog_3_method_4_code
def yX1_dropOldest : MethodName := ⟨RX1, "dropOldest", "(I)V"⟩
abbrev cX1_wasAt : ByteArray := prog_3_method_5_code
def yX1_wasAt : MethodName := ⟨RX1, "wasAt", "(II)I"⟩
abbrev cX1_become : ByteArray := prog_3_method_6_code
def yX1_become : MethodName := ⟨RX1, "become", "(LNameRevisions$Journal;)V"⟩
def RX2 : String := "NameRevisions$Name"
def TX2 : u_T := fun k => match k with
  | 0 => ("NameRevisions$Name", "journal", "LNameRevisions$Journal;", true)
  | 1 => ("NameRevisions$Name", "key", "J", false)
  | 2 => ("NameRevisions$Name", "bytes", "I", false)
  | 3 => ("NameRevisions$Name", "parts", "I", false)
  | 4 => ("NameRevisions$Name", "kin", "I", false)
  | 5 => ("NameRevisions$Name", "loose", "I", false)
  | 6 => ("NameRevisions$Name", "packed", "I", false)
  | _ => ("NameRevisions$Name", "written", "I", false)
def tyX2 : Nat → FieldType := fun k => match k with
  | 0 => .object "NameRevisions$Journal"
  | 1 => .long
  | 2 => .int
  | 3 => .int
  | 4 => .int
  | 5 => .int
  | 6 => .int
  | _ => .int
theorem nmX2 : ∀ a, a < 8 → ∀ b, b < 8 → a ≠ b → (TX2 a).2.1 ≠ (TX2 b).2.1 := by decide +kernel
theorem tyX2_ok : ∀ k, k < 8 → parseFieldDescriptor (TX2 k).2.2.1 = some (tyX2 k) := by decide +kernel
abbrev cX2_init : ByteArray := prog_4_method_1_code
def yX2_init : MethodName := ⟨RX2, "<init>", "()V"⟩
abbrev cX2_begin : ByteArray := prog_4_method_2_code
def yX2_begin : MethodName := ⟨RX2, "begin", "(LNameRevisions$Text;)V"⟩
abbrev cX2_stored : ByteArray := prog_4_method_3_code
def yX2_stored : MethodName := ⟨RX2, "stored", "()I"⟩
abbrev cX2_isFolderOf : ByteArray := prog_4_method_4_code
def yX2_isFolderOf : MethodName := ⟨RX2, "isFolderOf", "(LNameRevisions$Name;)Z"⟩
abbrev cX2_apply : ByteArray := prog_4_method_5_code
def yX2_apply : MethodName := ⟨RX2, "apply", "(II)V"⟩
abbrev cX2_endRepack : ByteArray := prog_4_method_6_code
def yX2_endRepack : MethodName := ⟨RX2, "endRepack", "()V"⟩
abbrev cX2_become : ByteArray := prog_4_method_7_code
def yX2_become : MethodName := ⟨RX2, "become", "(LNameRevisions$Name;)V"⟩
def RX3 : String := "NameRevisions$Orders"
def TX3 : u_T := fun k => match k with
  | 0 => ("NameRevisions$Orders", "stored", "[[I", true)
  | 1 => ("NameRevisions$Orders", "set", "I", false)
  | 2 => ("NameRevisions$Orders", "name", "I", false)
  | 3 => ("NameRevisions$Orders", "revision", "I", false)
  | 4 => ("NameRevisions$Orders", "all", "I", false)
  | 5 => ("NameRevisions$Orders", "ending", "I", false)
  | 6 => ("NameRevisions$Orders", "fitting", "I", false)
  | 7 => ("NameRevisions$Orders", "firstFitting", "I", false)
  | _ => ("NameRevisions$Orders", "most", "I", false)
def tyX3 : Nat → FieldType := fun k => match k with
  | 0 => .array (.array .int)
  | 1 => .int
  | 2 => .int
  | 3 => .int
  | 4 => .int
  | 5 => .int
  | 6 => .int
  | 7 => .int
  | _ => .int
theorem nmX3 : ∀ a, a < 9 → ∀ b, b < 9 → a ≠ b → (TX3 a).2.1 ≠ (TX3 b).2.1 := by decide +kernel
theorem tyX3_ok : ∀ k, k < 9 → parseFieldDescriptor (TX3 k).2.2.1 = some (tyX3 k) := by decide +kernel
abbrev cX3_init : ByteArray := prog_5_method_1_code
def yX3_init : MethodName := ⟨RX3, "<init>", "()V"⟩
abbrev cX3_run : ByteArray := prog_5_method_2_code
def yX3_run : MethodName := ⟨RX3, "run", "(LNameRevisions$Store;III)V"⟩
abbrev cX3_letGo : ByteArray := prog_5_method_3_code
def yX3_letGo : MethodName := ⟨RX3, "letGo", "(LNameRevisions$Orders;LNameRevisions$Store;III)V"⟩
abbrev cX3_noteGone : ByteArray := prog_5_method_4_code
def yX3_noteGone : MethodName := ⟨RX3, "noteGone", "(I)V"⟩
abbrev cX3_noteOrder : ByteArray := prog_5_method_5_code
def yX3_noteOrder : MethodName := ⟨RX3, "noteOrder", "(LNameRevisions$Store;[II)V"⟩
def RX4 : String := "NameRevisions$Pairs"
def TX4 : u_T := fun k => match k with
  | 0 => ("NameRevisions$Pairs", "left", "[I", true)
  | 1 => ("NameRevisions$Pairs", "right", "[I", true)
  | 2 => ("NameRevisions$Pairs", "most", "I", true)
  | _ => ("NameRevisions$Pairs", "size", "I", false)
def tyX4 : Nat → FieldType := fun k => match k with
  | 0 => .array .int
  | 1 => .array .int
  | 2 => .int
  | _ => .int
theorem nmX4 : ∀ a, a < 4 → ∀ b, b < 4 → a ≠ b → (TX4 a).2.1 ≠ (TX4 b).2.1 := by decide +kernel
theorem tyX4_ok : ∀ k, k < 4 → parseFieldDescriptor (TX4 k).2.2.1 = some (tyX4 k) := by decide +kernel
abbrev cX4_init : ByteArray := prog_6_method_1_code
def yX4_init : MethodName := ⟨RX4, "<init>", "(I)V"⟩
abbrev cX4_add : ByteArray := prog_6_method_2_code
def yX4_add : MethodName := ⟨RX4, "add", "(II)I"⟩
abbrev cX4_become : ByteArray := prog_6_method_3_code
def yX4_become : MethodName := ⟨RX4, "become", "(LNameRevisions$Pairs;)V"⟩
def RX5 : String := "NameRevisions$Store"
def TX5 : u_T := fun k => match k with
  | 0 => ("NameRevisions$Store", "names", "[LNameRevisions$Name;", true)
  | 1 => ("NameRevisions$Store", "deals", "[LNameRevisions$Deal;", true)
  | 2 => ("NameRevisions$Store", "seen", "LNameRevisions$Pairs;", true)
  | 3 => ("NameRevisions$Store", "plan", "LNameRevisions$Pairs;", true)
  | 4 => ("NameRevisions$Store", "book", "LNameRevisions$Pairs;", true)
  | 5 => ("NameRevisions$Store", "storedNow", "[I", true)
  | 6 => ("NameRevisions$Store", "named", "I", false)
  | 7 => ("NameRevisions$Store", "time", "I", false)
  | 8 => ("NameRevisions$Store", "recorded", "Z", false)
  | 9 => ("NameRevisions$Store", "applied", "I", false)
  | 10 => ("NameRevisions$Store", "repacking", "Z", false)
  | _ => ("NameRevisions$Store", "reached", "J", false)
def tyX5 : Nat → FieldType := fun k => match k with
  | 0 => .array (.object "NameRevisions$Name")
  | 1 => .array (.object "NameRevisions$Deal")
  | 2 => .object "NameRevisions$Pairs"
  | 3 => .object "NameRevisions$Pairs"
  | 4 => .object "NameRevisions$Pairs"
  | 5 => .array .int
  | 6 => .int
  | 7 => .int
  | 8 => .boolean
  | 9 => .int
  | 10 => .boolean
  | _ => .long
theorem nmX5 : ∀ a, a < 12 → ∀ b, b < 12 → a ≠ b → (TX5 a).2.1 ≠ (TX5 b).2.1 := by decide +kernel
theorem tyX5_ok : ∀ k, k < 12 → parseFieldDescriptor (TX5 k).2.2.1 = some (tyX5 k) := by decide +kernel
abbrev cX5_init : ByteArray := prog_7_method_1_code
def yX5_init : MethodName := ⟨RX5, "<init>", "()V"⟩
abbrev cX5_become : ByteArray := prog_7_method_2_code
def yX5_become : MethodName := ⟨RX5, "become", "(LNameRevisions$Store;)V"⟩
abbrev cX5_isName : ByteArray := prog_7_method_3_code
def yX5_isName : MethodName := ⟨RX5, "isName", "(I)Z"⟩
abbrev cX5_allNames : ByteArray := prog_7_method_4_code
def yX5_allNames : MethodName := ⟨RX5, "allNames", "()I"⟩
abbrev cX5_nameFor : ByteArray := prog_7_method_5_code
def yX5_nameFor : MethodName := ⟨RX5, "nameFor", "(LNameRevisions$Text;)I"⟩
abbrev cX5_joinKin : ByteArray := prog_7_method_6_code
def yX5_joinKin : MethodName := ⟨RX5, "joinKin", "(I)V"⟩
abbrev cX5_namesUnder : ByteArray := prog_7_method_7_code
def yX5_namesUnder : MethodName := ⟨RX5, "namesUnder", "(I)I"⟩
abbrev cX5_namesStored : ByteArray := prog_7_method_8_code
def yX5_namesStored : MethodName := ⟨RX5, "namesStored", "()I"⟩
abbrev cX5_namesWithValue : ByteArray := prog_7_method_9_code
def yX5_namesWithValue : MethodName := ⟨RX5, "namesWithValue", "()I"⟩
abbrev cX5_placeAmong : ByteArray := prog_7_method_10_code
def yX5_placeAmong : MethodName := ⟨RX5, "placeAmong", "(II)I"⟩
abbrev cX5_numberAmong : ByteArray := prog_7_method_11_code
def yX5_numberAmong : MethodName := ⟨RX5, "numberAmong", "(II)I"⟩
abbrev cX5_valueOf : ByteArray := prog_7_method_12_code
def yX5_valueOf : MethodName := ⟨RX5, "valueOf", "(I)I"⟩
abbrev cX5_isDeal : ByteArray := prog_7_method_13_code
def yX5_isDeal : MethodName := ⟨RX5, "isDeal", "(I)Z"⟩
abbrev cX5_isSet : ByteArray := prog_7_method_14_code
def yX5_isSet : MethodName := ⟨RX5, "isSet", "(I)Z"⟩
abbrev cX5_allDeals : ByteArray := prog_7_method_15_code
def yX5_allDeals : MethodName := ⟨RX5, "allDeals", "()I"⟩
abbrev cX5_dealsThatCanGo : ByteArray := prog_7_method_16_code
def yX5_dealsThatCanGo : MethodName := ⟨RX5, "dealsThatCanGo", "()I"⟩
abbrev cX5_committing : ByteArray := prog_7_method_17_code
def yX5_committing : MethodName := ⟨RX5, "committing", "()I"⟩
abbrev cX5_lockerOf : ByteArray := prog_7_method_18_code
def yX5_lockerOf : MethodName := ⟨RX5, "lockerOf", "(I)I"⟩
abbrev cX5_namesOfOthers : ByteArray := prog_7_method_19_code
def yX5_namesOfOthers : MethodName := ⟨RX5, "namesOfOthers", "(IZ)I"⟩
abbrev cX5_wrongOf : ByteArray := prog_7_method_20_code
def yX5_wrongOf : MethodName := ⟨RX5, "wrongOf", "(I)I"⟩
abbrev cX5_wrongBy : ByteArray := prog_7_method_21_code
def yX5_wrongBy : MethodName := ⟨RX5, "wrongBy", "(LNameRevisions$Deal;[III)I"⟩
abbrev cX5_namesThere : ByteArray := prog_7_method_22_code
def yX5_namesThere : MethodName := ⟨RX5, "namesThere", "(LNameRevisions$Deal;[II)I"⟩
abbrev cX5_takeSteps : ByteArray := prog_7_method_23_code
def yX5_takeSteps : MethodName := ⟨RX5, "takeSteps", "(II)I"⟩
abbrev cX5_stepsLeft : ByteArray := prog_7_method_24_code
def yX5_stepsLeft : MethodName := ⟨RX5, "stepsLeft", "()I"⟩
abbrev cX5_stepOfDeal : ByteArray := prog_7_method_25_code
def yX5_stepOfDeal : MethodName := ⟨RX5, "stepOfDeal", "()Z"⟩
abbrev cX5_beginRepack : ByteArray := prog_7_method_26_code
def yX5_beginRepack : MethodName := ⟨RX5, "beginRepack", "()V"⟩
abbrev cX5_stepOfRepack : ByteArray := prog_7_method_27_code
def yX5_stepOfRepack : MethodName := ⟨RX5, "stepOfRepack", "()Z"⟩
abbrev cX5_namesBehind : ByteArray := prog_7_method_28_code
def yX5_namesBehind : MethodName := ⟨RX5, "namesBehind", "(J)I"⟩
abbrev cX5_namesWritten : ByteArray := prog_7_method_29_code
def yX5_namesWritten : MethodName := ⟨RX5, "namesWritten", "()I"⟩
abbrev cX5_breakDown : ByteArray := prog_7_method_30_code
def yX5_breakDown : MethodName := ⟨RX5, "breakDown", "()I"⟩
abbrev cX5_carryOutPlan : ByteArray := prog_7_method_31_code
def yX5_carryOutPlan : MethodName := ⟨RX5, "carryOutPlan", "()V"⟩
def RX6 : String := "NameRevisions$Tape"
def TX6 : u_T := fun k => match k with
  | 0 => ("NameRevisions$Tape", "items", "[J", true)
  | 1 => ("NameRevisions$Tape", "sort", "I", false)
  | _ => ("NameRevisions$Tape", "size", "I", false)
def tyX6 : Nat → FieldType := fun k => match k with
  | 0 => .array .long
  | 1 => .int
  | _ => .int
theorem nmX6 : ∀ a, a < 3 → ∀ b, b < 3 → a ≠ b → (TX6 a).2.1 ≠ (TX6 b).2.1 := by decide +kernel
theorem tyX6_ok : ∀ k, k < 3 → parseFieldDescriptor (TX6 k).2.2.1 = some (tyX6 k) := by decide +kernel
abbrev cX6_init : ByteArray := prog_8_method_1_code
def yX6_init : MethodName := ⟨RX6, "<init>", "()V"⟩
abbrev cX6_begin : ByteArray := prog_8_method_2_code
def yX6_begin : MethodName := ⟨RX6, "begin", "(II)V"⟩
abbrev cX6_holds : ByteArray := prog_8_method_3_code
def yX6_holds : MethodName := ⟨RX6, "holds", "(II)Z"⟩
abbrev cX6_narrowed : ByteArray := prog_8_method_4_code
def yX6_narrowed : MethodName := ⟨RX6, "narrowed", "(J)J"⟩
def RX7 : String := "NameRevisions$Text"
def TX7 : u_T := fun k => match k with
  | 0 => ("NameRevisions$Text", "signs", "[B", true)
  | _ => ("NameRevisions$Text", "size", "I", false)
def tyX7 : Nat → FieldType := fun k => match k with
  | 0 => .array .byte
  | _ => .int
theorem nmX7 : ∀ a, a < 2 → ∀ b, b < 2 → a ≠ b → (TX7 a).2.1 ≠ (TX7 b).2.1 := by decide +kernel
theorem tyX7_ok : ∀ k, k < 2 → parseFieldDescriptor (TX7 k).2.2.1 = some (tyX7 k) := by decide +kernel
abbrev cX7_init : ByteArray := prog_9_method_1_code
def yX7_init : MethodName := ⟨RX7, "<init>", "()V"⟩
abbrev cX7_fault : ByteArray := prog_9_method_2_code
def yX7_fault : MethodName := ⟨RX7, "fault", "()I"⟩
abbrev cX7_key : ByteArray := prog_9_method_3_code
def yX7_key : MethodName := ⟨RX7, "key", "()J"⟩
abbrev cX7_parts : ByteArray := prog_9_method_4_code
def yX7_parts : MethodName := ⟨RX7, "parts", "()I"⟩
def RX8 : String := "NameRevisions"
def TX8 : u_T := fun k => match k with
  | 0 => ("NameRevisions", "text", "LNameRevisions$Text;", true)
  | 1 => ("NameRevisions", "now", "LNameRevisions$Store;", true)
  | 2 => ("NameRevisions", "image", "LNameRevisions$Store;", true)
  | 3 => ("NameRevisions", "trial", "LNameRevisions$Store;", true)
  | 4 => ("NameRevisions", "tally", "LNameRevisions$Orders;", true)
  | 5 => ("NameRevisions", "tapes", "[LNameRevisions$Tape;", true)
  | _ => ("NameRevisions", "imaged", "Z", false)
def tyX8 : Nat → FieldType := fun k => match k with
  | 0 => .object "NameRevisions$Text"
  | 1 => .object "NameRevisions$Store"
  | 2 => .object "NameRevisions$Store"
  | 3 => .object "NameRevisions$Store"
  | 4 => .object "NameRevisions$Orders"
  | 5 => .array (.object "NameRevisions$Tape")
  | _ => .boolean
theorem nmX8 : ∀ a, a < 7 → ∀ b, b < 7 → a ≠ b → (TX8 a).2.1 ≠ (TX8 b).2.1 := by decide +kernel
theorem tyX8_ok : ∀ k, k < 7 → parseFieldDescriptor (TX8 k).2.2.1 = some (tyX8 k) := by decide +kernel
abbrev cX8_init : ByteArray := prog_1_method_1_code
def yX8_init : MethodName := ⟨RX8, "<init>", "()V"⟩
abbrev cX8_feed : ByteArray := prog_1_method_2_code
def yX8_feed : MethodName := ⟨RX8, "feed", "(I)I"⟩
abbrev cX8_name : ByteArray := prog_1_method_3_code
def yX8_name : MethodName := ⟨RX8, "name", "()I"⟩
abbrev cX8_of : ByteArray := prog_1_method_4_code
def yX8_of : MethodName := ⟨RX8, "of", "(II)I"⟩
abbrev cX8_folder : ByteArray := prog_1_method_5_code
def yX8_folder : MethodName := ⟨RX8, "folder", "(II)I"⟩
abbrev cX8_list : ByteArray := prog_1_method_6_code
def yX8_list : MethodName := ⟨RX8, "list", "(II)I"⟩
abbrev cX8_journal : ByteArray := prog_1_method_7_code
def yX8_journal : MethodName := ⟨RX8, "journal", "(III)I"⟩
abbrev cX8_at : ByteArray := prog_1_method_8_code
def yX8_at : MethodName := ⟨RX8, "at", "(II)I"⟩
abbrev cX8_expire : ByteArray := prog_1_method_9_code
def yX8_expire : MethodName := ⟨RX8, "expire", "(I)I"⟩
abbrev cX8_deal : ByteArray := prog_1_method_10_code
def yX8_deal : MethodName := ⟨RX8, "deal", "(I)I"⟩
abbrev cX8_put : ByteArray := prog_1_method_11_code
def yX8_put : MethodName := ⟨RX8, "put", "(IIII)I"⟩
abbrev cX8_prepare : ByteArray := prog_1_method_12_code
def yX8_prepare : MethodName := ⟨RX8, "prepare", "(I)I"⟩
abbrev cX8_commit : ByteArray := prog_1_method_13_code
def yX8_commit : MethodName := ⟨RX8, "commit", "(I)I"⟩
abbrev cX8_abandon : ByteArray := prog_1_method_14_code
def yX8_abandon : MethodName := ⟨RX8, "abandon", "(I)I"⟩
abbrev cX8_repack : ByteArray := prog_1_method_15_code
def yX8_repack : MethodName := ⟨RX8, "repack", "()I"⟩
abbrev cX8_step : ByteArray := prog_1_method_16_code
def yX8_step : MethodName := ⟨RX8, "step", "(II)I"⟩
abbrev cX8_crash : ByteArray := prog_1_method_17_code
def yX8_crash : MethodName := ⟨RX8, "crash", "()I"⟩
abbrev cX8_told : ByteArray := prog_1_method_18_code
def yX8_told : MethodName := ⟨RX8, "told", "(II)I"⟩
abbrev cX8_state : ByteArray := prog_1_method_19_code
def yX8_state : MethodName := ⟨RX8, "state", "(I)I"⟩
abbrev cX8_after : ByteArray := prog_1_method_20_code
def yX8_after : MethodName := ⟨RX8, "after", "(III)I"⟩
abbrev cX8_orders : ByteArray := prog_1_method_21_code
def yX8_orders : MethodName := ⟨RX8, "orders", "(I)I"⟩
abbrev cX8_could : ByteArray := prog_1_method_22_code
def yX8_could : MethodName := ⟨RX8, "could", "(III)I"⟩
abbrev cX8_see : ByteArray := prog_1_method_23_code
def yX8_see : MethodName := ⟨RX8, "see", "(II)I"⟩
abbrev cX8_fits : ByteArray := prog_1_method_24_code
def yX8_fits : MethodName := ⟨RX8, "fits", "(II)I"⟩
abbrev cX8_odds : ByteArray := prog_1_method_25_code
def yX8_odds : MethodName := ⟨RX8, "odds", "(IIII)J"⟩
abbrev cX8_mean : ByteArray := prog_1_method_26_code
def yX8_mean : MethodName := ⟨RX8, "mean", "(I)J"⟩
abbrev cX8_plan : ByteArray := prog_1_method_27_code
def yX8_plan : MethodName := ⟨RX8, "plan", "(II)I"⟩
abbrev cX8_ends : ByteArray := prog_1_method_28_code
def yX8_ends : MethodName := ⟨RX8, "ends", "(I)I"⟩
abbrev cX8_book : ByteArray := prog_1_method_29_code
def yX8_book : MethodName := ⟨RX8, "book", "(II)I"⟩
abbrev cX8_looked : ByteArray := prog_1_method_30_code
def yX8_looked : MethodName := ⟨RX8, "looked", "()I"⟩
abbrev cX8_judge : ByteArray := prog_1_method_31_code
def yX8_judge : MethodName := ⟨RX8, "judge", "(II)I"⟩
abbrev cX8_image : ByteArray := prog_1_method_32_code
def yX8_image : MethodName := ⟨RX8, "image", "()I"⟩
abbrev cX8_undo : ByteArray := prog_1_method_33_code
def yX8_undo : MethodName := ⟨RX8, "undo", "()I"⟩
abbrev cX8_taken : ByteArray := prog_1_method_34_code
def yX8_taken : MethodName := ⟨RX8, "taken", "(II)I"⟩
abbrev cX8_count : ByteArray := prog_1_method_35_code
def yX8_count : MethodName := ⟨RX8, "count", "(I)I"⟩
abbrev cX8_tape : ByteArray := prog_1_method_36_code
def yX8_tape : MethodName := ⟨RX8, "tape", "(III)I"⟩
abbrev cX8_item : ByteArray := prog_1_method_37_code
def yX8_item : MethodName := ⟨RX8, "item", "(IIJ)I"⟩
abbrev cX8_read : ByteArray := prog_1_method_38_code
def yX8_read : MethodName := ⟨RX8, "read", "(II)J"⟩
abbrev cX8_shift : ByteArray := prog_1_method_39_code
def yX8_shift : MethodName := ⟨RX8, "shift", "(IIIII)I"⟩
abbrev cX8_tellByHand : ByteArray := prog_1_method_40_code
def yX8_tellByHand : MethodName := ⟨RX8, "tellByHand", "(LNameRevisions$Pairs;II)I"⟩
abbrev cX8_mostThatCanGo : ByteArray := prog_1_method_41_code
def yX8_mostThatCanGo : MethodName := ⟨RX8, "mostThatCanGo", "()I"⟩
abbrev cX8_isRevision : ByteArray := prog_1_method_42_code
def yX8_isRevision : MethodName := ⟨RX8, "isRevision", "(I)Z"⟩
abbrev cX8_isTape : ByteArray := prog_1_method_43_code
def yX8_isTape : MethodName := ⟨RX8, "isTape", "(I)Z"⟩
abbrev cX8_isKindUnder : ByteArray := prog_1_method_44_code
def yX8_isKindUnder : MethodName := ⟨RX8, "isKindUnder", "(II)Z"⟩
abbrev cX8_partOfFraction : ByteArray := prog_1_method_45_code
def yX8_partOfFraction : MethodName := ⟨RX8, "partOfFraction", "(III)J"⟩
abbrev cX8_commonDivisor : ByteArray := prog_1_method_46_code
def yX8_commonDivisor : MethodName := ⟨RX8, "commonDivisor", "(II)I"⟩
def RX9 : String := "NameRevisionsModel"
def TX9 : u_T := fun k => match k with
  | 0 => ("NameRevisionsModel", "names", "I", false)
  | 1 => ("NameRevisionsModel", "signs", "[I", true)
  | 2 => ("NameRevisionsModel", "length", "[I", true)
  | 3 => ("NameRevisionsModel", "parts", "[I", true)
  | 4 => ("NameRevisionsModel", "loose", "[I", true)
  | 5 => ("NameRevisionsModel", "packed", "[I", true)
  | 6 => ("NameRevisionsModel", "time", "I", false)
  | 7 => ("NameRevisionsModel", "noted", "[I", true)
  | 8 => ("NameRevisionsModel", "notes", "[I", true)
  | 9 => ("NameRevisionsModel", "kind", "[I", true)
  | 10 => ("NameRevisionsModel", "rowed", "[I", true)
  | 11 => ("NameRevisionsModel", "how", "[I", true)
  | 12 => ("NameRevisionsModel", "rows", "[I", true)
  | 13 => ("NameRevisionsModel", "done", "I", false)
  | 14 => ("NameRevisionsModel", "runs", "I", false)
  | 15 => ("NameRevisionsModel", "reached", "I", false)
  | 16 => ("NameRevisionsModel", "wrote", "[I", true)
  | 17 => ("NameRevisionsModel", "texted", "I", false)
  | 18 => ("NameRevisionsModel", "text", "[I", true)
  | 19 => ("NameRevisionsModel", "seen", "I", false)
  | 20 => ("NameRevisionsModel", "seenOf", "[I", true)
  | 21 => ("NameRevisionsModel", "seenAs", "[I", true)
  | 22 => ("NameRevisionsModel", "inPlan", "I", false)
  | 23 => ("NameRevisionsModel", "goes", "[I", true)
  | 24 => ("NameRevisionsModel", "planned", "[I", true)
  | 25 => ("NameRevisionsModel", "inBook", "I", false)
  | 26 => ("NameRevisionsModel", "booked", "[I", true)
  | 27 => ("NameRevisionsModel", "bookAs", "[I", true)
  | 28 => ("NameRevisionsModel", "imaged", "Z", false)
  | 29 => ("NameRevisionsModel", "imagedBook", "[I", true)
  | 30 => ("NameRevisionsModel", "image", "[I", true)
  | 31 => ("NameRevisionsModel", "ahead", "[I", true)
  | 32 => ("NameRevisionsModel", "then", "[I", true)
  | 33 => ("NameRevisionsModel", "first", "I", false)
  | 34 => ("NameRevisionsModel", "many", "I", false)
  | 35 => ("NameRevisionsModel", "like", "I", false)
  | 36 => ("NameRevisionsModel", "found", "I", false)
  | 37 => ("NameRevisionsModel", "wanted", "I", false)
  | 38 => ("NameRevisionsModel", "asked", "I", false)
  | 39 => ("NameRevisionsModel", "tapeSort", "[I", true)
  | 40 => ("NameRevisionsModel", "tapeSize", "[I", true)
  | _ => ("NameRevisionsModel", "items", "[J", true)
def tyX9 : Nat → FieldType := fun k => match k with
  | 0 => .int
  | 1 => .array .int
  | 2 => .array .int
  | 3 => .array .int
  | 4 => .array .int
  | 5 => .array .int
  | 6 => .int
  | 7 => .array .int
  | 8 => .array .int
  | 9 => .array .int
  | 10 => .array .int
  | 11 => .array .int
  | 12 => .array .int
  | 13 => .int
  | 14 => .int
  | 15 => .int
  | 16 => .array .int
  | 17 => .int
  | 18 => .array .int
  | 19 => .int
  | 20 => .array .int
  | 21 => .array .int
  | 22 => .int
  | 23 => .array .int
  | 24 => .array .int
  | 25 => .int
  | 26 => .array .int
  | 27 => .array .int
  | 28 => .boolean
  | 29 => .array .int
  | 30 => .array .int
  | 31 => .array .int
  | 32 => .array .int
  | 33 => .int
  | 34 => .int
  | 35 => .int
  | 36 => .int
  | 37 => .int
  | 38 => .int
  | 39 => .array .int
  | 40 => .array .int
  | _ => .array .long
theorem nmX9 : ∀ a, a < 42 → ∀ b, b < 42 → a ≠ b → (TX9 a).2.1 ≠ (TX9 b).2.1 := by decide +kernel
theorem tyX9_ok : ∀ k, k < 42 → parseFieldDescriptor (TX9 k).2.2.1 = some (tyX9 k) := by decide +kernel
abbrev cX9_init : ByteArray := prog_11_method_1_code
def yX9_init : MethodName := ⟨RX9, "<init>", "()V"⟩
abbrev cX9_within : ByteArray := prog_11_method_2_code
def yX9_within : MethodName := ⟨RX9, "within", "(III)Z"⟩
abbrev cX9_isName : ByteArray := prog_11_method_3_code
def yX9_isName : MethodName := ⟨RX9, "isName", "(I)Z"⟩
abbrev cX9_isDeal : ByteArray := prog_11_method_4_code
def yX9_isDeal : MethodName := ⟨RX9, "isDeal", "(I)Z"⟩
abbrev cX9_isValue : ByteArray := prog_11_method_5_code
def yX9_isValue : MethodName := ⟨RX9, "isValue", "(I)Z"⟩
abbrev cX9_feed : ByteArray := prog_11_method_6_code
def yX9_feed : MethodName := ⟨RX9, "feed", "(I)I"⟩
abbrev cX9_fault : ByteArray := prog_11_method_7_code
def yX9_fault : MethodName := ⟨RX9, "fault", "()I"⟩
abbrev cX9_isText : ByteArray := prog_11_method_8_code
def yX9_isText : MethodName := ⟨RX9, "isText", "(I)Z"⟩
abbrev cX9_newName : ByteArray := prog_11_method_9_code
def yX9_newName : MethodName := ⟨RX9, "newName", "(I)I"⟩
abbrev cX9_name : ByteArray := prog_11_method_10_code
def yX9_name : MethodName := ⟨RX9, "name", "()I"⟩
abbrev cX9_stored : ByteArray := prog_11_method_11_code
def yX9_stored : MethodName := ⟨RX9, "stored", "(I)I"⟩
abbrev cX9_committing : ByteArray := prog_11_method_12_code
def yX9_committing : MethodName := ⟨RX9, "committing", "()I"⟩
abbrev cX9_nameOf : ByteArray := prog_11_method_13_code
def yX9_nameOf : MethodName := ⟨RX9, "nameOf", "(II)I"⟩
abbrev cX9_old : ByteArray := prog_11_method_14_code
def yX9_old : MethodName := ⟨RX9, "old", "(II)I"⟩
abbrev cX9_fresh : ByteArray := prog_11_method_15_code
def yX9_fresh : MethodName := ⟨RX9, "fresh", "(II)I"⟩
abbrev cX9_rowFor : ByteArray := prog_11_method_16_code
def yX9_rowFor : MethodName := ⟨RX9, "rowFor", "(II)I"⟩
abbrev cX9_value : ByteArray := prog_11_method_17_code
def yX9_value : MethodName := ⟨RX9, "value", "(I)I"⟩
abbrev cX9_isFolder : ByteArray := prog_11_method_18_code
def yX9_isFolder : MethodName := ⟨RX9, "isFolder", "(II)Z"⟩
abbrev cX9_isBefore : ByteArray := prog_11_method_19_code
def yX9_isBefore : MethodName := ⟨RX9, "isBefore", "(II)Z"⟩
abbrev cX9_place : ByteArray := prog_11_method_20_code
def yX9_place : MethodName := ⟨RX9, "place", "(I)I"⟩
abbrev cX9_lockedBy : ByteArray := prog_11_method_21_code
def yX9_lockedBy : MethodName := ⟨RX9, "lockedBy", "(II)I"⟩
abbrev cX9_of : ByteArray := prog_11_method_22_code
def yX9_of : MethodName := ⟨RX9, "of", "(II)I"⟩
abbrev cX9_folder : ByteArray := prog_11_method_23_code
def yX9_folder : MethodName := ⟨RX9, "folder", "(II)I"⟩
abbrev cX9_list : ByteArray := prog_11_method_24_code
def yX9_list : MethodName := ⟨RX9, "list", "(II)I"⟩
abbrev cX9_journal : ByteArray := prog_11_method_25_code
def yX9_journal : MethodName := ⟨RX9, "journal", "(III)I"⟩
abbrev cX9_at : ByteArray := prog_11_method_26_code
def yX9_at : MethodName := ⟨RX9, "at", "(II)I"⟩
abbrev cX9_drops : ByteArray := prog_11_method_27_code
def yX9_drops : MethodName := ⟨RX9, "drops", "(I)V"⟩
abbrev cX9_expire : ByteArray := prog_11_method_28_code
def yX9_expire : MethodName := ⟨RX9, "expire", "(I)I"⟩
abbrev cX9_deal : ByteArray := prog_11_method_29_code
def yX9_deal : MethodName := ⟨RX9, "deal", "(I)I"⟩
abbrev cX9_put : ByteArray := prog_11_method_30_code
def yX9_put : MethodName := ⟨RX9, "put", "(IIII)I"⟩
abbrev cX9_isAsked : ByteArray := prog_11_method_31_code
def yX9_isAsked : MethodName := ⟨RX9, "isAsked", "(III)Z"⟩
abbrev cX9_isComing : ByteArray := prog_11_method_32_code
def yX9_isComing : MethodName := ⟨RX9, "isComing", "(II)Z"⟩
abbrev cX9_clashes : ByteArray := prog_11_method_33_code
def yX9_clashes : MethodName := ⟨RX9, "clashes", "(II)Z"⟩
abbrev cX9_wrongOf : ByteArray := prog_11_method_34_code
def yX9_wrongOf : MethodName := ⟨RX9, "wrongOf", "(II)I"⟩
abbrev cX9_wrong : ByteArray := prog_11_method_35_code
def yX9_wrong : MethodName := ⟨RX9, "wrong", "(I)I"⟩
abbrev cX9_prepare : ByteArray := prog_11_method_36_code
def yX9_prepare : MethodName := ⟨RX9, "prepare", "(I)I"⟩
abbrev cX9_commit : ByteArray := prog_11_method_37_code
def yX9_commit : MethodName := ⟨RX9, "commit", "(I)I"⟩
abbrev cX9_abandon : ByteArray := prog_11_method_38_code
def yX9_abandon : MethodName := ⟨RX9, "abandon", "(I)I"⟩
abbrev cX9_notes : ByteArray := prog_11_method_39_code
def yX9_notes : MethodName := ⟨RX9, "notes", "(III)V"⟩
abbrev cX9_applies : ByteArray := prog_11_method_40_code
def yX9_applies : MethodName := ⟨RX9, "applies", "(II)V"⟩
abbrev cX9_commits : ByteArray := prog_11_method_41_code
def yX9_commits : MethodName := ⟨RX9, "commits", "()Z"⟩
abbrev cX9_nextToReach : ByteArray := prog_11_method_42_code
def yX9_nextToReach : MethodName := ⟨RX9, "nextToReach", "()I"⟩
abbrev cX9_repacks : ByteArray := prog_11_method_43_code
def yX9_repacks : MethodName := ⟨RX9, "repacks", "()Z"⟩
abbrev cX9_repack : ByteArray := prog_11_method_44_code
def yX9_repack : MethodName := ⟨RX9, "repack", "()I"⟩
abbrev cX9_goes : ByteArray := prog_11_method_45_code
def yX9_goes : MethodName := ⟨RX9, "goes", "(I)Z"⟩
abbrev cX9_steps : ByteArray := prog_11_method_46_code
def yX9_steps : MethodName := ⟨RX9, "steps", "(II)I"⟩
abbrev cX9_step : ByteArray := prog_11_method_47_code
def yX9_step : MethodName := ⟨RX9, "step", "(II)I"⟩
abbrev cX9_deals : ByteArray := prog_11_method_48_code
def yX9_deals : MethodName := ⟨RX9, "deals", "()I"⟩
abbrev cX9_crashes : ByteArray := prog_11_method_49_code
def yX9_crashes : MethodName := ⟨RX9, "crashes", "()I"⟩
abbrev cX9_crash : ByteArray := prog_11_method_50_code
def yX9_crash : MethodName := ⟨RX9, "crash", "()I"⟩
abbrev cX9_told : ByteArray := prog_11_method_51_code
def yX9_told : MethodName := ⟨RX9, "told", "(II)I"⟩
abbrev cX9_allDeals : ByteArray := prog_11_method_52_code
def yX9_allDeals : MethodName := ⟨RX9, "allDeals", "()I"⟩
abbrev cX9_wroteOnes : ByteArray := prog_11_method_53_code
def yX9_wroteOnes : MethodName := ⟨RX9, "wroteOnes", "()I"⟩
abbrev cX9_state : ByteArray := prog_11_method_54_code
def yX9_state : MethodName := ⟨RX9, "state", "(I)I"⟩
abbrev cX9_after : ByteArray := prog_11_method_55_code
def yX9_after : MethodName := ⟨RX9, "after", "(III)I"⟩
abbrev cX9_isSet : ByteArray := prog_11_method_56_code
def yX9_isSet : MethodName := ⟨RX9, "isSet", "(I)Z"⟩
abbrev cX9_canGo : ByteArray := prog_11_method_57_code
def yX9_canGo : MethodName := ⟨RX9, "canGo", "(II)Z"⟩
abbrev cX9_isSeen : ByteArray := prog_11_method_58_code
def yX9_isSeen : MethodName := ⟨RX9, "isSeen", "(I)Z"⟩
abbrev cX9_tries : ByteArray := prog_11_method_59_code
def yX9_tries : MethodName := ⟨RX9, "tries", "(III)V"⟩
abbrev cX9_all : ByteArray := prog_11_method_60_code
def yX9_all : MethodName := ⟨RX9, "all", "(III)V"⟩
abbrev cX9_most : ByteArray := prog_11_method_61_code
def yX9_most : MethodName := ⟨RX9, "most", "()I"⟩
abbrev cX9_orders : ByteArray := prog_11_method_62_code
def yX9_orders : MethodName := ⟨RX9, "orders", "(I)I"⟩
abbrev cX9_could : ByteArray := prog_11_method_63_code
def yX9_could : MethodName := ⟨RX9, "could", "(III)I"⟩
abbrev cX9_see : ByteArray := prog_11_method_64_code
def yX9_see : MethodName := ⟨RX9, "see", "(II)I"⟩
abbrev cX9_fits : ByteArray := prog_11_method_65_code
def yX9_fits : MethodName := ⟨RX9, "fits", "(II)I"⟩
abbrev cX9_part : ByteArray := prog_11_method_66_code
def yX9_part : MethodName := ⟨RX9, "part", "(JJI)J"⟩
abbrev cX9_odds : ByteArray := prog_11_method_67_code
def yX9_odds : MethodName := ⟨RX9, "odds", "(IIII)J"⟩
abbrev cX9_mean : ByteArray := prog_11_method_68_code
def yX9_mean : MethodName := ⟨RX9, "mean", "(I)J"⟩
abbrev cX9_plan : ByteArray := prog_11_method_69_code
def yX9_plan : MethodName := ⟨RX9, "plan", "(II)I"⟩
abbrev cX9_ends : ByteArray := prog_11_method_70_code
def yX9_ends : MethodName := ⟨RX9, "ends", "(I)I"⟩
abbrev cX9_book : ByteArray := prog_11_method_71_code
def yX9_book : MethodName := ⟨RX9, "book", "(II)I"⟩
abbrev cX9_looked : ByteArray := prog_11_method_72_code
def yX9_looked : MethodName := ⟨RX9, "looked", "()I"⟩
abbrev cX9_judge : ByteArray := prog_11_method_73_code
def yX9_judge : MethodName := ⟨RX9, "judge", "(II)I"⟩
abbrev cX9_keep : ByteArray := prog_11_method_74_code
def yX9_keep : MethodName := ⟨RX9, "keep", "([I)V"⟩
abbrev cX9_again : ByteArray := prog_11_method_75_code
def yX9_again : MethodName := ⟨RX9, "again", "([I)V"⟩
abbrev cX9_image : ByteArray := prog_11_method_76_code
def yX9_image : MethodName := ⟨RX9, "image", "()I"⟩
abbrev cX9_undo : ByteArray := prog_11_method_77_code
def yX9_undo : MethodName := ⟨RX9, "undo", "()I"⟩
abbrev cX9_taken : ByteArray := prog_11_method_78_code
def yX9_taken : MethodName := ⟨RX9, "taken", "(II)I"⟩
abbrev cX9_count : ByteArray := prog_11_method_79_code
def yX9_count : MethodName := ⟨RX9, "count", "(I)I"⟩
abbrev cX9_isTape : ByteArray := prog_11_method_80_code
def yX9_isTape : MethodName := ⟨RX9, "isTape", "(I)Z"⟩
abbrev cX9_tape : ByteArray := prog_11_method_81_code
def yX9_tape : MethodName := ⟨RX9, "tape", "(III)I"⟩
abbrev cX9_kept : ByteArray := prog_11_method_82_code
def yX9_kept : MethodName := ⟨RX9, "kept", "(IJ)J"⟩
abbrev cX9_item : ByteArray := prog_11_method_83_code
def yX9_item : MethodName := ⟨RX9, "item", "(IIJ)I"⟩
abbrev cX9_read : ByteArray := prog_11_method_84_code
def yX9_read : MethodName := ⟨RX9, "read", "(II)J"⟩
abbrev cX9_shift : ByteArray := prog_11_method_85_code
def yX9_shift : MethodName := ⟨RX9, "shift", "(IIIII)I"⟩
def RJ6 : String := "java/lang/Integer"
abbrev cJ6_bitCount_0f7a4 : ByteArray := prog_12_method_49_code
def yJ6_bitCount_0f7a4 : MethodName := ⟨RJ6, "bitCount", "(I)I"⟩
def RJ9 : String := "java/lang/Math"
abbrev cJ9_abs_067f4 : ByteArray := prog_13_method_61_code
def yJ9_abs_067f4 : MethodName := ⟨RJ9, "abs", "(J)J"⟩
abbrev cJ9_min_7cf53 : ByteArray := prog_13_method_69_code
def yJ9_min_7cf53 : MethodName := ⟨RJ9, "min", "(II)I"⟩
def RJ10 : String := "java/lang/System"
def RL : String := "NameRevisionsLaw"
abbrev cL_law : ByteArray := code
def yL_law : MethodName := ⟨RL, "law", "([I)Z"⟩
abbrev vwCl : List vw_C := [(RX0, TX0, 6), (RX1, TX1, 4), (RX2, TX2, 8), (RX3, TX3, 9), (RX4, TX4, 4), (RX5, TX5, 12), (RX6, TX6, 3), (RX7, TX7, 2), (RX8, TX8, 7), (RX9, TX9, 42)]
