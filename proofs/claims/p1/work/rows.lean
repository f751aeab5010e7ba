section
-- ===== PART A: goes FIRST, ahead of the names: the tables' words, and 'selects' of the private methods out of them =====
/-- a private method of a class that the tables say can be made, by its rows of tables_1 -/
def lw_okq (q : MethodName × Nat) : Prop := (q.1.cls ≠ "java/lang/invoke/MethodHandle" ∧ q.1.cls ≠ "java/lang/invoke/VarHandle") ∧ Cond.instantiable q.1.cls q.2 ∈ tables_1 ∧ Cond.privateMethod q.1 ∈ tables_1 ∧ Cond.instanceMethod q.1 ∈ tables_1
theorem lw_p0 : lw_okq (⟨"java/lang/Throwable", "fillInStackTrace", "(I)Ljava/lang/Throwable;"⟩, 6) := ⟨⟨by decide +kernel, by decide +kernel⟩, List.mem_of_getElem? (i := 90) (by decide +kernel), List.mem_of_getElem? (i := 88) (by decide +kernel), List.mem_of_getElem? (i := 89) (by decide +kernel)⟩
theorem lw_p1 : lw_okq (⟨"KeyAtlas", "settle", "(LKeyAtlas$Body;)I"⟩, 1) := ⟨⟨by decide +kernel, by decide +kernel⟩, List.mem_of_getElem? (i := 24) (by decide +kernel), List.mem_of_getElem? (i := 254) (by decide +kernel), List.mem_of_getElem? (i := 255) (by decide +kernel)⟩
theorem lw_p2 : lw_okq (⟨"KeyAtlas", "bodyAt", "(I)LKeyAtlas$Body;"⟩, 1) := ⟨⟨by decide +kernel, by decide +kernel⟩, List.mem_of_getElem? (i := 24) (by decide +kernel), List.mem_of_getElem? (i := 282) (by decide +kernel), List.mem_of_getElem? (i := 283) (by decide +kernel)⟩
theorem lw_p3 : lw_okq (⟨"KeyAtlas", "bodyOrNull", "(I)LKeyAtlas$Body;"⟩, 1) := ⟨⟨by decide +kernel, by decide +kernel⟩, List.mem_of_getElem? (i := 24) (by decide +kernel), List.mem_of_getElem? (i := 286) (by decide +kernel), List.mem_of_getElem? (i := 287) (by decide +kernel)⟩
theorem lw_p4 : lw_okq (⟨"KeyAtlas", "isPartOf", "(II)Z"⟩, 1) := ⟨⟨by decide +kernel, by decide +kernel⟩, List.mem_of_getElem? (i := 24) (by decide +kernel), List.mem_of_getElem? (i := 306) (by decide +kernel), List.mem_of_getElem? (i := 307) (by decide +kernel)⟩
theorem lw_p5 : lw_okq (⟨"KeyAtlas$Hash", "binOf", "(I)I"⟩, 7) := ⟨⟨by decide +kernel, by decide +kernel⟩, List.mem_of_getElem? (i := 143) (by decide +kernel), List.mem_of_getElem? (i := 372) (by decide +kernel), List.mem_of_getElem? (i := 373) (by decide +kernel)⟩
theorem lw_p6 : lw_okq (⟨"KeyAtlas$Hash", "startOf", "(I)I"⟩, 7) := ⟨⟨by decide +kernel, by decide +kernel⟩, List.mem_of_getElem? (i := 143) (by decide +kernel), List.mem_of_getElem? (i := 377) (by decide +kernel), List.mem_of_getElem? (i := 378) (by decide +kernel)⟩
theorem lw_p7 : lw_okq (⟨"KeyAtlas$Sorted", "rank", "(I)J"⟩, 7) := ⟨⟨by decide +kernel, by decide +kernel⟩, List.mem_of_getElem? (i := 228) (by decide +kernel), List.mem_of_getElem? (i := 397) (by decide +kernel), List.mem_of_getElem? (i := 398) (by decide +kernel)⟩
theorem lw_p8 : lw_okq (⟨"KeyAtlas$Sorted", "howManyBelow", "(J)I"⟩, 7) := ⟨⟨by decide +kernel, by decide +kernel⟩, List.mem_of_getElem? (i := 228) (by decide +kernel), List.mem_of_getElem? (i := 410) (by decide +kernel), List.mem_of_getElem? (i := 411) (by decide +kernel)⟩
theorem lw_p9 : lw_okq (⟨"KeyAtlas$Hash", "layFirstTable", "()V"⟩, 7) := ⟨⟨by decide +kernel, by decide +kernel⟩, List.mem_of_getElem? (i := 143) (by decide +kernel), List.mem_of_getElem? (i := 457) (by decide +kernel), List.mem_of_getElem? (i := 458) (by decide +kernel)⟩
theorem lw_p10 : lw_okq (⟨"KeyAtlas$Hash", "howManyIn", "(I)I"⟩, 7) := ⟨⟨by decide +kernel, by decide +kernel⟩, List.mem_of_getElem? (i := 143) (by decide +kernel), List.mem_of_getElem? (i := 461) (by decide +kernel), List.mem_of_getElem? (i := 462) (by decide +kernel)⟩
theorem lw_p11 : lw_okq (⟨"KeyAtlas$Hash", "doubleTable", "()V"⟩, 7) := ⟨⟨by decide +kernel, by decide +kernel⟩, List.mem_of_getElem? (i := 143) (by decide +kernel), List.mem_of_getElem? (i := 486) (by decide +kernel), List.mem_of_getElem? (i := 487) (by decide +kernel)⟩
theorem lw_p12 : lw_okq (⟨"KeyAtlas$Hash", "setBushy", "(IZ)V"⟩, 7) := ⟨⟨by decide +kernel, by decide +kernel⟩, List.mem_of_getElem? (i := 143) (by decide +kernel), List.mem_of_getElem? (i := 495) (by decide +kernel), List.mem_of_getElem? (i := 496) (by decide +kernel)⟩
theorem lw_p13 : lw_okq (⟨"KeyAtlas$Sorted", "end", "()I"⟩, 7) := ⟨⟨by decide +kernel, by decide +kernel⟩, List.mem_of_getElem? (i := 228) (by decide +kernel), List.mem_of_getElem? (i := 570) (by decide +kernel), List.mem_of_getElem? (i := 571) (by decide +kernel)⟩
theorem lw_p14 : lw_okq (⟨"KeyAtlas$Sorted", "start", "()I"⟩, 7) := ⟨⟨by decide +kernel, by decide +kernel⟩, List.mem_of_getElem? (i := 228) (by decide +kernel), List.mem_of_getElem? (i := 574) (by decide +kernel), List.mem_of_getElem? (i := 575) (by decide +kernel)⟩
theorem lw_p15 : lw_okq (⟨"KeyAtlas$Sorted", "howManyFrom", "(J)I"⟩, 7) := ⟨⟨by decide +kernel, by decide +kernel⟩, List.mem_of_getElem? (i := 228) (by decide +kernel), List.mem_of_getElem? (i := 656) (by decide +kernel), List.mem_of_getElem? (i := 657) (by decide +kernel)⟩
def lw_privs_1 : List (MethodName × Nat) := [(⟨"java/lang/Throwable", "fillInStackTrace", "(I)Ljava/lang/Throwable;"⟩, 6), (⟨"KeyAtlas", "settle", "(LKeyAtlas$Body;)I"⟩, 1), (⟨"KeyAtlas", "bodyAt", "(I)LKeyAtlas$Body;"⟩, 1), (⟨"KeyAtlas", "bodyOrNull", "(I)LKeyAtlas$Body;"⟩, 1), (⟨"KeyAtlas", "isPartOf", "(II)Z"⟩, 1), (⟨"KeyAtlas$Hash", "binOf", "(I)I"⟩, 7), (⟨"KeyAtlas$Hash", "startOf", "(I)I"⟩, 7), (⟨"KeyAtlas$Sorted", "rank", "(I)J"⟩, 7), (⟨"KeyAtlas$Sorted", "howManyBelow", "(J)I"⟩, 7), (⟨"KeyAtlas$Hash", "layFirstTable", "()V"⟩, 7), (⟨"KeyAtlas$Hash", "howManyIn", "(I)I"⟩, 7), (⟨"KeyAtlas$Hash", "doubleTable", "()V"⟩, 7), (⟨"KeyAtlas$Hash", "setBushy", "(IZ)V"⟩, 7), (⟨"KeyAtlas$Sorted", "end", "()I"⟩, 7), (⟨"KeyAtlas$Sorted", "start", "()I"⟩, 7), (⟨"KeyAtlas$Sorted", "howManyFrom", "(J)I"⟩, 7)]
theorem lw_r1 : ∀ q ∈ lw_privs_1, lw_okq q := List.forall_mem_cons.mpr ⟨lw_p0, List.forall_mem_cons.mpr ⟨lw_p1, List.forall_mem_cons.mpr ⟨lw_p2, List.forall_mem_cons.mpr ⟨lw_p3, List.forall_mem_cons.mpr ⟨lw_p4, List.forall_mem_cons.mpr ⟨lw_p5, List.forall_mem_cons.mpr ⟨lw_p6, List.forall_mem_cons.mpr ⟨lw_p7, List.forall_mem_cons.mpr ⟨lw_p8, List.forall_mem_cons.mpr ⟨lw_p9, List.forall_mem_cons.mpr ⟨lw_p10, List.forall_mem_cons.mpr ⟨lw_p11, List.forall_mem_cons.mpr ⟨lw_p12, List.forall_mem_cons.mpr ⟨lw_p13, List.forall_mem_cons.mpr ⟨lw_p14, List.forall_mem_cons.mpr ⟨lw_p15, fun _ h => absurd h List.not_mem_nil⟩⟩⟩⟩⟩⟩⟩⟩⟩⟩⟩⟩⟩⟩⟩⟩
theorem lw_p16 : lw_okq (⟨"KeyAtlas$Sorted", "edge", "(I)J"⟩, 7) := ⟨⟨by decide +kernel, by decide +kernel⟩, List.mem_of_getElem? (i := 228) (by decide +kernel), List.mem_of_getElem? (i := 761) (by decide +kernel), List.mem_of_getElem? (i := 762) (by decide +kernel)⟩
theorem lw_p17 : lw_okq (⟨"KeyAtlas$Cursor", "needPassed", "()V"⟩, 6) := ⟨⟨by decide +kernel, by decide +kernel⟩, List.mem_of_getElem? (i := 782) (by decide +kernel), List.mem_of_getElem? (i := 842) (by decide +kernel), List.mem_of_getElem? (i := 843) (by decide +kernel)⟩
theorem lw_p18 : lw_okq (⟨"KeyAtlas", "howManyBodies", "()I"⟩, 1) := ⟨⟨by decide +kernel, by decide +kernel⟩, List.mem_of_getElem? (i := 24) (by decide +kernel), List.mem_of_getElem? (i := 895) (by decide +kernel), List.mem_of_getElem? (i := 896) (by decide +kernel)⟩
theorem lw_p19 : lw_okq (⟨"KeyAtlas", "kindOf", "(I)I"⟩, 1) := ⟨⟨by decide +kernel, by decide +kernel⟩, List.mem_of_getElem? (i := 24) (by decide +kernel), List.mem_of_getElem? (i := 899) (by decide +kernel), List.mem_of_getElem? (i := 900) (by decide +kernel)⟩
theorem lw_p20 : lw_okq (⟨"KeyAtlas", "sizeOf", "(I)I"⟩, 1) := ⟨⟨by decide +kernel, by decide +kernel⟩, List.mem_of_getElem? (i := 24) (by decide +kernel), List.mem_of_getElem? (i := 903) (by decide +kernel), List.mem_of_getElem? (i := 904) (by decide +kernel)⟩
theorem lw_p21 : lw_okq (⟨"KeyAtlasModel", "refuse", "(I)I"⟩, 17) := ⟨⟨by decide +kernel, by decide +kernel⟩, List.mem_of_getElem? (i := 908) (by decide +kernel), List.mem_of_getElem? (i := 978) (by decide +kernel), List.mem_of_getElem? (i := 979) (by decide +kernel)⟩
theorem lw_p22 : lw_okq (⟨"KeyAtlasModel", "free", "()I"⟩, 17) := ⟨⟨by decide +kernel, by decide +kernel⟩, List.mem_of_getElem? (i := 908) (by decide +kernel), List.mem_of_getElem? (i := 982) (by decide +kernel), List.mem_of_getElem? (i := 983) (by decide +kernel)⟩
theorem lw_p23 : lw_okq (⟨"KeyAtlasModel", "born", "(II)I"⟩, 17) := ⟨⟨by decide +kernel, by decide +kernel⟩, List.mem_of_getElem? (i := 908) (by decide +kernel), List.mem_of_getElem? (i := 986) (by decide +kernel), List.mem_of_getElem? (i := 987) (by decide +kernel)⟩
theorem lw_p24 : lw_okq (⟨"KeyAtlasModel", "isThere", "(I)Z"⟩, 17) := ⟨⟨by decide +kernel, by decide +kernel⟩, List.mem_of_getElem? (i := 908) (by decide +kernel), List.mem_of_getElem? (i := 994) (by decide +kernel), List.mem_of_getElem? (i := 995) (by decide +kernel)⟩
theorem lw_p25 : lw_okq (⟨"KeyAtlasModel", "hangsOn", "(II)Z"⟩, 17) := ⟨⟨by decide +kernel, by decide +kernel⟩, List.mem_of_getElem? (i := 908) (by decide +kernel), List.mem_of_getElem? (i := 998) (by decide +kernel), List.mem_of_getElem? (i := 999) (by decide +kernel)⟩
theorem lw_p26 : lw_okq (⟨"KeyAtlasModel", "isMap", "(I)Z"⟩, 17) := ⟨⟨by decide +kernel, by decide +kernel⟩, List.mem_of_getElem? (i := 908) (by decide +kernel), List.mem_of_getElem? (i := 1006) (by decide +kernel), List.mem_of_getElem? (i := 1007) (by decide +kernel)⟩
theorem lw_p27 : lw_okq (⟨"KeyAtlasModel", "root", "(I)I"⟩, 17) := ⟨⟨by decide +kernel, by decide +kernel⟩, List.mem_of_getElem? (i := 908) (by decide +kernel), List.mem_of_getElem? (i := 1010) (by decide +kernel), List.mem_of_getElem? (i := 1011) (by decide +kernel)⟩
theorem lw_p28 : lw_okq (⟨"KeyAtlasModel", "at", "(II)I"⟩, 17) := ⟨⟨by decide +kernel, by decide +kernel⟩, List.mem_of_getElem? (i := 908) (by decide +kernel), List.mem_of_getElem? (i := 1014) (by decide +kernel), List.mem_of_getElem? (i := 1015) (by decide +kernel)⟩
theorem lw_p29 : lw_okq (⟨"KeyAtlasModel", "isWithin", "(II)Z"⟩, 17) := ⟨⟨by decide +kernel, by decide +kernel⟩, List.mem_of_getElem? (i := 908) (by decide +kernel), List.mem_of_getElem? (i := 1018) (by decide +kernel), List.mem_of_getElem? (i := 1019) (by decide +kernel)⟩
theorem lw_p30 : lw_okq (⟨"KeyAtlasModel", "ordered", "(III)I"⟩, 17) := ⟨⟨by decide +kernel, by decide +kernel⟩, List.mem_of_getElem? (i := 908) (by decide +kernel), List.mem_of_getElem? (i := 1022) (by decide +kernel), List.mem_of_getElem? (i := 1023) (by decide +kernel)⟩
theorem lw_p31 : lw_okq (⟨"KeyAtlasModel", "isTurned", "(I)Z"⟩, 17) := ⟨⟨by decide +kernel, by decide +kernel⟩, List.mem_of_getElem? (i := 908) (by decide +kernel), List.mem_of_getElem? (i := 1035) (by decide +kernel), List.mem_of_getElem? (i := 1036) (by decide +kernel)⟩
def lw_privs_2 : List (MethodName × Nat) := [(⟨"KeyAtlas$Sorted", "edge", "(I)J"⟩, 7), (⟨"KeyAtlas$Cursor", "needPassed", "()V"⟩, 6), (⟨"KeyAtlas", "howManyBodies", "()I"⟩, 1), (⟨"KeyAtlas", "kindOf", "(I)I"⟩, 1), (⟨"KeyAtlas", "sizeOf", "(I)I"⟩, 1), (⟨"KeyAtlasModel", "refuse", "(I)I"⟩, 17), (⟨"KeyAtlasModel", "free", "()I"⟩, 17), (⟨"KeyAtlasModel", "born", "(II)I"⟩, 17), (⟨"KeyAtlasModel", "isThere", "(I)Z"⟩, 17), (⟨"KeyAtlasModel", "hangsOn", "(II)Z"⟩, 17), (⟨"KeyAtlasModel", "isMap", "(I)Z"⟩, 17), (⟨"KeyAtlasModel", "root", "(I)I"⟩, 17), (⟨"KeyAtlasModel", "at", "(II)I"⟩, 17), (⟨"KeyAtlasModel", "isWithin", "(II)Z"⟩, 17), (⟨"KeyAtlasModel", "ordered", "(III)I"⟩, 17), (⟨"KeyAtlasModel", "isTurned", "(I)Z"⟩, 17)]
theorem lw_r2 : ∀ q ∈ lw_privs_2, lw_okq q := List.forall_mem_cons.mpr ⟨lw_p16, List.forall_mem_cons.mpr ⟨lw_p17, List.forall_mem_cons.mpr ⟨lw_p18, List.forall_mem_cons.mpr ⟨lw_p19, List.forall_mem_cons.mpr ⟨lw_p20, List.forall_mem_cons.mpr ⟨lw_p21, List.forall_mem_cons.mpr ⟨lw_p22, List.forall_mem_cons.mpr ⟨lw_p23, List.forall_mem_cons.mpr ⟨lw_p24, List.forall_mem_cons.mpr ⟨lw_p25, List.forall_mem_cons.mpr ⟨lw_p26, List.forall_mem_cons.mpr ⟨lw_p27, List.forall_mem_cons.mpr ⟨lw_p28, List.forall_mem_cons.mpr ⟨lw_p29, List.forall_mem_cons.mpr ⟨lw_p30, List.forall_mem_cons.mpr ⟨lw_p31, fun _ h => absurd h List.not_mem_nil⟩⟩⟩⟩⟩⟩⟩⟩⟩⟩⟩⟩⟩⟩⟩⟩
theorem lw_p32 : lw_okq (⟨"KeyAtlasModel", "key", "(II)I"⟩, 17) := ⟨⟨by decide +kernel, by decide +kernel⟩, List.mem_of_getElem? (i := 908) (by decide +kernel), List.mem_of_getElem? (i := 1039) (by decide +kernel), List.mem_of_getElem? (i := 1040) (by decide +kernel)⟩
theorem lw_p33 : lw_okq (⟨"KeyAtlasModel", "value", "(II)I"⟩, 17) := ⟨⟨by decide +kernel, by decide +kernel⟩, List.mem_of_getElem? (i := 908) (by decide +kernel), List.mem_of_getElem? (i := 1044) (by decide +kernel), List.mem_of_getElem? (i := 1045) (by decide +kernel)⟩
theorem lw_p34 : lw_okq (⟨"KeyAtlasModel", "put", "(IIIIIJ)J"⟩, 17) := ⟨⟨by decide +kernel, by decide +kernel⟩, List.mem_of_getElem? (i := 908) (by decide +kernel), List.mem_of_getElem? (i := 1048) (by decide +kernel), List.mem_of_getElem? (i := 1049) (by decide +kernel)⟩
theorem lw_p35 : lw_okq (⟨"KeyAtlasModel", "isLimited", "(I)Z"⟩, 17) := ⟨⟨by decide +kernel, by decide +kernel⟩, List.mem_of_getElem? (i := 908) (by decide +kernel), List.mem_of_getElem? (i := 1052) (by decide +kernel), List.mem_of_getElem? (i := 1053) (by decide +kernel)⟩
theorem lw_p36 : lw_okq (⟨"KeyAtlasModel", "newKey", "(III)V"⟩, 17) := ⟨⟨by decide +kernel, by decide +kernel⟩, List.mem_of_getElem? (i := 908) (by decide +kernel), List.mem_of_getElem? (i := 1056) (by decide +kernel), List.mem_of_getElem? (i := 1057) (by decide +kernel)⟩
theorem lw_p37 : lw_okq (⟨"KeyAtlasModel", "goes", "(II)V"⟩, 17) := ⟨⟨by decide +kernel, by decide +kernel⟩, List.mem_of_getElem? (i := 908) (by decide +kernel), List.mem_of_getElem? (i := 1060) (by decide +kernel), List.mem_of_getElem? (i := 1061) (by decide +kernel)⟩
theorem lw_p38 : lw_okq (⟨"KeyAtlasModel", "bin", "(II)I"⟩, 17) := ⟨⟨by decide +kernel, by decide +kernel⟩, List.mem_of_getElem? (i := 908) (by decide +kernel), List.mem_of_getElem? (i := 1064) (by decide +kernel), List.mem_of_getElem? (i := 1065) (by decide +kernel)⟩
theorem lw_p39 : lw_okq (⟨"KeyAtlasModel", "set", "(IIII)V"⟩, 17) := ⟨⟨by decide +kernel, by decide +kernel⟩, List.mem_of_getElem? (i := 908) (by decide +kernel), List.mem_of_getElem? (i := 1069) (by decide +kernel), List.mem_of_getElem? (i := 1070) (by decide +kernel)⟩
theorem lw_p40 : lw_okq (⟨"KeyAtlasModel", "inBin", "(II)I"⟩, 17) := ⟨⟨by decide +kernel, by decide +kernel⟩, List.mem_of_getElem? (i := 908) (by decide +kernel), List.mem_of_getElem? (i := 1073) (by decide +kernel), List.mem_of_getElem? (i := 1074) (by decide +kernel)⟩
theorem lw_p41 : lw_okq (⟨"KeyAtlasModel", "comes", "(IIII)V"⟩, 17) := ⟨⟨by decide +kernel, by decide +kernel⟩, List.mem_of_getElem? (i := 908) (by decide +kernel), List.mem_of_getElem? (i := 1077) (by decide +kernel), List.mem_of_getElem? (i := 1078) (by decide +kernel)⟩
theorem lw_p42 : lw_okq (⟨"KeyAtlasModel", "hashed", "(III)V"⟩, 17) := ⟨⟨by decide +kernel, by decide +kernel⟩, List.mem_of_getElem? (i := 908) (by decide +kernel), List.mem_of_getElem? (i := 1081) (by decide +kernel), List.mem_of_getElem? (i := 1082) (by decide +kernel)⟩
theorem lw_p43 : lw_okq (⟨"KeyAtlasModel", "doubled", "(I)V"⟩, 17) := ⟨⟨by decide +kernel, by decide +kernel⟩, List.mem_of_getElem? (i := 908) (by decide +kernel), List.mem_of_getElem? (i := 1085) (by decide +kernel), List.mem_of_getElem? (i := 1086) (by decide +kernel)⟩
theorem lw_p44 : lw_okq (⟨"KeyAtlasModel", "touched", "(II)I"⟩, 17) := ⟨⟨by decide +kernel, by decide +kernel⟩, List.mem_of_getElem? (i := 908) (by decide +kernel), List.mem_of_getElem? (i := 1089) (by decide +kernel), List.mem_of_getElem? (i := 1090) (by decide +kernel)⟩
theorem lw_p45 : lw_okq (⟨"KeyAtlasModel", "entries", "(I)I"⟩, 17) := ⟨⟨by decide +kernel, by decide +kernel⟩, List.mem_of_getElem? (i := 908) (by decide +kernel), List.mem_of_getElem? (i := 1093) (by decide +kernel), List.mem_of_getElem? (i := 1094) (by decide +kernel)⟩
theorem lw_p46 : lw_okq (⟨"KeyAtlasModel", "cleared", "(I)J"⟩, 17) := ⟨⟨by decide +kernel, by decide +kernel⟩, List.mem_of_getElem? (i := 908) (by decide +kernel), List.mem_of_getElem? (i := 1097) (by decide +kernel), List.mem_of_getElem? (i := 1098) (by decide +kernel)⟩
theorem lw_p47 : lw_okq (⟨"KeyAtlasModel", "end", "(II)J"⟩, 17) := ⟨⟨by decide +kernel, by decide +kernel⟩, List.mem_of_getElem? (i := 908) (by decide +kernel), List.mem_of_getElem? (i := 1101) (by decide +kernel), List.mem_of_getElem? (i := 1102) (by decide +kernel)⟩
def lw_privs_3 : List (MethodName × Nat) := [(⟨"KeyAtlasModel", "key", "(II)I"⟩, 17), (⟨"KeyAtlasModel", "value", "(II)I"⟩, 17), (⟨"KeyAtlasModel", "put", "(IIIIIJ)J"⟩, 17), (⟨"KeyAtlasModel", "isLimited", "(I)Z"⟩, 17), (⟨"KeyAtlasModel", "newKey", "(III)V"⟩, 17), (⟨"KeyAtlasModel", "goes", "(II)V"⟩, 17), (⟨"KeyAtlasModel", "bin", "(II)I"⟩, 17), (⟨"KeyAtlasModel", "set", "(IIII)V"⟩, 17), (⟨"KeyAtlasModel", "inBin", "(II)I"⟩, 17), (⟨"KeyAtlasModel", "comes", "(IIII)V"⟩, 17), (⟨"KeyAtlasModel", "hashed", "(III)V"⟩, 17), (⟨"KeyAtlasModel", "doubled", "(I)V"⟩, 17), (⟨"KeyAtlasModel", "touched", "(II)I"⟩, 17), (⟨"KeyAtlasModel", "entries", "(I)I"⟩, 17), (⟨"KeyAtlasModel", "cleared", "(I)J"⟩, 17), (⟨"KeyAtlasModel", "end", "(II)J"⟩, 17)]
theorem lw_r3 : ∀ q ∈ lw_privs_3, lw_okq q := List.forall_mem_cons.mpr ⟨lw_p32, List.forall_mem_cons.mpr ⟨lw_p33, List.forall_mem_cons.mpr ⟨lw_p34, List.forall_mem_cons.mpr ⟨lw_p35, List.forall_mem_cons.mpr ⟨lw_p36, List.forall_mem_cons.mpr ⟨lw_p37, List.forall_mem_cons.mpr ⟨lw_p38, List.forall_mem_cons.mpr ⟨lw_p39, List.forall_mem_cons.mpr ⟨lw_p40, List.forall_mem_cons.mpr ⟨lw_p41, List.forall_mem_cons.mpr ⟨lw_p42, List.forall_mem_cons.mpr ⟨lw_p43, List.forall_mem_cons.mpr ⟨lw_p44, List.forall_mem_cons.mpr ⟨lw_p45, List.forall_mem_cons.mpr ⟨lw_p46, List.forall_mem_cons.mpr ⟨lw_p47, fun _ h => absurd h List.not_mem_nil⟩⟩⟩⟩⟩⟩⟩⟩⟩⟩⟩⟩⟩⟩⟩⟩
theorem lw_p48 : lw_okq (⟨"KeyAtlasModel", "nth", "(II)I"⟩, 17) := ⟨⟨by decide +kernel, by decide +kernel⟩, List.mem_of_getElem? (i := 908) (by decide +kernel), List.mem_of_getElem? (i := 1105) (by decide +kernel), List.mem_of_getElem? (i := 1106) (by decide +kernel)⟩
theorem lw_p49 : lw_okq (⟨"KeyAtlasModel", "nearest", "(III)J"⟩, 17) := ⟨⟨by decide +kernel, by decide +kernel⟩, List.mem_of_getElem? (i := 908) (by decide +kernel), List.mem_of_getElem? (i := 1109) (by decide +kernel), List.mem_of_getElem? (i := 1110) (by decide +kernel)⟩
theorem lw_p50 : lw_okq (⟨"KeyAtlasModel", "sameMap", "(II)J"⟩, 17) := ⟨⟨by decide +kernel, by decide +kernel⟩, List.mem_of_getElem? (i := 908) (by decide +kernel), List.mem_of_getElem? (i := 1113) (by decide +kernel), List.mem_of_getElem? (i := 1114) (by decide +kernel)⟩
theorem lw_p51 : lw_okq (⟨"KeyAtlasModel", "allOf", "(II)J"⟩, 17) := ⟨⟨by decide +kernel, by decide +kernel⟩, List.mem_of_getElem? (i := 908) (by decide +kernel), List.mem_of_getElem? (i := 1117) (by decide +kernel), List.mem_of_getElem? (i := 1118) (by decide +kernel)⟩
theorem lw_p52 : lw_okq (⟨"KeyAtlasModel", "over", "(III)J"⟩, 17) := ⟨⟨by decide +kernel, by decide +kernel⟩, List.mem_of_getElem? (i := 908) (by decide +kernel), List.mem_of_getElem? (i := 1121) (by decide +kernel), List.mem_of_getElem? (i := 1122) (by decide +kernel)⟩
def lw_privs_4 : List (MethodName × Nat) := [(⟨"KeyAtlasModel", "nth", "(II)I"⟩, 17), (⟨"KeyAtlasModel", "nearest", "(III)J"⟩, 17), (⟨"KeyAtlasModel", "sameMap", "(II)J"⟩, 17), (⟨"KeyAtlasModel", "allOf", "(II)J"⟩, 17), (⟨"KeyAtlasModel", "over", "(III)J"⟩, 17)]
theorem lw_r4 : ∀ q ∈ lw_privs_4, lw_okq q := List.forall_mem_cons.mpr ⟨lw_p48, List.forall_mem_cons.mpr ⟨lw_p49, List.forall_mem_cons.mpr ⟨lw_p50, List.forall_mem_cons.mpr ⟨lw_p51, List.forall_mem_cons.mpr ⟨lw_p52, fun _ h => absurd h List.not_mem_nil⟩⟩⟩⟩⟩
def lw_privs : List (MethodName × Nat) := lw_privs_1 ++ (lw_privs_2 ++ (lw_privs_3 ++ (lw_privs_4)))
def lw_tbl : List Cond := k2_sels lw_privs ++ tables_1
theorem lw_privs_ok : ∀ q ∈ lw_privs, lw_okq q := by
  show ∀ q ∈ lw_privs_1 ++ (lw_privs_2 ++ (lw_privs_3 ++ (lw_privs_4))), lw_okq q
  exact List.forall_mem_append.mpr ⟨lw_r1, List.forall_mem_append.mpr ⟨lw_r2, List.forall_mem_append.mpr ⟨lw_r3, lw_r4⟩⟩⟩
-- ===== end of PART A; then your names; then what follows =====
end
section
/-! ===== BEGIN words of one list among another's, by their places ===== -/
theorem goodIn_r {big : List Cond} (ws : List Cond) (ps : List Nat) (hp : ws = ps.filterMap (fun i => big[i]?)) (h : ws.all goodWord = true) : GoodIn big ws := by
  intro w hw
  have h1 := List.all_eq_true.mp h w hw
  rw [hp] at hw
  obtain ⟨i, -, hi⟩ := List.mem_filterMap.mp hw
  have hm : w ∈ big := by first | exact List.mem_of_getElem? hi | exact List.getElem?_mem hi
  exact ⟨hm, good_of_word h1⟩
theorem goodIn_app {big a b : List Cond} (ha : GoodIn big a) (hb : GoodIn big b) : GoodIn big (a ++ b) := fun w h => (List.mem_append.mp h).elim (ha w) (hb w)
theorem goodIn_ca {big a b : List Cond} {c : Cond} (ha : GoodIn big (c :: a)) (hb : GoodIn big b) : GoodIn big (c :: (a ++ b)) := fun w h => (List.mem_cons.mp h).elim (fun e => ha w (List.mem_cons.mpr (Or.inl e))) (fun h => (List.mem_append.mp h).elim (fun h => ha w (List.mem_cons.mpr (Or.inr h))) (hb w))
theorem goodIn_sub {big ws : List Cond} (hm : ∀ w ∈ ws, w ∈ big) (h : ws.all goodWord = true) : GoodIn big ws := fun w hw => ⟨hm w hw, good_of_word (List.all_eq_true.mp h w hw)⟩
/-! ===== END ===== -/

/-! ===== BEGIN exceptions that leave a method, and their catching by the caller (launches without stack traces) ===== -/
section VXA
/-! The laws vx_back, vx_callV, vx_callS, vx_callSW, vx_throw0, vx_throwS follow proofs of the library, with one case more: JvmDerived/Free/Laws.lean (Back.of_free), Shelf42/LK1.lean (callV, callS), Shelf/KitTraced.lean (throwNew0V, throwNewS). -/
/-- where a method has thrown q: the class by its name, the cell, what was written, the world -/
def vx_T (XC : String → State → State → Prop) (st : State) (q : Addr) (t : State) (mc ms : Nat) (free : Addr → Prop) : Prop :=
  ∃ (E : String) (ce : Cell) (L : List Loc), XC E st t ∧ t.heap[q]? = some ce ∧ ce.vm = .none ∧ st.vm.findClass E = some ce.cls ∧ st.WarmedH t.vm ∧ st.sameButNew ({ t with vm := st.vm } : State) L mc ms ∧ ∀ z ∈ L, free z.base
def vx_Q (Qc : Array Value → State → Outcome → State → Prop) (XC : String → State → State → Prop) (mc ms : Nat) (free : Addr → Prop) : Array Value → State → Outcome → State → Prop := fun a st o t =>
  (Qc a st o t ∧ ∃ L, FrameEnd st o t L mc ms ∧ ∀ q ∈ L, free q.base) ∨ ∃ q, o = .threw q ∧ vx_T XC st q t mc ms free
/-- a callee that returns or throws -/
def vx_Met (l : Launch) (y : MethodName) (ws : List Cond) (rm : Room) (Pc : Array Value → State → Prop) (Qc : Array Value → State → Outcome → State → Prop) (XC : String → State → State → Prop) (mc ms : Nat) (free : Addr → Prop) : Prop :=
  MetFree l y (headSpec ws rm) Pc (fun _ _ _ _ _ => True) (vx_Q Qc XC mc ms free)
def vx_Post (XC : String → State → State → Prop) (mc ms : Nat) (free : Addr → Prop) : Pt → Array Value → Addr → Pt → Prop := fun A a q B =>
  ∃ (g : JFrame) (mk : MethodId) (t : State) (L : List Loc) (E : String) (ce : Cell), B.U.heap = t.heap ∧ B.U.vm = t.vm ∧ XC E (A.U.calling g mk a) t ∧ t.heap[q]? = some ce ∧ ce.vm = .none ∧ A.U.vm.findClass E = some ce.cls ∧ B.locs = A.locs ++ L ∧ (∀ z ∈ L, free z.base) ∧ B.cells = A.cells + mc ∧ B.slots = A.slots + ms
def vx_Back (l : Launch) (R : Room) (p : Program) (e : Env) (below : List Frame) (s : State) (sargs : Array Value) (y : MethodName) (len W9 : Nat)
    (Pre : Pt → Array Value → Prop) (Post : Pt → Array Value → Option Value → Pt → Prop) (PostX : Pt → Array Value → Addr → Pt → Prop) : Prop :=
  ∀ (m : MethodId) (meth : Method) (c : Code) (A : Pt) (g : JFrame) (ig : Instr) (mk : MethodId) (a : Array Value),
    Stand p l e R s m sargs below meth c A.U A.locs A.cells A.slots → g.method = m → g.locals.size = c.maxLocals → decode c.code g.pc = .ok (ig, len) →
    2 * g.monitorRoom + (g.stack.map fun v => v.category).sum ≤ W9 → A.U.methodNamed? y = some mk → Pre A a →
    (∃ (v : Option Value) (B : Pt), Stand p l e R s m sargs below meth c B.U B.locs B.cells B.slots ∧ Post A a v B ∧
      Steps p.tables e below (doInvoke e (A.U.setTop g) [] mk a).1 (B.U.setTop { g with pc := g.pc + len, stack := v.toList ++ g.stack })) ∨
    (∃ (q : Addr) (B : Pt), Stand p l e R s m sargs below meth c B.U B.locs B.cells B.slots ∧ PostX A a q B ∧
      Steps p.tables e below (doInvoke e (A.U.setTop g) [] mk a).1 ((B.U.setTop g).pushFrame (.throwing q)))
section Payer
variable {l : Launch} {R : Room} {p : Program} {e : Env} {below : List Frame} {s : State} {sargs : Array Value} {y : MethodName} {len W9 : Nat}
theorem vx_back {ws : List Cond} {rm : Room} {Pc : Array Value → State → Prop} {Qc : Array Value → State → Outcome → State → Prop} {XC : String → State → State → Prop} {mc ms : Nat} {free : Addr → Prop} {bytes : ByteArray} {maxL : Nat} {ret : Option FieldType}
    (hM : vx_Met l y ws rm Pc Qc XC mc ms free) (hblind : FrameBlind Pc) (hrc : rm.cells = mc) (hrs : rm.slots = ms)
    (hframes : rm.frames + 1 ≤ R.frames) (hlocals : W9 + (maxL + 11) + rm.locals ≤ R.locals)
    (hws : ∀ w ∈ ws, ∀ a' U, s.WarmedH U.vm → w.before a' U = true) (hcode : Cond.code y bytes maxL ret ∈ ws) (hinit : ∀ a' U, s.WarmedH U.vm → (Cond.initialized y.cls).before a' U = true) :
    vx_Back l R p e below s sargs y len W9 (PreOf R mc ms Pc) (PostOf Qc mc ms free) (vx_Post XC mc ms free) := by
  intro m meth c A g ig mk a X hg hsize hdg hW hn hp
  have h1 : (headSpec ws rm).pre.before a A.U = true := atoms_intro fun w hw => hws w hw _ _ X.warmed
  have h2 : (Cond.code y bytes maxL ret).before a A.U = true := hws _ hcode _ _ X.warmed
  have h3 : (Cond.initialized y.cls).before a A.U = true := hinit _ _ X.warmed
  have h4 : A.cells + (headSpec ws rm).room.cells ≤ R.cells := by rw [show (headSpec ws rm).room.cells = mc from hrc]; exact hp.1
  have h5 : A.slots + (headSpec ws rm).room.slots ≤ R.slots := by rw [show (headSpec ws rm).room.slots = ms from hrs]; exact hp.2.1
  have hPc : Pc a (A.U.calling g mk a) := hblind _ _ _ _ hp.2.2
  obtain ⟨U, Ls, c0, s0⟩ := A
  dsimp only [Pt.U, Pt.locs, Pt.cells, Pt.slots] at h1 h2 h3 h4 h5 X hn hPc ⊢
  obtain ⟨methY, cY, hmY, hcY, -, hlY, -, -, -, -⟩ := Cond.code_spec hn h2
  obtain ⟨kY, hkY, -⟩ := className_of_methodNamed hn
  have hinitY : kY.init = .initialized := Cond.initialized_spec (findClass_of_methodNamed hn) hkY h3
  have h : At U g.method c below := by rw [hg]; exact X.here
  have hlocals9 : W9 + (maxL + 11) + (headSpec ws rm).room.locals ≤ R.locals := hlocals
  have happ : (headSpec ws rm).appliesLoose y e.platform (U.calling g mk a) = true :=
    Spec.appliesLoose_calling (g := g) h hdg hn hkY hinitY
      (X.room_calling (g := g) (R' := (headSpec ws rm).room) hsize hmY hcY hframes (by rw [hlY]; omega) h4 h5) h1
  obtain ⟨mid, hmid⟩ := h.above
  have hfr : (U.setTop g).frames = (.java g :: mid) ++ below := by rw [State.frames_setTop' g h.top, hmid]; rfl
  obtain ⟨o, s₂, hsteps, -, hend, hq⟩ := Steps.callFree hM p X.admits X.cas X.clock (acts := []) hfr happ hPc trivial
  have hq' : vx_Q Qc XC mc ms free a (U.calling g mk a) o s₂ := hq
  rw [State.frames_setTop' g h.top] at hend
  obtain ⟨g₀, hg0⟩ := Option.isSome_iff_exists.mp h.top
  obtain ⟨r, hr⟩ := State.topJava?_eq_some.mp hg0
  have hr' : (({ U with heap := s₂.heap, slotsUsed := s₂.slotsUsed } : State).setVm s₂.vm).frames = .java g₀ :: r := hr
  rcases hq' with ⟨hqc, L, hfe, hL⟩ | ⟨q, rfl, E, ce, L, hx, hce, hcv, hcl, hW₂, hsm, hL⟩
  · obtain ⟨⟨v, rfl⟩, hW₂, e2, q2, q3, q4, q5, q6⟩ := id hfe
    have e3 : s₂ = ({ (U.calling g mk a).setFrames s₂.frames with heap := s₂.heap, slotsUsed := s₂.slotsUsed } : State).setVm s₂.vm := by
      have : s₂ = ({ s₂ with vm := (U.calling g mk a).vm } : State).setVm s₂.vm := rfl
      rw [e2] at this
      exact this
    obtain ⟨c₂, i₂, len₂, hc₂, hd₂, hf₂⟩ := hend
    have hW' : U.WarmedH s₂.vm := hW₂
    have hcc : c₂ = c := by
      have h1 : s₂.code? g.method = U.code? g.method := by
        rw [State.code?_eq, State.code?_eq, hW'.alike.method?]
      exact Option.some.inj (hc₂.symm.trans (h1.trans h.code))
    subst hcc
    have hlen : len₂ = len := by rw [hdg] at hd₂; cases hd₂; rfl
    subst hlen
    have hs₂ : s₂ = (({ U with heap := s₂.heap, slotsUsed := s₂.slotsUsed } : State).setVm s₂.vm).setTop { g with pc := g.pc + len₂, stack := v.toList ++ g.stack } := by
      refine e3.trans ?_
      rw [hf₂, State.calling_eq h.top, State.setFrames_setFrames, State.setTop_of_frames _ hr', hr]
      rfl
    have hsame : U.sameButNew ({ U with heap := s₂.heap, slotsUsed := s₂.slotsUsed } : State) L mc ms := by
      refine ⟨?_, q2, q3, q4, q5, q6⟩
      obtain ⟨t, ht, -⟩ := State.frames_cons hr
      show ({ U with heap := s₂.heap, slotsUsed := s₂.slotsUsed } : State) = { U.setFrames U.frames with heap := s₂.heap, slotsUsed := s₂.slotsUsed }
      rw [State.setFrames_self ht]
    subst hg
    refine Or.inl ⟨v, ⟨(({ U with heap := s₂.heap, slotsUsed := s₂.slotsUsed } : State).setVm s₂.vm), Ls ++ L, c0 + mc, s0 + ms⟩,
      ⟨X.admits, X.cas, X.clock, X.frames, X.room, X.hears, X.method, X.code, (X.here.setHeapUsed s₂.heap s₂.slotsUsed).setVm hW'.alike, X.tail, State.WarmedH.trans X.warmed hW', X.limits, X.bytes, X.same.trans (hsame.setVm s.vm)⟩,
      ⟨g, mk, s₂, L, rfl, rfl, hqc, rfl, hL, rfl, rfl⟩, ?_⟩
    show Steps p.tables e below _ ((({ U with heap := s₂.heap, slotsUsed := s₂.slotsUsed } : State).setVm s₂.vm).setTop { g with pc := g.pc + len₂, stack := v.toList ++ g.stack })
    rw [← hs₂]
    exact hsteps
  · obtain ⟨e2, q2, q3, q4, q5, q6⟩ := id hsm
    have e3 : s₂ = ({ (U.calling g mk a).setFrames s₂.frames with heap := s₂.heap, slotsUsed := s₂.slotsUsed } : State).setVm s₂.vm := by
      have : s₂ = ({ s₂ with vm := (U.calling g mk a).vm } : State).setVm s₂.vm := rfl
      rw [e2] at this
      exact this
    have hf₂ : s₂.frames = .throwing q :: .java g :: U.frames.tail := hend
    have hW' : U.WarmedH s₂.vm := hW₂
    have hs₂ : s₂ = ((({ U with heap := s₂.heap, slotsUsed := s₂.slotsUsed } : State).setVm s₂.vm).setTop g).pushFrame (.throwing q) := by
      refine e3.trans ?_
      rw [hf₂, State.calling_eq h.top, State.setFrames_setFrames, State.pushFrame, State.frames_setTop _ hr', State.setTop_of_frames _ hr', State.setFrames_setFrames, hr]
      rfl
    have hsame : U.sameButNew ({ U with heap := s₂.heap, slotsUsed := s₂.slotsUsed } : State) L mc ms := by
      refine ⟨?_, q2, q3, q4, q5, q6⟩
      obtain ⟨t, ht, -⟩ := State.frames_cons hr
      show ({ U with heap := s₂.heap, slotsUsed := s₂.slotsUsed } : State) = { U.setFrames U.frames with heap := s₂.heap, slotsUsed := s₂.slotsUsed }
      rw [State.setFrames_self ht]
    subst hg
    refine Or.inr ⟨q, ⟨(({ U with heap := s₂.heap, slotsUsed := s₂.slotsUsed } : State).setVm s₂.vm), Ls ++ L, c0 + mc, s0 + ms⟩,
      ⟨X.admits, X.cas, X.clock, X.frames, X.room, X.hears, X.method, X.code, (X.here.setHeapUsed s₂.heap s₂.slotsUsed).setVm hW'.alike, X.tail, State.WarmedH.trans X.warmed hW', X.limits, X.bytes, X.same.trans (hsame.setVm s.vm)⟩,
      ⟨g, mk, s₂, L, E, ce, rfl, rfl, hx, hce, hcv, hcl, rfl, hL, rfl, rfl⟩, ?_⟩
    show Steps p.tables e below _ (((({ U with heap := s₂.heap, slotsUsed := s₂.slotsUsed } : State).setVm s₂.vm).setTop g).pushFrame (.throwing q))
    rw [← hs₂]
    exact hsteps
end Payer
section Calls
variable {p : Program} {l : Launch} {e : Env} {R : Room} {s : State} {m : MethodId} {args : Array Value} {below : List Frame} {meth : Method} {c : Code} {T : State} {locs : List Loc} {cells slots : Nat}
theorem vx_callV (X : Stand p l e R s m args below meth c T locs cells slots) (hexec : p.tables.exec = Jvm.exec) {own C : String} {index : Nat} {y : MethodName} {bytes : ByteArray} {maxL : Nat} {ret : Option FieldType}
    (hown : s.vm.findClass own = some m.cls) (hlink : (Cond.methodLink own index y).before args s = true) (hinst : (Cond.instanceMethod y).before args s = true) (hsel : (Cond.selects C y y).before args s = true)
    (hcode : (Cond.code y bytes maxL ret).before args s = true) (hy : y.cls ≠ "java/lang/invoke/MethodHandle" ∧ y.cls ≠ "java/lang/invoke/VarHandle")
    {W9 : Nat} {Pre : Pt → Array Value → Prop} {Post : Pt → Array Value → Option Value → Pt → Prop} {PostX : Pt → Array Value → Addr → Pt → Prop} (hK : vx_Back l R p e below s args y 3 W9 Pre Post PostX)
    {b : Addr} {cellB : Cell} (hcell : T.heap[b]? = some cellB) (hobj : cellB.vm.isStatics = false) (hcls : s.vm.findClass C = some cellB.cls)
    {g : JFrame} (hg : g.method = m) (hsize : g.locals.size = c.maxLocals) {argsL rest : List Value} (hlen : ∀ sig, parseMethodDescriptor y.desc = some sig → argsL.length = sig.parameters.length)
    (hstack : g.stack = argsL.reverse ++ .ref b :: rest) (hW : 2 * g.monitorRoom + (rest.map fun v => v.category).sum ≤ W9) (hdg : decode c.code g.pc = .ok (.invokevirtual index, 3))
    (hpre : ∀ vm₁, s.WarmedH vm₁ → Pre ⟨T.setVm vm₁, locs, cells, slots⟩ (Value.ref b :: argsL).toArray) :
    (∃ (v : Option Value) (vm₁ : Vm) (B : Pt), s.WarmedH vm₁ ∧ Stand p l e R s m args below meth c B.U B.locs B.cells B.slots ∧ Post ⟨T.setVm vm₁, locs, cells, slots⟩ (Value.ref b :: argsL).toArray v B ∧
      ∀ target, Steps p.tables e below (B.U.setTop { g with pc := g.pc + 3, stack := v.toList ++ rest }) target → Steps p.tables e below (T.setTop g) target) ∨
    (∃ (q : Addr) (vm₁ : Vm) (B : Pt), s.WarmedH vm₁ ∧ Stand p l e R s m args below meth c B.U B.locs B.cells B.slots ∧ PostX ⟨T.setVm vm₁, locs, cells, slots⟩ (Value.ref b :: argsL).toArray q B ∧
      Steps p.tables e below (T.setTop g) ((B.U.setTop { g with stack := rest }).pushFrame (.throwing q))) := by
  obtain ⟨mk, methM, hnamed, hmethM, hstM, habM⟩ := Cond.instanceMethod_spec hinst
  obtain ⟨methM', cM, hmethM', -, -, -, -, -, -, hsigM⟩ := Cond.code_spec hnamed hcode
  cases hmethM.symm.trans hmethM'
  obtain ⟨c2, r2, m2, q1, q2, q3, q4, kP, hkP, hkPi⟩ := Cond.selects_spec hsel
  cases hcls.symm.trans q1
  cases (State.methodFound?_of_named hnamed hy).symm.trans q2
  cases hnamed.symm.trans q3
  have hselP : selectMethod e.platform s.vm cellB.cls mk = .method mk := by rw [Launch.admits_selectMethod X.admits]; exact q4
  obtain ⟨vm₁, X₁, hstep₁⟩ := X.invokevirtual hexec hown hlink hnamed hmethM hstM hkP hkPi hy (a := b) (cell := cellB) hcell
    (fun z h => by rw [h] at hobj; cases hobj) hselP hmethM habM hkP hkPi (g := g) hg (argsL := argsL) (rest := rest) (hlen _ hsigM) hstack hdg
  rcases hK m meth c ⟨T.setVm vm₁, locs, cells, slots⟩ { g with stack := rest } (.invokevirtual index) mk (Value.ref b :: argsL).toArray X₁ hg hsize hdg hW (X₁.named hnamed) (hpre vm₁ X₁.warmed) with ⟨v, B, X', hpost, hsteps⟩ | ⟨q, B, X', hpost, hsteps⟩
  · exact Or.inl ⟨v, vm₁, B, X₁.warmed, X', hpost, fun target h => hstep₁ _ fun acts => by rw [doInvoke_state]; exact hsteps.trans h⟩
  · exact Or.inr ⟨q, vm₁, B, X₁.warmed, X', hpost, hstep₁ _ fun acts => by rw [doInvoke_state]; exact hsteps⟩
theorem vx_callS (X : Stand p l e R s m args below meth c T locs cells slots) (hexec : p.tables.exec = Jvm.exec) {own : String} {index : Nat} {y : MethodName} {bytes : ByteArray} {maxL : Nat} {ret : Option FieldType}
    (hown : s.vm.findClass own = some m.cls) (hlink : (Cond.methodLink own index y).before args s = true) (hstat : (Cond.static y).before args s = true) (hinit : (Cond.initialized y.cls).before args s = true)
    (hcode : (Cond.code y bytes maxL ret).before args s = true) (hy : y.cls ≠ "java/lang/invoke/MethodHandle" ∧ y.cls ≠ "java/lang/invoke/VarHandle")
    {W9 : Nat} {Pre : Pt → Array Value → Prop} {Post : Pt → Array Value → Option Value → Pt → Prop} {PostX : Pt → Array Value → Addr → Pt → Prop} (hK : vx_Back l R p e below s args y 3 W9 Pre Post PostX)
    {g : JFrame} (hg : g.method = m) (hsize : g.locals.size = c.maxLocals) {argsL rest : List Value} (hlen : ∀ sig, parseMethodDescriptor y.desc = some sig → argsL.length = sig.parameters.length)
    (hstack : g.stack = argsL.reverse ++ rest) (hW : 2 * g.monitorRoom + (rest.map fun v => v.category).sum ≤ W9) (hdg : decode c.code g.pc = .ok (.invokestatic index, 3))
    (hpre : ∀ vm₁, s.WarmedH vm₁ → Pre ⟨T.setVm vm₁, locs, cells, slots⟩ argsL.toArray) :
    (∃ (v : Option Value) (vm₁ : Vm) (B : Pt), s.WarmedH vm₁ ∧ Stand p l e R s m args below meth c B.U B.locs B.cells B.slots ∧ Post ⟨T.setVm vm₁, locs, cells, slots⟩ argsL.toArray v B ∧
      ∀ target, Steps p.tables e below (B.U.setTop { g with pc := g.pc + 3, stack := v.toList ++ rest }) target → Steps p.tables e below (T.setTop g) target) ∨
    (∃ (q : Addr) (vm₁ : Vm) (B : Pt), s.WarmedH vm₁ ∧ Stand p l e R s m args below meth c B.U B.locs B.cells B.slots ∧ PostX ⟨T.setVm vm₁, locs, cells, slots⟩ argsL.toArray q B ∧
      Steps p.tables e below (T.setTop g) ((B.U.setTop { g with stack := rest }).pushFrame (.throwing q))) := by
  obtain ⟨mk, hnamed⟩ := Cond.code_named hcode
  obtain ⟨methM, cM, hmethM, -, -, -, -, -, -, hsigM⟩ := Cond.code_spec hnamed hcode
  have hstatic : methM.isStatic = true := Cond.static_spec hnamed hmethM hstat
  obtain ⟨kP, hkP, -⟩ := className_of_methodNamed hnamed
  have hinitP : kP.init = .initialized := Cond.initialized_spec (findClass_of_methodNamed hnamed) hkP hinit
  obtain ⟨vm₁, X₁, hstep₁⟩ := X.invokestatic hexec hown hlink hnamed hmethM hstatic hkP hinitP hy (g := g) hg (argsL := argsL) (rest := rest) (hlen _ hsigM) hstack hdg
  rcases hK m meth c ⟨T.setVm vm₁, locs, cells, slots⟩ { g with stack := rest } (.invokestatic index) mk argsL.toArray X₁ hg hsize hdg hW (X₁.named hnamed) (hpre vm₁ X₁.warmed) with ⟨v, B, X', hpost, hsteps⟩ | ⟨q, B, X', hpost, hsteps⟩
  · exact Or.inl ⟨v, vm₁, B, X₁.warmed, X', hpost, fun target h => hstep₁ _ fun acts => by rw [doInvoke_state]; exact hsteps.trans h⟩
  · exact Or.inr ⟨q, vm₁, B, X₁.warmed, X', hpost, hstep₁ _ fun acts => by rw [doInvoke_state]; exact hsteps⟩
end Calls
theorem vx_cls {s : State} {T : State} {vm₁ : Vm} {E : String} {k : ClassId} (hW : s.WarmedH vm₁) (h : (T.setVm vm₁).vm.findClass E = some k) : s.vm.findClass E = some k := by
  have h1 : vm₁.findClass E = some k := h
  rw [hW.alike.findClass] at h1
  exact h1
/-- the method's frame g, with q thrown over it -/
def vx_W (p : Program) (l : Launch) (e : Env) (R : Room) (s : State) (m : MethodId) (args : Array Value) (below : List Frame) (meth : Method) (c : Code) (H : Heap) (locs : List Loc) (cells slots : Nat) (Q : State → Prop) (g : JFrame) (q : Addr) : Prop :=
  ∀ T : State, T.heap = H → Stand p l e R s m args below meth c T locs cells slots → ∃ t, Steps p.tables e below ((T.setTop g).pushFrame (.throwing q)) t ∧ Q t
def vx_Run (p : Program) (l : Launch) (e : Env) (R : Room) (s : State) (m : MethodId) (args : Array Value) (below : List Frame) (meth : Method) (c : Code) (H : Heap) (locs : List Loc) (cells slots mc ms : Nat) (g : JFrame) (rest : List Value) (Qa : State → Outcome → State → Prop) (XC : String → State → State → Prop) (free : Addr → Prop) : Prop :=
  ∀ T : State, T.heap = H → Stand p l e R s m args below meth c T locs cells slots →
    (∃ (v : Option Value) (st₀ t T' : State) (L : List Loc), st₀.heap = H ∧ Stand p l e R s m args below meth c T' (locs ++ L) (cells + mc) (slots + ms) ∧ (∀ q ∈ L, free q.base) ∧ T'.heap = t.heap ∧ T'.vm = t.vm ∧ Qa st₀ (.returned v) t ∧
      Goes p e below T g T' { g with pc := g.pc + 3, stack := v.toList ++ rest }) ∨
    (∃ (q : Addr) (st₀ t T' : State) (L : List Loc) (E : String) (ce : Cell), st₀.heap = H ∧ Stand p l e R s m args below meth c T' (locs ++ L) (cells + mc) (slots + ms) ∧ (∀ z ∈ L, free z.base) ∧ T'.heap = t.heap ∧ T'.vm = t.vm ∧ XC E st₀ t ∧ t.heap[q]? = some ce ∧ ce.vm = .none ∧ s.vm.findClass E = some ce.cls ∧
      Steps p.tables e below (T.setTop g) ((T'.setTop { g with stack := rest }).pushFrame (.throwing q)))
def vx_X {S : Type} (px : S → Prop) (B : String → S → State → Prop) (A : Nat → Prop) : String → State → State → Prop := fun E st t => ∃ u : S, px u ∧ B E u t ∧ va_F A st t
section Runs
variable {p : Program} {l : Launch} {e : Env} {R : Room} {s : State} {m : MethodId} {args : Array Value} {below : List Frame} {meth : Method} {c : Code} {H : Heap} {locs : List Loc} {cells slots : Nat}
variable {y : MethodName} {bytes cc : ByteArray} {maxL nL mc ms n index : Nat} {ret : Option FieldType} {ws : List Cond} {rm : Room} {Pc : Array Value → State → Prop} {Qc : Array Value → State → Outcome → State → Prop} {XC : String → State → State → Prop} {free : Addr → Prop} {Ts : List Cond} {own C : String} {b : Addr} {As rest : List Value} {g : JFrame}
theorem vx_callBack (cb : CallB R s args own index y bytes maxL ret ws rm mc ms n) (hM : vx_Met l y ws rm Pc Qc XC mc ms free) (hbl : FrameBlind Pc) : vx_Back l R p e below s args y 3 8 (PreOf R mc ms Pc) (PostOf Qc mc ms free) (vx_Post XC mc ms free) := by
  obtain ⟨hrc, hrs, hfr, hlo, hws, hcw, -, hini, -⟩ := cb
  exact vx_back (bytes := bytes) (maxL := maxL) (ret := ret) hM hbl hrc hrs hfr hlo hws hcw (fun a' U hW => word_at hW (Or.inl (by first | rfl | simp [Cond.onTables, Cond.keeps, Cond.steady])) hini)
theorem vx_runV (S : CallFix p m c cc nL s args Ts own) (hM : vx_Met l y ws rm Pc Qc XC mc ms free) (cw : CallW R s args own C index y bytes maxL ret ws rm mc ms n) (hp : PreV s H C b Pc As)
    (hg : g.method = m) (hn : As.length = n) (hsize : g.locals.size = nL) (hstack : g.stack = As.reverse ++ .ref b :: rest) (hW : 2 * g.monitorRoom + (rest.map fun v => v.category).sum ≤ 8) (hdg : decode cc g.pc = .ok (.invokevirtual index, 3)) (hf : cells + mc ≤ R.cells ∧ slots + ms ≤ R.slots) :
    vx_Run p l e R s m args below meth c H locs cells slots mc ms g rest (Qc (Value.ref b :: As).toArray) XC free := by
  have hK : vx_Back l R p e below s args y 3 8 (PreOf R mc ms Pc) (PostOf Qc mc ms free) (vx_Post XC mc ms free) := vx_callBack cw.1 hM hp.1
  obtain ⟨⟨-, -, -, -, -, -, hcode, -, hy, hlen, hl⟩, hin, hse⟩ := cw
  obtain ⟨hx, hb, hml, ho, -⟩ := S
  obtain ⟨-, ⟨cellB, hcB, hoB, hclB⟩, hPc⟩ := hp
  intro T hT X
  rcases vx_callV X hx (C := C) (bytes := bytes) (maxL := maxL) (ret := ret) ho hl hin hse hcode hy hK (by rw [hT]; exact hcB) hoB hclB hg (hsize.trans hml.symm) (argsL := As) (rest := rest) (fun sig h => hn.trans (hlen sig h)) hstack hW (by rw [hb]; exact hdg)
    (fun vm₁ hW₁ => ⟨hf.1, hf.2, hPc (T.setVm vm₁) hT hW₁⟩) with ⟨v, vm₁, ⟨U', l2, c2, s2⟩, hW₁, X', ⟨g', mk, t, L, e1, e2, hq, h1, hL, h2, h3⟩, st⟩ | ⟨q, vm₁, ⟨U', l2, c2, s2⟩, hW₁, X', ⟨g', mk, t, L, E, ce, e1, e2, hq, hce, hcv, hcl, h1, hL, h2, h3⟩, st⟩
  · dsimp only [Pt.U, Pt.locs, Pt.cells, Pt.slots] at X' e1 e2 h1 h2 h3 st
    subst h1; subst h2; subst h3
    exact Or.inl ⟨v, (T.setVm vm₁).calling g' mk (Value.ref b :: As).toArray, t, U', L, hT, X', hL, e1, e2, hq, st⟩
  · dsimp only [Pt.U, Pt.locs, Pt.cells, Pt.slots] at X' e1 e2 h1 h2 h3 st hcl
    subst h1; subst h2; subst h3
    exact Or.inr ⟨q, (T.setVm vm₁).calling g' mk (Value.ref b :: As).toArray, t, U', L, E, ce, hT, X', hL, e1, e2, hq, hce, hcv, vx_cls hW₁ hcl, st⟩
theorem vx_runS (S : CallFix p m c cc nL s args Ts own) (hM : vx_Met l y ws rm Pc Qc XC mc ms free) (cw : CallB R s args own index y bytes maxL ret ws rm mc ms n ∧ (Cond.static y).before args s = true) (hp : PreS s H Pc As)
    (hg : g.method = m) (hn : As.length = n) (hsize : g.locals.size = nL) (hstack : g.stack = As.reverse ++ rest) (hW : 2 * g.monitorRoom + (rest.map fun v => v.category).sum ≤ 8) (hdg : decode cc g.pc = .ok (.invokestatic index, 3)) (hf : cells + mc ≤ R.cells ∧ slots + ms ≤ R.slots) :
    vx_Run p l e R s m args below meth c H locs cells slots mc ms g rest (Qc As.toArray) XC free := by
  have hK : vx_Back l R p e below s args y 3 8 (PreOf R mc ms Pc) (PostOf Qc mc ms free) (vx_Post XC mc ms free) := vx_callBack cw.1 hM hp.1
  obtain ⟨⟨-, -, -, -, -, -, hcode, hini, hy, hlen, hl⟩, hstt⟩ := cw
  obtain ⟨hx, hb, hml, ho, -⟩ := S
  intro T hT X
  rcases vx_callS X hx (bytes := bytes) (maxL := maxL) (ret := ret) ho hl hstt hini hcode hy hK hg (hsize.trans hml.symm) (argsL := As) (rest := rest) (fun sig h => hn.trans (hlen sig h)) hstack hW (by rw [hb]; exact hdg)
    (fun vm₁ hW₁ => ⟨hf.1, hf.2, hp.2 (T.setVm vm₁) hT hW₁⟩) with ⟨v, vm₁, ⟨U', l2, c2, s2⟩, hW₁, X', ⟨g', mk, t, L, e1, e2, hq, h1, hL, h2, h3⟩, st⟩ | ⟨q, vm₁, ⟨U', l2, c2, s2⟩, hW₁, X', ⟨g', mk, t, L, E, ce, e1, e2, hq, hce, hcv, hcl, h1, hL, h2, h3⟩, st⟩
  · dsimp only [Pt.U, Pt.locs, Pt.cells, Pt.slots] at X' e1 e2 h1 h2 h3 st
    subst h1; subst h2; subst h3
    exact Or.inl ⟨v, (T.setVm vm₁).calling g' mk As.toArray, t, U', L, hT, X', hL, e1, e2, hq, st⟩
  · dsimp only [Pt.U, Pt.locs, Pt.cells, Pt.slots] at X' e1 e2 h1 h2 h3 st hcl
    subst h1; subst h2; subst h3
    exact Or.inr ⟨q, (T.setVm vm₁).calling g' mk As.toArray, t, U', L, E, ce, hT, X', hL, e1, e2, hq, hce, hcv, vx_cls hW₁ hcl, st⟩
end Runs
section Rows
variable {p : Program} {l : Launch} {e : Env} {R : Room} {s : State} {m : MethodId} {args : Array Value} {below : List Frame} {meth : Method} {c : Code} {H : Heap} {locs : List Loc} {cells slots : Nat} {Q : State → Prop}
variable {mc ms : Nat} {free : Addr → Prop} {A0 A1 : Nat → Prop} {H0 : Heap} {a : Array Value} {pc : Nat} {ls : Array Slot} {st0 rest : List Value}
theorem vx_keep {st₀ t T' : State} {L : List Loc} (h0 : st₀.heap = H) (e1 : T'.heap = t.heap) (hS : va_S A0 H0 H locs) (hA : ∀ q, q < H.size → A1 q → A0 q) (hf : ∀ q, free q → A0 q) (hL : ∀ q ∈ L, free q.base) (hF : va_F A1 st₀ t) :
    H.size ≤ T'.heap.size ∧ (∀ q : Nat, q < H.size → ¬ A1 q → T'.heap[q]? = H[q]?) ∧ va_S A0 H0 T'.heap (locs ++ L) := by
  obtain ⟨hz, hk⟩ := hF
  rw [h0] at hz hk
  exact ⟨by rw [e1]; exact hz, fun q h1 h2 => by rw [e1]; exact hk q h1 h2,
    ⟨Nat.le_trans hS.1 (by rw [e1]; exact hz), fun q h1 h2 => by rw [e1, hk q (Nat.lt_of_lt_of_le h1 hS.1) (fun z => h2 (hA q (Nat.lt_of_lt_of_le h1 hS.1) z))]; exact hS.2.1 q h1 h2, fun q hq => by
      rcases List.mem_append.mp hq with h | h
      · exact hS.2.2 q h
      · exact hf _ (hL q h)⟩⟩
theorem vx_calli {S SX : Type} {post : Int32 → S → Prop} {px : SX → Prop} {B : S → State → Prop} {BX : String → SX → State → Prop} {AX : Nat → Prop} (hr : vx_Run p l e R s m args below meth c H locs cells slots mc ms (F0 m pc ls st0) rest (va_Qi post B A1 a) (vx_X px BX AX) free) (hS : va_S A0 H0 H locs) (hA : ∀ q, q < H.size → A1 q → A0 q) (hf : ∀ q, free q → A0 q) (hAX : ∀ q, q < H.size → AX q → A0 q)
    (kx : ∀ (E : String) (ce : Cell) (q9 : Addr) (u : SX) (t : State) (H1 : Heap) (locs1 : List Loc), t.heap = H1 → s.vm.Alike t.vm → px u → BX E u t → H.size ≤ H1.size → (∀ q : Nat, q < H.size → ¬ AX q → H1[q]? = H[q]?) → va_S A0 H0 H1 locs1 → H1[q9]? = some ce → ce.vm = .none → s.vm.findClass E = some ce.cls → vx_W p l e R s m args below meth c H1 locs1 (cells + mc) (slots + ms) Q (F0 m pc ls rest) q9)
    (kk : ∀ (r : Int32) (u : S) (t : State) (H1 : Heap) (locs1 : List Loc), t.heap = H1 → s.vm.Alike t.vm → post r u → B u t → H.size ≤ H1.size → (∀ q : Nat, q < H.size → ¬ A1 q → H1[q]? = H[q]?) → va_S A0 H0 H1 locs1 → W p l e R s m args below meth c H1 locs1 (cells + mc) (slots + ms) Q (F0 m (pc + 3) ls (.int r :: rest))) : W p l e R s m args below meth c H locs cells slots Q (F0 m pc ls st0) := by
  intro T hT X
  rcases hr T hT X with ⟨v, st₀, t, T', L, h0, X', hL, e1, e2, ⟨⟨r, u, hv, hp, hb⟩, hF⟩, st⟩ | ⟨q, st₀, t, T', L, E, ce, h0, X', hL, e1, e2, ⟨u, hp, hb, hF⟩, hce, hcv, hcl, st⟩
  · cases hv
    obtain ⟨k1, k2, k3⟩ := vx_keep h0 e1 hS hA hf hL hF
    obtain ⟨t2, a1, b1⟩ := kk r u t T'.heap (locs ++ L) e1.symm (by rw [← e2]; exact X'.warmed.alike) hp hb k1 k2 k3 T' rfl X'
    exact ⟨t2, st t2 a1, b1⟩
  · obtain ⟨k1, k2, k3⟩ := vx_keep h0 e1 hS hAX hf hL hF
    obtain ⟨t2, a1, b1⟩ := kx E ce q u t T'.heap (locs ++ L) e1.symm (by rw [← e2]; exact X'.warmed.alike) hp hb k1 k2 k3 (by rw [e1]; exact hce) hcv hcl T' rfl X'
    exact ⟨t2, st.trans a1, b1⟩
theorem vx_calll {S SX : Type} {post : Int64 → S → Prop} {px : SX → Prop} {B : S → State → Prop} {BX : String → SX → State → Prop} {AX : Nat → Prop} (hr : vx_Run p l e R s m args below meth c H locs cells slots mc ms (F0 m pc ls st0) rest (va_Ql post B A1 a) (vx_X px BX AX) free) (hS : va_S A0 H0 H locs) (hA : ∀ q, q < H.size → A1 q → A0 q) (hf : ∀ q, free q → A0 q) (hAX : ∀ q, q < H.size → AX q → A0 q)
    (kx : ∀ (E : String) (ce : Cell) (q9 : Addr) (u : SX) (t : State) (H1 : Heap) (locs1 : List Loc), t.heap = H1 → s.vm.Alike t.vm → px u → BX E u t → H.size ≤ H1.size → (∀ q : Nat, q < H.size → ¬ AX q → H1[q]? = H[q]?) → va_S A0 H0 H1 locs1 → H1[q9]? = some ce → ce.vm = .none → s.vm.findClass E = some ce.cls → vx_W p l e R s m args below meth c H1 locs1 (cells + mc) (slots + ms) Q (F0 m pc ls rest) q9)
    (kk : ∀ (r : Int64) (u : S) (t : State) (H1 : Heap) (locs1 : List Loc), t.heap = H1 → s.vm.Alike t.vm → post r u → B u t → H.size ≤ H1.size → (∀ q : Nat, q < H.size → ¬ A1 q → H1[q]? = H[q]?) → va_S A0 H0 H1 locs1 → W p l e R s m args below meth c H1 locs1 (cells + mc) (slots + ms) Q (F0 m (pc + 3) ls (.long r :: rest))) : W p l e R s m args below meth c H locs cells slots Q (F0 m pc ls st0) := by
  intro T hT X
  rcases hr T hT X with ⟨v, st₀, t, T', L, h0, X', hL, e1, e2, ⟨⟨r, u, hv, hp, hb⟩, hF⟩, st⟩ | ⟨q, st₀, t, T', L, E, ce, h0, X', hL, e1, e2, ⟨u, hp, hb, hF⟩, hce, hcv, hcl, st⟩
  · cases hv
    obtain ⟨k1, k2, k3⟩ := vx_keep h0 e1 hS hA hf hL hF
    obtain ⟨t2, a1, b1⟩ := kk r u t T'.heap (locs ++ L) e1.symm (by rw [← e2]; exact X'.warmed.alike) hp hb k1 k2 k3 T' rfl X'
    exact ⟨t2, st t2 a1, b1⟩
  · obtain ⟨k1, k2, k3⟩ := vx_keep h0 e1 hS hAX hf hL hF
    obtain ⟨t2, a1, b1⟩ := kx E ce q u t T'.heap (locs ++ L) e1.symm (by rw [← e2]; exact X'.warmed.alike) hp hb k1 k2 k3 (by rw [e1]; exact hce) hcv hcl T' rfl X'
    exact ⟨t2, st.trans a1, b1⟩
theorem vx_callf {S SX : Type} {post : UInt32 → S → Prop} {px : SX → Prop} {B : S → State → Prop} {BX : String → SX → State → Prop} {AX : Nat → Prop} (hr : vx_Run p l e R s m args below meth c H locs cells slots mc ms (F0 m pc ls st0) rest (va_Qf post B A1 a) (vx_X px BX AX) free) (hS : va_S A0 H0 H locs) (hA : ∀ q, q < H.size → A1 q → A0 q) (hf : ∀ q, free q → A0 q) (hAX : ∀ q, q < H.size → AX q → A0 q)
    (kx : ∀ (E : String) (ce : Cell) (q9 : Addr) (u : SX) (t : State) (H1 : Heap) (locs1 : List Loc), t.heap = H1 → s.vm.Alike t.vm → px u → BX E u t → H.size ≤ H1.size → (∀ q : Nat, q < H.size → ¬ AX q → H1[q]? = H[q]?) → va_S A0 H0 H1 locs1 → H1[q9]? = some ce → ce.vm = .none → s.vm.findClass E = some ce.cls → vx_W p l e R s m args below meth c H1 locs1 (cells + mc) (slots + ms) Q (F0 m pc ls rest) q9)
    (kk : ∀ (r : UInt32) (u : S) (t : State) (H1 : Heap) (locs1 : List Loc), t.heap = H1 → s.vm.Alike t.vm → post r u → B u t → H.size ≤ H1.size → (∀ q : Nat, q < H.size → ¬ A1 q → H1[q]? = H[q]?) → va_S A0 H0 H1 locs1 → W p l e R s m args below meth c H1 locs1 (cells + mc) (slots + ms) Q (F0 m (pc + 3) ls (.float r :: rest))) : W p l e R s m args below meth c H locs cells slots Q (F0 m pc ls st0) := by
  intro T hT X
  rcases hr T hT X with ⟨v, st₀, t, T', L, h0, X', hL, e1, e2, ⟨⟨r, u, hv, hp, hb⟩, hF⟩, st⟩ | ⟨q, st₀, t, T', L, E, ce, h0, X', hL, e1, e2, ⟨u, hp, hb, hF⟩, hce, hcv, hcl, st⟩
  · cases hv
    obtain ⟨k1, k2, k3⟩ := vx_keep h0 e1 hS hA hf hL hF
    obtain ⟨t2, a1, b1⟩ := kk r u t T'.heap (locs ++ L) e1.symm (by rw [← e2]; exact X'.warmed.alike) hp hb k1 k2 k3 T' rfl X'
    exact ⟨t2, st t2 a1, b1⟩
  · obtain ⟨k1, k2, k3⟩ := vx_keep h0 e1 hS hAX hf hL hF
    obtain ⟨t2, a1, b1⟩ := kx E ce q u t T'.heap (locs ++ L) e1.symm (by rw [← e2]; exact X'.warmed.alike) hp hb k1 k2 k3 (by rw [e1]; exact hce) hcv hcl T' rfl X'
    exact ⟨t2, st.trans a1, b1⟩
theorem vx_calld {S SX : Type} {post : UInt64 → S → Prop} {px : SX → Prop} {B : S → State → Prop} {BX : String → SX → State → Prop} {AX : Nat → Prop} (hr : vx_Run p l e R s m args below meth c H locs cells slots mc ms (F0 m pc ls st0) rest (va_Qd post B A1 a) (vx_X px BX AX) free) (hS : va_S A0 H0 H locs) (hA : ∀ q, q < H.size → A1 q → A0 q) (hf : ∀ q, free q → A0 q) (hAX : ∀ q, q < H.size → AX q → A0 q)
    (kx : ∀ (E : String) (ce : Cell) (q9 : Addr) (u : SX) (t : State) (H1 : Heap) (locs1 : List Loc), t.heap = H1 → s.vm.Alike t.vm → px u → BX E u t → H.size ≤ H1.size → (∀ q : Nat, q < H.size → ¬ AX q → H1[q]? = H[q]?) → va_S A0 H0 H1 locs1 → H1[q9]? = some ce → ce.vm = .none → s.vm.findClass E = some ce.cls → vx_W p l e R s m args below meth c H1 locs1 (cells + mc) (slots + ms) Q (F0 m pc ls rest) q9)
    (kk : ∀ (r : UInt64) (u : S) (t : State) (H1 : Heap) (locs1 : List Loc), t.heap = H1 → s.vm.Alike t.vm → post r u → B u t → H.size ≤ H1.size → (∀ q : Nat, q < H.size → ¬ A1 q → H1[q]? = H[q]?) → va_S A0 H0 H1 locs1 → W p l e R s m args below meth c H1 locs1 (cells + mc) (slots + ms) Q (F0 m (pc + 3) ls (.double r :: rest))) : W p l e R s m args below meth c H locs cells slots Q (F0 m pc ls st0) := by
  intro T hT X
  rcases hr T hT X with ⟨v, st₀, t, T', L, h0, X', hL, e1, e2, ⟨⟨r, u, hv, hp, hb⟩, hF⟩, st⟩ | ⟨q, st₀, t, T', L, E, ce, h0, X', hL, e1, e2, ⟨u, hp, hb, hF⟩, hce, hcv, hcl, st⟩
  · cases hv
    obtain ⟨k1, k2, k3⟩ := vx_keep h0 e1 hS hA hf hL hF
    obtain ⟨t2, a1, b1⟩ := kk r u t T'.heap (locs ++ L) e1.symm (by rw [← e2]; exact X'.warmed.alike) hp hb k1 k2 k3 T' rfl X'
    exact ⟨t2, st t2 a1, b1⟩
  · obtain ⟨k1, k2, k3⟩ := vx_keep h0 e1 hS hAX hf hL hF
    obtain ⟨t2, a1, b1⟩ := kx E ce q u t T'.heap (locs ++ L) e1.symm (by rw [← e2]; exact X'.warmed.alike) hp hb k1 k2 k3 (by rw [e1]; exact hce) hcv hcl T' rfl X'
    exact ⟨t2, st.trans a1, b1⟩
theorem vx_callv {S SX : Type} {post : S → Prop} {px : SX → Prop} {B : S → State → Prop} {BX : String → SX → State → Prop} {AX : Nat → Prop} (hr : vx_Run p l e R s m args below meth c H locs cells slots mc ms (F0 m pc ls st0) rest (va_Qv post B A1 a) (vx_X px BX AX) free) (hS : va_S A0 H0 H locs) (hA : ∀ q, q < H.size → A1 q → A0 q) (hf : ∀ q, free q → A0 q) (hAX : ∀ q, q < H.size → AX q → A0 q)
    (kx : ∀ (E : String) (ce : Cell) (q9 : Addr) (u : SX) (t : State) (H1 : Heap) (locs1 : List Loc), t.heap = H1 → s.vm.Alike t.vm → px u → BX E u t → H.size ≤ H1.size → (∀ q : Nat, q < H.size → ¬ AX q → H1[q]? = H[q]?) → va_S A0 H0 H1 locs1 → H1[q9]? = some ce → ce.vm = .none → s.vm.findClass E = some ce.cls → vx_W p l e R s m args below meth c H1 locs1 (cells + mc) (slots + ms) Q (F0 m pc ls rest) q9)
    (kk : ∀ (u : S) (t : State) (H1 : Heap) (locs1 : List Loc), t.heap = H1 → s.vm.Alike t.vm → post u → B u t → H.size ≤ H1.size → (∀ q : Nat, q < H.size → ¬ A1 q → H1[q]? = H[q]?) → va_S A0 H0 H1 locs1 → W p l e R s m args below meth c H1 locs1 (cells + mc) (slots + ms) Q (F0 m (pc + 3) ls (rest))) : W p l e R s m args below meth c H locs cells slots Q (F0 m pc ls st0) := by
  intro T hT X
  rcases hr T hT X with ⟨v, st₀, t, T', L, h0, X', hL, e1, e2, ⟨⟨u, hv, hp, hb⟩, hF⟩, st⟩ | ⟨q, st₀, t, T', L, E, ce, h0, X', hL, e1, e2, ⟨u, hp, hb, hF⟩, hce, hcv, hcl, st⟩
  · cases hv
    obtain ⟨k1, k2, k3⟩ := vx_keep h0 e1 hS hA hf hL hF
    obtain ⟨t2, a1, b1⟩ := kk u t T'.heap (locs ++ L) e1.symm (by rw [← e2]; exact X'.warmed.alike) hp hb k1 k2 k3 T' rfl X'
    exact ⟨t2, st t2 a1, b1⟩
  · obtain ⟨k1, k2, k3⟩ := vx_keep h0 e1 hS hAX hf hL hF
    obtain ⟨t2, a1, b1⟩ := kx E ce q u t T'.heap (locs ++ L) e1.symm (by rw [← e2]; exact X'.warmed.alike) hp hb k1 k2 k3 (by rw [e1]; exact hce) hcv hcl T' rfl X'
    exact ⟨t2, st.trans a1, b1⟩
end Rows
section Ends
variable {p : Program} {l : Launch} {e : Env} {R : Room} {s : State} {m : MethodId} {args : Array Value} {below : List Frame} {meth : Method} {c : Code} {H : Heap} {locs : List Loc} {cells slots : Nat} {Q : State → Prop}
variable {mc ms : Nat} {free : Addr → Prop} {A0 A1 : Nat → Prop} {H0 : Heap} {a : Array Value} {ls : Array Slot} {st0 rest : List Value}
variable {Qc : Array Value → State → Outcome → State → Prop} {XC : String → State → State → Prop}
/-- what a body that may throw owes at its end -/
def vx_MQ (below : List Frame) (Qc : Array Value → State → Outcome → State → Prop) (XC : String → State → State → Prop) (a : Array Value) (s : State) (mc ms : Nat) (free : Addr → Prop) : State → Prop := fun t =>
  ∃ o, t.status = .running ∧ Ended t below o ∧ vx_Q Qc XC mc ms free a s o t
theorem vx_ret {g : JFrame} {mc ms : Nat} (k : W p l e R s m args below meth c H locs cells slots (MQ below Qc args s mc ms free) g) : W p l e R s m args below meth c H locs cells slots (vx_MQ below Qc XC args s mc ms free) g := by
  intro T hT X
  obtain ⟨t, a1, o, b1, b2, b3, b4⟩ := k T hT X
  exact ⟨t, a1, o, b1, b2, Or.inl ⟨b3, b4⟩⟩
/-- not caught here: it goes on to the caller -/
theorem vx_widen {g : JFrame} {q : Addr} {k n : Nat} (h1 : cells ≤ k) (h2 : slots ≤ n) (kk : vx_W p l e R s m args below meth c H locs k n Q g q) : vx_W p l e R s m args below meth c H locs cells slots Q g q := fun T hT X => kk T hT (stand_widen X h1 h2)
theorem vx_out {pc : Nat} {E : String} {ce : Cell} {q : Addr} {mc ms : Nat} (hout : ∀ x ∈ c.exceptionTable.toList, covers x pc = false) (hlocks : meth.locks = false) (hcell : H[q]? = some ce) (hv : ce.vm = .none) (hcl : s.vm.findClass E = some ce.cls)
    (hx : ∀ t : State, t.heap = H → s.vm.Alike t.vm → XC E s t) (hf : ∀ z ∈ locs, free z.base) (hc : cells ≤ mc) (hs : slots ≤ ms) :
    vx_W p l e R s m args below meth c H locs cells slots (vx_MQ below Qc XC args s mc ms free) (F0 m pc ls rest) q := by
  intro T hT X
  obtain ⟨st1, hrun, hend, hW, hsm⟩ := X.leaveThrown q (g := F0 m pc ls rest) rfl rfl rfl hout hlocks
  have hcell9 : (T.setFrames (.throwing q :: below)).heap[q]? = some ce := by
    show T.heap[q]? = some ce
    rw [hT]; exact hcell
  exact ⟨_, st1, .threw q, hrun, hend, Or.inr ⟨q, rfl, E, ce, locs, hx _ hT hW.alike, hcell9, hv, hcl, hW, hsm.mono hc hs, hf⟩⟩
theorem vx_frame {U : State} {k n : Nat} (h : s.sameButNew ({ U with vm := s.vm } : State) locs k n) : s.heap.size ≤ U.heap.size ∧ ∀ q : Nat, q < s.heap.size → (∀ z ∈ locs, z.base ≠ q) → U.heap[q]? = s.heap[q]? := by
  obtain ⟨-, h2, -, -, -, h6⟩ := h
  refine ⟨h2, fun q hq hz => ?_⟩
  obtain ⟨c9, e1, e2, e3, e4⟩ := h6 q _ (Array.getElem?_eq_getElem hq)
  have hs : c9.slots = (s.heap[q]).slots := Array.ext_getElem? fun i => e4 i fun hm => hz _ hm rfl
  have h9 : c9 = s.heap[q] := by
    rw [hs] at e2
    exact e2
  have e5 : U.heap[q]? = some c9 := e1
  rw [e5, h9, Array.getElem?_eq_getElem hq]
/-- the words of a throw but the four that speak of the heap -/
def vx_no (w : Cond) : Bool := decide (w ≠ .isRef (.static Bundle.tN "UNASSIGNED_STACK" Bundle.steD)) && decide (w ≠ .isRef (.static Bundle.tN "SUPPRESSED_SENTINEL" Bundle.listD)) && decide (w ≠ .laysStatic Bundle.tN "UNASSIGNED_STACK" Bundle.steD) && decide (w ≠ .laysStatic Bundle.tN "SUPPRESSED_SENTINEL" Bundle.listD)
def vx_at0 (own : String) (ic : Nat) (X : String) (names : List String) : List Cond := (Bundle.ownAtoms0 own ic X names).filter vx_no
def vx_atS (own : String) (ic : Nat) (X : String) (names : List String) : List Cond := (Bundle.ownAtoms own ic X names).filter vx_no
/-- a word that the tables alone decide, or a good one -/
def vx_ot (w : Cond) : Bool := w.onTables || goodWord w
theorem vx_ot_at {args a' : Array Value} {s U : State} {w : Cond} (hW : s.WarmedH U.vm) (hvm : s.vm = U.vm) (hg : vx_ot w = true) (h : w.before args s = true) : w.before a' U = true := by
  simp only [vx_ot, Bool.or_eq_true] at hg
  rcases hg with hg | hg
  · exact va_tabs hg hvm h
  · exact word_at hW (good_of_word hg) h
/-- a list's words: the good ones out of the method's own list, the others by premises of their own -/
theorem vx_hat {args : Array Value} {s : State} {L B : List Cond} (h1 : ∀ w ∈ L.filter goodWord, w.before args s = true) (h2 : ∀ w ∈ L.filter (fun w => !goodWord w), w ∈ B) (h3 : ∀ w ∈ B, w.before args s = true) : ∀ w ∈ L, w.before args s = true := by
  intro w hw
  by_cases g : goodWord w = true
  · exact h1 w (List.mem_filter.mpr ⟨hw, g⟩)
  · refine h3 w (h2 w (List.mem_filter.mpr ⟨hw, ?_⟩))
    show (!goodWord w) = true
    cases hgw : goodWord w
    · rfl
    · exact absurd hgw g
theorem vx_c {args : Array Value} {s : State} {w : Cond} {B : List Cond} (h : w.before args s = true) (t : ∀ w ∈ B, w.before args s = true) : ∀ w' ∈ w :: B, w'.before args s = true := fun w' h' => (List.mem_cons.mp h').elim (fun e => by rw [e]; exact h) (t w')
theorem vx_n {args : Array Value} {s : State} : ∀ w ∈ ([] : List Cond), w.before args s = true := fun _ h => nomatch h
theorem vx_own {args : Array Value} {s : State} {L : List Cond} (h1 : ∀ w ∈ L.filter vx_no, w.before args s = true)
    (hU : (Cond.isRef (.static Bundle.tN "UNASSIGNED_STACK" Bundle.steD)).before args s = true) (hN : (Cond.isRef (.static Bundle.tN "SUPPRESSED_SENTINEL" Bundle.listD)).before args s = true)
    (lU : (Cond.laysStatic Bundle.tN "UNASSIGNED_STACK" Bundle.steD).before args s = true) (lN : (Cond.laysStatic Bundle.tN "SUPPRESSED_SENTINEL" Bundle.listD).before args s = true) : ∀ w ∈ L, w.before args s = true := by
  intro w hw
  by_cases e1 : w = .isRef (.static Bundle.tN "UNASSIGNED_STACK" Bundle.steD)
  · rw [e1]; exact hU
  · by_cases e2 : w = .isRef (.static Bundle.tN "SUPPRESSED_SENTINEL" Bundle.listD)
    · rw [e2]; exact hN
    · by_cases e3 : w = .laysStatic Bundle.tN "UNASSIGNED_STACK" Bundle.steD
      · rw [e3]; exact lU
      · by_cases e4 : w = .laysStatic Bundle.tN "SUPPRESSED_SENTINEL" Bundle.listD
        · rw [e4]; exact lN
        · exact h1 w (List.mem_filter.mpr ⟨hw, by unfold vx_no; rw [decide_eq_true e1, decide_eq_true e2, decide_eq_true e3, decide_eq_true e4]; rfl⟩)
/-- where a static field lies, its class's statics cell in H -/
def vx_L (C n d : String) (A : Nat → Prop) (U : State) (H : Heap) : Prop := ∃ (c : ClassId) (k : Class) (i : Nat) (f : Field) (a : Nat) (cell : Cell), U.vm.findClass C = some c ∧ U.fieldFound? C n d = some (c, k, i, f) ∧ f.isStatic = true ∧ k.statics = some a ∧ H[a]? = some cell ∧ cell.vm.isStatics = true ∧ cell.cls = c ∧ f.slot < cell.slots.size ∧ k.staticTypes[f.slot]? = some f.type ∧ ¬ A a
theorem vx_L.moved {C n d : String} {A : Nat → Prop} {u U : State} {H : Heap} (hvm : u.vm.Alike U.vm) (h : vx_L C n d A u H) : vx_L C n d A U H := by
  obtain ⟨c, k, i, f, a, cell, h1, h2, h3, h4, h5, h6, h7, h8, h9, h10⟩ := h
  obtain ⟨k', hi', he⟩ := State.fieldFound?_setVm hvm h2
  exact ⟨c, k', i, f, a, cell, by rw [hvm.findClass]; exact h1, hi', h3, by rw [he]; exact h4, h5, h6, h7, h8, by rw [he]; exact h9, h10⟩
theorem vx_L.kept {C n d : String} {A : Nat → Prop} {U : State} {H H1 : Heap} (h : vx_L C n d A U H) (hq : ∀ a : Nat, a < H.size → ¬ A a → H1[a]? = H[a]?) : vx_L C n d A U H1 := by
  obtain ⟨c, k, i, f, a, cell, h1, h2, h3, h4, h5, h6, h7, h8, h9, h10⟩ := h
  exact ⟨c, k, i, f, a, cell, h1, h2, h3, h4, by rw [hq a (Array.getElem?_eq_some_iff.mp h5).1 h10]; exact h5, h6, h7, h8, h9, h10⟩
theorem vx_L.narrow {C n d : String} {A B : Nat → Prop} {U : State} {H : Heap} (h : vx_L C n d A U H) (hAB : ∀ q, B q → A q) : vx_L C n d B U H := by
  obtain ⟨c, k, i, f, a, cell, h1, h2, h3, h4, h5, h6, h7, h8, h9, h10⟩ := h
  exact ⟨c, k, i, f, a, cell, h1, h2, h3, h4, h5, h6, h7, h8, h9, fun z => h10 (hAB _ z)⟩
theorem vx_L.word {C n d : String} {A : Nat → Prop} {s : State} {args : Array Value} (h : vx_L C n d A s s.heap) : (Cond.laysStatic C n d).before args s = true := by
  obtain ⟨c, k, i, f, a, cell, h1, h2, h3, h4, h5, h6, h7, h8, h9, -⟩ := h
  show (Cond.laysStatic C n d).holds args s none s [] = true
  exact Cond.laysStatic_of h1 h2 h3 h4 h5 h6 h7 h8 h9
/-- .. and what it holds: null or some reference -/
def vx_Zq (C n d : String) (A : Nat → Prop) (U : State) (H : Heap) : Prop := va_Zq C n d A U H ∧ vx_L C n d A U H
theorem vx_Zq.moved {C n d : String} {A : Nat → Prop} {u U : State} {H : Heap} (hvm : u.vm.Alike U.vm) (h : vx_Zq C n d A u H) : vx_Zq C n d A U H := ⟨va_Zq.moved hvm h.1, vx_L.moved hvm h.2⟩
theorem vx_Zq.kept {C n d : String} {A : Nat → Prop} {U : State} {H H1 : Heap} (h : vx_Zq C n d A U H) (hq : ∀ a : Nat, a < H.size → ¬ A a → H1[a]? = H[a]?) : vx_Zq C n d A U H1 := ⟨va_Zq.kept h.1 hq, vx_L.kept h.2 hq⟩
theorem vx_Zq.narrow {C n d : String} {A B : Nat → Prop} {U : State} {H : Heap} (h : vx_Zq C n d A U H) (hAB : ∀ q, B q → A q) : vx_Zq C n d B U H := ⟨va_Zq.narrow h.1 hAB, vx_L.narrow h.2 hAB⟩
theorem vx_Zqof {args : Array Value} {s : State} {C n d : String} {A : Nat → Prop} (hl : (Cond.laysStatic C n d).before args s = true) (hini : (Cond.initialized C).before args s = true) (h : (Cond.isRef (.static C n d)).before args s = true) (hA : ∀ a : Nat, a < s.heap.size → ¬ A a) : vx_Zq C n d A s s.heap := by
  refine ⟨va_Zqof hl hini h hA, ?_⟩
  obtain ⟨c, k, i, f, a, cell, h1, h2, h3, h4, h5, h6, h7, h8, h9⟩ := Cond.laysStatic_spec hl
  exact ⟨c, k, i, f, a, cell, h1, h2, h3, h4, h5, h6, h7, h8, h9, hA a (Array.getElem?_eq_some_iff.mp h5).1⟩
theorem vx_isRef {C n d : String} {v : Value} {A : Nat → Prop} {s : State} {args : Array Value} (h : va_Z C n d v A s s.heap) (hv : v.isRef = true) : (Cond.isRef (.static C n d)).before args s = true := by
  obtain ⟨cf, kf, fi, f, a, cell, h1, h2, h3, h4, h5, h6, h7, -⟩ := h
  have he : (Term.static C n d).eval args s none [] s = some v := by
    simp [Term.eval, State.fieldNamed?, h1, h2, h4, h5, h6, h7]
  simp only [Cond.before, Cond.holds, Cond.value, he]
  cases v <;> simp_all [Value.isRef]
theorem vx_isRefq {C n d : String} {A : Nat → Prop} {s : State} {args : Array Value} (h : va_Zq C n d A s s.heap) : (Cond.isRef (.static C n d)).before args s = true := by
  rcases h with h | ⟨t, h⟩
  · exact vx_isRef h rfl
  · exact vx_isRef h rfl
/-- the same frame, seen from here: as if the method were called anew in this heap -/
theorem vx_rebase {T : State} (X : Stand p l e R s m args below meth c T locs cells slots) {R' : Room} (hf : R'.frames ≤ R.frames) (hl : R'.locals ≤ R.locals) (hc : cells + R'.cells ≤ R.cells) (hs : slots + R'.slots ≤ R.slots) :
    Stand p l e R' ((T.setVm s.vm).setFrames (.invoking m args :: below)) m args below meth c T [] 0 0 := by
  have htop : (T.setVm s.vm).topJava?.isSome := X.here.top
  have hF : ((T.setVm s.vm).setFrames (.invoking m args :: below)).frames = .invoking m args :: below := State.frames_setFrames _ (State.cur_lt_of_top htop)
  obtain ⟨g₀, hg0⟩ := Option.isSome_iff_exists.mp htop
  obtain ⟨r, hr⟩ := State.topJava?_eq_some.mp hg0
  have hl9 : e.platform.stackLimits (T.setVm s.vm).me = e.platform.stackLimits s.me := X.limits
  have hb9 : (T.setVm s.vm).me.stackBytes = s.me.stackBytes := X.bytes
  refine ⟨X.admits, X.cas, X.clock, hF, ?_, X.hears, X.method, X.code, X.here, X.tail, X.warmed, ?_, ?_, ?_⟩
  · have h := X.room
    have hU : ((T.setVm s.vm).setFrames (.invoking m args :: below)).localsInUse = s.localsInUse := by
      rw [State.localsInUse_invoking hF (meth := meth) (c := c) X.method X.code, State.localsInUse_invoking X.frames X.method X.code]
    simp only [State.hasRoom, Bool.and_eq_true, decide_eq_true_eq] at h ⊢
    obtain ⟨⟨⟨⟨h1, h2, h3, h4, h5, h6⟩, h7⟩, h8⟩, h9⟩ := h
    rw [X.frames, List.length_cons] at h2 h3
    have q1 := X.heapSize
    have q2 := X.used
    simp only [hF, hU, List.length_cons, State.stackLimits_setFrames, State.stackBytes_setFrames, hl9, hb9]
    refine ⟨⟨⟨⟨by omega, by omega, by omega, by omega, by omega, h6⟩, ?_⟩, ?_⟩, X.book⟩
    · show T.heap.size + R'.cells ≤ e.platform.maxCells
      omega
    · show T.slotsUsed + R'.slots ≤ e.platform.maxSlots
      omega
  · rw [State.stackLimits_setFrames]; rfl
  · rw [State.stackBytes_setFrames]; rfl
  · refine ⟨?_, Nat.le_refl _, Nat.le_refl _, ?_, ?_, fun a c9 h9 => ⟨c9, h9, rfl, rfl, fun _ _ => rfl⟩⟩
    · obtain ⟨t, ht, -⟩ := State.frames_cons hr
      show T.setVm s.vm = { ((T.setVm s.vm).setFrames (.invoking m args :: below)).setFrames (T.setVm s.vm).frames with heap := T.heap, slotsUsed := T.slotsUsed }
      rw [State.setFrames_setFrames, State.setFrames_self ht]
      rfl
    · show T.slotsUsed = T.slotsUsed + ((T.heap.toList.drop T.heap.size).map (·.slots.size)).sum
      rw [List.drop_eq_nil_of_le (Nat.le_of_eq Array.length_toList)]
      rfl
    · show ((T.heap.toList.drop T.heap.size).map (·.slots.size)).sum ≤ 0
      rw [List.drop_eq_nil_of_le (Nat.le_of_eq Array.length_toList)]
      exact Nat.le_refl _
/-- 'throw new E()': new; dup; invokespecial; athrow -/
theorem vx_throw0 {cc : ByteArray} {pc : Nat} (hexec : p.tables.exec = Jvm.exec) (hb : c.code = cc) (hl : l.stackTraces = false) {own cls : String} {names : List String} {ik ic mc ms : Nat} {A : Nat → Prop}
    (hown : s.vm.findClass own = some m.cls) (hcls : Bundle.fit cls = true) (hnames : ∀ n ∈ names, Bundle.fit n = true)
    (hk : (Cond.classLink own ik cls).before args s = true) (hini : (Cond.initialized cls).before args s = true) (hat : ∀ w ∈ vx_at0 own ic cls names, w.before args s = true)
    (hgood : ∀ w ∈ Cond.classLink own ik cls :: Cond.initialized cls :: vx_at0 own ic cls names, vx_ot w = true)
    (hU : vx_Zq Bundle.tN "UNASSIGNED_STACK" Bundle.steD A s s.heap) (hN : vx_Zq Bundle.tN "SUPPRESSED_SENTINEL" Bundle.listD A s s.heap) (hS : va_S A s.heap H locs) (hsize : ls.size = c.maxLocals)
    (d0 : decode cc pc = .ok (.new ik, 3)) (d3 : decode cc (pc + 3) = .ok (.dup, 1)) (d4 : decode cc (pc + 4) = .ok (.invokespecial ic, 3)) (d7 : decode cc (pc + 7) = .ok (.athrow, 1))
    (hout : ∀ x ∈ c.exceptionTable.toList, covers x (pc + 7) = false)
    (hRframes : names.length + 3 < R.frames) (hRlocals : (rest.map fun v => v.category).sum + (13 * (names.length + 1) + 42) ≤ R.locals) (hRcells : cells + 1 ≤ R.cells) (hRslots : slots + 6 ≤ R.slots) (hlocks : meth.locks = false)
    (hx : ∀ t : State, s.vm.Alike t.vm → H.size ≤ t.heap.size → (∀ q : Nat, q < H.size → t.heap[q]? = H[q]?) → XC cls s t)
    (hf : ∀ z ∈ locs, free z.base) (hc : cells + 1 ≤ mc) (hs : slots + 6 ≤ ms) :
    W p l e R s m args below meth c H locs cells slots (vx_MQ below Qc XC args s mc ms free) (F0 m pc ls rest) := by
  intro T hT X
  have htr : e.platform.stackTraces = false := (show e.platform.stackTraces = l.stackTraces by rw [X.admits.platform]).trans hl
  have Y := vx_rebase X (R' := { frames := R.frames, locals := R.locals, cells := 1, slots := 6 }) (Nat.le_refl _) (Nat.le_refl _) hRcells hRslots
  obtain ⟨s', hA⟩ : ∃ z, z = (T.setVm s.vm).setFrames (.invoking m args :: below) := ⟨_, rfl⟩
  rw [← hA] at Y
  have hvm : s'.vm = s.vm := by rw [hA]; rfl
  have hhp : s'.heap = H := by rw [hA]; exact hT
  have hW0 : s.WarmedH s'.vm := by rw [hvm]; exact State.WarmedH.refl s
  have hat' : ∀ w ∈ vx_at0 own ic cls names, w.before args s' = true := fun w hw => vx_ot_at hW0 hvm.symm (hgood w (List.mem_cons_of_mem _ (List.mem_cons_of_mem _ hw))) (hat w hw)
  have hk' : (Cond.classLink own ik cls).before args s' = true := vx_ot_at hW0 hvm.symm (hgood _ List.mem_cons_self) hk
  have hini' : (Cond.initialized cls).before args s' = true := vx_ot_at hW0 hvm.symm (hgood _ (List.mem_cons_of_mem _ List.mem_cons_self)) hini
  have hU' : vx_Zq Bundle.tN "UNASSIGNED_STACK" Bundle.steD A s' s'.heap := by rw [hhp]; exact vx_Zq.moved hW0.alike (hU.kept hS.2.1)
  have hN' : vx_Zq Bundle.tN "SUPPRESSED_SENTINEL" Bundle.listD A s' s'.heap := by rw [hhp]; exact vx_Zq.moved hW0.alike (hN.kept hS.2.1)
  have h : ∀ w ∈ Bundle.ownAtoms0 own ic cls names, w.before args s' = true := vx_own hat' (vx_isRefq hU'.1) (vx_isRefq hN'.1) hU'.2.word hN'.2.word
  have hown' : s'.vm.findClass own = some m.cls := by rw [hvm]; exact hown
  have hins : (Cond.instantiable cls 6).before args s' = true := h _ (by simp [Bundle.ownAtoms0])
  obtain ⟨vm₁, cX, kX, hfX, hkX, -, -, X₁, st1⟩ := Y.newCold hexec (own := own) (C := cls) (index := ik) (n := 6) hown' hk' hins hini'
    (g := F0 m pc ls rest) rfl (by rw [hb]; exact d0) (Nat.le_refl _) (Nat.le_refl _)
  generalize hT1 : (T.setVm vm₁).pushCell { cls := cX, slots := kX.instanceTypes.map defaultValue, vm := .none } = T1 at X₁ st1
  have hcat : (Value.ref T.heap.size).category = 1 := rfl
  have hcellA : T1.heap[T.heap.size]? = some (freshCell cX kX) := by rw [← hT1]; exact State.heap_pushCell_size _ _
  have d3' : decode c.code (pc + 3) = .ok (.dup, 1) := by rw [hb]; exact d3
  obtain ⟨U, hsteps, hrun, hend, hW, hsame, ce, hce, hO⟩ := X₁.ctorThrow0 hexec htr (own := own) (cls := cls) (names := names) (ic := ic) hown' hcls hnames h (fun x hx => nomatch hx) hfX hkX hcellA (by rw [hhp, hT]; exact Nat.le_refl _)
    (g := { method := m, pc := pc + 4, locals := ls, stack := .ref T.heap.size :: .ref T.heap.size :: rest, locked := none }) rfl hsize rfl rfl (rest := rest) rfl
    (by rw [hb]; exact d4) (by rw [hb]; exact d7) hout hRframes (by simp only [List.map_cons, List.sum_cons, hcat]; omega) hlocks
  obtain ⟨f1, f2⟩ := vx_frame hsame
  rw [hhp] at f1 f2
  have hWs : s.WarmedH U.vm := State.WarmedH.trans hW0 hW
  have hcl : s.vm.findClass cls = some ce.cls := by
    have h9 := hO.cls
    rw [hvm] at h9
    exact h9
  have hall : s.sameButNew ({ U with vm := s.vm } : State) locs mc ms := by
    subst hA
    obtain ⟨e1, e2⟩ := hsame
    rw [State.setFrames_setFrames] at e1
    have h2 : (T.setVm s.vm).sameButNew ({ U with vm := s.vm } : State) [] (0 + 1) (0 + 6) := ⟨e1, e2⟩
    have h3 := X.same.trans h2
    rw [List.append_nil] at h3
    exact h3.mono hc hs
  refine ⟨U, ?_, .threw T.heap.size, hrun, hend, Or.inr ⟨T.heap.size, rfl, cls, ce, locs, hx U hWs.alike f1 (fun q hq => f2 q hq (fun z hz => nomatch hz)), hce, hO.vm, hcl, hWs, hall, hf⟩⟩
  refine st1 _ ?_
  show Steps p.tables e below (T1.setTop { method := m, pc := pc + 3, locals := ls, stack := .ref T.heap.size :: rest, locked := none }) _
  jvm_step X₁.here [X₁.here.top, hexec, d3', Value.category]
  exact hsteps
/-- 'throw new E("text")': new; dup; ldc; invokespecial; athrow -/
theorem vx_throwS {cc : ByteArray} {pc : Nat} (hexec : p.tables.exec = Jvm.exec) (hb : c.code = cc) (hl : l.stackTraces = false) {own cls text : String} {names : List String} {ik is ic mc ms sa : Nat} {A : Nat → Prop}
    (hown : s.vm.findClass own = some m.cls) (hcls : Bundle.fit cls = true) (hnames : ∀ n ∈ names, Bundle.fit n = true)
    (hk : (Cond.classLink own ik cls).before args s = true) (hini : (Cond.initialized cls).before args s = true) (hstr : vk_R own is text sa s) (hat : ∀ w ∈ vx_atS own ic cls names, w.before args s = true)
    (hgood : ∀ w ∈ Cond.classLink own ik cls :: Cond.initialized cls :: vx_atS own ic cls names, vx_ot w = true)
    (hU : vx_Zq Bundle.tN "UNASSIGNED_STACK" Bundle.steD A s s.heap) (hN : vx_Zq Bundle.tN "SUPPRESSED_SENTINEL" Bundle.listD A s s.heap) (hS : va_S A s.heap H locs) (hsize : ls.size = c.maxLocals)
    (d0 : decode cc pc = .ok (.new ik, 3)) (d3 : decode cc (pc + 3) = .ok (.dup, 1)) (d4 : decode cc (pc + 4) = .ok (.ldc is, 2)) (d6 : decode cc (pc + 6) = .ok (.invokespecial ic, 3)) (d9 : decode cc (pc + 9) = .ok (.athrow, 1))
    (hout : ∀ x ∈ c.exceptionTable.toList, covers x (pc + 9) = false)
    (hRframes : names.length + 3 < R.frames) (hRlocals : (rest.map fun v => v.category).sum + (13 * (names.length + 1) + 43) ≤ R.locals) (hRcells : cells + 1 ≤ R.cells) (hRslots : slots + 6 ≤ R.slots) (hlocks : meth.locks = false)
    (hx : ∀ t : State, s.vm.Alike t.vm → H.size ≤ t.heap.size → (∀ q : Nat, q < H.size → t.heap[q]? = H[q]?) → XC cls s t)
    (hf : ∀ z ∈ locs, free z.base) (hc : cells + 1 ≤ mc) (hs : slots + 6 ≤ ms) :
    W p l e R s m args below meth c H locs cells slots (vx_MQ below Qc XC args s mc ms free) (F0 m pc ls rest) := by
  intro T hT X
  have htr : e.platform.stackTraces = false := (show e.platform.stackTraces = l.stackTraces by rw [X.admits.platform]).trans hl
  have Y := vx_rebase X (R' := { frames := R.frames, locals := R.locals, cells := 1, slots := 6 }) (Nat.le_refl _) (Nat.le_refl _) hRcells hRslots
  obtain ⟨s', hA⟩ : ∃ z, z = (T.setVm s.vm).setFrames (.invoking m args :: below) := ⟨_, rfl⟩
  rw [← hA] at Y
  have hvm : s'.vm = s.vm := by rw [hA]; rfl
  have hhp : s'.heap = H := by rw [hA]; exact hT
  have hW0 : s.WarmedH s'.vm := by rw [hvm]; exact State.WarmedH.refl s
  have hat' : ∀ w ∈ vx_atS own ic cls names, w.before args s' = true := fun w hw => vx_ot_at hW0 hvm.symm (hgood w (List.mem_cons_of_mem _ (List.mem_cons_of_mem _ hw))) (hat w hw)
  have hk' : (Cond.classLink own ik cls).before args s' = true := vx_ot_at hW0 hvm.symm (hgood _ List.mem_cons_self) hk
  have hini' : (Cond.initialized cls).before args s' = true := vx_ot_at hW0 hvm.symm (hgood _ (List.mem_cons_of_mem _ List.mem_cons_self)) hini
  have hU' : vx_Zq Bundle.tN "UNASSIGNED_STACK" Bundle.steD A s' s'.heap := by rw [hhp]; exact vx_Zq.moved hW0.alike (hU.kept hS.2.1)
  have hN' : vx_Zq Bundle.tN "SUPPRESSED_SENTINEL" Bundle.listD A s' s'.heap := by rw [hhp]; exact vx_Zq.moved hW0.alike (hN.kept hS.2.1)
  have h : ∀ w ∈ Bundle.ownAtoms own ic cls names, w.before args s' = true := vx_own hat' (vx_isRefq hU'.1) (vx_isRefq hN'.1) hU'.2.word hN'.2.word
  have hown' : s'.vm.findClass own = some m.cls := by rw [hvm]; exact hown
  have hins : (Cond.instantiable cls 6).before args s' = true := h _ (by simp [Bundle.ownAtoms])
  obtain ⟨vm₁, cX, kX, hfX, hkX, -, -, X₁, st1⟩ := Y.newCold hexec (own := own) (C := cls) (index := ik) (n := 6) hown' hk' hins hini'
    (g := F0 m pc ls rest) rfl (by rw [hb]; exact d0) (Nat.le_refl _) (Nat.le_refl _)
  generalize hT1 : (T.setVm vm₁).pushCell { cls := cX, slots := kX.instanceTypes.map defaultValue, vm := .none } = T1 at X₁ st1
  have hcat : (Value.ref T.heap.size).category = 1 := rfl
  have hcellA : T1.heap[T.heap.size]? = some (freshCell cX kX) := by rw [← hT1]; exact State.heap_pushCell_size _ _
  have d3' : decode c.code (pc + 3) = .ok (.dup, 1) := by rw [hb]; exact d3
  have d4' : decode c.code (pc + 4) = .ok (.ldc is, 2) := by rw [hb]; exact d4
  have hstr' : vk_R own is text sa s' := vk_R.warm hW0 hstr
  obtain ⟨U, hsteps, hrun, hend, hW, hsame, ce, hce, hO⟩ := X₁.ctorThrowS hexec htr (own := own) (cls := cls) (names := names) (ic := ic) hown' hcls hnames h (fun x hx => nomatch hx) hfX hkX hcellA (by rw [hhp, hT]; exact Nat.le_refl _) (msg := .ref sa) rfl
    (g := { method := m, pc := pc + 6, locals := ls, stack := .ref sa :: .ref T.heap.size :: .ref T.heap.size :: rest, locked := none }) rfl hsize rfl rfl (rest := rest) rfl
    (by rw [hb]; exact d6) (by rw [hb]; exact d9) hout hRframes (by simp only [List.map_cons, List.sum_cons, hcat]; omega) hlocks
  obtain ⟨f1, f2⟩ := vx_frame hsame
  rw [hhp] at f1 f2
  have hWs : s.WarmedH U.vm := State.WarmedH.trans hW0 hW
  have hcl : s.vm.findClass cls = some ce.cls := by
    have h9 := hO.cls
    rw [hvm] at h9
    exact h9
  have hall : s.sameButNew ({ U with vm := s.vm } : State) locs mc ms := by
    subst hA
    obtain ⟨e1, e2⟩ := hsame
    rw [State.setFrames_setFrames] at e1
    have h2 : (T.setVm s.vm).sameButNew ({ U with vm := s.vm } : State) [] (0 + 1) (0 + 6) := ⟨e1, e2⟩
    have h3 := X.same.trans h2
    rw [List.append_nil] at h3
    exact h3.mono hc hs
  refine ⟨U, ?_, .threw T.heap.size, hrun, hend, Or.inr ⟨T.heap.size, rfl, cls, ce, locs, hx U hWs.alike f1 (fun q hq => f2 q hq (fun z hz => nomatch hz)), hce, hO.vm, hcl, hWs, hall, hf⟩⟩
  refine st1 _ ?_
  show Steps p.tables e below (T1.setTop { method := m, pc := pc + 3, locals := ls, stack := .ref T.heap.size :: rest, locked := none }) _
  jvm_step X₁.here [X₁.here.top, hexec, d3', Value.category]
  exact X₁.ldcString hexec (own := own) (text := text) (index := is) (a := sa) hown' hstr'.1 hstr'.2
    (g := { method := m, pc := pc + 4, locals := ls, stack := .ref T.heap.size :: .ref T.heap.size :: rest, locked := none }) rfl d4' _ hsteps
/-- 'throw new E("text")', the text by a wide index -/
theorem vx_throwSW {cc : ByteArray} {pc : Nat} (hexec : p.tables.exec = Jvm.exec) (hb : c.code = cc) (hl : l.stackTraces = false) {own cls text : String} {names : List String} {ik is ic mc ms sa : Nat} {A : Nat → Prop}
    (hown : s.vm.findClass own = some m.cls) (hcls : Bundle.fit cls = true) (hnames : ∀ n ∈ names, Bundle.fit n = true)
    (hk : (Cond.classLink own ik cls).before args s = true) (hini : (Cond.initialized cls).before args s = true) (hstr : vk_R own is text sa s) (hat : ∀ w ∈ vx_atS own ic cls names, w.before args s = true)
    (hgood : ∀ w ∈ Cond.classLink own ik cls :: Cond.initialized cls :: vx_atS own ic cls names, vx_ot w = true)
    (hU : vx_Zq Bundle.tN "UNASSIGNED_STACK" Bundle.steD A s s.heap) (hN : vx_Zq Bundle.tN "SUPPRESSED_SENTINEL" Bundle.listD A s s.heap) (hS : va_S A s.heap H locs) (hsize : ls.size = c.maxLocals)
    (d0 : decode cc pc = .ok (.new ik, 3)) (d3 : decode cc (pc + 3) = .ok (.dup, 1)) (d4 : decode cc (pc + 4) = .ok (.ldc_w is, 3)) (d7 : decode cc (pc + 7) = .ok (.invokespecial ic, 3)) (d10 : decode cc (pc + 10) = .ok (.athrow, 1))
    (hout : ∀ x ∈ c.exceptionTable.toList, covers x (pc + 10) = false)
    (hRframes : names.length + 3 < R.frames) (hRlocals : (rest.map fun v => v.category).sum + (13 * (names.length + 1) + 43) ≤ R.locals) (hRcells : cells + 1 ≤ R.cells) (hRslots : slots + 6 ≤ R.slots) (hlocks : meth.locks = false)
    (hx : ∀ t : State, s.vm.Alike t.vm → H.size ≤ t.heap.size → (∀ q : Nat, q < H.size → t.heap[q]? = H[q]?) → XC cls s t)
    (hf : ∀ z ∈ locs, free z.base) (hc : cells + 1 ≤ mc) (hs : slots + 6 ≤ ms) :
    W p l e R s m args below meth c H locs cells slots (vx_MQ below Qc XC args s mc ms free) (F0 m pc ls rest) := by
  intro T hT X
  have htr : e.platform.stackTraces = false := (show e.platform.stackTraces = l.stackTraces by rw [X.admits.platform]).trans hl
  have Y := vx_rebase X (R' := { frames := R.frames, locals := R.locals, cells := 1, slots := 6 }) (Nat.le_refl _) (Nat.le_refl _) hRcells hRslots
  obtain ⟨s', hA⟩ : ∃ z, z = (T.setVm s.vm).setFrames (.invoking m args :: below) := ⟨_, rfl⟩
  rw [← hA] at Y
  have hvm : s'.vm = s.vm := by rw [hA]; rfl
  have hhp : s'.heap = H := by rw [hA]; exact hT
  have hW0 : s.WarmedH s'.vm := by rw [hvm]; exact State.WarmedH.refl s
  have hat' : ∀ w ∈ vx_atS own ic cls names, w.before args s' = true := fun w hw => vx_ot_at hW0 hvm.symm (hgood w (List.mem_cons_of_mem _ (List.mem_cons_of_mem _ hw))) (hat w hw)
  have hk' : (Cond.classLink own ik cls).before args s' = true := vx_ot_at hW0 hvm.symm (hgood _ List.mem_cons_self) hk
  have hini' : (Cond.initialized cls).before args s' = true := vx_ot_at hW0 hvm.symm (hgood _ (List.mem_cons_of_mem _ List.mem_cons_self)) hini
  have hU' : vx_Zq Bundle.tN "UNASSIGNED_STACK" Bundle.steD A s' s'.heap := by rw [hhp]; exact vx_Zq.moved hW0.alike (hU.kept hS.2.1)
  have hN' : vx_Zq Bundle.tN "SUPPRESSED_SENTINEL" Bundle.listD A s' s'.heap := by rw [hhp]; exact vx_Zq.moved hW0.alike (hN.kept hS.2.1)
  have h : ∀ w ∈ Bundle.ownAtoms own ic cls names, w.before args s' = true := vx_own hat' (vx_isRefq hU'.1) (vx_isRefq hN'.1) hU'.2.word hN'.2.word
  have hown' : s'.vm.findClass own = some m.cls := by rw [hvm]; exact hown
  have hins : (Cond.instantiable cls 6).before args s' = true := h _ (by simp [Bundle.ownAtoms])
  obtain ⟨vm₁, cX, kX, hfX, hkX, -, -, X₁, st1⟩ := Y.newCold hexec (own := own) (C := cls) (index := ik) (n := 6) hown' hk' hins hini'
    (g := F0 m pc ls rest) rfl (by rw [hb]; exact d0) (Nat.le_refl _) (Nat.le_refl _)
  generalize hT1 : (T.setVm vm₁).pushCell { cls := cX, slots := kX.instanceTypes.map defaultValue, vm := .none } = T1 at X₁ st1
  have hcat : (Value.ref T.heap.size).category = 1 := rfl
  have hcellA : T1.heap[T.heap.size]? = some (freshCell cX kX) := by rw [← hT1]; exact State.heap_pushCell_size _ _
  have d3' : decode c.code (pc + 3) = .ok (.dup, 1) := by rw [hb]; exact d3
  have d4' : decode c.code (pc + 4) = .ok (.ldc_w is, 3) := by rw [hb]; exact d4
  have hstr' : vk_R own is text sa s' := vk_R.warm hW0 hstr
  obtain ⟨U, hsteps, hrun, hend, hW, hsame, ce, hce, hO⟩ := X₁.ctorThrowS hexec htr (own := own) (cls := cls) (names := names) (ic := ic) hown' hcls hnames h (fun x hx => nomatch hx) hfX hkX hcellA (by rw [hhp, hT]; exact Nat.le_refl _) (msg := .ref sa) rfl
    (g := { method := m, pc := pc + 7, locals := ls, stack := .ref sa :: .ref T.heap.size :: .ref T.heap.size :: rest, locked := none }) rfl hsize rfl rfl (rest := rest) rfl
    (by rw [hb]; exact d7) (by rw [hb]; exact d10) hout hRframes (by simp only [List.map_cons, List.sum_cons, hcat]; omega) hlocks
  obtain ⟨f1, f2⟩ := vx_frame hsame
  rw [hhp] at f1 f2
  have hWs : s.WarmedH U.vm := State.WarmedH.trans hW0 hW
  have hcl : s.vm.findClass cls = some ce.cls := by
    have h9 := hO.cls
    rw [hvm] at h9
    exact h9
  have hall : s.sameButNew ({ U with vm := s.vm } : State) locs mc ms := by
    subst hA
    obtain ⟨e1, e2⟩ := hsame
    rw [State.setFrames_setFrames] at e1
    have h2 : (T.setVm s.vm).sameButNew ({ U with vm := s.vm } : State) [] (0 + 1) (0 + 6) := ⟨e1, e2⟩
    have h3 := X.same.trans h2
    rw [List.append_nil] at h3
    exact h3.mono hc hs
  refine ⟨U, ?_, .threw T.heap.size, hrun, hend, Or.inr ⟨T.heap.size, rfl, cls, ce, locs, hx U hWs.alike f1 (fun q hq => f2 q hq (fun z hz => nomatch hz)), hce, hO.vm, hcl, hWs, hall, hf⟩⟩
  refine st1 _ ?_
  show Steps p.tables e below (T1.setTop { method := m, pc := pc + 3, locals := ls, stack := .ref T.heap.size :: rest, locked := none }) _
  jvm_step X₁.here [X₁.here.top, hexec, d3', Value.category]
  exact X₁.ldcStringW hexec (own := own) (text := text) (index := is) (a := sa) hown' hstr'.1 hstr'.2
    (g := { method := m, pc := pc + 4, locals := ls, stack := .ref T.heap.size :: .ref T.heap.size :: rest, locked := none }) rfl d4' _ hsteps
end Ends
section Bodies
variable {l : Launch}
theorem vx_ofW {y : MethodName} {ws ws' : List Cond} {rm : Room} {Pc : Array Value → State → Prop} {Qc : Array Value → State → Outcome → State → Prop} {XC : String → State → State → Prop} {mc ms : Nat} {free : Addr → Prop} {cc : ByteArray} {maxL : Nat} {ret : Option FieldType}
    (hy : plainName y.cls = true) (hw : ws = Cond.code y cc maxL ret :: ws')
    (body : ∀ p e s m args below meth c s₁, BodyLoose p l y (headSpec ws rm) cc maxL ret e s m args below meth c s₁ → c.maxLocals = maxL → (∀ x ∈ c.exceptionTable.toList, False) → Pc args s →
      W p l e (headSpec ws rm).room s m args below meth c s.heap [] 0 0 (vx_MQ below Qc XC args s mc ms free) (entryFrame m args maxL)) : vx_Met l y ws rm Pc Qc XC mc ms free := by
  refine MetFree.of_bodyS (code := cc) (maxLocals := maxL) (ret := ret) hy ?_ ?_
  · intro args s m h hn
    obtain ⟨meth, c, h1, h2, h3, h4, h5, h6, -, -⟩ := Cond.code_spec hn (atoms_spec (ws := ws) h _ (by rw [hw]; exact List.mem_cons_self))
    exact ⟨meth, c, h1, h2, h3, h4, h5, h6⟩
  · intro p e s m args below meth c s₁ B hml hP _
    have hh0 : s₁.heap = s.heap := by rw [B.state]; rfl
    have ht : ∀ x ∈ c.exceptionTable.toList, False := by
      obtain ⟨meth9, c9, h1, h2, -, -, -, -, h7, -⟩ := Cond.code_spec B.named (atoms_spec (ws := ws) B.pre _ (by rw [hw]; exact List.mem_cons_self))
      cases Option.some.inj (h1.symm.trans B.method)
      cases Option.some.inj (h2.symm.trans (Stand.of_body B).code)
      intro x hx
      rw [Array.isEmpty_iff.mp h7] at hx
      cases hx
    obtain ⟨t, a1, o, b1, b2, b3⟩ := body p e s m args below meth c s₁ B hml ht hP s₁ hh0 (Stand.of_body B)
    exact ⟨t, o, a1, b1, b2, b3⟩
/-- the table of a body with handlers -/
theorem vx_table {p : Program} {x y : MethodName} {S : Spec} {cc bytes : ByteArray} {maxL maxL' : Nat} {ret ret' : Option FieldType} {e : Env} {s s₁ : State} {m : MethodId} {args : Array Value} {below : List Frame} {meth : Method} {c : Code} {hh : List (Nat × Nat × Nat × Nat)}
    (B : BodyLoose p l y S cc maxL ret e s m args below meth c s₁) (h : (Cond.codeWith y bytes maxL' ret' hh).before args s = true) : c.exceptionTable.toList = tableOf hh := by
  obtain ⟨m9, meth9, c9, hn9, h1, h2, -, -, h6, -⟩ := Cond.codeWith_spec h
  cases Option.some.inj (hn9.symm.trans B.named)
  cases Option.some.inj (h1.symm.trans B.method)
  cases Option.some.inj (h2.symm.trans (Stand.of_body B).code)
  rw [← h6, table_eq]
end Bodies
end VXA
/-! ===== END ===== -/
/-! ===== BEGIN a static call of a method with an exception table ===== -/
section VXS
variable {p : Program} {l : Launch} {e : Env} {R : Room} {s : State} {m : MethodId} {args : Array Value} {below : List Frame} {meth : Method} {c : Code} {T : State} {H : Heap} {locs : List Loc} {cells slots : Nat}
abbrev vx_CSW (R : Room) (s : State) (args : Array Value) (own : String) (index : Nat) (y : MethodName) (bytes : ByteArray) (maxL : Nat) (ret : Option FieldType) (hh : List (Nat × Nat × Nat × Nat)) (ws : List Cond) (rm : Room) (mc ms n : Nat) : Prop :=
  (rm.cells = mc ∧ rm.slots = ms ∧ rm.frames + 1 ≤ R.frames ∧ 8 + (maxL + 11) + rm.locals ≤ R.locals ∧ (∀ w ∈ ws, ∀ (a' : Array Value) (U : State), s.WarmedH U.vm → w.before a' U = true) ∧ Cond.codeWith y bytes maxL ret hh ∈ ws) ∧
  (Cond.codeWith y bytes maxL ret hh).before args s = true ∧ (Cond.initialized y.cls).before args s = true ∧ (y.cls ≠ "java/lang/invoke/MethodHandle" ∧ y.cls ≠ "java/lang/invoke/VarHandle") ∧
  (∀ sig, parseMethodDescriptor y.desc = some sig → n = sig.parameters.length) ∧ (Cond.methodLink own index y).before args s = true ∧ (Cond.static y).before args s = true
theorem vx_cwSW {own : String} {index maxL mc ms : Nat} {y : MethodName} {bytes : ByteArray} {ret : Option FieldType} {hh : List (Nat × Nat × Nat × Nat)} {Ts ws ws' : List Cond} {rm : Room} (n : Nat) (ht : ∀ w ∈ Ts, w.before args s = true) (hT : GoodIn Ts (va_wsS own index y ws)) (hw : ws = Cond.codeWith y bytes maxL ret hh :: ws') (hrc : rm.cells = mc) (hrs : rm.slots = ms)
    (hd : y.cls ≠ "java/lang/invoke/MethodHandle" ∧ y.cls ≠ "java/lang/invoke/VarHandle" ∧ (parseMethodDescriptor y.desc).map (fun d => d.parameters.length) = some n) (hR : rm.frames + 1 ≤ R.frames ∧ 8 + (maxL + 11) + rm.locals ≤ R.locals) :
    vx_CSW R s args own index y bytes maxL ret hh ws rm mc ms n := by
  have ok : ∀ w ∈ va_wsS own index y ws, w.before args s = true := fun w h => ht w (hT w h).1
  have hG : GoodIn Ts ws := fun w h => hT w (by unfold va_wsS; exact List.mem_append_right _ h)
  have hc : Cond.codeWith y bytes maxL ret hh ∈ ws := by rw [hw]; exact List.mem_cons_self
  refine ⟨⟨hrc, hrs, hR.1, hR.2, pay_in ht hG, hc⟩, ht _ (hG _ hc).1, ok _ (by simp [va_wsS]), ⟨hd.1, hd.2.1⟩, fun sig h => ?_, ok _ (by simp [va_wsS]), ok _ (by simp [va_wsS])⟩
  have h2 := hd.2.2
  rw [h] at h2
  exact (Option.some.inj h2).symm
theorem vx_callSW (X : Stand p l e R s m args below meth c T locs cells slots) (hexec : p.tables.exec = Jvm.exec) {own : String} {index : Nat} {y : MethodName} {bytes : ByteArray} {maxL : Nat} {ret : Option FieldType} {hh : List (Nat × Nat × Nat × Nat)}
    (hown : s.vm.findClass own = some m.cls) (hlink : (Cond.methodLink own index y).before args s = true) (hstat : (Cond.static y).before args s = true) (hinit : (Cond.initialized y.cls).before args s = true)
    (hcode : (Cond.codeWith y bytes maxL ret hh).before args s = true) (hy : y.cls ≠ "java/lang/invoke/MethodHandle" ∧ y.cls ≠ "java/lang/invoke/VarHandle")
    {W9 : Nat} {Pre : Pt → Array Value → Prop} {Post : Pt → Array Value → Option Value → Pt → Prop} (hK : Back l R p e below s args y 3 W9 Pre Post)
    {g : JFrame} (hg : g.method = m) (hsize : g.locals.size = c.maxLocals) {argsL rest : List Value} (hlen : ∀ sig, parseMethodDescriptor y.desc = some sig → argsL.length = sig.parameters.length)
    (hstack : g.stack = argsL.reverse ++ rest) (hW : 2 * g.monitorRoom + (rest.map fun v => v.category).sum ≤ W9) (hdg : decode c.code g.pc = .ok (.invokestatic index, 3))
    (hpre : ∀ vm₁, s.WarmedH vm₁ → Pre ⟨T.setVm vm₁, locs, cells, slots⟩ argsL.toArray) :
    ∃ (v : Option Value) (vm₁ : Vm) (B : Pt), s.WarmedH vm₁ ∧ Stand p l e R s m args below meth c B.U B.locs B.cells B.slots ∧ Post ⟨T.setVm vm₁, locs, cells, slots⟩ argsL.toArray v B ∧
      ∀ target, Steps p.tables e below (B.U.setTop { g with pc := g.pc + 3, stack := v.toList ++ rest }) target → Steps p.tables e below (T.setTop g) target := by
  obtain ⟨mk, methM, cM, hnamed, hmethM, -, -, -, -, -, -, hsigM⟩ := Cond.codeWith_spec hcode
  have hstatic : methM.isStatic = true := Cond.static_spec hnamed hmethM hstat
  obtain ⟨kP, hkP, -⟩ := className_of_methodNamed hnamed
  have hinitP : kP.init = .initialized := Cond.initialized_spec (findClass_of_methodNamed hnamed) hkP hinit
  obtain ⟨vm₁, X₁, hstep₁⟩ := X.invokestatic hexec hown hlink hnamed hmethM hstatic hkP hinitP hy (g := g) hg (argsL := argsL) (rest := rest) (hlen _ hsigM) hstack hdg
  obtain ⟨v, B, X', hpost, hsteps⟩ := hK m meth c ⟨T.setVm vm₁, locs, cells, slots⟩ { g with stack := rest } (.invokestatic index) mk argsL.toArray X₁ hg hsize hdg hW (X₁.named hnamed) (hpre vm₁ X₁.warmed)
  exact ⟨v, vm₁, B, X₁.warmed, X', hpost, fun target h => hstep₁ _ fun acts => by rw [doInvoke_state]; exact hsteps.trans h⟩
theorem vx_runSW {y : MethodName} {bytes cc : ByteArray} {maxL nL mc ms n index : Nat} {ret : Option FieldType} {hh : List (Nat × Nat × Nat × Nat)} {ws : List Cond} {rm : Room} {Pc : Array Value → State → Prop} {Qc : Array Value → State → Outcome → State → Prop} {free : Addr → Prop} {Ts : List Cond} {own : String} {As rest : List Value} {g : JFrame}
    (S : CallFix p m c cc nL s args Ts own) (hM : Met l y ws rm Pc Qc mc ms free) (cw : vx_CSW R s args own index y bytes maxL ret hh ws rm mc ms n) (hp : PreS s H Pc As)
    (hg : g.method = m) (hn : As.length = n) (hsize : g.locals.size = nL) (hstack : g.stack = As.reverse ++ rest) (hW : 2 * g.monitorRoom + (rest.map fun v => v.category).sum ≤ 8) (hdg : decode cc g.pc = .ok (.invokestatic index, 3)) (hf : cells + mc ≤ R.cells ∧ slots + ms ≤ R.slots) :
    va_Run p l e R s m args below meth c H locs cells slots mc ms g rest (Qc As.toArray) (free) := by
  obtain ⟨⟨hrc, hrs, hfr, hlo, hws, hcw⟩, hcode, hini, hy, hlen, hl, hstt⟩ := cw
  have hK : Back l R p e below s args y 3 8 (PreOf R mc ms Pc) (PostOf Qc mc ms free) := va_backW (hh := hh) (bytes := bytes) (maxL := maxL) (ret := ret) hM hp.1 hrc hrs hfr hlo hws hcw (fun a' U hW => word_at hW (Or.inl (by first | rfl | simp [Cond.onTables, Cond.keeps, Cond.steady])) hini)
  obtain ⟨hx, hb, hml, ho, -⟩ := S
  intro T hT X
  obtain ⟨v, vm₁, ⟨U', l2, c2, s2⟩, hW₁, X', ⟨g', mk, t, L, e1, e2, hq, h1, hL, h2, h3⟩, st⟩ := vx_callSW X hx (hh := hh) (bytes := bytes) (maxL := maxL) (ret := ret) ho hl hstt hini hcode hy hK hg (hsize.trans hml.symm) (argsL := As) (rest := rest) (fun sig h => hn.trans (hlen sig h)) hstack hW (by rw [hb]; exact hdg)
    (fun vm₁ hW₁ => ⟨hf.1, hf.2, hp.2 (T.setVm vm₁) hT hW₁⟩)
  dsimp only [Pt.U, Pt.locs, Pt.cells, Pt.slots] at X' e1 e2 h1 h2 h3 st
  subst h1; subst h2; subst h3
  exact ⟨v, (T.setVm vm₁).calling g' mk As.toArray, t, U', L, hT, X', hL, e1, e2, hq, st⟩
/-- a thing of a world lies in the heap -/
theorem vx_lt {D : va_G} {cl : List vw_C} {ws : va_W} {H1 : Heap} (h : va_P D cl ws H1) {k : Nat} {q : Nat × va_E} (hk : ws[k]? = some q) : q.1 < H1.size := (h k q hk).lt
end VXS
/-! ===== END ===== -/
/-! ===== BEGIN methods with a table of their own: called by a name, returning or throwing ===== -/
section VXH
/-! vx_backW, vx_callVX, vx_callSX, vx_callVW, vx_runVW, vx_runVX, vx_runSX, vx_ofWH follow the same proofs as their sisters above (Free/Laws.lean, Shelf42/LK1.lean); vx_outP calls Shelf42/NT130.lean (outThrough). -/
section
variable {l : Launch} {R : Room} {p : Program} {e : Env} {below : List Frame} {s : State} {sargs : Array Value} {y : MethodName} {len W9 : Nat}
theorem vx_backW {ws : List Cond} {rm : Room} {Pc : Array Value → State → Prop} {Qc : Array Value → State → Outcome → State → Prop} {XC : String → State → State → Prop} {mc ms : Nat} {free : Addr → Prop} {bytes : ByteArray} {maxL : Nat} {ret : Option FieldType} {hh : List (Nat × Nat × Nat × Nat)}
    (hM : vx_Met l y ws rm Pc Qc XC mc ms free) (hblind : FrameBlind Pc) (hrc : rm.cells = mc) (hrs : rm.slots = ms)
    (hframes : rm.frames + 1 ≤ R.frames) (hlocals : W9 + (maxL + 11) + rm.locals ≤ R.locals)
    (hws : ∀ w ∈ ws, ∀ a' U, s.WarmedH U.vm → w.before a' U = true) (hcode : Cond.codeWith y bytes maxL ret hh ∈ ws) (hinit : ∀ a' U, s.WarmedH U.vm → (Cond.initialized y.cls).before a' U = true) :
    vx_Back l R p e below s sargs y len W9 (PreOf R mc ms Pc) (PostOf Qc mc ms free) (vx_Post XC mc ms free) := by
  intro m meth c A g ig mk a X hg hsize hdg hW hn hp
  have h1 : (headSpec ws rm).pre.before a A.U = true := atoms_intro fun w hw => hws w hw _ _ X.warmed
  have h2 : (Cond.codeWith y bytes maxL ret hh).before a A.U = true := hws _ hcode _ _ X.warmed
  have h3 : (Cond.initialized y.cls).before a A.U = true := hinit _ _ X.warmed
  have h4 : A.cells + (headSpec ws rm).room.cells ≤ R.cells := by rw [show (headSpec ws rm).room.cells = mc from hrc]; exact hp.1
  have h5 : A.slots + (headSpec ws rm).room.slots ≤ R.slots := by rw [show (headSpec ws rm).room.slots = ms from hrs]; exact hp.2.1
  have hPc : Pc a (A.U.calling g mk a) := hblind _ _ _ _ hp.2.2
  obtain ⟨U, Ls, c0, s0⟩ := A
  dsimp only [Pt.U, Pt.locs, Pt.cells, Pt.slots] at h1 h2 h3 h4 h5 X hn hPc ⊢
  obtain ⟨m9, methY, cY, hn9, hmY, hcY, -, hlY, -⟩ := Cond.codeWith_spec h2
  cases Option.some.inj (hn9.symm.trans hn)
  obtain ⟨kY, hkY, -⟩ := className_of_methodNamed hn
  have hinitY : kY.init = .initialized := Cond.initialized_spec (findClass_of_methodNamed hn) hkY h3
  have h : At U g.method c below := by rw [hg]; exact X.here
  have hlocals9 : W9 + (maxL + 11) + (headSpec ws rm).room.locals ≤ R.locals := hlocals
  have happ : (headSpec ws rm).appliesLoose y e.platform (U.calling g mk a) = true :=
    Spec.appliesLoose_calling (g := g) h hdg hn hkY hinitY
      (X.room_calling (g := g) (R' := (headSpec ws rm).room) hsize hmY hcY hframes (by rw [hlY]; omega) h4 h5) h1
  obtain ⟨mid, hmid⟩ := h.above
  have hfr : (U.setTop g).frames = (.java g :: mid) ++ below := by rw [State.frames_setTop' g h.top, hmid]; rfl
  obtain ⟨o, s₂, hsteps, -, hend, hq⟩ := Steps.callFree hM p X.admits X.cas X.clock (acts := []) hfr happ hPc trivial
  have hq' : vx_Q Qc XC mc ms free a (U.calling g mk a) o s₂ := hq
  rw [State.frames_setTop' g h.top] at hend
  obtain ⟨g₀, hg0⟩ := Option.isSome_iff_exists.mp h.top
  obtain ⟨r, hr⟩ := State.topJava?_eq_some.mp hg0
  have hr' : (({ U with heap := s₂.heap, slotsUsed := s₂.slotsUsed } : State).setVm s₂.vm).frames = .java g₀ :: r := hr
  rcases hq' with ⟨hqc, L, hfe, hL⟩ | ⟨q, rfl, E, ce, L, hx, hce, hcv, hcl, hW₂, hsm, hL⟩
  · obtain ⟨⟨v, rfl⟩, hW₂, e2, q2, q3, q4, q5, q6⟩ := id hfe
    have e3 : s₂ = ({ (U.calling g mk a).setFrames s₂.frames with heap := s₂.heap, slotsUsed := s₂.slotsUsed } : State).setVm s₂.vm := by
      have : s₂ = ({ s₂ with vm := (U.calling g mk a).vm } : State).setVm s₂.vm := rfl
      rw [e2] at this
      exact this
    obtain ⟨c₂, i₂, len₂, hc₂, hd₂, hf₂⟩ := hend
    have hW' : U.WarmedH s₂.vm := hW₂
    have hcc : c₂ = c := by
      have h1 : s₂.code? g.method = U.code? g.method := by
        rw [State.code?_eq, State.code?_eq, hW'.alike.method?]
      exact Option.some.inj (hc₂.symm.trans (h1.trans h.code))
    subst hcc
    have hlen : len₂ = len := by rw [hdg] at hd₂; cases hd₂; rfl
    subst hlen
    have hs₂ : s₂ = (({ U with heap := s₂.heap, slotsUsed := s₂.slotsUsed } : State).setVm s₂.vm).setTop { g with pc := g.pc + len₂, stack := v.toList ++ g.stack } := by
      refine e3.trans ?_
      rw [hf₂, State.calling_eq h.top, State.setFrames_setFrames, State.setTop_of_frames _ hr', hr]
      rfl
    have hsame : U.sameButNew ({ U with heap := s₂.heap, slotsUsed := s₂.slotsUsed } : State) L mc ms := by
      refine ⟨?_, q2, q3, q4, q5, q6⟩
      obtain ⟨t, ht, -⟩ := State.frames_cons hr
      show ({ U with heap := s₂.heap, slotsUsed := s₂.slotsUsed } : State) = { U.setFrames U.frames with heap := s₂.heap, slotsUsed := s₂.slotsUsed }
      rw [State.setFrames_self ht]
    subst hg
    refine Or.inl ⟨v, ⟨(({ U with heap := s₂.heap, slotsUsed := s₂.slotsUsed } : State).setVm s₂.vm), Ls ++ L, c0 + mc, s0 + ms⟩,
      ⟨X.admits, X.cas, X.clock, X.frames, X.room, X.hears, X.method, X.code, (X.here.setHeapUsed s₂.heap s₂.slotsUsed).setVm hW'.alike, X.tail, State.WarmedH.trans X.warmed hW', X.limits, X.bytes, X.same.trans (hsame.setVm s.vm)⟩,
      ⟨g, mk, s₂, L, rfl, rfl, hqc, rfl, hL, rfl, rfl⟩, ?_⟩
    show Steps p.tables e below _ ((({ U with heap := s₂.heap, slotsUsed := s₂.slotsUsed } : State).setVm s₂.vm).setTop { g with pc := g.pc + len₂, stack := v.toList ++ g.stack })
    rw [← hs₂]
    exact hsteps
  · obtain ⟨e2, q2, q3, q4, q5, q6⟩ := id hsm
    have e3 : s₂ = ({ (U.calling g mk a).setFrames s₂.frames with heap := s₂.heap, slotsUsed := s₂.slotsUsed } : State).setVm s₂.vm := by
      have : s₂ = ({ s₂ with vm := (U.calling g mk a).vm } : State).setVm s₂.vm := rfl
      rw [e2] at this
      exact this
    have hf₂ : s₂.frames = .throwing q :: .java g :: U.frames.tail := hend
    have hW' : U.WarmedH s₂.vm := hW₂
    have hs₂ : s₂ = ((({ U with heap := s₂.heap, slotsUsed := s₂.slotsUsed } : State).setVm s₂.vm).setTop g).pushFrame (.throwing q) := by
      refine e3.trans ?_
      rw [hf₂, State.calling_eq h.top, State.setFrames_setFrames, State.pushFrame, State.frames_setTop _ hr', State.setTop_of_frames _ hr', State.setFrames_setFrames, hr]
      rfl
    have hsame : U.sameButNew ({ U with heap := s₂.heap, slotsUsed := s₂.slotsUsed } : State) L mc ms := by
      refine ⟨?_, q2, q3, q4, q5, q6⟩
      obtain ⟨t, ht, -⟩ := State.frames_cons hr
      show ({ U with heap := s₂.heap, slotsUsed := s₂.slotsUsed } : State) = { U.setFrames U.frames with heap := s₂.heap, slotsUsed := s₂.slotsUsed }
      rw [State.setFrames_self ht]
    subst hg
    refine Or.inr ⟨q, ⟨(({ U with heap := s₂.heap, slotsUsed := s₂.slotsUsed } : State).setVm s₂.vm), Ls ++ L, c0 + mc, s0 + ms⟩,
      ⟨X.admits, X.cas, X.clock, X.frames, X.room, X.hears, X.method, X.code, (X.here.setHeapUsed s₂.heap s₂.slotsUsed).setVm hW'.alike, X.tail, State.WarmedH.trans X.warmed hW', X.limits, X.bytes, X.same.trans (hsame.setVm s.vm)⟩,
      ⟨g, mk, s₂, L, E, ce, rfl, rfl, hx, hce, hcv, hcl, rfl, hL, rfl, rfl⟩, ?_⟩
    show Steps p.tables e below _ (((({ U with heap := s₂.heap, slotsUsed := s₂.slotsUsed } : State).setVm s₂.vm).setTop g).pushFrame (.throwing q))
    rw [← hs₂]
    exact hsteps
end
variable {p : Program} {l : Launch} {e : Env} {R : Room} {s : State} {m : MethodId} {args : Array Value} {below : List Frame} {meth : Method} {c : Code} {T : State} {H : Heap} {locs : List Loc} {cells slots : Nat}
theorem vx_callVX (X : Stand p l e R s m args below meth c T locs cells slots) (hexec : p.tables.exec = Jvm.exec) {own C : String} {index : Nat} {y : MethodName} {bytes : ByteArray} {maxL : Nat} {ret : Option FieldType} {hh : List (Nat × Nat × Nat × Nat)}
    (hown : s.vm.findClass own = some m.cls) (hlink : (Cond.methodLink own index y).before args s = true) (hinst : (Cond.instanceMethod y).before args s = true) (hsel : (Cond.selects C y y).before args s = true)
    (hcode : (Cond.codeWith y bytes maxL ret hh).before args s = true) (hy : y.cls ≠ "java/lang/invoke/MethodHandle" ∧ y.cls ≠ "java/lang/invoke/VarHandle")
    {W9 : Nat} {Pre : Pt → Array Value → Prop} {Post : Pt → Array Value → Option Value → Pt → Prop} {PostX : Pt → Array Value → Addr → Pt → Prop} (hK : vx_Back l R p e below s args y 3 W9 Pre Post PostX)
    {b : Addr} {cellB : Cell} (hcell : T.heap[b]? = some cellB) (hobj : cellB.vm.isStatics = false) (hcls : s.vm.findClass C = some cellB.cls)
    {g : JFrame} (hg : g.method = m) (hsize : g.locals.size = c.maxLocals) {argsL rest : List Value} (hlen : ∀ sig, parseMethodDescriptor y.desc = some sig → argsL.length = sig.parameters.length)
    (hstack : g.stack = argsL.reverse ++ .ref b :: rest) (hW : 2 * g.monitorRoom + (rest.map fun v => v.category).sum ≤ W9) (hdg : decode c.code g.pc = .ok (.invokevirtual index, 3))
    (hpre : ∀ vm₁, s.WarmedH vm₁ → Pre ⟨T.setVm vm₁, locs, cells, slots⟩ (Value.ref b :: argsL).toArray) :
    (∃ (v : Option Value) (vm₁ : Vm) (B : Pt), s.WarmedH vm₁ ∧ Stand p l e R s m args below meth c B.U B.locs B.cells B.slots ∧ Post ⟨T.setVm vm₁, locs, cells, slots⟩ (Value.ref b :: argsL).toArray v B ∧
      ∀ target, Steps p.tables e below (B.U.setTop { g with pc := g.pc + 3, stack := v.toList ++ rest }) target → Steps p.tables e below (T.setTop g) target) ∨
    (∃ (q : Addr) (vm₁ : Vm) (B : Pt), s.WarmedH vm₁ ∧ Stand p l e R s m args below meth c B.U B.locs B.cells B.slots ∧ PostX ⟨T.setVm vm₁, locs, cells, slots⟩ (Value.ref b :: argsL).toArray q B ∧
      Steps p.tables e below (T.setTop g) ((B.U.setTop { g with stack := rest }).pushFrame (.throwing q))) := by
  obtain ⟨mk, methM, hnamed, hmethM, hstM, habM⟩ := Cond.instanceMethod_spec hinst
  obtain ⟨m8, methM', cM, hn8, hmethM', -, -, -, -, -, -, hsigM⟩ := Cond.codeWith_spec hcode
  cases Option.some.inj (hn8.symm.trans hnamed)
  cases hmethM.symm.trans hmethM'
  obtain ⟨c2, r2, m2, q1, q2, q3, q4, kP, hkP, hkPi⟩ := Cond.selects_spec hsel
  cases hcls.symm.trans q1
  cases (State.methodFound?_of_named hnamed hy).symm.trans q2
  cases hnamed.symm.trans q3
  have hselP : selectMethod e.platform s.vm cellB.cls mk = .method mk := by rw [Launch.admits_selectMethod X.admits]; exact q4
  obtain ⟨vm₁, X₁, hstep₁⟩ := X.invokevirtual hexec hown hlink hnamed hmethM hstM hkP hkPi hy (a := b) (cell := cellB) hcell
    (fun z h => by rw [h] at hobj; cases hobj) hselP hmethM habM hkP hkPi (g := g) hg (argsL := argsL) (rest := rest) (hlen _ hsigM) hstack hdg
  rcases hK m meth c ⟨T.setVm vm₁, locs, cells, slots⟩ { g with stack := rest } (.invokevirtual index) mk (Value.ref b :: argsL).toArray X₁ hg hsize hdg hW (X₁.named hnamed) (hpre vm₁ X₁.warmed) with ⟨v, B, X', hpost, hsteps⟩ | ⟨q, B, X', hpost, hsteps⟩
  · exact Or.inl ⟨v, vm₁, B, X₁.warmed, X', hpost, fun target h => hstep₁ _ fun acts => by rw [doInvoke_state]; exact hsteps.trans h⟩
  · exact Or.inr ⟨q, vm₁, B, X₁.warmed, X', hpost, hstep₁ _ fun acts => by rw [doInvoke_state]; exact hsteps⟩
theorem vx_callSX (X : Stand p l e R s m args below meth c T locs cells slots) (hexec : p.tables.exec = Jvm.exec) {own : String} {index : Nat} {y : MethodName} {bytes : ByteArray} {maxL : Nat} {ret : Option FieldType} {hh : List (Nat × Nat × Nat × Nat)}
    (hown : s.vm.findClass own = some m.cls) (hlink : (Cond.methodLink own index y).before args s = true) (hstat : (Cond.static y).before args s = true) (hinit : (Cond.initialized y.cls).before args s = true)
    (hcode : (Cond.codeWith y bytes maxL ret hh).before args s = true) (hy : y.cls ≠ "java/lang/invoke/MethodHandle" ∧ y.cls ≠ "java/lang/invoke/VarHandle")
    {W9 : Nat} {Pre : Pt → Array Value → Prop} {Post : Pt → Array Value → Option Value → Pt → Prop} {PostX : Pt → Array Value → Addr → Pt → Prop} (hK : vx_Back l R p e below s args y 3 W9 Pre Post PostX)
    {g : JFrame} (hg : g.method = m) (hsize : g.locals.size = c.maxLocals) {argsL rest : List Value} (hlen : ∀ sig, parseMethodDescriptor y.desc = some sig → argsL.length = sig.parameters.length)
    (hstack : g.stack = argsL.reverse ++ rest) (hW : 2 * g.monitorRoom + (rest.map fun v => v.category).sum ≤ W9) (hdg : decode c.code g.pc = .ok (.invokestatic index, 3))
    (hpre : ∀ vm₁, s.WarmedH vm₁ → Pre ⟨T.setVm vm₁, locs, cells, slots⟩ argsL.toArray) :
    (∃ (v : Option Value) (vm₁ : Vm) (B : Pt), s.WarmedH vm₁ ∧ Stand p l e R s m args below meth c B.U B.locs B.cells B.slots ∧ Post ⟨T.setVm vm₁, locs, cells, slots⟩ argsL.toArray v B ∧
      ∀ target, Steps p.tables e below (B.U.setTop { g with pc := g.pc + 3, stack := v.toList ++ rest }) target → Steps p.tables e below (T.setTop g) target) ∨
    (∃ (q : Addr) (vm₁ : Vm) (B : Pt), s.WarmedH vm₁ ∧ Stand p l e R s m args below meth c B.U B.locs B.cells B.slots ∧ PostX ⟨T.setVm vm₁, locs, cells, slots⟩ argsL.toArray q B ∧
      Steps p.tables e below (T.setTop g) ((B.U.setTop { g with stack := rest }).pushFrame (.throwing q))) := by
  obtain ⟨mk, methM, cM, hnamed, hmethM, -, -, -, -, -, -, hsigM⟩ := Cond.codeWith_spec hcode
  have hstatic : methM.isStatic = true := Cond.static_spec hnamed hmethM hstat
  obtain ⟨kP, hkP, -⟩ := className_of_methodNamed hnamed
  have hinitP : kP.init = .initialized := Cond.initialized_spec (findClass_of_methodNamed hnamed) hkP hinit
  obtain ⟨vm₁, X₁, hstep₁⟩ := X.invokestatic hexec hown hlink hnamed hmethM hstatic hkP hinitP hy (g := g) hg (argsL := argsL) (rest := rest) (hlen _ hsigM) hstack hdg
  rcases hK m meth c ⟨T.setVm vm₁, locs, cells, slots⟩ { g with stack := rest } (.invokestatic index) mk argsL.toArray X₁ hg hsize hdg hW (X₁.named hnamed) (hpre vm₁ X₁.warmed) with ⟨v, B, X', hpost, hsteps⟩ | ⟨q, B, X', hpost, hsteps⟩
  · exact Or.inl ⟨v, vm₁, B, X₁.warmed, X', hpost, fun target h => hstep₁ _ fun acts => by rw [doInvoke_state]; exact hsteps.trans h⟩
  · exact Or.inr ⟨q, vm₁, B, X₁.warmed, X', hpost, hstep₁ _ fun acts => by rw [doInvoke_state]; exact hsteps⟩
theorem vx_callVW (X : Stand p l e R s m args below meth c T locs cells slots) (hexec : p.tables.exec = Jvm.exec) {own C : String} {index : Nat} {y : MethodName} {bytes : ByteArray} {maxL : Nat} {ret : Option FieldType} {hh : List (Nat × Nat × Nat × Nat)}
    (hown : s.vm.findClass own = some m.cls) (hlink : (Cond.methodLink own index y).before args s = true) (hinst : (Cond.instanceMethod y).before args s = true) (hsel : (Cond.selects C y y).before args s = true)
    (hcode : (Cond.codeWith y bytes maxL ret hh).before args s = true) (hy : y.cls ≠ "java/lang/invoke/MethodHandle" ∧ y.cls ≠ "java/lang/invoke/VarHandle")
    {W9 : Nat} {Pre : Pt → Array Value → Prop} {Post : Pt → Array Value → Option Value → Pt → Prop} (hK : Back l R p e below s args y 3 W9 Pre Post)
    {b : Addr} {cellB : Cell} (hcell : T.heap[b]? = some cellB) (hobj : cellB.vm.isStatics = false) (hcls : s.vm.findClass C = some cellB.cls)
    {g : JFrame} (hg : g.method = m) (hsize : g.locals.size = c.maxLocals) {argsL rest : List Value} (hlen : ∀ sig, parseMethodDescriptor y.desc = some sig → argsL.length = sig.parameters.length)
    (hstack : g.stack = argsL.reverse ++ .ref b :: rest) (hW : 2 * g.monitorRoom + (rest.map fun v => v.category).sum ≤ W9) (hdg : decode c.code g.pc = .ok (.invokevirtual index, 3))
    (hpre : ∀ vm₁, s.WarmedH vm₁ → Pre ⟨T.setVm vm₁, locs, cells, slots⟩ (Value.ref b :: argsL).toArray) :
    ∃ (v : Option Value) (vm₁ : Vm) (B : Pt), s.WarmedH vm₁ ∧ Stand p l e R s m args below meth c B.U B.locs B.cells B.slots ∧ Post ⟨T.setVm vm₁, locs, cells, slots⟩ (Value.ref b :: argsL).toArray v B ∧
      ∀ target, Steps p.tables e below (B.U.setTop { g with pc := g.pc + 3, stack := v.toList ++ rest }) target → Steps p.tables e below (T.setTop g) target := by
  obtain ⟨mk, methM, hnamed, hmethM, hstM, habM⟩ := Cond.instanceMethod_spec hinst
  obtain ⟨m8, methM', cM, hn8, hmethM', -, -, -, -, -, -, hsigM⟩ := Cond.codeWith_spec hcode
  cases Option.some.inj (hn8.symm.trans hnamed)
  cases hmethM.symm.trans hmethM'
  obtain ⟨c2, r2, m2, q1, q2, q3, q4, kP, hkP, hkPi⟩ := Cond.selects_spec hsel
  cases hcls.symm.trans q1
  cases (State.methodFound?_of_named hnamed hy).symm.trans q2
  cases hnamed.symm.trans q3
  have hselP : selectMethod e.platform s.vm cellB.cls mk = .method mk := by rw [Launch.admits_selectMethod X.admits]; exact q4
  obtain ⟨vm₁, X₁, hstep₁⟩ := X.invokevirtual hexec hown hlink hnamed hmethM hstM hkP hkPi hy (a := b) (cell := cellB) hcell
    (fun z h => by rw [h] at hobj; cases hobj) hselP hmethM habM hkP hkPi (g := g) hg (argsL := argsL) (rest := rest) (hlen _ hsigM) hstack hdg
  obtain ⟨v, B, X', hpost, hsteps⟩ := hK m meth c ⟨T.setVm vm₁, locs, cells, slots⟩ { g with stack := rest } (.invokevirtual index) mk (Value.ref b :: argsL).toArray X₁ hg hsize hdg hW (X₁.named hnamed) (hpre vm₁ X₁.warmed)
  exact ⟨v, vm₁, B, X₁.warmed, X', hpost, fun target h => hstep₁ _ fun acts => by rw [doInvoke_state]; exact hsteps.trans h⟩
abbrev vx_CVW (R : Room) (s : State) (args : Array Value) (own C : String) (index : Nat) (y : MethodName) (bytes : ByteArray) (maxL : Nat) (ret : Option FieldType) (hh : List (Nat × Nat × Nat × Nat)) (ws : List Cond) (rm : Room) (mc ms n : Nat) : Prop :=
  (rm.cells = mc ∧ rm.slots = ms ∧ rm.frames + 1 ≤ R.frames ∧ 8 + (maxL + 11) + rm.locals ≤ R.locals ∧ (∀ w ∈ ws, ∀ (a' : Array Value) (U : State), s.WarmedH U.vm → w.before a' U = true) ∧ Cond.codeWith y bytes maxL ret hh ∈ ws) ∧
  (Cond.codeWith y bytes maxL ret hh).before args s = true ∧ (Cond.initialized y.cls).before args s = true ∧ (y.cls ≠ "java/lang/invoke/MethodHandle" ∧ y.cls ≠ "java/lang/invoke/VarHandle") ∧
  (∀ sig, parseMethodDescriptor y.desc = some sig → n = sig.parameters.length) ∧ (Cond.methodLink own index y).before args s = true ∧ (Cond.instanceMethod y).before args s = true ∧ (Cond.selects C y y).before args s = true
theorem vx_cwVW {own C : String} {index maxL mc ms : Nat} {y : MethodName} {bytes : ByteArray} {ret : Option FieldType} {hh : List (Nat × Nat × Nat × Nat)} {Ts ws ws' : List Cond} {rm : Room} (n : Nat) (ht : ∀ w ∈ Ts, w.before args s = true) (hT : GoodIn Ts (wsV own index C y ws)) (hw : ws = Cond.codeWith y bytes maxL ret hh :: ws') (hrc : rm.cells = mc) (hrs : rm.slots = ms)
    (hd : y.cls = C ∧ y.cls ≠ "java/lang/invoke/MethodHandle" ∧ y.cls ≠ "java/lang/invoke/VarHandle" ∧ (parseMethodDescriptor y.desc).map (fun d => d.parameters.length) = some n) (hR : rm.frames + 1 ≤ R.frames ∧ 8 + (maxL + 11) + rm.locals ≤ R.locals) :
    vx_CVW R s args own C index y bytes maxL ret hh ws rm mc ms n := by
  obtain ⟨hC, hd⟩ := hd
  subst hC
  have ok : ∀ w ∈ wsV own index y.cls y ws, w.before args s = true := fun w h => ht w (hT w h).1
  have hG : GoodIn Ts ws := fun w h => hT w (by unfold wsV; exact List.mem_append_right _ h)
  have hc : Cond.codeWith y bytes maxL ret hh ∈ ws := by rw [hw]; exact List.mem_cons_self
  refine ⟨⟨hrc, hrs, hR.1, hR.2, pay_in ht hG, hc⟩, ht _ (hG _ hc).1, ok _ (by simp [wsV]), ⟨hd.1, hd.2.1⟩, fun sig h => ?_, ok _ (by simp [wsV]), ok _ (by simp [wsV]), ok _ (by simp [wsV])⟩
  have h2 := hd.2.2
  rw [h] at h2
  exact (Option.some.inj h2).symm
theorem vx_runVW {y : MethodName} {bytes cc : ByteArray} {maxL nL mc ms n index : Nat} {ret : Option FieldType} {hh : List (Nat × Nat × Nat × Nat)} {ws : List Cond} {rm : Room} {Pc : Array Value → State → Prop} {Qc : Array Value → State → Outcome → State → Prop} {free : Addr → Prop} {Ts : List Cond} {own C : String} {b : Addr} {As rest : List Value} {g : JFrame}
    (S : CallFix p m c cc nL s args Ts own) (hM : Met l y ws rm Pc Qc mc ms free) (cw : vx_CVW R s args own C index y bytes maxL ret hh ws rm mc ms n) (hp : PreV s H C b Pc As)
    (hg : g.method = m) (hn : As.length = n) (hsize : g.locals.size = nL) (hstack : g.stack = As.reverse ++ .ref b :: rest) (hW : 2 * g.monitorRoom + (rest.map fun v => v.category).sum ≤ 8) (hdg : decode cc g.pc = .ok (.invokevirtual index, 3)) (hf : cells + mc ≤ R.cells ∧ slots + ms ≤ R.slots) :
    va_Run p l e R s m args below meth c H locs cells slots mc ms g rest (Qc (Value.ref b :: As).toArray) free := by
  obtain ⟨⟨hrc, hrs, hfr, hlo, hws, hcw⟩, hcode, hini, hy, hlen, hl, hin, hse⟩ := cw
  have hK : Back l R p e below s args y 3 8 (PreOf R mc ms Pc) (PostOf Qc mc ms free) := va_backW (hh := hh) (bytes := bytes) (maxL := maxL) (ret := ret) hM hp.1 hrc hrs hfr hlo hws hcw (fun a' U hW => word_at hW (Or.inl (by first | rfl | simp [Cond.onTables, Cond.keeps, Cond.steady])) hini)
  obtain ⟨hx, hb, hml, ho, -⟩ := S
  obtain ⟨-, ⟨cellB, hcB, hoB, hclB⟩, hPc⟩ := hp
  intro T hT X
  obtain ⟨v, vm₁, ⟨U', l2, c2, s2⟩, hW₁, X', ⟨g', mk, t, L, e1, e2, hq, h1, hL, h2, h3⟩, st⟩ := vx_callVW X hx (C := C) (hh := hh) (bytes := bytes) (maxL := maxL) (ret := ret) ho hl hin hse hcode hy hK (by rw [hT]; exact hcB) hoB hclB hg (hsize.trans hml.symm) (argsL := As) (rest := rest) (fun sig h => hn.trans (hlen sig h)) hstack hW (by rw [hb]; exact hdg)
    (fun vm₁ hW₁ => ⟨hf.1, hf.2, hPc (T.setVm vm₁) hT hW₁⟩)
  dsimp only [Pt.U, Pt.locs, Pt.cells, Pt.slots] at X' e1 e2 h1 h2 h3 st
  subst h1; subst h2; subst h3
  exact ⟨v, (T.setVm vm₁).calling g' mk (Value.ref b :: As).toArray, t, U', L, hT, X', hL, e1, e2, hq, st⟩
section
variable {y : MethodName} {bytes cc : ByteArray} {maxL nL mc ms n index : Nat} {ret : Option FieldType} {ws : List Cond} {rm : Room} {Pc : Array Value → State → Prop} {Qc : Array Value → State → Outcome → State → Prop} {XC : String → State → State → Prop} {free : Addr → Prop} {Ts : List Cond} {own C : String} {b : Addr} {As rest : List Value} {g : JFrame}
theorem vx_runVX {hh : List (Nat × Nat × Nat × Nat)} (S : CallFix p m c cc nL s args Ts own) (hM : vx_Met l y ws rm Pc Qc XC mc ms free) (cw : vx_CVW R s args own C index y bytes maxL ret hh ws rm mc ms n) (hp : PreV s H C b Pc As)
    (hg : g.method = m) (hn : As.length = n) (hsize : g.locals.size = nL) (hstack : g.stack = As.reverse ++ .ref b :: rest) (hW : 2 * g.monitorRoom + (rest.map fun v => v.category).sum ≤ 8) (hdg : decode cc g.pc = .ok (.invokevirtual index, 3)) (hf : cells + mc ≤ R.cells ∧ slots + ms ≤ R.slots) :
    vx_Run p l e R s m args below meth c H locs cells slots mc ms g rest (Qc (Value.ref b :: As).toArray) XC free := by
  obtain ⟨⟨hrc, hrs, hfr, hlo, hws, hcw⟩, hcode, hini, hy, hlen, hl, hin, hse⟩ := cw
  have hK : vx_Back l R p e below s args y 3 8 (PreOf R mc ms Pc) (PostOf Qc mc ms free) (vx_Post XC mc ms free) := vx_backW (hh := hh) (bytes := bytes) (maxL := maxL) (ret := ret) hM hp.1 hrc hrs hfr hlo hws hcw (fun a' U hW => word_at hW (Or.inl (by first | rfl | simp [Cond.onTables, Cond.keeps, Cond.steady])) hini)
  obtain ⟨hx, hb, hml, ho, -⟩ := S
  obtain ⟨-, ⟨cellB, hcB, hoB, hclB⟩, hPc⟩ := hp
  intro T hT X
  rcases vx_callVX X hx (C := C) (hh := hh) (bytes := bytes) (maxL := maxL) (ret := ret) ho hl hin hse hcode hy hK (by rw [hT]; exact hcB) hoB hclB hg (hsize.trans hml.symm) (argsL := As) (rest := rest) (fun sig h => hn.trans (hlen sig h)) hstack hW (by rw [hb]; exact hdg)
    (fun vm₁ hW₁ => ⟨hf.1, hf.2, hPc (T.setVm vm₁) hT hW₁⟩) with ⟨v, vm₁, ⟨U', l2, c2, s2⟩, hW₁, X', ⟨g', mk, t, L, e1, e2, hq, h1, hL, h2, h3⟩, st⟩ | ⟨q, vm₁, ⟨U', l2, c2, s2⟩, hW₁, X', ⟨g', mk, t, L, E, ce, e1, e2, hq, hce, hcv, hcl, h1, hL, h2, h3⟩, st⟩
  · dsimp only [Pt.U, Pt.locs, Pt.cells, Pt.slots] at X' e1 e2 h1 h2 h3 st
    subst h1; subst h2; subst h3
    exact Or.inl ⟨v, (T.setVm vm₁).calling g' mk (Value.ref b :: As).toArray, t, U', L, hT, X', hL, e1, e2, hq, st⟩
  · dsimp only [Pt.U, Pt.locs, Pt.cells, Pt.slots] at X' e1 e2 h1 h2 h3 st hcl
    subst h1; subst h2; subst h3
    exact Or.inr ⟨q, (T.setVm vm₁).calling g' mk (Value.ref b :: As).toArray, t, U', L, E, ce, hT, X', hL, e1, e2, hq, hce, hcv, vx_cls hW₁ hcl, st⟩
theorem vx_runSX {hh : List (Nat × Nat × Nat × Nat)} (S : CallFix p m c cc nL s args Ts own) (hM : vx_Met l y ws rm Pc Qc XC mc ms free) (cw : vx_CSW R s args own index y bytes maxL ret hh ws rm mc ms n) (hp : PreS s H Pc As)
    (hg : g.method = m) (hn : As.length = n) (hsize : g.locals.size = nL) (hstack : g.stack = As.reverse ++ rest) (hW : 2 * g.monitorRoom + (rest.map fun v => v.category).sum ≤ 8) (hdg : decode cc g.pc = .ok (.invokestatic index, 3)) (hf : cells + mc ≤ R.cells ∧ slots + ms ≤ R.slots) :
    vx_Run p l e R s m args below meth c H locs cells slots mc ms g rest (Qc As.toArray) XC free := by
  obtain ⟨⟨hrc, hrs, hfr, hlo, hws, hcw⟩, hcode, hini, hy, hlen, hl, hstt⟩ := cw
  have hK : vx_Back l R p e below s args y 3 8 (PreOf R mc ms Pc) (PostOf Qc mc ms free) (vx_Post XC mc ms free) := vx_backW (hh := hh) (bytes := bytes) (maxL := maxL) (ret := ret) hM hp.1 hrc hrs hfr hlo hws hcw (fun a' U hW => word_at hW (Or.inl (by first | rfl | simp [Cond.onTables, Cond.keeps, Cond.steady])) hini)
  obtain ⟨hx, hb, hml, ho, -⟩ := S
  intro T hT X
  rcases vx_callSX X hx (hh := hh) (bytes := bytes) (maxL := maxL) (ret := ret) ho hl hstt hini hcode hy hK hg (hsize.trans hml.symm) (argsL := As) (rest := rest) (fun sig h => hn.trans (hlen sig h)) hstack hW (by rw [hb]; exact hdg)
    (fun vm₁ hW₁ => ⟨hf.1, hf.2, hp.2 (T.setVm vm₁) hT hW₁⟩) with ⟨v, vm₁, ⟨U', l2, c2, s2⟩, hW₁, X', ⟨g', mk, t, L, e1, e2, hq, h1, hL, h2, h3⟩, st⟩ | ⟨q, vm₁, ⟨U', l2, c2, s2⟩, hW₁, X', ⟨g', mk, t, L, E, ce, e1, e2, hq, hce, hcv, hcl, h1, hL, h2, h3⟩, st⟩
  · dsimp only [Pt.U, Pt.locs, Pt.cells, Pt.slots] at X' e1 e2 h1 h2 h3 st
    subst h1; subst h2; subst h3
    exact Or.inl ⟨v, (T.setVm vm₁).calling g' mk As.toArray, t, U', L, hT, X', hL, e1, e2, hq, st⟩
  · dsimp only [Pt.U, Pt.locs, Pt.cells, Pt.slots] at X' e1 e2 h1 h2 h3 st hcl
    subst h1; subst h2; subst h3
    exact Or.inr ⟨q, (T.setVm vm₁).calling g' mk As.toArray, t, U', L, E, ce, hT, X', hL, e1, e2, hq, hce, hcv, vx_cls hW₁ hcl, st⟩
end
end VXH
theorem vx_ofWH {l : Launch} {y : MethodName} {ws ws' : List Cond} {rm : Room} {Pc : Array Value → State → Prop} {Qc : Array Value → State → Outcome → State → Prop} {XC : String → State → State → Prop} {mc ms : Nat} {free : Addr → Prop} {cc : ByteArray} {maxL : Nat} {ret : Option FieldType} {hh : List (Nat × Nat × Nat × Nat)}
    (hy : plainName y.cls = true) (hw : ws = Cond.codeWith y cc maxL ret hh :: ws')
    (body : ∀ p e s m args below meth c s₁, BodyLoose p l y (headSpec ws rm) cc maxL ret e s m args below meth c s₁ → c.maxLocals = maxL → Pc args s →
      W p l e (headSpec ws rm).room s m args below meth c s.heap [] 0 0 (vx_MQ below Qc XC args s mc ms free) (entryFrame m args maxL)) : vx_Met l y ws rm Pc Qc XC mc ms free := by
  refine MetFree.of_bodyS (code := cc) (maxLocals := maxL) (ret := ret) hy ?_ ?_
  · intro args s m h hn
    obtain ⟨m9, meth, c, hn9, h1, h2, h3, h4, -, h5, h6, -⟩ := Cond.codeWith_spec (atoms_spec (ws := ws) h _ (by rw [hw]; exact List.mem_cons_self))
    cases hn.symm.trans hn9
    exact ⟨meth, c, h1, h2, h3, h4, h5, h6⟩
  · intro p e s m args below meth c s₁ B hml hP _
    have hh0 : s₁.heap = s.heap := by rw [B.state]; rfl
    obtain ⟨t, a1, o, b1, b2, b3⟩ := body p e s m args below meth c s₁ B hml hP s₁ hh0 (Stand.of_body B)
    exact ⟨t, o, a1, b1, b2, b3⟩
/-! ===== END ===== -/
end
section
def RX0 : String := "KeyAtlas$Body"
abbrev cX0_init : ByteArray := prog_2_method_1_code
def yX0_init : MethodName := ⟨RX0, "<init>", "(II)V"⟩
def RX1 : String := "KeyAtlas$Cursor"
def TX1 : u_T := fun k => match k with
  | 0 => ("KeyAtlas$Body", "kind", "I", true)
  | 1 => ("KeyAtlas$Body", "whole", "I", true)
  | 2 => ("KeyAtlas$Cursor", "keyed", "LKeyAtlas$Keyed;", true)
  | 3 => ("KeyAtlas$Cursor", "next", "I", false)
  | 4 => ("KeyAtlas$Cursor", "passed", "I", false)
  | _ => ("KeyAtlas$Cursor", "seenChanges", "I", false)
def tyX1 : Nat → FieldType := fun k => match k with
  | 0 => .int
  | 1 => .int
  | 2 => .object "KeyAtlas$Keyed"
  | 3 => .int
  | 4 => .int
  | _ => .int
abbrev wsX10 : List Cond := u_ws RX1 TX1 6
theorem tyX1_ok : ∀ k, k < 6 → parseFieldDescriptor (TX1 k).2.2.1 = some (tyX1 k) := by decide +kernel
def RX2 : String := "KeyAtlas$Hash"
def TX2 : u_T := fun k => match k with
  | 0 => ("KeyAtlas$Keyed", "rows", "LKeyAtlas$Rows;", true)
  | 1 => ("KeyAtlas$Body", "kind", "I", true)
  | 2 => ("KeyAtlas$Body", "whole", "I", true)
  | 3 => ("KeyAtlas$Hash", "capacity", "I", true)
  | 4 => ("KeyAtlas$Hash", "rule", "I", true)
  | 5 => ("KeyAtlas$Hash", "table", "I", false)
  | _ => ("KeyAtlas$Hash", "bushy", "[Z", false)
def tyX2 : Nat → FieldType := fun k => match k with
  | 0 => .object "KeyAtlas$Rows"
  | 1 => .int
  | 2 => .int
  | 3 => .int
  | 4 => .int
  | 5 => .int
  | _ => .array .boolean
abbrev wsX20 : List Cond := u_ws RX2 TX2 7
theorem nmX2 : ∀ a, a < 7 → ∀ b, b < 7 → a ≠ b → (TX2 a).2.1 ≠ (TX2 b).2.1 := by decide +kernel
theorem tyX2_ok : ∀ k, k < 7 → parseFieldDescriptor (TX2 k).2.2.1 = some (tyX2 k) := by decide +kernel
abbrev cX2_init : ByteArray := prog_4_method_1_code
def yX2_init : MethodName := ⟨RX2, "<init>", "(II)V"⟩
def RX3 : String := "KeyAtlas$Keyed"
abbrev cX3_init : ByteArray := prog_5_method_1_code
def yX3_init : MethodName := ⟨RX3, "<init>", "(IILKeyAtlas$Rows;)V"⟩
def RX4 : String := "KeyAtlas$Linked"
def TX4 : u_T := fun k => match k with
  | 0 => ("KeyAtlas$Keyed", "rows", "LKeyAtlas$Rows;", true)
  | 1 => ("KeyAtlas$Body", "kind", "I", true)
  | 2 => ("KeyAtlas$Body", "whole", "I", true)
  | 3 => ("KeyAtlas$Linked", "limit", "I", true)
  | _ => ("KeyAtlas$Linked", "isByUse", "Z", true)
def tyX4 : Nat → FieldType := fun k => match k with
  | 0 => .object "KeyAtlas$Rows"
  | 1 => .int
  | 2 => .int
  | 3 => .int
  | _ => .boolean
abbrev wsX40 : List Cond := u_ws RX4 TX4 5
theorem nmX4 : ∀ a, a < 5 → ∀ b, b < 5 → a ≠ b → (TX4 a).2.1 ≠ (TX4 b).2.1 := by decide +kernel
theorem tyX4_ok : ∀ k, k < 5 → parseFieldDescriptor (TX4 k).2.2.1 = some (tyX4 k) := by decide +kernel
abbrev cX4_init : ByteArray := prog_6_method_1_code
def yX4_init : MethodName := ⟨RX4, "<init>", "(IZ)V"⟩
def RX5 : String := "KeyAtlas$Rows"
def TX5 : u_T := fun k => match k with
  | 0 => ("KeyAtlas$Rows", "keys", "[I", false)
  | 1 => ("KeyAtlas$Rows", "values", "[I", false)
  | 2 => ("KeyAtlas$Rows", "size", "I", false)
  | _ => ("KeyAtlas$Rows", "changes", "I", false)
def tyX5 : Nat → FieldType := fun k => match k with
  | 0 => .array .int
  | 1 => .array .int
  | 2 => .int
  | _ => .int
abbrev wsX50 : List Cond := u_ws RX5 TX5 4
theorem nmX5 : ∀ a, a < 4 → ∀ b, b < 4 → a ≠ b → (TX5 a).2.1 ≠ (TX5 b).2.1 := by decide +kernel
theorem tyX5_ok : ∀ k, k < 4 → parseFieldDescriptor (TX5 k).2.2.1 = some (tyX5 k) := by decide +kernel
abbrev cX5_init : ByteArray := prog_7_method_1_code
def yX5_init : MethodName := ⟨RX5, "<init>", "()V"⟩
def RX6 : String := "KeyAtlas$Sorted"
def TX6 : u_T := fun k => match k with
  | 0 => ("KeyAtlas$Keyed", "rows", "LKeyAtlas$Rows;", true)
  | 1 => ("KeyAtlas$Body", "kind", "I", true)
  | 2 => ("KeyAtlas$Body", "whole", "I", true)
  | 3 => ("KeyAtlas$Sorted", "order", "I", true)
  | 4 => ("KeyAtlas$Sorted", "isTurned", "Z", true)
  | 5 => ("KeyAtlas$Sorted", "low", "J", true)
  | _ => ("KeyAtlas$Sorted", "high", "J", true)
def tyX6 : Nat → FieldType := fun k => match k with
  | 0 => .object "KeyAtlas$Rows"
  | 1 => .int
  | 2 => .int
  | 3 => .int
  | 4 => .boolean
  | 5 => .long
  | _ => .long
abbrev wsX60 : List Cond := u_ws RX6 TX6 7
theorem nmX6 : ∀ a, a < 7 → ∀ b, b < 7 → a ≠ b → (TX6 a).2.1 ≠ (TX6 b).2.1 := by decide +kernel
theorem tyX6_ok : ∀ k, k < 7 → parseFieldDescriptor (TX6 k).2.2.1 = some (tyX6 k) := by decide +kernel
abbrev cX6_init : ByteArray := prog_8_method_1_code
def yX6_init : MethodName := ⟨RX6, "<init>", "(I)V"⟩
def RX7 : String := "KeyAtlas"
def TX7 : u_T := fun k => match k with
  | _ => ("KeyAtlas", "bodies", "[LKeyAtlas$Body;", true)
def tyX7 : Nat → FieldType := fun k => match k with
  | _ => .array (.object "KeyAtlas$Body")
abbrev wsX70 : List Cond := u_ws RX7 TX7 1
theorem nmX7 : ∀ a, a < 1 → ∀ b, b < 1 → a ≠ b → (TX7 a).2.1 ≠ (TX7 b).2.1 := by decide +kernel
theorem tyX7_ok : ∀ k, k < 1 → parseFieldDescriptor (TX7 k).2.2.1 = some (tyX7 k) := by decide +kernel
abbrev cX7_init : ByteArray := prog_1_method_1_code
def yX7_init : MethodName := ⟨RX7, "<init>", "()V"⟩
abbrev cX7_make : ByteArray := prog_1_method_2_code
def yX7_make : MethodName := ⟨RX7, "make", "(III)I"⟩
abbrev cX7_drop : ByteArray := prog_1_method_3_code
def yX7_drop : MethodName := ⟨RX7, "drop", "(I)I"⟩
abbrev cX7_map : ByteArray := prog_1_method_4_code
def yX7_map : MethodName := ⟨RX7, "map", "(IIII)J"⟩
abbrev cX7_view : ByteArray := prog_1_method_5_code
def yX7_view : MethodName := ⟨RX7, "view", "(IIII)I"⟩
abbrev cX7_cursor : ByteArray := prog_1_method_6_code
def yX7_cursor : MethodName := ⟨RX7, "cursor", "(I)I"⟩
abbrev cX7_move : ByteArray := prog_1_method_7_code
def yX7_move : MethodName := ⟨RX7, "move", "(III)J"⟩
abbrev cX7_item : ByteArray := prog_1_method_8_code
def yX7_item : MethodName := ⟨RX7, "item", "(III)J"⟩
abbrev cX7_count : ByteArray := prog_1_method_9_code
def yX7_count : MethodName := ⟨RX7, "count", "(I)I"⟩
abbrev cX7_areInRange : ByteArray := prog_1_method_10_code
def yX7_areInRange : MethodName := ⟨RX7, "areInRange", "(III)Z"⟩
abbrev cX7_newMap : ByteArray := prog_1_method_11_code
def yX7_newMap : MethodName := ⟨RX7, "newMap", "(III)LKeyAtlas$Keyed;"⟩
abbrev cX7_bodyAt : ByteArray := prog_1_method_13_code
def yX7_bodyAt : MethodName := ⟨RX7, "bodyAt", "(I)LKeyAtlas$Body;"⟩
abbrev cX7_bodyOrNull : ByteArray := prog_1_method_14_code
def yX7_bodyOrNull : MethodName := ⟨RX7, "bodyOrNull", "(I)LKeyAtlas$Body;"⟩
abbrev cX7_settle : ByteArray := prog_1_method_18_code
def yX7_settle : MethodName := ⟨RX7, "settle", "(LKeyAtlas$Body;)I"⟩
abbrev cX7_howManyBodies : ByteArray := prog_1_method_20_code
def yX7_howManyBodies : MethodName := ⟨RX7, "howManyBodies", "()I"⟩
abbrev cX7_kindOf : ByteArray := prog_1_method_21_code
def yX7_kindOf : MethodName := ⟨RX7, "kindOf", "(I)I"⟩
abbrev cX7_sizeOf : ByteArray := prog_1_method_22_code
def yX7_sizeOf : MethodName := ⟨RX7, "sizeOf", "(I)I"⟩
def RX8 : String := "KeyAtlasModel"
def TX8 : u_T := fun k => match k with
  | 0 => ("KeyAtlasModel", "thrown", "I", false)
  | 1 => ("KeyAtlasModel", "kind", "[I", true)
  | 2 => ("KeyAtlasModel", "cell", "[I", true)
  | 3 => ("KeyAtlasModel", "size", "[I", true)
  | 4 => ("KeyAtlasModel", "first", "[I", true)
  | 5 => ("KeyAtlasModel", "second", "[I", true)
  | 6 => ("KeyAtlasModel", "table", "[I", true)
  | 7 => ("KeyAtlasModel", "changes", "[I", true)
  | 8 => ("KeyAtlasModel", "parent", "[I", true)
  | 9 => ("KeyAtlasModel", "from", "[I", true)
  | 10 => ("KeyAtlasModel", "to", "[I", true)
  | 11 => ("KeyAtlasModel", "way", "[I", true)
  | 12 => ("KeyAtlasModel", "seen", "[I", true)
  | 13 => ("KeyAtlasModel", "keys", "[I", true)
  | 14 => ("KeyAtlasModel", "values", "[I", true)
  | 15 => ("KeyAtlasModel", "bushy", "[Z", true)
  | _ => ("KeyAtlasModel", "gone", "[Z", true)
def tyX8 : Nat → FieldType := fun k => match k with
  | 0 => .int
  | 1 => .array .int
  | 2 => .array .int
  | 3 => .array .int
  | 4 => .array .int
  | 5 => .array .int
  | 6 => .array .int
  | 7 => .array .int
  | 8 => .array .int
  | 9 => .array .int
  | 10 => .array .int
  | 11 => .array .int
  | 12 => .array .int
  | 13 => .array .int
  | 14 => .array .int
  | 15 => .array .boolean
  | _ => .array .boolean
abbrev wsX80 : List Cond := u_ws RX8 TX8 17
theorem nmX8 : ∀ a, a < 17 → ∀ b, b < 17 → a ≠ b → (TX8 a).2.1 ≠ (TX8 b).2.1 := by decide +kernel
theorem tyX8_ok : ∀ k, k < 17 → parseFieldDescriptor (TX8 k).2.2.1 = some (tyX8 k) := by decide +kernel
abbrev cX8_init : ByteArray := prog_10_method_1_code
def yX8_init : MethodName := ⟨RX8, "<init>", "()V"⟩
abbrev cX8_thrown : ByteArray := prog_10_method_2_code
def yX8_thrown : MethodName := ⟨RX8, "thrown", "()I"⟩
abbrev cX8_refuse : ByteArray := prog_10_method_3_code
def yX8_refuse : MethodName := ⟨RX8, "refuse", "(I)I"⟩
abbrev cX8_in : ByteArray := prog_10_method_4_code
def yX8_in : MethodName := ⟨RX8, "in", "(III)Z"⟩
abbrev cX8_isThere : ByteArray := prog_10_method_5_code
def yX8_isThere : MethodName := ⟨RX8, "isThere", "(I)Z"⟩
abbrev cX8_free : ByteArray := prog_10_method_6_code
def yX8_free : MethodName := ⟨RX8, "free", "()I"⟩
abbrev cX8_born : ByteArray := prog_10_method_7_code
def yX8_born : MethodName := ⟨RX8, "born", "(II)I"⟩
abbrev cX8_make : ByteArray := prog_10_method_8_code
def yX8_make : MethodName := ⟨RX8, "make", "(III)I"⟩
abbrev cX8_drop : ByteArray := prog_10_method_10_code
def yX8_drop : MethodName := ⟨RX8, "drop", "(I)I"⟩
abbrev cX8_isMap : ByteArray := prog_10_method_14_code
def yX8_isMap : MethodName := ⟨RX8, "isMap", "(I)Z"⟩
abbrev cX8_map : ByteArray := prog_10_method_34_code
def yX8_map : MethodName := ⟨RX8, "map", "(IIII)J"⟩
abbrev cX8_view : ByteArray := prog_10_method_42_code
def yX8_view : MethodName := ⟨RX8, "view", "(IIII)I"⟩
abbrev cX8_cursor : ByteArray := prog_10_method_43_code
def yX8_cursor : MethodName := ⟨RX8, "cursor", "(I)I"⟩
abbrev cX8_move : ByteArray := prog_10_method_44_code
def yX8_move : MethodName := ⟨RX8, "move", "(III)J"⟩
abbrev cX8_item : ByteArray := prog_10_method_45_code
def yX8_item : MethodName := ⟨RX8, "item", "(III)J"⟩
abbrev cX8_count : ByteArray := prog_10_method_46_code
def yX8_count : MethodName := ⟨RX8, "count", "(I)I"⟩
def RJx3273f : String := "java/lang/ClassCastException"
def TJx3273f : u_T := fun k => match k with
  | 0 => ("java/lang/Throwable", "cause", "Ljava/lang/Throwable;", false)
  | 1 => ("java/lang/Throwable", "stackTrace", "[Ljava/lang/StackTraceElement;", false)
  | 2 => ("java/lang/Throwable", "suppressedExceptions", "Ljava/util/List;", false)
  | 3 => ("java/lang/Throwable", "detailMessage", "Ljava/lang/String;", false)
  | 4 => ("java/lang/Throwable", "backtrace", "Ljava/lang/Object;", false)
  | _ => ("java/lang/Throwable", "depth", "I", false)
def RJxde1cd : String := "java/lang/NegativeArraySizeException"
def TJxde1cd : u_T := fun k => match k with
  | 0 => ("java/lang/Throwable", "cause", "Ljava/lang/Throwable;", false)
  | 1 => ("java/lang/Throwable", "stackTrace", "[Ljava/lang/StackTraceElement;", false)
  | 2 => ("java/lang/Throwable", "suppressedExceptions", "Ljava/util/List;", false)
  | 3 => ("java/lang/Throwable", "detailMessage", "Ljava/lang/String;", false)
  | 4 => ("java/lang/Throwable", "backtrace", "Ljava/lang/Object;", false)
  | _ => ("java/lang/Throwable", "depth", "I", false)
abbrev wsJxde1cd0 : List Cond := u_ws RJxde1cd TJxde1cd 6
def RL : String := "KeyAtlasLaw"
abbrev cL_make : ByteArray := method_3_code
def yL_make : MethodName := ⟨RL, "make", "(LKeyAtlas;III[J)I"⟩
abbrev cL_drop : ByteArray := method_4_code
def yL_drop : MethodName := ⟨RL, "drop", "(LKeyAtlas;I[J)I"⟩
abbrev cL_map : ByteArray := method_5_code
def yL_map : MethodName := ⟨RL, "map", "(LKeyAtlas;IIII[J)I"⟩
abbrev cL_view : ByteArray := method_6_code
def yL_view : MethodName := ⟨RL, "view", "(LKeyAtlas;IIII[J)I"⟩
abbrev cL_cursor : ByteArray := method_7_code
def yL_cursor : MethodName := ⟨RL, "cursor", "(LKeyAtlas;I[J)I"⟩
abbrev cL_move : ByteArray := method_8_code
def yL_move : MethodName := ⟨RL, "move", "(LKeyAtlas;III[J)I"⟩
abbrev cL_item : ByteArray := method_9_code
def yL_item : MethodName := ⟨RL, "item", "(LKeyAtlas;III[J)I"⟩
abbrev cL_count : ByteArray := method_10_code
def yL_count : MethodName := ⟨RL, "count", "(LKeyAtlas;I[J)I"⟩
abbrev cL_law : ByteArray := code
def wsX0_init : List Cond := .code yX0_init cX0_init 3 none :: ([.methodLink RX0 1 objectInit, .instanceMethod objectInit, .code objectInit ⟨#[0xb1]⟩ 1 none, .fieldLink RX0 7 "KeyAtlas$Body" "kind" "I", .fieldLink RX0 13 "KeyAtlas$Body" "whole" "I"] ++ wsX10 ++ wsX20 ++ wsX40 ++ wsX60)
def wsX5_init : List Cond := .code yX5_init cX5_init 1 none :: ([.methodLink RX5 3 objectInit, .instanceMethod objectInit, .code objectInit ⟨#[0xb1]⟩ 1 none, .arrayClass .int, .fieldLink RX5 9 "KeyAtlas$Rows" "keys" "[I", .fieldLink RX5 15 "KeyAtlas$Rows" "values" "[I"] ++ wsX50)
def wsX3_init : List Cond := .code yX3_init cX3_init 4 none :: ([.fieldLink RX3 9 "KeyAtlas$Keyed" "rows" "LKeyAtlas$Rows;", .methodLink RX3 3 yX0_init, .instanceMethod yX0_init, .initialized RX0, .code yX0_init cX0_init 3 none, .methodLink RX0 1 objectInit, .instanceMethod objectInit, .code objectInit ⟨#[0xb1]⟩ 1 none, .fieldLink RX0 7 "KeyAtlas$Body" "kind" "I", .fieldLink RX0 13 "KeyAtlas$Body" "whole" "I"] ++ wsX20 ++ wsX40 ++ wsX60 ++ wsX10)
def wsX2_init_r1 : List Cond := [Cond.classLink RX2 3 RX5, Cond.instantiable RX5 4, Cond.initialized RX5, Cond.arrayClass .boolean, Cond.fieldLink RX2 14 "KeyAtlas$Hash" "bushy" "[Z", Cond.fieldLink RX2 20 "KeyAtlas$Hash" "capacity" "I", Cond.fieldLink RX2 24 "KeyAtlas$Hash" "rule" "I", Cond.instanceMethod yX5_init, Cond.code yX5_init cX5_init 1 none, Cond.methodLink RX5 3 objectInit, Cond.instanceMethod objectInit, Cond.code objectInit ⟨#[0xb1]⟩ 1 none, Cond.arrayClass .int, Cond.fieldLink RX5 9 "KeyAtlas$Rows" "keys" "[I", Cond.fieldLink RX5 15 "KeyAtlas$Rows" "values" "[I", Cond.methodLink RX2 9 yX3_init, Cond.instanceMethod yX3_init, Cond.initialized RX3, Cond.code yX3_init cX3_init 4 none, Cond.fieldLink RX3 9 "KeyAtlas$Keyed" "rows" "LKeyAtlas$Rows;", Cond.methodLink RX3 3 yX0_init, Cond.instanceMethod yX0_init, Cond.initialized RX0, Cond.code yX0_init cX0_init 3 none]
def wsX2_init_r2 : List Cond := [Cond.methodLink RX0 1 objectInit, Cond.fieldLink RX0 7 "KeyAtlas$Body" "kind" "I", Cond.fieldLink RX0 13 "KeyAtlas$Body" "whole" "I"]
def wsX2_init : List Cond := .code yX2_init cX2_init 3 none :: ((wsX2_init_r1 ++ wsX2_init_r2) ++ wsX50 ++ wsX20 ++ wsX40 ++ wsX60 ++ wsX10)
def wsX4_init_r1 : List Cond := [Cond.classLink RX4 3 RX5, Cond.instantiable RX5 4, Cond.initialized RX5, Cond.fieldLink RX4 14 "KeyAtlas$Linked" "limit" "I", Cond.fieldLink RX4 20 "KeyAtlas$Linked" "isByUse" "Z", Cond.instanceMethod yX5_init, Cond.code yX5_init cX5_init 1 none, Cond.methodLink RX5 3 objectInit, Cond.instanceMethod objectInit, Cond.code objectInit ⟨#[0xb1]⟩ 1 none, Cond.arrayClass .int, Cond.fieldLink RX5 9 "KeyAtlas$Rows" "keys" "[I", Cond.fieldLink RX5 15 "KeyAtlas$Rows" "values" "[I", Cond.methodLink RX4 9 yX3_init, Cond.instanceMethod yX3_init, Cond.initialized RX3, Cond.code yX3_init cX3_init 4 none, Cond.fieldLink RX3 9 "KeyAtlas$Keyed" "rows" "LKeyAtlas$Rows;", Cond.methodLink RX3 3 yX0_init, Cond.instanceMethod yX0_init, Cond.initialized RX0, Cond.code yX0_init cX0_init 3 none, Cond.methodLink RX0 1 objectInit, Cond.fieldLink RX0 7 "KeyAtlas$Body" "kind" "I"]
def wsX4_init_r2 : List Cond := [Cond.fieldLink RX0 13 "KeyAtlas$Body" "whole" "I"]
def wsX4_init : List Cond := .code yX4_init cX4_init 3 none :: ((wsX4_init_r1 ++ wsX4_init_r2) ++ wsX50 ++ wsX40 ++ wsX20 ++ wsX60 ++ wsX10)
def wsX6_init_r1 : List Cond := [Cond.classLink RX6 5 RX5, Cond.instantiable RX5 4, Cond.initialized RX5, Cond.fieldLink RX6 16 "KeyAtlas$Sorted" "order" "I", Cond.fieldLink RX6 22 "KeyAtlas$Sorted" "isTurned" "Z", Cond.constantLong RX6 26 (-9223372036854775808), Cond.fieldLink RX6 28 "KeyAtlas$Sorted" "low" "J", Cond.constantLong RX6 32 (9223372036854775807), Cond.fieldLink RX6 34 "KeyAtlas$Sorted" "high" "J", Cond.instanceMethod yX5_init, Cond.code yX5_init cX5_init 1 none, Cond.methodLink RX5 3 objectInit, Cond.instanceMethod objectInit, Cond.code objectInit ⟨#[0xb1]⟩ 1 none, Cond.arrayClass .int, Cond.fieldLink RX5 9 "KeyAtlas$Rows" "keys" "[I", Cond.fieldLink RX5 15 "KeyAtlas$Rows" "values" "[I", Cond.methodLink RX6 11 yX3_init, Cond.instanceMethod yX3_init, Cond.initialized RX3, Cond.code yX3_init cX3_init 4 none, Cond.fieldLink RX3 9 "KeyAtlas$Keyed" "rows" "LKeyAtlas$Rows;", Cond.methodLink RX3 3 yX0_init, Cond.instanceMethod yX0_init]
def wsX6_init_r2 : List Cond := [Cond.initialized RX0, Cond.code yX0_init cX0_init 3 none, Cond.methodLink RX0 1 objectInit, Cond.fieldLink RX0 7 "KeyAtlas$Body" "kind" "I", Cond.fieldLink RX0 13 "KeyAtlas$Body" "whole" "I"]
def wsX6_init : List Cond := .code yX6_init cX6_init 2 none :: ((wsX6_init_r1 ++ wsX6_init_r2) ++ wsX50 ++ wsX60 ++ wsX20 ++ wsX40 ++ wsX10)
def wsX7_init : List Cond := .code yX7_init cX7_init 1 none :: ([.methodLink RX7 1 objectInit, .instanceMethod objectInit, .code objectInit ⟨#[0xb1]⟩ 1 none, .classLink RX7 9 RX0, .fieldLink RX7 11 "KeyAtlas" "bodies" "[LKeyAtlas$Body;"] ++ wsX70)
def wsX7_areInRange : List Cond := .code yX7_areInRange cX7_areInRange 3 (some .boolean) :: ([])
def wsX7_newMap_r1 : List Cond := [Cond.classLink RX7 223 RX2, Cond.instantiable RX2 7, Cond.initialized RX2, Cond.classLink RX7 228 RX4, Cond.instantiable RX4 5, Cond.initialized RX4, Cond.classLink RX7 147 RX6, Cond.instantiable RX6 7, Cond.initialized RX6, Cond.methodLink RX7 225 yX2_init, Cond.instanceMethod yX2_init, Cond.code yX2_init cX2_init 3 none, Cond.classLink RX2 3 RX5, Cond.instantiable RX5 4, Cond.initialized RX5, Cond.arrayClass .boolean, Cond.fieldLink RX2 14 "KeyAtlas$Hash" "bushy" "[Z", Cond.fieldLink RX2 20 "KeyAtlas$Hash" "capacity" "I", Cond.fieldLink RX2 24 "KeyAtlas$Hash" "rule" "I", Cond.instanceMethod yX5_init, Cond.code yX5_init cX5_init 1 none, Cond.methodLink RX5 3 objectInit, Cond.instanceMethod objectInit, Cond.code objectInit ⟨#[0xb1]⟩ 1 none]
def wsX7_newMap_r2 : List Cond := [Cond.arrayClass .int, Cond.fieldLink RX5 9 "KeyAtlas$Rows" "keys" "[I", Cond.fieldLink RX5 15 "KeyAtlas$Rows" "values" "[I", Cond.methodLink RX2 9 yX3_init, Cond.instanceMethod yX3_init, Cond.initialized RX3, Cond.code yX3_init cX3_init 4 none, Cond.fieldLink RX3 9 "KeyAtlas$Keyed" "rows" "LKeyAtlas$Rows;", Cond.methodLink RX3 3 yX0_init, Cond.instanceMethod yX0_init, Cond.initialized RX0, Cond.code yX0_init cX0_init 3 none, Cond.methodLink RX0 1 objectInit, Cond.fieldLink RX0 7 "KeyAtlas$Body" "kind" "I", Cond.fieldLink RX0 13 "KeyAtlas$Body" "whole" "I", Cond.methodLink RX7 230 yX4_init, Cond.instanceMethod yX4_init, Cond.code yX4_init cX4_init 3 none, Cond.classLink RX4 3 RX5, Cond.fieldLink RX4 14 "KeyAtlas$Linked" "limit" "I", Cond.fieldLink RX4 20 "KeyAtlas$Linked" "isByUse" "Z", Cond.methodLink RX4 9 yX3_init, Cond.methodLink RX7 233 yX6_init, Cond.instanceMethod yX6_init]
def wsX7_newMap_r3 : List Cond := [Cond.code yX6_init cX6_init 2 none, Cond.classLink RX6 5 RX5, Cond.fieldLink RX6 16 "KeyAtlas$Sorted" "order" "I", Cond.fieldLink RX6 22 "KeyAtlas$Sorted" "isTurned" "Z", Cond.constantLong RX6 26 (-9223372036854775808), Cond.fieldLink RX6 28 "KeyAtlas$Sorted" "low" "J", Cond.constantLong RX6 32 (9223372036854775807), Cond.fieldLink RX6 34 "KeyAtlas$Sorted" "high" "J", Cond.methodLink RX6 11 yX3_init]
def wsX7_newMap : List Cond := .code yX7_newMap cX7_newMap 3 (some (.object "KeyAtlas$Keyed")) :: ((wsX7_newMap_r1 ++ (wsX7_newMap_r2 ++ wsX7_newMap_r3)) ++ wsX20 ++ wsX40 ++ wsX60 ++ wsX50 ++ wsX10)
def wsX7_settle : List Cond := .code yX7_settle cX7_settle 3 (some .int) :: ([.classLink RX7 170 "java/lang/IllegalStateException", .initialized "java/lang/IllegalStateException", .fieldLink RX7 11 "KeyAtlas" "bodies" "[LKeyAtlas$Body;"] ++ wsX70 ++ (vx_atS RX7 174 "java/lang/IllegalStateException" ["java/lang/RuntimeException", "java/lang/Exception"]).filter goodWord)
def wsX7_make_r1 : List Cond := [Cond.classLink RX7 15 "java/lang/IllegalArgumentException", Cond.initialized "java/lang/IllegalArgumentException", Cond.classLink RX7 22 RJxde1cd, Cond.instantiable RJxde1cd 6, Cond.initialized RJxde1cd, Cond.methodLink RX7 27 yX7_areInRange, Cond.static yX7_areInRange, Cond.initialized RX7, Cond.code yX7_areInRange cX7_areInRange 3 (some .boolean), Cond.methodLink RX7 33 yX7_newMap, Cond.static yX7_newMap, Cond.code yX7_newMap cX7_newMap 3 (some (.object "KeyAtlas$Keyed")), Cond.classLink RX7 223 RX2, Cond.instantiable RX2 7, Cond.initialized RX2, Cond.classLink RX7 228 RX4, Cond.instantiable RX4 5, Cond.initialized RX4, Cond.classLink RX7 147 RX6, Cond.instantiable RX6 7, Cond.initialized RX6, Cond.methodLink RX7 225 yX2_init, Cond.instanceMethod yX2_init, Cond.code yX2_init cX2_init 3 none]
def wsX7_make_r2 : List Cond := [Cond.classLink RX2 3 RX5, Cond.instantiable RX5 4, Cond.initialized RX5, Cond.arrayClass .boolean, Cond.fieldLink RX2 14 "KeyAtlas$Hash" "bushy" "[Z", Cond.fieldLink RX2 20 "KeyAtlas$Hash" "capacity" "I", Cond.fieldLink RX2 24 "KeyAtlas$Hash" "rule" "I", Cond.instanceMethod yX5_init, Cond.code yX5_init cX5_init 1 none, Cond.methodLink RX5 3 objectInit, Cond.instanceMethod objectInit, Cond.code objectInit ⟨#[0xb1]⟩ 1 none, Cond.arrayClass .int, Cond.fieldLink RX5 9 "KeyAtlas$Rows" "keys" "[I", Cond.fieldLink RX5 15 "KeyAtlas$Rows" "values" "[I", Cond.methodLink RX2 9 yX3_init, Cond.instanceMethod yX3_init, Cond.initialized RX3, Cond.code yX3_init cX3_init 4 none, Cond.fieldLink RX3 9 "KeyAtlas$Keyed" "rows" "LKeyAtlas$Rows;", Cond.methodLink RX3 3 yX0_init, Cond.instanceMethod yX0_init, Cond.initialized RX0, Cond.code yX0_init cX0_init 3 none]
def wsX7_make_r3 : List Cond := [Cond.methodLink RX0 1 objectInit, Cond.fieldLink RX0 7 "KeyAtlas$Body" "kind" "I", Cond.fieldLink RX0 13 "KeyAtlas$Body" "whole" "I", Cond.methodLink RX7 230 yX4_init, Cond.instanceMethod yX4_init, Cond.code yX4_init cX4_init 3 none, Cond.classLink RX4 3 RX5, Cond.fieldLink RX4 14 "KeyAtlas$Linked" "limit" "I", Cond.fieldLink RX4 20 "KeyAtlas$Linked" "isByUse" "Z", Cond.methodLink RX4 9 yX3_init, Cond.methodLink RX7 233 yX6_init, Cond.instanceMethod yX6_init, Cond.code yX6_init cX6_init 2 none, Cond.classLink RX6 5 RX5, Cond.fieldLink RX6 16 "KeyAtlas$Sorted" "order" "I", Cond.fieldLink RX6 22 "KeyAtlas$Sorted" "isTurned" "Z", Cond.constantLong RX6 26 (-9223372036854775808), Cond.fieldLink RX6 28 "KeyAtlas$Sorted" "low" "J", Cond.constantLong RX6 32 (9223372036854775807), Cond.fieldLink RX6 34 "KeyAtlas$Sorted" "high" "J", Cond.methodLink RX6 11 yX3_init, Cond.methodLink RX7 37 yX7_settle, Cond.instanceMethod yX7_settle, Cond.selects RX7 yX7_settle yX7_settle]
def wsX7_make_r4 : List Cond := [Cond.code yX7_settle cX7_settle 3 (some .int), Cond.classLink RX7 170 "java/lang/IllegalStateException", Cond.initialized "java/lang/IllegalStateException", Cond.fieldLink RX7 11 "KeyAtlas" "bodies" "[LKeyAtlas$Body;"]
def wsX7_make : List Cond := .code yX7_make cX7_make 4 (some .int) :: ((wsX7_make_r1 ++ (wsX7_make_r2 ++ (wsX7_make_r3 ++ wsX7_make_r4))) ++ wsJxde1cd0 ++ wsX20 ++ wsX40 ++ wsX60 ++ wsX50 ++ wsX10 ++ wsX70 ++ (vx_atS RX7 19 "java/lang/IllegalArgumentException" ["java/lang/RuntimeException", "java/lang/Exception"]).filter goodWord ++ (vx_atS RX7 174 "java/lang/IllegalStateException" ["java/lang/RuntimeException", "java/lang/Exception"]).filter goodWord)
def wsX7_bodyOrNull : List Cond := .code yX7_bodyOrNull cX7_bodyOrNull 2 (some (.object "KeyAtlas$Body")) :: ([.fieldLink RX7 11 "KeyAtlas" "bodies" "[LKeyAtlas$Body;"] ++ wsX70)
def wsX7_howManyBodies : List Cond := .code yX7_howManyBodies cX7_howManyBodies 3 (some .int) :: ([.fieldLink RX7 11 "KeyAtlas" "bodies" "[LKeyAtlas$Body;"] ++ wsX70)
def wsX7_kindOf : List Cond := .code yX7_kindOf cX7_kindOf 3 (some .int) :: ([.fieldLink RX7 258 "KeyAtlas$Body" "kind" "I", .methodLink RX7 236 yX7_bodyOrNull, .instanceMethod yX7_bodyOrNull, .selects RX7 yX7_bodyOrNull yX7_bodyOrNull, .initialized RX7, .code yX7_bodyOrNull cX7_bodyOrNull 2 (some (.object "KeyAtlas$Body")), .fieldLink RX7 11 "KeyAtlas" "bodies" "[LKeyAtlas$Body;"] ++ wsX10 ++ wsX20 ++ wsX40 ++ wsX60 ++ wsX70)
def wsX8_init : List Cond := .code yX8_init cX8_init 1 none :: ([.methodLink RX8 1 objectInit, .instanceMethod objectInit, .code objectInit ⟨#[0xb1]⟩ 1 none, .arrayClass .int, .fieldLink RX8 7 "KeyAtlasModel" "kind" "[I", .constant RX8 13 (67200), .fieldLink RX8 14 "KeyAtlasModel" "cell" "[I", .fieldLink RX8 17 "KeyAtlasModel" "size" "[I", .fieldLink RX8 20 "KeyAtlasModel" "first" "[I", .fieldLink RX8 23 "KeyAtlasModel" "second" "[I", .fieldLink RX8 26 "KeyAtlasModel" "table" "[I", .fieldLink RX8 29 "KeyAtlasModel" "changes" "[I", .fieldLink RX8 32 "KeyAtlasModel" "parent" "[I", .fieldLink RX8 35 "KeyAtlasModel" "from" "[I", .fieldLink RX8 38 "KeyAtlasModel" "to" "[I", .fieldLink RX8 41 "KeyAtlasModel" "way" "[I", .fieldLink RX8 44 "KeyAtlasModel" "seen" "[I", .fieldLink RX8 47 "KeyAtlasModel" "keys" "[I", .fieldLink RX8 50 "KeyAtlasModel" "values" "[I", .arrayClass .boolean, .fieldLink RX8 53 "KeyAtlasModel" "bushy" "[Z", .fieldLink RX8 57 "KeyAtlasModel" "gone" "[Z"] ++ wsX80)
def wsX8_thrown : List Cond := .code yX8_thrown cX8_thrown 1 (some .int) :: ([.fieldLink RX8 60 "KeyAtlasModel" "thrown" "I"] ++ wsX80)
def wsX8_refuse : List Cond := .code yX8_refuse cX8_refuse 2 (some .int) :: ([.fieldLink RX8 60 "KeyAtlasModel" "thrown" "I"] ++ wsX80)
def wsX8_in : List Cond := .code yX8_in cX8_in 3 (some .boolean) :: ([])
def wsX8_isThere : List Cond := .code yX8_isThere cX8_isThere 2 (some .boolean) :: ([.fieldLink RX8 7 "KeyAtlasModel" "kind" "[I", .methodLink RX8 64 yX8_in, .static yX8_in, .initialized RX8, .code yX8_in cX8_in 3 (some .boolean)] ++ wsX80)
def wsX8_free : List Cond := .code yX8_free cX8_free 2 (some .int) :: ([.fieldLink RX8 7 "KeyAtlasModel" "kind" "[I"] ++ wsX80)
def wsX8_born : List Cond := .code yX8_born cX8_born 3 (some .int) :: ([.fieldLink RX8 7 "KeyAtlasModel" "kind" "[I", .fieldLink RX8 17 "KeyAtlasModel" "size" "[I", .fieldLink RX8 26 "KeyAtlasModel" "table" "[I", .fieldLink RX8 29 "KeyAtlasModel" "changes" "[I", .fieldLink RX8 32 "KeyAtlasModel" "parent" "[I"] ++ wsX80)
def wsX8_make : List Cond := .code yX8_make cX8_make 6 (some .int) :: ([.fieldLink RX8 60 "KeyAtlasModel" "thrown" "I", .fieldLink RX8 20 "KeyAtlasModel" "first" "[I", .fieldLink RX8 23 "KeyAtlasModel" "second" "[I", .methodLink RX8 64 yX8_in, .static yX8_in, .initialized RX8, .code yX8_in cX8_in 3 (some .boolean), .methodLink RX8 68 yX8_refuse, .instanceMethod yX8_refuse, .selects RX8 yX8_refuse yX8_refuse, .code yX8_refuse cX8_refuse 2 (some .int), .methodLink RX8 72 yX8_free, .instanceMethod yX8_free, .selects RX8 yX8_free yX8_free, .code yX8_free cX8_free 2 (some .int), .fieldLink RX8 7 "KeyAtlasModel" "kind" "[I", .methodLink RX8 76 yX8_born, .instanceMethod yX8_born, .selects RX8 yX8_born yX8_born, .code yX8_born cX8_born 3 (some .int), .fieldLink RX8 17 "KeyAtlasModel" "size" "[I", .fieldLink RX8 26 "KeyAtlasModel" "table" "[I", .fieldLink RX8 29 "KeyAtlasModel" "changes" "[I", .fieldLink RX8 32 "KeyAtlasModel" "parent" "[I"] ++ wsX80)
def wsX8_isMap : List Cond := .code yX8_isMap cX8_isMap 2 (some .boolean) :: ([.fieldLink RX8 7 "KeyAtlasModel" "kind" "[I"] ++ wsX80)
theorem dX0_init_0 : decode cX0_init 0 = .ok (.aload_n 0, 1) := by decide +kernel
theorem dX0_init_1 : decode cX0_init 1 = .ok (.invokespecial 1, 3) := by decide +kernel
theorem dX0_init_4 : decode cX0_init 4 = .ok (.aload_n 0, 1) := by decide +kernel
theorem dX0_init_5 : decode cX0_init 5 = .ok (.iload_n 1, 1) := by decide +kernel
theorem dX0_init_6 : decode cX0_init 6 = .ok (.putfield 7, 3) := by decide +kernel
theorem dX0_init_9 : decode cX0_init 9 = .ok (.aload_n 0, 1) := by decide +kernel
theorem dX0_init_10 : decode cX0_init 10 = .ok (.iload_n 2, 1) := by decide +kernel
theorem dX0_init_11 : decode cX0_init 11 = .ok (.putfield 13, 3) := by decide +kernel
theorem dX0_init_14 : decode cX0_init 14 = .ok (.return_, 1) := by decide +kernel
set_option maxRecDepth 20000 in
theorem ggX2_init_X5_init : GoodIn wsX2_init wsX5_init := goodIn_r _ [9, 10, 11, 12, 13, 14, 15, 28, 29, 30, 31] (by decide +kernel) (by decide +kernel)
set_option maxRecDepth 20000 in
theorem gX2_init_X5_init_n5 : GoodIn wsX2_init (wsX5_init) := ggX2_init_X5_init
set_option maxRecDepth 20000 in
theorem ggX2_init_X3_init : GoodIn wsX2_init wsX3_init := goodIn_r _ [19, 20, 21, 22, 23, 24, 25, 11, 12, 26, 27, 32, 33, 34, 35, 36, 37, 38, 39, 40, 41, 42, 43, 44, 45, 46, 47, 48, 49, 50, 51, 52, 53, 54, 55, 56] (by decide +kernel) (by decide +kernel)
set_option maxRecDepth 20000 in
theorem gX2_init_X3_init : GoodIn wsX2_init (wsX3_init) := ggX2_init_X3_init
theorem dX2_init_0 : decode cX2_init 0 = .ok (.aload_n 0, 1) := by decide +kernel
theorem dX2_init_1 : decode cX2_init 1 = .ok (.iconst 0, 1) := by decide +kernel
theorem dX2_init_2 : decode cX2_init 2 = .ok (.iconst (-1), 1) := by decide +kernel
theorem dX2_init_3 : decode cX2_init 3 = .ok (.new 3, 3) := by decide +kernel
theorem dX2_init_6 : decode cX2_init 6 = .ok (.dup, 1) := by decide +kernel
theorem dX2_init_7 : decode cX2_init 7 = .ok (.invokespecial 5, 3) := by decide +kernel
theorem dX2_init_10 : decode cX2_init 10 = .ok (.invokespecial 9, 3) := by decide +kernel
theorem dX2_init_13 : decode cX2_init 13 = .ok (.aload_n 0, 1) := by decide +kernel
theorem dX2_init_14 : decode cX2_init 14 = .ok (.iconst 0, 1) := by decide +kernel
theorem dX2_init_15 : decode cX2_init 15 = .ok (.newarray .boolean, 2) := by decide +kernel
theorem dX2_init_17 : decode cX2_init 17 = .ok (.putfield 14, 3) := by decide +kernel
theorem dX2_init_20 : decode cX2_init 20 = .ok (.aload_n 0, 1) := by decide +kernel
theorem dX2_init_21 : decode cX2_init 21 = .ok (.iload_n 1, 1) := by decide +kernel
theorem dX2_init_22 : decode cX2_init 22 = .ok (.putfield 20, 3) := by decide +kernel
theorem dX2_init_25 : decode cX2_init 25 = .ok (.aload_n 0, 1) := by decide +kernel
theorem dX2_init_26 : decode cX2_init 26 = .ok (.iload_n 2, 1) := by decide +kernel
theorem dX2_init_27 : decode cX2_init 27 = .ok (.putfield 24, 3) := by decide +kernel
theorem dX2_init_30 : decode cX2_init 30 = .ok (.return_, 1) := by decide +kernel
set_option maxRecDepth 20000 in
theorem ggX3_init_X0_init : GoodIn wsX3_init wsX0_init := goodIn_r _ [5, 6, 7, 8, 9, 10, 30, 31, 32, 33, 34, 35, 11, 12, 13, 14, 15, 16, 17, 18, 19, 20, 21, 22, 23, 24, 25, 26, 27, 28, 29] (by decide +kernel) (by decide +kernel)
set_option maxRecDepth 20000 in
theorem gX3_init_X0_init : GoodIn wsX3_init (wsX0_init) := ggX3_init_X0_init
theorem dX3_init_0 : decode cX3_init 0 = .ok (.aload_n 0, 1) := by decide +kernel
theorem dX3_init_1 : decode cX3_init 1 = .ok (.iload_n 1, 1) := by decide +kernel
theorem dX3_init_2 : decode cX3_init 2 = .ok (.iload_n 2, 1) := by decide +kernel
theorem dX3_init_3 : decode cX3_init 3 = .ok (.invokespecial 3, 3) := by decide +kernel
theorem dX3_init_6 : decode cX3_init 6 = .ok (.aload_n 0, 1) := by decide +kernel
theorem dX3_init_7 : decode cX3_init 7 = .ok (.aload_n 3, 1) := by decide +kernel
theorem dX3_init_8 : decode cX3_init 8 = .ok (.putfield 9, 3) := by decide +kernel
theorem dX3_init_11 : decode cX3_init 11 = .ok (.return_, 1) := by decide +kernel
set_option maxRecDepth 20000 in
theorem ggX4_init_X5_init : GoodIn wsX4_init wsX5_init := goodIn_r _ [7, 8, 9, 10, 11, 12, 13, 26, 27, 28, 29] (by decide +kernel) (by decide +kernel)
set_option maxRecDepth 20000 in
theorem gX4_init_X5_init_n5 : GoodIn wsX4_init (wsX5_init) := ggX4_init_X5_init
set_option maxRecDepth 20000 in
theorem ggX4_init_X3_init : GoodIn wsX4_init wsX3_init := goodIn_r _ [17, 18, 19, 20, 21, 22, 23, 9, 10, 24, 25, 35, 36, 37, 38, 39, 40, 41, 30, 31, 32, 33, 34, 42, 43, 44, 45, 46, 47, 48, 49, 50, 51, 52, 53, 54] (by decide +kernel) (by decide +kernel)
set_option maxRecDepth 20000 in
theorem gX4_init_X3_init : GoodIn wsX4_init (wsX3_init) := ggX4_init_X3_init
theorem dX4_init_0 : decode cX4_init 0 = .ok (.aload_n 0, 1) := by decide +kernel
theorem dX4_init_1 : decode cX4_init 1 = .ok (.iconst 1, 1) := by decide +kernel
theorem dX4_init_2 : decode cX4_init 2 = .ok (.iconst (-1), 1) := by decide +kernel
theorem dX4_init_3 : decode cX4_init 3 = .ok (.new 3, 3) := by decide +kernel
theorem dX4_init_6 : decode cX4_init 6 = .ok (.dup, 1) := by decide +kernel
theorem dX4_init_7 : decode cX4_init 7 = .ok (.invokespecial 5, 3) := by decide +kernel
theorem dX4_init_10 : decode cX4_init 10 = .ok (.invokespecial 9, 3) := by decide +kernel
theorem dX4_init_13 : decode cX4_init 13 = .ok (.aload_n 0, 1) := by decide +kernel
theorem dX4_init_14 : decode cX4_init 14 = .ok (.iload_n 1, 1) := by decide +kernel
theorem dX4_init_15 : decode cX4_init 15 = .ok (.putfield 14, 3) := by decide +kernel
theorem dX4_init_18 : decode cX4_init 18 = .ok (.aload_n 0, 1) := by decide +kernel
theorem dX4_init_19 : decode cX4_init 19 = .ok (.iload_n 2, 1) := by decide +kernel
theorem dX4_init_20 : decode cX4_init 20 = .ok (.putfield 20, 3) := by decide +kernel
theorem dX4_init_23 : decode cX4_init 23 = .ok (.return_, 1) := by decide +kernel
theorem dX5_init_0 : decode cX5_init 0 = .ok (.aload_n 0, 1) := by decide +kernel
theorem dX5_init_1 : decode cX5_init 1 = .ok (.invokespecial 3, 3) := by decide +kernel
theorem dX5_init_4 : decode cX5_init 4 = .ok (.aload_n 0, 1) := by decide +kernel
theorem dX5_init_5 : decode cX5_init 5 = .ok (.bipush 16, 2) := by decide +kernel
theorem dX5_init_7 : decode cX5_init 7 = .ok (.newarray .int, 2) := by decide +kernel
theorem dX5_init_9 : decode cX5_init 9 = .ok (.putfield 9, 3) := by decide +kernel
theorem dX5_init_12 : decode cX5_init 12 = .ok (.aload_n 0, 1) := by decide +kernel
theorem dX5_init_13 : decode cX5_init 13 = .ok (.bipush 16, 2) := by decide +kernel
theorem dX5_init_15 : decode cX5_init 15 = .ok (.newarray .int, 2) := by decide +kernel
theorem dX5_init_17 : decode cX5_init 17 = .ok (.putfield 15, 3) := by decide +kernel
theorem dX5_init_20 : decode cX5_init 20 = .ok (.return_, 1) := by decide +kernel
set_option maxRecDepth 20000 in
theorem ggX6_init_X5_init : GoodIn wsX6_init wsX5_init := goodIn_r _ [11, 12, 13, 14, 15, 16, 17, 30, 31, 32, 33] (by decide +kernel) (by decide +kernel)
set_option maxRecDepth 20000 in
theorem gX6_init_X5_init_n7 : GoodIn wsX6_init (wsX5_init) := ggX6_init_X5_init
set_option maxRecDepth 20000 in
theorem ggX6_init_X3_init : GoodIn wsX6_init wsX3_init := goodIn_r _ [21, 22, 23, 24, 25, 26, 27, 13, 14, 28, 29, 41, 42, 43, 44, 45, 46, 47, 48, 49, 50, 51, 52, 34, 35, 36, 37, 38, 39, 40, 53, 54, 55, 56, 57, 58] (by decide +kernel) (by decide +kernel)
set_option maxRecDepth 20000 in
theorem gX6_init_X3_init : GoodIn wsX6_init (wsX3_init) := ggX6_init_X3_init
theorem dX6_init_0 : decode cX6_init 0 = .ok (.aload_n 0, 1) := by decide +kernel
theorem dX6_init_1 : decode cX6_init 1 = .ok (.iconst 2, 1) := by decide +kernel
theorem dX6_init_2 : decode cX6_init 2 = .ok (.iconst (-1), 1) := by decide +kernel
theorem dX6_init_3 : decode cX6_init 3 = .ok (.new 5, 3) := by decide +kernel
theorem dX6_init_6 : decode cX6_init 6 = .ok (.dup, 1) := by decide +kernel
theorem dX6_init_7 : decode cX6_init 7 = .ok (.invokespecial 7, 3) := by decide +kernel
theorem dX6_init_10 : decode cX6_init 10 = .ok (.invokespecial 11, 3) := by decide +kernel
theorem dX6_init_13 : decode cX6_init 13 = .ok (.aload_n 0, 1) := by decide +kernel
theorem dX6_init_14 : decode cX6_init 14 = .ok (.iload_n 1, 1) := by decide +kernel
theorem dX6_init_15 : decode cX6_init 15 = .ok (.putfield 16, 3) := by decide +kernel
theorem dX6_init_18 : decode cX6_init 18 = .ok (.aload_n 0, 1) := by decide +kernel
theorem dX6_init_19 : decode cX6_init 19 = .ok (.iconst 0, 1) := by decide +kernel
theorem dX6_init_20 : decode cX6_init 20 = .ok (.putfield 22, 3) := by decide +kernel
theorem dX6_init_23 : decode cX6_init 23 = .ok (.aload_n 0, 1) := by decide +kernel
theorem dX6_init_24 : decode cX6_init 24 = .ok (.ldc2_w 26, 3) := by decide +kernel
theorem dX6_init_27 : decode cX6_init 27 = .ok (.putfield 28, 3) := by decide +kernel
theorem dX6_init_30 : decode cX6_init 30 = .ok (.aload_n 0, 1) := by decide +kernel
theorem dX6_init_31 : decode cX6_init 31 = .ok (.ldc2_w 32, 3) := by decide +kernel
theorem dX6_init_34 : decode cX6_init 34 = .ok (.putfield 34, 3) := by decide +kernel
theorem dX6_init_37 : decode cX6_init 37 = .ok (.return_, 1) := by decide +kernel
theorem dX7_init_0 : decode cX7_init 0 = .ok (.aload_n 0, 1) := by decide +kernel
theorem dX7_init_1 : decode cX7_init 1 = .ok (.invokespecial 1, 3) := by decide +kernel
theorem dX7_init_4 : decode cX7_init 4 = .ok (.aload_n 0, 1) := by decide +kernel
theorem dX7_init_5 : decode cX7_init 5 = .ok (.bipush 16, 2) := by decide +kernel
theorem dX7_init_7 : decode cX7_init 7 = .ok (.anewarray 9, 3) := by decide +kernel
theorem dX7_init_10 : decode cX7_init 10 = .ok (.putfield 11, 3) := by decide +kernel
theorem dX7_init_13 : decode cX7_init 13 = .ok (.return_, 1) := by decide +kernel
set_option maxRecDepth 20000 in
theorem ggX7_make_X7_areInRange : GoodIn wsX7_make wsX7_areInRange := goodIn_r _ [9] (by decide +kernel) (by decide +kernel)
set_option maxRecDepth 20000 in
theorem gX7_make_X7_areInRange : GoodIn wsX7_make (va_wsS RX7 27 yX7_areInRange wsX7_areInRange) := goodIn_app (goodIn_of _ (by decide +kernel)) ggX7_make_X7_areInRange
set_option maxRecDepth 20000 in
theorem ggX7_make_X7_newMap : GoodIn wsX7_make wsX7_newMap := goodIn_r _ [12, 13, 14, 15, 16, 17, 18, 19, 20, 21, 22, 23, 24, 25, 26, 27, 28, 29, 30, 31, 32, 33, 34, 35, 36, 37, 38, 39, 40, 41, 42, 43, 44, 45, 46, 47, 48, 49, 50, 51, 52, 53, 54, 55, 56, 57, 58, 59, 60, 61, 62, 63, 64, 65, 66, 67, 68, 69, 83, 84, 85, 86, 87, 88, 89, 90, 91, 92, 93, 94, 95, 96, 97, 98, 99, 100, 101, 102, 103, 104, 105, 106, 107, 108, 109, 110, 111] (by decide +kernel) (by decide +kernel)
set_option maxRecDepth 20000 in
theorem gX7_make_X7_newMap : GoodIn wsX7_make (va_wsS RX7 33 yX7_newMap wsX7_newMap) := goodIn_app (goodIn_of _ (by decide +kernel)) ggX7_make_X7_newMap
set_option maxRecDepth 20000 in
theorem ggX7_make_X7_settle : GoodIn wsX7_make wsX7_settle := goodIn_ca (goodIn_r _ [73, 74, 75, 76, 112] (by decide +kernel) (by decide +kernel)) (goodIn_sub (fun _ h => List.mem_cons_of_mem _ (List.mem_append_right _ h)) (by decide +kernel))
set_option maxRecDepth 20000 in
theorem gX7_make_X7_settle : GoodIn wsX7_make (wsV RX7 37 RX7 yX7_settle wsX7_settle) := goodIn_app (goodIn_of _ (by decide +kernel)) ggX7_make_X7_settle
theorem dX7_make_0 : decode cX7_make 0 = .ok (.iload_n 1, 1) := by decide +kernel
theorem dX7_make_1 : decode cX7_make 1 = .ok (.ifCond .lt 8, 3) := by decide +kernel
theorem dX7_make_4 : decode cX7_make 4 = .ok (.iload_n 1, 1) := by decide +kernel
theorem dX7_make_5 : decode cX7_make 5 = .ok (.iconst 2, 1) := by decide +kernel
theorem dX7_make_6 : decode cX7_make 6 = .ok (.if_icmp .le 13, 3) := by decide +kernel
theorem dX7_make_9 : decode cX7_make 9 = .ok (.new 15, 3) := by decide +kernel
theorem dX7_make_12 : decode cX7_make 12 = .ok (.dup, 1) := by decide +kernel
theorem dX7_make_13 : decode cX7_make 13 = .ok (.ldc 17, 2) := by decide +kernel
theorem dX7_make_15 : decode cX7_make 15 = .ok (.invokespecial 19, 3) := by decide +kernel
theorem dX7_make_18 : decode cX7_make 18 = .ok (.athrow, 1) := by decide +kernel
theorem dX7_make_19 : decode cX7_make 19 = .ok (.iload_n 1, 1) := by decide +kernel
theorem dX7_make_20 : decode cX7_make 20 = .ok (.ifCond .ne 17, 3) := by decide +kernel
theorem dX7_make_23 : decode cX7_make 23 = .ok (.iload_n 2, 1) := by decide +kernel
theorem dX7_make_24 : decode cX7_make 24 = .ok (.ifCond .ge 13, 3) := by decide +kernel
theorem dX7_make_27 : decode cX7_make 27 = .ok (.new 22, 3) := by decide +kernel
theorem dX7_make_30 : decode cX7_make 30 = .ok (.dup, 1) := by decide +kernel
theorem dX7_make_31 : decode cX7_make 31 = .ok (.ldc 24, 2) := by decide +kernel
theorem dX7_make_33 : decode cX7_make 33 = .ok (.invokespecial 26, 3) := by decide +kernel
theorem dX7_make_36 : decode cX7_make 36 = .ok (.athrow, 1) := by decide +kernel
theorem dX7_make_37 : decode cX7_make 37 = .ok (.iload_n 1, 1) := by decide +kernel
theorem dX7_make_38 : decode cX7_make 38 = .ok (.iload_n 2, 1) := by decide +kernel
theorem dX7_make_39 : decode cX7_make 39 = .ok (.iload_n 3, 1) := by decide +kernel
theorem dX7_make_40 : decode cX7_make 40 = .ok (.invokestatic 27, 3) := by decide +kernel
theorem dX7_make_43 : decode cX7_make 43 = .ok (.ifCond .ne 13, 3) := by decide +kernel
theorem dX7_make_46 : decode cX7_make 46 = .ok (.new 15, 3) := by decide +kernel
theorem dX7_make_49 : decode cX7_make 49 = .ok (.dup, 1) := by decide +kernel
theorem dX7_make_50 : decode cX7_make 50 = .ok (.ldc 31, 2) := by decide +kernel
theorem dX7_make_52 : decode cX7_make 52 = .ok (.invokespecial 19, 3) := by decide +kernel
theorem dX7_make_55 : decode cX7_make 55 = .ok (.athrow, 1) := by decide +kernel
theorem dX7_make_56 : decode cX7_make 56 = .ok (.aload_n 0, 1) := by decide +kernel
theorem dX7_make_57 : decode cX7_make 57 = .ok (.iload_n 1, 1) := by decide +kernel
theorem dX7_make_58 : decode cX7_make 58 = .ok (.iload_n 2, 1) := by decide +kernel
theorem dX7_make_59 : decode cX7_make 59 = .ok (.iload_n 3, 1) := by decide +kernel
theorem dX7_make_60 : decode cX7_make 60 = .ok (.invokestatic 33, 3) := by decide +kernel
theorem dX7_make_63 : decode cX7_make 63 = .ok (.invokevirtual 37, 3) := by decide +kernel
theorem dX7_make_66 : decode cX7_make 66 = .ok (.ireturn, 1) := by decide +kernel
theorem dX7_drop_0 : decode cX7_drop 0 = .ok (.aload_n 0, 1) := by decide +kernel
theorem dX7_drop_1 : decode cX7_drop 1 = .ok (.iload_n 1, 1) := by decide +kernel
theorem dX7_drop_2 : decode cX7_drop 2 = .ok (.invokevirtual 41, 3) := by decide +kernel
theorem dX7_map_0 : decode cX7_map 0 = .ok (.aload_n 0, 1) := by decide +kernel
theorem dX7_map_1 : decode cX7_map 1 = .ok (.iload_n 1, 1) := by decide +kernel
theorem dX7_map_2 : decode cX7_map 2 = .ok (.invokevirtual 41, 3) := by decide +kernel
theorem dX7_view_0 : decode cX7_view 0 = .ok (.aload_n 0, 1) := by decide +kernel
theorem dX7_view_1 : decode cX7_view 1 = .ok (.iload_n 1, 1) := by decide +kernel
theorem dX7_view_2 : decode cX7_view 2 = .ok (.invokevirtual 41, 3) := by decide +kernel
theorem dX7_cursor_0 : decode cX7_cursor 0 = .ok (.aload_n 0, 1) := by decide +kernel
theorem dX7_cursor_1 : decode cX7_cursor 1 = .ok (.new 157, 3) := by decide +kernel
theorem dX7_cursor_4 : decode cX7_cursor 4 = .ok (.dup, 1) := by decide +kernel
theorem dX7_cursor_5 : decode cX7_cursor 5 = .ok (.iload_n 1, 1) := by decide +kernel
theorem dX7_cursor_6 : decode cX7_cursor 6 = .ok (.aload_n 0, 1) := by decide +kernel
theorem dX7_cursor_7 : decode cX7_cursor 7 = .ok (.iload_n 1, 1) := by decide +kernel
theorem dX7_cursor_8 : decode cX7_cursor 8 = .ok (.invokevirtual 41, 3) := by decide +kernel
theorem dX7_move_0 : decode cX7_move 0 = .ok (.aload_n 0, 1) := by decide +kernel
theorem dX7_move_1 : decode cX7_move 1 = .ok (.iload_n 1, 1) := by decide +kernel
theorem dX7_move_2 : decode cX7_move 2 = .ok (.invokevirtual 41, 3) := by decide +kernel
theorem dX7_item_0 : decode cX7_item 0 = .ok (.aload_n 0, 1) := by decide +kernel
theorem dX7_item_1 : decode cX7_item 1 = .ok (.iload_n 1, 1) := by decide +kernel
theorem dX7_item_2 : decode cX7_item 2 = .ok (.invokevirtual 41, 3) := by decide +kernel
theorem dX7_count_0 : decode cX7_count 0 = .ok (.iload_n 1, 1) := by decide +kernel
theorem dX7_count_1 : decode cX7_count 1 = .ok (.ifCond .ne 8, 3) := by decide +kernel
theorem dX7_count_4 : decode cX7_count 4 = .ok (.aload_n 0, 1) := by decide +kernel
theorem dX7_count_5 : decode cX7_count 5 = .ok (.invokevirtual 212, 3) := by decide +kernel
theorem dX7_count_8 : decode cX7_count 8 = .ok (.ireturn, 1) := by decide +kernel
theorem dX7_count_9 : decode cX7_count 9 = .ok (.iload_n 1, 1) := by decide +kernel
theorem dX7_count_10 : decode cX7_count 10 = .ok (.bipush 10, 2) := by decide +kernel
theorem dX7_count_12 : decode cX7_count 12 = .ok (.if_icmp .lt 18, 3) := by decide +kernel
theorem dX7_count_15 : decode cX7_count 15 = .ok (.iload_n 1, 1) := by decide +kernel
theorem dX7_count_16 : decode cX7_count 16 = .ok (.bipush 26, 2) := by decide +kernel
theorem dX7_count_18 : decode cX7_count 18 = .ok (.if_icmp .ge 12, 3) := by decide +kernel
theorem dX7_count_21 : decode cX7_count 21 = .ok (.aload_n 0, 1) := by decide +kernel
theorem dX7_count_22 : decode cX7_count 22 = .ok (.iload_n 1, 1) := by decide +kernel
theorem dX7_count_23 : decode cX7_count 23 = .ok (.bipush 10, 2) := by decide +kernel
theorem dX7_count_25 : decode cX7_count 25 = .ok (.isub, 1) := by decide +kernel
theorem dX7_count_26 : decode cX7_count 26 = .ok (.invokevirtual 215, 3) := by decide +kernel
theorem dX7_count_29 : decode cX7_count 29 = .ok (.ireturn, 1) := by decide +kernel
theorem dX7_count_30 : decode cX7_count 30 = .ok (.iload_n 1, 1) := by decide +kernel
theorem dX7_count_31 : decode cX7_count 31 = .ok (.bipush 30, 2) := by decide +kernel
theorem dX7_count_33 : decode cX7_count 33 = .ok (.if_icmp .lt 18, 3) := by decide +kernel
theorem dX7_count_36 : decode cX7_count 36 = .ok (.iload_n 1, 1) := by decide +kernel
theorem dX7_count_37 : decode cX7_count 37 = .ok (.bipush 46, 2) := by decide +kernel
theorem dX7_count_39 : decode cX7_count 39 = .ok (.if_icmp .ge 12, 3) := by decide +kernel
theorem dX7_count_42 : decode cX7_count 42 = .ok (.aload_n 0, 1) := by decide +kernel
theorem dX7_count_43 : decode cX7_count 43 = .ok (.iload_n 1, 1) := by decide +kernel
theorem dX7_count_44 : decode cX7_count 44 = .ok (.bipush 30, 2) := by decide +kernel
theorem dX7_count_46 : decode cX7_count 46 = .ok (.isub, 1) := by decide +kernel
theorem dX7_count_47 : decode cX7_count 47 = .ok (.invokevirtual 218, 3) := by decide +kernel
theorem dX7_count_50 : decode cX7_count 50 = .ok (.ireturn, 1) := by decide +kernel
theorem dX7_count_51 : decode cX7_count 51 = .ok (.new 15, 3) := by decide +kernel
theorem dX7_count_54 : decode cX7_count 54 = .ok (.dup, 1) := by decide +kernel
theorem dX7_count_55 : decode cX7_count 55 = .ok (.ldc 221, 2) := by decide +kernel
theorem dX7_count_57 : decode cX7_count 57 = .ok (.invokespecial 19, 3) := by decide +kernel
theorem dX7_count_60 : decode cX7_count 60 = .ok (.athrow, 1) := by decide +kernel
theorem dX7_areInRange_0 : decode cX7_areInRange 0 = .ok (.iload_n 0, 1) := by decide +kernel
theorem dX7_areInRange_1 : decode cX7_areInRange 1 = .ok (.lookupswitch 79 #[(0, 27), (1, 53)], 27) := by decide +kernel
theorem dX7_areInRange_28 : decode cX7_areInRange 28 = .ok (.iload_n 1, 1) := by decide +kernel
theorem dX7_areInRange_29 : decode cX7_areInRange 29 = .ok (.ifCond .lt 23, 3) := by decide +kernel
theorem dX7_areInRange_32 : decode cX7_areInRange 32 = .ok (.iload_n 1, 1) := by decide +kernel
theorem dX7_areInRange_33 : decode cX7_areInRange 33 = .ok (.sipush 1000, 3) := by decide +kernel
theorem dX7_areInRange_36 : decode cX7_areInRange 36 = .ok (.if_icmp .gt 16, 3) := by decide +kernel
theorem dX7_areInRange_39 : decode cX7_areInRange 39 = .ok (.iload_n 2, 1) := by decide +kernel
theorem dX7_areInRange_40 : decode cX7_areInRange 40 = .ok (.ifCond .lt 12, 3) := by decide +kernel
theorem dX7_areInRange_43 : decode cX7_areInRange 43 = .ok (.iload_n 2, 1) := by decide +kernel
theorem dX7_areInRange_44 : decode cX7_areInRange 44 = .ok (.iconst 3, 1) := by decide +kernel
theorem dX7_areInRange_45 : decode cX7_areInRange 45 = .ok (.if_icmp .gt 7, 3) := by decide +kernel
theorem dX7_areInRange_48 : decode cX7_areInRange 48 = .ok (.iconst 1, 1) := by decide +kernel
theorem dX7_areInRange_49 : decode cX7_areInRange 49 = .ok (.goto 4, 3) := by decide +kernel
theorem dX7_areInRange_52 : decode cX7_areInRange 52 = .ok (.iconst 0, 1) := by decide +kernel
theorem dX7_areInRange_53 : decode cX7_areInRange 53 = .ok (.ireturn, 1) := by decide +kernel
theorem dX7_areInRange_54 : decode cX7_areInRange 54 = .ok (.iload_n 1, 1) := by decide +kernel
theorem dX7_areInRange_55 : decode cX7_areInRange 55 = .ok (.ifCond .lt 23, 3) := by decide +kernel
theorem dX7_areInRange_58 : decode cX7_areInRange 58 = .ok (.iload_n 1, 1) := by decide +kernel
theorem dX7_areInRange_59 : decode cX7_areInRange 59 = .ok (.sipush 1000, 3) := by decide +kernel
theorem dX7_areInRange_62 : decode cX7_areInRange 62 = .ok (.if_icmp .gt 16, 3) := by decide +kernel
theorem dX7_areInRange_65 : decode cX7_areInRange 65 = .ok (.iload_n 2, 1) := by decide +kernel
theorem dX7_areInRange_66 : decode cX7_areInRange 66 = .ok (.ifCond .lt 12, 3) := by decide +kernel
theorem dX7_areInRange_69 : decode cX7_areInRange 69 = .ok (.iload_n 2, 1) := by decide +kernel
theorem dX7_areInRange_70 : decode cX7_areInRange 70 = .ok (.iconst 1, 1) := by decide +kernel
theorem dX7_areInRange_71 : decode cX7_areInRange 71 = .ok (.if_icmp .gt 7, 3) := by decide +kernel
theorem dX7_areInRange_74 : decode cX7_areInRange 74 = .ok (.iconst 1, 1) := by decide +kernel
theorem dX7_areInRange_75 : decode cX7_areInRange 75 = .ok (.goto 4, 3) := by decide +kernel
theorem dX7_areInRange_78 : decode cX7_areInRange 78 = .ok (.iconst 0, 1) := by decide +kernel
theorem dX7_areInRange_79 : decode cX7_areInRange 79 = .ok (.ireturn, 1) := by decide +kernel
theorem dX7_areInRange_80 : decode cX7_areInRange 80 = .ok (.iload_n 1, 1) := by decide +kernel
theorem dX7_areInRange_81 : decode cX7_areInRange 81 = .ok (.ifCond .lt 12, 3) := by decide +kernel
theorem dX7_areInRange_84 : decode cX7_areInRange 84 = .ok (.iload_n 1, 1) := by decide +kernel
theorem dX7_areInRange_85 : decode cX7_areInRange 85 = .ok (.iconst 3, 1) := by decide +kernel
theorem dX7_areInRange_86 : decode cX7_areInRange 86 = .ok (.if_icmp .gt 7, 3) := by decide +kernel
theorem dX7_areInRange_89 : decode cX7_areInRange 89 = .ok (.iconst 1, 1) := by decide +kernel
theorem dX7_areInRange_90 : decode cX7_areInRange 90 = .ok (.goto 4, 3) := by decide +kernel
theorem dX7_areInRange_93 : decode cX7_areInRange 93 = .ok (.iconst 0, 1) := by decide +kernel
theorem dX7_areInRange_94 : decode cX7_areInRange 94 = .ok (.ireturn, 1) := by decide +kernel
set_option maxRecDepth 20000 in
theorem ggX7_newMap_X2_init : GoodIn wsX7_newMap wsX2_init := goodIn_r _ [12, 13, 14, 15, 16, 17, 18, 19, 20, 21, 22, 23, 24, 25, 26, 27, 28, 29, 30, 31, 32, 33, 34, 35, 36, 37, 38, 39, 77, 78, 79, 80, 58, 59, 60, 61, 62, 63, 64, 65, 66, 67, 68, 69, 70, 71, 72, 73, 74, 75, 76, 81, 82, 83, 84, 85, 86] (by decide +kernel) (by decide +kernel)
set_option maxRecDepth 20000 in
theorem gX7_newMap_X2_init : GoodIn wsX7_newMap (wsX2_init) := ggX7_newMap_X2_init
set_option maxRecDepth 20000 in
theorem ggX7_newMap_X4_init : GoodIn wsX7_newMap wsX4_init := goodIn_r _ [42, 43, 14, 15, 44, 45, 20, 21, 22, 23, 24, 25, 26, 27, 46, 29, 30, 31, 32, 33, 34, 35, 36, 37, 38, 39, 77, 78, 79, 80, 65, 66, 67, 68, 69, 58, 59, 60, 61, 62, 63, 64, 70, 71, 72, 73, 74, 75, 76, 81, 82, 83, 84, 85, 86] (by decide +kernel) (by decide +kernel)
set_option maxRecDepth 20000 in
theorem gX7_newMap_X4_init : GoodIn wsX7_newMap (wsX4_init) := ggX7_newMap_X4_init
set_option maxRecDepth 20000 in
theorem ggX7_newMap_X6_init : GoodIn wsX7_newMap wsX6_init := goodIn_r _ [49, 50, 14, 15, 51, 52, 53, 54, 55, 56, 20, 21, 22, 23, 24, 25, 26, 27, 57, 29, 30, 31, 32, 33, 34, 35, 36, 37, 38, 39, 77, 78, 79, 80, 70, 71, 72, 73, 74, 75, 76, 58, 59, 60, 61, 62, 63, 64, 65, 66, 67, 68, 69, 81, 82, 83, 84, 85, 86] (by decide +kernel) (by decide +kernel)
set_option maxRecDepth 20000 in
theorem gX7_newMap_X6_init : GoodIn wsX7_newMap (wsX6_init) := ggX7_newMap_X6_init
theorem dX7_newMap_0 : decode cX7_newMap 0 = .ok (.iload_n 0, 1) := by decide +kernel
theorem dX7_newMap_1 : decode cX7_newMap 1 = .ok (.lookupswitch 56 #[(0, 27), (1, 37)], 27) := by decide +kernel
theorem dX7_newMap_28 : decode cX7_newMap 28 = .ok (.new 223, 3) := by decide +kernel
theorem dX7_newMap_31 : decode cX7_newMap 31 = .ok (.dup, 1) := by decide +kernel
theorem dX7_newMap_32 : decode cX7_newMap 32 = .ok (.iload_n 1, 1) := by decide +kernel
theorem dX7_newMap_33 : decode cX7_newMap 33 = .ok (.iload_n 2, 1) := by decide +kernel
theorem dX7_newMap_34 : decode cX7_newMap 34 = .ok (.invokespecial 225, 3) := by decide +kernel
theorem dX7_newMap_37 : decode cX7_newMap 37 = .ok (.areturn, 1) := by decide +kernel
theorem dX7_newMap_38 : decode cX7_newMap 38 = .ok (.new 228, 3) := by decide +kernel
theorem dX7_newMap_41 : decode cX7_newMap 41 = .ok (.dup, 1) := by decide +kernel
theorem dX7_newMap_42 : decode cX7_newMap 42 = .ok (.iload_n 1, 1) := by decide +kernel
theorem dX7_newMap_43 : decode cX7_newMap 43 = .ok (.iload_n 2, 1) := by decide +kernel
theorem dX7_newMap_44 : decode cX7_newMap 44 = .ok (.iconst 1, 1) := by decide +kernel
theorem dX7_newMap_45 : decode cX7_newMap 45 = .ok (.if_icmp .ne 7, 3) := by decide +kernel
theorem dX7_newMap_48 : decode cX7_newMap 48 = .ok (.iconst 1, 1) := by decide +kernel
theorem dX7_newMap_49 : decode cX7_newMap 49 = .ok (.goto 4, 3) := by decide +kernel
theorem dX7_newMap_52 : decode cX7_newMap 52 = .ok (.iconst 0, 1) := by decide +kernel
theorem dX7_newMap_53 : decode cX7_newMap 53 = .ok (.invokespecial 230, 3) := by decide +kernel
theorem dX7_newMap_56 : decode cX7_newMap 56 = .ok (.areturn, 1) := by decide +kernel
theorem dX7_newMap_57 : decode cX7_newMap 57 = .ok (.new 147, 3) := by decide +kernel
theorem dX7_newMap_60 : decode cX7_newMap 60 = .ok (.dup, 1) := by decide +kernel
theorem dX7_newMap_61 : decode cX7_newMap 61 = .ok (.iload_n 1, 1) := by decide +kernel
theorem dX7_newMap_62 : decode cX7_newMap 62 = .ok (.invokespecial 233, 3) := by decide +kernel
theorem dX7_newMap_65 : decode cX7_newMap 65 = .ok (.areturn, 1) := by decide +kernel
theorem dX7_bodyAt_0 : decode cX7_bodyAt 0 = .ok (.aload_n 0, 1) := by decide +kernel
theorem dX7_bodyAt_1 : decode cX7_bodyAt 1 = .ok (.iload_n 1, 1) := by decide +kernel
theorem dX7_bodyAt_2 : decode cX7_bodyAt 2 = .ok (.invokevirtual 236, 3) := by decide +kernel
theorem dX7_bodyAt_5 : decode cX7_bodyAt 5 = .ok (.astore_n 2, 1) := by decide +kernel
theorem dX7_bodyAt_6 : decode cX7_bodyAt 6 = .ok (.aload_n 2, 1) := by decide +kernel
theorem dX7_bodyAt_7 : decode cX7_bodyAt 7 = .ok (.ifnonnull 13, 3) := by decide +kernel
theorem dX7_bodyAt_10 : decode cX7_bodyAt 10 = .ok (.new 239, 3) := by decide +kernel
theorem dX7_bodyAt_13 : decode cX7_bodyAt 13 = .ok (.dup, 1) := by decide +kernel
theorem dX7_bodyAt_14 : decode cX7_bodyAt 14 = .ok (.ldc 241, 2) := by decide +kernel
theorem dX7_bodyAt_16 : decode cX7_bodyAt 16 = .ok (.invokespecial 243, 3) := by decide +kernel
theorem dX7_bodyAt_19 : decode cX7_bodyAt 19 = .ok (.athrow, 1) := by decide +kernel
theorem dX7_bodyOrNull_0 : decode cX7_bodyOrNull 0 = .ok (.iload_n 1, 1) := by decide +kernel
theorem dX7_bodyOrNull_1 : decode cX7_bodyOrNull 1 = .ok (.ifCond .lt 21, 3) := by decide +kernel
theorem dX7_bodyOrNull_4 : decode cX7_bodyOrNull 4 = .ok (.iload_n 1, 1) := by decide +kernel
theorem dX7_bodyOrNull_5 : decode cX7_bodyOrNull 5 = .ok (.aload_n 0, 1) := by decide +kernel
theorem dX7_bodyOrNull_6 : decode cX7_bodyOrNull 6 = .ok (.getfield 11, 3) := by decide +kernel
theorem dX7_bodyOrNull_9 : decode cX7_bodyOrNull 9 = .ok (.arraylength, 1) := by decide +kernel
theorem dX7_bodyOrNull_10 : decode cX7_bodyOrNull 10 = .ok (.if_icmp .ge 12, 3) := by decide +kernel
theorem dX7_bodyOrNull_13 : decode cX7_bodyOrNull 13 = .ok (.aload_n 0, 1) := by decide +kernel
theorem dX7_bodyOrNull_14 : decode cX7_bodyOrNull 14 = .ok (.getfield 11, 3) := by decide +kernel
theorem dX7_bodyOrNull_17 : decode cX7_bodyOrNull 17 = .ok (.iload_n 1, 1) := by decide +kernel
theorem dX7_bodyOrNull_18 : decode cX7_bodyOrNull 18 = .ok (.aaload, 1) := by decide +kernel
theorem dX7_bodyOrNull_19 : decode cX7_bodyOrNull 19 = .ok (.goto 4, 3) := by decide +kernel
theorem dX7_bodyOrNull_22 : decode cX7_bodyOrNull 22 = .ok (.aconst_null, 1) := by decide +kernel
theorem dX7_bodyOrNull_23 : decode cX7_bodyOrNull 23 = .ok (.areturn, 1) := by decide +kernel
theorem dX7_settle_0 : decode cX7_settle 0 = .ok (.iconst 0, 1) := by decide +kernel
theorem dX7_settle_1 : decode cX7_settle 1 = .ok (.istore_n 2, 1) := by decide +kernel
theorem dX7_settle_2 : decode cX7_settle 2 = .ok (.iload_n 2, 1) := by decide +kernel
theorem dX7_settle_3 : decode cX7_settle 3 = .ok (.aload_n 0, 1) := by decide +kernel
theorem dX7_settle_4 : decode cX7_settle 4 = .ok (.getfield 11, 3) := by decide +kernel
theorem dX7_settle_7 : decode cX7_settle 7 = .ok (.arraylength, 1) := by decide +kernel
theorem dX7_settle_8 : decode cX7_settle 8 = .ok (.if_icmp .ge 27, 3) := by decide +kernel
theorem dX7_settle_11 : decode cX7_settle 11 = .ok (.aload_n 0, 1) := by decide +kernel
theorem dX7_settle_12 : decode cX7_settle 12 = .ok (.getfield 11, 3) := by decide +kernel
theorem dX7_settle_15 : decode cX7_settle 15 = .ok (.iload_n 2, 1) := by decide +kernel
theorem dX7_settle_16 : decode cX7_settle 16 = .ok (.aaload, 1) := by decide +kernel
theorem dX7_settle_17 : decode cX7_settle 17 = .ok (.ifnonnull 12, 3) := by decide +kernel
theorem dX7_settle_20 : decode cX7_settle 20 = .ok (.aload_n 0, 1) := by decide +kernel
theorem dX7_settle_21 : decode cX7_settle 21 = .ok (.getfield 11, 3) := by decide +kernel
theorem dX7_settle_24 : decode cX7_settle 24 = .ok (.iload_n 2, 1) := by decide +kernel
theorem dX7_settle_25 : decode cX7_settle 25 = .ok (.aload_n 1, 1) := by decide +kernel
theorem dX7_settle_26 : decode cX7_settle 26 = .ok (.aastore, 1) := by decide +kernel
theorem dX7_settle_27 : decode cX7_settle 27 = .ok (.iload_n 2, 1) := by decide +kernel
theorem dX7_settle_28 : decode cX7_settle 28 = .ok (.ireturn, 1) := by decide +kernel
theorem dX7_howManyBodies_0 : decode cX7_howManyBodies 0 = .ok (.iconst 0, 1) := by decide +kernel
theorem dX7_howManyBodies_1 : decode cX7_howManyBodies 1 = .ok (.istore_n 1, 1) := by decide +kernel
theorem dX7_howManyBodies_2 : decode cX7_howManyBodies 2 = .ok (.iconst 0, 1) := by decide +kernel
theorem dX7_howManyBodies_3 : decode cX7_howManyBodies 3 = .ok (.istore_n 2, 1) := by decide +kernel
theorem dX7_howManyBodies_4 : decode cX7_howManyBodies 4 = .ok (.iload_n 2, 1) := by decide +kernel
theorem dX7_howManyBodies_5 : decode cX7_howManyBodies 5 = .ok (.aload_n 0, 1) := by decide +kernel
theorem dX7_howManyBodies_6 : decode cX7_howManyBodies 6 = .ok (.getfield 11, 3) := by decide +kernel
theorem dX7_howManyBodies_9 : decode cX7_howManyBodies 9 = .ok (.arraylength, 1) := by decide +kernel
theorem dX7_howManyBodies_10 : decode cX7_howManyBodies 10 = .ok (.if_icmp .ge 21, 3) := by decide +kernel
theorem dX7_howManyBodies_13 : decode cX7_howManyBodies 13 = .ok (.aload_n 0, 1) := by decide +kernel
theorem dX7_howManyBodies_14 : decode cX7_howManyBodies 14 = .ok (.getfield 11, 3) := by decide +kernel
theorem dX7_howManyBodies_17 : decode cX7_howManyBodies 17 = .ok (.iload_n 2, 1) := by decide +kernel
theorem dX7_howManyBodies_18 : decode cX7_howManyBodies 18 = .ok (.aaload, 1) := by decide +kernel
theorem dX7_howManyBodies_19 : decode cX7_howManyBodies 19 = .ok (.ifnull 6, 3) := by decide +kernel
theorem dX7_howManyBodies_25 : decode cX7_howManyBodies 25 = .ok (.iinc 2 1, 3) := by decide +kernel
theorem dX7_howManyBodies_28 : decode cX7_howManyBodies 28 = .ok (.goto (-24), 3) := by decide +kernel
theorem dX7_howManyBodies_31 : decode cX7_howManyBodies 31 = .ok (.iload_n 1, 1) := by decide +kernel
theorem dX7_howManyBodies_32 : decode cX7_howManyBodies 32 = .ok (.ireturn, 1) := by decide +kernel
set_option maxRecDepth 20000 in
theorem ggX7_kindOf_X7_bodyOrNull : GoodIn wsX7_kindOf wsX7_bodyOrNull := goodIn_r _ [6, 7, 33] (by decide +kernel) (by decide +kernel)
set_option maxRecDepth 20000 in
theorem gX7_kindOf_X7_bodyOrNull : GoodIn wsX7_kindOf (wsV RX7 236 RX7 yX7_bodyOrNull wsX7_bodyOrNull) := goodIn_app (goodIn_of _ (by decide +kernel)) ggX7_kindOf_X7_bodyOrNull
theorem dX7_kindOf_0 : decode cX7_kindOf 0 = .ok (.aload_n 0, 1) := by decide +kernel
theorem dX7_kindOf_1 : decode cX7_kindOf 1 = .ok (.iload_n 1, 1) := by decide +kernel
theorem dX7_kindOf_2 : decode cX7_kindOf 2 = .ok (.invokevirtual 236, 3) := by decide +kernel
theorem dX7_kindOf_5 : decode cX7_kindOf 5 = .ok (.astore_n 2, 1) := by decide +kernel
theorem dX7_kindOf_6 : decode cX7_kindOf 6 = .ok (.aload_n 2, 1) := by decide +kernel
theorem dX7_kindOf_7 : decode cX7_kindOf 7 = .ok (.ifnonnull 7, 3) := by decide +kernel
theorem dX7_kindOf_10 : decode cX7_kindOf 10 = .ok (.iconst (-1), 1) := by decide +kernel
theorem dX7_kindOf_11 : decode cX7_kindOf 11 = .ok (.goto 7, 3) := by decide +kernel
theorem dX7_kindOf_18 : decode cX7_kindOf 18 = .ok (.ireturn, 1) := by decide +kernel
theorem dX7_sizeOf_0 : decode cX7_sizeOf 0 = .ok (.aload_n 0, 1) := by decide +kernel
theorem dX7_sizeOf_1 : decode cX7_sizeOf 1 = .ok (.iload_n 1, 1) := by decide +kernel
theorem dX7_sizeOf_2 : decode cX7_sizeOf 2 = .ok (.invokevirtual 236, 3) := by decide +kernel
theorem dX7_sizeOf_5 : decode cX7_sizeOf 5 = .ok (.astore_n 3, 1) := by decide +kernel
theorem dX7_sizeOf_6 : decode cX7_sizeOf 6 = .ok (.aload_n 3, 1) := by decide +kernel
theorem dX7_sizeOf_7 : decode cX7_sizeOf 7 = .ok (.instanceof 56, 3) := by decide +kernel
theorem dX7_sizeOf_10 : decode cX7_sizeOf 10 = .ok (.ifCond .eq 15, 3) := by decide +kernel
theorem dX7_sizeOf_25 : decode cX7_sizeOf 25 = .ok (.iconst (-1), 1) := by decide +kernel
theorem dX7_sizeOf_26 : decode cX7_sizeOf 26 = .ok (.ireturn, 1) := by decide +kernel
theorem dX8_init_0 : decode cX8_init 0 = .ok (.aload_n 0, 1) := by decide +kernel
theorem dX8_init_1 : decode cX8_init 1 = .ok (.invokespecial 1, 3) := by decide +kernel
theorem dX8_init_4 : decode cX8_init 4 = .ok (.aload_n 0, 1) := by decide +kernel
theorem dX8_init_5 : decode cX8_init 5 = .ok (.bipush 16, 2) := by decide +kernel
theorem dX8_init_7 : decode cX8_init 7 = .ok (.newarray .int, 2) := by decide +kernel
theorem dX8_init_9 : decode cX8_init 9 = .ok (.putfield 7, 3) := by decide +kernel
theorem dX8_init_12 : decode cX8_init 12 = .ok (.aload_n 0, 1) := by decide +kernel
theorem dX8_init_13 : decode cX8_init 13 = .ok (.ldc 13, 2) := by decide +kernel
theorem dX8_init_15 : decode cX8_init 15 = .ok (.newarray .int, 2) := by decide +kernel
theorem dX8_init_17 : decode cX8_init 17 = .ok (.putfield 14, 3) := by decide +kernel
theorem dX8_init_20 : decode cX8_init 20 = .ok (.aload_n 0, 1) := by decide +kernel
theorem dX8_init_21 : decode cX8_init 21 = .ok (.bipush 16, 2) := by decide +kernel
theorem dX8_init_23 : decode cX8_init 23 = .ok (.newarray .int, 2) := by decide +kernel
theorem dX8_init_25 : decode cX8_init 25 = .ok (.putfield 17, 3) := by decide +kernel
theorem dX8_init_28 : decode cX8_init 28 = .ok (.aload_n 0, 1) := by decide +kernel
theorem dX8_init_29 : decode cX8_init 29 = .ok (.bipush 16, 2) := by decide +kernel
theorem dX8_init_31 : decode cX8_init 31 = .ok (.newarray .int, 2) := by decide +kernel
theorem dX8_init_33 : decode cX8_init 33 = .ok (.putfield 20, 3) := by decide +kernel
theorem dX8_init_36 : decode cX8_init 36 = .ok (.aload_n 0, 1) := by decide +kernel
theorem dX8_init_37 : decode cX8_init 37 = .ok (.bipush 16, 2) := by decide +kernel
theorem dX8_init_39 : decode cX8_init 39 = .ok (.newarray .int, 2) := by decide +kernel
theorem dX8_init_41 : decode cX8_init 41 = .ok (.putfield 23, 3) := by decide +kernel
theorem dX8_init_44 : decode cX8_init 44 = .ok (.aload_n 0, 1) := by decide +kernel
theorem dX8_init_45 : decode cX8_init 45 = .ok (.bipush 16, 2) := by decide +kernel
theorem dX8_init_47 : decode cX8_init 47 = .ok (.newarray .int, 2) := by decide +kernel
theorem dX8_init_49 : decode cX8_init 49 = .ok (.putfield 26, 3) := by decide +kernel
theorem dX8_init_52 : decode cX8_init 52 = .ok (.aload_n 0, 1) := by decide +kernel
theorem dX8_init_53 : decode cX8_init 53 = .ok (.bipush 16, 2) := by decide +kernel
theorem dX8_init_55 : decode cX8_init 55 = .ok (.newarray .int, 2) := by decide +kernel
theorem dX8_init_57 : decode cX8_init 57 = .ok (.putfield 29, 3) := by decide +kernel
theorem dX8_init_60 : decode cX8_init 60 = .ok (.aload_n 0, 1) := by decide +kernel
theorem dX8_init_61 : decode cX8_init 61 = .ok (.bipush 16, 2) := by decide +kernel
theorem dX8_init_63 : decode cX8_init 63 = .ok (.newarray .int, 2) := by decide +kernel
theorem dX8_init_65 : decode cX8_init 65 = .ok (.putfield 32, 3) := by decide +kernel
theorem dX8_init_68 : decode cX8_init 68 = .ok (.aload_n 0, 1) := by decide +kernel
theorem dX8_init_69 : decode cX8_init 69 = .ok (.bipush 16, 2) := by decide +kernel
theorem dX8_init_71 : decode cX8_init 71 = .ok (.newarray .int, 2) := by decide +kernel
theorem dX8_init_73 : decode cX8_init 73 = .ok (.putfield 35, 3) := by decide +kernel
theorem dX8_init_76 : decode cX8_init 76 = .ok (.aload_n 0, 1) := by decide +kernel
theorem dX8_init_77 : decode cX8_init 77 = .ok (.bipush 16, 2) := by decide +kernel
theorem dX8_init_79 : decode cX8_init 79 = .ok (.newarray .int, 2) := by decide +kernel
theorem dX8_init_81 : decode cX8_init 81 = .ok (.putfield 38, 3) := by decide +kernel
theorem dX8_init_84 : decode cX8_init 84 = .ok (.aload_n 0, 1) := by decide +kernel
theorem dX8_init_85 : decode cX8_init 85 = .ok (.bipush 16, 2) := by decide +kernel
theorem dX8_init_87 : decode cX8_init 87 = .ok (.newarray .int, 2) := by decide +kernel
theorem dX8_init_89 : decode cX8_init 89 = .ok (.putfield 41, 3) := by decide +kernel
theorem dX8_init_92 : decode cX8_init 92 = .ok (.aload_n 0, 1) := by decide +kernel
theorem dX8_init_93 : decode cX8_init 93 = .ok (.bipush 16, 2) := by decide +kernel
theorem dX8_init_95 : decode cX8_init 95 = .ok (.newarray .int, 2) := by decide +kernel
theorem dX8_init_97 : decode cX8_init 97 = .ok (.putfield 44, 3) := by decide +kernel
theorem dX8_init_100 : decode cX8_init 100 = .ok (.aload_n 0, 1) := by decide +kernel
theorem dX8_init_101 : decode cX8_init 101 = .ok (.sipush 1000, 3) := by decide +kernel
theorem dX8_init_104 : decode cX8_init 104 = .ok (.newarray .int, 2) := by decide +kernel
theorem dX8_init_106 : decode cX8_init 106 = .ok (.putfield 47, 3) := by decide +kernel
theorem dX8_init_109 : decode cX8_init 109 = .ok (.aload_n 0, 1) := by decide +kernel
theorem dX8_init_110 : decode cX8_init 110 = .ok (.sipush 1000, 3) := by decide +kernel
theorem dX8_init_113 : decode cX8_init 113 = .ok (.newarray .int, 2) := by decide +kernel
theorem dX8_init_115 : decode cX8_init 115 = .ok (.putfield 50, 3) := by decide +kernel
theorem dX8_init_118 : decode cX8_init 118 = .ok (.aload_n 0, 1) := by decide +kernel
theorem dX8_init_119 : decode cX8_init 119 = .ok (.sipush 4096, 3) := by decide +kernel
theorem dX8_init_122 : decode cX8_init 122 = .ok (.newarray .boolean, 2) := by decide +kernel
theorem dX8_init_124 : decode cX8_init 124 = .ok (.putfield 53, 3) := by decide +kernel
theorem dX8_init_127 : decode cX8_init 127 = .ok (.aload_n 0, 1) := by decide +kernel
theorem dX8_init_128 : decode cX8_init 128 = .ok (.bipush 16, 2) := by decide +kernel
theorem dX8_init_130 : decode cX8_init 130 = .ok (.newarray .boolean, 2) := by decide +kernel
theorem dX8_init_132 : decode cX8_init 132 = .ok (.putfield 57, 3) := by decide +kernel
theorem dX8_init_135 : decode cX8_init 135 = .ok (.return_, 1) := by decide +kernel
theorem dX8_thrown_0 : decode cX8_thrown 0 = .ok (.aload_n 0, 1) := by decide +kernel
theorem dX8_thrown_1 : decode cX8_thrown 1 = .ok (.getfield 60, 3) := by decide +kernel
theorem dX8_thrown_4 : decode cX8_thrown 4 = .ok (.ireturn, 1) := by decide +kernel
theorem dX8_refuse_0 : decode cX8_refuse 0 = .ok (.aload_n 0, 1) := by decide +kernel
theorem dX8_refuse_1 : decode cX8_refuse 1 = .ok (.iload_n 1, 1) := by decide +kernel
theorem dX8_refuse_2 : decode cX8_refuse 2 = .ok (.putfield 60, 3) := by decide +kernel
theorem dX8_refuse_5 : decode cX8_refuse 5 = .ok (.iconst 0, 1) := by decide +kernel
theorem dX8_refuse_6 : decode cX8_refuse 6 = .ok (.ireturn, 1) := by decide +kernel
theorem dX8_in_0 : decode cX8_in 0 = .ok (.iload_n 0, 1) := by decide +kernel
theorem dX8_in_1 : decode cX8_in 1 = .ok (.iload_n 1, 1) := by decide +kernel
theorem dX8_in_2 : decode cX8_in 2 = .ok (.if_icmp .lt 12, 3) := by decide +kernel
theorem dX8_in_5 : decode cX8_in 5 = .ok (.iload_n 0, 1) := by decide +kernel
theorem dX8_in_6 : decode cX8_in 6 = .ok (.iload_n 2, 1) := by decide +kernel
theorem dX8_in_7 : decode cX8_in 7 = .ok (.if_icmp .gt 7, 3) := by decide +kernel
theorem dX8_in_10 : decode cX8_in 10 = .ok (.iconst 1, 1) := by decide +kernel
theorem dX8_in_11 : decode cX8_in 11 = .ok (.goto 4, 3) := by decide +kernel
theorem dX8_in_14 : decode cX8_in 14 = .ok (.iconst 0, 1) := by decide +kernel
theorem dX8_in_15 : decode cX8_in 15 = .ok (.ireturn, 1) := by decide +kernel
set_option maxRecDepth 20000 in
theorem ggX8_isThere_X8_in : GoodIn wsX8_isThere wsX8_in := goodIn_r _ [5] (by decide +kernel) (by decide +kernel)
set_option maxRecDepth 20000 in
theorem gX8_isThere_X8_in : GoodIn wsX8_isThere (va_wsS RX8 64 yX8_in wsX8_in) := goodIn_app (goodIn_of _ (by decide +kernel)) ggX8_isThere_X8_in
theorem dX8_isThere_0 : decode cX8_isThere 0 = .ok (.iload_n 1, 1) := by decide +kernel
theorem dX8_isThere_1 : decode cX8_isThere 1 = .ok (.iconst 0, 1) := by decide +kernel
theorem dX8_isThere_2 : decode cX8_isThere 2 = .ok (.bipush 15, 2) := by decide +kernel
theorem dX8_isThere_4 : decode cX8_isThere 4 = .ok (.invokestatic 64, 3) := by decide +kernel
theorem dX8_isThere_7 : decode cX8_isThere 7 = .ok (.ifCond .eq 16, 3) := by decide +kernel
theorem dX8_isThere_10 : decode cX8_isThere 10 = .ok (.aload_n 0, 1) := by decide +kernel
theorem dX8_isThere_11 : decode cX8_isThere 11 = .ok (.getfield 7, 3) := by decide +kernel
theorem dX8_isThere_14 : decode cX8_isThere 14 = .ok (.iload_n 1, 1) := by decide +kernel
theorem dX8_isThere_15 : decode cX8_isThere 15 = .ok (.iaload, 1) := by decide +kernel
theorem dX8_isThere_16 : decode cX8_isThere 16 = .ok (.ifCond .eq 7, 3) := by decide +kernel
theorem dX8_isThere_23 : decode cX8_isThere 23 = .ok (.iconst 0, 1) := by decide +kernel
theorem dX8_isThere_24 : decode cX8_isThere 24 = .ok (.ireturn, 1) := by decide +kernel
theorem dX8_free_0 : decode cX8_free 0 = .ok (.iconst 0, 1) := by decide +kernel
theorem dX8_free_1 : decode cX8_free 1 = .ok (.istore_n 1, 1) := by decide +kernel
theorem dX8_free_2 : decode cX8_free 2 = .ok (.iload_n 1, 1) := by decide +kernel
theorem dX8_free_3 : decode cX8_free 3 = .ok (.bipush 16, 2) := by decide +kernel
theorem dX8_free_5 : decode cX8_free 5 = .ok (.if_icmp .ge 20, 3) := by decide +kernel
theorem dX8_free_8 : decode cX8_free 8 = .ok (.aload_n 0, 1) := by decide +kernel
theorem dX8_free_9 : decode cX8_free 9 = .ok (.getfield 7, 3) := by decide +kernel
theorem dX8_free_12 : decode cX8_free 12 = .ok (.iload_n 1, 1) := by decide +kernel
theorem dX8_free_13 : decode cX8_free 13 = .ok (.iaload, 1) := by decide +kernel
theorem dX8_free_14 : decode cX8_free 14 = .ok (.ifCond .ne 5, 3) := by decide +kernel
theorem dX8_free_17 : decode cX8_free 17 = .ok (.iload_n 1, 1) := by decide +kernel
theorem dX8_free_18 : decode cX8_free 18 = .ok (.ireturn, 1) := by decide +kernel
theorem dX8_born_0 : decode cX8_born 0 = .ok (.aload_n 0, 1) := by decide +kernel
theorem dX8_born_1 : decode cX8_born 1 = .ok (.getfield 7, 3) := by decide +kernel
theorem dX8_born_4 : decode cX8_born 4 = .ok (.iload_n 1, 1) := by decide +kernel
theorem dX8_born_5 : decode cX8_born 5 = .ok (.iload_n 2, 1) := by decide +kernel
theorem dX8_born_6 : decode cX8_born 6 = .ok (.iastore, 1) := by decide +kernel
theorem dX8_born_7 : decode cX8_born 7 = .ok (.aload_n 0, 1) := by decide +kernel
theorem dX8_born_8 : decode cX8_born 8 = .ok (.getfield 17, 3) := by decide +kernel
theorem dX8_born_11 : decode cX8_born 11 = .ok (.iload_n 1, 1) := by decide +kernel
theorem dX8_born_12 : decode cX8_born 12 = .ok (.iconst 0, 1) := by decide +kernel
theorem dX8_born_13 : decode cX8_born 13 = .ok (.iastore, 1) := by decide +kernel
theorem dX8_born_14 : decode cX8_born 14 = .ok (.aload_n 0, 1) := by decide +kernel
theorem dX8_born_15 : decode cX8_born 15 = .ok (.getfield 26, 3) := by decide +kernel
theorem dX8_born_18 : decode cX8_born 18 = .ok (.iload_n 1, 1) := by decide +kernel
theorem dX8_born_19 : decode cX8_born 19 = .ok (.iconst 0, 1) := by decide +kernel
theorem dX8_born_20 : decode cX8_born 20 = .ok (.iastore, 1) := by decide +kernel
theorem dX8_born_21 : decode cX8_born 21 = .ok (.aload_n 0, 1) := by decide +kernel
theorem dX8_born_22 : decode cX8_born 22 = .ok (.getfield 29, 3) := by decide +kernel
theorem dX8_born_25 : decode cX8_born 25 = .ok (.iload_n 1, 1) := by decide +kernel
theorem dX8_born_26 : decode cX8_born 26 = .ok (.iconst 0, 1) := by decide +kernel
theorem dX8_born_27 : decode cX8_born 27 = .ok (.iastore, 1) := by decide +kernel
theorem dX8_born_28 : decode cX8_born 28 = .ok (.aload_n 0, 1) := by decide +kernel
theorem dX8_born_29 : decode cX8_born 29 = .ok (.getfield 32, 3) := by decide +kernel
theorem dX8_born_32 : decode cX8_born 32 = .ok (.iload_n 1, 1) := by decide +kernel
theorem dX8_born_33 : decode cX8_born 33 = .ok (.iconst (-1), 1) := by decide +kernel
theorem dX8_born_34 : decode cX8_born 34 = .ok (.iastore, 1) := by decide +kernel
theorem dX8_born_35 : decode cX8_born 35 = .ok (.iload_n 1, 1) := by decide +kernel
theorem dX8_born_36 : decode cX8_born 36 = .ok (.ireturn, 1) := by decide +kernel
set_option maxRecDepth 20000 in
theorem ggX8_make_X8_in : GoodIn wsX8_make wsX8_in := goodIn_r _ [7] (by decide +kernel) (by decide +kernel)
set_option maxRecDepth 20000 in
theorem gX8_make_X8_in : GoodIn wsX8_make (va_wsS RX8 64 yX8_in wsX8_in) := goodIn_app (goodIn_of _ (by decide +kernel)) ggX8_make_X8_in
set_option maxRecDepth 20000 in
theorem ggX8_make_X8_refuse : GoodIn wsX8_make wsX8_refuse := goodIn_r _ [11, 1, 25, 26, 27, 28, 29, 30, 31, 32, 33, 34, 35, 36, 37, 38, 39, 40, 41] (by decide +kernel) (by decide +kernel)
set_option maxRecDepth 20000 in
theorem gX8_make_X8_refuse : GoodIn wsX8_make (wsV RX8 68 RX8 yX8_refuse wsX8_refuse) := goodIn_app (goodIn_of _ (by decide +kernel)) ggX8_make_X8_refuse
set_option maxRecDepth 20000 in
theorem ggX8_make_X8_free : GoodIn wsX8_make wsX8_free := goodIn_r _ [15, 16, 25, 26, 27, 28, 29, 30, 31, 32, 33, 34, 35, 36, 37, 38, 39, 40, 41] (by decide +kernel) (by decide +kernel)
set_option maxRecDepth 20000 in
theorem gX8_make_X8_free : GoodIn wsX8_make (wsV RX8 72 RX8 yX8_free wsX8_free) := goodIn_app (goodIn_of _ (by decide +kernel)) ggX8_make_X8_free
set_option maxRecDepth 20000 in
theorem ggX8_make_X8_born : GoodIn wsX8_make wsX8_born := goodIn_r _ [20, 16, 21, 22, 23, 24, 25, 26, 27, 28, 29, 30, 31, 32, 33, 34, 35, 36, 37, 38, 39, 40, 41] (by decide +kernel) (by decide +kernel)
set_option maxRecDepth 20000 in
theorem gX8_make_X8_born : GoodIn wsX8_make (wsV RX8 76 RX8 yX8_born wsX8_born) := goodIn_app (goodIn_of _ (by decide +kernel)) ggX8_make_X8_born
theorem dX8_make_0 : decode cX8_make 0 = .ok (.iload_n 1, 1) := by decide +kernel
theorem dX8_make_1 : decode cX8_make 1 = .ok (.iconst 0, 1) := by decide +kernel
theorem dX8_make_2 : decode cX8_make 2 = .ok (.iconst 2, 1) := by decide +kernel
theorem dX8_make_3 : decode cX8_make 3 = .ok (.invokestatic 64, 3) := by decide +kernel
theorem dX8_make_6 : decode cX8_make 6 = .ok (.ifCond .ne 9, 3) := by decide +kernel
theorem dX8_make_9 : decode cX8_make 9 = .ok (.aload_n 0, 1) := by decide +kernel
theorem dX8_make_10 : decode cX8_make 10 = .ok (.iconst 1, 1) := by decide +kernel
theorem dX8_make_11 : decode cX8_make 11 = .ok (.invokevirtual 68, 3) := by decide +kernel
theorem dX8_make_14 : decode cX8_make 14 = .ok (.ireturn, 1) := by decide +kernel
theorem dX8_make_15 : decode cX8_make 15 = .ok (.iload_n 1, 1) := by decide +kernel
theorem dX8_make_16 : decode cX8_make 16 = .ok (.ifCond .ne 13, 3) := by decide +kernel
theorem dX8_make_19 : decode cX8_make 19 = .ok (.iload_n 2, 1) := by decide +kernel
theorem dX8_make_20 : decode cX8_make 20 = .ok (.ifCond .ge 9, 3) := by decide +kernel
theorem dX8_make_23 : decode cX8_make 23 = .ok (.aload_n 0, 1) := by decide +kernel
theorem dX8_make_24 : decode cX8_make 24 = .ok (.iconst 3, 1) := by decide +kernel
theorem dX8_make_25 : decode cX8_make 25 = .ok (.invokevirtual 68, 3) := by decide +kernel
theorem dX8_make_28 : decode cX8_make 28 = .ok (.ireturn, 1) := by decide +kernel
theorem dX8_make_29 : decode cX8_make 29 = .ok (.iload_n 1, 1) := by decide +kernel
theorem dX8_make_30 : decode cX8_make 30 = .ok (.ifCond .ne 27, 3) := by decide +kernel
theorem dX8_make_33 : decode cX8_make 33 = .ok (.iload_n 2, 1) := by decide +kernel
theorem dX8_make_34 : decode cX8_make 34 = .ok (.sipush 1000, 3) := by decide +kernel
theorem dX8_make_37 : decode cX8_make 37 = .ok (.if_icmp .gt 16, 3) := by decide +kernel
theorem dX8_make_40 : decode cX8_make 40 = .ok (.iload_n 3, 1) := by decide +kernel
theorem dX8_make_41 : decode cX8_make 41 = .ok (.iconst 0, 1) := by decide +kernel
theorem dX8_make_42 : decode cX8_make 42 = .ok (.iconst 3, 1) := by decide +kernel
theorem dX8_make_43 : decode cX8_make 43 = .ok (.invokestatic 64, 3) := by decide +kernel
theorem dX8_make_46 : decode cX8_make 46 = .ok (.ifCond .eq 7, 3) := by decide +kernel
theorem dX8_make_49 : decode cX8_make 49 = .ok (.iconst 1, 1) := by decide +kernel
theorem dX8_make_50 : decode cX8_make 50 = .ok (.goto 46, 3) := by decide +kernel
theorem dX8_make_53 : decode cX8_make 53 = .ok (.iconst 0, 1) := by decide +kernel
theorem dX8_make_54 : decode cX8_make 54 = .ok (.goto 42, 3) := by decide +kernel
theorem dX8_make_57 : decode cX8_make 57 = .ok (.iload_n 1, 1) := by decide +kernel
theorem dX8_make_58 : decode cX8_make 58 = .ok (.iconst 1, 1) := by decide +kernel
theorem dX8_make_59 : decode cX8_make 59 = .ok (.if_icmp .ne 31, 3) := by decide +kernel
theorem dX8_make_62 : decode cX8_make 62 = .ok (.iload_n 2, 1) := by decide +kernel
theorem dX8_make_63 : decode cX8_make 63 = .ok (.iconst 0, 1) := by decide +kernel
theorem dX8_make_64 : decode cX8_make 64 = .ok (.sipush 1000, 3) := by decide +kernel
theorem dX8_make_67 : decode cX8_make 67 = .ok (.invokestatic 64, 3) := by decide +kernel
theorem dX8_make_70 : decode cX8_make 70 = .ok (.ifCond .eq 16, 3) := by decide +kernel
theorem dX8_make_73 : decode cX8_make 73 = .ok (.iload_n 3, 1) := by decide +kernel
theorem dX8_make_74 : decode cX8_make 74 = .ok (.iconst 0, 1) := by decide +kernel
theorem dX8_make_75 : decode cX8_make 75 = .ok (.iconst 1, 1) := by decide +kernel
theorem dX8_make_76 : decode cX8_make 76 = .ok (.invokestatic 64, 3) := by decide +kernel
theorem dX8_make_79 : decode cX8_make 79 = .ok (.ifCond .eq 7, 3) := by decide +kernel
theorem dX8_make_82 : decode cX8_make 82 = .ok (.iconst 1, 1) := by decide +kernel
theorem dX8_make_83 : decode cX8_make 83 = .ok (.goto 13, 3) := by decide +kernel
theorem dX8_make_86 : decode cX8_make 86 = .ok (.iconst 0, 1) := by decide +kernel
theorem dX8_make_87 : decode cX8_make 87 = .ok (.goto 9, 3) := by decide +kernel
theorem dX8_make_90 : decode cX8_make 90 = .ok (.iload_n 2, 1) := by decide +kernel
theorem dX8_make_91 : decode cX8_make 91 = .ok (.iconst 0, 1) := by decide +kernel
theorem dX8_make_92 : decode cX8_make 92 = .ok (.iconst 3, 1) := by decide +kernel
theorem dX8_make_93 : decode cX8_make 93 = .ok (.invokestatic 64, 3) := by decide +kernel
theorem dX8_make_96 : decode cX8_make 96 = .ok (.istore 4, 2) := by decide +kernel
theorem dX8_make_98 : decode cX8_make 98 = .ok (.iload 4, 2) := by decide +kernel
theorem dX8_make_100 : decode cX8_make 100 = .ok (.ifCond .ne 9, 3) := by decide +kernel
theorem dX8_make_103 : decode cX8_make 103 = .ok (.aload_n 0, 1) := by decide +kernel
theorem dX8_make_104 : decode cX8_make 104 = .ok (.iconst 1, 1) := by decide +kernel
theorem dX8_make_105 : decode cX8_make 105 = .ok (.invokevirtual 68, 3) := by decide +kernel
theorem dX8_make_108 : decode cX8_make 108 = .ok (.ireturn, 1) := by decide +kernel
theorem dX8_make_109 : decode cX8_make 109 = .ok (.aload_n 0, 1) := by decide +kernel
theorem dX8_make_110 : decode cX8_make 110 = .ok (.invokevirtual 72, 3) := by decide +kernel
theorem dX8_make_113 : decode cX8_make 113 = .ok (.istore 5, 2) := by decide +kernel
theorem dX8_make_115 : decode cX8_make 115 = .ok (.iload 5, 2) := by decide +kernel
theorem dX8_make_117 : decode cX8_make 117 = .ok (.ifCond .ge 9, 3) := by decide +kernel
theorem dX8_make_126 : decode cX8_make 126 = .ok (.aload_n 0, 1) := by decide +kernel
theorem dX8_make_127 : decode cX8_make 127 = .ok (.iconst 0, 1) := by decide +kernel
theorem dX8_make_128 : decode cX8_make 128 = .ok (.putfield 60, 3) := by decide +kernel
theorem dX8_make_131 : decode cX8_make 131 = .ok (.aload_n 0, 1) := by decide +kernel
theorem dX8_make_132 : decode cX8_make 132 = .ok (.iload 5, 2) := by decide +kernel
theorem dX8_make_134 : decode cX8_make 134 = .ok (.iload_n 1, 1) := by decide +kernel
theorem dX8_make_135 : decode cX8_make 135 = .ok (.iconst 1, 1) := by decide +kernel
theorem dX8_make_136 : decode cX8_make 136 = .ok (.iadd, 1) := by decide +kernel
theorem dX8_make_137 : decode cX8_make 137 = .ok (.invokevirtual 76, 3) := by decide +kernel
theorem dX8_make_140 : decode cX8_make 140 = .ok (.pop, 1) := by decide +kernel
theorem dX8_make_141 : decode cX8_make 141 = .ok (.aload_n 0, 1) := by decide +kernel
theorem dX8_make_142 : decode cX8_make 142 = .ok (.getfield 20, 3) := by decide +kernel
theorem dX8_make_145 : decode cX8_make 145 = .ok (.iload 5, 2) := by decide +kernel
theorem dX8_make_147 : decode cX8_make 147 = .ok (.iload_n 2, 1) := by decide +kernel
theorem dX8_make_148 : decode cX8_make 148 = .ok (.iastore, 1) := by decide +kernel
theorem dX8_make_149 : decode cX8_make 149 = .ok (.aload_n 0, 1) := by decide +kernel
theorem dX8_make_150 : decode cX8_make 150 = .ok (.getfield 23, 3) := by decide +kernel
theorem dX8_make_153 : decode cX8_make 153 = .ok (.iload 5, 2) := by decide +kernel
theorem dX8_make_155 : decode cX8_make 155 = .ok (.iload_n 3, 1) := by decide +kernel
theorem dX8_make_156 : decode cX8_make 156 = .ok (.iastore, 1) := by decide +kernel
theorem dX8_make_157 : decode cX8_make 157 = .ok (.iload 5, 2) := by decide +kernel
theorem dX8_make_159 : decode cX8_make 159 = .ok (.ireturn, 1) := by decide +kernel
theorem dX8_drop_0 : decode cX8_drop 0 = .ok (.aload_n 0, 1) := by decide +kernel
theorem dX8_drop_1 : decode cX8_drop 1 = .ok (.iload_n 1, 1) := by decide +kernel
theorem dX8_drop_2 : decode cX8_drop 2 = .ok (.invokevirtual 80, 3) := by decide +kernel
theorem dX8_drop_5 : decode cX8_drop 5 = .ok (.ifCond .ne 9, 3) := by decide +kernel
theorem dX8_drop_8 : decode cX8_drop 8 = .ok (.aload_n 0, 1) := by decide +kernel
theorem dX8_drop_9 : decode cX8_drop 9 = .ok (.iconst 1, 1) := by decide +kernel
theorem dX8_drop_10 : decode cX8_drop 10 = .ok (.invokevirtual 68, 3) := by decide +kernel
theorem dX8_drop_13 : decode cX8_drop 13 = .ok (.ireturn, 1) := by decide +kernel
theorem dX8_isMap_0 : decode cX8_isMap 0 = .ok (.aload_n 0, 1) := by decide +kernel
theorem dX8_isMap_1 : decode cX8_isMap 1 = .ok (.getfield 7, 3) := by decide +kernel
theorem dX8_isMap_4 : decode cX8_isMap 4 = .ok (.iload_n 1, 1) := by decide +kernel
theorem dX8_isMap_5 : decode cX8_isMap 5 = .ok (.iaload, 1) := by decide +kernel
theorem dX8_isMap_6 : decode cX8_isMap 6 = .ok (.iconst 1, 1) := by decide +kernel
theorem dX8_isMap_7 : decode cX8_isMap 7 = .ok (.if_icmp .lt 17, 3) := by decide +kernel
theorem dX8_isMap_24 : decode cX8_isMap 24 = .ok (.iconst 0, 1) := by decide +kernel
theorem dX8_isMap_25 : decode cX8_isMap 25 = .ok (.ireturn, 1) := by decide +kernel
theorem dX8_map_0 : decode cX8_map 0 = .ok (.iload_n 2, 1) := by decide +kernel
theorem dX8_map_1 : decode cX8_map 1 = .ok (.bipush 19, 2) := by decide +kernel
theorem dX8_map_3 : decode cX8_map 3 = .ok (.if_icmp .eq 9, 3) := by decide +kernel
theorem dX8_map_6 : decode cX8_map 6 = .ok (.iload_n 2, 1) := by decide +kernel
theorem dX8_map_7 : decode cX8_map 7 = .ok (.bipush 20, 2) := by decide +kernel
theorem dX8_map_9 : decode cX8_map 9 = .ok (.if_icmp .ne 7, 3) := by decide +kernel
theorem dX8_map_12 : decode cX8_map 12 = .ok (.iconst 1, 1) := by decide +kernel
theorem dX8_map_13 : decode cX8_map 13 = .ok (.goto 4, 3) := by decide +kernel
theorem dX8_map_16 : decode cX8_map 16 = .ok (.iconst 0, 1) := by decide +kernel
theorem dX8_map_17 : decode cX8_map 17 = .ok (.istore 5, 2) := by decide +kernel
theorem dX8_map_19 : decode cX8_map 19 = .ok (.aload_n 0, 1) := by decide +kernel
theorem dX8_map_20 : decode cX8_map 20 = .ok (.iload_n 1, 1) := by decide +kernel
theorem dX8_map_21 : decode cX8_map 21 = .ok (.invokevirtual 80, 3) := by decide +kernel
theorem dX8_map_24 : decode cX8_map 24 = .ok (.ifCond .eq 17, 3) := by decide +kernel
theorem dX8_map_41 : decode cX8_map 41 = .ok (.aload_n 0, 1) := by decide +kernel
theorem dX8_map_42 : decode cX8_map 42 = .ok (.iconst 1, 1) := by decide +kernel
theorem dX8_map_43 : decode cX8_map 43 = .ok (.invokevirtual 68, 3) := by decide +kernel
theorem dX8_map_46 : decode cX8_map 46 = .ok (.i2l, 1) := by decide +kernel
theorem dX8_map_47 : decode cX8_map 47 = .ok (.lreturn, 1) := by decide +kernel
theorem dX8_view_0 : decode cX8_view 0 = .ok (.aload_n 0, 1) := by decide +kernel
theorem dX8_view_1 : decode cX8_view 1 = .ok (.iload_n 1, 1) := by decide +kernel
theorem dX8_view_2 : decode cX8_view 2 = .ok (.invokevirtual 80, 3) := by decide +kernel
theorem dX8_view_5 : decode cX8_view 5 = .ok (.ifCond .ne 9, 3) := by decide +kernel
theorem dX8_view_8 : decode cX8_view 8 = .ok (.aload_n 0, 1) := by decide +kernel
theorem dX8_view_9 : decode cX8_view 9 = .ok (.iconst 1, 1) := by decide +kernel
theorem dX8_view_10 : decode cX8_view 10 = .ok (.invokevirtual 68, 3) := by decide +kernel
theorem dX8_view_13 : decode cX8_view 13 = .ok (.ireturn, 1) := by decide +kernel
theorem dX8_cursor_0 : decode cX8_cursor 0 = .ok (.aload_n 0, 1) := by decide +kernel
theorem dX8_cursor_1 : decode cX8_cursor 1 = .ok (.iload_n 1, 1) := by decide +kernel
theorem dX8_cursor_2 : decode cX8_cursor 2 = .ok (.invokevirtual 80, 3) := by decide +kernel
theorem dX8_cursor_5 : decode cX8_cursor 5 = .ok (.ifCond .ne 9, 3) := by decide +kernel
theorem dX8_cursor_8 : decode cX8_cursor 8 = .ok (.aload_n 0, 1) := by decide +kernel
theorem dX8_cursor_9 : decode cX8_cursor 9 = .ok (.iconst 1, 1) := by decide +kernel
theorem dX8_cursor_10 : decode cX8_cursor 10 = .ok (.invokevirtual 68, 3) := by decide +kernel
theorem dX8_cursor_13 : decode cX8_cursor 13 = .ok (.ireturn, 1) := by decide +kernel
theorem dX8_move_0 : decode cX8_move 0 = .ok (.aload_n 0, 1) := by decide +kernel
theorem dX8_move_1 : decode cX8_move 1 = .ok (.iload_n 1, 1) := by decide +kernel
theorem dX8_move_2 : decode cX8_move 2 = .ok (.invokevirtual 80, 3) := by decide +kernel
theorem dX8_move_5 : decode cX8_move 5 = .ok (.ifCond .ne 10, 3) := by decide +kernel
theorem dX8_move_8 : decode cX8_move 8 = .ok (.aload_n 0, 1) := by decide +kernel
theorem dX8_move_9 : decode cX8_move 9 = .ok (.iconst 1, 1) := by decide +kernel
theorem dX8_move_10 : decode cX8_move 10 = .ok (.invokevirtual 68, 3) := by decide +kernel
theorem dX8_move_13 : decode cX8_move 13 = .ok (.i2l, 1) := by decide +kernel
theorem dX8_move_14 : decode cX8_move 14 = .ok (.lreturn, 1) := by decide +kernel
theorem dX8_item_0 : decode cX8_item 0 = .ok (.aload_n 0, 1) := by decide +kernel
theorem dX8_item_1 : decode cX8_item 1 = .ok (.iload_n 1, 1) := by decide +kernel
theorem dX8_item_2 : decode cX8_item 2 = .ok (.invokevirtual 80, 3) := by decide +kernel
theorem dX8_item_5 : decode cX8_item 5 = .ok (.ifCond .ne 10, 3) := by decide +kernel
theorem dX8_item_8 : decode cX8_item 8 = .ok (.aload_n 0, 1) := by decide +kernel
theorem dX8_item_9 : decode cX8_item 9 = .ok (.iconst 1, 1) := by decide +kernel
theorem dX8_item_10 : decode cX8_item 10 = .ok (.invokevirtual 68, 3) := by decide +kernel
theorem dX8_item_13 : decode cX8_item 13 = .ok (.i2l, 1) := by decide +kernel
theorem dX8_item_14 : decode cX8_item 14 = .ok (.lreturn, 1) := by decide +kernel
theorem dX8_count_0 : decode cX8_count 0 = .ok (.iload_n 1, 1) := by decide +kernel
theorem dX8_count_1 : decode cX8_count 1 = .ok (.ifCond .eq 31, 3) := by decide +kernel
theorem dX8_count_4 : decode cX8_count 4 = .ok (.iload_n 1, 1) := by decide +kernel
theorem dX8_count_5 : decode cX8_count 5 = .ok (.bipush 10, 2) := by decide +kernel
theorem dX8_count_7 : decode cX8_count 7 = .ok (.bipush 25, 2) := by decide +kernel
theorem dX8_count_9 : decode cX8_count 9 = .ok (.invokestatic 64, 3) := by decide +kernel
theorem dX8_count_12 : decode cX8_count 12 = .ok (.ifCond .ne 20, 3) := by decide +kernel
theorem dX8_count_15 : decode cX8_count 15 = .ok (.iload_n 1, 1) := by decide +kernel
theorem dX8_count_16 : decode cX8_count 16 = .ok (.bipush 30, 2) := by decide +kernel
theorem dX8_count_18 : decode cX8_count 18 = .ok (.bipush 45, 2) := by decide +kernel
theorem dX8_count_20 : decode cX8_count 20 = .ok (.invokestatic 64, 3) := by decide +kernel
theorem dX8_count_23 : decode cX8_count 23 = .ok (.ifCond .ne 9, 3) := by decide +kernel
theorem dX8_count_26 : decode cX8_count 26 = .ok (.aload_n 0, 1) := by decide +kernel
theorem dX8_count_27 : decode cX8_count 27 = .ok (.iconst 1, 1) := by decide +kernel
theorem dX8_count_28 : decode cX8_count 28 = .ok (.invokevirtual 68, 3) := by decide +kernel
theorem dX8_count_31 : decode cX8_count 31 = .ok (.ireturn, 1) := by decide +kernel
theorem dX8_count_32 : decode cX8_count 32 = .ok (.aload_n 0, 1) := by decide +kernel
theorem dX8_count_33 : decode cX8_count 33 = .ok (.iconst 0, 1) := by decide +kernel
theorem dX8_count_34 : decode cX8_count 34 = .ok (.putfield 60, 3) := by decide +kernel
theorem dX8_count_37 : decode cX8_count 37 = .ok (.iload_n 1, 1) := by decide +kernel
theorem dX8_count_38 : decode cX8_count 38 = .ok (.ifCond .ne 38, 3) := by decide +kernel
theorem dX8_count_41 : decode cX8_count 41 = .ok (.iconst 0, 1) := by decide +kernel
theorem dX8_count_42 : decode cX8_count 42 = .ok (.istore_n 2, 1) := by decide +kernel
theorem dX8_count_43 : decode cX8_count 43 = .ok (.iconst 0, 1) := by decide +kernel
theorem dX8_count_44 : decode cX8_count 44 = .ok (.istore_n 3, 1) := by decide +kernel
theorem dX8_count_45 : decode cX8_count 45 = .ok (.iload_n 3, 1) := by decide +kernel
theorem dX8_count_46 : decode cX8_count 46 = .ok (.bipush 16, 2) := by decide +kernel
theorem dX8_count_48 : decode cX8_count 48 = .ok (.if_icmp .ge 26, 3) := by decide +kernel
theorem dX8_count_51 : decode cX8_count 51 = .ok (.iload_n 2, 1) := by decide +kernel
theorem dX8_count_52 : decode cX8_count 52 = .ok (.aload_n 0, 1) := by decide +kernel
theorem dX8_count_53 : decode cX8_count 53 = .ok (.getfield 7, 3) := by decide +kernel
theorem dX8_count_56 : decode cX8_count 56 = .ok (.iload_n 3, 1) := by decide +kernel
theorem dX8_count_57 : decode cX8_count 57 = .ok (.iaload, 1) := by decide +kernel
theorem dX8_count_58 : decode cX8_count 58 = .ok (.ifCond .eq 7, 3) := by decide +kernel
theorem dX8_count_65 : decode cX8_count 65 = .ok (.iconst 0, 1) := by decide +kernel
theorem dX8_count_66 : decode cX8_count 66 = .ok (.iadd, 1) := by decide +kernel
theorem dX8_count_67 : decode cX8_count 67 = .ok (.istore_n 2, 1) := by decide +kernel
theorem dX8_count_68 : decode cX8_count 68 = .ok (.iinc 3 1, 3) := by decide +kernel
theorem dX8_count_71 : decode cX8_count 71 = .ok (.goto (-26), 3) := by decide +kernel
theorem dX8_count_74 : decode cX8_count 74 = .ok (.iload_n 2, 1) := by decide +kernel
theorem dX8_count_75 : decode cX8_count 75 = .ok (.ireturn, 1) := by decide +kernel
theorem dX8_count_76 : decode cX8_count 76 = .ok (.iload_n 1, 1) := by decide +kernel
theorem dX8_count_77 : decode cX8_count 77 = .ok (.bipush 30, 2) := by decide +kernel
theorem dX8_count_79 : decode cX8_count 79 = .ok (.if_icmp .ge 15, 3) := by decide +kernel
theorem dX8_count_82 : decode cX8_count 82 = .ok (.aload_n 0, 1) := by decide +kernel
theorem dX8_count_83 : decode cX8_count 83 = .ok (.getfield 7, 3) := by decide +kernel
theorem dX8_count_86 : decode cX8_count 86 = .ok (.iload_n 1, 1) := by decide +kernel
theorem dX8_count_87 : decode cX8_count 87 = .ok (.bipush 10, 2) := by decide +kernel
theorem dX8_count_89 : decode cX8_count 89 = .ok (.isub, 1) := by decide +kernel
theorem dX8_count_90 : decode cX8_count 90 = .ok (.iaload, 1) := by decide +kernel
theorem dX8_count_91 : decode cX8_count 91 = .ok (.iconst 1, 1) := by decide +kernel
theorem dX8_count_92 : decode cX8_count 92 = .ok (.isub, 1) := by decide +kernel
theorem dX8_count_93 : decode cX8_count 93 = .ok (.ireturn, 1) := by decide +kernel
theorem dX8_count_94 : decode cX8_count 94 = .ok (.aload_n 0, 1) := by decide +kernel
theorem dX8_count_95 : decode cX8_count 95 = .ok (.iload_n 1, 1) := by decide +kernel
theorem dX8_count_96 : decode cX8_count 96 = .ok (.bipush 30, 2) := by decide +kernel
theorem dX8_count_98 : decode cX8_count 98 = .ok (.isub, 1) := by decide +kernel
theorem dX8_count_99 : decode cX8_count 99 = .ok (.invokevirtual 143, 3) := by decide +kernel
theorem dX8_count_102 : decode cX8_count 102 = .ok (.ifCond .eq 14, 3) := by decide +kernel
theorem dX8_count_116 : decode cX8_count 116 = .ok (.iconst (-1), 1) := by decide +kernel
theorem dX8_count_117 : decode cX8_count 117 = .ok (.ireturn, 1) := by decide +kernel
theorem dL_make_0 : decode cL_make 0 = .ok (.aload 4, 2) := by decide +kernel
theorem dL_make_2 : decode cL_make 2 = .ok (.iconst 0, 1) := by decide +kernel
theorem dL_make_3 : decode cL_make 3 = .ok (.aload_n 0, 1) := by decide +kernel
theorem dL_make_4 : decode cL_make 4 = .ok (.iload_n 1, 1) := by decide +kernel
theorem dL_make_5 : decode cL_make 5 = .ok (.iload_n 2, 1) := by decide +kernel
theorem dL_make_6 : decode cL_make 6 = .ok (.iload_n 3, 1) := by decide +kernel
theorem dL_make_7 : decode cL_make 7 = .ok (.invokevirtual 7, 3) := by decide +kernel
theorem dL_make_10 : decode cL_make 10 = .ok (.i2l, 1) := by decide +kernel
theorem dL_make_11 : decode cL_make 11 = .ok (.lastore, 1) := by decide +kernel
theorem dL_make_12 : decode cL_make 12 = .ok (.goto 15, 3) := by decide +kernel
theorem dL_make_15 : decode cL_make 15 = .ok (.astore 5, 2) := by decide +kernel
theorem dL_make_17 : decode cL_make 17 = .ok (.iconst 1, 1) := by decide +kernel
theorem dL_make_18 : decode cL_make 18 = .ok (.ireturn, 1) := by decide +kernel
theorem dL_make_23 : decode cL_make 23 = .ok (.astore 5, 2) := by decide +kernel
theorem dL_make_25 : decode cL_make 25 = .ok (.iconst 3, 1) := by decide +kernel
theorem dL_make_26 : decode cL_make 26 = .ok (.ireturn, 1) := by decide +kernel
theorem dL_make_27 : decode cL_make 27 = .ok (.iconst 0, 1) := by decide +kernel
theorem dL_make_28 : decode cL_make 28 = .ok (.ireturn, 1) := by decide +kernel
theorem dL_drop_0 : decode cL_drop 0 = .ok (.aload_n 2, 1) := by decide +kernel
theorem dL_drop_1 : decode cL_drop 1 = .ok (.iconst 0, 1) := by decide +kernel
theorem dL_drop_2 : decode cL_drop 2 = .ok (.aload_n 0, 1) := by decide +kernel
theorem dL_drop_3 : decode cL_drop 3 = .ok (.iload_n 1, 1) := by decide +kernel
theorem dL_drop_4 : decode cL_drop 4 = .ok (.invokevirtual 19, 3) := by decide +kernel
theorem dL_drop_12 : decode cL_drop 12 = .ok (.astore_n 3, 1) := by decide +kernel
theorem dL_drop_13 : decode cL_drop 13 = .ok (.iconst 1, 1) := by decide +kernel
theorem dL_drop_14 : decode cL_drop 14 = .ok (.ireturn, 1) := by decide +kernel
theorem dL_map_0 : decode cL_map 0 = .ok (.aload 5, 2) := by decide +kernel
theorem dL_map_2 : decode cL_map 2 = .ok (.iconst 0, 1) := by decide +kernel
theorem dL_map_3 : decode cL_map 3 = .ok (.aload_n 0, 1) := by decide +kernel
theorem dL_map_4 : decode cL_map 4 = .ok (.iload_n 1, 1) := by decide +kernel
theorem dL_map_5 : decode cL_map 5 = .ok (.iload_n 2, 1) := by decide +kernel
theorem dL_map_6 : decode cL_map 6 = .ok (.iload_n 3, 1) := by decide +kernel
theorem dL_map_7 : decode cL_map 7 = .ok (.iload 4, 2) := by decide +kernel
theorem dL_map_9 : decode cL_map 9 = .ok (.invokevirtual 25, 3) := by decide +kernel
theorem dL_map_16 : decode cL_map 16 = .ok (.astore 6, 2) := by decide +kernel
theorem dL_map_18 : decode cL_map 18 = .ok (.iconst 1, 1) := by decide +kernel
theorem dL_map_19 : decode cL_map 19 = .ok (.ireturn, 1) := by decide +kernel
theorem dL_view_0 : decode cL_view 0 = .ok (.aload 5, 2) := by decide +kernel
theorem dL_view_2 : decode cL_view 2 = .ok (.iconst 0, 1) := by decide +kernel
theorem dL_view_3 : decode cL_view 3 = .ok (.aload_n 0, 1) := by decide +kernel
theorem dL_view_4 : decode cL_view 4 = .ok (.iload_n 1, 1) := by decide +kernel
theorem dL_view_5 : decode cL_view 5 = .ok (.iload_n 2, 1) := by decide +kernel
theorem dL_view_6 : decode cL_view 6 = .ok (.iload_n 3, 1) := by decide +kernel
theorem dL_view_7 : decode cL_view 7 = .ok (.iload 4, 2) := by decide +kernel
theorem dL_view_9 : decode cL_view 9 = .ok (.invokevirtual 33, 3) := by decide +kernel
theorem dL_view_17 : decode cL_view 17 = .ok (.astore 6, 2) := by decide +kernel
theorem dL_view_19 : decode cL_view 19 = .ok (.iconst 1, 1) := by decide +kernel
theorem dL_view_20 : decode cL_view 20 = .ok (.ireturn, 1) := by decide +kernel
theorem dL_cursor_0 : decode cL_cursor 0 = .ok (.aload_n 2, 1) := by decide +kernel
theorem dL_cursor_1 : decode cL_cursor 1 = .ok (.iconst 0, 1) := by decide +kernel
theorem dL_cursor_2 : decode cL_cursor 2 = .ok (.aload_n 0, 1) := by decide +kernel
theorem dL_cursor_3 : decode cL_cursor 3 = .ok (.iload_n 1, 1) := by decide +kernel
theorem dL_cursor_4 : decode cL_cursor 4 = .ok (.invokevirtual 37, 3) := by decide +kernel
theorem dL_cursor_12 : decode cL_cursor 12 = .ok (.astore_n 3, 1) := by decide +kernel
theorem dL_cursor_13 : decode cL_cursor 13 = .ok (.iconst 1, 1) := by decide +kernel
theorem dL_cursor_14 : decode cL_cursor 14 = .ok (.ireturn, 1) := by decide +kernel
theorem dL_move_0 : decode cL_move 0 = .ok (.aload 4, 2) := by decide +kernel
theorem dL_move_2 : decode cL_move 2 = .ok (.iconst 0, 1) := by decide +kernel
theorem dL_move_3 : decode cL_move 3 = .ok (.aload_n 0, 1) := by decide +kernel
theorem dL_move_4 : decode cL_move 4 = .ok (.iload_n 1, 1) := by decide +kernel
theorem dL_move_5 : decode cL_move 5 = .ok (.iload_n 2, 1) := by decide +kernel
theorem dL_move_6 : decode cL_move 6 = .ok (.iload_n 3, 1) := by decide +kernel
theorem dL_move_7 : decode cL_move 7 = .ok (.invokevirtual 40, 3) := by decide +kernel
theorem dL_move_14 : decode cL_move 14 = .ok (.astore 5, 2) := by decide +kernel
theorem dL_move_16 : decode cL_move 16 = .ok (.iconst 1, 1) := by decide +kernel
theorem dL_move_17 : decode cL_move 17 = .ok (.ireturn, 1) := by decide +kernel
theorem dL_item_0 : decode cL_item 0 = .ok (.aload 4, 2) := by decide +kernel
theorem dL_item_2 : decode cL_item 2 = .ok (.iconst 0, 1) := by decide +kernel
theorem dL_item_3 : decode cL_item 3 = .ok (.aload_n 0, 1) := by decide +kernel
theorem dL_item_4 : decode cL_item 4 = .ok (.iload_n 1, 1) := by decide +kernel
theorem dL_item_5 : decode cL_item 5 = .ok (.iload_n 2, 1) := by decide +kernel
theorem dL_item_6 : decode cL_item 6 = .ok (.iload_n 3, 1) := by decide +kernel
theorem dL_item_7 : decode cL_item 7 = .ok (.invokevirtual 44, 3) := by decide +kernel
theorem dL_item_14 : decode cL_item 14 = .ok (.astore 5, 2) := by decide +kernel
theorem dL_item_16 : decode cL_item 16 = .ok (.iconst 1, 1) := by decide +kernel
theorem dL_item_17 : decode cL_item 17 = .ok (.ireturn, 1) := by decide +kernel
theorem dL_count_0 : decode cL_count 0 = .ok (.aload_n 2, 1) := by decide +kernel
theorem dL_count_1 : decode cL_count 1 = .ok (.iconst 0, 1) := by decide +kernel
theorem dL_count_2 : decode cL_count 2 = .ok (.aload_n 0, 1) := by decide +kernel
theorem dL_count_3 : decode cL_count 3 = .ok (.iload_n 1, 1) := by decide +kernel
theorem dL_count_4 : decode cL_count 4 = .ok (.invokevirtual 49, 3) := by decide +kernel
theorem dL_count_7 : decode cL_count 7 = .ok (.i2l, 1) := by decide +kernel
theorem dL_count_8 : decode cL_count 8 = .ok (.lastore, 1) := by decide +kernel
theorem dL_count_9 : decode cL_count 9 = .ok (.goto 6, 3) := by decide +kernel
theorem dL_count_12 : decode cL_count 12 = .ok (.astore_n 3, 1) := by decide +kernel
theorem dL_count_13 : decode cL_count 13 = .ok (.iconst 1, 1) := by decide +kernel
theorem dL_count_14 : decode cL_count 14 = .ok (.ireturn, 1) := by decide +kernel
theorem dL_count_15 : decode cL_count 15 = .ok (.iconst 0, 1) := by decide +kernel
theorem dL_count_16 : decode cL_count 16 = .ok (.ireturn, 1) := by decide +kernel
theorem dL_law_0 : decode cL_law 0 = .ok (.new 8, 3) := by decide +kernel
theorem dL_law_3 : decode cL_law 3 = .ok (.dup, 1) := by decide +kernel
theorem dL_law_4 : decode cL_law 4 = .ok (.invokespecial 52, 3) := by decide +kernel
theorem dL_law_7 : decode cL_law 7 = .ok (.astore_n 1, 1) := by decide +kernel
theorem dL_law_8 : decode cL_law 8 = .ok (.new 53, 3) := by decide +kernel
theorem dL_law_11 : decode cL_law 11 = .ok (.dup, 1) := by decide +kernel
theorem dL_law_12 : decode cL_law 12 = .ok (.invokespecial 55, 3) := by decide +kernel
theorem dL_law_15 : decode cL_law 15 = .ok (.astore_n 2, 1) := by decide +kernel
theorem dL_law_16 : decode cL_law 16 = .ok (.iconst 1, 1) := by decide +kernel
theorem dL_law_17 : decode cL_law 17 = .ok (.newarray .long, 2) := by decide +kernel
theorem dL_law_19 : decode cL_law 19 = .ok (.astore_n 3, 1) := by decide +kernel
theorem dL_law_20 : decode cL_law 20 = .ok (.iconst 0, 1) := by decide +kernel
theorem dL_law_21 : decode cL_law 21 = .ok (.istore 4, 2) := by decide +kernel
theorem dL_law_23 : decode cL_law 23 = .ok (.iload 4, 2) := by decide +kernel
theorem dL_law_25 : decode cL_law 25 = .ok (.aload_n 0, 1) := by decide +kernel
theorem dL_law_26 : decode cL_law 26 = .ok (.arraylength, 1) := by decide +kernel
theorem dL_law_27 : decode cL_law 27 = .ok (.iconst 5, 1) := by decide +kernel
theorem dL_law_28 : decode cL_law 28 = .ok (.isub, 1) := by decide +kernel
theorem dL_law_29 : decode cL_law 29 = .ok (.if_icmp .gt 650, 3) := by decide +kernel
theorem dL_law_32 : decode cL_law 32 = .ok (.aload_n 0, 1) := by decide +kernel
theorem dL_law_33 : decode cL_law 33 = .ok (.iload 4, 2) := by decide +kernel
theorem dL_law_35 : decode cL_law 35 = .ok (.iaload, 1) := by decide +kernel
theorem dL_law_36 : decode cL_law 36 = .ok (.bipush 7, 2) := by decide +kernel
theorem dL_law_38 : decode cL_law 38 = .ok (.iand, 1) := by decide +kernel
theorem dL_law_39 : decode cL_law 39 = .ok (.tableswitch 634 0 7 #[45, 125, 181, 272, 364, 420, 499, 578], 45) := by decide +kernel
theorem dL_law_84 : decode cL_law 84 = .ok (.aload_n 1, 1) := by decide +kernel
theorem dL_law_85 : decode cL_law 85 = .ok (.aload_n 0, 1) := by decide +kernel
theorem dL_law_86 : decode cL_law 86 = .ok (.iload 4, 2) := by decide +kernel
theorem dL_law_88 : decode cL_law 88 = .ok (.iconst 1, 1) := by decide +kernel
theorem dL_law_89 : decode cL_law 89 = .ok (.iadd, 1) := by decide +kernel
theorem dL_law_90 : decode cL_law 90 = .ok (.iaload, 1) := by decide +kernel
theorem dL_law_91 : decode cL_law 91 = .ok (.aload_n 0, 1) := by decide +kernel
theorem dL_law_92 : decode cL_law 92 = .ok (.iload 4, 2) := by decide +kernel
theorem dL_law_94 : decode cL_law 94 = .ok (.iconst 2, 1) := by decide +kernel
theorem dL_law_95 : decode cL_law 95 = .ok (.iadd, 1) := by decide +kernel
theorem dL_law_96 : decode cL_law 96 = .ok (.iaload, 1) := by decide +kernel
theorem dL_law_97 : decode cL_law 97 = .ok (.aload_n 0, 1) := by decide +kernel
theorem dL_law_98 : decode cL_law 98 = .ok (.iload 4, 2) := by decide +kernel
theorem dL_law_100 : decode cL_law 100 = .ok (.iconst 3, 1) := by decide +kernel
theorem dL_law_101 : decode cL_law 101 = .ok (.iadd, 1) := by decide +kernel
theorem dL_law_102 : decode cL_law 102 = .ok (.iaload, 1) := by decide +kernel
theorem dL_law_103 : decode cL_law 103 = .ok (.aload_n 3, 1) := by decide +kernel
theorem dL_law_104 : decode cL_law 104 = .ok (.invokestatic 56, 3) := by decide +kernel
theorem dL_law_107 : decode cL_law 107 = .ok (.istore 5, 2) := by decide +kernel
theorem dL_law_109 : decode cL_law 109 = .ok (.aload_n 2, 1) := by decide +kernel
theorem dL_law_110 : decode cL_law 110 = .ok (.aload_n 0, 1) := by decide +kernel
theorem dL_law_111 : decode cL_law 111 = .ok (.iload 4, 2) := by decide +kernel
theorem dL_law_113 : decode cL_law 113 = .ok (.iconst 1, 1) := by decide +kernel
theorem dL_law_114 : decode cL_law 114 = .ok (.iadd, 1) := by decide +kernel
theorem dL_law_115 : decode cL_law 115 = .ok (.iaload, 1) := by decide +kernel
theorem dL_law_116 : decode cL_law 116 = .ok (.aload_n 0, 1) := by decide +kernel
theorem dL_law_117 : decode cL_law 117 = .ok (.iload 4, 2) := by decide +kernel
theorem dL_law_119 : decode cL_law 119 = .ok (.iconst 2, 1) := by decide +kernel
theorem dL_law_120 : decode cL_law 120 = .ok (.iadd, 1) := by decide +kernel
theorem dL_law_121 : decode cL_law 121 = .ok (.iaload, 1) := by decide +kernel
theorem dL_law_122 : decode cL_law 122 = .ok (.aload_n 0, 1) := by decide +kernel
theorem dL_law_123 : decode cL_law 123 = .ok (.iload 4, 2) := by decide +kernel
theorem dL_law_125 : decode cL_law 125 = .ok (.iconst 3, 1) := by decide +kernel
theorem dL_law_126 : decode cL_law 126 = .ok (.iadd, 1) := by decide +kernel
theorem dL_law_127 : decode cL_law 127 = .ok (.iaload, 1) := by decide +kernel
theorem dL_law_128 : decode cL_law 128 = .ok (.invokevirtual 61, 3) := by decide +kernel
theorem dL_law_131 : decode cL_law 131 = .ok (.istore 6, 2) := by decide +kernel
theorem dL_law_133 : decode cL_law 133 = .ok (.aload_n 2, 1) := by decide +kernel
theorem dL_law_134 : decode cL_law 134 = .ok (.invokevirtual 62, 3) := by decide +kernel
theorem dL_law_137 : decode cL_law 137 = .ok (.iload 5, 2) := by decide +kernel
theorem dL_law_139 : decode cL_law 139 = .ok (.if_icmp .eq 5, 3) := by decide +kernel
theorem dL_law_144 : decode cL_law 144 = .ok (.iload 5, 2) := by decide +kernel
theorem dL_law_146 : decode cL_law 146 = .ok (.ifCond .ne 15, 3) := by decide +kernel
theorem dL_law_149 : decode cL_law 149 = .ok (.aload_n 3, 1) := by decide +kernel
theorem dL_law_150 : decode cL_law 150 = .ok (.iconst 0, 1) := by decide +kernel
theorem dL_law_151 : decode cL_law 151 = .ok (.laload, 1) := by decide +kernel
theorem dL_law_152 : decode cL_law 152 = .ok (.iload 6, 2) := by decide +kernel
theorem dL_law_154 : decode cL_law 154 = .ok (.i2l, 1) := by decide +kernel
theorem dL_law_155 : decode cL_law 155 = .ok (.lcmp, 1) := by decide +kernel
theorem dL_law_156 : decode cL_law 156 = .ok (.ifCond .eq 5, 3) := by decide +kernel
theorem dL_law_161 : decode cL_law 161 = .ok (.goto 512, 3) := by decide +kernel
theorem dL_law_164 : decode cL_law 164 = .ok (.aload_n 1, 1) := by decide +kernel
theorem dL_law_165 : decode cL_law 165 = .ok (.aload_n 0, 1) := by decide +kernel
theorem dL_law_166 : decode cL_law 166 = .ok (.iload 4, 2) := by decide +kernel
theorem dL_law_168 : decode cL_law 168 = .ok (.iconst 1, 1) := by decide +kernel
theorem dL_law_169 : decode cL_law 169 = .ok (.iadd, 1) := by decide +kernel
theorem dL_law_170 : decode cL_law 170 = .ok (.iaload, 1) := by decide +kernel
theorem dL_law_171 : decode cL_law 171 = .ok (.aload_n 3, 1) := by decide +kernel
theorem dL_law_172 : decode cL_law 172 = .ok (.invokestatic 66, 3) := by decide +kernel
theorem dL_law_175 : decode cL_law 175 = .ok (.istore 5, 2) := by decide +kernel
theorem dL_law_177 : decode cL_law 177 = .ok (.aload_n 2, 1) := by decide +kernel
theorem dL_law_178 : decode cL_law 178 = .ok (.aload_n 0, 1) := by decide +kernel
theorem dL_law_179 : decode cL_law 179 = .ok (.iload 4, 2) := by decide +kernel
theorem dL_law_181 : decode cL_law 181 = .ok (.iconst 1, 1) := by decide +kernel
theorem dL_law_182 : decode cL_law 182 = .ok (.iadd, 1) := by decide +kernel
theorem dL_law_183 : decode cL_law 183 = .ok (.iaload, 1) := by decide +kernel
theorem dL_law_184 : decode cL_law 184 = .ok (.invokevirtual 69, 3) := by decide +kernel
theorem dL_law_187 : decode cL_law 187 = .ok (.istore 6, 2) := by decide +kernel
theorem dL_law_189 : decode cL_law 189 = .ok (.aload_n 2, 1) := by decide +kernel
theorem dL_law_190 : decode cL_law 190 = .ok (.invokevirtual 62, 3) := by decide +kernel
theorem dL_law_193 : decode cL_law 193 = .ok (.iload 5, 2) := by decide +kernel
theorem dL_law_195 : decode cL_law 195 = .ok (.if_icmp .eq 5, 3) := by decide +kernel
theorem dL_law_200 : decode cL_law 200 = .ok (.iload 5, 2) := by decide +kernel
theorem dL_law_202 : decode cL_law 202 = .ok (.ifCond .ne 15, 3) := by decide +kernel
theorem dL_law_205 : decode cL_law 205 = .ok (.aload_n 3, 1) := by decide +kernel
theorem dL_law_206 : decode cL_law 206 = .ok (.iconst 0, 1) := by decide +kernel
theorem dL_law_207 : decode cL_law 207 = .ok (.laload, 1) := by decide +kernel
theorem dL_law_208 : decode cL_law 208 = .ok (.iload 6, 2) := by decide +kernel
theorem dL_law_210 : decode cL_law 210 = .ok (.i2l, 1) := by decide +kernel
theorem dL_law_211 : decode cL_law 211 = .ok (.lcmp, 1) := by decide +kernel
theorem dL_law_212 : decode cL_law 212 = .ok (.ifCond .eq 5, 3) := by decide +kernel
theorem dL_law_217 : decode cL_law 217 = .ok (.goto 456, 3) := by decide +kernel
theorem dL_law_220 : decode cL_law 220 = .ok (.aload_n 1, 1) := by decide +kernel
theorem dL_law_221 : decode cL_law 221 = .ok (.aload_n 0, 1) := by decide +kernel
theorem dL_law_222 : decode cL_law 222 = .ok (.iload 4, 2) := by decide +kernel
theorem dL_law_224 : decode cL_law 224 = .ok (.iconst 1, 1) := by decide +kernel
theorem dL_law_225 : decode cL_law 225 = .ok (.iadd, 1) := by decide +kernel
theorem dL_law_226 : decode cL_law 226 = .ok (.iaload, 1) := by decide +kernel
theorem dL_law_227 : decode cL_law 227 = .ok (.aload_n 0, 1) := by decide +kernel
theorem dL_law_228 : decode cL_law 228 = .ok (.iload 4, 2) := by decide +kernel
theorem dL_law_230 : decode cL_law 230 = .ok (.iconst 2, 1) := by decide +kernel
theorem dL_law_231 : decode cL_law 231 = .ok (.iadd, 1) := by decide +kernel
theorem dL_law_232 : decode cL_law 232 = .ok (.iaload, 1) := by decide +kernel
theorem dL_law_233 : decode cL_law 233 = .ok (.aload_n 0, 1) := by decide +kernel
theorem dL_law_234 : decode cL_law 234 = .ok (.iload 4, 2) := by decide +kernel
theorem dL_law_236 : decode cL_law 236 = .ok (.iconst 3, 1) := by decide +kernel
theorem dL_law_237 : decode cL_law 237 = .ok (.iadd, 1) := by decide +kernel
theorem dL_law_238 : decode cL_law 238 = .ok (.iaload, 1) := by decide +kernel
theorem dL_law_239 : decode cL_law 239 = .ok (.aload_n 0, 1) := by decide +kernel
theorem dL_law_240 : decode cL_law 240 = .ok (.iload 4, 2) := by decide +kernel
theorem dL_law_242 : decode cL_law 242 = .ok (.iconst 4, 1) := by decide +kernel
theorem dL_law_243 : decode cL_law 243 = .ok (.iadd, 1) := by decide +kernel
theorem dL_law_244 : decode cL_law 244 = .ok (.iaload, 1) := by decide +kernel
theorem dL_law_245 : decode cL_law 245 = .ok (.aload_n 3, 1) := by decide +kernel
theorem dL_law_246 : decode cL_law 246 = .ok (.invokestatic 70, 3) := by decide +kernel
theorem dL_law_249 : decode cL_law 249 = .ok (.istore 5, 2) := by decide +kernel
theorem dL_law_251 : decode cL_law 251 = .ok (.aload_n 2, 1) := by decide +kernel
theorem dL_law_252 : decode cL_law 252 = .ok (.aload_n 0, 1) := by decide +kernel
theorem dL_law_253 : decode cL_law 253 = .ok (.iload 4, 2) := by decide +kernel
theorem dL_law_255 : decode cL_law 255 = .ok (.iconst 1, 1) := by decide +kernel
theorem dL_law_256 : decode cL_law 256 = .ok (.iadd, 1) := by decide +kernel
theorem dL_law_257 : decode cL_law 257 = .ok (.iaload, 1) := by decide +kernel
theorem dL_law_258 : decode cL_law 258 = .ok (.aload_n 0, 1) := by decide +kernel
theorem dL_law_259 : decode cL_law 259 = .ok (.iload 4, 2) := by decide +kernel
theorem dL_law_261 : decode cL_law 261 = .ok (.iconst 2, 1) := by decide +kernel
theorem dL_law_262 : decode cL_law 262 = .ok (.iadd, 1) := by decide +kernel
theorem dL_law_263 : decode cL_law 263 = .ok (.iaload, 1) := by decide +kernel
theorem dL_law_264 : decode cL_law 264 = .ok (.aload_n 0, 1) := by decide +kernel
theorem dL_law_265 : decode cL_law 265 = .ok (.iload 4, 2) := by decide +kernel
theorem dL_law_267 : decode cL_law 267 = .ok (.iconst 3, 1) := by decide +kernel
theorem dL_law_268 : decode cL_law 268 = .ok (.iadd, 1) := by decide +kernel
theorem dL_law_269 : decode cL_law 269 = .ok (.iaload, 1) := by decide +kernel
theorem dL_law_270 : decode cL_law 270 = .ok (.aload_n 0, 1) := by decide +kernel
theorem dL_law_271 : decode cL_law 271 = .ok (.iload 4, 2) := by decide +kernel
theorem dL_law_273 : decode cL_law 273 = .ok (.iconst 4, 1) := by decide +kernel
theorem dL_law_274 : decode cL_law 274 = .ok (.iadd, 1) := by decide +kernel
theorem dL_law_275 : decode cL_law 275 = .ok (.iaload, 1) := by decide +kernel
theorem dL_law_276 : decode cL_law 276 = .ok (.invokevirtual 73, 3) := by decide +kernel
theorem dL_law_279 : decode cL_law 279 = .ok (.lstore 6, 2) := by decide +kernel
theorem dL_law_281 : decode cL_law 281 = .ok (.aload_n 2, 1) := by decide +kernel
theorem dL_law_282 : decode cL_law 282 = .ok (.invokevirtual 62, 3) := by decide +kernel
theorem dL_law_285 : decode cL_law 285 = .ok (.iload 5, 2) := by decide +kernel
theorem dL_law_287 : decode cL_law 287 = .ok (.if_icmp .eq 5, 3) := by decide +kernel
theorem dL_law_292 : decode cL_law 292 = .ok (.iload 5, 2) := by decide +kernel
theorem dL_law_294 : decode cL_law 294 = .ok (.ifCond .ne 14, 3) := by decide +kernel
theorem dL_law_297 : decode cL_law 297 = .ok (.aload_n 3, 1) := by decide +kernel
theorem dL_law_298 : decode cL_law 298 = .ok (.iconst 0, 1) := by decide +kernel
theorem dL_law_299 : decode cL_law 299 = .ok (.laload, 1) := by decide +kernel
theorem dL_law_300 : decode cL_law 300 = .ok (.lload 6, 2) := by decide +kernel
theorem dL_law_302 : decode cL_law 302 = .ok (.lcmp, 1) := by decide +kernel
theorem dL_law_303 : decode cL_law 303 = .ok (.ifCond .eq 5, 3) := by decide +kernel
theorem dL_law_308 : decode cL_law 308 = .ok (.goto 365, 3) := by decide +kernel
theorem dL_law_311 : decode cL_law 311 = .ok (.aload_n 1, 1) := by decide +kernel
theorem dL_law_312 : decode cL_law 312 = .ok (.aload_n 0, 1) := by decide +kernel
theorem dL_law_313 : decode cL_law 313 = .ok (.iload 4, 2) := by decide +kernel
theorem dL_law_315 : decode cL_law 315 = .ok (.iconst 1, 1) := by decide +kernel
theorem dL_law_316 : decode cL_law 316 = .ok (.iadd, 1) := by decide +kernel
theorem dL_law_317 : decode cL_law 317 = .ok (.iaload, 1) := by decide +kernel
theorem dL_law_318 : decode cL_law 318 = .ok (.aload_n 0, 1) := by decide +kernel
theorem dL_law_319 : decode cL_law 319 = .ok (.iload 4, 2) := by decide +kernel
theorem dL_law_321 : decode cL_law 321 = .ok (.iconst 2, 1) := by decide +kernel
theorem dL_law_322 : decode cL_law 322 = .ok (.iadd, 1) := by decide +kernel
theorem dL_law_323 : decode cL_law 323 = .ok (.iaload, 1) := by decide +kernel
theorem dL_law_324 : decode cL_law 324 = .ok (.aload_n 0, 1) := by decide +kernel
theorem dL_law_325 : decode cL_law 325 = .ok (.iload 4, 2) := by decide +kernel
theorem dL_law_327 : decode cL_law 327 = .ok (.iconst 3, 1) := by decide +kernel
theorem dL_law_328 : decode cL_law 328 = .ok (.iadd, 1) := by decide +kernel
theorem dL_law_329 : decode cL_law 329 = .ok (.iaload, 1) := by decide +kernel
theorem dL_law_330 : decode cL_law 330 = .ok (.aload_n 0, 1) := by decide +kernel
theorem dL_law_331 : decode cL_law 331 = .ok (.iload 4, 2) := by decide +kernel
theorem dL_law_333 : decode cL_law 333 = .ok (.iconst 4, 1) := by decide +kernel
theorem dL_law_334 : decode cL_law 334 = .ok (.iadd, 1) := by decide +kernel
theorem dL_law_335 : decode cL_law 335 = .ok (.iaload, 1) := by decide +kernel
theorem dL_law_336 : decode cL_law 336 = .ok (.aload_n 3, 1) := by decide +kernel
theorem dL_law_337 : decode cL_law 337 = .ok (.invokestatic 74, 3) := by decide +kernel
theorem dL_law_340 : decode cL_law 340 = .ok (.istore 5, 2) := by decide +kernel
theorem dL_law_342 : decode cL_law 342 = .ok (.aload_n 2, 1) := by decide +kernel
theorem dL_law_343 : decode cL_law 343 = .ok (.aload_n 0, 1) := by decide +kernel
theorem dL_law_344 : decode cL_law 344 = .ok (.iload 4, 2) := by decide +kernel
theorem dL_law_346 : decode cL_law 346 = .ok (.iconst 1, 1) := by decide +kernel
theorem dL_law_347 : decode cL_law 347 = .ok (.iadd, 1) := by decide +kernel
theorem dL_law_348 : decode cL_law 348 = .ok (.iaload, 1) := by decide +kernel
theorem dL_law_349 : decode cL_law 349 = .ok (.aload_n 0, 1) := by decide +kernel
theorem dL_law_350 : decode cL_law 350 = .ok (.iload 4, 2) := by decide +kernel
theorem dL_law_352 : decode cL_law 352 = .ok (.iconst 2, 1) := by decide +kernel
theorem dL_law_353 : decode cL_law 353 = .ok (.iadd, 1) := by decide +kernel
theorem dL_law_354 : decode cL_law 354 = .ok (.iaload, 1) := by decide +kernel
theorem dL_law_355 : decode cL_law 355 = .ok (.aload_n 0, 1) := by decide +kernel
theorem dL_law_356 : decode cL_law 356 = .ok (.iload 4, 2) := by decide +kernel
theorem dL_law_358 : decode cL_law 358 = .ok (.iconst 3, 1) := by decide +kernel
theorem dL_law_359 : decode cL_law 359 = .ok (.iadd, 1) := by decide +kernel
theorem dL_law_360 : decode cL_law 360 = .ok (.iaload, 1) := by decide +kernel
theorem dL_law_361 : decode cL_law 361 = .ok (.aload_n 0, 1) := by decide +kernel
theorem dL_law_362 : decode cL_law 362 = .ok (.iload 4, 2) := by decide +kernel
theorem dL_law_364 : decode cL_law 364 = .ok (.iconst 4, 1) := by decide +kernel
theorem dL_law_365 : decode cL_law 365 = .ok (.iadd, 1) := by decide +kernel
theorem dL_law_366 : decode cL_law 366 = .ok (.iaload, 1) := by decide +kernel
theorem dL_law_367 : decode cL_law 367 = .ok (.invokevirtual 76, 3) := by decide +kernel
theorem dL_law_370 : decode cL_law 370 = .ok (.istore 6, 2) := by decide +kernel
theorem dL_law_372 : decode cL_law 372 = .ok (.aload_n 2, 1) := by decide +kernel
theorem dL_law_373 : decode cL_law 373 = .ok (.invokevirtual 62, 3) := by decide +kernel
theorem dL_law_376 : decode cL_law 376 = .ok (.iload 5, 2) := by decide +kernel
theorem dL_law_378 : decode cL_law 378 = .ok (.if_icmp .eq 5, 3) := by decide +kernel
theorem dL_law_383 : decode cL_law 383 = .ok (.iload 5, 2) := by decide +kernel
theorem dL_law_385 : decode cL_law 385 = .ok (.ifCond .ne 15, 3) := by decide +kernel
theorem dL_law_388 : decode cL_law 388 = .ok (.aload_n 3, 1) := by decide +kernel
theorem dL_law_389 : decode cL_law 389 = .ok (.iconst 0, 1) := by decide +kernel
theorem dL_law_390 : decode cL_law 390 = .ok (.laload, 1) := by decide +kernel
theorem dL_law_391 : decode cL_law 391 = .ok (.iload 6, 2) := by decide +kernel
theorem dL_law_393 : decode cL_law 393 = .ok (.i2l, 1) := by decide +kernel
theorem dL_law_394 : decode cL_law 394 = .ok (.lcmp, 1) := by decide +kernel
theorem dL_law_395 : decode cL_law 395 = .ok (.ifCond .eq 5, 3) := by decide +kernel
theorem dL_law_400 : decode cL_law 400 = .ok (.goto 273, 3) := by decide +kernel
theorem dL_law_403 : decode cL_law 403 = .ok (.aload_n 1, 1) := by decide +kernel
theorem dL_law_404 : decode cL_law 404 = .ok (.aload_n 0, 1) := by decide +kernel
theorem dL_law_405 : decode cL_law 405 = .ok (.iload 4, 2) := by decide +kernel
theorem dL_law_407 : decode cL_law 407 = .ok (.iconst 1, 1) := by decide +kernel
theorem dL_law_408 : decode cL_law 408 = .ok (.iadd, 1) := by decide +kernel
theorem dL_law_409 : decode cL_law 409 = .ok (.iaload, 1) := by decide +kernel
theorem dL_law_410 : decode cL_law 410 = .ok (.aload_n 3, 1) := by decide +kernel
theorem dL_law_411 : decode cL_law 411 = .ok (.invokestatic 77, 3) := by decide +kernel
theorem dL_law_414 : decode cL_law 414 = .ok (.istore 5, 2) := by decide +kernel
theorem dL_law_416 : decode cL_law 416 = .ok (.aload_n 2, 1) := by decide +kernel
theorem dL_law_417 : decode cL_law 417 = .ok (.aload_n 0, 1) := by decide +kernel
theorem dL_law_418 : decode cL_law 418 = .ok (.iload 4, 2) := by decide +kernel
theorem dL_law_420 : decode cL_law 420 = .ok (.iconst 1, 1) := by decide +kernel
theorem dL_law_421 : decode cL_law 421 = .ok (.iadd, 1) := by decide +kernel
theorem dL_law_422 : decode cL_law 422 = .ok (.iaload, 1) := by decide +kernel
theorem dL_law_423 : decode cL_law 423 = .ok (.invokevirtual 79, 3) := by decide +kernel
theorem dL_law_426 : decode cL_law 426 = .ok (.istore 6, 2) := by decide +kernel
theorem dL_law_428 : decode cL_law 428 = .ok (.aload_n 2, 1) := by decide +kernel
theorem dL_law_429 : decode cL_law 429 = .ok (.invokevirtual 62, 3) := by decide +kernel
theorem dL_law_432 : decode cL_law 432 = .ok (.iload 5, 2) := by decide +kernel
theorem dL_law_434 : decode cL_law 434 = .ok (.if_icmp .eq 5, 3) := by decide +kernel
theorem dL_law_439 : decode cL_law 439 = .ok (.iload 5, 2) := by decide +kernel
theorem dL_law_441 : decode cL_law 441 = .ok (.ifCond .ne 15, 3) := by decide +kernel
theorem dL_law_444 : decode cL_law 444 = .ok (.aload_n 3, 1) := by decide +kernel
theorem dL_law_445 : decode cL_law 445 = .ok (.iconst 0, 1) := by decide +kernel
theorem dL_law_446 : decode cL_law 446 = .ok (.laload, 1) := by decide +kernel
theorem dL_law_447 : decode cL_law 447 = .ok (.iload 6, 2) := by decide +kernel
theorem dL_law_449 : decode cL_law 449 = .ok (.i2l, 1) := by decide +kernel
theorem dL_law_450 : decode cL_law 450 = .ok (.lcmp, 1) := by decide +kernel
theorem dL_law_451 : decode cL_law 451 = .ok (.ifCond .eq 5, 3) := by decide +kernel
theorem dL_law_456 : decode cL_law 456 = .ok (.goto 217, 3) := by decide +kernel
theorem dL_law_459 : decode cL_law 459 = .ok (.aload_n 1, 1) := by decide +kernel
theorem dL_law_460 : decode cL_law 460 = .ok (.aload_n 0, 1) := by decide +kernel
theorem dL_law_461 : decode cL_law 461 = .ok (.iload 4, 2) := by decide +kernel
theorem dL_law_463 : decode cL_law 463 = .ok (.iconst 1, 1) := by decide +kernel
theorem dL_law_464 : decode cL_law 464 = .ok (.iadd, 1) := by decide +kernel
theorem dL_law_465 : decode cL_law 465 = .ok (.iaload, 1) := by decide +kernel
theorem dL_law_466 : decode cL_law 466 = .ok (.aload_n 0, 1) := by decide +kernel
theorem dL_law_467 : decode cL_law 467 = .ok (.iload 4, 2) := by decide +kernel
theorem dL_law_469 : decode cL_law 469 = .ok (.iconst 2, 1) := by decide +kernel
theorem dL_law_470 : decode cL_law 470 = .ok (.iadd, 1) := by decide +kernel
theorem dL_law_471 : decode cL_law 471 = .ok (.iaload, 1) := by decide +kernel
theorem dL_law_472 : decode cL_law 472 = .ok (.aload_n 0, 1) := by decide +kernel
theorem dL_law_473 : decode cL_law 473 = .ok (.iload 4, 2) := by decide +kernel
theorem dL_law_475 : decode cL_law 475 = .ok (.iconst 3, 1) := by decide +kernel
theorem dL_law_476 : decode cL_law 476 = .ok (.iadd, 1) := by decide +kernel
theorem dL_law_477 : decode cL_law 477 = .ok (.iaload, 1) := by decide +kernel
theorem dL_law_478 : decode cL_law 478 = .ok (.aload_n 3, 1) := by decide +kernel
theorem dL_law_479 : decode cL_law 479 = .ok (.invokestatic 80, 3) := by decide +kernel
theorem dL_law_482 : decode cL_law 482 = .ok (.istore 5, 2) := by decide +kernel
theorem dL_law_484 : decode cL_law 484 = .ok (.aload_n 2, 1) := by decide +kernel
theorem dL_law_485 : decode cL_law 485 = .ok (.aload_n 0, 1) := by decide +kernel
theorem dL_law_486 : decode cL_law 486 = .ok (.iload 4, 2) := by decide +kernel
theorem dL_law_488 : decode cL_law 488 = .ok (.iconst 1, 1) := by decide +kernel
theorem dL_law_489 : decode cL_law 489 = .ok (.iadd, 1) := by decide +kernel
theorem dL_law_490 : decode cL_law 490 = .ok (.iaload, 1) := by decide +kernel
theorem dL_law_491 : decode cL_law 491 = .ok (.aload_n 0, 1) := by decide +kernel
theorem dL_law_492 : decode cL_law 492 = .ok (.iload 4, 2) := by decide +kernel
theorem dL_law_494 : decode cL_law 494 = .ok (.iconst 2, 1) := by decide +kernel
theorem dL_law_495 : decode cL_law 495 = .ok (.iadd, 1) := by decide +kernel
theorem dL_law_496 : decode cL_law 496 = .ok (.iaload, 1) := by decide +kernel
theorem dL_law_497 : decode cL_law 497 = .ok (.aload_n 0, 1) := by decide +kernel
theorem dL_law_498 : decode cL_law 498 = .ok (.iload 4, 2) := by decide +kernel
theorem dL_law_500 : decode cL_law 500 = .ok (.iconst 3, 1) := by decide +kernel
theorem dL_law_501 : decode cL_law 501 = .ok (.iadd, 1) := by decide +kernel
theorem dL_law_502 : decode cL_law 502 = .ok (.iaload, 1) := by decide +kernel
theorem dL_law_503 : decode cL_law 503 = .ok (.invokevirtual 82, 3) := by decide +kernel
theorem dL_law_506 : decode cL_law 506 = .ok (.lstore 6, 2) := by decide +kernel
theorem dL_law_508 : decode cL_law 508 = .ok (.aload_n 2, 1) := by decide +kernel
theorem dL_law_509 : decode cL_law 509 = .ok (.invokevirtual 62, 3) := by decide +kernel
theorem dL_law_512 : decode cL_law 512 = .ok (.iload 5, 2) := by decide +kernel
theorem dL_law_514 : decode cL_law 514 = .ok (.if_icmp .eq 5, 3) := by decide +kernel
theorem dL_law_519 : decode cL_law 519 = .ok (.iload 5, 2) := by decide +kernel
theorem dL_law_521 : decode cL_law 521 = .ok (.ifCond .ne 14, 3) := by decide +kernel
theorem dL_law_524 : decode cL_law 524 = .ok (.aload_n 3, 1) := by decide +kernel
theorem dL_law_525 : decode cL_law 525 = .ok (.iconst 0, 1) := by decide +kernel
theorem dL_law_526 : decode cL_law 526 = .ok (.laload, 1) := by decide +kernel
theorem dL_law_527 : decode cL_law 527 = .ok (.lload 6, 2) := by decide +kernel
theorem dL_law_529 : decode cL_law 529 = .ok (.lcmp, 1) := by decide +kernel
theorem dL_law_530 : decode cL_law 530 = .ok (.ifCond .eq 5, 3) := by decide +kernel
theorem dL_law_535 : decode cL_law 535 = .ok (.goto 138, 3) := by decide +kernel
theorem dL_law_538 : decode cL_law 538 = .ok (.aload_n 1, 1) := by decide +kernel
theorem dL_law_539 : decode cL_law 539 = .ok (.aload_n 0, 1) := by decide +kernel
theorem dL_law_540 : decode cL_law 540 = .ok (.iload 4, 2) := by decide +kernel
theorem dL_law_542 : decode cL_law 542 = .ok (.iconst 1, 1) := by decide +kernel
theorem dL_law_543 : decode cL_law 543 = .ok (.iadd, 1) := by decide +kernel
theorem dL_law_544 : decode cL_law 544 = .ok (.iaload, 1) := by decide +kernel
theorem dL_law_545 : decode cL_law 545 = .ok (.aload_n 0, 1) := by decide +kernel
theorem dL_law_546 : decode cL_law 546 = .ok (.iload 4, 2) := by decide +kernel
theorem dL_law_548 : decode cL_law 548 = .ok (.iconst 2, 1) := by decide +kernel
theorem dL_law_549 : decode cL_law 549 = .ok (.iadd, 1) := by decide +kernel
theorem dL_law_550 : decode cL_law 550 = .ok (.iaload, 1) := by decide +kernel
theorem dL_law_551 : decode cL_law 551 = .ok (.aload_n 0, 1) := by decide +kernel
theorem dL_law_552 : decode cL_law 552 = .ok (.iload 4, 2) := by decide +kernel
theorem dL_law_554 : decode cL_law 554 = .ok (.iconst 3, 1) := by decide +kernel
theorem dL_law_555 : decode cL_law 555 = .ok (.iadd, 1) := by decide +kernel
theorem dL_law_556 : decode cL_law 556 = .ok (.iaload, 1) := by decide +kernel
theorem dL_law_557 : decode cL_law 557 = .ok (.aload_n 3, 1) := by decide +kernel
theorem dL_law_558 : decode cL_law 558 = .ok (.invokestatic 83, 3) := by decide +kernel
theorem dL_law_561 : decode cL_law 561 = .ok (.istore 5, 2) := by decide +kernel
theorem dL_law_563 : decode cL_law 563 = .ok (.aload_n 2, 1) := by decide +kernel
theorem dL_law_564 : decode cL_law 564 = .ok (.aload_n 0, 1) := by decide +kernel
theorem dL_law_565 : decode cL_law 565 = .ok (.iload 4, 2) := by decide +kernel
theorem dL_law_567 : decode cL_law 567 = .ok (.iconst 1, 1) := by decide +kernel
theorem dL_law_568 : decode cL_law 568 = .ok (.iadd, 1) := by decide +kernel
theorem dL_law_569 : decode cL_law 569 = .ok (.iaload, 1) := by decide +kernel
theorem dL_law_570 : decode cL_law 570 = .ok (.aload_n 0, 1) := by decide +kernel
theorem dL_law_571 : decode cL_law 571 = .ok (.iload 4, 2) := by decide +kernel
theorem dL_law_573 : decode cL_law 573 = .ok (.iconst 2, 1) := by decide +kernel
theorem dL_law_574 : decode cL_law 574 = .ok (.iadd, 1) := by decide +kernel
theorem dL_law_575 : decode cL_law 575 = .ok (.iaload, 1) := by decide +kernel
theorem dL_law_576 : decode cL_law 576 = .ok (.aload_n 0, 1) := by decide +kernel
theorem dL_law_577 : decode cL_law 577 = .ok (.iload 4, 2) := by decide +kernel
theorem dL_law_579 : decode cL_law 579 = .ok (.iconst 3, 1) := by decide +kernel
theorem dL_law_580 : decode cL_law 580 = .ok (.iadd, 1) := by decide +kernel
theorem dL_law_581 : decode cL_law 581 = .ok (.iaload, 1) := by decide +kernel
theorem dL_law_582 : decode cL_law 582 = .ok (.invokevirtual 85, 3) := by decide +kernel
theorem dL_law_585 : decode cL_law 585 = .ok (.lstore 6, 2) := by decide +kernel
theorem dL_law_587 : decode cL_law 587 = .ok (.aload_n 2, 1) := by decide +kernel
theorem dL_law_588 : decode cL_law 588 = .ok (.invokevirtual 62, 3) := by decide +kernel
theorem dL_law_591 : decode cL_law 591 = .ok (.iload 5, 2) := by decide +kernel
theorem dL_law_593 : decode cL_law 593 = .ok (.if_icmp .eq 5, 3) := by decide +kernel
theorem dL_law_598 : decode cL_law 598 = .ok (.iload 5, 2) := by decide +kernel
theorem dL_law_600 : decode cL_law 600 = .ok (.ifCond .ne 14, 3) := by decide +kernel
theorem dL_law_603 : decode cL_law 603 = .ok (.aload_n 3, 1) := by decide +kernel
theorem dL_law_604 : decode cL_law 604 = .ok (.iconst 0, 1) := by decide +kernel
theorem dL_law_605 : decode cL_law 605 = .ok (.laload, 1) := by decide +kernel
theorem dL_law_606 : decode cL_law 606 = .ok (.lload 6, 2) := by decide +kernel
theorem dL_law_608 : decode cL_law 608 = .ok (.lcmp, 1) := by decide +kernel
theorem dL_law_609 : decode cL_law 609 = .ok (.ifCond .eq 5, 3) := by decide +kernel
theorem dL_law_614 : decode cL_law 614 = .ok (.goto 59, 3) := by decide +kernel
theorem dL_law_617 : decode cL_law 617 = .ok (.aload_n 1, 1) := by decide +kernel
theorem dL_law_618 : decode cL_law 618 = .ok (.aload_n 0, 1) := by decide +kernel
theorem dL_law_619 : decode cL_law 619 = .ok (.iload 4, 2) := by decide +kernel
theorem dL_law_621 : decode cL_law 621 = .ok (.iconst 1, 1) := by decide +kernel
theorem dL_law_622 : decode cL_law 622 = .ok (.iadd, 1) := by decide +kernel
theorem dL_law_623 : decode cL_law 623 = .ok (.iaload, 1) := by decide +kernel
theorem dL_law_624 : decode cL_law 624 = .ok (.aload_n 3, 1) := by decide +kernel
theorem dL_law_625 : decode cL_law 625 = .ok (.invokestatic 86, 3) := by decide +kernel
theorem dL_law_628 : decode cL_law 628 = .ok (.istore 5, 2) := by decide +kernel
theorem dL_law_630 : decode cL_law 630 = .ok (.aload_n 2, 1) := by decide +kernel
theorem dL_law_631 : decode cL_law 631 = .ok (.aload_n 0, 1) := by decide +kernel
theorem dL_law_632 : decode cL_law 632 = .ok (.iload 4, 2) := by decide +kernel
theorem dL_law_634 : decode cL_law 634 = .ok (.iconst 1, 1) := by decide +kernel
theorem dL_law_635 : decode cL_law 635 = .ok (.iadd, 1) := by decide +kernel
theorem dL_law_636 : decode cL_law 636 = .ok (.iaload, 1) := by decide +kernel
theorem dL_law_637 : decode cL_law 637 = .ok (.invokevirtual 88, 3) := by decide +kernel
theorem dL_law_640 : decode cL_law 640 = .ok (.istore 6, 2) := by decide +kernel
theorem dL_law_642 : decode cL_law 642 = .ok (.aload_n 2, 1) := by decide +kernel
theorem dL_law_643 : decode cL_law 643 = .ok (.invokevirtual 62, 3) := by decide +kernel
theorem dL_law_646 : decode cL_law 646 = .ok (.iload 5, 2) := by decide +kernel
theorem dL_law_648 : decode cL_law 648 = .ok (.if_icmp .eq 5, 3) := by decide +kernel
theorem dL_law_653 : decode cL_law 653 = .ok (.iload 5, 2) := by decide +kernel
theorem dL_law_655 : decode cL_law 655 = .ok (.ifCond .ne 15, 3) := by decide +kernel
theorem dL_law_658 : decode cL_law 658 = .ok (.aload_n 3, 1) := by decide +kernel
theorem dL_law_659 : decode cL_law 659 = .ok (.iconst 0, 1) := by decide +kernel
theorem dL_law_660 : decode cL_law 660 = .ok (.laload, 1) := by decide +kernel
theorem dL_law_661 : decode cL_law 661 = .ok (.iload 6, 2) := by decide +kernel
theorem dL_law_663 : decode cL_law 663 = .ok (.i2l, 1) := by decide +kernel
theorem dL_law_664 : decode cL_law 664 = .ok (.lcmp, 1) := by decide +kernel
theorem dL_law_665 : decode cL_law 665 = .ok (.ifCond .eq 5, 3) := by decide +kernel
theorem dL_law_670 : decode cL_law 670 = .ok (.goto 3, 3) := by decide +kernel
theorem dL_law_673 : decode cL_law 673 = .ok (.iinc 4 5, 3) := by decide +kernel
theorem dL_law_676 : decode cL_law 676 = .ok (.goto (-653), 3) := by decide +kernel
theorem dL_law_679 : decode cL_law 679 = .ok (.iconst 1, 1) := by decide +kernel
theorem dL_law_680 : decode cL_law 680 = .ok (.ireturn, 1) := by decide +kernel
abbrev vwCl : List vw_C := [(RJx3273f, TJx3273f, 6), (RJxde1cd, TJxde1cd, 6), (RX1, TX1, 6), (RX2, TX2, 7), (RX4, TX4, 5), (RX5, TX5, 4), (RX6, TX6, 7), (RX7, TX7, 1), (RX8, TX8, 17)]
/-! printed names, those that are used -/
end
section
/-! what is thrown over a frame is caught by a row of the method's own table (own rows: the printed ones name laws that the rounds' library lacks) -/
section TXA
variable {e : Env} {f : JFrame} {a : Addr} {cell : Cell}
/-- a row that covers the place and names a class: it is linked, and takes what can be assigned to it -/
theorem tx_row {S : State} {x : ExceptionTableEntry} {t : List ExceptionTableEntry} {k : ClassId} {Q : Handler → Pre} {E : CtlPost} {d : Bool} {acts : List Action} (hx : covers x f.pc = true) (h0 : x.catchType ≠ 0)
    (hl : S.vm.ClassLinks e.platform f.method.cls x.catchType k) (hcell : S.heap[a]? = some cell) (hst : ∀ z, cell.vm ≠ .statics z) (hc : ∃ z, S.vm.classes[cell.cls]? = some z) (hk : ∃ z, S.vm.classes[k]? = some z) :
    wp (findHandler.go f a (x :: t)) Q E e d acts S ↔
      if S.vm.assignable cell.cls k = true then Q (.found x.handlerPc) d acts (S.setVm (S.vm.noted f.method.cls x.catchType (.cls k))) else wp (findHandler.go f a t) Q E e d acts (S.setVm (S.vm.noted f.method.cls x.catchType (.cls k))) := by
  have hn : S.vm.Alike (S.vm.noted f.method.cls x.catchType (.cls k)) := (Vm.Alike.refl S.vm).noted _ _ _
  obtain ⟨z1, hz1⟩ := hc
  obtain ⟨z2, hz2⟩ := hk
  obtain ⟨y1, hy1, -⟩ := hn.2.2 _ _ hz1
  obtain ⟨y2, hy2, -⟩ := hn.2.2 _ _ hz2
  have hag : (S.vm.noted f.method.cls x.catchType (.cls k)).assignable cell.cls k = S.vm.assignable cell.cls k := by rw [hn.assignable]
  obtain ⟨h1, h2⟩ := (resolveClass_links e.toSetting hl).op (op := VmOp.resolveClass f.method.cls x.catchType) rfl
  simp only [covers] at hx
  cases hf : S.vm.assignable cell.cls k <;> rw [hf] at hag <;> simp [findHandler.go, hx, h0, h1, h2, hcell, hst, hy1, hy2, hag, VmOp.dirties, VmOp.acts]
/-- rows ahead that don't take it, then one that does -/
theorem tx_find {s0 : State} (hst : ∀ z, cell.vm ≠ .statics z) (hc : ∃ z, s0.vm.classes[cell.cls]? = some z) {x : ExceptionTableEntry} {suf : List ExceptionTableEntry} (hx : covers x f.pc = true) (h0 : x.catchType ≠ 0)
    {kx : ClassId} (hlx : s0.vm.ClassLinks e.platform f.method.cls x.catchType kx) (hfit : s0.vm.assignable cell.cls kx = true) (pre : List ExceptionTableEntry) :
    ∀ S : State, s0.WarmedH S.vm → S.heap[a]? = some cell → (∀ z ∈ pre, covers z f.pc = false ∨ (z.catchType ≠ 0 ∧ ∃ kz, s0.vm.ClassLinks e.platform f.method.cls z.catchType kz ∧ s0.vm.assignable cell.cls kz = false)) →
      ∃ v1 : Vm, s0.WarmedH v1 ∧ ∀ (Q : Handler → Pre) (E : CtlPost) (d : Bool) (acts : List Action), wp (findHandler.go f a (pre ++ x :: suf)) Q E e d acts S ↔ Q (.found x.handlerPc) d acts (S.setVm v1) := by
  obtain ⟨z0, hz0⟩ := hc
  induction pre with
  | nil =>
    intro S hW hcell _
    obtain ⟨z1, hz1, -⟩ := hW.alike.2.2 _ _ hz0
    obtain ⟨dk, _, _, kt, hd, _, _, _, _, hkt, _, hop⟩ := hlx.here
    obtain ⟨z2, hz2, -⟩ := hW.alike.2.2 _ _ hkt
    refine ⟨_, hW.noted hd hop (State.rightAt_cls hlx), fun Q E d acts => ?_⟩
    rw [List.nil_append, tx_row hx h0 (hW.classLinks hlx) hcell hst ⟨z1, hz1⟩ ⟨z2, hz2⟩, if_pos (by rw [hW.alike.assignable]; exact hfit)]
  | cons y ys ih =>
    intro S hW hcell hp
    have hp2 := fun z hz => hp z (List.mem_cons_of_mem _ hz)
    rcases hp y List.mem_cons_self with hn | ⟨hy0, ky, hly, hno⟩
    · obtain ⟨v1, h1, h2⟩ := ih S hW hcell hp2
      exact ⟨v1, h1, fun Q E d acts => by rw [List.cons_append, W.findHandler_go_skip hn]; exact h2 Q E d acts⟩
    · by_cases hcv : covers y f.pc = true
      · obtain ⟨z1, hz1, -⟩ := hW.alike.2.2 _ _ hz0
        obtain ⟨dk, _, _, kt, hd, _, _, _, _, hkt, _, hop⟩ := hly.here
        obtain ⟨z2, hz2, -⟩ := hW.alike.2.2 _ _ hkt
        obtain ⟨v1, h1, h2⟩ := ih (S.setVm (S.vm.noted f.method.cls y.catchType (.cls ky))) (hW.noted hd hop (State.rightAt_cls hly)) hcell hp2
        refine ⟨v1, h1, fun Q E d acts => ?_⟩
        rw [List.cons_append, tx_row hcv hy0 (hW.classLinks hly) hcell hst ⟨z1, hz1⟩ ⟨z2, hz2⟩, if_neg (by rw [hW.alike.assignable, hno]; exact Bool.false_ne_true)]
        exact h2 Q E d acts
      · obtain ⟨v1, h1, h2⟩ := ih S hW hcell hp2
        exact ⟨v1, h1, fun Q E d acts => by rw [List.cons_append, W.findHandler_go_skip (by simpa using hcv)]; exact h2 Q E d acts⟩
end TXA
section TXB
variable {p : Program} {l : Launch} {e : Env} {R : Room} {s : State} {m : MethodId} {args : Array Value} {below : List Frame} {meth : Method} {c : Code} {H : Heap} {locs : List Loc} {cells slots : Nat} {Q : State → Prop} {pc : Nat} {ls : Array Slot} {rest : List Value}
/-- caught by the row x of this method's table; the rows ahead don't take it -/
theorem tx_catch {own name : String} {E : String} {ce : Cell} {q : Addr} (hown : s.vm.findClass own = some m.cls) (pre : List ExceptionTableEntry) (x : ExceptionTableEntry) (suf : List ExceptionTableEntry) (hsplit : c.exceptionTable.toList = pre ++ x :: suf)
    (hpass : ∀ z ∈ pre, covers z pc = false ∨ (z.catchType ≠ 0 ∧ ∃ nm : String, (Cond.classLink own z.catchType nm).before args s = true ∧ va_Nc E nm s)) (hx : covers x pc = true) (h0 : x.catchType ≠ 0)
    (hlink : (Cond.classLink own x.catchType name).before args s = true) (hcast : va_Nw (.castable E name) s) (hcell : H[q]? = some ce) (hv : ce.vm = .none) (hcl : s.vm.findClass E = some ce.cls)
    (kk : W p l e R s m args below meth c H locs cells slots Q (F0 m x.handlerPc ls [.ref q])) : vx_W p l e R s m args below meth c H locs cells slots Q (F0 m pc ls rest) q := by
  intro T hT X
  have hpl : e.platform.magicAccessors = ({} : Platform).magicAccessors := by rw [X.admits.platform]
  obtain ⟨c3, c4, hc3, hc4, hasg⟩ := Cond.castable_spec (args := #[]) hcast
  cases Option.some.inj (hc3.symm.trans hcl)
  obtain ⟨c5, hc5, hcl5⟩ := Cond.classLink_spec hown hlink e.platform hpl
  cases Option.some.inj (hc4.symm.trans hc5)
  have hst : ∀ z, ce.vm ≠ .statics z := fun z h => by rw [hv] at h; cases h
  obtain ⟨v1, hW1, hq⟩ := tx_find (e := e) (f := F0 m pc ls rest) (a := q) (cell := ce) (s0 := s) (suf := suf) hst (Vm.classAt_of_findClass hcl) hx h0 hcl5 hasg pre ((T.setTop (F0 m pc ls rest)).pushFrame (.throwing q)) X.warmed (by show T.heap[q]? = _; rw [hT]; exact hcell) (fun z hz => by
    rcases hpass z hz with h | ⟨hz0, nm, hl1, a8, b8, h1, h2, h3⟩
    · exact Or.inl h
    · obtain ⟨c6, hc6, hcl6⟩ := Cond.classLink_spec hown hl1 e.platform hpl
      cases Option.some.inj (h1.symm.trans hcl)
      cases Option.some.inj (h2.symm.trans hc6)
      exact Or.inr ⟨hz0, _, hcl6, h3⟩)
  obtain ⟨t, a1, b1⟩ := kk (T.setVm v1) hT (X.noted hW1)
  refine ⟨t, ?_, b1⟩
  have hA : At T (F0 m pc ls rest).method c below := X.here
  obtain ⟨hgo, hw⟩ := hA.throwing q
  refine Steps.head hgo hw ?_
  have hfi : ∀ (Q : Handler → Pre) (E : CtlPost) (d : Bool) (acts : List Action), wp (findHandler (F0 m pc ls rest) q) Q E e d acts ((T.setTop (F0 m pc ls rest)).pushFrame (.throwing q)) ↔ Q (.found x.handlerPc) d acts (((T.setTop (F0 m pc ls rest)).pushFrame (.throwing q)).setVm v1) := fun Q E d acts => by
    rw [W.findHandler_eq (meth := meth) (code := c) X.method' X.code, hsplit]
    exact hq Q E d acts
  have hstep : ∀ r : List Frame, (stepThrowing e ((T.setTop (F0 m pc ls rest)).pushFrame (.throwing q)) q (.java (F0 m pc ls rest) :: r)).1 = (((T.setTop (F0 m pc ls rest)).pushFrame (.throwing q)).setVm v1).setFrames (.java (F0 m x.handlerPc ls [.ref q]) :: r) := fun r => by
    simp only [stepThrowing, searchFrame, vmDo]
    generalize hr : Sem.go _ e false [] _ = res
    obtain ⟨as, rfl, -⟩ := Sem.eq_ok_of hr (a := Handler.found x.handlerPc) (s' := ((T.setTop (F0 m pc ls rest)).pushFrame (.throwing q)).setVm v1) (acts' := []) (by simp [hfi _ _ _ _])
    rfl
  rw [stepThread_throwing (frames_entered hA.top _), hstep]
  obtain ⟨g0, hg0⟩ := Option.isSome_iff_exists.mp hA.top
  obtain ⟨r, hr⟩ := State.topJava?_eq_some.mp hg0
  have hr1 : (T.setVm v1).frames = .java g0 :: r := hr
  rw [State.setTop_of_frames _ hr1] at a1
  have hfin : (((T.setTop (F0 m pc ls rest)).pushFrame (.throwing q)).setVm v1).setFrames (.java (F0 m x.handlerPc ls [.ref q]) :: T.frames.tail) = (T.setVm v1).setFrames (.java (F0 m x.handlerPc ls [.ref q]) :: r) := by
    rw [hr, List.tail_cons, State.pushFrame, State.setTop_of_frames _ hr, State.setFrames_setFrames]
    exact State.setFrames_setFrames (T.setVm v1) _ _
  rw [hfin]
  exact a1
end TXB
end
section
/-! 'throw new NoSuchElementException("text")': its constructor passes the text on by entry 13 of its own pool (the printed rows know constructors by entry 7 alone); after the library's law of such a throw -/
section TXN
def nN : String := "java/util/NoSuchElementException"
def rN : String := "java/lang/RuntimeException"
abbrev nX : ByteArray := prog_25_method_4_code
theorem nX_0 : decode nX 0 = .ok (.aload_n 0, 1) := by decide +kernel
theorem nX_1 : decode nX 1 = .ok (.aload_n 1, 1) := by decide +kernel
theorem nX_2 : decode nX 2 = .ok (.invokespecial 13, 3) := by decide +kernel
theorem nX_5 : decode nX 5 = .ok (.return_, 1) := by decide +kernel
def tx_own (own : String) (ic : Nat) : List Cond := [.methodLink own ic (Bundle.initS nN), .instantiable nN 6, .castable nN nN, .selects nN Bundle.tFill0 Bundle.tFill0, .selects nN Bundle.tFill Bundle.tFill,
  .lays nN Bundle.tN "cause" "Ljava/lang/Throwable;", .lays nN Bundle.tN "stackTrace" Bundle.steD, .lays nN Bundle.tN "suppressedExceptions" Bundle.listD, .lays nN Bundle.tN "detailMessage" "Ljava/lang/String;",
  .isRef (.static Bundle.tN "UNASSIGNED_STACK" Bundle.steD), .isRef (.static Bundle.tN "SUPPRESSED_SENTINEL" Bundle.listD), .fieldLink Bundle.tN 198 Bundle.tN "backtrace" "Ljava/lang/Object;", .lays Bundle.tN Bundle.tN "backtrace" "Ljava/lang/Object;", .lays nN Bundle.tN "backtrace" "Ljava/lang/Object;"]
def tx_N (own : String) (ic : Nat) : List Cond := Bundle.throwableAtoms ++ (Bundle.throwableSAtoms ++ (Bundle.passSAtoms nN rN 13 nX ++ (Bundle.chainSAtoms rN ["java/lang/Exception"] ++ tx_own own ic)))
def tx_atN (own : String) (ic : Nat) : List Cond := (tx_N own ic).filter vx_no
variable {p : Program} {l : Launch} {e : Env} {R : Room} {s : State} {m : MethodId} {args : Array Value} {below : List Frame} {meth : Method} {c : Code} {locs : List Loc} {cells slots : Nat}
set_option maxHeartbeats 4000000 in
theorem tx_ctorN {V : State} (X : Stand p l e R s m args below meth c V locs cells slots) (hexec : p.tables.exec = Jvm.exec) (htr : e.platform.stackTraces = false) {own : String} {ic : Nat}
    (hown : s.vm.findClass own = some m.cls) (h : ∀ w ∈ tx_N own ic, w.before args s = true) (hlocs : ∀ x ∈ locs, ∀ cell, s.heap[x.base]? = some cell → cell.vm.isStatics = false)
    {a : Addr} {cX : ClassId} {kX : Class} (hfX : s.vm.findClass nN = some cX) (hkX : s.vm.classes[cX]? = some kX) (hcell : V.heap[a]? = some (freshCell cX kX)) (hnew : s.heap.size ≤ a) {msg : Value} (hmsg : msg.isRef = true)
    {g : JFrame} (hg : g.method = m) (hsize : g.locals.size = c.maxLocals) (hlocked : g.locked = none) (hentered : g.entered = []) {rest : List Value} (hstack : g.stack = msg :: .ref a :: .ref a :: rest)
    (hd6 : decode c.code g.pc = .ok (.invokespecial ic, 3)) (hd9 : decode c.code (g.pc + 3) = .ok (.athrow, 1)) (hout : ∀ x ∈ c.exceptionTable.toList, covers x (g.pc + 3) = false)
    (hRf : 5 < R.frames) (hRl : 2 * g.monitorRoom + ((Value.ref a :: rest).map fun v => v.category).sum + 81 ≤ R.locals) (hlocks : meth.locks = false) :
    ∃ U : State, Steps p.tables e below (V.setTop g) U ∧ U.status = .running ∧ Ended U below (.threw a) ∧ s.WarmedH U.vm ∧ s.sameButNew ({ U with vm := s.vm } : State) locs cells slots ∧ ∃ ce, U.heap[a]? = some ce ∧ ce.vm = .none ∧ s.vm.findClass nN = some ce.cls := by
  have hpl : e.platform.magicAccessors = ({} : Platform).magicAccessors := by rw [X.admits.platform]
  have h1 : ∀ w ∈ Bundle.throwableAtoms, w.before args s = true := fun w hw => h w (List.mem_append_left _ hw)
  have h2 : ∀ w ∈ Bundle.throwableSAtoms, w.before args s = true := fun w hw => h w (List.mem_append_right _ (List.mem_append_left _ hw))
  have h3 : ∀ w ∈ Bundle.passSAtoms nN rN 13 nX, w.before args s = true := fun w hw => h w (List.mem_append_right _ (List.mem_append_right _ (List.mem_append_left _ hw)))
  have h4 : ∀ w ∈ Bundle.chainSAtoms rN ["java/lang/Exception"], w.before args s = true := fun w hw => h w (List.mem_append_right _ (List.mem_append_right _ (List.mem_append_right _ (List.mem_append_left _ hw))))
  have h5 : ∀ w ∈ tx_own own ic, w.holds args s none s [] = true := fun w hw => h w (List.mem_append_right _ (List.mem_append_right _ (List.mem_append_right _ (List.mem_append_right _ hw))))
  obtain ⟨T, Z0, L, -, Y⟩ := ThrowableC.of_atoms (args := args) (by rw [X.admits.platform]) (by rw [X.admits.platform]) hpl h1
  obtain ⟨Z, M, LZ, LM, hnZ⟩ := Init0T.ofS_atoms (args := args) hpl L Y h2
  obtain ⟨P0, L0, hP0, hs0⟩ := PassC.ofS_atoms (args := args) (s := s) hpl (X := nN) (Y := rN) (by decide +kernel) (by decide +kernel) nX_0 nX_1 nX_2 nX_5 h3
  obtain ⟨P1, Ps, hlen, L1, hL, hP1, hl1, hl2⟩ := Bundle.chainS (args := args) hpl hnZ ["java/lang/Exception"] rN (by decide +kernel) (by decide +kernel) h4
  have hfd : s.vm.findClass nN = some P0.m.cls := findClass_of_methodNamed hP0
  cases Option.some.inj (hfX.symm.trans hfd)
  obtain ⟨c1, k1, hc1, hk, hord, -, -, hn6⟩ := Cond.instantiable_spec (h5 (.instantiable nN 6) (by simp [tx_own]))
  cases Option.some.inj (hc1.symm.trans hfd)
  cases Option.some.inj (hkX.symm.trans hk)
  have hsel0 : selectMethod e.platform s.vm P0.m.cls T.fill0 = .method T.fill0 := by
    obtain ⟨c2, r2, m2, q1, q2, q3, q4, -⟩ := Cond.selects_spec (h5 (.selects nN Bundle.tFill0 Bundle.tFill0) (by simp [tx_own]))
    cases Option.some.inj (q1.symm.trans hfd)
    cases Option.some.inj (q2.symm.trans (State.methodFound?_of_named Y.fill0 (by decide)))
    cases Option.some.inj (q3.symm.trans Y.fill0)
    rw [Launch.admits_selectMethod X.admits]; exact q4
  have hselF : selectMethod e.platform s.vm P0.m.cls T.fill = .method T.fill := by
    obtain ⟨c2, r2, m2, q1, q2, q3, q4, -⟩ := Cond.selects_spec (h5 (.selects nN Bundle.tFill Bundle.tFill) (by simp [tx_own]))
    cases Option.some.inj (q1.symm.trans hfd)
    cases Option.some.inj (q2.symm.trans (State.methodFound?_of_named Y.fill (by decide)))
    cases Option.some.inj (q3.symm.trans Y.fill)
    rw [Launch.admits_selectMethod X.admits]; exact q4
  obtain ⟨cellS0, hcS0, hiss⟩ := Y.statics
  obtain ⟨u0, hu0⟩ := Cond.staticRefV Y.unassigned L.unassignedStatic L.statics hcS0 hiss (h5 (.isRef (.static Bundle.tN "UNASSIGNED_STACK" Bundle.steD)) (by simp [tx_own]))
  obtain ⟨sen, hsen⟩ := Cond.staticRefV Y.sentinel L.sentinelStatic L.statics hcS0 hiss (h5 (.isRef (.static Bundle.tN "SUPPRESSED_SENTINEL" Bundle.listD)) (by simp [tx_own]))
  obtain ⟨ci198, i198, fB, hk198, hg198, ha198, hsB, -, hnB, htB, hffB⟩ := Cond.ownField (t := .object "java/lang/Object") Y.found L.cls (by decide +kernel) (h5 (.fieldLink Bundle.tN 198 Bundle.tN "backtrace" "Ljava/lang/Object;") (by simp [tx_own])) (h5 (.lays Bundle.tN Bundle.tN "backtrace" "Ljava/lang/Object;") (by simp [tx_own])) e.platform hpl
  obtain ⟨cellS, hcS1, heS, -, hkeep⟩ := X.same.2.2.2.2.2 T.aS cellS0 hcS0
  have hoff : ∀ i, (⟨T.aS, i⟩ : Loc) ∉ locs := fun i hm => by
    have h9 := hlocs _ hm cellS0 hcS0
    rw [hiss] at h9; cases h9
  have hkn : cellS.vm ≠ .unknown := by
    rw [heS]; intro hu
    rw [show cellS0.vm = .unknown from hu] at hiss
    cases hiss
  have hneS : T.aS ≠ a := Nat.ne_of_lt (Nat.lt_of_lt_of_le (Array.getElem?_eq_some_iff.mp hcS0).1 hnew)
  obtain ⟨iM, hffM⟩ := Y.msg
  obtain ⟨tyC, dC, hdC, hdnC⟩ := Cond.laysAt hfd hk Y.cause (h5 (.lays nN Bundle.tN "cause" "Ljava/lang/Throwable;") (by simp [tx_own]))
  obtain ⟨tyS, dS, hdS, hdnS⟩ := Cond.laysAt hfd hk Y.stack (h5 (.lays nN Bundle.tN "stackTrace" Bundle.steD) (by simp [tx_own]))
  obtain ⟨tyP, dP, hdP, hdnP⟩ := Cond.laysAt hfd hk Y.supp (h5 (.lays nN Bundle.tN "suppressedExceptions" Bundle.listD) (by simp [tx_own]))
  obtain ⟨tyM, dM, hdM, hdnM⟩ := Cond.laysAt hfd hk hffM (h5 (.lays nN Bundle.tN "detailMessage" "Ljava/lang/String;") (by simp [tx_own]))
  obtain ⟨tyB, dB, hdB, hdnB⟩ := Cond.laysAt hfd hk hffB (h5 (.lays nN Bundle.tN "backtrace" "Ljava/lang/Object;") (by simp [tx_own]))
  have bC := Cond.laysApart hdB hdC hdnB hdnC (by rw [hnB, Y.causeName]; decide)
  have bS := Cond.laysApart hdB hdS hdnB hdnS (by rw [hnB, Y.stackName]; decide)
  have bP := Cond.laysApart hdB hdP hdnB hdnP (by rw [hnB, Y.suppName]; decide)
  have hskip : SkipFacts T e.platform s (fun u => u) u0 ((preparedCellV T.toThrowableT (freshCell P0.m.cls kX) a u0 sen).withEntry V.cur) :=
    ⟨{ ci198 := ci198, i198 := i198, fBack := fB }, ⟨hk198, hg198, ha198, hsB⟩, by
      have h9 := fresh_default (c := P0.m.cls) tyB
      rw [htB] at h9
      simpa [preparedCellV, Cell.setSlot, Cell.withEntry, Array.getElem?_setIfInBounds, bC, bS, bP, bC.symm, bS.symm, bP.symm, defaultValue] using h9, fun _ _ => rfl⟩
  obtain ⟨tm, methC, cdC, kC, vm1, hnC, -, -, -, -, -, -, -, hW1, st1⟩ := Steps.initColdS (tb := p.tables) (e := e) (below := below) (s := s) (U := V) X.here hexec X.warmed hpl hown (t := Bundle.initS nN) rfl rfl (by decide +kernel)
    (h5 (.methodLink own ic (Bundle.initS nN)) (by simp [tx_own])) (h3 (.instanceMethod (Bundle.initS nN)) (by simp [Bundle.passSAtoms])) (bytes := nX) (maxL := 2) (h3 (.code (Bundle.initS nN) nX 2 none) (by simp [Bundle.passSAtoms]))
    (f := g) hg (a := a) (msg := msg) (rest := .ref a :: rest) hstack hd6
  cases Option.some.inj (hnC.symm.trans hP0)
  obtain ⟨vm2, X2, st2⟩ := (X.noted hW1).ctorMessageOffV hexec (g := { g with stack := .ref a :: rest }) hg hsize T L Z LZ M LM (P0 :: P1 :: Ps)
    (fun P hP => by
      rcases List.mem_cons.mp hP with rfl | hP
      · exact L0
      · rcases List.mem_cons.mp hP with rfl | hP
        · exact L1
        · exact hL P hP) ⟨Option.some.inj (hs0.symm.trans hP1), hl1, hl2⟩ (u0 := u0) (sen := sen) (self := a) hmsg (cell := freshCell P0.m.cls kX) (cellS := cellS)
    hcell (fun _ => by simp) (by simp) rfl rfl hsel0 hselF hcS1 hneS hkn (by rw [hkeep _ (hoff _)]; exact hu0) (by rw [hkeep _ (hoff _)]; exact hsen)
    (Takes.of_laid hk hord tyC (by rw [Y.causeType]; rfl)) (Takes.of_laid hk hord tyS (by rw [Y.stackType]; exact fits_refV_array _ u0)) (Takes.of_laid hk hord tyP (by rw [Y.suppType]; exact fits_refV_object _ sen))
    (Takes.of_laid hk hord tyM (by rw [Y.msgType]; exact fits_refV_object _ ⟨msg, hmsg⟩)) Y.objLocals hskip htr [] hd6
    (by simp only [List.length_cons, hlen, List.length_nil]; omega) (by simp only [List.length_cons, hlen, List.length_nil]; exact hRl)
  obtain ⟨hwalk, hrun, hended, hWU, hsame⟩ := X2.athrowLeaves hexec (g := { g with stack := .ref a :: rest, pc := g.pc + 3 }) hg hlocked hentered hout (a := a) (rest := rest) rfl hd9
  have hlt : a < ((V.setVm vm1).setVm vm2).heap.size := (Array.getElem?_eq_some_iff.mp hcell).1
  have hU := heapAt_setCell_self (s := (V.setVm vm1).setVm vm2) (plainBareV T.toThrowableT (freshCell P0.m.cls kX) a u0 sen msg) hlt
  refine ⟨_, st1 _ (fun acts => ?_), hrun, hended, hWU, hsame.weaken (fun y hy hlt1 => ?_) (Nat.le_refl _) (Nat.le_refl _), _, hU, rfl, hfd⟩
  · rw [doInvoke_state]
    exact st2 _ hwalk
  · rcases List.mem_append.mp hy with h9 | h9
    · exact h9
    · exfalso
      have hb : y.base = a := by
        simp only [List.mem_cons, List.not_mem_nil, or_false] at h9
        rcases h9 with rfl | rfl | rfl | rfl | rfl <;> rfl
      rw [hb] at hlt1
      exact Nat.not_lt.mpr hnew hlt1
variable {H : Heap} {ls : Array Slot} {rest : List Value} {Qc : Array Value → State → Outcome → State → Prop} {XC : String → State → State → Prop} {free : Addr → Prop}
set_option maxHeartbeats 4000000 in
theorem tx_throwN {cc : ByteArray} {pc : Nat} (hexec : p.tables.exec = Jvm.exec) (hb : c.code = cc) (hl : l.stackTraces = false) {own text : String} {ik is ic mc ms sa : Nat} {A : Nat → Prop}
    (hown : s.vm.findClass own = some m.cls) (hk : (Cond.classLink own ik nN).before args s = true) (hini : (Cond.initialized nN).before args s = true) (hstr : vk_R own is text sa s) (hat : ∀ w ∈ tx_atN own ic, w.before args s = true)
    (hgood : ∀ w ∈ Cond.classLink own ik nN :: Cond.initialized nN :: tx_atN own ic, vx_ot w = true)
    (hU : vx_Zq Bundle.tN "UNASSIGNED_STACK" Bundle.steD A s s.heap) (hN : vx_Zq Bundle.tN "SUPPRESSED_SENTINEL" Bundle.listD A s s.heap) (hS : va_S A s.heap H locs) (hsize : ls.size = c.maxLocals)
    (d0 : decode cc pc = .ok (.new ik, 3)) (d3 : decode cc (pc + 3) = .ok (.dup, 1)) (d4 : decode cc (pc + 4) = .ok (.ldc is, 2)) (d6 : decode cc (pc + 6) = .ok (.invokespecial ic, 3)) (d9 : decode cc (pc + 9) = .ok (.athrow, 1))
    (hout : ∀ x ∈ c.exceptionTable.toList, covers x (pc + 9) = false)
    (hRf : 5 < R.frames) (hRl : (rest.map fun v => v.category).sum + 82 ≤ R.locals) (hRcells : cells + 1 ≤ R.cells) (hRslots : slots + 6 ≤ R.slots) (hlocks : meth.locks = false)
    (hx : ∀ t : State, s.vm.Alike t.vm → H.size ≤ t.heap.size → (∀ q : Nat, q < H.size → t.heap[q]? = H[q]?) → XC nN s t)
    (hf : ∀ z ∈ locs, free z.base) (hc : cells + 1 ≤ mc) (hs : slots + 6 ≤ ms) :
    W p l e R s m args below meth c H locs cells slots (vx_MQ below Qc XC args s mc ms free) (F0 m pc ls rest) := by
  intro T hT X
  have htr : e.platform.stackTraces = false := (show e.platform.stackTraces = l.stackTraces by rw [X.admits.platform]).trans hl
  have Y := vx_rebase X (R' := { frames := R.frames, locals := R.locals, cells := 1, slots := 6 }) (Nat.le_refl _) (Nat.le_refl _) hRcells hRslots
  obtain ⟨s', hA⟩ : ∃ z, z = (T.setVm s.vm).setFrames (.invoking m args :: below) := ⟨_, rfl⟩
  rw [← hA] at Y
  have hvm : s'.vm = s.vm := by rw [hA]; rfl
  have hhp : s'.heap = H := by rw [hA]; exact hT
  have hW0 : s.WarmedH s'.vm := by rw [hvm]; exact State.WarmedH.refl s
  have hat' : ∀ w ∈ tx_atN own ic, w.before args s' = true := fun w hw => vx_ot_at hW0 hvm.symm (hgood w (List.mem_cons_of_mem _ (List.mem_cons_of_mem _ hw))) (hat w hw)
  have hk' : (Cond.classLink own ik nN).before args s' = true := vx_ot_at hW0 hvm.symm (hgood _ List.mem_cons_self) hk
  have hini' : (Cond.initialized nN).before args s' = true := vx_ot_at hW0 hvm.symm (hgood _ (List.mem_cons_of_mem _ List.mem_cons_self)) hini
  have hU' : vx_Zq Bundle.tN "UNASSIGNED_STACK" Bundle.steD A s' s'.heap := by rw [hhp]; exact vx_Zq.moved hW0.alike (hU.kept hS.2.1)
  have hN' : vx_Zq Bundle.tN "SUPPRESSED_SENTINEL" Bundle.listD A s' s'.heap := by rw [hhp]; exact vx_Zq.moved hW0.alike (hN.kept hS.2.1)
  have h : ∀ w ∈ tx_N own ic, w.before args s' = true := vx_own hat' (vx_isRefq hU'.1) (vx_isRefq hN'.1) hU'.2.word hN'.2.word
  have hown' : s'.vm.findClass own = some m.cls := by rw [hvm]; exact hown
  have hins : (Cond.instantiable nN 6).before args s' = true := h _ (by simp [tx_N, tx_own])
  obtain ⟨vm₁, cX, kX, hfX, hkX, -, -, X₁, st1⟩ := Y.newCold hexec (own := own) (C := nN) (index := ik) (n := 6) hown' hk' hins hini'
    (g := F0 m pc ls rest) rfl (by rw [hb]; exact d0) (Nat.le_refl _) (Nat.le_refl _)
  generalize hT1 : (T.setVm vm₁).pushCell { cls := cX, slots := kX.instanceTypes.map defaultValue, vm := .none } = T1 at X₁ st1
  have hcat : (Value.ref T.heap.size).category = 1 := rfl
  have hcellA : T1.heap[T.heap.size]? = some (freshCell cX kX) := by rw [← hT1]; exact State.heap_pushCell_size _ _
  have d3' : decode c.code (pc + 3) = .ok (.dup, 1) := by rw [hb]; exact d3
  have d4' : decode c.code (pc + 4) = .ok (.ldc is, 2) := by rw [hb]; exact d4
  have hstr' : vk_R own is text sa s' := vk_R.warm hW0 hstr
  obtain ⟨U, hsteps, hrun, hend, hW, hsame, ce, hce, hv0, hcl0⟩ := tx_ctorN X₁ hexec htr (own := own) (ic := ic) hown' h (fun x hx => nomatch hx) hfX hkX hcellA (by rw [hhp, hT]; exact Nat.le_refl _) (msg := .ref sa) rfl
    (g := { method := m, pc := pc + 6, locals := ls, stack := .ref sa :: .ref T.heap.size :: .ref T.heap.size :: rest, locked := none }) rfl hsize rfl rfl (rest := rest) rfl
    (by rw [hb]; exact d6) (by rw [hb]; exact d9) hout hRf (by simp only [List.map_cons, List.sum_cons, hcat]; omega) hlocks
  obtain ⟨f1, f2⟩ := vx_frame hsame
  rw [hhp] at f1 f2
  have hWs : s.WarmedH U.vm := State.WarmedH.trans hW0 hW
  have hcl : s.vm.findClass nN = some ce.cls := by rw [hvm] at hcl0; exact hcl0
  have hall : s.sameButNew ({ U with vm := s.vm } : State) locs mc ms := by
    subst hA
    obtain ⟨e1, e2⟩ := hsame
    rw [State.setFrames_setFrames] at e1
    have h2 : (T.setVm s.vm).sameButNew ({ U with vm := s.vm } : State) [] (0 + 1) (0 + 6) := ⟨e1, e2⟩
    have h3 := X.same.trans h2
    rw [List.append_nil] at h3
    exact h3.mono hc hs
  refine ⟨U, ?_, .threw T.heap.size, hrun, hend, Or.inr ⟨T.heap.size, rfl, nN, ce, locs, hx U hWs.alike f1 (fun q hq => f2 q hq (fun z hz => nomatch hz)), hce, hv0, hcl, hWs, hall, hf⟩⟩
  refine st1 _ ?_
  show Steps p.tables e below (T1.setTop { method := m, pc := pc + 3, locals := ls, stack := .ref T.heap.size :: rest, locked := none }) _
  jvm_step X₁.here [X₁.here.top, hexec, d3', Value.category]
  exact X₁.ldcString hexec (own := own) (text := text) (index := is) (a := sa) hown' hstr'.1 hstr'.2
    (g := { method := m, pc := pc + 4, locals := ls, stack := .ref T.heap.size :: .ref T.heap.size :: rest, locked := none }) rfl d4' _ hsteps
end TXN
end
section
/-! words, starts and ends that all contracts of this claim share -/
theorem tx_lt {x y : Int32} {a b : Int} (hx : x.toInt = a) (hy : y.toInt = b) (h : x < y) : a < b := by rw [← hx, ← hy]; exact Int32.lt_iff_toInt_lt.mp h
theorem tx_le {x y : Int32} {a b : Int} (hx : x.toInt = a) (hy : y.toInt = b) (h : x ≤ y) : a ≤ b := by rw [← hx, ← hy]; exact Int32.le_iff_toInt_le.mp h
theorem tx_nlt {x y : Int32} {a b : Int} (hx : x.toInt = a) (hy : y.toInt = b) (h : ¬ x < y) : b ≤ a := by rw [← hx, ← hy]; exact Int.not_lt.mp (fun z => h (Int32.lt_iff_toInt_lt.mpr z))
theorem tx_nle {x y : Int32} {a b : Int} (hx : x.toInt = a) (hy : y.toInt = b) (h : ¬ x ≤ y) : b < a := by rw [← hx, ← hy]; exact Int.not_le.mp (fun z => h (Int32.le_iff_toInt_le.mpr z))
theorem tx_eq {x y : Int32} {a b : Int} (hx : x.toInt = a) (hy : y.toInt = b) (h : x = y) : a = b := by rw [← hx, ← hy, h]
theorem tx_ne {x y : Int32} {a b : Int} (hx : x.toInt = a) (hy : y.toInt = b) (h : ¬ x = y) : ¬ a = b := by rw [← hx, ← hy]; exact fun z => h (Int32.toInt_inj.mp z)
def pk_Pre (D : va_G) (ws : va_W) (tys : List (ClassId × FieldType)) (sz : Nat) (U : State) : Prop := U.heap.size = sz ∧ va_P D vwCl ws U.heap ∧ va_K D vwCl tys U ∧ va_D (fun _ => True) ws
theorem pk_blind {av : List Value} {D : va_G} {ws : va_W} {tys : List (ClassId × FieldType)} {sz : Nat} : FrameBlind (va_Pc av (pk_Pre D ws tys sz)) := fun a U g mk q => by
  obtain ⟨q0, q1, qP, qK, qD⟩ := q
  exact ⟨q0, q1, qP, va_K.moved (u := U) (U := U.calling g mk a) (Vm.Alike.refl U.vm) qK, qD⟩
theorem pk_call {s : State} {H : Heap} {A : Nat → Prop} {av : List Value} {D : va_G} {ws : va_W} {tys : List (ClassId × FieldType)} (hP : va_P D vwCl ws H) (hK : va_K D vwCl tys s) (hD : va_D A ws) :
    ∀ U : State, U.heap = H → s.WarmedH U.vm → va_Pc av (pk_Pre D ws tys H.size) av.toArray U := fun U hU hW => ⟨rfl, by rw [hU], by rw [hU]; exact hP, va_K.moved hW.alike hK, hD.weaken (fun _ _ _ _ => trivial)⟩
/-- the two statics that a new exception reads -/
def p_Z (A : Nat → Prop) (U : State) (H : Heap) : Prop := vx_Zq Bundle.tN "UNASSIGNED_STACK" Bundle.steD A U H ∧ vx_Zq Bundle.tN "SUPPRESSED_SENTINEL" Bundle.listD A U H
theorem p_Z.moved {A : Nat → Prop} {u U : State} {H : Heap} (h : p_Z A u H) (hvm : u.vm.Alike U.vm) : p_Z A U H := ⟨vx_Zq.moved hvm h.1, vx_Zq.moved hvm h.2⟩
theorem p_Z.kept {A : Nat → Prop} {U : State} {H H1 : Heap} (h : p_Z A U H) (hq : ∀ a : Nat, a < H.size → ¬ A a → H1[a]? = H[a]?) : p_Z A U H1 := ⟨vx_Zq.kept h.1 hq, vx_Zq.kept h.2 hq⟩
theorem p_Z.narrow {A B : Nat → Prop} {U : State} {H : Heap} (h : p_Z A U H) (hAB : ∀ q, B q → A q) : p_Z B U H := ⟨vx_Zq.narrow h.1 hAB, vx_Zq.narrow h.2 hAB⟩
/-- words that aren't kept by themselves: what is thrown can be cast to its own class -/
def p_xw : List Cond := [.castable "java/lang/IllegalArgumentException" "java/lang/IllegalArgumentException", .castable "java/lang/NegativeArraySizeException" "java/lang/NegativeArraySizeException", .castable "java/util/NoSuchElementException" "java/util/NoSuchElementException", .declares (Bundle.initS "java/lang/RuntimeException"), .declares (Bundle.initS "java/lang/Exception"), .declares (Bundle.initS "java/lang/Throwable"), .castable RX2 "KeyAtlas$Body", .castable RX4 "KeyAtlas$Body", .castable RX6 "KeyAtlas$Body"]
theorem p_xw_warm {s U : State} (hW : s.WarmedH U.vm) : ∀ w ∈ p_xw, va_Nw w s → va_Nw w U := by
  intro w hw h
  simp only [p_xw, List.mem_cons, List.not_mem_nil, or_false] at hw
  rcases hw with rfl | rfl | rfl | rfl | rfl | rfl | rfl | rfl | rfl <;> first | exact va_Nw.warmC hW h | exact va_Nw.warmD hW h
theorem p_xw_tab : p_xw.all Cond.onTables = true := by decide +kernel
/-- what the class's methods need of the tables beside their words -/
def p_N (U : State) : Prop := va_AO "KeyAtlas$Body" U ∧ va_Nw (.methodLinkNest RX2 5 yX5_init "KeyAtlas") U ∧ va_Nw (.methodLinkNest RX4 5 yX5_init "KeyAtlas") U ∧ va_Nw (.methodLinkNest RX6 7 yX5_init "KeyAtlas") U ∧
  (∃ a, vk_R RX7 17 "no such kind" a U) ∧ (∃ a, vk_R RX7 24 "capacity below 0" a U) ∧ (∃ a, vk_R RX7 31 "a or b out of range" a U) ∧ (∃ a, vk_R RX7 241 "no such object" a U) ∧ (∃ a, vk_R RX7 221 "nothing is counted by that number" a U) ∧
  (∀ w ∈ p_xw, va_Nw w U) ∧ va_Nc "java/lang/NegativeArraySizeException" "java/lang/IllegalArgumentException" U ∧ va_Nc "java/lang/NegativeArraySizeException" "java/lang/IllegalStateException" U
theorem p_N.ao {U : State} (h : p_N U) : va_AO "KeyAtlas$Body" U := h.1
theorem p_N.n2 {U : State} (h : p_N U) : va_Nw (.methodLinkNest RX2 5 yX5_init "KeyAtlas") U := h.2.1
theorem p_N.n4 {U : State} (h : p_N U) : va_Nw (.methodLinkNest RX4 5 yX5_init "KeyAtlas") U := h.2.2.1
theorem p_N.n6 {U : State} (h : p_N U) : va_Nw (.methodLinkNest RX6 7 yX5_init "KeyAtlas") U := h.2.2.2.1
theorem p_N.stX7_17 {U : State} (h : p_N U) : ∃ a, vk_R RX7 17 "no such kind" a U := h.2.2.2.2.1
theorem p_N.stX7_24 {U : State} (h : p_N U) : ∃ a, vk_R RX7 24 "capacity below 0" a U := h.2.2.2.2.2.1
theorem p_N.stX7_31 {U : State} (h : p_N U) : ∃ a, vk_R RX7 31 "a or b out of range" a U := h.2.2.2.2.2.2.1
theorem p_N.stX7_241 {U : State} (h : p_N U) : ∃ a, vk_R RX7 241 "no such object" a U := h.2.2.2.2.2.2.2.1
theorem p_N.stX7_221 {U : State} (h : p_N U) : ∃ a, vk_R RX7 221 "nothing is counted by that number" a U := h.2.2.2.2.2.2.2.2.1
theorem p_N.xw {U : State} (h : p_N U) : ∀ w ∈ p_xw, va_Nw w U := h.2.2.2.2.2.2.2.2.2.1
theorem p_N.nc1 {U : State} (h : p_N U) : va_Nc "java/lang/NegativeArraySizeException" "java/lang/IllegalArgumentException" U := h.2.2.2.2.2.2.2.2.2.2.1
theorem p_N.nc2 {U : State} (h : p_N U) : va_Nc "java/lang/NegativeArraySizeException" "java/lang/IllegalStateException" U := h.2.2.2.2.2.2.2.2.2.2.2
theorem p_R_warm {own tx : String} {k : Nat} {s U : State} (hW : s.WarmedH U.vm) (h : ∃ a, vk_R own k tx a s) : ∃ a, vk_R own k tx a U := by
  obtain ⟨a, h⟩ := h
  exact ⟨a, vk_R.warm hW h⟩
theorem p_N.warm {s U : State} (h : p_N s) (hW : s.WarmedH U.vm) : p_N U := by
  obtain ⟨h1, h2, h3, h4, h5, h6, h7, h8, h9, h10, h11, h12⟩ := h
  exact ⟨va_AO.moved hW.alike h1, va_Nw.warmM hW h2, va_Nw.warmM hW h3, va_Nw.warmM hW h4, p_R_warm hW h5, p_R_warm hW h6, p_R_warm hW h7, p_R_warm hW h8, p_R_warm hW h9, fun w hw => p_xw_warm hW w hw (h10 w hw), va_Nc.moved hW.alike h11, va_Nc.moved hW.alike h12⟩
def pk_PreX (D : va_G) (ws : va_W) (tys : List (ClassId × FieldType)) (sz : Nat) (U : State) : Prop := U.heap.size = sz ∧ va_P D vwCl ws U.heap ∧ va_K D vwCl tys U ∧ va_D (fun _ => True) ws ∧ p_N U ∧ p_Z (va_A ws sz) U U.heap
theorem pk_blindX {av : List Value} {D : va_G} {ws : va_W} {tys : List (ClassId × FieldType)} {sz : Nat} : FrameBlind (va_Pc av (pk_PreX D ws tys sz)) := fun a U g mk q => by
  obtain ⟨q0, q1, qP, qK, qD, qN, qZ⟩ := q
  exact ⟨q0, q1, qP, va_K.moved (u := U) (U := U.calling g mk a) (Vm.Alike.refl U.vm) qK, qD, p_N.warm (s := U) (U := U.calling g mk a) qN (State.WarmedH.refl U), p_Z.moved (u := U) (U := U.calling g mk a) qZ (Vm.Alike.refl U.vm)⟩
theorem pk_callX {s : State} {H : Heap} {A : Nat → Prop} {av : List Value} {D : va_G} {ws : va_W} {tys : List (ClassId × FieldType)} (hP : va_P D vwCl ws H) (hK : va_K D vwCl tys s) (hD : va_D A ws) (hN : p_N s) (hZ : p_Z (va_A ws H.size) s H) :
    ∀ U : State, U.heap = H → s.WarmedH U.vm → va_Pc av (pk_PreX D ws tys H.size) av.toArray U := fun U hU hW => ⟨rfl, by rw [hU], by rw [hU]; exact hP, va_K.moved hW.alike hK, hD.weaken (fun _ _ _ _ => trivial), hN.warm hW, by rw [hU]; exact hZ.moved hW.alike⟩
theorem tx_hat {args : Array Value} {s : State} {L : List Cond} (h1 : ∀ w ∈ p_xw, va_Nw w s) (h2 : ∀ w ∈ L.filter goodWord, w.before args s = true) (h3 : ∀ w ∈ L.filter (fun w => !goodWord w), w ∈ p_xw) : ∀ w ∈ L, w.before args s = true :=
  vx_hat h2 h3 (fun w hw => va_Nw.use (List.all_eq_true.mp p_xw_tab w hw) (h1 w hw))
theorem tx_in {x : Int32} {n : Nat} (h1 : 0 ≤ x.toInt) (h2 : x.toInt < n) : vp_in x n := vp_in_iff.mpr ⟨h1, h2⟩
theorem tx_at {P : Int → Prop} {x : Int32} {n : Int} (h : x.toInt = n) (hp : P n) : P x.toInt := by rw [h]; exact hp
theorem tx_sub {x y : Int32} {b : Int} (hy : y.toInt = b) (hb : 0 ≤ b) (h0 : b ≤ x.toInt) : (x - y).toInt = x.toInt - b := by
  have h := Int32.toInt_sub x y
  have h1 := Int32.toInt_lt x
  rw [hy] at h
  rw [h, Int.bmod_def]
  split <;> omega
theorem tx_subin {x y : Int32} {n : Nat} {b : Int} (hy : y.toInt = b) (hb : 0 ≤ b) (h0 : b ≤ x.toInt) (h1 : x.toInt < b + n) : vp_in (x - y) n := tx_in (by rw [tx_sub hy hb h0]; omega) (by rw [tx_sub hy hb h0]; omega)
theorem tx_cmp (x : Int64) : lg_cmp x x = 0 := by simp [lg_cmp]
/-- make on a fresh object: 0 it is made, 1 and 3 it is refused -/
def mkIs (k a b : Int32) (t : Int) : Prop :=
  (t = 1 ∧ (k.toInt < 0 ∨ 2 < k.toInt)) ∨ (t = 3 ∧ k.toInt = 0 ∧ a.toInt < 0) ∨
  (t = 1 ∧ k.toInt = 0 ∧ 0 ≤ a.toInt ∧ (1000 < a.toInt ∨ b.toInt < 0 ∨ 3 < b.toInt)) ∨ (t = 0 ∧ k.toInt = 0 ∧ 0 ≤ a.toInt ∧ a.toInt ≤ 1000 ∧ 0 ≤ b.toInt ∧ b.toInt ≤ 3) ∨
  (t = 1 ∧ k.toInt = 1 ∧ (a.toInt < 0 ∨ 1000 < a.toInt ∨ b.toInt < 0 ∨ 1 < b.toInt)) ∨ (t = 0 ∧ k.toInt = 1 ∧ 0 ≤ a.toInt ∧ a.toInt ≤ 1000 ∧ 0 ≤ b.toInt ∧ b.toInt ≤ 1) ∨
  (t = 1 ∧ k.toInt = 2 ∧ (a.toInt < 0 ∨ 3 < a.toInt)) ∨ (t = 0 ∧ k.toInt = 2 ∧ 0 ≤ a.toInt ∧ a.toInt ≤ 3)
theorem mkIs_one {k a b : Int32} {t u : Int} (h1 : mkIs k a b t) (h2 : mkIs k a b u) : t = u := by
  unfold mkIs at h1 h2
  omega
/-- count on a fresh object: the code, the answer -/
def ctIs (w : Int32) (t r : Int) : Prop := (t = 0 ∧ r = 0 ∧ w.toInt = 0) ∨ (t = 0 ∧ r = -1 ∧ 10 ≤ w.toInt ∧ w.toInt ≤ 25) ∨ (t = 0 ∧ r = -1 ∧ 30 ≤ w.toInt ∧ w.toInt ≤ 45) ∨
  (t = 1 ∧ ¬ w.toInt = 0 ∧ (w.toInt < 10 ∨ 25 < w.toInt) ∧ (w.toInt < 30 ∨ 45 < w.toInt))
theorem ctIs_one {w : Int32} {t r u q : Int} (h1 : ctIs w t r) (h2 : ctIs w u q) : t = u ∧ (t = 0 → r = q) := by
  unfold ctIs at h1 h2
  omega
theorem p1_atw : ∀ w ∈ (vx_atS RX7 19 "java/lang/IllegalArgumentException" ["java/lang/RuntimeException", "java/lang/Exception"]).filter (fun w => !goodWord w), w ∈ p_xw := by decide +kernel
theorem p1_atw2 : ∀ w ∈ (tx_atN RX7 243).filter (fun w => !goodWord w), w ∈ p_xw := by decide +kernel
theorem p1_atn2 : ∀ w ∈ (tx_atN RX7 243).filter goodWord, w ∈ lw_tbl := by decide +kernel
theorem tx_P0 {D : va_G} {cl : List vw_C} {H : Heap} : va_P D cl [] H := fun k q h => by simp at h
theorem tx_D0 {A : Nat → Prop} : va_D A [] := ⟨fun i j p q h => by simp at h, fun k q h => by simp at h⟩
def mkRng (k a b : Int32) : Prop := (k.toInt = 0 ∧ 0 ≤ a.toInt ∧ a.toInt ≤ 1000 ∧ 0 ≤ b.toInt ∧ b.toInt ≤ 3) ∨ (k.toInt = 1 ∧ 0 ≤ a.toInt ∧ a.toInt ≤ 1000 ∧ 0 ≤ b.toInt ∧ b.toInt ≤ 1) ∨ (¬ k.toInt = 0 ∧ ¬ k.toInt = 1 ∧ 0 ≤ a.toInt ∧ a.toInt ≤ 3)
def p1_NX : List Cond := (vx_atS RX7 26 "java/lang/NegativeArraySizeException" ["java/lang/RuntimeException", "java/lang/Exception"]).filter goodWord
def wsN_make : List Cond := wsX7_make ++ p1_NX
theorem p1_NXg : p1_NX.all goodWord = true := by decide +kernel
theorem tx_at2 {P : Int → Int → Prop} {x y : Int32} {n m : Int} (h : x.toInt = n) (h2 : y.toInt = m) (hp : P n m) : P x.toInt y.toInt := by rw [h, h2]; exact hp
theorem goodIn_mono {ws a b : List Cond} (h : GoodIn a ws) : GoodIn (a ++ b) ws := fun w hw => ⟨List.mem_append_left _ (h w hw).1, (h w hw).2⟩
end
section
def wsP_X8_drop : List Cond := .code yX8_drop cX8_drop 4 (some .int) :: (wsV RX8 80 RX8 yX8_isThere wsX8_isThere ++ wsV RX8 68 RX8 yX8_refuse wsX8_refuse)
theorem gP_X8_drop_isThere : GoodIn wsP_X8_drop (wsV RX8 80 RX8 yX8_isThere wsX8_isThere) := goodIn_sub (fun w h => List.mem_cons_of_mem _ (List.mem_append_left _ (h))) (by decide +kernel)
theorem gP_X8_drop_refuse : GoodIn wsP_X8_drop (wsV RX8 68 RX8 yX8_refuse wsX8_refuse) := goodIn_sub (fun w h => List.mem_cons_of_mem _ (List.mem_append_right _ h)) (by decide +kernel)
def wsP_X8_map : List Cond := .code yX8_map cX8_map 11 (some .long) :: (wsV RX8 80 RX8 yX8_isThere wsX8_isThere ++ wsV RX8 68 RX8 yX8_refuse wsX8_refuse)
theorem gP_X8_map_isThere : GoodIn wsP_X8_map (wsV RX8 80 RX8 yX8_isThere wsX8_isThere) := goodIn_sub (fun w h => List.mem_cons_of_mem _ (List.mem_append_left _ (h))) (by decide +kernel)
theorem gP_X8_map_refuse : GoodIn wsP_X8_map (wsV RX8 68 RX8 yX8_refuse wsX8_refuse) := goodIn_sub (fun w h => List.mem_cons_of_mem _ (List.mem_append_right _ h)) (by decide +kernel)
def wsP_X8_view : List Cond := .code yX8_view cX8_view 6 (some .int) :: (wsV RX8 80 RX8 yX8_isThere wsX8_isThere ++ wsV RX8 68 RX8 yX8_refuse wsX8_refuse)
theorem gP_X8_view_isThere : GoodIn wsP_X8_view (wsV RX8 80 RX8 yX8_isThere wsX8_isThere) := goodIn_sub (fun w h => List.mem_cons_of_mem _ (List.mem_append_left _ (h))) (by decide +kernel)
theorem gP_X8_view_refuse : GoodIn wsP_X8_view (wsV RX8 68 RX8 yX8_refuse wsX8_refuse) := goodIn_sub (fun w h => List.mem_cons_of_mem _ (List.mem_append_right _ h)) (by decide +kernel)
def wsP_X8_cursor : List Cond := .code yX8_cursor cX8_cursor 3 (some .int) :: (wsV RX8 80 RX8 yX8_isThere wsX8_isThere ++ wsV RX8 68 RX8 yX8_refuse wsX8_refuse)
theorem gP_X8_cursor_isThere : GoodIn wsP_X8_cursor (wsV RX8 80 RX8 yX8_isThere wsX8_isThere) := goodIn_sub (fun w h => List.mem_cons_of_mem _ (List.mem_append_left _ (h))) (by decide +kernel)
theorem gP_X8_cursor_refuse : GoodIn wsP_X8_cursor (wsV RX8 68 RX8 yX8_refuse wsX8_refuse) := goodIn_sub (fun w h => List.mem_cons_of_mem _ (List.mem_append_right _ h)) (by decide +kernel)
def wsP_X8_move : List Cond := .code yX8_move cX8_move 9 (some .long) :: (wsV RX8 80 RX8 yX8_isThere wsX8_isThere ++ wsV RX8 68 RX8 yX8_refuse wsX8_refuse)
theorem gP_X8_move_isThere : GoodIn wsP_X8_move (wsV RX8 80 RX8 yX8_isThere wsX8_isThere) := goodIn_sub (fun w h => List.mem_cons_of_mem _ (List.mem_append_left _ (h))) (by decide +kernel)
theorem gP_X8_move_refuse : GoodIn wsP_X8_move (wsV RX8 68 RX8 yX8_refuse wsX8_refuse) := goodIn_sub (fun w h => List.mem_cons_of_mem _ (List.mem_append_right _ h)) (by decide +kernel)
def wsP_X8_item : List Cond := .code yX8_item cX8_item 5 (some .long) :: (wsV RX8 80 RX8 yX8_isThere wsX8_isThere ++ wsV RX8 68 RX8 yX8_refuse wsX8_refuse)
theorem gP_X8_item_isThere : GoodIn wsP_X8_item (wsV RX8 80 RX8 yX8_isThere wsX8_isThere) := goodIn_sub (fun w h => List.mem_cons_of_mem _ (List.mem_append_left _ (h))) (by decide +kernel)
theorem gP_X8_item_refuse : GoodIn wsP_X8_item (wsV RX8 68 RX8 yX8_refuse wsX8_refuse) := goodIn_sub (fun w h => List.mem_cons_of_mem _ (List.mem_append_right _ h)) (by decide +kernel)
def wsP_X8_count : List Cond := .code yX8_count cX8_count 4 (some .int) :: (va_wsS RX8 64 yX8_in wsX8_in ++ wsV RX8 68 RX8 yX8_refuse wsX8_refuse ++ wsV RX8 143 RX8 yX8_isMap wsX8_isMap ++ [.fieldLink RX8 60 "KeyAtlasModel" "thrown" "I", .fieldLink RX8 7 "KeyAtlasModel" "kind" "[I"])
theorem gP_X8_count_in : GoodIn wsP_X8_count (va_wsS RX8 64 yX8_in wsX8_in) := goodIn_sub (fun w h => List.mem_cons_of_mem _ (List.mem_append_left _ (List.mem_append_left _ (List.mem_append_left _ (h))))) (by decide +kernel)
theorem gP_X8_count_refuse : GoodIn wsP_X8_count (wsV RX8 68 RX8 yX8_refuse wsX8_refuse) := goodIn_sub (fun w h => List.mem_cons_of_mem _ (List.mem_append_left _ (List.mem_append_left _ (List.mem_append_right _ h)))) (by decide +kernel)
theorem gP_X8_count_isMap : GoodIn wsP_X8_count (wsV RX8 143 RX8 yX8_isMap wsX8_isMap) := goodIn_sub (fun w h => List.mem_cons_of_mem _ (List.mem_append_left _ (List.mem_append_right _ h))) (by decide +kernel)
def wsP_X7_bodyAt : List Cond := .code yX7_bodyAt cX7_bodyAt 3 (some (.object "KeyAtlas$Body")) :: (wsV RX7 236 RX7 yX7_bodyOrNull wsX7_bodyOrNull ++ [.classLink RX7 239 nN, .initialized nN] ++ (tx_atN RX7 243).filter goodWord)
theorem gP_X7_bodyAt_bodyOrNull : GoodIn wsP_X7_bodyAt (wsV RX7 236 RX7 yX7_bodyOrNull wsX7_bodyOrNull) := goodIn_sub (fun w h => List.mem_cons_of_mem _ (List.mem_append_left _ (List.mem_append_left _ (h)))) (by decide +kernel)
def wsP_X7_sizeOf : List Cond := .code yX7_sizeOf cX7_sizeOf 4 (some .int) :: (wsV RX7 236 RX7 yX7_bodyOrNull wsX7_bodyOrNull)
theorem gP_X7_sizeOf_bodyOrNull : GoodIn wsP_X7_sizeOf (wsV RX7 236 RX7 yX7_bodyOrNull wsX7_bodyOrNull) := goodIn_sub (fun w h => List.mem_cons_of_mem _ (h)) (by decide +kernel)
def wsP_X7_count : List Cond := .code yX7_count cX7_count 2 (some .int) :: (wsV RX7 212 RX7 yX7_howManyBodies wsX7_howManyBodies ++ wsV RX7 215 RX7 yX7_kindOf wsX7_kindOf ++ wsV RX7 218 RX7 yX7_sizeOf wsP_X7_sizeOf ++ [.classLink RX7 15 "java/lang/IllegalArgumentException", .initialized "java/lang/IllegalArgumentException"] ++ (vx_atS RX7 19 "java/lang/IllegalArgumentException" ["java/lang/RuntimeException", "java/lang/Exception"]).filter goodWord)
theorem gP_X7_count_howManyBodies : GoodIn wsP_X7_count (wsV RX7 212 RX7 yX7_howManyBodies wsX7_howManyBodies) := goodIn_sub (fun w h => List.mem_cons_of_mem _ (List.mem_append_left _ (List.mem_append_left _ (List.mem_append_left _ (List.mem_append_left _ (h)))))) (by decide +kernel)
theorem gP_X7_count_kindOf : GoodIn wsP_X7_count (wsV RX7 215 RX7 yX7_kindOf wsX7_kindOf) := goodIn_sub (fun w h => List.mem_cons_of_mem _ (List.mem_append_left _ (List.mem_append_left _ (List.mem_append_left _ (List.mem_append_right _ h))))) (by decide +kernel)
theorem gP_X7_count_sizeOf : GoodIn wsP_X7_count (wsV RX7 218 RX7 yX7_sizeOf wsP_X7_sizeOf) := goodIn_sub (fun w h => List.mem_cons_of_mem _ (List.mem_append_left _ (List.mem_append_left _ (List.mem_append_right _ h)))) (by decide +kernel)
def wsP_X7_drop : List Cond := .code yX7_drop cX7_drop 5 (some .int) :: (wsV RX7 41 RX7 yX7_bodyAt wsP_X7_bodyAt)
theorem gP_X7_drop_bodyAt : GoodIn wsP_X7_drop (wsV RX7 41 RX7 yX7_bodyAt wsP_X7_bodyAt) := goodIn_sub (fun w h => List.mem_cons_of_mem _ (h)) (by decide +kernel)
def wsP_X7_map : List Cond := .code yX7_map cX7_map 10 (some .long) :: (wsV RX7 41 RX7 yX7_bodyAt wsP_X7_bodyAt)
theorem gP_X7_map_bodyAt : GoodIn wsP_X7_map (wsV RX7 41 RX7 yX7_bodyAt wsP_X7_bodyAt) := goodIn_sub (fun w h => List.mem_cons_of_mem _ (h)) (by decide +kernel)
def wsP_X7_view : List Cond := .code yX7_view cX7_view 6 (some .int) :: (wsV RX7 41 RX7 yX7_bodyAt wsP_X7_bodyAt)
theorem gP_X7_view_bodyAt : GoodIn wsP_X7_view (wsV RX7 41 RX7 yX7_bodyAt wsP_X7_bodyAt) := goodIn_sub (fun w h => List.mem_cons_of_mem _ (h)) (by decide +kernel)
def wsP_X7_cursor : List Cond := .code yX7_cursor cX7_cursor 2 (some .int) :: (wsV RX7 41 RX7 yX7_bodyAt wsP_X7_bodyAt ++ [.classLink RX7 157 RX1, .instantiable RX1 6, .initialized RX1] ++ wsX10)
theorem gP_X7_cursor_bodyAt : GoodIn wsP_X7_cursor (wsV RX7 41 RX7 yX7_bodyAt wsP_X7_bodyAt) := goodIn_sub (fun w h => List.mem_cons_of_mem _ (List.mem_append_left _ (List.mem_append_left _ (h)))) (by decide +kernel)
def wsP_X7_move : List Cond := .code yX7_move cX7_move 5 (some .long) :: (wsV RX7 41 RX7 yX7_bodyAt wsP_X7_bodyAt)
theorem gP_X7_move_bodyAt : GoodIn wsP_X7_move (wsV RX7 41 RX7 yX7_bodyAt wsP_X7_bodyAt) := goodIn_sub (fun w h => List.mem_cons_of_mem _ (h)) (by decide +kernel)
def wsP_X7_item : List Cond := .code yX7_item cX7_item 6 (some .long) :: (wsV RX7 41 RX7 yX7_bodyAt wsP_X7_bodyAt)
theorem gP_X7_item_bodyAt : GoodIn wsP_X7_item (wsV RX7 41 RX7 yX7_bodyAt wsP_X7_bodyAt) := goodIn_sub (fun w h => List.mem_cons_of_mem _ (h)) (by decide +kernel)
end
section
set_option maxHeartbeats 4000000 in
set_option maxRecDepth 100000 in
/-- the code that the last call left -/
theorem c_X8_thrown (l : Launch) (dC : Nat → ClassId) (dI : Nat → Nat → Nat) (sz : Nat) (h0 : Nat) (th : Int32) (v1 : Value) (v2 : Value) (v3 : Value) (v4 : Value) (v5 : Value) (v6 : Value) (v7 : Value) (v8 : Value) (v9 : Value) (v10 : Value) (v11 : Value) (v12 : Value) (v13 : Value) (v14 : Value) (v15 : Value) (v16 : Value) : Met l yX8_thrown wsX8_thrown ({ frames := 0, cells := 0, slots := 0, locals := 0 }) (va_Pc [.ref h0] (pk_Pre (dC, dI) [(h0, .inr (8, [.int th, v1, v2, v3, v4, v5, v6, v7, v8, v9, v10, v11, v12, v13, v14, v15, v16]))] [] sz)) (va_Qi (fun (r : Int32) (_ : Unit) => r = th) (fun (_ : Unit) (t : State) => va_P (dC, dI) vwCl [(h0, .inr (8, [.int th, v1, v2, v3, v4, v5, v6, v7, v8, v9, v10, v11, v12, v13, v14, v15, v16]))] t.heap ∧ va_K (dC, dI) vwCl [] t ∧ va_D (va_A [(h0, .inr (8, [.int th, v1, v2, v3, v4, v5, v6, v7, v8, v9, v10, v11, v12, v13, v14, v15, v16]))] sz) [(h0, .inr (8, [.int th, v1, v2, v3, v4, v5, v6, v7, v8, v9, v10, v11, v12, v13, v14, v15, v16]))]) (va_A [(h0, .inr (8, [.int th, v1, v2, v3, v4, v5, v6, v7, v8, v9, v10, v11, v12, v13, v14, v15, v16]))] sz)) 0 0 (va_A [(h0, .inr (8, [.int th, v1, v2, v3, v4, v5, v6, v7, v8, v9, v10, v11, v12, v13, v14, v15, v16]))] sz) := by
  refine Met.ofW (cc := cX8_thrown) (maxL := 1) (ret := (some .int)) (by decide) rfl ?_
  intro p e s m args below meth c s₁ B hml hv
  obtain ⟨rfl, hsz, hP, hK, hD0⟩ := hv
  have hx := B.exec
  have hb := B.bytes
  have hr := B.returns
  have hts := atoms_spec (ws := wsX8_thrown) B.pre
  have hown : s.vm.findClass RX8 = some m.cls := findClass_of_methodNamed B.named
  have hlocks := B.notSynchronized
  subst hsz
  have hD := hD0.self (sz := s.heap.size)
  generalize hAe : va_A [(h0, .inr (8, [.int th, v1, v2, v3, v4, v5, v6, v7, v8, v9, v10, v11, v12, v13, v14, v15, v16]))] s.heap.size = A at hD ⊢
  have hA : ∀ q : Nat, s.heap.size ≤ q → A q := fun q h => by rw [← hAe]; exact Or.inr h
  have hS : va_S A s.heap s.heap [] := va_S.rf
  have hP : va_P (dC, dI) vwCl [(h0, .inr (8, [.int th, v1, v2, v3, v4, v5, v6, v7, v8, v9, v10, v11, v12, v13, v14, v15, v16]))] s.heap := hP
  have hl := lv_entry ([.ref h0]) (n := 1) (Nat.le_of_ble_eq_true rfl)
  rw [lg_entry_eq]
  generalize (lg_sl ([.ref h0]) ++ List.replicate (1 - (lg_sl ([.ref h0])).length) Slot.unset).toArray = ls at hl ⊢
  have hl : lv_has ls 1 [(0, .ref h0)] := hl
  refine lv_aload_n hx hb dX8_thrown_0 rfl (lv_at hl 0 rfl) ?_
  refine va_get (D := (dC, dI)) (ci := 8) (v := .int th) (C := RX8) (T := TX8) (N := 17) hx hb hts (by decide +kernel) hown hK hP 0 rfl rfl 0 (by decide) (hts (.fieldLink RX8 60 "KeyAtlasModel" "thrown" "I") (by decide +kernel)) (fun _ h9 => h9) rfl dX8_thrown_1 ?_
  have hP9 := hP.sub (ws' := [(h0, .inr (8, [.int th, v1, v2, v3, v4, v5, v6, v7, v8, v9, v10, v11, v12, v13, v14, v15, v16]))]) [0] rfl
  have hD9 := hD.sub (ws' := [(h0, .inr (8, [.int th, v1, v2, v3, v4, v5, v6, v7, v8, v9, v10, v11, v12, v13, v14, v15, v16]))]) [0] (by decide) rfl
  have hK9 := hK.sub (tys' := []) [] rfl
  refine W.widen (k := 0) (n := 0) (Nat.le_of_ble_eq_true rfl) (Nat.le_of_ble_eq_true rfl) ?_
  exact W.iret (v := th) hx hb hr (fun t ht hW => ⟨⟨th, (), rfl, rfl, by rw [ht]; exact hP9, va_K.moved hW.alike hK9, hD9⟩, hS.F ht⟩) hS.2.2 dX8_thrown_4
set_option maxHeartbeats 4000000 in
set_option maxRecDepth 100000 in
/-- refused: the code is kept -/
theorem c_X8_refuse (l : Launch) (dC : Nat → ClassId) (dI : Nat → Nat → Nat) (sz : Nat) (h0 : Nat) (th : Int32) (p0 : Int32) (v1 : Value) (v2 : Value) (v3 : Value) (v4 : Value) (v5 : Value) (v6 : Value) (v7 : Value) (v8 : Value) (v9 : Value) (v10 : Value) (v11 : Value) (v12 : Value) (v13 : Value) (v14 : Value) (v15 : Value) (v16 : Value) : Met l yX8_refuse wsX8_refuse ({ frames := 0, cells := 0, slots := 0, locals := 0 }) (va_Pc [.ref h0, .int p0] (pk_Pre (dC, dI) [(h0, .inr (8, [.int th, v1, v2, v3, v4, v5, v6, v7, v8, v9, v10, v11, v12, v13, v14, v15, v16]))] [] sz)) (va_Qi (fun (r : Int32) (_ : Unit) => r = 0) (fun (_ : Unit) (t : State) => va_P (dC, dI) vwCl [(h0, .inr (8, [.int p0, v1, v2, v3, v4, v5, v6, v7, v8, v9, v10, v11, v12, v13, v14, v15, v16]))] t.heap ∧ va_K (dC, dI) vwCl [] t ∧ va_D (va_A [(h0, .inr (8, [.int th, v1, v2, v3, v4, v5, v6, v7, v8, v9, v10, v11, v12, v13, v14, v15, v16]))] sz) [(h0, .inr (8, [.int p0, v1, v2, v3, v4, v5, v6, v7, v8, v9, v10, v11, v12, v13, v14, v15, v16]))]) (va_A [(h0, .inr (8, [.int th, v1, v2, v3, v4, v5, v6, v7, v8, v9, v10, v11, v12, v13, v14, v15, v16]))] sz)) 0 0 (va_A [(h0, .inr (8, [.int th, v1, v2, v3, v4, v5, v6, v7, v8, v9, v10, v11, v12, v13, v14, v15, v16]))] sz) := by
  refine Met.ofW (cc := cX8_refuse) (maxL := 2) (ret := (some .int)) (by decide) rfl ?_
  intro p e s m args below meth c s₁ B hml hv
  obtain ⟨rfl, hsz, hP, hK, hD0⟩ := hv
  have hx := B.exec
  have hb := B.bytes
  have hr := B.returns
  have hts := atoms_spec (ws := wsX8_refuse) B.pre
  have hown : s.vm.findClass RX8 = some m.cls := findClass_of_methodNamed B.named
  have hlocks := B.notSynchronized
  subst hsz
  have hD := hD0.self (sz := s.heap.size)
  generalize hAe : va_A [(h0, .inr (8, [.int th, v1, v2, v3, v4, v5, v6, v7, v8, v9, v10, v11, v12, v13, v14, v15, v16]))] s.heap.size = A at hD ⊢
  have hA : ∀ q : Nat, s.heap.size ≤ q → A q := fun q h => by rw [← hAe]; exact Or.inr h
  have hS : va_S A s.heap s.heap [] := va_S.rf
  have hP : va_P (dC, dI) vwCl [(h0, .inr (8, [.int th, v1, v2, v3, v4, v5, v6, v7, v8, v9, v10, v11, v12, v13, v14, v15, v16]))] s.heap := hP
  have hl := lv_entry ([.ref h0, .int p0]) (n := 2) (Nat.le_of_ble_eq_true rfl)
  rw [lg_entry_eq]
  generalize (lg_sl ([.ref h0, .int p0]) ++ List.replicate (2 - (lg_sl ([.ref h0, .int p0])).length) Slot.unset).toArray = ls at hl ⊢
  have hl : lv_has ls 2 [(0, .ref h0), (1, .int p0)] := hl
  refine lv_aload_n hx hb dX8_refuse_0 rfl (lv_at hl 0 rfl) ?_
  refine lv_iload_n hx hb dX8_refuse_1 rfl (lv_at hl 1 rfl) ?_
  refine va_put (D := (dC, dI)) (ci := 8) (v := .int p0) (ty := .int) (C := RX8) (T := TX8) (N := 17) hx hb hts (by decide +kernel) tyX8 tyX8_ok nmX8 hown hK hP hD hS 0 rfl rfl 0 (by decide) (hts (.fieldLink RX8 60 "KeyAtlasModel" "thrown" "I") (by decide +kernel)) (fun _ h9 => h9) rfl (by decide +kernel) rfl rfl (Nat.le_of_ble_eq_true rfl) dX8_refuse_2 (fun H locs hP hD hS => ?_)
  have hP : va_P (dC, dI) vwCl [(h0, .inr (8, [.int p0, v1, v2, v3, v4, v5, v6, v7, v8, v9, v10, v11, v12, v13, v14, v15, v16]))] H := hP
  have hD : va_D A [(h0, .inr (8, [.int p0, v1, v2, v3, v4, v5, v6, v7, v8, v9, v10, v11, v12, v13, v14, v15, v16]))] := hD
  refine lv_iconst (v := 0) hx hb dX8_refuse_5 (by decide) ?_
  have hP9 := hP.sub (ws' := [(h0, .inr (8, [.int p0, v1, v2, v3, v4, v5, v6, v7, v8, v9, v10, v11, v12, v13, v14, v15, v16]))]) [0] rfl
  have hD9 := hD.sub (ws' := [(h0, .inr (8, [.int p0, v1, v2, v3, v4, v5, v6, v7, v8, v9, v10, v11, v12, v13, v14, v15, v16]))]) [0] (by decide) rfl
  have hK9 := hK.sub (tys' := []) [] rfl
  refine W.widen (k := 0) (n := 0) (Nat.le_of_ble_eq_true rfl) (Nat.le_of_ble_eq_true rfl) ?_
  exact W.iret (v := 0) hx hb hr (fun t ht hW => ⟨⟨0, (), rfl, rfl, by rw [ht]; exact hP9, va_K.moved hW.alike hK9, hD9⟩, hS.F ht⟩) hS.2.2 dX8_refuse_6
set_option maxHeartbeats 4000000 in
set_option maxRecDepth 100000 in
/-- low <= v <= high -/
theorem c_X8_in (l : Launch) (dC : Nat → ClassId) (dI : Nat → Nat → Nat) (sz : Nat) (p0 : Int32) (p1 : Int32) (p2 : Int32) (n1 : Int) (n2 : Int) (hn1 : p1.toInt = n1) (hn2 : p2.toInt = n2) : Met l yX8_in wsX8_in ({ frames := 0, cells := 0, slots := 0, locals := 0 }) (va_Pc [.int p0, .int p1, .int p2] (pk_Pre (dC, dI) [] [] sz)) (va_Qi (fun (r : Int32) (_ : Unit) => (r.toInt = 1 ∧ n1 ≤ p0.toInt ∧ p0.toInt ≤ n2) ∨ (r.toInt = 0 ∧ (p0.toInt < n1 ∨ n2 < p0.toInt))) (fun (_ : Unit) (_ : State) => True) (va_A [] sz)) 0 0 (va_A [] sz) := by
  refine Met.ofW (cc := cX8_in) (maxL := 3) (ret := (some .boolean)) (by decide) rfl ?_
  intro p e s m args below meth c s₁ B hml hv
  obtain ⟨rfl, hsz, hP, hK, hD0⟩ := hv
  have hx := B.exec
  have hb := B.bytes
  have hr := B.returns
  have hts := atoms_spec (ws := wsX8_in) B.pre
  have hown : s.vm.findClass RX8 = some m.cls := findClass_of_methodNamed B.named
  have hlocks := B.notSynchronized
  subst hsz
  have hD := hD0.self (sz := s.heap.size)
  generalize hAe : va_A [] s.heap.size = A at hD ⊢
  have hA : ∀ q : Nat, s.heap.size ≤ q → A q := fun q h => by rw [← hAe]; exact Or.inr h
  have hS : va_S A s.heap s.heap [] := va_S.rf
  have hP : va_P (dC, dI) vwCl [] s.heap := hP
  have hl := lv_entry ([.int p0, .int p1, .int p2]) (n := 3) (Nat.le_of_ble_eq_true rfl)
  rw [lg_entry_eq]
  generalize (lg_sl ([.int p0, .int p1, .int p2]) ++ List.replicate (3 - (lg_sl ([.int p0, .int p1, .int p2])).length) Slot.unset).toArray = ls at hl ⊢
  have hl : lv_has ls 3 [(0, .int p0), (1, .int p1), (2, .int p2)] := hl
  refine lv_iload_n hx hb dX8_in_0 rfl (lv_at hl 0 rfl) ?_
  refine lv_iload_n hx hb dX8_in_1 rfl (lv_at hl 1 rfl) ?_
  refine lv_icmp_lt (tgt := 14) hx hb dX8_in_2 (by decide) (fun c_1 => ?_) (fun c_1 => ?_)
  ·
    have ic_1 : p0.toInt < p1.toInt := tx_lt rfl rfl c_1
    refine lv_iconst (v := 0) hx hb dX8_in_14 (by decide) ?_
    refine W.widen (k := 0) (n := 0) (Nat.le_of_ble_eq_true rfl) (Nat.le_of_ble_eq_true rfl) ?_
    exact W.zret (v := 0) hx hb hr rfl (fun t ht hW => ⟨⟨0, (), rfl, Or.inr ⟨by decide, by omega⟩, trivial⟩, hS.F ht⟩) hS.2.2 dX8_in_15
  ·
    have ic_1 : p1.toInt ≤ p0.toInt := tx_nlt rfl rfl c_1
    refine lv_iload_n hx hb dX8_in_5 rfl (lv_at hl 0 rfl) ?_
    refine lv_iload_n hx hb dX8_in_6 rfl (lv_at hl 2 rfl) ?_
    refine lv_icmp_gt (tgt := 14) hx hb dX8_in_7 (by decide) (fun c_2 => ?_) (fun c_2 => ?_)
    ·
      have ic_2 : p2.toInt < p0.toInt := tx_lt rfl rfl c_2
      refine lv_iconst (v := 0) hx hb dX8_in_14 (by decide) ?_
      refine W.widen (k := 0) (n := 0) (Nat.le_of_ble_eq_true rfl) (Nat.le_of_ble_eq_true rfl) ?_
      exact W.zret (v := 0) hx hb hr rfl (fun t ht hW => ⟨⟨0, (), rfl, Or.inr ⟨by decide, by omega⟩, trivial⟩, hS.F ht⟩) hS.2.2 dX8_in_15
    ·
      have ic_2 : p0.toInt ≤ p2.toInt := tx_nlt rfl rfl c_2
      refine lv_iconst (v := 1) hx hb dX8_in_10 (by decide) ?_
      refine lv_goto (tgt := 15) hx hb dX8_in_11 (by decide) ?_
      refine W.widen (k := 0) (n := 0) (Nat.le_of_ble_eq_true rfl) (Nat.le_of_ble_eq_true rfl) ?_
      exact W.zret (v := 1) hx hb hr rfl (fun t ht hW => ⟨⟨1, (), rfl, Or.inl ⟨by decide, by omega, by omega⟩, trivial⟩, hS.F ht⟩) hS.2.2 dX8_in_15
set_option maxHeartbeats 4000000 in
set_option maxRecDepth 100000 in
/-- nothing is there -/
theorem c_X8_isThere (l : Launch) (dC : Nat → ClassId) (dI : Nat → Nat → Nat) (sz : Nat) (h0 : Nat) (q1 : Nat) (c1 : ClassId) (th : Int32) (v2 : Value) (v3 : Value) (v4 : Value) (v5 : Value) (v6 : Value) (v7 : Value) (v8 : Value) (v9 : Value) (v10 : Value) (v11 : Value) (v12 : Value) (v13 : Value) (v14 : Value) (v15 : Value) (v16 : Value) (p0 : Int32) : Met l yX8_isThere wsX8_isThere ({ frames := 1, cells := 0, slots := 0, locals := 30 }) (va_Pc [.ref h0, .int p0] (pk_Pre (dC, dI) [(h0, .inr (8, [.int th, .ref q1, v2, v3, v4, v5, v6, v7, v8, v9, v10, v11, v12, v13, v14, v15, v16])), (q1, .inl (c1, 16, .inl (fun _ => (0 : Int32))))] [(c1, .int)] sz)) (va_Qi (fun (r : Int32) (_ : Unit) => r = 0) (fun (_ : Unit) (t : State) => va_P (dC, dI) vwCl [(h0, .inr (8, [.int th, .ref q1, v2, v3, v4, v5, v6, v7, v8, v9, v10, v11, v12, v13, v14, v15, v16])), (q1, .inl (c1, 16, .inl (fun _ => (0 : Int32))))] t.heap ∧ va_K (dC, dI) vwCl [(c1, .int)] t ∧ va_D (va_A [(h0, .inr (8, [.int th, .ref q1, v2, v3, v4, v5, v6, v7, v8, v9, v10, v11, v12, v13, v14, v15, v16])), (q1, .inl (c1, 16, .inl (fun _ => (0 : Int32))))] sz) [(h0, .inr (8, [.int th, .ref q1, v2, v3, v4, v5, v6, v7, v8, v9, v10, v11, v12, v13, v14, v15, v16])), (q1, .inl (c1, 16, .inl (fun _ => (0 : Int32))))]) (va_A [(h0, .inr (8, [.int th, .ref q1, v2, v3, v4, v5, v6, v7, v8, v9, v10, v11, v12, v13, v14, v15, v16])), (q1, .inl (c1, 16, .inl (fun _ => (0 : Int32))))] sz)) 0 0 (va_A [(h0, .inr (8, [.int th, .ref q1, v2, v3, v4, v5, v6, v7, v8, v9, v10, v11, v12, v13, v14, v15, v16])), (q1, .inl (c1, 16, .inl (fun _ => (0 : Int32))))] sz) := by
  refine Met.ofW (cc := cX8_isThere) (maxL := 2) (ret := (some .boolean)) (by decide) rfl ?_
  intro p e s m args below meth c s₁ B hml hv
  obtain ⟨rfl, hsz, hP, hK, hD0⟩ := hv
  have hx := B.exec
  have hb := B.bytes
  have hr := B.returns
  have hts := atoms_spec (ws := wsX8_isThere) B.pre
  have hown : s.vm.findClass RX8 = some m.cls := findClass_of_methodNamed B.named
  have hlocks := B.notSynchronized
  subst hsz
  have hD := hD0.self (sz := s.heap.size)
  generalize hAe : va_A [(h0, .inr (8, [.int th, .ref q1, v2, v3, v4, v5, v6, v7, v8, v9, v10, v11, v12, v13, v14, v15, v16])), (q1, .inl (c1, 16, .inl (fun _ => (0 : Int32))))] s.heap.size = A at hD ⊢
  have hA : ∀ q : Nat, s.heap.size ≤ q → A q := fun q h => by rw [← hAe]; exact Or.inr h
  have hS : va_S A s.heap s.heap [] := va_S.rf
  have hP : va_P (dC, dI) vwCl [(h0, .inr (8, [.int th, .ref q1, v2, v3, v4, v5, v6, v7, v8, v9, v10, v11, v12, v13, v14, v15, v16])), (q1, .inl (c1, 16, .inl (fun _ => (0 : Int32))))] s.heap := hP
  have hl := lv_entry ([.ref h0, .int p0]) (n := 2) (Nat.le_of_ble_eq_true rfl)
  rw [lg_entry_eq]
  generalize (lg_sl ([.ref h0, .int p0]) ++ List.replicate (2 - (lg_sl ([.ref h0, .int p0])).length) Slot.unset).toArray = ls at hl ⊢
  have hl : lv_has ls 2 [(0, .ref h0), (1, .int p0)] := hl
  refine lv_iload_n hx hb dX8_isThere_0 rfl (lv_at hl 1 rfl) ?_
  refine lv_iconst (v := 0) hx hb dX8_isThere_1 (by decide) ?_
  refine lv_bipush (v := 15) hx hb dX8_isThere_2 (by decide) ?_
  have hPc := hP.sub (ws' := []) [] rfl
  have hDc := hD.sub (ws' := []) [] (by decide) rfl
  have hKc := hK.sub (tys' := []) [] rfl
  have hFc := va_free (wc := []) hD hS hA [] rfl
  refine va_calli (va_runS (As := [.int p0, .int 0, .int 15]) (rest := []) ⟨hx, hb, hml, hown, hts⟩ (c_X8_in l  dC dI s.heap.size p0 0 15 0 15 (by decide) (by decide)) (va_cwS 3 hts gX8_isThere_X8_in rfl rfl rfl (by decide +kernel) ⟨(Nat.le_of_ble_eq_true rfl), (Nat.le_of_ble_eq_true rfl)⟩) ⟨pk_blind, pk_call hPc hKc hDc⟩ rfl rfl hl.1 rfl (lv_room (Nat.le_of_ble_eq_true rfl)) dX8_isThere_4 ⟨(Nat.le_of_ble_eq_true rfl), (Nat.le_of_ble_eq_true rfl)⟩) hS (fun q _ h => hFc q h) hFc (fun r_1 ur_1 t H1 locs ht hvm hw hB hz1 hk1 hS => ?_)
  try dsimp only at hw
  have jr_1 := hw
  obtain ⟨hP, hD⟩ := va_join (wr := [(h0, .inr (8, [.int th, .ref q1, v2, v3, v4, v5, v6, v7, v8, v9, v10, v11, v12, v13, v14, v15, v16])), (q1, .inl (c1, 16, .inl (fun _ => (0 : Int32))))]) (w1 := []) hP hD [] [0, 1] rfl rfl (by decide) (by decide) hk1 hFc tx_P0 tx_D0
  clear hk1 hz1 ht hPc hDc hKc
  generalize H1 = H at hP hS ⊢
  have hP : va_P (dC, dI) vwCl [(h0, .inr (8, [.int th, .ref q1, v2, v3, v4, v5, v6, v7, v8, v9, v10, v11, v12, v13, v14, v15, v16])), (q1, .inl (c1, 16, .inl (fun _ => (0 : Int32))))] H := hP
  have hD : va_D A [(h0, .inr (8, [.int th, .ref q1, v2, v3, v4, v5, v6, v7, v8, v9, v10, v11, v12, v13, v14, v15, v16])), (q1, .inl (c1, 16, .inl (fun _ => (0 : Int32))))] := hD
  refine W.widen (k := 0) (n := 0) (Nat.le_of_ble_eq_true rfl) (Nat.le_of_ble_eq_true rfl) ?_
  refine W.eq (g2 := F0 m 7 ls [.int r_1]) rfl ?_
  refine lv_if_eq (tgt := 23) hx hb dX8_isThere_7 (by decide) (fun c_2 => ?_) (fun c_2 => ?_)
  ·
    have ic_2 : r_1.toInt = 0 := tx_eq rfl (by decide) c_2
    refine lv_iconst (v := 0) hx hb dX8_isThere_23 (by decide) ?_
    have hP9 := hP.sub (ws' := [(h0, .inr (8, [.int th, .ref q1, v2, v3, v4, v5, v6, v7, v8, v9, v10, v11, v12, v13, v14, v15, v16])), (q1, .inl (c1, 16, .inl (fun _ => (0 : Int32))))]) [0, 1] rfl
    have hD9 := hD.sub (ws' := [(h0, .inr (8, [.int th, .ref q1, v2, v3, v4, v5, v6, v7, v8, v9, v10, v11, v12, v13, v14, v15, v16])), (q1, .inl (c1, 16, .inl (fun _ => (0 : Int32))))]) [0, 1] (by decide) rfl
    have hK9 := hK.sub (tys' := [(c1, .int)]) [0] rfl
    refine W.widen (k := 0) (n := 0) (Nat.le_of_ble_eq_true rfl) (Nat.le_of_ble_eq_true rfl) ?_
    exact W.zret (v := 0) hx hb hr rfl (fun t ht hW => ⟨⟨0, (), rfl, rfl, by rw [ht]; exact hP9, va_K.moved hW.alike hK9, hD9⟩, hS.F ht⟩) hS.2.2 dX8_isThere_24
  ·
    have ic_2 : ¬ r_1.toInt = 0 := tx_ne rfl (by decide) c_2
    refine lv_aload_n hx hb dX8_isThere_10 rfl (lv_at hl 0 rfl) ?_
    refine va_get (D := (dC, dI)) (ci := 8) (v := .ref q1) (C := RX8) (T := TX8) (N := 17) hx hb hts (by decide +kernel) hown hK hP 0 rfl rfl 1 (by decide) (hts (.fieldLink RX8 7 "KeyAtlasModel" "kind" "[I") (by decide +kernel)) (fun _ h9 => h9) rfl dX8_isThere_11 ?_
    refine lv_iload_n hx hb dX8_isThere_14 rfl (lv_at hl 1 rfl) ?_
    refine va_iald (i := p0) hx hb hK hP 1 0 rfl rfl (tx_in (by omega) (by omega)) dX8_isThere_15 ?_
    refine W.eq (g2 := F0 m 16 ls [.int 0]) rfl ?_
    refine lv_if_eq (tgt := 23) hx hb dX8_isThere_16 (by decide) (fun c_3 => ?_) (fun c_3 => absurd c_3 (by decide))
    refine lv_iconst (v := 0) hx hb dX8_isThere_23 (by decide) ?_
    have hP9 := hP.sub (ws' := [(h0, .inr (8, [.int th, .ref q1, v2, v3, v4, v5, v6, v7, v8, v9, v10, v11, v12, v13, v14, v15, v16])), (q1, .inl (c1, 16, .inl (fun _ => (0 : Int32))))]) [0, 1] rfl
    have hD9 := hD.sub (ws' := [(h0, .inr (8, [.int th, .ref q1, v2, v3, v4, v5, v6, v7, v8, v9, v10, v11, v12, v13, v14, v15, v16])), (q1, .inl (c1, 16, .inl (fun _ => (0 : Int32))))]) [0, 1] (by decide) rfl
    have hK9 := hK.sub (tys' := [(c1, .int)]) [0] rfl
    refine W.widen (k := 0) (n := 0) (Nat.le_of_ble_eq_true rfl) (Nat.le_of_ble_eq_true rfl) ?_
    exact W.zret (v := 0) hx hb hr rfl (fun t ht hW => ⟨⟨0, (), rfl, rfl, by rw [ht]; exact hP9, va_K.moved hW.alike hK9, hD9⟩, hS.F ht⟩) hS.2.2 dX8_isThere_24
set_option maxHeartbeats 4000000 in
set_option maxRecDepth 100000 in
/-- place 0 is free -/
theorem c_X8_free (l : Launch) (dC : Nat → ClassId) (dI : Nat → Nat → Nat) (sz : Nat) (h0 : Nat) (q1 : Nat) (c1 : ClassId) (th : Int32) (v2 : Value) (v3 : Value) (v4 : Value) (v5 : Value) (v6 : Value) (v7 : Value) (v8 : Value) (v9 : Value) (v10 : Value) (v11 : Value) (v12 : Value) (v13 : Value) (v14 : Value) (v15 : Value) (v16 : Value) : Met l yX8_free wsX8_free ({ frames := 0, cells := 0, slots := 0, locals := 0 }) (va_Pc [.ref h0] (pk_Pre (dC, dI) [(h0, .inr (8, [.int th, .ref q1, v2, v3, v4, v5, v6, v7, v8, v9, v10, v11, v12, v13, v14, v15, v16])), (q1, .inl (c1, 16, .inl (fun _ => (0 : Int32))))] [(c1, .int)] sz)) (va_Qi (fun (r : Int32) (_ : Unit) => r = 0) (fun (_ : Unit) (t : State) => va_P (dC, dI) vwCl [(h0, .inr (8, [.int th, .ref q1, v2, v3, v4, v5, v6, v7, v8, v9, v10, v11, v12, v13, v14, v15, v16])), (q1, .inl (c1, 16, .inl (fun _ => (0 : Int32))))] t.heap ∧ va_K (dC, dI) vwCl [(c1, .int)] t ∧ va_D (va_A [(h0, .inr (8, [.int th, .ref q1, v2, v3, v4, v5, v6, v7, v8, v9, v10, v11, v12, v13, v14, v15, v16])), (q1, .inl (c1, 16, .inl (fun _ => (0 : Int32))))] sz) [(h0, .inr (8, [.int th, .ref q1, v2, v3, v4, v5, v6, v7, v8, v9, v10, v11, v12, v13, v14, v15, v16])), (q1, .inl (c1, 16, .inl (fun _ => (0 : Int32))))]) (va_A [(h0, .inr (8, [.int th, .ref q1, v2, v3, v4, v5, v6, v7, v8, v9, v10, v11, v12, v13, v14, v15, v16])), (q1, .inl (c1, 16, .inl (fun _ => (0 : Int32))))] sz)) 0 0 (va_A [(h0, .inr (8, [.int th, .ref q1, v2, v3, v4, v5, v6, v7, v8, v9, v10, v11, v12, v13, v14, v15, v16])), (q1, .inl (c1, 16, .inl (fun _ => (0 : Int32))))] sz) := by
  refine Met.ofW (cc := cX8_free) (maxL := 2) (ret := (some .int)) (by decide) rfl ?_
  intro p e s m args below meth c s₁ B hml hv
  obtain ⟨rfl, hsz, hP, hK, hD0⟩ := hv
  have hx := B.exec
  have hb := B.bytes
  have hr := B.returns
  have hts := atoms_spec (ws := wsX8_free) B.pre
  have hown : s.vm.findClass RX8 = some m.cls := findClass_of_methodNamed B.named
  have hlocks := B.notSynchronized
  subst hsz
  have hD := hD0.self (sz := s.heap.size)
  generalize hAe : va_A [(h0, .inr (8, [.int th, .ref q1, v2, v3, v4, v5, v6, v7, v8, v9, v10, v11, v12, v13, v14, v15, v16])), (q1, .inl (c1, 16, .inl (fun _ => (0 : Int32))))] s.heap.size = A at hD ⊢
  have hA : ∀ q : Nat, s.heap.size ≤ q → A q := fun q h => by rw [← hAe]; exact Or.inr h
  have hS : va_S A s.heap s.heap [] := va_S.rf
  have hP : va_P (dC, dI) vwCl [(h0, .inr (8, [.int th, .ref q1, v2, v3, v4, v5, v6, v7, v8, v9, v10, v11, v12, v13, v14, v15, v16])), (q1, .inl (c1, 16, .inl (fun _ => (0 : Int32))))] s.heap := hP
  have hl := lv_entry ([.ref h0]) (n := 2) (Nat.le_of_ble_eq_true rfl)
  rw [lg_entry_eq]
  generalize (lg_sl ([.ref h0]) ++ List.replicate (2 - (lg_sl ([.ref h0])).length) Slot.unset).toArray = ls at hl ⊢
  have hl : lv_has ls 2 [(0, .ref h0)] := hl
  refine lv_iconst (v := 0) hx hb dX8_free_0 (by decide) ?_
  refine lv_istore_n (lv' := [(1, .int 0), (0, .ref h0)]) hx hb dX8_free_1 rfl hl (by decide) rfl (fun ls hl => ?_)
  refine lv_iload_n hx hb dX8_free_2 rfl (lv_at hl 0 rfl) ?_
  refine lv_bipush (v := 16) hx hb dX8_free_3 (by decide) ?_
  refine lv_icmp_ge (tgt := 25) hx hb dX8_free_5 (by decide) (fun c_1 => absurd c_1 (by decide)) (fun c_1 => ?_)
  refine lv_aload_n hx hb dX8_free_8 rfl (lv_at hl 1 rfl) ?_
  refine va_get (D := (dC, dI)) (ci := 8) (v := .ref q1) (C := RX8) (T := TX8) (N := 17) hx hb hts (by decide +kernel) hown hK hP 0 rfl rfl 1 (by decide) (hts (.fieldLink RX8 7 "KeyAtlasModel" "kind" "[I") (by decide +kernel)) (fun _ h9 => h9) rfl dX8_free_9 ?_
  refine lv_iload_n hx hb dX8_free_12 rfl (lv_at hl 0 rfl) ?_
  refine va_iald (i := 0) hx hb hK hP 1 0 rfl rfl (by unfold vp_in; decide) dX8_free_13 ?_
  refine W.eq (g2 := F0 m 14 ls [.int 0]) rfl ?_
  refine lv_if_ne (tgt := 19) hx hb dX8_free_14 (by decide) (fun c_2 => absurd c_2 (by decide)) (fun c_2 => ?_)
  refine lv_iload_n hx hb dX8_free_17 rfl (lv_at hl 0 rfl) ?_
  have hP9 := hP.sub (ws' := [(h0, .inr (8, [.int th, .ref q1, v2, v3, v4, v5, v6, v7, v8, v9, v10, v11, v12, v13, v14, v15, v16])), (q1, .inl (c1, 16, .inl (fun _ => (0 : Int32))))]) [0, 1] rfl
  have hD9 := hD.sub (ws' := [(h0, .inr (8, [.int th, .ref q1, v2, v3, v4, v5, v6, v7, v8, v9, v10, v11, v12, v13, v14, v15, v16])), (q1, .inl (c1, 16, .inl (fun _ => (0 : Int32))))]) [0, 1] (by decide) rfl
  have hK9 := hK.sub (tys' := [(c1, .int)]) [0] rfl
  refine W.widen (k := 0) (n := 0) (Nat.le_of_ble_eq_true rfl) (Nat.le_of_ble_eq_true rfl) ?_
  exact W.iret (v := 0) hx hb hr (fun t ht hW => ⟨⟨0, (), rfl, rfl, by rw [ht]; exact hP9, va_K.moved hW.alike hK9, hD9⟩, hS.F ht⟩) hS.2.2 dX8_free_18
set_option maxHeartbeats 4000000 in
set_option maxRecDepth 100000 in
/-- nothing is a map -/
theorem c_X8_isMap (l : Launch) (dC : Nat → ClassId) (dI : Nat → Nat → Nat) (sz : Nat) (h0 : Nat) (q1 : Nat) (c1 : ClassId) (th : Int32) (v2 : Value) (v3 : Value) (v4 : Value) (v5 : Value) (v6 : Value) (v7 : Value) (v8 : Value) (v9 : Value) (v10 : Value) (v11 : Value) (v12 : Value) (v13 : Value) (v14 : Value) (v15 : Value) (v16 : Value) (p0 : Int32) (hp0 : vp_in p0 16) : Met l yX8_isMap wsX8_isMap ({ frames := 0, cells := 0, slots := 0, locals := 0 }) (va_Pc [.ref h0, .int p0] (pk_Pre (dC, dI) [(h0, .inr (8, [.int th, .ref q1, v2, v3, v4, v5, v6, v7, v8, v9, v10, v11, v12, v13, v14, v15, v16])), (q1, .inl (c1, 16, .inl (fun _ => (0 : Int32))))] [(c1, .int)] sz)) (va_Qi (fun (r : Int32) (_ : Unit) => r = 0) (fun (_ : Unit) (t : State) => va_P (dC, dI) vwCl [(h0, .inr (8, [.int th, .ref q1, v2, v3, v4, v5, v6, v7, v8, v9, v10, v11, v12, v13, v14, v15, v16])), (q1, .inl (c1, 16, .inl (fun _ => (0 : Int32))))] t.heap ∧ va_K (dC, dI) vwCl [(c1, .int)] t ∧ va_D (va_A [(h0, .inr (8, [.int th, .ref q1, v2, v3, v4, v5, v6, v7, v8, v9, v10, v11, v12, v13, v14, v15, v16])), (q1, .inl (c1, 16, .inl (fun _ => (0 : Int32))))] sz) [(h0, .inr (8, [.int th, .ref q1, v2, v3, v4, v5, v6, v7, v8, v9, v10, v11, v12, v13, v14, v15, v16])), (q1, .inl (c1, 16, .inl (fun _ => (0 : Int32))))]) (va_A [(h0, .inr (8, [.int th, .ref q1, v2, v3, v4, v5, v6, v7, v8, v9, v10, v11, v12, v13, v14, v15, v16])), (q1, .inl (c1, 16, .inl (fun _ => (0 : Int32))))] sz)) 0 0 (va_A [(h0, .inr (8, [.int th, .ref q1, v2, v3, v4, v5, v6, v7, v8, v9, v10, v11, v12, v13, v14, v15, v16])), (q1, .inl (c1, 16, .inl (fun _ => (0 : Int32))))] sz) := by
  refine Met.ofW (cc := cX8_isMap) (maxL := 2) (ret := (some .boolean)) (by decide) rfl ?_
  intro p e s m args below meth c s₁ B hml hv
  obtain ⟨rfl, hsz, hP, hK, hD0⟩ := hv
  have hx := B.exec
  have hb := B.bytes
  have hr := B.returns
  have hts := atoms_spec (ws := wsX8_isMap) B.pre
  have hown : s.vm.findClass RX8 = some m.cls := findClass_of_methodNamed B.named
  have hlocks := B.notSynchronized
  subst hsz
  have hD := hD0.self (sz := s.heap.size)
  generalize hAe : va_A [(h0, .inr (8, [.int th, .ref q1, v2, v3, v4, v5, v6, v7, v8, v9, v10, v11, v12, v13, v14, v15, v16])), (q1, .inl (c1, 16, .inl (fun _ => (0 : Int32))))] s.heap.size = A at hD ⊢
  have hA : ∀ q : Nat, s.heap.size ≤ q → A q := fun q h => by rw [← hAe]; exact Or.inr h
  have hS : va_S A s.heap s.heap [] := va_S.rf
  have hP : va_P (dC, dI) vwCl [(h0, .inr (8, [.int th, .ref q1, v2, v3, v4, v5, v6, v7, v8, v9, v10, v11, v12, v13, v14, v15, v16])), (q1, .inl (c1, 16, .inl (fun _ => (0 : Int32))))] s.heap := hP
  have hl := lv_entry ([.ref h0, .int p0]) (n := 2) (Nat.le_of_ble_eq_true rfl)
  rw [lg_entry_eq]
  generalize (lg_sl ([.ref h0, .int p0]) ++ List.replicate (2 - (lg_sl ([.ref h0, .int p0])).length) Slot.unset).toArray = ls at hl ⊢
  have hl : lv_has ls 2 [(0, .ref h0), (1, .int p0)] := hl
  refine lv_aload_n hx hb dX8_isMap_0 rfl (lv_at hl 0 rfl) ?_
  refine va_get (D := (dC, dI)) (ci := 8) (v := .ref q1) (C := RX8) (T := TX8) (N := 17) hx hb hts (by decide +kernel) hown hK hP 0 rfl rfl 1 (by decide) (hts (.fieldLink RX8 7 "KeyAtlasModel" "kind" "[I") (by decide +kernel)) (fun _ h9 => h9) rfl dX8_isMap_1 ?_
  refine lv_iload_n hx hb dX8_isMap_4 rfl (lv_at hl 1 rfl) ?_
  refine va_iald (i := p0) hx hb hK hP 1 0 rfl rfl hp0 dX8_isMap_5 ?_
  refine W.eq (g2 := F0 m 6 ls [.int 0]) rfl ?_
  refine lv_iconst (v := 1) hx hb dX8_isMap_6 (by decide) ?_
  refine lv_icmp_lt (tgt := 24) hx hb dX8_isMap_7 (by decide) (fun c_1 => ?_) (fun c_1 => absurd c_1 (by decide))
  refine lv_iconst (v := 0) hx hb dX8_isMap_24 (by decide) ?_
  have hP9 := hP.sub (ws' := [(h0, .inr (8, [.int th, .ref q1, v2, v3, v4, v5, v6, v7, v8, v9, v10, v11, v12, v13, v14, v15, v16])), (q1, .inl (c1, 16, .inl (fun _ => (0 : Int32))))]) [0, 1] rfl
  have hD9 := hD.sub (ws' := [(h0, .inr (8, [.int th, .ref q1, v2, v3, v4, v5, v6, v7, v8, v9, v10, v11, v12, v13, v14, v15, v16])), (q1, .inl (c1, 16, .inl (fun _ => (0 : Int32))))]) [0, 1] (by decide) rfl
  have hK9 := hK.sub (tys' := [(c1, .int)]) [0] rfl
  refine W.widen (k := 0) (n := 0) (Nat.le_of_ble_eq_true rfl) (Nat.le_of_ble_eq_true rfl) ?_
  exact W.zret (v := 0) hx hb hr rfl (fun t ht hW => ⟨⟨0, (), rfl, rfl, by rw [ht]; exact hP9, va_K.moved hW.alike hK9, hD9⟩, hS.F ht⟩) hS.2.2 dX8_isMap_25
set_option maxHeartbeats 4000000 in
set_option maxRecDepth 100000 in
/-- a new reference -/
theorem c_X8_init (l : Launch) (dC : Nat → ClassId) (dI : Nat → Nat → Nat) (sz : Nat) (h0 : Nat) : Met l yX8_init wsX8_init ({ frames := 1, cells := 16, slots := 73488, locals := 16 }) (va_Pc [.ref h0] (pk_Pre (dC, dI) [(h0, .inr (8, [.int 0, .null, .null, .null, .null, .null, .null, .null, .null, .null, .null, .null, .null, .null, .null, .null, .null]))] [] sz)) (va_Qv (fun (_ : Unit) => True) (fun (_ : Unit) (t : State) => ∃ (q1 : Nat) (c1 : ClassId), ∃ (q3 : Nat) (c3 : ClassId), ∃ (q4 : Nat) (c4 : ClassId), ∃ (q5 : Nat) (c5 : ClassId), ∃ (q6 : Nat) (c6 : ClassId), ∃ (q7 : Nat) (c7 : ClassId), ∃ (q8 : Nat) (c8 : ClassId), ∃ (v2 : Value), ∃ (v9 : Value), ∃ (v10 : Value), ∃ (v11 : Value), ∃ (v12 : Value), ∃ (v13 : Value), ∃ (v14 : Value), ∃ (v15 : Value), ∃ (v16 : Value), va_P (dC, dI) vwCl [(h0, .inr (8, [.int 0, .ref q1, v2, .ref q3, .ref q4, .ref q5, .ref q6, .ref q7, .ref q8, v9, v10, v11, v12, v13, v14, v15, v16])), (q1, .inl (c1, 16, .inl (fun _ => (0 : Int32)))), (q3, .inl (c3, 16, .inl (fun _ => (0 : Int32)))), (q4, .inl (c4, 16, .inl (fun _ => (0 : Int32)))), (q5, .inl (c5, 16, .inl (fun _ => (0 : Int32)))), (q6, .inl (c6, 16, .inl (fun _ => (0 : Int32)))), (q7, .inl (c7, 16, .inl (fun _ => (0 : Int32)))), (q8, .inl (c8, 16, .inl (fun _ => (0 : Int32))))] t.heap ∧ va_K (dC, dI) vwCl [(c1, .int), (c3, .int), (c4, .int), (c5, .int), (c6, .int), (c7, .int), (c8, .int)] t ∧ va_D (va_A [(h0, .inr (8, [.int 0, .null, .null, .null, .null, .null, .null, .null, .null, .null, .null, .null, .null, .null, .null, .null, .null]))] sz) [(h0, .inr (8, [.int 0, .ref q1, v2, .ref q3, .ref q4, .ref q5, .ref q6, .ref q7, .ref q8, v9, v10, v11, v12, v13, v14, v15, v16])), (q1, .inl (c1, 16, .inl (fun _ => (0 : Int32)))), (q3, .inl (c3, 16, .inl (fun _ => (0 : Int32)))), (q4, .inl (c4, 16, .inl (fun _ => (0 : Int32)))), (q5, .inl (c5, 16, .inl (fun _ => (0 : Int32)))), (q6, .inl (c6, 16, .inl (fun _ => (0 : Int32)))), (q7, .inl (c7, 16, .inl (fun _ => (0 : Int32)))), (q8, .inl (c8, 16, .inl (fun _ => (0 : Int32))))]) (va_A [(h0, .inr (8, [.int 0, .null, .null, .null, .null, .null, .null, .null, .null, .null, .null, .null, .null, .null, .null, .null, .null]))] sz)) 16 73488 (va_A [(h0, .inr (8, [.int 0, .null, .null, .null, .null, .null, .null, .null, .null, .null, .null, .null, .null, .null, .null, .null, .null]))] sz) := by
  refine Met.ofW (cc := cX8_init) (maxL := 1) (ret := none) (by decide) rfl ?_
  intro p e s m args below meth c s₁ B hml hv
  obtain ⟨rfl, hsz, hP, hK, hD0⟩ := hv
  have hx := B.exec
  have hb := B.bytes
  have hr := B.returns
  have hts := atoms_spec (ws := wsX8_init) B.pre
  have hown : s.vm.findClass RX8 = some m.cls := findClass_of_methodNamed B.named
  have hlocks := B.notSynchronized
  have hin : meth.name = "<init>" := (name_of_methodNamed B.named B.method).1
  subst hsz
  have hD := hD0.self (sz := s.heap.size)
  generalize hAe : va_A [(h0, .inr (8, [.int 0, .null, .null, .null, .null, .null, .null, .null, .null, .null, .null, .null, .null, .null, .null, .null, .null]))] s.heap.size = A at hD ⊢
  have hA : ∀ q : Nat, s.heap.size ≤ q → A q := fun q h => by rw [← hAe]; exact Or.inr h
  have hS : va_S A s.heap s.heap [] := va_S.rf
  have hP : va_P (dC, dI) vwCl [(h0, .inr (8, [.int 0, .null, .null, .null, .null, .null, .null, .null, .null, .null, .null, .null, .null, .null, .null, .null, .null]))] s.heap := hP
  have hl := lv_entry ([.ref h0]) (n := 1) (Nat.le_of_ble_eq_true rfl)
  rw [lg_entry_eq]
  generalize (lg_sl ([.ref h0]) ++ List.replicate (1 - (lg_sl ([.ref h0])).length) Slot.unset).toArray = ls at hl ⊢
  have hl : lv_has ls 1 [(0, .ref h0)] := hl
  refine lv_aload_n hx hb dX8_init_0 rfl (lv_at hl 0 rfl) ?_
  refine W.objInit hx hb hown (hts (.methodLink RX8 1 objectInit) (by decide +kernel)) (hts (.instanceMethod objectInit) (by decide +kernel)) (hts _ (List.mem_cons_of_mem _ (List.mem_append_left _ (List.mem_of_getElem? (i := 2) rfl)))) rfl (by rw [hml]; exact hl.1) rfl dX8_init_1 (Nat.le_of_ble_eq_true rfl) (Nat.le_of_ble_eq_true rfl) ?_
  refine W.eq (g2 := F0 m 4 ls []) rfl ?_
  refine lv_aload_n hx hb dX8_init_4 rfl (lv_at hl 0 rfl) ?_
  refine lv_bipush (v := 16) hx hb dX8_init_5 (by decide) ?_
  refine va_newa (atype := .int) (ty := .int) (n := 16) (N' := 16) (a0 := (16, .inl (fun _ => (0 : Int32)))) hx hb (hts (.arrayClass .int) (by decide +kernel)) rfl hK hP hD hS hA (fun _ => rfl) (by decide) (by decide) (by decide) (Nat.le_of_ble_eq_true rfl) (Nat.le_of_ble_eq_true rfl) dX8_init_7 (fun q_1 cA_2 H hK hP hD hS => ?_)
  have hK : va_K (dC, dI) vwCl [(cA_2, .int)] s := hK
  have hP : va_P (dC, dI) vwCl [(h0, .inr (8, [.int 0, .null, .null, .null, .null, .null, .null, .null, .null, .null, .null, .null, .null, .null, .null, .null, .null])), (q_1, .inl (cA_2, 16, .inl (fun _ => (0 : Int32))))] H := hP
  have hD : va_D A [(h0, .inr (8, [.int 0, .null, .null, .null, .null, .null, .null, .null, .null, .null, .null, .null, .null, .null, .null, .null, .null])), (q_1, .inl (cA_2, 16, .inl (fun _ => (0 : Int32))))] := hD
  refine W.widen (k := 1) (n := 16) (Nat.le_of_ble_eq_true rfl) (Nat.le_of_ble_eq_true rfl) ?_
  refine va_putF (D := (dC, dI)) (ci := 8) (v := .ref q_1) (ty := .array .int) (C := RX8) (T := TX8) (N := 17) hx hb hts (by decide +kernel) tyX8 tyX8_ok nmX8 hown hK hP hD hS 0 rfl rfl 1 (by decide) (hts (.fieldLink RX8 7 "KeyAtlasModel" "kind" "[I") (by decide +kernel)) (fun _ h9 => h9) rfl hin rfl (by decide +kernel) rfl rfl (Nat.le_of_ble_eq_true rfl) dX8_init_9 (fun H locs hP hD hS => ?_)
  have hP : va_P (dC, dI) vwCl [(h0, .inr (8, [.int 0, .ref q_1, .null, .null, .null, .null, .null, .null, .null, .null, .null, .null, .null, .null, .null, .null, .null])), (q_1, .inl (cA_2, 16, .inl (fun _ => (0 : Int32))))] H := hP
  have hD : va_D A [(h0, .inr (8, [.int 0, .ref q_1, .null, .null, .null, .null, .null, .null, .null, .null, .null, .null, .null, .null, .null, .null, .null])), (q_1, .inl (cA_2, 16, .inl (fun _ => (0 : Int32))))] := hD
  refine lv_aload_n hx hb dX8_init_12 rfl (lv_at hl 0 rfl) ?_
  refine lv_ldc (v := 67200) hx hb hown (hts (.constant RX8 13 (67200)) (by decide +kernel)) dX8_init_13 ?_
  refine va_newa (atype := .int) (ty := .int) (n := 67200) (N' := 67200) (a0 := (67200, .inl (fun _ => (0 : Int32)))) hx hb (hts (.arrayClass .int) (by decide +kernel)) rfl hK hP hD hS hA (fun _ => rfl) (by decide) (by decide) (by decide) (Nat.le_of_ble_eq_true rfl) (Nat.le_of_ble_eq_true rfl) dX8_init_15 (fun q_3 cA_4 H hK hP hD hS => ?_)
  have hK : va_K (dC, dI) vwCl [(cA_2, .int), (cA_4, .int)] s := hK
  have hP : va_P (dC, dI) vwCl [(h0, .inr (8, [.int 0, .ref q_1, .null, .null, .null, .null, .null, .null, .null, .null, .null, .null, .null, .null, .null, .null, .null])), (q_1, .inl (cA_2, 16, .inl (fun _ => (0 : Int32)))), (q_3, .inl (cA_4, 67200, .inl (fun _ => (0 : Int32))))] H := hP
  have hD : va_D A [(h0, .inr (8, [.int 0, .ref q_1, .null, .null, .null, .null, .null, .null, .null, .null, .null, .null, .null, .null, .null, .null, .null])), (q_1, .inl (cA_2, 16, .inl (fun _ => (0 : Int32)))), (q_3, .inl (cA_4, 67200, .inl (fun _ => (0 : Int32))))] := hD
  refine W.widen (k := 2) (n := 67216) (Nat.le_of_ble_eq_true rfl) (Nat.le_of_ble_eq_true rfl) ?_
  refine va_putF (D := (dC, dI)) (ci := 8) (v := .ref q_3) (ty := .array .int) (C := RX8) (T := TX8) (N := 17) hx hb hts (by decide +kernel) tyX8 tyX8_ok nmX8 hown hK hP hD hS 0 rfl rfl 2 (by decide) (hts (.fieldLink RX8 14 "KeyAtlasModel" "cell" "[I") (by decide +kernel)) (fun _ h9 => h9) rfl hin rfl (by decide +kernel) rfl rfl (Nat.le_of_ble_eq_true rfl) dX8_init_17 (fun H locs hP hD hS => ?_)
  have hP : va_P (dC, dI) vwCl [(h0, .inr (8, [.int 0, .ref q_1, .ref q_3, .null, .null, .null, .null, .null, .null, .null, .null, .null, .null, .null, .null, .null, .null])), (q_1, .inl (cA_2, 16, .inl (fun _ => (0 : Int32)))), (q_3, .inl (cA_4, 67200, .inl (fun _ => (0 : Int32))))] H := hP
  have hD : va_D A [(h0, .inr (8, [.int 0, .ref q_1, .ref q_3, .null, .null, .null, .null, .null, .null, .null, .null, .null, .null, .null, .null, .null, .null])), (q_1, .inl (cA_2, 16, .inl (fun _ => (0 : Int32)))), (q_3, .inl (cA_4, 67200, .inl (fun _ => (0 : Int32))))] := hD
  refine lv_aload_n hx hb dX8_init_20 rfl (lv_at hl 0 rfl) ?_
  refine lv_bipush (v := 16) hx hb dX8_init_21 (by decide) ?_
  refine va_newa (atype := .int) (ty := .int) (n := 16) (N' := 16) (a0 := (16, .inl (fun _ => (0 : Int32)))) hx hb (hts (.arrayClass .int) (by decide +kernel)) rfl hK hP hD hS hA (fun _ => rfl) (by decide) (by decide) (by decide) (Nat.le_of_ble_eq_true rfl) (Nat.le_of_ble_eq_true rfl) dX8_init_23 (fun q_5 cA_6 H hK hP hD hS => ?_)
  have hK : va_K (dC, dI) vwCl [(cA_2, .int), (cA_4, .int), (cA_6, .int)] s := hK
  have hP : va_P (dC, dI) vwCl [(h0, .inr (8, [.int 0, .ref q_1, .ref q_3, .null, .null, .null, .null, .null, .null, .null, .null, .null, .null, .null, .null, .null, .null])), (q_1, .inl (cA_2, 16, .inl (fun _ => (0 : Int32)))), (q_3, .inl (cA_4, 67200, .inl (fun _ => (0 : Int32)))), (q_5, .inl (cA_6, 16, .inl (fun _ => (0 : Int32))))] H := hP
  have hD : va_D A [(h0, .inr (8, [.int 0, .ref q_1, .ref q_3, .null, .null, .null, .null, .null, .null, .null, .null, .null, .null, .null, .null, .null, .null])), (q_1, .inl (cA_2, 16, .inl (fun _ => (0 : Int32)))), (q_3, .inl (cA_4, 67200, .inl (fun _ => (0 : Int32)))), (q_5, .inl (cA_6, 16, .inl (fun _ => (0 : Int32))))] := hD
  refine W.widen (k := 3) (n := 67232) (Nat.le_of_ble_eq_true rfl) (Nat.le_of_ble_eq_true rfl) ?_
  refine va_putF (D := (dC, dI)) (ci := 8) (v := .ref q_5) (ty := .array .int) (C := RX8) (T := TX8) (N := 17) hx hb hts (by decide +kernel) tyX8 tyX8_ok nmX8 hown hK hP hD hS 0 rfl rfl 3 (by decide) (hts (.fieldLink RX8 17 "KeyAtlasModel" "size" "[I") (by decide +kernel)) (fun _ h9 => h9) rfl hin rfl (by decide +kernel) rfl rfl (Nat.le_of_ble_eq_true rfl) dX8_init_25 (fun H locs hP hD hS => ?_)
  have hP : va_P (dC, dI) vwCl [(h0, .inr (8, [.int 0, .ref q_1, .ref q_3, .ref q_5, .null, .null, .null, .null, .null, .null, .null, .null, .null, .null, .null, .null, .null])), (q_1, .inl (cA_2, 16, .inl (fun _ => (0 : Int32)))), (q_3, .inl (cA_4, 67200, .inl (fun _ => (0 : Int32)))), (q_5, .inl (cA_6, 16, .inl (fun _ => (0 : Int32))))] H := hP
  have hD : va_D A [(h0, .inr (8, [.int 0, .ref q_1, .ref q_3, .ref q_5, .null, .null, .null, .null, .null, .null, .null, .null, .null, .null, .null, .null, .null])), (q_1, .inl (cA_2, 16, .inl (fun _ => (0 : Int32)))), (q_3, .inl (cA_4, 67200, .inl (fun _ => (0 : Int32)))), (q_5, .inl (cA_6, 16, .inl (fun _ => (0 : Int32))))] := hD
  refine lv_aload_n hx hb dX8_init_28 rfl (lv_at hl 0 rfl) ?_
  refine lv_bipush (v := 16) hx hb dX8_init_29 (by decide) ?_
  refine va_newa (atype := .int) (ty := .int) (n := 16) (N' := 16) (a0 := (16, .inl (fun _ => (0 : Int32)))) hx hb (hts (.arrayClass .int) (by decide +kernel)) rfl hK hP hD hS hA (fun _ => rfl) (by decide) (by decide) (by decide) (Nat.le_of_ble_eq_true rfl) (Nat.le_of_ble_eq_true rfl) dX8_init_31 (fun q_7 cA_8 H hK hP hD hS => ?_)
  have hK : va_K (dC, dI) vwCl [(cA_2, .int), (cA_4, .int), (cA_6, .int), (cA_8, .int)] s := hK
  have hP : va_P (dC, dI) vwCl [(h0, .inr (8, [.int 0, .ref q_1, .ref q_3, .ref q_5, .null, .null, .null, .null, .null, .null, .null, .null, .null, .null, .null, .null, .null])), (q_1, .inl (cA_2, 16, .inl (fun _ => (0 : Int32)))), (q_3, .inl (cA_4, 67200, .inl (fun _ => (0 : Int32)))), (q_5, .inl (cA_6, 16, .inl (fun _ => (0 : Int32)))), (q_7, .inl (cA_8, 16, .inl (fun _ => (0 : Int32))))] H := hP
  have hD : va_D A [(h0, .inr (8, [.int 0, .ref q_1, .ref q_3, .ref q_5, .null, .null, .null, .null, .null, .null, .null, .null, .null, .null, .null, .null, .null])), (q_1, .inl (cA_2, 16, .inl (fun _ => (0 : Int32)))), (q_3, .inl (cA_4, 67200, .inl (fun _ => (0 : Int32)))), (q_5, .inl (cA_6, 16, .inl (fun _ => (0 : Int32)))), (q_7, .inl (cA_8, 16, .inl (fun _ => (0 : Int32))))] := hD
  refine W.widen (k := 4) (n := 67248) (Nat.le_of_ble_eq_true rfl) (Nat.le_of_ble_eq_true rfl) ?_
  refine va_putF (D := (dC, dI)) (ci := 8) (v := .ref q_7) (ty := .array .int) (C := RX8) (T := TX8) (N := 17) hx hb hts (by decide +kernel) tyX8 tyX8_ok nmX8 hown hK hP hD hS 0 rfl rfl 4 (by decide) (hts (.fieldLink RX8 20 "KeyAtlasModel" "first" "[I") (by decide +kernel)) (fun _ h9 => h9) rfl hin rfl (by decide +kernel) rfl rfl (Nat.le_of_ble_eq_true rfl) dX8_init_33 (fun H locs hP hD hS => ?_)
  have hP : va_P (dC, dI) vwCl [(h0, .inr (8, [.int 0, .ref q_1, .ref q_3, .ref q_5, .ref q_7, .null, .null, .null, .null, .null, .null, .null, .null, .null, .null, .null, .null])), (q_1, .inl (cA_2, 16, .inl (fun _ => (0 : Int32)))), (q_3, .inl (cA_4, 67200, .inl (fun _ => (0 : Int32)))), (q_5, .inl (cA_6, 16, .inl (fun _ => (0 : Int32)))), (q_7, .inl (cA_8, 16, .inl (fun _ => (0 : Int32))))] H := hP
  have hD : va_D A [(h0, .inr (8, [.int 0, .ref q_1, .ref q_3, .ref q_5, .ref q_7, .null, .null, .null, .null, .null, .null, .null, .null, .null, .null, .null, .null])), (q_1, .inl (cA_2, 16, .inl (fun _ => (0 : Int32)))), (q_3, .inl (cA_4, 67200, .inl (fun _ => (0 : Int32)))), (q_5, .inl (cA_6, 16, .inl (fun _ => (0 : Int32)))), (q_7, .inl (cA_8, 16, .inl (fun _ => (0 : Int32))))] := hD
  refine lv_aload_n hx hb dX8_init_36 rfl (lv_at hl 0 rfl) ?_
  refine lv_bipush (v := 16) hx hb dX8_init_37 (by decide) ?_
  refine va_newa (atype := .int) (ty := .int) (n := 16) (N' := 16) (a0 := (16, .inl (fun _ => (0 : Int32)))) hx hb (hts (.arrayClass .int) (by decide +kernel)) rfl hK hP hD hS hA (fun _ => rfl) (by decide) (by decide) (by decide) (Nat.le_of_ble_eq_true rfl) (Nat.le_of_ble_eq_true rfl) dX8_init_39 (fun q_9 cA_10 H hK hP hD hS => ?_)
  have hK : va_K (dC, dI) vwCl [(cA_2, .int), (cA_4, .int), (cA_6, .int), (cA_8, .int), (cA_10, .int)] s := hK
  have hP : va_P (dC, dI) vwCl [(h0, .inr (8, [.int 0, .ref q_1, .ref q_3, .ref q_5, .ref q_7, .null, .null, .null, .null, .null, .null, .null, .null, .null, .null, .null, .null])), (q_1, .inl (cA_2, 16, .inl (fun _ => (0 : Int32)))), (q_3, .inl (cA_4, 67200, .inl (fun _ => (0 : Int32)))), (q_5, .inl (cA_6, 16, .inl (fun _ => (0 : Int32)))), (q_7, .inl (cA_8, 16, .inl (fun _ => (0 : Int32)))), (q_9, .inl (cA_10, 16, .inl (fun _ => (0 : Int32))))] H := hP
  have hD : va_D A [(h0, .inr (8, [.int 0, .ref q_1, .ref q_3, .ref q_5, .ref q_7, .null, .null, .null, .null, .null, .null, .null, .null, .null, .null, .null, .null])), (q_1, .inl (cA_2, 16, .inl (fun _ => (0 : Int32)))), (q_3, .inl (cA_4, 67200, .inl (fun _ => (0 : Int32)))), (q_5, .inl (cA_6, 16, .inl (fun _ => (0 : Int32)))), (q_7, .inl (cA_8, 16, .inl (fun _ => (0 : Int32)))), (q_9, .inl (cA_10, 16, .inl (fun _ => (0 : Int32))))] := hD
  refine W.widen (k := 5) (n := 67264) (Nat.le_of_ble_eq_true rfl) (Nat.le_of_ble_eq_true rfl) ?_
  refine va_putF (D := (dC, dI)) (ci := 8) (v := .ref q_9) (ty := .array .int) (C := RX8) (T := TX8) (N := 17) hx hb hts (by decide +kernel) tyX8 tyX8_ok nmX8 hown hK hP hD hS 0 rfl rfl 5 (by decide) (hts (.fieldLink RX8 23 "KeyAtlasModel" "second" "[I") (by decide +kernel)) (fun _ h9 => h9) rfl hin rfl (by decide +kernel) rfl rfl (Nat.le_of_ble_eq_true rfl) dX8_init_41 (fun H locs hP hD hS => ?_)
  have hP : va_P (dC, dI) vwCl [(h0, .inr (8, [.int 0, .ref q_1, .ref q_3, .ref q_5, .ref q_7, .ref q_9, .null, .null, .null, .null, .null, .null, .null, .null, .null, .null, .null])), (q_1, .inl (cA_2, 16, .inl (fun _ => (0 : Int32)))), (q_3, .inl (cA_4, 67200, .inl (fun _ => (0 : Int32)))), (q_5, .inl (cA_6, 16, .inl (fun _ => (0 : Int32)))), (q_7, .inl (cA_8, 16, .inl (fun _ => (0 : Int32)))), (q_9, .inl (cA_10, 16, .inl (fun _ => (0 : Int32))))] H := hP
  have hD : va_D A [(h0, .inr (8, [.int 0, .ref q_1, .ref q_3, .ref q_5, .ref q_7, .ref q_9, .null, .null, .null, .null, .null, .null, .null, .null, .null, .null, .null])), (q_1, .inl (cA_2, 16, .inl (fun _ => (0 : Int32)))), (q_3, .inl (cA_4, 67200, .inl (fun _ => (0 : Int32)))), (q_5, .inl (cA_6, 16, .inl (fun _ => (0 : Int32)))), (q_7, .inl (cA_8, 16, .inl (fun _ => (0 : Int32)))), (q_9, .inl (cA_10, 16, .inl (fun _ => (0 : Int32))))] := hD
  refine lv_aload_n hx hb dX8_init_44 rfl (lv_at hl 0 rfl) ?_
  refine lv_bipush (v := 16) hx hb dX8_init_45 (by decide) ?_
  refine va_newa (atype := .int) (ty := .int) (n := 16) (N' := 16) (a0 := (16, .inl (fun _ => (0 : Int32)))) hx hb (hts (.arrayClass .int) (by decide +kernel)) rfl hK hP hD hS hA (fun _ => rfl) (by decide) (by decide) (by decide) (Nat.le_of_ble_eq_true rfl) (Nat.le_of_ble_eq_true rfl) dX8_init_47 (fun q_11 cA_12 H hK hP hD hS => ?_)
  have hK : va_K (dC, dI) vwCl [(cA_2, .int), (cA_4, .int), (cA_6, .int), (cA_8, .int), (cA_10, .int), (cA_12, .int)] s := hK
  have hP : va_P (dC, dI) vwCl [(h0, .inr (8, [.int 0, .ref q_1, .ref q_3, .ref q_5, .ref q_7, .ref q_9, .null, .null, .null, .null, .null, .null, .null, .null, .null, .null, .null])), (q_1, .inl (cA_2, 16, .inl (fun _ => (0 : Int32)))), (q_3, .inl (cA_4, 67200, .inl (fun _ => (0 : Int32)))), (q_5, .inl (cA_6, 16, .inl (fun _ => (0 : Int32)))), (q_7, .inl (cA_8, 16, .inl (fun _ => (0 : Int32)))), (q_9, .inl (cA_10, 16, .inl (fun _ => (0 : Int32)))), (q_11, .inl (cA_12, 16, .inl (fun _ => (0 : Int32))))] H := hP
  have hD : va_D A [(h0, .inr (8, [.int 0, .ref q_1, .ref q_3, .ref q_5, .ref q_7, .ref q_9, .null, .null, .null, .null, .null, .null, .null, .null, .null, .null, .null])), (q_1, .inl (cA_2, 16, .inl (fun _ => (0 : Int32)))), (q_3, .inl (cA_4, 67200, .inl (fun _ => (0 : Int32)))), (q_5, .inl (cA_6, 16, .inl (fun _ => (0 : Int32)))), (q_7, .inl (cA_8, 16, .inl (fun _ => (0 : Int32)))), (q_9, .inl (cA_10, 16, .inl (fun _ => (0 : Int32)))), (q_11, .inl (cA_12, 16, .inl (fun _ => (0 : Int32))))] := hD
  refine W.widen (k := 6) (n := 67280) (Nat.le_of_ble_eq_true rfl) (Nat.le_of_ble_eq_true rfl) ?_
  refine va_putF (D := (dC, dI)) (ci := 8) (v := .ref q_11) (ty := .array .int) (C := RX8) (T := TX8) (N := 17) hx hb hts (by decide +kernel) tyX8 tyX8_ok nmX8 hown hK hP hD hS 0 rfl rfl 6 (by decide) (hts (.fieldLink RX8 26 "KeyAtlasModel" "table" "[I") (by decide +kernel)) (fun _ h9 => h9) rfl hin rfl (by decide +kernel) rfl rfl (Nat.le_of_ble_eq_true rfl) dX8_init_49 (fun H locs hP hD hS => ?_)
  have hP : va_P (dC, dI) vwCl [(h0, .inr (8, [.int 0, .ref q_1, .ref q_3, .ref q_5, .ref q_7, .ref q_9, .ref q_11, .null, .null, .null, .null, .null, .null, .null, .null, .null, .null])), (q_1, .inl (cA_2, 16, .inl (fun _ => (0 : Int32)))), (q_3, .inl (cA_4, 67200, .inl (fun _ => (0 : Int32)))), (q_5, .inl (cA_6, 16, .inl (fun _ => (0 : Int32)))), (q_7, .inl (cA_8, 16, .inl (fun _ => (0 : Int32)))), (q_9, .inl (cA_10, 16, .inl (fun _ => (0 : Int32)))), (q_11, .inl (cA_12, 16, .inl (fun _ => (0 : Int32))))] H := hP
  have hD : va_D A [(h0, .inr (8, [.int 0, .ref q_1, .ref q_3, .ref q_5, .ref q_7, .ref q_9, .ref q_11, .null, .null, .null, .null, .null, .null, .null, .null, .null, .null])), (q_1, .inl (cA_2, 16, .inl (fun _ => (0 : Int32)))), (q_3, .inl (cA_4, 67200, .inl (fun _ => (0 : Int32)))), (q_5, .inl (cA_6, 16, .inl (fun _ => (0 : Int32)))), (q_7, .inl (cA_8, 16, .inl (fun _ => (0 : Int32)))), (q_9, .inl (cA_10, 16, .inl (fun _ => (0 : Int32)))), (q_11, .inl (cA_12, 16, .inl (fun _ => (0 : Int32))))] := hD
  refine lv_aload_n hx hb dX8_init_52 rfl (lv_at hl 0 rfl) ?_
  refine lv_bipush (v := 16) hx hb dX8_init_53 (by decide) ?_
  refine va_newa (atype := .int) (ty := .int) (n := 16) (N' := 16) (a0 := (16, .inl (fun _ => (0 : Int32)))) hx hb (hts (.arrayClass .int) (by decide +kernel)) rfl hK hP hD hS hA (fun _ => rfl) (by decide) (by decide) (by decide) (Nat.le_of_ble_eq_true rfl) (Nat.le_of_ble_eq_true rfl) dX8_init_55 (fun q_13 cA_14 H hK hP hD hS => ?_)
  have hK : va_K (dC, dI) vwCl [(cA_2, .int), (cA_4, .int), (cA_6, .int), (cA_8, .int), (cA_10, .int), (cA_12, .int), (cA_14, .int)] s := hK
  have hP : va_P (dC, dI) vwCl [(h0, .inr (8, [.int 0, .ref q_1, .ref q_3, .ref q_5, .ref q_7, .ref q_9, .ref q_11, .null, .null, .null, .null, .null, .null, .null, .null, .null, .null])), (q_1, .inl (cA_2, 16, .inl (fun _ => (0 : Int32)))), (q_3, .inl (cA_4, 67200, .inl (fun _ => (0 : Int32)))), (q_5, .inl (cA_6, 16, .inl (fun _ => (0 : Int32)))), (q_7, .inl (cA_8, 16, .inl (fun _ => (0 : Int32)))), (q_9, .inl (cA_10, 16, .inl (fun _ => (0 : Int32)))), (q_11, .inl (cA_12, 16, .inl (fun _ => (0 : Int32)))), (q_13, .inl (cA_14, 16, .inl (fun _ => (0 : Int32))))] H := hP
  have hD : va_D A [(h0, .inr (8, [.int 0, .ref q_1, .ref q_3, .ref q_5, .ref q_7, .ref q_9, .ref q_11, .null, .null, .null, .null, .null, .null, .null, .null, .null, .null])), (q_1, .inl (cA_2, 16, .inl (fun _ => (0 : Int32)))), (q_3, .inl (cA_4, 67200, .inl (fun _ => (0 : Int32)))), (q_5, .inl (cA_6, 16, .inl (fun _ => (0 : Int32)))), (q_7, .inl (cA_8, 16, .inl (fun _ => (0 : Int32)))), (q_9, .inl (cA_10, 16, .inl (fun _ => (0 : Int32)))), (q_11, .inl (cA_12, 16, .inl (fun _ => (0 : Int32)))), (q_13, .inl (cA_14, 16, .inl (fun _ => (0 : Int32))))] := hD
  refine W.widen (k := 7) (n := 67296) (Nat.le_of_ble_eq_true rfl) (Nat.le_of_ble_eq_true rfl) ?_
  refine va_putF (D := (dC, dI)) (ci := 8) (v := .ref q_13) (ty := .array .int) (C := RX8) (T := TX8) (N := 17) hx hb hts (by decide +kernel) tyX8 tyX8_ok nmX8 hown hK hP hD hS 0 rfl rfl 7 (by decide) (hts (.fieldLink RX8 29 "KeyAtlasModel" "changes" "[I") (by decide +kernel)) (fun _ h9 => h9) rfl hin rfl (by decide +kernel) rfl rfl (Nat.le_of_ble_eq_true rfl) dX8_init_57 (fun H locs hP hD hS => ?_)
  have hP : va_P (dC, dI) vwCl [(h0, .inr (8, [.int 0, .ref q_1, .ref q_3, .ref q_5, .ref q_7, .ref q_9, .ref q_11, .ref q_13, .null, .null, .null, .null, .null, .null, .null, .null, .null])), (q_1, .inl (cA_2, 16, .inl (fun _ => (0 : Int32)))), (q_3, .inl (cA_4, 67200, .inl (fun _ => (0 : Int32)))), (q_5, .inl (cA_6, 16, .inl (fun _ => (0 : Int32)))), (q_7, .inl (cA_8, 16, .inl (fun _ => (0 : Int32)))), (q_9, .inl (cA_10, 16, .inl (fun _ => (0 : Int32)))), (q_11, .inl (cA_12, 16, .inl (fun _ => (0 : Int32)))), (q_13, .inl (cA_14, 16, .inl (fun _ => (0 : Int32))))] H := hP
  have hD : va_D A [(h0, .inr (8, [.int 0, .ref q_1, .ref q_3, .ref q_5, .ref q_7, .ref q_9, .ref q_11, .ref q_13, .null, .null, .null, .null, .null, .null, .null, .null, .null])), (q_1, .inl (cA_2, 16, .inl (fun _ => (0 : Int32)))), (q_3, .inl (cA_4, 67200, .inl (fun _ => (0 : Int32)))), (q_5, .inl (cA_6, 16, .inl (fun _ => (0 : Int32)))), (q_7, .inl (cA_8, 16, .inl (fun _ => (0 : Int32)))), (q_9, .inl (cA_10, 16, .inl (fun _ => (0 : Int32)))), (q_11, .inl (cA_12, 16, .inl (fun _ => (0 : Int32)))), (q_13, .inl (cA_14, 16, .inl (fun _ => (0 : Int32))))] := hD
  refine lv_aload_n hx hb dX8_init_60 rfl (lv_at hl 0 rfl) ?_
  refine lv_bipush (v := 16) hx hb dX8_init_61 (by decide) ?_
  refine va_newa (atype := .int) (ty := .int) (n := 16) (N' := 16) (a0 := (16, .inl (fun _ => (0 : Int32)))) hx hb (hts (.arrayClass .int) (by decide +kernel)) rfl hK hP hD hS hA (fun _ => rfl) (by decide) (by decide) (by decide) (Nat.le_of_ble_eq_true rfl) (Nat.le_of_ble_eq_true rfl) dX8_init_63 (fun q_15 cA_16 H hK hP hD hS => ?_)
  have hK : va_K (dC, dI) vwCl [(cA_2, .int), (cA_4, .int), (cA_6, .int), (cA_8, .int), (cA_10, .int), (cA_12, .int), (cA_14, .int), (cA_16, .int)] s := hK
  have hP : va_P (dC, dI) vwCl [(h0, .inr (8, [.int 0, .ref q_1, .ref q_3, .ref q_5, .ref q_7, .ref q_9, .ref q_11, .ref q_13, .null, .null, .null, .null, .null, .null, .null, .null, .null])), (q_1, .inl (cA_2, 16, .inl (fun _ => (0 : Int32)))), (q_3, .inl (cA_4, 67200, .inl (fun _ => (0 : Int32)))), (q_5, .inl (cA_6, 16, .inl (fun _ => (0 : Int32)))), (q_7, .inl (cA_8, 16, .inl (fun _ => (0 : Int32)))), (q_9, .inl (cA_10, 16, .inl (fun _ => (0 : Int32)))), (q_11, .inl (cA_12, 16, .inl (fun _ => (0 : Int32)))), (q_13, .inl (cA_14, 16, .inl (fun _ => (0 : Int32)))), (q_15, .inl (cA_16, 16, .inl (fun _ => (0 : Int32))))] H := hP
  have hD : va_D A [(h0, .inr (8, [.int 0, .ref q_1, .ref q_3, .ref q_5, .ref q_7, .ref q_9, .ref q_11, .ref q_13, .null, .null, .null, .null, .null, .null, .null, .null, .null])), (q_1, .inl (cA_2, 16, .inl (fun _ => (0 : Int32)))), (q_3, .inl (cA_4, 67200, .inl (fun _ => (0 : Int32)))), (q_5, .inl (cA_6, 16, .inl (fun _ => (0 : Int32)))), (q_7, .inl (cA_8, 16, .inl (fun _ => (0 : Int32)))), (q_9, .inl (cA_10, 16, .inl (fun _ => (0 : Int32)))), (q_11, .inl (cA_12, 16, .inl (fun _ => (0 : Int32)))), (q_13, .inl (cA_14, 16, .inl (fun _ => (0 : Int32)))), (q_15, .inl (cA_16, 16, .inl (fun _ => (0 : Int32))))] := hD
  refine W.widen (k := 8) (n := 67312) (Nat.le_of_ble_eq_true rfl) (Nat.le_of_ble_eq_true rfl) ?_
  refine va_putF (D := (dC, dI)) (ci := 8) (v := .ref q_15) (ty := .array .int) (C := RX8) (T := TX8) (N := 17) hx hb hts (by decide +kernel) tyX8 tyX8_ok nmX8 hown hK hP hD hS 0 rfl rfl 8 (by decide) (hts (.fieldLink RX8 32 "KeyAtlasModel" "parent" "[I") (by decide +kernel)) (fun _ h9 => h9) rfl hin rfl (by decide +kernel) rfl rfl (Nat.le_of_ble_eq_true rfl) dX8_init_65 (fun H locs hP hD hS => ?_)
  have hP : va_P (dC, dI) vwCl [(h0, .inr (8, [.int 0, .ref q_1, .ref q_3, .ref q_5, .ref q_7, .ref q_9, .ref q_11, .ref q_13, .ref q_15, .null, .null, .null, .null, .null, .null, .null, .null])), (q_1, .inl (cA_2, 16, .inl (fun _ => (0 : Int32)))), (q_3, .inl (cA_4, 67200, .inl (fun _ => (0 : Int32)))), (q_5, .inl (cA_6, 16, .inl (fun _ => (0 : Int32)))), (q_7, .inl (cA_8, 16, .inl (fun _ => (0 : Int32)))), (q_9, .inl (cA_10, 16, .inl (fun _ => (0 : Int32)))), (q_11, .inl (cA_12, 16, .inl (fun _ => (0 : Int32)))), (q_13, .inl (cA_14, 16, .inl (fun _ => (0 : Int32)))), (q_15, .inl (cA_16, 16, .inl (fun _ => (0 : Int32))))] H := hP
  have hD : va_D A [(h0, .inr (8, [.int 0, .ref q_1, .ref q_3, .ref q_5, .ref q_7, .ref q_9, .ref q_11, .ref q_13, .ref q_15, .null, .null, .null, .null, .null, .null, .null, .null])), (q_1, .inl (cA_2, 16, .inl (fun _ => (0 : Int32)))), (q_3, .inl (cA_4, 67200, .inl (fun _ => (0 : Int32)))), (q_5, .inl (cA_6, 16, .inl (fun _ => (0 : Int32)))), (q_7, .inl (cA_8, 16, .inl (fun _ => (0 : Int32)))), (q_9, .inl (cA_10, 16, .inl (fun _ => (0 : Int32)))), (q_11, .inl (cA_12, 16, .inl (fun _ => (0 : Int32)))), (q_13, .inl (cA_14, 16, .inl (fun _ => (0 : Int32)))), (q_15, .inl (cA_16, 16, .inl (fun _ => (0 : Int32))))] := hD
  refine lv_aload_n hx hb dX8_init_68 rfl (lv_at hl 0 rfl) ?_
  refine lv_bipush (v := 16) hx hb dX8_init_69 (by decide) ?_
  refine va_newa (atype := .int) (ty := .int) (n := 16) (N' := 16) (a0 := (16, .inl (fun _ => (0 : Int32)))) hx hb (hts (.arrayClass .int) (by decide +kernel)) rfl hK hP hD hS hA (fun _ => rfl) (by decide) (by decide) (by decide) (Nat.le_of_ble_eq_true rfl) (Nat.le_of_ble_eq_true rfl) dX8_init_71 (fun q_17 cA_18 H hK hP hD hS => ?_)
  have hK : va_K (dC, dI) vwCl [(cA_2, .int), (cA_4, .int), (cA_6, .int), (cA_8, .int), (cA_10, .int), (cA_12, .int), (cA_14, .int), (cA_16, .int), (cA_18, .int)] s := hK
  have hP : va_P (dC, dI) vwCl [(h0, .inr (8, [.int 0, .ref q_1, .ref q_3, .ref q_5, .ref q_7, .ref q_9, .ref q_11, .ref q_13, .ref q_15, .null, .null, .null, .null, .null, .null, .null, .null])), (q_1, .inl (cA_2, 16, .inl (fun _ => (0 : Int32)))), (q_3, .inl (cA_4, 67200, .inl (fun _ => (0 : Int32)))), (q_5, .inl (cA_6, 16, .inl (fun _ => (0 : Int32)))), (q_7, .inl (cA_8, 16, .inl (fun _ => (0 : Int32)))), (q_9, .inl (cA_10, 16, .inl (fun _ => (0 : Int32)))), (q_11, .inl (cA_12, 16, .inl (fun _ => (0 : Int32)))), (q_13, .inl (cA_14, 16, .inl (fun _ => (0 : Int32)))), (q_15, .inl (cA_16, 16, .inl (fun _ => (0 : Int32)))), (q_17, .inl (cA_18, 16, .inl (fun _ => (0 : Int32))))] H := hP
  have hD : va_D A [(h0, .inr (8, [.int 0, .ref q_1, .ref q_3, .ref q_5, .ref q_7, .ref q_9, .ref q_11, .ref q_13, .ref q_15, .null, .null, .null, .null, .null, .null, .null, .null])), (q_1, .inl (cA_2, 16, .inl (fun _ => (0 : Int32)))), (q_3, .inl (cA_4, 67200, .inl (fun _ => (0 : Int32)))), (q_5, .inl (cA_6, 16, .inl (fun _ => (0 : Int32)))), (q_7, .inl (cA_8, 16, .inl (fun _ => (0 : Int32)))), (q_9, .inl (cA_10, 16, .inl (fun _ => (0 : Int32)))), (q_11, .inl (cA_12, 16, .inl (fun _ => (0 : Int32)))), (q_13, .inl (cA_14, 16, .inl (fun _ => (0 : Int32)))), (q_15, .inl (cA_16, 16, .inl (fun _ => (0 : Int32)))), (q_17, .inl (cA_18, 16, .inl (fun _ => (0 : Int32))))] := hD
  refine W.widen (k := 9) (n := 67328) (Nat.le_of_ble_eq_true rfl) (Nat.le_of_ble_eq_true rfl) ?_
  refine va_putF (D := (dC, dI)) (ci := 8) (v := .ref q_17) (ty := .array .int) (C := RX8) (T := TX8) (N := 17) hx hb hts (by decide +kernel) tyX8 tyX8_ok nmX8 hown hK hP hD hS 0 rfl rfl 9 (by decide) (hts (.fieldLink RX8 35 "KeyAtlasModel" "from" "[I") (by decide +kernel)) (fun _ h9 => h9) rfl hin rfl (by decide +kernel) rfl rfl (Nat.le_of_ble_eq_true rfl) dX8_init_73 (fun H locs hP hD hS => ?_)
  have hP : va_P (dC, dI) vwCl [(h0, .inr (8, [.int 0, .ref q_1, .ref q_3, .ref q_5, .ref q_7, .ref q_9, .ref q_11, .ref q_13, .ref q_15, .ref q_17, .null, .null, .null, .null, .null, .null, .null])), (q_1, .inl (cA_2, 16, .inl (fun _ => (0 : Int32)))), (q_3, .inl (cA_4, 67200, .inl (fun _ => (0 : Int32)))), (q_5, .inl (cA_6, 16, .inl (fun _ => (0 : Int32)))), (q_7, .inl (cA_8, 16, .inl (fun _ => (0 : Int32)))), (q_9, .inl (cA_10, 16, .inl (fun _ => (0 : Int32)))), (q_11, .inl (cA_12, 16, .inl (fun _ => (0 : Int32)))), (q_13, .inl (cA_14, 16, .inl (fun _ => (0 : Int32)))), (q_15, .inl (cA_16, 16, .inl (fun _ => (0 : Int32)))), (q_17, .inl (cA_18, 16, .inl (fun _ => (0 : Int32))))] H := hP
  have hD : va_D A [(h0, .inr (8, [.int 0, .ref q_1, .ref q_3, .ref q_5, .ref q_7, .ref q_9, .ref q_11, .ref q_13, .ref q_15, .ref q_17, .null, .null, .null, .null, .null, .null, .null])), (q_1, .inl (cA_2, 16, .inl (fun _ => (0 : Int32)))), (q_3, .inl (cA_4, 67200, .inl (fun _ => (0 : Int32)))), (q_5, .inl (cA_6, 16, .inl (fun _ => (0 : Int32)))), (q_7, .inl (cA_8, 16, .inl (fun _ => (0 : Int32)))), (q_9, .inl (cA_10, 16, .inl (fun _ => (0 : Int32)))), (q_11, .inl (cA_12, 16, .inl (fun _ => (0 : Int32)))), (q_13, .inl (cA_14, 16, .inl (fun _ => (0 : Int32)))), (q_15, .inl (cA_16, 16, .inl (fun _ => (0 : Int32)))), (q_17, .inl (cA_18, 16, .inl (fun _ => (0 : Int32))))] := hD
  refine lv_aload_n hx hb dX8_init_76 rfl (lv_at hl 0 rfl) ?_
  refine lv_bipush (v := 16) hx hb dX8_init_77 (by decide) ?_
  refine va_newa (atype := .int) (ty := .int) (n := 16) (N' := 16) (a0 := (16, .inl (fun _ => (0 : Int32)))) hx hb (hts (.arrayClass .int) (by decide +kernel)) rfl hK hP hD hS hA (fun _ => rfl) (by decide) (by decide) (by decide) (Nat.le_of_ble_eq_true rfl) (Nat.le_of_ble_eq_true rfl) dX8_init_79 (fun q_19 cA_20 H hK hP hD hS => ?_)
  have hK : va_K (dC, dI) vwCl [(cA_2, .int), (cA_4, .int), (cA_6, .int), (cA_8, .int), (cA_10, .int), (cA_12, .int), (cA_14, .int), (cA_16, .int), (cA_18, .int), (cA_20, .int)] s := hK
  have hP : va_P (dC, dI) vwCl [(h0, .inr (8, [.int 0, .ref q_1, .ref q_3, .ref q_5, .ref q_7, .ref q_9, .ref q_11, .ref q_13, .ref q_15, .ref q_17, .null, .null, .null, .null, .null, .null, .null])), (q_1, .inl (cA_2, 16, .inl (fun _ => (0 : Int32)))), (q_3, .inl (cA_4, 67200, .inl (fun _ => (0 : Int32)))), (q_5, .inl (cA_6, 16, .inl (fun _ => (0 : Int32)))), (q_7, .inl (cA_8, 16, .inl (fun _ => (0 : Int32)))), (q_9, .inl (cA_10, 16, .inl (fun _ => (0 : Int32)))), (q_11, .inl (cA_12, 16, .inl (fun _ => (0 : Int32)))), (q_13, .inl (cA_14, 16, .inl (fun _ => (0 : Int32)))), (q_15, .inl (cA_16, 16, .inl (fun _ => (0 : Int32)))), (q_17, .inl (cA_18, 16, .inl (fun _ => (0 : Int32)))), (q_19, .inl (cA_20, 16, .inl (fun _ => (0 : Int32))))] H := hP
  have hD : va_D A [(h0, .inr (8, [.int 0, .ref q_1, .ref q_3, .ref q_5, .ref q_7, .ref q_9, .ref q_11, .ref q_13, .ref q_15, .ref q_17, .null, .null, .null, .null, .null, .null, .null])), (q_1, .inl (cA_2, 16, .inl (fun _ => (0 : Int32)))), (q_3, .inl (cA_4, 67200, .inl (fun _ => (0 : Int32)))), (q_5, .inl (cA_6, 16, .inl (fun _ => (0 : Int32)))), (q_7, .inl (cA_8, 16, .inl (fun _ => (0 : Int32)))), (q_9, .inl (cA_10, 16, .inl (fun _ => (0 : Int32)))), (q_11, .inl (cA_12, 16, .inl (fun _ => (0 : Int32)))), (q_13, .inl (cA_14, 16, .inl (fun _ => (0 : Int32)))), (q_15, .inl (cA_16, 16, .inl (fun _ => (0 : Int32)))), (q_17, .inl (cA_18, 16, .inl (fun _ => (0 : Int32)))), (q_19, .inl (cA_20, 16, .inl (fun _ => (0 : Int32))))] := hD
  refine W.widen (k := 10) (n := 67344) (Nat.le_of_ble_eq_true rfl) (Nat.le_of_ble_eq_true rfl) ?_
  refine va_putF (D := (dC, dI)) (ci := 8) (v := .ref q_19) (ty := .array .int) (C := RX8) (T := TX8) (N := 17) hx hb hts (by decide +kernel) tyX8 tyX8_ok nmX8 hown hK hP hD hS 0 rfl rfl 10 (by decide) (hts (.fieldLink RX8 38 "KeyAtlasModel" "to" "[I") (by decide +kernel)) (fun _ h9 => h9) rfl hin rfl (by decide +kernel) rfl rfl (Nat.le_of_ble_eq_true rfl) dX8_init_81 (fun H locs hP hD hS => ?_)
  have hP : va_P (dC, dI) vwCl [(h0, .inr (8, [.int 0, .ref q_1, .ref q_3, .ref q_5, .ref q_7, .ref q_9, .ref q_11, .ref q_13, .ref q_15, .ref q_17, .ref q_19, .null, .null, .null, .null, .null, .null])), (q_1, .inl (cA_2, 16, .inl (fun _ => (0 : Int32)))), (q_3, .inl (cA_4, 67200, .inl (fun _ => (0 : Int32)))), (q_5, .inl (cA_6, 16, .inl (fun _ => (0 : Int32)))), (q_7, .inl (cA_8, 16, .inl (fun _ => (0 : Int32)))), (q_9, .inl (cA_10, 16, .inl (fun _ => (0 : Int32)))), (q_11, .inl (cA_12, 16, .inl (fun _ => (0 : Int32)))), (q_13, .inl (cA_14, 16, .inl (fun _ => (0 : Int32)))), (q_15, .inl (cA_16, 16, .inl (fun _ => (0 : Int32)))), (q_17, .inl (cA_18, 16, .inl (fun _ => (0 : Int32)))), (q_19, .inl (cA_20, 16, .inl (fun _ => (0 : Int32))))] H := hP
  have hD : va_D A [(h0, .inr (8, [.int 0, .ref q_1, .ref q_3, .ref q_5, .ref q_7, .ref q_9, .ref q_11, .ref q_13, .ref q_15, .ref q_17, .ref q_19, .null, .null, .null, .null, .null, .null])), (q_1, .inl (cA_2, 16, .inl (fun _ => (0 : Int32)))), (q_3, .inl (cA_4, 67200, .inl (fun _ => (0 : Int32)))), (q_5, .inl (cA_6, 16, .inl (fun _ => (0 : Int32)))), (q_7, .inl (cA_8, 16, .inl (fun _ => (0 : Int32)))), (q_9, .inl (cA_10, 16, .inl (fun _ => (0 : Int32)))), (q_11, .inl (cA_12, 16, .inl (fun _ => (0 : Int32)))), (q_13, .inl (cA_14, 16, .inl (fun _ => (0 : Int32)))), (q_15, .inl (cA_16, 16, .inl (fun _ => (0 : Int32)))), (q_17, .inl (cA_18, 16, .inl (fun _ => (0 : Int32)))), (q_19, .inl (cA_20, 16, .inl (fun _ => (0 : Int32))))] := hD
  refine lv_aload_n hx hb dX8_init_84 rfl (lv_at hl 0 rfl) ?_
  refine lv_bipush (v := 16) hx hb dX8_init_85 (by decide) ?_
  refine va_newa (atype := .int) (ty := .int) (n := 16) (N' := 16) (a0 := (16, .inl (fun _ => (0 : Int32)))) hx hb (hts (.arrayClass .int) (by decide +kernel)) rfl hK hP hD hS hA (fun _ => rfl) (by decide) (by decide) (by decide) (Nat.le_of_ble_eq_true rfl) (Nat.le_of_ble_eq_true rfl) dX8_init_87 (fun q_21 cA_22 H hK hP hD hS => ?_)
  have hK : va_K (dC, dI) vwCl [(cA_2, .int), (cA_4, .int), (cA_6, .int), (cA_8, .int), (cA_10, .int), (cA_12, .int), (cA_14, .int), (cA_16, .int), (cA_18, .int), (cA_20, .int), (cA_22, .int)] s := hK
  have hP : va_P (dC, dI) vwCl [(h0, .inr (8, [.int 0, .ref q_1, .ref q_3, .ref q_5, .ref q_7, .ref q_9, .ref q_11, .ref q_13, .ref q_15, .ref q_17, .ref q_19, .null, .null, .null, .null, .null, .null])), (q_1, .inl (cA_2, 16, .inl (fun _ => (0 : Int32)))), (q_3, .inl (cA_4, 67200, .inl (fun _ => (0 : Int32)))), (q_5, .inl (cA_6, 16, .inl (fun _ => (0 : Int32)))), (q_7, .inl (cA_8, 16, .inl (fun _ => (0 : Int32)))), (q_9, .inl (cA_10, 16, .inl (fun _ => (0 : Int32)))), (q_11, .inl (cA_12, 16, .inl (fun _ => (0 : Int32)))), (q_13, .inl (cA_14, 16, .inl (fun _ => (0 : Int32)))), (q_15, .inl (cA_16, 16, .inl (fun _ => (0 : Int32)))), (q_17, .inl (cA_18, 16, .inl (fun _ => (0 : Int32)))), (q_19, .inl (cA_20, 16, .inl (fun _ => (0 : Int32)))), (q_21, .inl (cA_22, 16, .inl (fun _ => (0 : Int32))))] H := hP
  have hD : va_D A [(h0, .inr (8, [.int 0, .ref q_1, .ref q_3, .ref q_5, .ref q_7, .ref q_9, .ref q_11, .ref q_13, .ref q_15, .ref q_17, .ref q_19, .null, .null, .null, .null, .null, .null])), (q_1, .inl (cA_2, 16, .inl (fun _ => (0 : Int32)))), (q_3, .inl (cA_4, 67200, .inl (fun _ => (0 : Int32)))), (q_5, .inl (cA_6, 16, .inl (fun _ => (0 : Int32)))), (q_7, .inl (cA_8, 16, .inl (fun _ => (0 : Int32)))), (q_9, .inl (cA_10, 16, .inl (fun _ => (0 : Int32)))), (q_11, .inl (cA_12, 16, .inl (fun _ => (0 : Int32)))), (q_13, .inl (cA_14, 16, .inl (fun _ => (0 : Int32)))), (q_15, .inl (cA_16, 16, .inl (fun _ => (0 : Int32)))), (q_17, .inl (cA_18, 16, .inl (fun _ => (0 : Int32)))), (q_19, .inl (cA_20, 16, .inl (fun _ => (0 : Int32)))), (q_21, .inl (cA_22, 16, .inl (fun _ => (0 : Int32))))] := hD
  refine W.widen (k := 11) (n := 67360) (Nat.le_of_ble_eq_true rfl) (Nat.le_of_ble_eq_true rfl) ?_
  refine va_putF (D := (dC, dI)) (ci := 8) (v := .ref q_21) (ty := .array .int) (C := RX8) (T := TX8) (N := 17) hx hb hts (by decide +kernel) tyX8 tyX8_ok nmX8 hown hK hP hD hS 0 rfl rfl 11 (by decide) (hts (.fieldLink RX8 41 "KeyAtlasModel" "way" "[I") (by decide +kernel)) (fun _ h9 => h9) rfl hin rfl (by decide +kernel) rfl rfl (Nat.le_of_ble_eq_true rfl) dX8_init_89 (fun H locs hP hD hS => ?_)
  have hP : va_P (dC, dI) vwCl [(h0, .inr (8, [.int 0, .ref q_1, .ref q_3, .ref q_5, .ref q_7, .ref q_9, .ref q_11, .ref q_13, .ref q_15, .ref q_17, .ref q_19, .ref q_21, .null, .null, .null, .null, .null])), (q_1, .inl (cA_2, 16, .inl (fun _ => (0 : Int32)))), (q_3, .inl (cA_4, 67200, .inl (fun _ => (0 : Int32)))), (q_5, .inl (cA_6, 16, .inl (fun _ => (0 : Int32)))), (q_7, .inl (cA_8, 16, .inl (fun _ => (0 : Int32)))), (q_9, .inl (cA_10, 16, .inl (fun _ => (0 : Int32)))), (q_11, .inl (cA_12, 16, .inl (fun _ => (0 : Int32)))), (q_13, .inl (cA_14, 16, .inl (fun _ => (0 : Int32)))), (q_15, .inl (cA_16, 16, .inl (fun _ => (0 : Int32)))), (q_17, .inl (cA_18, 16, .inl (fun _ => (0 : Int32)))), (q_19, .inl (cA_20, 16, .inl (fun _ => (0 : Int32)))), (q_21, .inl (cA_22, 16, .inl (fun _ => (0 : Int32))))] H := hP
  have hD : va_D A [(h0, .inr (8, [.int 0, .ref q_1, .ref q_3, .ref q_5, .ref q_7, .ref q_9, .ref q_11, .ref q_13, .ref q_15, .ref q_17, .ref q_19, .ref q_21, .null, .null, .null, .null, .null])), (q_1, .inl (cA_2, 16, .inl (fun _ => (0 : Int32)))), (q_3, .inl (cA_4, 67200, .inl (fun _ => (0 : Int32)))), (q_5, .inl (cA_6, 16, .inl (fun _ => (0 : Int32)))), (q_7, .inl (cA_8, 16, .inl (fun _ => (0 : Int32)))), (q_9, .inl (cA_10, 16, .inl (fun _ => (0 : Int32)))), (q_11, .inl (cA_12, 16, .inl (fun _ => (0 : Int32)))), (q_13, .inl (cA_14, 16, .inl (fun _ => (0 : Int32)))), (q_15, .inl (cA_16, 16, .inl (fun _ => (0 : Int32)))), (q_17, .inl (cA_18, 16, .inl (fun _ => (0 : Int32)))), (q_19, .inl (cA_20, 16, .inl (fun _ => (0 : Int32)))), (q_21, .inl (cA_22, 16, .inl (fun _ => (0 : Int32))))] := hD
  refine lv_aload_n hx hb dX8_init_92 rfl (lv_at hl 0 rfl) ?_
  refine lv_bipush (v := 16) hx hb dX8_init_93 (by decide) ?_
  refine va_newa (atype := .int) (ty := .int) (n := 16) (N' := 16) (a0 := (16, .inl (fun _ => (0 : Int32)))) hx hb (hts (.arrayClass .int) (by decide +kernel)) rfl hK hP hD hS hA (fun _ => rfl) (by decide) (by decide) (by decide) (Nat.le_of_ble_eq_true rfl) (Nat.le_of_ble_eq_true rfl) dX8_init_95 (fun q_23 cA_24 H hK hP hD hS => ?_)
  have hK : va_K (dC, dI) vwCl [(cA_2, .int), (cA_4, .int), (cA_6, .int), (cA_8, .int), (cA_10, .int), (cA_12, .int), (cA_14, .int), (cA_16, .int), (cA_18, .int), (cA_20, .int), (cA_22, .int), (cA_24, .int)] s := hK
  have hP : va_P (dC, dI) vwCl [(h0, .inr (8, [.int 0, .ref q_1, .ref q_3, .ref q_5, .ref q_7, .ref q_9, .ref q_11, .ref q_13, .ref q_15, .ref q_17, .ref q_19, .ref q_21, .null, .null, .null, .null, .null])), (q_1, .inl (cA_2, 16, .inl (fun _ => (0 : Int32)))), (q_3, .inl (cA_4, 67200, .inl (fun _ => (0 : Int32)))), (q_5, .inl (cA_6, 16, .inl (fun _ => (0 : Int32)))), (q_7, .inl (cA_8, 16, .inl (fun _ => (0 : Int32)))), (q_9, .inl (cA_10, 16, .inl (fun _ => (0 : Int32)))), (q_11, .inl (cA_12, 16, .inl (fun _ => (0 : Int32)))), (q_13, .inl (cA_14, 16, .inl (fun _ => (0 : Int32)))), (q_15, .inl (cA_16, 16, .inl (fun _ => (0 : Int32)))), (q_17, .inl (cA_18, 16, .inl (fun _ => (0 : Int32)))), (q_19, .inl (cA_20, 16, .inl (fun _ => (0 : Int32)))), (q_21, .inl (cA_22, 16, .inl (fun _ => (0 : Int32)))), (q_23, .inl (cA_24, 16, .inl (fun _ => (0 : Int32))))] H := hP
  have hD : va_D A [(h0, .inr (8, [.int 0, .ref q_1, .ref q_3, .ref q_5, .ref q_7, .ref q_9, .ref q_11, .ref q_13, .ref q_15, .ref q_17, .ref q_19, .ref q_21, .null, .null, .null, .null, .null])), (q_1, .inl (cA_2, 16, .inl (fun _ => (0 : Int32)))), (q_3, .inl (cA_4, 67200, .inl (fun _ => (0 : Int32)))), (q_5, .inl (cA_6, 16, .inl (fun _ => (0 : Int32)))), (q_7, .inl (cA_8, 16, .inl (fun _ => (0 : Int32)))), (q_9, .inl (cA_10, 16, .inl (fun _ => (0 : Int32)))), (q_11, .inl (cA_12, 16, .inl (fun _ => (0 : Int32)))), (q_13, .inl (cA_14, 16, .inl (fun _ => (0 : Int32)))), (q_15, .inl (cA_16, 16, .inl (fun _ => (0 : Int32)))), (q_17, .inl (cA_18, 16, .inl (fun _ => (0 : Int32)))), (q_19, .inl (cA_20, 16, .inl (fun _ => (0 : Int32)))), (q_21, .inl (cA_22, 16, .inl (fun _ => (0 : Int32)))), (q_23, .inl (cA_24, 16, .inl (fun _ => (0 : Int32))))] := hD
  refine W.widen (k := 12) (n := 67376) (Nat.le_of_ble_eq_true rfl) (Nat.le_of_ble_eq_true rfl) ?_
  refine va_putF (D := (dC, dI)) (ci := 8) (v := .ref q_23) (ty := .array .int) (C := RX8) (T := TX8) (N := 17) hx hb hts (by decide +kernel) tyX8 tyX8_ok nmX8 hown hK hP hD hS 0 rfl rfl 12 (by decide) (hts (.fieldLink RX8 44 "KeyAtlasModel" "seen" "[I") (by decide +kernel)) (fun _ h9 => h9) rfl hin rfl (by decide +kernel) rfl rfl (Nat.le_of_ble_eq_true rfl) dX8_init_97 (fun H locs hP hD hS => ?_)
  have hP : va_P (dC, dI) vwCl [(h0, .inr (8, [.int 0, .ref q_1, .ref q_3, .ref q_5, .ref q_7, .ref q_9, .ref q_11, .ref q_13, .ref q_15, .ref q_17, .ref q_19, .ref q_21, .ref q_23, .null, .null, .null, .null])), (q_1, .inl (cA_2, 16, .inl (fun _ => (0 : Int32)))), (q_3, .inl (cA_4, 67200, .inl (fun _ => (0 : Int32)))), (q_5, .inl (cA_6, 16, .inl (fun _ => (0 : Int32)))), (q_7, .inl (cA_8, 16, .inl (fun _ => (0 : Int32)))), (q_9, .inl (cA_10, 16, .inl (fun _ => (0 : Int32)))), (q_11, .inl (cA_12, 16, .inl (fun _ => (0 : Int32)))), (q_13, .inl (cA_14, 16, .inl (fun _ => (0 : Int32)))), (q_15, .inl (cA_16, 16, .inl (fun _ => (0 : Int32)))), (q_17, .inl (cA_18, 16, .inl (fun _ => (0 : Int32)))), (q_19, .inl (cA_20, 16, .inl (fun _ => (0 : Int32)))), (q_21, .inl (cA_22, 16, .inl (fun _ => (0 : Int32)))), (q_23, .inl (cA_24, 16, .inl (fun _ => (0 : Int32))))] H := hP
  have hD : va_D A [(h0, .inr (8, [.int 0, .ref q_1, .ref q_3, .ref q_5, .ref q_7, .ref q_9, .ref q_11, .ref q_13, .ref q_15, .ref q_17, .ref q_19, .ref q_21, .ref q_23, .null, .null, .null, .null])), (q_1, .inl (cA_2, 16, .inl (fun _ => (0 : Int32)))), (q_3, .inl (cA_4, 67200, .inl (fun _ => (0 : Int32)))), (q_5, .inl (cA_6, 16, .inl (fun _ => (0 : Int32)))), (q_7, .inl (cA_8, 16, .inl (fun _ => (0 : Int32)))), (q_9, .inl (cA_10, 16, .inl (fun _ => (0 : Int32)))), (q_11, .inl (cA_12, 16, .inl (fun _ => (0 : Int32)))), (q_13, .inl (cA_14, 16, .inl (fun _ => (0 : Int32)))), (q_15, .inl (cA_16, 16, .inl (fun _ => (0 : Int32)))), (q_17, .inl (cA_18, 16, .inl (fun _ => (0 : Int32)))), (q_19, .inl (cA_20, 16, .inl (fun _ => (0 : Int32)))), (q_21, .inl (cA_22, 16, .inl (fun _ => (0 : Int32)))), (q_23, .inl (cA_24, 16, .inl (fun _ => (0 : Int32))))] := hD
  refine lv_aload_n hx hb dX8_init_100 rfl (lv_at hl 0 rfl) ?_
  refine lv_sipush (v := 1000) hx hb dX8_init_101 (by decide) ?_
  refine va_newa (atype := .int) (ty := .int) (n := 1000) (N' := 1000) (a0 := (1000, .inl (fun _ => (0 : Int32)))) hx hb (hts (.arrayClass .int) (by decide +kernel)) rfl hK hP hD hS hA (fun _ => rfl) (by decide) (by decide) (by decide) (Nat.le_of_ble_eq_true rfl) (Nat.le_of_ble_eq_true rfl) dX8_init_104 (fun q_25 cA_26 H hK hP hD hS => ?_)
  have hK : va_K (dC, dI) vwCl [(cA_2, .int), (cA_4, .int), (cA_6, .int), (cA_8, .int), (cA_10, .int), (cA_12, .int), (cA_14, .int), (cA_16, .int), (cA_18, .int), (cA_20, .int), (cA_22, .int), (cA_24, .int), (cA_26, .int)] s := hK
  have hP : va_P (dC, dI) vwCl [(h0, .inr (8, [.int 0, .ref q_1, .ref q_3, .ref q_5, .ref q_7, .ref q_9, .ref q_11, .ref q_13, .ref q_15, .ref q_17, .ref q_19, .ref q_21, .ref q_23, .null, .null, .null, .null])), (q_1, .inl (cA_2, 16, .inl (fun _ => (0 : Int32)))), (q_3, .inl (cA_4, 67200, .inl (fun _ => (0 : Int32)))), (q_5, .inl (cA_6, 16, .inl (fun _ => (0 : Int32)))), (q_7, .inl (cA_8, 16, .inl (fun _ => (0 : Int32)))), (q_9, .inl (cA_10, 16, .inl (fun _ => (0 : Int32)))), (q_11, .inl (cA_12, 16, .inl (fun _ => (0 : Int32)))), (q_13, .inl (cA_14, 16, .inl (fun _ => (0 : Int32)))), (q_15, .inl (cA_16, 16, .inl (fun _ => (0 : Int32)))), (q_17, .inl (cA_18, 16, .inl (fun _ => (0 : Int32)))), (q_19, .inl (cA_20, 16, .inl (fun _ => (0 : Int32)))), (q_21, .inl (cA_22, 16, .inl (fun _ => (0 : Int32)))), (q_23, .inl (cA_24, 16, .inl (fun _ => (0 : Int32)))), (q_25, .inl (cA_26, 1000, .inl (fun _ => (0 : Int32))))] H := hP
  have hD : va_D A [(h0, .inr (8, [.int 0, .ref q_1, .ref q_3, .ref q_5, .ref q_7, .ref q_9, .ref q_11, .ref q_13, .ref q_15, .ref q_17, .ref q_19, .ref q_21, .ref q_23, .null, .null, .null, .null])), (q_1, .inl (cA_2, 16, .inl (fun _ => (0 : Int32)))), (q_3, .inl (cA_4, 67200, .inl (fun _ => (0 : Int32)))), (q_5, .inl (cA_6, 16, .inl (fun _ => (0 : Int32)))), (q_7, .inl (cA_8, 16, .inl (fun _ => (0 : Int32)))), (q_9, .inl (cA_10, 16, .inl (fun _ => (0 : Int32)))), (q_11, .inl (cA_12, 16, .inl (fun _ => (0 : Int32)))), (q_13, .inl (cA_14, 16, .inl (fun _ => (0 : Int32)))), (q_15, .inl (cA_16, 16, .inl (fun _ => (0 : Int32)))), (q_17, .inl (cA_18, 16, .inl (fun _ => (0 : Int32)))), (q_19, .inl (cA_20, 16, .inl (fun _ => (0 : Int32)))), (q_21, .inl (cA_22, 16, .inl (fun _ => (0 : Int32)))), (q_23, .inl (cA_24, 16, .inl (fun _ => (0 : Int32)))), (q_25, .inl (cA_26, 1000, .inl (fun _ => (0 : Int32))))] := hD
  refine W.widen (k := 13) (n := 68376) (Nat.le_of_ble_eq_true rfl) (Nat.le_of_ble_eq_true rfl) ?_
  refine va_putF (D := (dC, dI)) (ci := 8) (v := .ref q_25) (ty := .array .int) (C := RX8) (T := TX8) (N := 17) hx hb hts (by decide +kernel) tyX8 tyX8_ok nmX8 hown hK hP hD hS 0 rfl rfl 13 (by decide) (hts (.fieldLink RX8 47 "KeyAtlasModel" "keys" "[I") (by decide +kernel)) (fun _ h9 => h9) rfl hin rfl (by decide +kernel) rfl rfl (Nat.le_of_ble_eq_true rfl) dX8_init_106 (fun H locs hP hD hS => ?_)
  have hP : va_P (dC, dI) vwCl [(h0, .inr (8, [.int 0, .ref q_1, .ref q_3, .ref q_5, .ref q_7, .ref q_9, .ref q_11, .ref q_13, .ref q_15, .ref q_17, .ref q_19, .ref q_21, .ref q_23, .ref q_25, .null, .null, .null])), (q_1, .inl (cA_2, 16, .inl (fun _ => (0 : Int32)))), (q_3, .inl (cA_4, 67200, .inl (fun _ => (0 : Int32)))), (q_5, .inl (cA_6, 16, .inl (fun _ => (0 : Int32)))), (q_7, .inl (cA_8, 16, .inl (fun _ => (0 : Int32)))), (q_9, .inl (cA_10, 16, .inl (fun _ => (0 : Int32)))), (q_11, .inl (cA_12, 16, .inl (fun _ => (0 : Int32)))), (q_13, .inl (cA_14, 16, .inl (fun _ => (0 : Int32)))), (q_15, .inl (cA_16, 16, .inl (fun _ => (0 : Int32)))), (q_17, .inl (cA_18, 16, .inl (fun _ => (0 : Int32)))), (q_19, .inl (cA_20, 16, .inl (fun _ => (0 : Int32)))), (q_21, .inl (cA_22, 16, .inl (fun _ => (0 : Int32)))), (q_23, .inl (cA_24, 16, .inl (fun _ => (0 : Int32)))), (q_25, .inl (cA_26, 1000, .inl (fun _ => (0 : Int32))))] H := hP
  have hD : va_D A [(h0, .inr (8, [.int 0, .ref q_1, .ref q_3, .ref q_5, .ref q_7, .ref q_9, .ref q_11, .ref q_13, .ref q_15, .ref q_17, .ref q_19, .ref q_21, .ref q_23, .ref q_25, .null, .null, .null])), (q_1, .inl (cA_2, 16, .inl (fun _ => (0 : Int32)))), (q_3, .inl (cA_4, 67200, .inl (fun _ => (0 : Int32)))), (q_5, .inl (cA_6, 16, .inl (fun _ => (0 : Int32)))), (q_7, .inl (cA_8, 16, .inl (fun _ => (0 : Int32)))), (q_9, .inl (cA_10, 16, .inl (fun _ => (0 : Int32)))), (q_11, .inl (cA_12, 16, .inl (fun _ => (0 : Int32)))), (q_13, .inl (cA_14, 16, .inl (fun _ => (0 : Int32)))), (q_15, .inl (cA_16, 16, .inl (fun _ => (0 : Int32)))), (q_17, .inl (cA_18, 16, .inl (fun _ => (0 : Int32)))), (q_19, .inl (cA_20, 16, .inl (fun _ => (0 : Int32)))), (q_21, .inl (cA_22, 16, .inl (fun _ => (0 : Int32)))), (q_23, .inl (cA_24, 16, .inl (fun _ => (0 : Int32)))), (q_25, .inl (cA_26, 1000, .inl (fun _ => (0 : Int32))))] := hD
  refine lv_aload_n hx hb dX8_init_109 rfl (lv_at hl 0 rfl) ?_
  refine lv_sipush (v := 1000) hx hb dX8_init_110 (by decide) ?_
  refine va_newa (atype := .int) (ty := .int) (n := 1000) (N' := 1000) (a0 := (1000, .inl (fun _ => (0 : Int32)))) hx hb (hts (.arrayClass .int) (by decide +kernel)) rfl hK hP hD hS hA (fun _ => rfl) (by decide) (by decide) (by decide) (Nat.le_of_ble_eq_true rfl) (Nat.le_of_ble_eq_true rfl) dX8_init_113 (fun q_27 cA_28 H hK hP hD hS => ?_)
  have hK : va_K (dC, dI) vwCl [(cA_2, .int), (cA_4, .int), (cA_6, .int), (cA_8, .int), (cA_10, .int), (cA_12, .int), (cA_14, .int), (cA_16, .int), (cA_18, .int), (cA_20, .int), (cA_22, .int), (cA_24, .int), (cA_26, .int), (cA_28, .int)] s := hK
  have hP : va_P (dC, dI) vwCl [(h0, .inr (8, [.int 0, .ref q_1, .ref q_3, .ref q_5, .ref q_7, .ref q_9, .ref q_11, .ref q_13, .ref q_15, .ref q_17, .ref q_19, .ref q_21, .ref q_23, .ref q_25, .null, .null, .null])), (q_1, .inl (cA_2, 16, .inl (fun _ => (0 : Int32)))), (q_3, .inl (cA_4, 67200, .inl (fun _ => (0 : Int32)))), (q_5, .inl (cA_6, 16, .inl (fun _ => (0 : Int32)))), (q_7, .inl (cA_8, 16, .inl (fun _ => (0 : Int32)))), (q_9, .inl (cA_10, 16, .inl (fun _ => (0 : Int32)))), (q_11, .inl (cA_12, 16, .inl (fun _ => (0 : Int32)))), (q_13, .inl (cA_14, 16, .inl (fun _ => (0 : Int32)))), (q_15, .inl (cA_16, 16, .inl (fun _ => (0 : Int32)))), (q_17, .inl (cA_18, 16, .inl (fun _ => (0 : Int32)))), (q_19, .inl (cA_20, 16, .inl (fun _ => (0 : Int32)))), (q_21, .inl (cA_22, 16, .inl (fun _ => (0 : Int32)))), (q_23, .inl (cA_24, 16, .inl (fun _ => (0 : Int32)))), (q_25, .inl (cA_26, 1000, .inl (fun _ => (0 : Int32)))), (q_27, .inl (cA_28, 1000, .inl (fun _ => (0 : Int32))))] H := hP
  have hD : va_D A [(h0, .inr (8, [.int 0, .ref q_1, .ref q_3, .ref q_5, .ref q_7, .ref q_9, .ref q_11, .ref q_13, .ref q_15, .ref q_17, .ref q_19, .ref q_21, .ref q_23, .ref q_25, .null, .null, .null])), (q_1, .inl (cA_2, 16, .inl (fun _ => (0 : Int32)))), (q_3, .inl (cA_4, 67200, .inl (fun _ => (0 : Int32)))), (q_5, .inl (cA_6, 16, .inl (fun _ => (0 : Int32)))), (q_7, .inl (cA_8, 16, .inl (fun _ => (0 : Int32)))), (q_9, .inl (cA_10, 16, .inl (fun _ => (0 : Int32)))), (q_11, .inl (cA_12, 16, .inl (fun _ => (0 : Int32)))), (q_13, .inl (cA_14, 16, .inl (fun _ => (0 : Int32)))), (q_15, .inl (cA_16, 16, .inl (fun _ => (0 : Int32)))), (q_17, .inl (cA_18, 16, .inl (fun _ => (0 : Int32)))), (q_19, .inl (cA_20, 16, .inl (fun _ => (0 : Int32)))), (q_21, .inl (cA_22, 16, .inl (fun _ => (0 : Int32)))), (q_23, .inl (cA_24, 16, .inl (fun _ => (0 : Int32)))), (q_25, .inl (cA_26, 1000, .inl (fun _ => (0 : Int32)))), (q_27, .inl (cA_28, 1000, .inl (fun _ => (0 : Int32))))] := hD
  refine W.widen (k := 14) (n := 69376) (Nat.le_of_ble_eq_true rfl) (Nat.le_of_ble_eq_true rfl) ?_
  refine va_putF (D := (dC, dI)) (ci := 8) (v := .ref q_27) (ty := .array .int) (C := RX8) (T := TX8) (N := 17) hx hb hts (by decide +kernel) tyX8 tyX8_ok nmX8 hown hK hP hD hS 0 rfl rfl 14 (by decide) (hts (.fieldLink RX8 50 "KeyAtlasModel" "values" "[I") (by decide +kernel)) (fun _ h9 => h9) rfl hin rfl (by decide +kernel) rfl rfl (Nat.le_of_ble_eq_true rfl) dX8_init_115 (fun H locs hP hD hS => ?_)
  have hP : va_P (dC, dI) vwCl [(h0, .inr (8, [.int 0, .ref q_1, .ref q_3, .ref q_5, .ref q_7, .ref q_9, .ref q_11, .ref q_13, .ref q_15, .ref q_17, .ref q_19, .ref q_21, .ref q_23, .ref q_25, .ref q_27, .null, .null])), (q_1, .inl (cA_2, 16, .inl (fun _ => (0 : Int32)))), (q_3, .inl (cA_4, 67200, .inl (fun _ => (0 : Int32)))), (q_5, .inl (cA_6, 16, .inl (fun _ => (0 : Int32)))), (q_7, .inl (cA_8, 16, .inl (fun _ => (0 : Int32)))), (q_9, .inl (cA_10, 16, .inl (fun _ => (0 : Int32)))), (q_11, .inl (cA_12, 16, .inl (fun _ => (0 : Int32)))), (q_13, .inl (cA_14, 16, .inl (fun _ => (0 : Int32)))), (q_15, .inl (cA_16, 16, .inl (fun _ => (0 : Int32)))), (q_17, .inl (cA_18, 16, .inl (fun _ => (0 : Int32)))), (q_19, .inl (cA_20, 16, .inl (fun _ => (0 : Int32)))), (q_21, .inl (cA_22, 16, .inl (fun _ => (0 : Int32)))), (q_23, .inl (cA_24, 16, .inl (fun _ => (0 : Int32)))), (q_25, .inl (cA_26, 1000, .inl (fun _ => (0 : Int32)))), (q_27, .inl (cA_28, 1000, .inl (fun _ => (0 : Int32))))] H := hP
  have hD : va_D A [(h0, .inr (8, [.int 0, .ref q_1, .ref q_3, .ref q_5, .ref q_7, .ref q_9, .ref q_11, .ref q_13, .ref q_15, .ref q_17, .ref q_19, .ref q_21, .ref q_23, .ref q_25, .ref q_27, .null, .null])), (q_1, .inl (cA_2, 16, .inl (fun _ => (0 : Int32)))), (q_3, .inl (cA_4, 67200, .inl (fun _ => (0 : Int32)))), (q_5, .inl (cA_6, 16, .inl (fun _ => (0 : Int32)))), (q_7, .inl (cA_8, 16, .inl (fun _ => (0 : Int32)))), (q_9, .inl (cA_10, 16, .inl (fun _ => (0 : Int32)))), (q_11, .inl (cA_12, 16, .inl (fun _ => (0 : Int32)))), (q_13, .inl (cA_14, 16, .inl (fun _ => (0 : Int32)))), (q_15, .inl (cA_16, 16, .inl (fun _ => (0 : Int32)))), (q_17, .inl (cA_18, 16, .inl (fun _ => (0 : Int32)))), (q_19, .inl (cA_20, 16, .inl (fun _ => (0 : Int32)))), (q_21, .inl (cA_22, 16, .inl (fun _ => (0 : Int32)))), (q_23, .inl (cA_24, 16, .inl (fun _ => (0 : Int32)))), (q_25, .inl (cA_26, 1000, .inl (fun _ => (0 : Int32)))), (q_27, .inl (cA_28, 1000, .inl (fun _ => (0 : Int32))))] := hD
  refine lv_aload_n hx hb dX8_init_118 rfl (lv_at hl 0 rfl) ?_
  refine lv_sipush (v := 4096) hx hb dX8_init_119 (by decide) ?_
  refine va_newa (atype := .boolean) (ty := .boolean) (n := 4096) (N' := 4096) (a0 := (4096, .inl (fun _ => (0 : Int32)))) hx hb (hts (.arrayClass .boolean) (by decide +kernel)) rfl hK hP hD hS hA (fun _ => rfl) (by decide) (by decide) (by decide) (Nat.le_of_ble_eq_true rfl) (Nat.le_of_ble_eq_true rfl) dX8_init_122 (fun q_29 cA_30 H hK hP hD hS => ?_)
  have hK : va_K (dC, dI) vwCl [(cA_2, .int), (cA_4, .int), (cA_6, .int), (cA_8, .int), (cA_10, .int), (cA_12, .int), (cA_14, .int), (cA_16, .int), (cA_18, .int), (cA_20, .int), (cA_22, .int), (cA_24, .int), (cA_26, .int), (cA_28, .int), (cA_30, .boolean)] s := hK
  have hP : va_P (dC, dI) vwCl [(h0, .inr (8, [.int 0, .ref q_1, .ref q_3, .ref q_5, .ref q_7, .ref q_9, .ref q_11, .ref q_13, .ref q_15, .ref q_17, .ref q_19, .ref q_21, .ref q_23, .ref q_25, .ref q_27, .null, .null])), (q_1, .inl (cA_2, 16, .inl (fun _ => (0 : Int32)))), (q_3, .inl (cA_4, 67200, .inl (fun _ => (0 : Int32)))), (q_5, .inl (cA_6, 16, .inl (fun _ => (0 : Int32)))), (q_7, .inl (cA_8, 16, .inl (fun _ => (0 : Int32)))), (q_9, .inl (cA_10, 16, .inl (fun _ => (0 : Int32)))), (q_11, .inl (cA_12, 16, .inl (fun _ => (0 : Int32)))), (q_13, .inl (cA_14, 16, .inl (fun _ => (0 : Int32)))), (q_15, .inl (cA_16, 16, .inl (fun _ => (0 : Int32)))), (q_17, .inl (cA_18, 16, .inl (fun _ => (0 : Int32)))), (q_19, .inl (cA_20, 16, .inl (fun _ => (0 : Int32)))), (q_21, .inl (cA_22, 16, .inl (fun _ => (0 : Int32)))), (q_23, .inl (cA_24, 16, .inl (fun _ => (0 : Int32)))), (q_25, .inl (cA_26, 1000, .inl (fun _ => (0 : Int32)))), (q_27, .inl (cA_28, 1000, .inl (fun _ => (0 : Int32)))), (q_29, .inl (cA_30, 4096, .inl (fun _ => (0 : Int32))))] H := hP
  have hD : va_D A [(h0, .inr (8, [.int 0, .ref q_1, .ref q_3, .ref q_5, .ref q_7, .ref q_9, .ref q_11, .ref q_13, .ref q_15, .ref q_17, .ref q_19, .ref q_21, .ref q_23, .ref q_25, .ref q_27, .null, .null])), (q_1, .inl (cA_2, 16, .inl (fun _ => (0 : Int32)))), (q_3, .inl (cA_4, 67200, .inl (fun _ => (0 : Int32)))), (q_5, .inl (cA_6, 16, .inl (fun _ => (0 : Int32)))), (q_7, .inl (cA_8, 16, .inl (fun _ => (0 : Int32)))), (q_9, .inl (cA_10, 16, .inl (fun _ => (0 : Int32)))), (q_11, .inl (cA_12, 16, .inl (fun _ => (0 : Int32)))), (q_13, .inl (cA_14, 16, .inl (fun _ => (0 : Int32)))), (q_15, .inl (cA_16, 16, .inl (fun _ => (0 : Int32)))), (q_17, .inl (cA_18, 16, .inl (fun _ => (0 : Int32)))), (q_19, .inl (cA_20, 16, .inl (fun _ => (0 : Int32)))), (q_21, .inl (cA_22, 16, .inl (fun _ => (0 : Int32)))), (q_23, .inl (cA_24, 16, .inl (fun _ => (0 : Int32)))), (q_25, .inl (cA_26, 1000, .inl (fun _ => (0 : Int32)))), (q_27, .inl (cA_28, 1000, .inl (fun _ => (0 : Int32)))), (q_29, .inl (cA_30, 4096, .inl (fun _ => (0 : Int32))))] := hD
  refine W.widen (k := 15) (n := 73472) (Nat.le_of_ble_eq_true rfl) (Nat.le_of_ble_eq_true rfl) ?_
  refine va_putF (D := (dC, dI)) (ci := 8) (v := .ref q_29) (ty := .array .boolean) (C := RX8) (T := TX8) (N := 17) hx hb hts (by decide +kernel) tyX8 tyX8_ok nmX8 hown hK hP hD hS 0 rfl rfl 15 (by decide) (hts (.fieldLink RX8 53 "KeyAtlasModel" "bushy" "[Z") (by decide +kernel)) (fun _ h9 => h9) rfl hin rfl (by decide +kernel) rfl rfl (Nat.le_of_ble_eq_true rfl) dX8_init_124 (fun H locs hP hD hS => ?_)
  have hP : va_P (dC, dI) vwCl [(h0, .inr (8, [.int 0, .ref q_1, .ref q_3, .ref q_5, .ref q_7, .ref q_9, .ref q_11, .ref q_13, .ref q_15, .ref q_17, .ref q_19, .ref q_21, .ref q_23, .ref q_25, .ref q_27, .ref q_29, .null])), (q_1, .inl (cA_2, 16, .inl (fun _ => (0 : Int32)))), (q_3, .inl (cA_4, 67200, .inl (fun _ => (0 : Int32)))), (q_5, .inl (cA_6, 16, .inl (fun _ => (0 : Int32)))), (q_7, .inl (cA_8, 16, .inl (fun _ => (0 : Int32)))), (q_9, .inl (cA_10, 16, .inl (fun _ => (0 : Int32)))), (q_11, .inl (cA_12, 16, .inl (fun _ => (0 : Int32)))), (q_13, .inl (cA_14, 16, .inl (fun _ => (0 : Int32)))), (q_15, .inl (cA_16, 16, .inl (fun _ => (0 : Int32)))), (q_17, .inl (cA_18, 16, .inl (fun _ => (0 : Int32)))), (q_19, .inl (cA_20, 16, .inl (fun _ => (0 : Int32)))), (q_21, .inl (cA_22, 16, .inl (fun _ => (0 : Int32)))), (q_23, .inl (cA_24, 16, .inl (fun _ => (0 : Int32)))), (q_25, .inl (cA_26, 1000, .inl (fun _ => (0 : Int32)))), (q_27, .inl (cA_28, 1000, .inl (fun _ => (0 : Int32)))), (q_29, .inl (cA_30, 4096, .inl (fun _ => (0 : Int32))))] H := hP
  have hD : va_D A [(h0, .inr (8, [.int 0, .ref q_1, .ref q_3, .ref q_5, .ref q_7, .ref q_9, .ref q_11, .ref q_13, .ref q_15, .ref q_17, .ref q_19, .ref q_21, .ref q_23, .ref q_25, .ref q_27, .ref q_29, .null])), (q_1, .inl (cA_2, 16, .inl (fun _ => (0 : Int32)))), (q_3, .inl (cA_4, 67200, .inl (fun _ => (0 : Int32)))), (q_5, .inl (cA_6, 16, .inl (fun _ => (0 : Int32)))), (q_7, .inl (cA_8, 16, .inl (fun _ => (0 : Int32)))), (q_9, .inl (cA_10, 16, .inl (fun _ => (0 : Int32)))), (q_11, .inl (cA_12, 16, .inl (fun _ => (0 : Int32)))), (q_13, .inl (cA_14, 16, .inl (fun _ => (0 : Int32)))), (q_15, .inl (cA_16, 16, .inl (fun _ => (0 : Int32)))), (q_17, .inl (cA_18, 16, .inl (fun _ => (0 : Int32)))), (q_19, .inl (cA_20, 16, .inl (fun _ => (0 : Int32)))), (q_21, .inl (cA_22, 16, .inl (fun _ => (0 : Int32)))), (q_23, .inl (cA_24, 16, .inl (fun _ => (0 : Int32)))), (q_25, .inl (cA_26, 1000, .inl (fun _ => (0 : Int32)))), (q_27, .inl (cA_28, 1000, .inl (fun _ => (0 : Int32)))), (q_29, .inl (cA_30, 4096, .inl (fun _ => (0 : Int32))))] := hD
  refine lv_aload_n hx hb dX8_init_127 rfl (lv_at hl 0 rfl) ?_
  refine lv_bipush (v := 16) hx hb dX8_init_128 (by decide) ?_
  refine va_newa (atype := .boolean) (ty := .boolean) (n := 16) (N' := 16) (a0 := (16, .inl (fun _ => (0 : Int32)))) hx hb (hts (.arrayClass .boolean) (by decide +kernel)) rfl hK hP hD hS hA (fun _ => rfl) (by decide) (by decide) (by decide) (Nat.le_of_ble_eq_true rfl) (Nat.le_of_ble_eq_true rfl) dX8_init_130 (fun q_31 cA_32 H hK hP hD hS => ?_)
  have hK : va_K (dC, dI) vwCl [(cA_2, .int), (cA_4, .int), (cA_6, .int), (cA_8, .int), (cA_10, .int), (cA_12, .int), (cA_14, .int), (cA_16, .int), (cA_18, .int), (cA_20, .int), (cA_22, .int), (cA_24, .int), (cA_26, .int), (cA_28, .int), (cA_30, .boolean), (cA_32, .boolean)] s := hK
  have hP : va_P (dC, dI) vwCl [(h0, .inr (8, [.int 0, .ref q_1, .ref q_3, .ref q_5, .ref q_7, .ref q_9, .ref q_11, .ref q_13, .ref q_15, .ref q_17, .ref q_19, .ref q_21, .ref q_23, .ref q_25, .ref q_27, .ref q_29, .null])), (q_1, .inl (cA_2, 16, .inl (fun _ => (0 : Int32)))), (q_3, .inl (cA_4, 67200, .inl (fun _ => (0 : Int32)))), (q_5, .inl (cA_6, 16, .inl (fun _ => (0 : Int32)))), (q_7, .inl (cA_8, 16, .inl (fun _ => (0 : Int32)))), (q_9, .inl (cA_10, 16, .inl (fun _ => (0 : Int32)))), (q_11, .inl (cA_12, 16, .inl (fun _ => (0 : Int32)))), (q_13, .inl (cA_14, 16, .inl (fun _ => (0 : Int32)))), (q_15, .inl (cA_16, 16, .inl (fun _ => (0 : Int32)))), (q_17, .inl (cA_18, 16, .inl (fun _ => (0 : Int32)))), (q_19, .inl (cA_20, 16, .inl (fun _ => (0 : Int32)))), (q_21, .inl (cA_22, 16, .inl (fun _ => (0 : Int32)))), (q_23, .inl (cA_24, 16, .inl (fun _ => (0 : Int32)))), (q_25, .inl (cA_26, 1000, .inl (fun _ => (0 : Int32)))), (q_27, .inl (cA_28, 1000, .inl (fun _ => (0 : Int32)))), (q_29, .inl (cA_30, 4096, .inl (fun _ => (0 : Int32)))), (q_31, .inl (cA_32, 16, .inl (fun _ => (0 : Int32))))] H := hP
  have hD : va_D A [(h0, .inr (8, [.int 0, .ref q_1, .ref q_3, .ref q_5, .ref q_7, .ref q_9, .ref q_11, .ref q_13, .ref q_15, .ref q_17, .ref q_19, .ref q_21, .ref q_23, .ref q_25, .ref q_27, .ref q_29, .null])), (q_1, .inl (cA_2, 16, .inl (fun _ => (0 : Int32)))), (q_3, .inl (cA_4, 67200, .inl (fun _ => (0 : Int32)))), (q_5, .inl (cA_6, 16, .inl (fun _ => (0 : Int32)))), (q_7, .inl (cA_8, 16, .inl (fun _ => (0 : Int32)))), (q_9, .inl (cA_10, 16, .inl (fun _ => (0 : Int32)))), (q_11, .inl (cA_12, 16, .inl (fun _ => (0 : Int32)))), (q_13, .inl (cA_14, 16, .inl (fun _ => (0 : Int32)))), (q_15, .inl (cA_16, 16, .inl (fun _ => (0 : Int32)))), (q_17, .inl (cA_18, 16, .inl (fun _ => (0 : Int32)))), (q_19, .inl (cA_20, 16, .inl (fun _ => (0 : Int32)))), (q_21, .inl (cA_22, 16, .inl (fun _ => (0 : Int32)))), (q_23, .inl (cA_24, 16, .inl (fun _ => (0 : Int32)))), (q_25, .inl (cA_26, 1000, .inl (fun _ => (0 : Int32)))), (q_27, .inl (cA_28, 1000, .inl (fun _ => (0 : Int32)))), (q_29, .inl (cA_30, 4096, .inl (fun _ => (0 : Int32)))), (q_31, .inl (cA_32, 16, .inl (fun _ => (0 : Int32))))] := hD
  refine W.widen (k := 16) (n := 73488) (Nat.le_of_ble_eq_true rfl) (Nat.le_of_ble_eq_true rfl) ?_
  refine va_putF (D := (dC, dI)) (ci := 8) (v := .ref q_31) (ty := .array .boolean) (C := RX8) (T := TX8) (N := 17) hx hb hts (by decide +kernel) tyX8 tyX8_ok nmX8 hown hK hP hD hS 0 rfl rfl 16 (by decide) (hts (.fieldLink RX8 57 "KeyAtlasModel" "gone" "[Z") (by decide +kernel)) (fun _ h9 => h9) rfl hin rfl (by decide +kernel) rfl rfl (Nat.le_of_ble_eq_true rfl) dX8_init_132 (fun H locs hP hD hS => ?_)
  have hP : va_P (dC, dI) vwCl [(h0, .inr (8, [.int 0, .ref q_1, .ref q_3, .ref q_5, .ref q_7, .ref q_9, .ref q_11, .ref q_13, .ref q_15, .ref q_17, .ref q_19, .ref q_21, .ref q_23, .ref q_25, .ref q_27, .ref q_29, .ref q_31])), (q_1, .inl (cA_2, 16, .inl (fun _ => (0 : Int32)))), (q_3, .inl (cA_4, 67200, .inl (fun _ => (0 : Int32)))), (q_5, .inl (cA_6, 16, .inl (fun _ => (0 : Int32)))), (q_7, .inl (cA_8, 16, .inl (fun _ => (0 : Int32)))), (q_9, .inl (cA_10, 16, .inl (fun _ => (0 : Int32)))), (q_11, .inl (cA_12, 16, .inl (fun _ => (0 : Int32)))), (q_13, .inl (cA_14, 16, .inl (fun _ => (0 : Int32)))), (q_15, .inl (cA_16, 16, .inl (fun _ => (0 : Int32)))), (q_17, .inl (cA_18, 16, .inl (fun _ => (0 : Int32)))), (q_19, .inl (cA_20, 16, .inl (fun _ => (0 : Int32)))), (q_21, .inl (cA_22, 16, .inl (fun _ => (0 : Int32)))), (q_23, .inl (cA_24, 16, .inl (fun _ => (0 : Int32)))), (q_25, .inl (cA_26, 1000, .inl (fun _ => (0 : Int32)))), (q_27, .inl (cA_28, 1000, .inl (fun _ => (0 : Int32)))), (q_29, .inl (cA_30, 4096, .inl (fun _ => (0 : Int32)))), (q_31, .inl (cA_32, 16, .inl (fun _ => (0 : Int32))))] H := hP
  have hD : va_D A [(h0, .inr (8, [.int 0, .ref q_1, .ref q_3, .ref q_5, .ref q_7, .ref q_9, .ref q_11, .ref q_13, .ref q_15, .ref q_17, .ref q_19, .ref q_21, .ref q_23, .ref q_25, .ref q_27, .ref q_29, .ref q_31])), (q_1, .inl (cA_2, 16, .inl (fun _ => (0 : Int32)))), (q_3, .inl (cA_4, 67200, .inl (fun _ => (0 : Int32)))), (q_5, .inl (cA_6, 16, .inl (fun _ => (0 : Int32)))), (q_7, .inl (cA_8, 16, .inl (fun _ => (0 : Int32)))), (q_9, .inl (cA_10, 16, .inl (fun _ => (0 : Int32)))), (q_11, .inl (cA_12, 16, .inl (fun _ => (0 : Int32)))), (q_13, .inl (cA_14, 16, .inl (fun _ => (0 : Int32)))), (q_15, .inl (cA_16, 16, .inl (fun _ => (0 : Int32)))), (q_17, .inl (cA_18, 16, .inl (fun _ => (0 : Int32)))), (q_19, .inl (cA_20, 16, .inl (fun _ => (0 : Int32)))), (q_21, .inl (cA_22, 16, .inl (fun _ => (0 : Int32)))), (q_23, .inl (cA_24, 16, .inl (fun _ => (0 : Int32)))), (q_25, .inl (cA_26, 1000, .inl (fun _ => (0 : Int32)))), (q_27, .inl (cA_28, 1000, .inl (fun _ => (0 : Int32)))), (q_29, .inl (cA_30, 4096, .inl (fun _ => (0 : Int32)))), (q_31, .inl (cA_32, 16, .inl (fun _ => (0 : Int32))))] := hD
  have hP9 := hP.sub (ws' := [(h0, .inr (8, [.int 0, .ref q_1, .ref q_3, .ref q_5, .ref q_7, .ref q_9, .ref q_11, .ref q_13, .ref q_15, .ref q_17, .ref q_19, .ref q_21, .ref q_23, .ref q_25, .ref q_27, .ref q_29, .ref q_31])), (q_1, .inl (cA_2, 16, .inl (fun _ => (0 : Int32)))), (q_5, .inl (cA_6, 16, .inl (fun _ => (0 : Int32)))), (q_7, .inl (cA_8, 16, .inl (fun _ => (0 : Int32)))), (q_9, .inl (cA_10, 16, .inl (fun _ => (0 : Int32)))), (q_11, .inl (cA_12, 16, .inl (fun _ => (0 : Int32)))), (q_13, .inl (cA_14, 16, .inl (fun _ => (0 : Int32)))), (q_15, .inl (cA_16, 16, .inl (fun _ => (0 : Int32))))]) [0, 1, 3, 4, 5, 6, 7, 8] rfl
  have hD9 := hD.sub (ws' := [(h0, .inr (8, [.int 0, .ref q_1, .ref q_3, .ref q_5, .ref q_7, .ref q_9, .ref q_11, .ref q_13, .ref q_15, .ref q_17, .ref q_19, .ref q_21, .ref q_23, .ref q_25, .ref q_27, .ref q_29, .ref q_31])), (q_1, .inl (cA_2, 16, .inl (fun _ => (0 : Int32)))), (q_5, .inl (cA_6, 16, .inl (fun _ => (0 : Int32)))), (q_7, .inl (cA_8, 16, .inl (fun _ => (0 : Int32)))), (q_9, .inl (cA_10, 16, .inl (fun _ => (0 : Int32)))), (q_11, .inl (cA_12, 16, .inl (fun _ => (0 : Int32)))), (q_13, .inl (cA_14, 16, .inl (fun _ => (0 : Int32)))), (q_15, .inl (cA_16, 16, .inl (fun _ => (0 : Int32))))]) [0, 1, 3, 4, 5, 6, 7, 8] (by decide) rfl
  have hK9 := hK.sub (tys' := [(cA_2, .int), (cA_6, .int), (cA_8, .int), (cA_10, .int), (cA_12, .int), (cA_14, .int), (cA_16, .int)]) [0, 2, 3, 4, 5, 6, 7] rfl
  refine W.widen (k := 16) (n := 73488) (Nat.le_of_ble_eq_true rfl) (Nat.le_of_ble_eq_true rfl) ?_
  exact W.vret hx hb hr (fun t ht hW => ⟨⟨(), rfl, trivial, q_1, cA_2, q_5, cA_6, q_7, cA_8, q_9, cA_10, q_11, cA_12, q_13, cA_14, q_15, cA_16, .ref q_3, .ref q_17, .ref q_19, .ref q_21, .ref q_23, .ref q_25, .ref q_27, .ref q_29, .ref q_31, by rw [ht]; exact hP9, va_K.moved hW.alike hK9, hD9⟩, hS.F ht⟩) hS.2.2 dX8_init_135
end
section
set_option maxHeartbeats 4000000 in
set_option maxRecDepth 100000 in
/-- place 0 is taken -/
theorem c_X8_born (l : Launch) (dC : Nat → ClassId) (dI : Nat → Nat → Nat) (sz : Nat) (h0 : Nat) (th : Int32) (q1 : Nat) (q3 : Nat) (q6 : Nat) (q7 : Nat) (q8 : Nat) (c1 : ClassId) (c3 : ClassId) (c6 : ClassId) (c7 : ClassId) (c8 : ClassId) (v2 : Value) (v4 : Value) (v5 : Value) (v9 : Value) (v10 : Value) (v11 : Value) (v12 : Value) (v13 : Value) (v14 : Value) (v15 : Value) (v16 : Value) (p1 : Int32) : Met l yX8_born wsX8_born ({ frames := 0, cells := 0, slots := 0, locals := 0 }) (va_Pc [.ref h0, .int 0, .int p1] (pk_Pre (dC, dI) [(h0, .inr (8, [.int th, .ref q1, v2, .ref q3, v4, v5, .ref q6, .ref q7, .ref q8, v9, v10, v11, v12, v13, v14, v15, v16])), (q1, .inl (c1, 16, .inl (fun _ => (0 : Int32)))), (q3, .inl (c3, 16, .inl (fun _ => (0 : Int32)))), (q6, .inl (c6, 16, .inl (fun _ => (0 : Int32)))), (q7, .inl (c7, 16, .inl (fun _ => (0 : Int32)))), (q8, .inl (c8, 16, .inl (fun _ => (0 : Int32))))] [(c1, .int), (c3, .int), (c6, .int), (c7, .int), (c8, .int)] sz)) (va_Qi (fun (r : Int32) (_ : Unit) => r = 0) (fun (_ : Unit) (t : State) => va_P (dC, dI) vwCl [(h0, .inr (8, [.int th, .ref q1, v2, .ref q3, v4, v5, .ref q6, .ref q7, .ref q8, v9, v10, v11, v12, v13, v14, v15, v16]))] t.heap ∧ va_K (dC, dI) vwCl [] t ∧ va_D (va_A [(h0, .inr (8, [.int th, .ref q1, v2, .ref q3, v4, v5, .ref q6, .ref q7, .ref q8, v9, v10, v11, v12, v13, v14, v15, v16])), (q1, .inl (c1, 16, .inl (fun _ => (0 : Int32)))), (q3, .inl (c3, 16, .inl (fun _ => (0 : Int32)))), (q6, .inl (c6, 16, .inl (fun _ => (0 : Int32)))), (q7, .inl (c7, 16, .inl (fun _ => (0 : Int32)))), (q8, .inl (c8, 16, .inl (fun _ => (0 : Int32))))] sz) [(h0, .inr (8, [.int th, .ref q1, v2, .ref q3, v4, v5, .ref q6, .ref q7, .ref q8, v9, v10, v11, v12, v13, v14, v15, v16]))]) (va_A [(h0, .inr (8, [.int th, .ref q1, v2, .ref q3, v4, v5, .ref q6, .ref q7, .ref q8, v9, v10, v11, v12, v13, v14, v15, v16])), (q1, .inl (c1, 16, .inl (fun _ => (0 : Int32)))), (q3, .inl (c3, 16, .inl (fun _ => (0 : Int32)))), (q6, .inl (c6, 16, .inl (fun _ => (0 : Int32)))), (q7, .inl (c7, 16, .inl (fun _ => (0 : Int32)))), (q8, .inl (c8, 16, .inl (fun _ => (0 : Int32))))] sz)) 0 0 (va_A [(h0, .inr (8, [.int th, .ref q1, v2, .ref q3, v4, v5, .ref q6, .ref q7, .ref q8, v9, v10, v11, v12, v13, v14, v15, v16])), (q1, .inl (c1, 16, .inl (fun _ => (0 : Int32)))), (q3, .inl (c3, 16, .inl (fun _ => (0 : Int32)))), (q6, .inl (c6, 16, .inl (fun _ => (0 : Int32)))), (q7, .inl (c7, 16, .inl (fun _ => (0 : Int32)))), (q8, .inl (c8, 16, .inl (fun _ => (0 : Int32))))] sz) := by
  refine Met.ofW (cc := cX8_born) (maxL := 3) (ret := (some .int)) (by decide) rfl ?_
  intro p e s m args below meth c s₁ B hml hv
  obtain ⟨rfl, hsz, hP, hK, hD0⟩ := hv
  have hx := B.exec
  have hb := B.bytes
  have hr := B.returns
  have hts := atoms_spec (ws := wsX8_born) B.pre
  have hown : s.vm.findClass RX8 = some m.cls := findClass_of_methodNamed B.named
  have hlocks := B.notSynchronized
  subst hsz
  have hD := hD0.self (sz := s.heap.size)
  generalize hAe : va_A [(h0, .inr (8, [.int th, .ref q1, v2, .ref q3, v4, v5, .ref q6, .ref q7, .ref q8, v9, v10, v11, v12, v13, v14, v15, v16])), (q1, .inl (c1, 16, .inl (fun _ => (0 : Int32)))), (q3, .inl (c3, 16, .inl (fun _ => (0 : Int32)))), (q6, .inl (c6, 16, .inl (fun _ => (0 : Int32)))), (q7, .inl (c7, 16, .inl (fun _ => (0 : Int32)))), (q8, .inl (c8, 16, .inl (fun _ => (0 : Int32))))] s.heap.size = A at hD ⊢
  have hA : ∀ q : Nat, s.heap.size ≤ q → A q := fun q h => by rw [← hAe]; exact Or.inr h
  have hS : va_S A s.heap s.heap [] := va_S.rf
  have hP : va_P (dC, dI) vwCl [(h0, .inr (8, [.int th, .ref q1, v2, .ref q3, v4, v5, .ref q6, .ref q7, .ref q8, v9, v10, v11, v12, v13, v14, v15, v16])), (q1, .inl (c1, 16, .inl (fun _ => (0 : Int32)))), (q3, .inl (c3, 16, .inl (fun _ => (0 : Int32)))), (q6, .inl (c6, 16, .inl (fun _ => (0 : Int32)))), (q7, .inl (c7, 16, .inl (fun _ => (0 : Int32)))), (q8, .inl (c8, 16, .inl (fun _ => (0 : Int32))))] s.heap := hP
  have hl := lv_entry ([.ref h0, .int 0, .int p1]) (n := 3) (Nat.le_of_ble_eq_true rfl)
  rw [lg_entry_eq]
  generalize (lg_sl ([.ref h0, .int 0, .int p1]) ++ List.replicate (3 - (lg_sl ([.ref h0, .int 0, .int p1])).length) Slot.unset).toArray = ls at hl ⊢
  have hl : lv_has ls 3 [(0, .ref h0), (1, .int 0), (2, .int p1)] := hl
  refine lv_aload_n hx hb dX8_born_0 rfl (lv_at hl 0 rfl) ?_
  refine va_get (D := (dC, dI)) (ci := 8) (v := .ref q1) (C := RX8) (T := TX8) (N := 17) hx hb hts (by decide +kernel) hown hK hP 0 rfl rfl 1 (by decide) (hts (.fieldLink RX8 7 "KeyAtlasModel" "kind" "[I") (by decide +kernel)) (fun _ h9 => h9) rfl dX8_born_1 ?_
  refine lv_iload_n hx hb dX8_born_4 rfl (lv_at hl 1 rfl) ?_
  refine lv_iload_n hx hb dX8_born_5 rfl (lv_at hl 2 rfl) ?_
  refine va_iast (i := 0) hx hb hK hP hD hS 1 0 rfl rfl (by unfold vp_in; decide) dX8_born_6 (fun H locs hP hD hS => ?_)
  have hP : va_P (dC, dI) vwCl [(h0, .inr (8, [.int th, .ref q1, v2, .ref q3, v4, v5, .ref q6, .ref q7, .ref q8, v9, v10, v11, v12, v13, v14, v15, v16])), (q1, .inl (c1, 16, .inl (upd (fun _ => (0 : Int32)) (0 : Int32).toNatClampNeg p1))), (q3, .inl (c3, 16, .inl (fun _ => (0 : Int32)))), (q6, .inl (c6, 16, .inl (fun _ => (0 : Int32)))), (q7, .inl (c7, 16, .inl (fun _ => (0 : Int32)))), (q8, .inl (c8, 16, .inl (fun _ => (0 : Int32))))] H := hP
  have hD : va_D A [(h0, .inr (8, [.int th, .ref q1, v2, .ref q3, v4, v5, .ref q6, .ref q7, .ref q8, v9, v10, v11, v12, v13, v14, v15, v16])), (q1, .inl (c1, 16, .inl (upd (fun _ => (0 : Int32)) (0 : Int32).toNatClampNeg p1))), (q3, .inl (c3, 16, .inl (fun _ => (0 : Int32)))), (q6, .inl (c6, 16, .inl (fun _ => (0 : Int32)))), (q7, .inl (c7, 16, .inl (fun _ => (0 : Int32)))), (q8, .inl (c8, 16, .inl (fun _ => (0 : Int32))))] := hD
  refine lv_aload_n hx hb dX8_born_7 rfl (lv_at hl 0 rfl) ?_
  refine va_get (D := (dC, dI)) (ci := 8) (v := .ref q3) (C := RX8) (T := TX8) (N := 17) hx hb hts (by decide +kernel) hown hK hP 0 rfl rfl 3 (by decide) (hts (.fieldLink RX8 17 "KeyAtlasModel" "size" "[I") (by decide +kernel)) (fun _ h9 => h9) rfl dX8_born_8 ?_
  refine lv_iload_n hx hb dX8_born_11 rfl (lv_at hl 1 rfl) ?_
  refine lv_iconst (v := 0) hx hb dX8_born_12 (by decide) ?_
  refine va_iast (i := 0) hx hb hK hP hD hS 2 1 rfl rfl (by unfold vp_in; decide) dX8_born_13 (fun H locs hP hD hS => ?_)
  have hP : va_P (dC, dI) vwCl [(h0, .inr (8, [.int th, .ref q1, v2, .ref q3, v4, v5, .ref q6, .ref q7, .ref q8, v9, v10, v11, v12, v13, v14, v15, v16])), (q1, .inl (c1, 16, .inl (upd (fun _ => (0 : Int32)) (0 : Int32).toNatClampNeg p1))), (q3, .inl (c3, 16, .inl (upd (fun _ => (0 : Int32)) (0 : Int32).toNatClampNeg 0))), (q6, .inl (c6, 16, .inl (fun _ => (0 : Int32)))), (q7, .inl (c7, 16, .inl (fun _ => (0 : Int32)))), (q8, .inl (c8, 16, .inl (fun _ => (0 : Int32))))] H := hP
  have hD : va_D A [(h0, .inr (8, [.int th, .ref q1, v2, .ref q3, v4, v5, .ref q6, .ref q7, .ref q8, v9, v10, v11, v12, v13, v14, v15, v16])), (q1, .inl (c1, 16, .inl (upd (fun _ => (0 : Int32)) (0 : Int32).toNatClampNeg p1))), (q3, .inl (c3, 16, .inl (upd (fun _ => (0 : Int32)) (0 : Int32).toNatClampNeg 0))), (q6, .inl (c6, 16, .inl (fun _ => (0 : Int32)))), (q7, .inl (c7, 16, .inl (fun _ => (0 : Int32)))), (q8, .inl (c8, 16, .inl (fun _ => (0 : Int32))))] := hD
  refine lv_aload_n hx hb dX8_born_14 rfl (lv_at hl 0 rfl) ?_
  refine va_get (D := (dC, dI)) (ci := 8) (v := .ref q6) (C := RX8) (T := TX8) (N := 17) hx hb hts (by decide +kernel) hown hK hP 0 rfl rfl 6 (by decide) (hts (.fieldLink RX8 26 "KeyAtlasModel" "table" "[I") (by decide +kernel)) (fun _ h9 => h9) rfl dX8_born_15 ?_
  refine lv_iload_n hx hb dX8_born_18 rfl (lv_at hl 1 rfl) ?_
  refine lv_iconst (v := 0) hx hb dX8_born_19 (by decide) ?_
  refine va_iast (i := 0) hx hb hK hP hD hS 3 2 rfl rfl (by unfold vp_in; decide) dX8_born_20 (fun H locs hP hD hS => ?_)
  have hP : va_P (dC, dI) vwCl [(h0, .inr (8, [.int th, .ref q1, v2, .ref q3, v4, v5, .ref q6, .ref q7, .ref q8, v9, v10, v11, v12, v13, v14, v15, v16])), (q1, .inl (c1, 16, .inl (upd (fun _ => (0 : Int32)) (0 : Int32).toNatClampNeg p1))), (q3, .inl (c3, 16, .inl (upd (fun _ => (0 : Int32)) (0 : Int32).toNatClampNeg 0))), (q6, .inl (c6, 16, .inl (upd (fun _ => (0 : Int32)) (0 : Int32).toNatClampNeg 0))), (q7, .inl (c7, 16, .inl (fun _ => (0 : Int32)))), (q8, .inl (c8, 16, .inl (fun _ => (0 : Int32))))] H := hP
  have hD : va_D A [(h0, .inr (8, [.int th, .ref q1, v2, .ref q3, v4, v5, .ref q6, .ref q7, .ref q8, v9, v10, v11, v12, v13, v14, v15, v16])), (q1, .inl (c1, 16, .inl (upd (fun _ => (0 : Int32)) (0 : Int32).toNatClampNeg p1))), (q3, .inl (c3, 16, .inl (upd (fun _ => (0 : Int32)) (0 : Int32).toNatClampNeg 0))), (q6, .inl (c6, 16, .inl (upd (fun _ => (0 : Int32)) (0 : Int32).toNatClampNeg 0))), (q7, .inl (c7, 16, .inl (fun _ => (0 : Int32)))), (q8, .inl (c8, 16, .inl (fun _ => (0 : Int32))))] := hD
  refine lv_aload_n hx hb dX8_born_21 rfl (lv_at hl 0 rfl) ?_
  refine va_get (D := (dC, dI)) (ci := 8) (v := .ref q7) (C := RX8) (T := TX8) (N := 17) hx hb hts (by decide +kernel) hown hK hP 0 rfl rfl 7 (by decide) (hts (.fieldLink RX8 29 "KeyAtlasModel" "changes" "[I") (by decide +kernel)) (fun _ h9 => h9) rfl dX8_born_22 ?_
  refine lv_iload_n hx hb dX8_born_25 rfl (lv_at hl 1 rfl) ?_
  refine lv_iconst (v := 0) hx hb dX8_born_26 (by decide) ?_
  refine va_iast (i := 0) hx hb hK hP hD hS 4 3 rfl rfl (by unfold vp_in; decide) dX8_born_27 (fun H locs hP hD hS => ?_)
  have hP : va_P (dC, dI) vwCl [(h0, .inr (8, [.int th, .ref q1, v2, .ref q3, v4, v5, .ref q6, .ref q7, .ref q8, v9, v10, v11, v12, v13, v14, v15, v16])), (q1, .inl (c1, 16, .inl (upd (fun _ => (0 : Int32)) (0 : Int32).toNatClampNeg p1))), (q3, .inl (c3, 16, .inl (upd (fun _ => (0 : Int32)) (0 : Int32).toNatClampNeg 0))), (q6, .inl (c6, 16, .inl (upd (fun _ => (0 : Int32)) (0 : Int32).toNatClampNeg 0))), (q7, .inl (c7, 16, .inl (upd (fun _ => (0 : Int32)) (0 : Int32).toNatClampNeg 0))), (q8, .inl (c8, 16, .inl (fun _ => (0 : Int32))))] H := hP
  have hD : va_D A [(h0, .inr (8, [.int th, .ref q1, v2, .ref q3, v4, v5, .ref q6, .ref q7, .ref q8, v9, v10, v11, v12, v13, v14, v15, v16])), (q1, .inl (c1, 16, .inl (upd (fun _ => (0 : Int32)) (0 : Int32).toNatClampNeg p1))), (q3, .inl (c3, 16, .inl (upd (fun _ => (0 : Int32)) (0 : Int32).toNatClampNeg 0))), (q6, .inl (c6, 16, .inl (upd (fun _ => (0 : Int32)) (0 : Int32).toNatClampNeg 0))), (q7, .inl (c7, 16, .inl (upd (fun _ => (0 : Int32)) (0 : Int32).toNatClampNeg 0))), (q8, .inl (c8, 16, .inl (fun _ => (0 : Int32))))] := hD
  refine lv_aload_n hx hb dX8_born_28 rfl (lv_at hl 0 rfl) ?_
  refine va_get (D := (dC, dI)) (ci := 8) (v := .ref q8) (C := RX8) (T := TX8) (N := 17) hx hb hts (by decide +kernel) hown hK hP 0 rfl rfl 8 (by decide) (hts (.fieldLink RX8 32 "KeyAtlasModel" "parent" "[I") (by decide +kernel)) (fun _ h9 => h9) rfl dX8_born_29 ?_
  refine lv_iload_n hx hb dX8_born_32 rfl (lv_at hl 1 rfl) ?_
  refine lv_iconst (v := (-1)) hx hb dX8_born_33 (by decide) ?_
  refine va_iast (i := 0) hx hb hK hP hD hS 5 4 rfl rfl (by unfold vp_in; decide) dX8_born_34 (fun H locs hP hD hS => ?_)
  have hP : va_P (dC, dI) vwCl [(h0, .inr (8, [.int th, .ref q1, v2, .ref q3, v4, v5, .ref q6, .ref q7, .ref q8, v9, v10, v11, v12, v13, v14, v15, v16])), (q1, .inl (c1, 16, .inl (upd (fun _ => (0 : Int32)) (0 : Int32).toNatClampNeg p1))), (q3, .inl (c3, 16, .inl (upd (fun _ => (0 : Int32)) (0 : Int32).toNatClampNeg 0))), (q6, .inl (c6, 16, .inl (upd (fun _ => (0 : Int32)) (0 : Int32).toNatClampNeg 0))), (q7, .inl (c7, 16, .inl (upd (fun _ => (0 : Int32)) (0 : Int32).toNatClampNeg 0))), (q8, .inl (c8, 16, .inl (upd (fun _ => (0 : Int32)) (0 : Int32).toNatClampNeg (-1))))] H := hP
  have hD : va_D A [(h0, .inr (8, [.int th, .ref q1, v2, .ref q3, v4, v5, .ref q6, .ref q7, .ref q8, v9, v10, v11, v12, v13, v14, v15, v16])), (q1, .inl (c1, 16, .inl (upd (fun _ => (0 : Int32)) (0 : Int32).toNatClampNeg p1))), (q3, .inl (c3, 16, .inl (upd (fun _ => (0 : Int32)) (0 : Int32).toNatClampNeg 0))), (q6, .inl (c6, 16, .inl (upd (fun _ => (0 : Int32)) (0 : Int32).toNatClampNeg 0))), (q7, .inl (c7, 16, .inl (upd (fun _ => (0 : Int32)) (0 : Int32).toNatClampNeg 0))), (q8, .inl (c8, 16, .inl (upd (fun _ => (0 : Int32)) (0 : Int32).toNatClampNeg (-1))))] := hD
  refine lv_iload_n hx hb dX8_born_35 rfl (lv_at hl 1 rfl) ?_
  have hP9 := hP.sub (ws' := [(h0, .inr (8, [.int th, .ref q1, v2, .ref q3, v4, v5, .ref q6, .ref q7, .ref q8, v9, v10, v11, v12, v13, v14, v15, v16]))]) [0] rfl
  have hD9 := hD.sub (ws' := [(h0, .inr (8, [.int th, .ref q1, v2, .ref q3, v4, v5, .ref q6, .ref q7, .ref q8, v9, v10, v11, v12, v13, v14, v15, v16]))]) [0] (by decide) rfl
  have hK9 := hK.sub (tys' := []) [] rfl
  refine W.widen (k := 0) (n := 0) (Nat.le_of_ble_eq_true rfl) (Nat.le_of_ble_eq_true rfl) ?_
  exact W.iret (v := 0) hx hb hr (fun t ht hW => ⟨⟨0, (), rfl, rfl, by rw [ht]; exact hP9, va_K.moved hW.alike hK9, hD9⟩, hS.F ht⟩) hS.2.2 dX8_born_36
set_option maxHeartbeats 4000000 in
set_option maxRecDepth 100000 in
/-- make of the reference, fresh -/
theorem c_X8_make (l : Launch) (dC : Nat → ClassId) (dI : Nat → Nat → Nat) (sz : Nat) (h0 : Nat) (th : Int32) (q1 : Nat) (q3 : Nat) (q4 : Nat) (q5 : Nat) (q6 : Nat) (q7 : Nat) (q8 : Nat) (c1 : ClassId) (c3 : ClassId) (c4 : ClassId) (c5 : ClassId) (c6 : ClassId) (c7 : ClassId) (c8 : ClassId) (v2 : Value) (v9 : Value) (v10 : Value) (v11 : Value) (v12 : Value) (v13 : Value) (v14 : Value) (v15 : Value) (v16 : Value) (p0 : Int32) (p1 : Int32) (p2 : Int32) : Met l yX8_make wsX8_make ({ frames := 1, cells := 0, slots := 0, locals := 40 }) (va_Pc [.ref h0, .int p0, .int p1, .int p2] (pk_Pre (dC, dI) [(h0, .inr (8, [.int th, .ref q1, v2, .ref q3, .ref q4, .ref q5, .ref q6, .ref q7, .ref q8, v9, v10, v11, v12, v13, v14, v15, v16])), (q1, .inl (c1, 16, .inl (fun _ => (0 : Int32)))), (q3, .inl (c3, 16, .inl (fun _ => (0 : Int32)))), (q4, .inl (c4, 16, .inl (fun _ => (0 : Int32)))), (q5, .inl (c5, 16, .inl (fun _ => (0 : Int32)))), (q6, .inl (c6, 16, .inl (fun _ => (0 : Int32)))), (q7, .inl (c7, 16, .inl (fun _ => (0 : Int32)))), (q8, .inl (c8, 16, .inl (fun _ => (0 : Int32))))] [(c1, .int), (c3, .int), (c4, .int), (c5, .int), (c6, .int), (c7, .int), (c8, .int)] sz)) (va_Qi (fun (r : Int32) (u : Int32) => mkIs p0 p1 p2 u.toInt ∧ (u.toInt = 0 → r = 0)) (fun (u : Int32) (t : State) => va_P (dC, dI) vwCl [(h0, .inr (8, [.int u, .ref q1, v2, .ref q3, .ref q4, .ref q5, .ref q6, .ref q7, .ref q8, v9, v10, v11, v12, v13, v14, v15, v16]))] t.heap ∧ va_K (dC, dI) vwCl [] t ∧ va_D (va_A [(h0, .inr (8, [.int th, .ref q1, v2, .ref q3, .ref q4, .ref q5, .ref q6, .ref q7, .ref q8, v9, v10, v11, v12, v13, v14, v15, v16])), (q1, .inl (c1, 16, .inl (fun _ => (0 : Int32)))), (q3, .inl (c3, 16, .inl (fun _ => (0 : Int32)))), (q4, .inl (c4, 16, .inl (fun _ => (0 : Int32)))), (q5, .inl (c5, 16, .inl (fun _ => (0 : Int32)))), (q6, .inl (c6, 16, .inl (fun _ => (0 : Int32)))), (q7, .inl (c7, 16, .inl (fun _ => (0 : Int32)))), (q8, .inl (c8, 16, .inl (fun _ => (0 : Int32))))] sz) [(h0, .inr (8, [.int u, .ref q1, v2, .ref q3, .ref q4, .ref q5, .ref q6, .ref q7, .ref q8, v9, v10, v11, v12, v13, v14, v15, v16]))]) (va_A [(h0, .inr (8, [.int th, .ref q1, v2, .ref q3, .ref q4, .ref q5, .ref q6, .ref q7, .ref q8, v9, v10, v11, v12, v13, v14, v15, v16])), (q1, .inl (c1, 16, .inl (fun _ => (0 : Int32)))), (q3, .inl (c3, 16, .inl (fun _ => (0 : Int32)))), (q4, .inl (c4, 16, .inl (fun _ => (0 : Int32)))), (q5, .inl (c5, 16, .inl (fun _ => (0 : Int32)))), (q6, .inl (c6, 16, .inl (fun _ => (0 : Int32)))), (q7, .inl (c7, 16, .inl (fun _ => (0 : Int32)))), (q8, .inl (c8, 16, .inl (fun _ => (0 : Int32))))] sz)) 0 0 (va_A [(h0, .inr (8, [.int th, .ref q1, v2, .ref q3, .ref q4, .ref q5, .ref q6, .ref q7, .ref q8, v9, v10, v11, v12, v13, v14, v15, v16])), (q1, .inl (c1, 16, .inl (fun _ => (0 : Int32)))), (q3, .inl (c3, 16, .inl (fun _ => (0 : Int32)))), (q4, .inl (c4, 16, .inl (fun _ => (0 : Int32)))), (q5, .inl (c5, 16, .inl (fun _ => (0 : Int32)))), (q6, .inl (c6, 16, .inl (fun _ => (0 : Int32)))), (q7, .inl (c7, 16, .inl (fun _ => (0 : Int32)))), (q8, .inl (c8, 16, .inl (fun _ => (0 : Int32))))] sz) := by
  refine Met.ofW (cc := cX8_make) (maxL := 6) (ret := (some .int)) (by decide) rfl ?_
  intro p e s m args below meth c s₁ B hml hv
  obtain ⟨rfl, hsz, hP, hK, hD0⟩ := hv
  have hx := B.exec
  have hb := B.bytes
  have hr := B.returns
  have hts := atoms_spec (ws := wsX8_make) B.pre
  have hown : s.vm.findClass RX8 = some m.cls := findClass_of_methodNamed B.named
  have hlocks := B.notSynchronized
  subst hsz
  have hD := hD0.self (sz := s.heap.size)
  generalize hAe : va_A [(h0, .inr (8, [.int th, .ref q1, v2, .ref q3, .ref q4, .ref q5, .ref q6, .ref q7, .ref q8, v9, v10, v11, v12, v13, v14, v15, v16])), (q1, .inl (c1, 16, .inl (fun _ => (0 : Int32)))), (q3, .inl (c3, 16, .inl (fun _ => (0 : Int32)))), (q4, .inl (c4, 16, .inl (fun _ => (0 : Int32)))), (q5, .inl (c5, 16, .inl (fun _ => (0 : Int32)))), (q6, .inl (c6, 16, .inl (fun _ => (0 : Int32)))), (q7, .inl (c7, 16, .inl (fun _ => (0 : Int32)))), (q8, .inl (c8, 16, .inl (fun _ => (0 : Int32))))] s.heap.size = A at hD ⊢
  have hA : ∀ q : Nat, s.heap.size ≤ q → A q := fun q h => by rw [← hAe]; exact Or.inr h
  have hS : va_S A s.heap s.heap [] := va_S.rf
  have hP : va_P (dC, dI) vwCl [(h0, .inr (8, [.int th, .ref q1, v2, .ref q3, .ref q4, .ref q5, .ref q6, .ref q7, .ref q8, v9, v10, v11, v12, v13, v14, v15, v16])), (q1, .inl (c1, 16, .inl (fun _ => (0 : Int32)))), (q3, .inl (c3, 16, .inl (fun _ => (0 : Int32)))), (q4, .inl (c4, 16, .inl (fun _ => (0 : Int32)))), (q5, .inl (c5, 16, .inl (fun _ => (0 : Int32)))), (q6, .inl (c6, 16, .inl (fun _ => (0 : Int32)))), (q7, .inl (c7, 16, .inl (fun _ => (0 : Int32)))), (q8, .inl (c8, 16, .inl (fun _ => (0 : Int32))))] s.heap := hP
  have hl := lv_entry ([.ref h0, .int p0, .int p1, .int p2]) (n := 6) (Nat.le_of_ble_eq_true rfl)
  rw [lg_entry_eq]
  generalize (lg_sl ([.ref h0, .int p0, .int p1, .int p2]) ++ List.replicate (6 - (lg_sl ([.ref h0, .int p0, .int p1, .int p2])).length) Slot.unset).toArray = ls at hl ⊢
  have hl : lv_has ls 6 [(0, .ref h0), (1, .int p0), (2, .int p1), (3, .int p2)] := hl
  refine lv_iload_n hx hb dX8_make_0 rfl (lv_at hl 1 rfl) ?_
  refine lv_iconst (v := 0) hx hb dX8_make_1 (by decide) ?_
  refine lv_iconst (v := 2) hx hb dX8_make_2 (by decide) ?_
  have hPc := hP.sub (ws' := []) [] rfl
  have hDc := hD.sub (ws' := []) [] (by decide) rfl
  have hKc := hK.sub (tys' := []) [] rfl
  have hFc := va_free (wc := []) hD hS hA [] rfl
  refine va_calli (va_runS (As := [.int p0, .int 0, .int 2]) (rest := []) ⟨hx, hb, hml, hown, hts⟩ (c_X8_in l  dC dI s.heap.size p0 0 2 0 2 (by decide) (by decide)) (va_cwS 3 hts gX8_make_X8_in rfl rfl rfl (by decide +kernel) ⟨(Nat.le_of_ble_eq_true rfl), (Nat.le_of_ble_eq_true rfl)⟩) ⟨pk_blind, pk_call hPc hKc hDc⟩ rfl rfl hl.1 rfl (lv_room (Nat.le_of_ble_eq_true rfl)) dX8_make_3 ⟨(Nat.le_of_ble_eq_true rfl), (Nat.le_of_ble_eq_true rfl)⟩) hS (fun q _ h => hFc q h) hFc (fun r_1 ur_1 t H1 locs ht hvm hw hB hz1 hk1 hS => ?_)
  try dsimp only at hw
  have jr_1 := hw
  obtain ⟨hP, hD⟩ := va_join (wr := [(h0, .inr (8, [.int th, .ref q1, v2, .ref q3, .ref q4, .ref q5, .ref q6, .ref q7, .ref q8, v9, v10, v11, v12, v13, v14, v15, v16])), (q1, .inl (c1, 16, .inl (fun _ => (0 : Int32)))), (q3, .inl (c3, 16, .inl (fun _ => (0 : Int32)))), (q4, .inl (c4, 16, .inl (fun _ => (0 : Int32)))), (q5, .inl (c5, 16, .inl (fun _ => (0 : Int32)))), (q6, .inl (c6, 16, .inl (fun _ => (0 : Int32)))), (q7, .inl (c7, 16, .inl (fun _ => (0 : Int32)))), (q8, .inl (c8, 16, .inl (fun _ => (0 : Int32))))]) (w1 := []) hP hD [] [0, 1, 2, 3, 4, 5, 6, 7] rfl rfl (by decide) (by decide) hk1 hFc tx_P0 tx_D0
  clear hk1 hz1 ht hPc hDc hKc
  generalize H1 = H at hP hS ⊢
  have hP : va_P (dC, dI) vwCl [(h0, .inr (8, [.int th, .ref q1, v2, .ref q3, .ref q4, .ref q5, .ref q6, .ref q7, .ref q8, v9, v10, v11, v12, v13, v14, v15, v16])), (q1, .inl (c1, 16, .inl (fun _ => (0 : Int32)))), (q3, .inl (c3, 16, .inl (fun _ => (0 : Int32)))), (q4, .inl (c4, 16, .inl (fun _ => (0 : Int32)))), (q5, .inl (c5, 16, .inl (fun _ => (0 : Int32)))), (q6, .inl (c6, 16, .inl (fun _ => (0 : Int32)))), (q7, .inl (c7, 16, .inl (fun _ => (0 : Int32)))), (q8, .inl (c8, 16, .inl (fun _ => (0 : Int32))))] H := hP
  have hD : va_D A [(h0, .inr (8, [.int th, .ref q1, v2, .ref q3, .ref q4, .ref q5, .ref q6, .ref q7, .ref q8, v9, v10, v11, v12, v13, v14, v15, v16])), (q1, .inl (c1, 16, .inl (fun _ => (0 : Int32)))), (q3, .inl (c3, 16, .inl (fun _ => (0 : Int32)))), (q4, .inl (c4, 16, .inl (fun _ => (0 : Int32)))), (q5, .inl (c5, 16, .inl (fun _ => (0 : Int32)))), (q6, .inl (c6, 16, .inl (fun _ => (0 : Int32)))), (q7, .inl (c7, 16, .inl (fun _ => (0 : Int32)))), (q8, .inl (c8, 16, .inl (fun _ => (0 : Int32))))] := hD
  refine W.widen (k := 0) (n := 0) (Nat.le_of_ble_eq_true rfl) (Nat.le_of_ble_eq_true rfl) ?_
  refine W.eq (g2 := F0 m 6 ls [.int r_1]) rfl ?_
  refine lv_if_ne (tgt := 15) hx hb dX8_make_6 (by decide) (fun c_2 => ?_) (fun c_2 => ?_)
  ·
    have ic_2 : ¬ r_1.toInt = 0 := tx_ne rfl (by decide) c_2
    refine lv_iload_n hx hb dX8_make_15 rfl (lv_at hl 1 rfl) ?_
    refine lv_if_ne (tgt := 29) hx hb dX8_make_16 (by decide) (fun c_3 => ?_) (fun c_3 => ?_)
    ·
      have ic_3 : ¬ p0.toInt = 0 := tx_ne rfl (by decide) c_3
      refine lv_iload_n hx hb dX8_make_29 rfl (lv_at hl 1 rfl) ?_
      refine lv_if_ne (tgt := 57) hx hb dX8_make_30 (by decide) (fun c_4 => ?_) (fun c_4 => ?_)
      ·
        have ic_4 : ¬ p0.toInt = 0 := tx_ne rfl (by decide) c_4
        refine lv_iload_n hx hb dX8_make_57 rfl (lv_at hl 1 rfl) ?_
        refine lv_iconst (v := 1) hx hb dX8_make_58 (by decide) ?_
        refine lv_icmp_ne (tgt := 90) hx hb dX8_make_59 (by decide) (fun c_5 => ?_) (fun c_5 => ?_)
        ·
          have ic_5 : ¬ p0.toInt = 1 := tx_ne rfl (by decide) c_5
          refine lv_iload_n hx hb dX8_make_90 rfl (lv_at hl 2 rfl) ?_
          refine lv_iconst (v := 0) hx hb dX8_make_91 (by decide) ?_
          refine lv_iconst (v := 3) hx hb dX8_make_92 (by decide) ?_
          have hPc := hP.sub (ws' := []) [] rfl
          have hDc := hD.sub (ws' := []) [] (by decide) rfl
          have hKc := hK.sub (tys' := []) [] rfl
          have hFc := va_free (wc := []) hD hS hA [] rfl
          refine va_calli (va_runS (As := [.int p1, .int 0, .int 3]) (rest := []) ⟨hx, hb, hml, hown, hts⟩ (c_X8_in l  dC dI H.size p1 0 3 0 3 (by decide) (by decide)) (va_cwS 3 hts gX8_make_X8_in rfl rfl rfl (by decide +kernel) ⟨(Nat.le_of_ble_eq_true rfl), (Nat.le_of_ble_eq_true rfl)⟩) ⟨pk_blind, pk_call hPc hKc hDc⟩ rfl rfl hl.1 rfl (lv_room (Nat.le_of_ble_eq_true rfl)) dX8_make_93 ⟨(Nat.le_of_ble_eq_true rfl), (Nat.le_of_ble_eq_true rfl)⟩) hS (fun q _ h => hFc q h) hFc (fun r_6 ur_6 t H1 locs ht hvm hw hB hz1 hk1 hS => ?_)
          try dsimp only at hw
          have jr_6 := hw
          obtain ⟨hP, hD⟩ := va_join (wr := [(h0, .inr (8, [.int th, .ref q1, v2, .ref q3, .ref q4, .ref q5, .ref q6, .ref q7, .ref q8, v9, v10, v11, v12, v13, v14, v15, v16])), (q1, .inl (c1, 16, .inl (fun _ => (0 : Int32)))), (q3, .inl (c3, 16, .inl (fun _ => (0 : Int32)))), (q4, .inl (c4, 16, .inl (fun _ => (0 : Int32)))), (q5, .inl (c5, 16, .inl (fun _ => (0 : Int32)))), (q6, .inl (c6, 16, .inl (fun _ => (0 : Int32)))), (q7, .inl (c7, 16, .inl (fun _ => (0 : Int32)))), (q8, .inl (c8, 16, .inl (fun _ => (0 : Int32))))]) (w1 := []) hP hD [] [0, 1, 2, 3, 4, 5, 6, 7] rfl rfl (by decide) (by decide) hk1 hFc tx_P0 tx_D0
          clear hk1 hz1 ht hPc hDc hKc
          generalize H1 = H at hP hS ⊢
          have hP : va_P (dC, dI) vwCl [(h0, .inr (8, [.int th, .ref q1, v2, .ref q3, .ref q4, .ref q5, .ref q6, .ref q7, .ref q8, v9, v10, v11, v12, v13, v14, v15, v16])), (q1, .inl (c1, 16, .inl (fun _ => (0 : Int32)))), (q3, .inl (c3, 16, .inl (fun _ => (0 : Int32)))), (q4, .inl (c4, 16, .inl (fun _ => (0 : Int32)))), (q5, .inl (c5, 16, .inl (fun _ => (0 : Int32)))), (q6, .inl (c6, 16, .inl (fun _ => (0 : Int32)))), (q7, .inl (c7, 16, .inl (fun _ => (0 : Int32)))), (q8, .inl (c8, 16, .inl (fun _ => (0 : Int32))))] H := hP
          have hD : va_D A [(h0, .inr (8, [.int th, .ref q1, v2, .ref q3, .ref q4, .ref q5, .ref q6, .ref q7, .ref q8, v9, v10, v11, v12, v13, v14, v15, v16])), (q1, .inl (c1, 16, .inl (fun _ => (0 : Int32)))), (q3, .inl (c3, 16, .inl (fun _ => (0 : Int32)))), (q4, .inl (c4, 16, .inl (fun _ => (0 : Int32)))), (q5, .inl (c5, 16, .inl (fun _ => (0 : Int32)))), (q6, .inl (c6, 16, .inl (fun _ => (0 : Int32)))), (q7, .inl (c7, 16, .inl (fun _ => (0 : Int32)))), (q8, .inl (c8, 16, .inl (fun _ => (0 : Int32))))] := hD
          refine W.widen (k := 0) (n := 0) (Nat.le_of_ble_eq_true rfl) (Nat.le_of_ble_eq_true rfl) ?_
          refine W.eq (g2 := F0 m 96 ls [.int r_6]) rfl ?_
          refine lv_istore (lv' := [(4, .int r_6), (0, .ref h0), (1, .int p0), (2, .int p1), (3, .int p2)]) hx hb dX8_make_96 hl (by decide) rfl (fun ls hl => ?_)
          refine lv_iload hx hb dX8_make_98 (lv_at hl 0 rfl) ?_
          refine lv_if_ne (tgt := 109) hx hb dX8_make_100 (by decide) (fun c_7 => ?_) (fun c_7 => ?_)
          ·
            have ic_7 : ¬ r_6.toInt = 0 := tx_ne rfl (by decide) c_7
            refine lv_aload_n hx hb dX8_make_109 rfl (lv_at hl 1 rfl) ?_
            have hPc := hP.sub (ws' := [(h0, .inr (8, [.int th, .ref q1, v2, .ref q3, .ref q4, .ref q5, .ref q6, .ref q7, .ref q8, v9, v10, v11, v12, v13, v14, v15, v16])), (q1, .inl (c1, 16, .inl (fun _ => (0 : Int32))))]) [0, 1] rfl
            have hDc := hD.sub (ws' := [(h0, .inr (8, [.int th, .ref q1, v2, .ref q3, .ref q4, .ref q5, .ref q6, .ref q7, .ref q8, v9, v10, v11, v12, v13, v14, v15, v16])), (q1, .inl (c1, 16, .inl (fun _ => (0 : Int32))))]) [0, 1] (by decide) rfl
            have hKc := hK.sub (tys' := [(c1, .int)]) [0] rfl
            have hFc := va_free (wc := [(h0, .inr (8, [.int th, .ref q1, v2, .ref q3, .ref q4, .ref q5, .ref q6, .ref q7, .ref q8, v9, v10, v11, v12, v13, v14, v15, v16])), (q1, .inl (c1, 16, .inl (fun _ => (0 : Int32))))]) hD hS hA [0, 1] rfl
            refine va_calli (va_runV (As := []) (rest := []) ⟨hx, hb, hml, hown, hts⟩ (c_X8_free l  dC dI H.size h0 q1 c1 th v2 (.ref q3) (.ref q4) (.ref q5) (.ref q6) (.ref q7) (.ref q8) v9 v10 v11 v12 v13 v14 v15 v16) (cwV 0 hts gX8_make_X8_free rfl rfl rfl (by decide +kernel) ⟨(Nat.le_of_ble_eq_true rfl), (Nat.le_of_ble_eq_true rfl)⟩) ⟨pk_blind, va_recv hKc hPc (ci := 8) (q0 := 0) rfl rfl, pk_call hPc hKc hDc⟩ rfl rfl hl.1 rfl (lv_room (Nat.le_of_ble_eq_true rfl)) dX8_make_110 ⟨(Nat.le_of_ble_eq_true rfl), (Nat.le_of_ble_eq_true rfl)⟩) hS (fun q _ h => hFc q h) hFc (fun r_8 ur_8 t H1 locs ht hvm hw hB hz1 hk1 hS => ?_)
            try dsimp only at hw
            obtain ⟨hP1, hK1, hD1⟩ := hB
            rw [ht] at hP1
            have hK1 := va_K.moved hvm.symm hK1
            obtain ⟨hP, hD⟩ := va_join (wr := [(q3, .inl (c3, 16, .inl (fun _ => (0 : Int32)))), (q4, .inl (c4, 16, .inl (fun _ => (0 : Int32)))), (q5, .inl (c5, 16, .inl (fun _ => (0 : Int32)))), (q6, .inl (c6, 16, .inl (fun _ => (0 : Int32)))), (q7, .inl (c7, 16, .inl (fun _ => (0 : Int32)))), (q8, .inl (c8, 16, .inl (fun _ => (0 : Int32))))]) (w1 := [(h0, .inr (8, [.int th, .ref q1, v2, .ref q3, .ref q4, .ref q5, .ref q6, .ref q7, .ref q8, v9, v10, v11, v12, v13, v14, v15, v16])), (q1, .inl (c1, 16, .inl (fun _ => (0 : Int32))))]) hP hD [0, 1] [2, 3, 4, 5, 6, 7] rfl rfl (by decide) (by decide) hk1 hFc hP1 hD1
            clear hk1 hz1 ht hPc hDc hKc
            generalize H1 = H at hP hS ⊢
            have hP : va_P (dC, dI) vwCl [(q3, .inl (c3, 16, .inl (fun _ => (0 : Int32)))), (q4, .inl (c4, 16, .inl (fun _ => (0 : Int32)))), (q5, .inl (c5, 16, .inl (fun _ => (0 : Int32)))), (q6, .inl (c6, 16, .inl (fun _ => (0 : Int32)))), (q7, .inl (c7, 16, .inl (fun _ => (0 : Int32)))), (q8, .inl (c8, 16, .inl (fun _ => (0 : Int32)))), (h0, .inr (8, [.int th, .ref q1, v2, .ref q3, .ref q4, .ref q5, .ref q6, .ref q7, .ref q8, v9, v10, v11, v12, v13, v14, v15, v16])), (q1, .inl (c1, 16, .inl (fun _ => (0 : Int32))))] H := hP
            have hD : va_D A [(q3, .inl (c3, 16, .inl (fun _ => (0 : Int32)))), (q4, .inl (c4, 16, .inl (fun _ => (0 : Int32)))), (q5, .inl (c5, 16, .inl (fun _ => (0 : Int32)))), (q6, .inl (c6, 16, .inl (fun _ => (0 : Int32)))), (q7, .inl (c7, 16, .inl (fun _ => (0 : Int32)))), (q8, .inl (c8, 16, .inl (fun _ => (0 : Int32)))), (h0, .inr (8, [.int th, .ref q1, v2, .ref q3, .ref q4, .ref q5, .ref q6, .ref q7, .ref q8, v9, v10, v11, v12, v13, v14, v15, v16])), (q1, .inl (c1, 16, .inl (fun _ => (0 : Int32))))] := hD
            refine W.widen (k := 0) (n := 0) (Nat.le_of_ble_eq_true rfl) (Nat.le_of_ble_eq_true rfl) ?_
            obtain rfl : r_8 = 0 := hw
            refine W.eq (g2 := F0 m 113 ls [.int 0]) rfl ?_
            refine lv_istore (lv' := [(5, .int 0), (4, .int r_6), (0, .ref h0), (1, .int p0), (2, .int p1), (3, .int p2)]) hx hb dX8_make_113 hl (by decide) rfl (fun ls hl => ?_)
            refine lv_iload hx hb dX8_make_115 (lv_at hl 0 rfl) ?_
            refine lv_if_ge (tgt := 126) hx hb dX8_make_117 (by decide) (fun c_9 => ?_) (fun c_9 => absurd c_9 (by decide))
            refine lv_aload_n hx hb dX8_make_126 rfl (lv_at hl 2 rfl) ?_
            refine lv_iconst (v := 0) hx hb dX8_make_127 (by decide) ?_
            refine va_put (D := (dC, dI)) (ci := 8) (v := .int 0) (ty := .int) (C := RX8) (T := TX8) (N := 17) hx hb hts (by decide +kernel) tyX8 tyX8_ok nmX8 hown hK hP hD hS 6 rfl rfl 0 (by decide) (hts (.fieldLink RX8 60 "KeyAtlasModel" "thrown" "I") (by decide +kernel)) (fun _ h9 => h9) rfl (by decide +kernel) rfl rfl (Nat.le_of_ble_eq_true rfl) dX8_make_128 (fun H locs hP hD hS => ?_)
            have hP : va_P (dC, dI) vwCl [(q3, .inl (c3, 16, .inl (fun _ => (0 : Int32)))), (q4, .inl (c4, 16, .inl (fun _ => (0 : Int32)))), (q5, .inl (c5, 16, .inl (fun _ => (0 : Int32)))), (q6, .inl (c6, 16, .inl (fun _ => (0 : Int32)))), (q7, .inl (c7, 16, .inl (fun _ => (0 : Int32)))), (q8, .inl (c8, 16, .inl (fun _ => (0 : Int32)))), (h0, .inr (8, [.int 0, .ref q1, v2, .ref q3, .ref q4, .ref q5, .ref q6, .ref q7, .ref q8, v9, v10, v11, v12, v13, v14, v15, v16])), (q1, .inl (c1, 16, .inl (fun _ => (0 : Int32))))] H := hP
            have hD : va_D A [(q3, .inl (c3, 16, .inl (fun _ => (0 : Int32)))), (q4, .inl (c4, 16, .inl (fun _ => (0 : Int32)))), (q5, .inl (c5, 16, .inl (fun _ => (0 : Int32)))), (q6, .inl (c6, 16, .inl (fun _ => (0 : Int32)))), (q7, .inl (c7, 16, .inl (fun _ => (0 : Int32)))), (q8, .inl (c8, 16, .inl (fun _ => (0 : Int32)))), (h0, .inr (8, [.int 0, .ref q1, v2, .ref q3, .ref q4, .ref q5, .ref q6, .ref q7, .ref q8, v9, v10, v11, v12, v13, v14, v15, v16])), (q1, .inl (c1, 16, .inl (fun _ => (0 : Int32))))] := hD
            refine lv_aload_n hx hb dX8_make_131 rfl (lv_at hl 2 rfl) ?_
            refine lv_iload hx hb dX8_make_132 (lv_at hl 0 rfl) ?_
            refine lv_iload_n hx hb dX8_make_134 rfl (lv_at hl 3 rfl) ?_
            refine lv_iconst (v := 1) hx hb dX8_make_135 (by decide) ?_
            refine lv_iadd hx hb dX8_make_136 ?_
            have hPc := hP.sub (ws' := [(h0, .inr (8, [.int 0, .ref q1, v2, .ref q3, .ref q4, .ref q5, .ref q6, .ref q7, .ref q8, v9, v10, v11, v12, v13, v14, v15, v16])), (q1, .inl (c1, 16, .inl (fun _ => (0 : Int32)))), (q3, .inl (c3, 16, .inl (fun _ => (0 : Int32)))), (q6, .inl (c6, 16, .inl (fun _ => (0 : Int32)))), (q7, .inl (c7, 16, .inl (fun _ => (0 : Int32)))), (q8, .inl (c8, 16, .inl (fun _ => (0 : Int32))))]) [6, 7, 0, 3, 4, 5] rfl
            have hDc := hD.sub (ws' := [(h0, .inr (8, [.int 0, .ref q1, v2, .ref q3, .ref q4, .ref q5, .ref q6, .ref q7, .ref q8, v9, v10, v11, v12, v13, v14, v15, v16])), (q1, .inl (c1, 16, .inl (fun _ => (0 : Int32)))), (q3, .inl (c3, 16, .inl (fun _ => (0 : Int32)))), (q6, .inl (c6, 16, .inl (fun _ => (0 : Int32)))), (q7, .inl (c7, 16, .inl (fun _ => (0 : Int32)))), (q8, .inl (c8, 16, .inl (fun _ => (0 : Int32))))]) [6, 7, 0, 3, 4, 5] (by decide) rfl
            have hKc := hK.sub (tys' := [(c1, .int), (c3, .int), (c6, .int), (c7, .int), (c8, .int)]) [0, 1, 4, 5, 6] rfl
            have hFc := va_free (wc := [(h0, .inr (8, [.int 0, .ref q1, v2, .ref q3, .ref q4, .ref q5, .ref q6, .ref q7, .ref q8, v9, v10, v11, v12, v13, v14, v15, v16])), (q1, .inl (c1, 16, .inl (fun _ => (0 : Int32)))), (q3, .inl (c3, 16, .inl (fun _ => (0 : Int32)))), (q6, .inl (c6, 16, .inl (fun _ => (0 : Int32)))), (q7, .inl (c7, 16, .inl (fun _ => (0 : Int32)))), (q8, .inl (c8, 16, .inl (fun _ => (0 : Int32))))]) hD hS hA [6, 7, 0, 3, 4, 5] rfl
            refine va_calli (va_runV (As := [.int 0, .int (p0 + 1)]) (rest := []) ⟨hx, hb, hml, hown, hts⟩ (c_X8_born l  dC dI H.size h0 0 q1 q3 q6 q7 q8 c1 c3 c6 c7 c8 v2 (.ref q4) (.ref q5) v9 v10 v11 v12 v13 v14 v15 v16 (p0 + 1)) (cwV 2 hts gX8_make_X8_born rfl rfl rfl (by decide +kernel) ⟨(Nat.le_of_ble_eq_true rfl), (Nat.le_of_ble_eq_true rfl)⟩) ⟨pk_blind, va_recv hKc hPc (ci := 8) (q0 := 0) rfl rfl, pk_call hPc hKc hDc⟩ rfl rfl hl.1 rfl (lv_room (Nat.le_of_ble_eq_true rfl)) dX8_make_137 ⟨(Nat.le_of_ble_eq_true rfl), (Nat.le_of_ble_eq_true rfl)⟩) hS (fun q _ h => hFc q h) hFc (fun r_10 ur_10 t H1 locs ht hvm hw hB hz1 hk1 hS => ?_)
            try dsimp only at hw
            have jr_10 := hw
            obtain ⟨hP1, hK1, hD1⟩ := hB
            rw [ht] at hP1
            have hK1 := va_K.moved hvm.symm hK1
            obtain ⟨hP, hD⟩ := va_join (wr := [(q4, .inl (c4, 16, .inl (fun _ => (0 : Int32)))), (q5, .inl (c5, 16, .inl (fun _ => (0 : Int32))))]) (w1 := [(h0, .inr (8, [.int 0, .ref q1, v2, .ref q3, .ref q4, .ref q5, .ref q6, .ref q7, .ref q8, v9, v10, v11, v12, v13, v14, v15, v16]))]) hP hD [6, 7, 0, 3, 4, 5] [1, 2] rfl rfl (by decide) (by decide) hk1 hFc hP1 hD1
            clear hk1 hz1 ht hPc hDc hKc
            generalize H1 = H at hP hS ⊢
            have hP : va_P (dC, dI) vwCl [(q4, .inl (c4, 16, .inl (fun _ => (0 : Int32)))), (q5, .inl (c5, 16, .inl (fun _ => (0 : Int32)))), (h0, .inr (8, [.int 0, .ref q1, v2, .ref q3, .ref q4, .ref q5, .ref q6, .ref q7, .ref q8, v9, v10, v11, v12, v13, v14, v15, v16]))] H := hP
            have hD : va_D A [(q4, .inl (c4, 16, .inl (fun _ => (0 : Int32)))), (q5, .inl (c5, 16, .inl (fun _ => (0 : Int32)))), (h0, .inr (8, [.int 0, .ref q1, v2, .ref q3, .ref q4, .ref q5, .ref q6, .ref q7, .ref q8, v9, v10, v11, v12, v13, v14, v15, v16]))] := hD
            refine W.widen (k := 0) (n := 0) (Nat.le_of_ble_eq_true rfl) (Nat.le_of_ble_eq_true rfl) ?_
            refine W.eq (g2 := F0 m 140 ls [.int r_10]) rfl ?_
            refine lv_pop hx hb dX8_make_140 rfl ?_
            refine lv_aload_n hx hb dX8_make_141 rfl (lv_at hl 2 rfl) ?_
            refine va_get (D := (dC, dI)) (ci := 8) (v := .ref q4) (C := RX8) (T := TX8) (N := 17) hx hb hts (by decide +kernel) hown hK hP 2 rfl rfl 4 (by decide) (hts (.fieldLink RX8 20 "KeyAtlasModel" "first" "[I") (by decide +kernel)) (fun _ h9 => h9) rfl dX8_make_142 ?_
            refine lv_iload hx hb dX8_make_145 (lv_at hl 0 rfl) ?_
            refine lv_iload_n hx hb dX8_make_147 rfl (lv_at hl 4 rfl) ?_
            refine va_iast (i := 0) hx hb hK hP hD hS 0 2 rfl rfl (by unfold vp_in; decide) dX8_make_148 (fun H locs hP hD hS => ?_)
            have hP : va_P (dC, dI) vwCl [(q4, .inl (c4, 16, .inl (upd (fun _ => (0 : Int32)) (0 : Int32).toNatClampNeg p1))), (q5, .inl (c5, 16, .inl (fun _ => (0 : Int32)))), (h0, .inr (8, [.int 0, .ref q1, v2, .ref q3, .ref q4, .ref q5, .ref q6, .ref q7, .ref q8, v9, v10, v11, v12, v13, v14, v15, v16]))] H := hP
            have hD : va_D A [(q4, .inl (c4, 16, .inl (upd (fun _ => (0 : Int32)) (0 : Int32).toNatClampNeg p1))), (q5, .inl (c5, 16, .inl (fun _ => (0 : Int32)))), (h0, .inr (8, [.int 0, .ref q1, v2, .ref q3, .ref q4, .ref q5, .ref q6, .ref q7, .ref q8, v9, v10, v11, v12, v13, v14, v15, v16]))] := hD
            refine lv_aload_n hx hb dX8_make_149 rfl (lv_at hl 2 rfl) ?_
            refine va_get (D := (dC, dI)) (ci := 8) (v := .ref q5) (C := RX8) (T := TX8) (N := 17) hx hb hts (by decide +kernel) hown hK hP 2 rfl rfl 5 (by decide) (hts (.fieldLink RX8 23 "KeyAtlasModel" "second" "[I") (by decide +kernel)) (fun _ h9 => h9) rfl dX8_make_150 ?_
            refine lv_iload hx hb dX8_make_153 (lv_at hl 0 rfl) ?_
            refine lv_iload_n hx hb dX8_make_155 rfl (lv_at hl 5 rfl) ?_
            refine va_iast (i := 0) hx hb hK hP hD hS 1 3 rfl rfl (by unfold vp_in; decide) dX8_make_156 (fun H locs hP hD hS => ?_)
            have hP : va_P (dC, dI) vwCl [(q4, .inl (c4, 16, .inl (upd (fun _ => (0 : Int32)) (0 : Int32).toNatClampNeg p1))), (q5, .inl (c5, 16, .inl (upd (fun _ => (0 : Int32)) (0 : Int32).toNatClampNeg p2))), (h0, .inr (8, [.int 0, .ref q1, v2, .ref q3, .ref q4, .ref q5, .ref q6, .ref q7, .ref q8, v9, v10, v11, v12, v13, v14, v15, v16]))] H := hP
            have hD : va_D A [(q4, .inl (c4, 16, .inl (upd (fun _ => (0 : Int32)) (0 : Int32).toNatClampNeg p1))), (q5, .inl (c5, 16, .inl (upd (fun _ => (0 : Int32)) (0 : Int32).toNatClampNeg p2))), (h0, .inr (8, [.int 0, .ref q1, v2, .ref q3, .ref q4, .ref q5, .ref q6, .ref q7, .ref q8, v9, v10, v11, v12, v13, v14, v15, v16]))] := hD
            refine lv_iload hx hb dX8_make_157 (lv_at hl 0 rfl) ?_
            have hP9 := hP.sub (ws' := [(h0, .inr (8, [.int 0, .ref q1, v2, .ref q3, .ref q4, .ref q5, .ref q6, .ref q7, .ref q8, v9, v10, v11, v12, v13, v14, v15, v16]))]) [2] rfl
            have hD9 := hD.sub (ws' := [(h0, .inr (8, [.int 0, .ref q1, v2, .ref q3, .ref q4, .ref q5, .ref q6, .ref q7, .ref q8, v9, v10, v11, v12, v13, v14, v15, v16]))]) [2] (by decide) rfl
            have hK9 := hK.sub (tys' := []) [] rfl
            refine W.widen (k := 0) (n := 0) (Nat.le_of_ble_eq_true rfl) (Nat.le_of_ble_eq_true rfl) ?_
            exact W.iret (v := 0) hx hb hr (fun t ht hW => ⟨⟨0, 0, rfl, ⟨tx_at (P := mkIs p0 p1 p2) (n := 0) (by decide) (by unfold mkIs; omega), fun _ => rfl⟩, by rw [ht]; exact hP9, va_K.moved hW.alike hK9, hD9⟩, hS.F ht⟩) hS.2.2 dX8_make_159
          ·
            have ic_7 : r_6.toInt = 0 := tx_eq rfl (by decide) c_7
            refine lv_aload_n hx hb dX8_make_103 rfl (lv_at hl 1 rfl) ?_
            refine lv_iconst (v := 1) hx hb dX8_make_104 (by decide) ?_
            have hPc := hP.sub (ws' := [(h0, .inr (8, [.int th, .ref q1, v2, .ref q3, .ref q4, .ref q5, .ref q6, .ref q7, .ref q8, v9, v10, v11, v12, v13, v14, v15, v16]))]) [0] rfl
            have hDc := hD.sub (ws' := [(h0, .inr (8, [.int th, .ref q1, v2, .ref q3, .ref q4, .ref q5, .ref q6, .ref q7, .ref q8, v9, v10, v11, v12, v13, v14, v15, v16]))]) [0] (by decide) rfl
            have hKc := hK.sub (tys' := []) [] rfl
            have hFc := va_free (wc := [(h0, .inr (8, [.int th, .ref q1, v2, .ref q3, .ref q4, .ref q5, .ref q6, .ref q7, .ref q8, v9, v10, v11, v12, v13, v14, v15, v16]))]) hD hS hA [0] rfl
            refine va_calli (va_runV (As := [.int 1]) (rest := []) ⟨hx, hb, hml, hown, hts⟩ (c_X8_refuse l  dC dI H.size h0 th 1 (.ref q1) v2 (.ref q3) (.ref q4) (.ref q5) (.ref q6) (.ref q7) (.ref q8) v9 v10 v11 v12 v13 v14 v15 v16) (cwV 1 hts gX8_make_X8_refuse rfl rfl rfl (by decide +kernel) ⟨(Nat.le_of_ble_eq_true rfl), (Nat.le_of_ble_eq_true rfl)⟩) ⟨pk_blind, va_recv hKc hPc (ci := 8) (q0 := 0) rfl rfl, pk_call hPc hKc hDc⟩ rfl rfl hl.1 rfl (lv_room (Nat.le_of_ble_eq_true rfl)) dX8_make_105 ⟨(Nat.le_of_ble_eq_true rfl), (Nat.le_of_ble_eq_true rfl)⟩) hS (fun q _ h => hFc q h) hFc (fun r_11 ur_11 t H1 locs ht hvm hw hB hz1 hk1 hS => ?_)
            try dsimp only at hw
            have jr_11 := hw
            obtain ⟨hP1, hK1, hD1⟩ := hB
            rw [ht] at hP1
            have hK1 := va_K.moved hvm.symm hK1
            obtain ⟨hP, hD⟩ := va_join (wr := [(q1, .inl (c1, 16, .inl (fun _ => (0 : Int32)))), (q3, .inl (c3, 16, .inl (fun _ => (0 : Int32)))), (q4, .inl (c4, 16, .inl (fun _ => (0 : Int32)))), (q5, .inl (c5, 16, .inl (fun _ => (0 : Int32)))), (q6, .inl (c6, 16, .inl (fun _ => (0 : Int32)))), (q7, .inl (c7, 16, .inl (fun _ => (0 : Int32)))), (q8, .inl (c8, 16, .inl (fun _ => (0 : Int32))))]) (w1 := [(h0, .inr (8, [.int 1, .ref q1, v2, .ref q3, .ref q4, .ref q5, .ref q6, .ref q7, .ref q8, v9, v10, v11, v12, v13, v14, v15, v16]))]) hP hD [0] [1, 2, 3, 4, 5, 6, 7] rfl rfl (by decide) (by decide) hk1 hFc hP1 hD1
            clear hk1 hz1 ht hPc hDc hKc
            generalize H1 = H at hP hS ⊢
            have hP : va_P (dC, dI) vwCl [(q1, .inl (c1, 16, .inl (fun _ => (0 : Int32)))), (q3, .inl (c3, 16, .inl (fun _ => (0 : Int32)))), (q4, .inl (c4, 16, .inl (fun _ => (0 : Int32)))), (q5, .inl (c5, 16, .inl (fun _ => (0 : Int32)))), (q6, .inl (c6, 16, .inl (fun _ => (0 : Int32)))), (q7, .inl (c7, 16, .inl (fun _ => (0 : Int32)))), (q8, .inl (c8, 16, .inl (fun _ => (0 : Int32)))), (h0, .inr (8, [.int 1, .ref q1, v2, .ref q3, .ref q4, .ref q5, .ref q6, .ref q7, .ref q8, v9, v10, v11, v12, v13, v14, v15, v16]))] H := hP
            have hD : va_D A [(q1, .inl (c1, 16, .inl (fun _ => (0 : Int32)))), (q3, .inl (c3, 16, .inl (fun _ => (0 : Int32)))), (q4, .inl (c4, 16, .inl (fun _ => (0 : Int32)))), (q5, .inl (c5, 16, .inl (fun _ => (0 : Int32)))), (q6, .inl (c6, 16, .inl (fun _ => (0 : Int32)))), (q7, .inl (c7, 16, .inl (fun _ => (0 : Int32)))), (q8, .inl (c8, 16, .inl (fun _ => (0 : Int32)))), (h0, .inr (8, [.int 1, .ref q1, v2, .ref q3, .ref q4, .ref q5, .ref q6, .ref q7, .ref q8, v9, v10, v11, v12, v13, v14, v15, v16]))] := hD
            refine W.widen (k := 0) (n := 0) (Nat.le_of_ble_eq_true rfl) (Nat.le_of_ble_eq_true rfl) ?_
            refine W.eq (g2 := F0 m 108 ls [.int r_11]) rfl ?_
            have hP9 := hP.sub (ws' := [(h0, .inr (8, [.int 1, .ref q1, v2, .ref q3, .ref q4, .ref q5, .ref q6, .ref q7, .ref q8, v9, v10, v11, v12, v13, v14, v15, v16]))]) [7] rfl
            have hD9 := hD.sub (ws' := [(h0, .inr (8, [.int 1, .ref q1, v2, .ref q3, .ref q4, .ref q5, .ref q6, .ref q7, .ref q8, v9, v10, v11, v12, v13, v14, v15, v16]))]) [7] (by decide) rfl
            have hK9 := hK.sub (tys' := []) [] rfl
            refine W.widen (k := 0) (n := 0) (Nat.le_of_ble_eq_true rfl) (Nat.le_of_ble_eq_true rfl) ?_
            exact W.iret (v := r_11) hx hb hr (fun t ht hW => ⟨⟨r_11, 1, rfl, ⟨tx_at (P := mkIs p0 p1 p2) (n := 1) (by decide) (by unfold mkIs; omega), fun h => absurd h (by decide)⟩, by rw [ht]; exact hP9, va_K.moved hW.alike hK9, hD9⟩, hS.F ht⟩) hS.2.2 dX8_make_108
        ·
          have ic_5 : p0.toInt = 1 := tx_eq rfl (by decide) c_5
          refine lv_iload_n hx hb dX8_make_62 rfl (lv_at hl 2 rfl) ?_
          refine lv_iconst (v := 0) hx hb dX8_make_63 (by decide) ?_
          refine lv_sipush (v := 1000) hx hb dX8_make_64 (by decide) ?_
          have hPc := hP.sub (ws' := []) [] rfl
          have hDc := hD.sub (ws' := []) [] (by decide) rfl
          have hKc := hK.sub (tys' := []) [] rfl
          have hFc := va_free (wc := []) hD hS hA [] rfl
          refine va_calli (va_runS (As := [.int p1, .int 0, .int 1000]) (rest := []) ⟨hx, hb, hml, hown, hts⟩ (c_X8_in l  dC dI H.size p1 0 1000 0 1000 (by decide) (by decide)) (va_cwS 3 hts gX8_make_X8_in rfl rfl rfl (by decide +kernel) ⟨(Nat.le_of_ble_eq_true rfl), (Nat.le_of_ble_eq_true rfl)⟩) ⟨pk_blind, pk_call hPc hKc hDc⟩ rfl rfl hl.1 rfl (lv_room (Nat.le_of_ble_eq_true rfl)) dX8_make_67 ⟨(Nat.le_of_ble_eq_true rfl), (Nat.le_of_ble_eq_true rfl)⟩) hS (fun q _ h => hFc q h) hFc (fun r_12 ur_12 t H1 locs ht hvm hw hB hz1 hk1 hS => ?_)
          try dsimp only at hw
          have jr_12 := hw
          obtain ⟨hP, hD⟩ := va_join (wr := [(h0, .inr (8, [.int th, .ref q1, v2, .ref q3, .ref q4, .ref q5, .ref q6, .ref q7, .ref q8, v9, v10, v11, v12, v13, v14, v15, v16])), (q1, .inl (c1, 16, .inl (fun _ => (0 : Int32)))), (q3, .inl (c3, 16, .inl (fun _ => (0 : Int32)))), (q4, .inl (c4, 16, .inl (fun _ => (0 : Int32)))), (q5, .inl (c5, 16, .inl (fun _ => (0 : Int32)))), (q6, .inl (c6, 16, .inl (fun _ => (0 : Int32)))), (q7, .inl (c7, 16, .inl (fun _ => (0 : Int32)))), (q8, .inl (c8, 16, .inl (fun _ => (0 : Int32))))]) (w1 := []) hP hD [] [0, 1, 2, 3, 4, 5, 6, 7] rfl rfl (by decide) (by decide) hk1 hFc tx_P0 tx_D0
          clear hk1 hz1 ht hPc hDc hKc
          generalize H1 = H at hP hS ⊢
          have hP : va_P (dC, dI) vwCl [(h0, .inr (8, [.int th, .ref q1, v2, .ref q3, .ref q4, .ref q5, .ref q6, .ref q7, .ref q8, v9, v10, v11, v12, v13, v14, v15, v16])), (q1, .inl (c1, 16, .inl (fun _ => (0 : Int32)))), (q3, .inl (c3, 16, .inl (fun _ => (0 : Int32)))), (q4, .inl (c4, 16, .inl (fun _ => (0 : Int32)))), (q5, .inl (c5, 16, .inl (fun _ => (0 : Int32)))), (q6, .inl (c6, 16, .inl (fun _ => (0 : Int32)))), (q7, .inl (c7, 16, .inl (fun _ => (0 : Int32)))), (q8, .inl (c8, 16, .inl (fun _ => (0 : Int32))))] H := hP
          have hD : va_D A [(h0, .inr (8, [.int th, .ref q1, v2, .ref q3, .ref q4, .ref q5, .ref q6, .ref q7, .ref q8, v9, v10, v11, v12, v13, v14, v15, v16])), (q1, .inl (c1, 16, .inl (fun _ => (0 : Int32)))), (q3, .inl (c3, 16, .inl (fun _ => (0 : Int32)))), (q4, .inl (c4, 16, .inl (fun _ => (0 : Int32)))), (q5, .inl (c5, 16, .inl (fun _ => (0 : Int32)))), (q6, .inl (c6, 16, .inl (fun _ => (0 : Int32)))), (q7, .inl (c7, 16, .inl (fun _ => (0 : Int32)))), (q8, .inl (c8, 16, .inl (fun _ => (0 : Int32))))] := hD
          refine W.widen (k := 0) (n := 0) (Nat.le_of_ble_eq_true rfl) (Nat.le_of_ble_eq_true rfl) ?_
          refine W.eq (g2 := F0 m 70 ls [.int r_12]) rfl ?_
          refine lv_if_eq (tgt := 86) hx hb dX8_make_70 (by decide) (fun c_13 => ?_) (fun c_13 => ?_)
          ·
            have ic_13 : r_12.toInt = 0 := tx_eq rfl (by decide) c_13
            refine lv_iconst (v := 0) hx hb dX8_make_86 (by decide) ?_
            refine lv_goto (tgt := 96) hx hb dX8_make_87 (by decide) ?_
            refine lv_istore (lv' := [(4, .int 0), (0, .ref h0), (1, .int p0), (2, .int p1), (3, .int p2)]) hx hb dX8_make_96 hl (by decide) rfl (fun ls hl => ?_)
            refine lv_iload hx hb dX8_make_98 (lv_at hl 0 rfl) ?_
            refine lv_if_ne (tgt := 109) hx hb dX8_make_100 (by decide) (fun c_14 => absurd c_14 (by decide)) (fun c_14 => ?_)
            refine lv_aload_n hx hb dX8_make_103 rfl (lv_at hl 1 rfl) ?_
            refine lv_iconst (v := 1) hx hb dX8_make_104 (by decide) ?_
            have hPc := hP.sub (ws' := [(h0, .inr (8, [.int th, .ref q1, v2, .ref q3, .ref q4, .ref q5, .ref q6, .ref q7, .ref q8, v9, v10, v11, v12, v13, v14, v15, v16]))]) [0] rfl
            have hDc := hD.sub (ws' := [(h0, .inr (8, [.int th, .ref q1, v2, .ref q3, .ref q4, .ref q5, .ref q6, .ref q7, .ref q8, v9, v10, v11, v12, v13, v14, v15, v16]))]) [0] (by decide) rfl
            have hKc := hK.sub (tys' := []) [] rfl
            have hFc := va_free (wc := [(h0, .inr (8, [.int th, .ref q1, v2, .ref q3, .ref q4, .ref q5, .ref q6, .ref q7, .ref q8, v9, v10, v11, v12, v13, v14, v15, v16]))]) hD hS hA [0] rfl
            refine va_calli (va_runV (As := [.int 1]) (rest := []) ⟨hx, hb, hml, hown, hts⟩ (c_X8_refuse l  dC dI H.size h0 th 1 (.ref q1) v2 (.ref q3) (.ref q4) (.ref q5) (.ref q6) (.ref q7) (.ref q8) v9 v10 v11 v12 v13 v14 v15 v16) (cwV 1 hts gX8_make_X8_refuse rfl rfl rfl (by decide +kernel) ⟨(Nat.le_of_ble_eq_true rfl), (Nat.le_of_ble_eq_true rfl)⟩) ⟨pk_blind, va_recv hKc hPc (ci := 8) (q0 := 0) rfl rfl, pk_call hPc hKc hDc⟩ rfl rfl hl.1 rfl (lv_room (Nat.le_of_ble_eq_true rfl)) dX8_make_105 ⟨(Nat.le_of_ble_eq_true rfl), (Nat.le_of_ble_eq_true rfl)⟩) hS (fun q _ h => hFc q h) hFc (fun r_15 ur_15 t H1 locs ht hvm hw hB hz1 hk1 hS => ?_)
            try dsimp only at hw
            have jr_15 := hw
            obtain ⟨hP1, hK1, hD1⟩ := hB
            rw [ht] at hP1
            have hK1 := va_K.moved hvm.symm hK1
            obtain ⟨hP, hD⟩ := va_join (wr := [(q1, .inl (c1, 16, .inl (fun _ => (0 : Int32)))), (q3, .inl (c3, 16, .inl (fun _ => (0 : Int32)))), (q4, .inl (c4, 16, .inl (fun _ => (0 : Int32)))), (q5, .inl (c5, 16, .inl (fun _ => (0 : Int32)))), (q6, .inl (c6, 16, .inl (fun _ => (0 : Int32)))), (q7, .inl (c7, 16, .inl (fun _ => (0 : Int32)))), (q8, .inl (c8, 16, .inl (fun _ => (0 : Int32))))]) (w1 := [(h0, .inr (8, [.int 1, .ref q1, v2, .ref q3, .ref q4, .ref q5, .ref q6, .ref q7, .ref q8, v9, v10, v11, v12, v13, v14, v15, v16]))]) hP hD [0] [1, 2, 3, 4, 5, 6, 7] rfl rfl (by decide) (by decide) hk1 hFc hP1 hD1
            clear hk1 hz1 ht hPc hDc hKc
            generalize H1 = H at hP hS ⊢
            have hP : va_P (dC, dI) vwCl [(q1, .inl (c1, 16, .inl (fun _ => (0 : Int32)))), (q3, .inl (c3, 16, .inl (fun _ => (0 : Int32)))), (q4, .inl (c4, 16, .inl (fun _ => (0 : Int32)))), (q5, .inl (c5, 16, .inl (fun _ => (0 : Int32)))), (q6, .inl (c6, 16, .inl (fun _ => (0 : Int32)))), (q7, .inl (c7, 16, .inl (fun _ => (0 : Int32)))), (q8, .inl (c8, 16, .inl (fun _ => (0 : Int32)))), (h0, .inr (8, [.int 1, .ref q1, v2, .ref q3, .ref q4, .ref q5, .ref q6, .ref q7, .ref q8, v9, v10, v11, v12, v13, v14, v15, v16]))] H := hP
            have hD : va_D A [(q1, .inl (c1, 16, .inl (fun _ => (0 : Int32)))), (q3, .inl (c3, 16, .inl (fun _ => (0 : Int32)))), (q4, .inl (c4, 16, .inl (fun _ => (0 : Int32)))), (q5, .inl (c5, 16, .inl (fun _ => (0 : Int32)))), (q6, .inl (c6, 16, .inl (fun _ => (0 : Int32)))), (q7, .inl (c7, 16, .inl (fun _ => (0 : Int32)))), (q8, .inl (c8, 16, .inl (fun _ => (0 : Int32)))), (h0, .inr (8, [.int 1, .ref q1, v2, .ref q3, .ref q4, .ref q5, .ref q6, .ref q7, .ref q8, v9, v10, v11, v12, v13, v14, v15, v16]))] := hD
            refine W.widen (k := 0) (n := 0) (Nat.le_of_ble_eq_true rfl) (Nat.le_of_ble_eq_true rfl) ?_
            refine W.eq (g2 := F0 m 108 ls [.int r_15]) rfl ?_
            have hP9 := hP.sub (ws' := [(h0, .inr (8, [.int 1, .ref q1, v2, .ref q3, .ref q4, .ref q5, .ref q6, .ref q7, .ref q8, v9, v10, v11, v12, v13, v14, v15, v16]))]) [7] rfl
            have hD9 := hD.sub (ws' := [(h0, .inr (8, [.int 1, .ref q1, v2, .ref q3, .ref q4, .ref q5, .ref q6, .ref q7, .ref q8, v9, v10, v11, v12, v13, v14, v15, v16]))]) [7] (by decide) rfl
            have hK9 := hK.sub (tys' := []) [] rfl
            refine W.widen (k := 0) (n := 0) (Nat.le_of_ble_eq_true rfl) (Nat.le_of_ble_eq_true rfl) ?_
            exact W.iret (v := r_15) hx hb hr (fun t ht hW => ⟨⟨r_15, 1, rfl, ⟨tx_at (P := mkIs p0 p1 p2) (n := 1) (by decide) (by unfold mkIs; omega), fun h => absurd h (by decide)⟩, by rw [ht]; exact hP9, va_K.moved hW.alike hK9, hD9⟩, hS.F ht⟩) hS.2.2 dX8_make_108
          ·
            have ic_13 : ¬ r_12.toInt = 0 := tx_ne rfl (by decide) c_13
            refine lv_iload_n hx hb dX8_make_73 rfl (lv_at hl 3 rfl) ?_
            refine lv_iconst (v := 0) hx hb dX8_make_74 (by decide) ?_
            refine lv_iconst (v := 1) hx hb dX8_make_75 (by decide) ?_
            have hPc := hP.sub (ws' := []) [] rfl
            have hDc := hD.sub (ws' := []) [] (by decide) rfl
            have hKc := hK.sub (tys' := []) [] rfl
            have hFc := va_free (wc := []) hD hS hA [] rfl
            refine va_calli (va_runS (As := [.int p2, .int 0, .int 1]) (rest := []) ⟨hx, hb, hml, hown, hts⟩ (c_X8_in l  dC dI H.size p2 0 1 0 1 (by decide) (by decide)) (va_cwS 3 hts gX8_make_X8_in rfl rfl rfl (by decide +kernel) ⟨(Nat.le_of_ble_eq_true rfl), (Nat.le_of_ble_eq_true rfl)⟩) ⟨pk_blind, pk_call hPc hKc hDc⟩ rfl rfl hl.1 rfl (lv_room (Nat.le_of_ble_eq_true rfl)) dX8_make_76 ⟨(Nat.le_of_ble_eq_true rfl), (Nat.le_of_ble_eq_true rfl)⟩) hS (fun q _ h => hFc q h) hFc (fun r_16 ur_16 t H1 locs ht hvm hw hB hz1 hk1 hS => ?_)
            try dsimp only at hw
            have jr_16 := hw
            obtain ⟨hP, hD⟩ := va_join (wr := [(h0, .inr (8, [.int th, .ref q1, v2, .ref q3, .ref q4, .ref q5, .ref q6, .ref q7, .ref q8, v9, v10, v11, v12, v13, v14, v15, v16])), (q1, .inl (c1, 16, .inl (fun _ => (0 : Int32)))), (q3, .inl (c3, 16, .inl (fun _ => (0 : Int32)))), (q4, .inl (c4, 16, .inl (fun _ => (0 : Int32)))), (q5, .inl (c5, 16, .inl (fun _ => (0 : Int32)))), (q6, .inl (c6, 16, .inl (fun _ => (0 : Int32)))), (q7, .inl (c7, 16, .inl (fun _ => (0 : Int32)))), (q8, .inl (c8, 16, .inl (fun _ => (0 : Int32))))]) (w1 := []) hP hD [] [0, 1, 2, 3, 4, 5, 6, 7] rfl rfl (by decide) (by decide) hk1 hFc tx_P0 tx_D0
            clear hk1 hz1 ht hPc hDc hKc
            generalize H1 = H at hP hS ⊢
            have hP : va_P (dC, dI) vwCl [(h0, .inr (8, [.int th, .ref q1, v2, .ref q3, .ref q4, .ref q5, .ref q6, .ref q7, .ref q8, v9, v10, v11, v12, v13, v14, v15, v16])), (q1, .inl (c1, 16, .inl (fun _ => (0 : Int32)))), (q3, .inl (c3, 16, .inl (fun _ => (0 : Int32)))), (q4, .inl (c4, 16, .inl (fun _ => (0 : Int32)))), (q5, .inl (c5, 16, .inl (fun _ => (0 : Int32)))), (q6, .inl (c6, 16, .inl (fun _ => (0 : Int32)))), (q7, .inl (c7, 16, .inl (fun _ => (0 : Int32)))), (q8, .inl (c8, 16, .inl (fun _ => (0 : Int32))))] H := hP
            have hD : va_D A [(h0, .inr (8, [.int th, .ref q1, v2, .ref q3, .ref q4, .ref q5, .ref q6, .ref q7, .ref q8, v9, v10, v11, v12, v13, v14, v15, v16])), (q1, .inl (c1, 16, .inl (fun _ => (0 : Int32)))), (q3, .inl (c3, 16, .inl (fun _ => (0 : Int32)))), (q4, .inl (c4, 16, .inl (fun _ => (0 : Int32)))), (q5, .inl (c5, 16, .inl (fun _ => (0 : Int32)))), (q6, .inl (c6, 16, .inl (fun _ => (0 : Int32)))), (q7, .inl (c7, 16, .inl (fun _ => (0 : Int32)))), (q8, .inl (c8, 16, .inl (fun _ => (0 : Int32))))] := hD
            refine W.widen (k := 0) (n := 0) (Nat.le_of_ble_eq_true rfl) (Nat.le_of_ble_eq_true rfl) ?_
            refine W.eq (g2 := F0 m 79 ls [.int r_16]) rfl ?_
            refine lv_if_eq (tgt := 86) hx hb dX8_make_79 (by decide) (fun c_17 => ?_) (fun c_17 => ?_)
            ·
              have ic_17 : r_16.toInt = 0 := tx_eq rfl (by decide) c_17
              refine lv_iconst (v := 0) hx hb dX8_make_86 (by decide) ?_
              refine lv_goto (tgt := 96) hx hb dX8_make_87 (by decide) ?_
              refine lv_istore (lv' := [(4, .int 0), (0, .ref h0), (1, .int p0), (2, .int p1), (3, .int p2)]) hx hb dX8_make_96 hl (by decide) rfl (fun ls hl => ?_)
              refine lv_iload hx hb dX8_make_98 (lv_at hl 0 rfl) ?_
              refine lv_if_ne (tgt := 109) hx hb dX8_make_100 (by decide) (fun c_18 => absurd c_18 (by decide)) (fun c_18 => ?_)
              refine lv_aload_n hx hb dX8_make_103 rfl (lv_at hl 1 rfl) ?_
              refine lv_iconst (v := 1) hx hb dX8_make_104 (by decide) ?_
              have hPc := hP.sub (ws' := [(h0, .inr (8, [.int th, .ref q1, v2, .ref q3, .ref q4, .ref q5, .ref q6, .ref q7, .ref q8, v9, v10, v11, v12, v13, v14, v15, v16]))]) [0] rfl
              have hDc := hD.sub (ws' := [(h0, .inr (8, [.int th, .ref q1, v2, .ref q3, .ref q4, .ref q5, .ref q6, .ref q7, .ref q8, v9, v10, v11, v12, v13, v14, v15, v16]))]) [0] (by decide) rfl
              have hKc := hK.sub (tys' := []) [] rfl
              have hFc := va_free (wc := [(h0, .inr (8, [.int th, .ref q1, v2, .ref q3, .ref q4, .ref q5, .ref q6, .ref q7, .ref q8, v9, v10, v11, v12, v13, v14, v15, v16]))]) hD hS hA [0] rfl
              refine va_calli (va_runV (As := [.int 1]) (rest := []) ⟨hx, hb, hml, hown, hts⟩ (c_X8_refuse l  dC dI H.size h0 th 1 (.ref q1) v2 (.ref q3) (.ref q4) (.ref q5) (.ref q6) (.ref q7) (.ref q8) v9 v10 v11 v12 v13 v14 v15 v16) (cwV 1 hts gX8_make_X8_refuse rfl rfl rfl (by decide +kernel) ⟨(Nat.le_of_ble_eq_true rfl), (Nat.le_of_ble_eq_true rfl)⟩) ⟨pk_blind, va_recv hKc hPc (ci := 8) (q0 := 0) rfl rfl, pk_call hPc hKc hDc⟩ rfl rfl hl.1 rfl (lv_room (Nat.le_of_ble_eq_true rfl)) dX8_make_105 ⟨(Nat.le_of_ble_eq_true rfl), (Nat.le_of_ble_eq_true rfl)⟩) hS (fun q _ h => hFc q h) hFc (fun r_19 ur_19 t H1 locs ht hvm hw hB hz1 hk1 hS => ?_)
              try dsimp only at hw
              have jr_19 := hw
              obtain ⟨hP1, hK1, hD1⟩ := hB
              rw [ht] at hP1
              have hK1 := va_K.moved hvm.symm hK1
              obtain ⟨hP, hD⟩ := va_join (wr := [(q1, .inl (c1, 16, .inl (fun _ => (0 : Int32)))), (q3, .inl (c3, 16, .inl (fun _ => (0 : Int32)))), (q4, .inl (c4, 16, .inl (fun _ => (0 : Int32)))), (q5, .inl (c5, 16, .inl (fun _ => (0 : Int32)))), (q6, .inl (c6, 16, .inl (fun _ => (0 : Int32)))), (q7, .inl (c7, 16, .inl (fun _ => (0 : Int32)))), (q8, .inl (c8, 16, .inl (fun _ => (0 : Int32))))]) (w1 := [(h0, .inr (8, [.int 1, .ref q1, v2, .ref q3, .ref q4, .ref q5, .ref q6, .ref q7, .ref q8, v9, v10, v11, v12, v13, v14, v15, v16]))]) hP hD [0] [1, 2, 3, 4, 5, 6, 7] rfl rfl (by decide) (by decide) hk1 hFc hP1 hD1
              clear hk1 hz1 ht hPc hDc hKc
              generalize H1 = H at hP hS ⊢
              have hP : va_P (dC, dI) vwCl [(q1, .inl (c1, 16, .inl (fun _ => (0 : Int32)))), (q3, .inl (c3, 16, .inl (fun _ => (0 : Int32)))), (q4, .inl (c4, 16, .inl (fun _ => (0 : Int32)))), (q5, .inl (c5, 16, .inl (fun _ => (0 : Int32)))), (q6, .inl (c6, 16, .inl (fun _ => (0 : Int32)))), (q7, .inl (c7, 16, .inl (fun _ => (0 : Int32)))), (q8, .inl (c8, 16, .inl (fun _ => (0 : Int32)))), (h0, .inr (8, [.int 1, .ref q1, v2, .ref q3, .ref q4, .ref q5, .ref q6, .ref q7, .ref q8, v9, v10, v11, v12, v13, v14, v15, v16]))] H := hP
              have hD : va_D A [(q1, .inl (c1, 16, .inl (fun _ => (0 : Int32)))), (q3, .inl (c3, 16, .inl (fun _ => (0 : Int32)))), (q4, .inl (c4, 16, .inl (fun _ => (0 : Int32)))), (q5, .inl (c5, 16, .inl (fun _ => (0 : Int32)))), (q6, .inl (c6, 16, .inl (fun _ => (0 : Int32)))), (q7, .inl (c7, 16, .inl (fun _ => (0 : Int32)))), (q8, .inl (c8, 16, .inl (fun _ => (0 : Int32)))), (h0, .inr (8, [.int 1, .ref q1, v2, .ref q3, .ref q4, .ref q5, .ref q6, .ref q7, .ref q8, v9, v10, v11, v12, v13, v14, v15, v16]))] := hD
              refine W.widen (k := 0) (n := 0) (Nat.le_of_ble_eq_true rfl) (Nat.le_of_ble_eq_true rfl) ?_
              refine W.eq (g2 := F0 m 108 ls [.int r_19]) rfl ?_
              have hP9 := hP.sub (ws' := [(h0, .inr (8, [.int 1, .ref q1, v2, .ref q3, .ref q4, .ref q5, .ref q6, .ref q7, .ref q8, v9, v10, v11, v12, v13, v14, v15, v16]))]) [7] rfl
              have hD9 := hD.sub (ws' := [(h0, .inr (8, [.int 1, .ref q1, v2, .ref q3, .ref q4, .ref q5, .ref q6, .ref q7, .ref q8, v9, v10, v11, v12, v13, v14, v15, v16]))]) [7] (by decide) rfl
              have hK9 := hK.sub (tys' := []) [] rfl
              refine W.widen (k := 0) (n := 0) (Nat.le_of_ble_eq_true rfl) (Nat.le_of_ble_eq_true rfl) ?_
              exact W.iret (v := r_19) hx hb hr (fun t ht hW => ⟨⟨r_19, 1, rfl, ⟨tx_at (P := mkIs p0 p1 p2) (n := 1) (by decide) (by unfold mkIs; omega), fun h => absurd h (by decide)⟩, by rw [ht]; exact hP9, va_K.moved hW.alike hK9, hD9⟩, hS.F ht⟩) hS.2.2 dX8_make_108
            ·
              have ic_17 : ¬ r_16.toInt = 0 := tx_ne rfl (by decide) c_17
              refine lv_iconst (v := 1) hx hb dX8_make_82 (by decide) ?_
              refine lv_goto (tgt := 96) hx hb dX8_make_83 (by decide) ?_
              refine lv_istore (lv' := [(4, .int 1), (0, .ref h0), (1, .int p0), (2, .int p1), (3, .int p2)]) hx hb dX8_make_96 hl (by decide) rfl (fun ls hl => ?_)
              refine lv_iload hx hb dX8_make_98 (lv_at hl 0 rfl) ?_
              refine lv_if_ne (tgt := 109) hx hb dX8_make_100 (by decide) (fun c_20 => ?_) (fun c_20 => absurd c_20 (by decide))
              refine lv_aload_n hx hb dX8_make_109 rfl (lv_at hl 1 rfl) ?_
              have hPc := hP.sub (ws' := [(h0, .inr (8, [.int th, .ref q1, v2, .ref q3, .ref q4, .ref q5, .ref q6, .ref q7, .ref q8, v9, v10, v11, v12, v13, v14, v15, v16])), (q1, .inl (c1, 16, .inl (fun _ => (0 : Int32))))]) [0, 1] rfl
              have hDc := hD.sub (ws' := [(h0, .inr (8, [.int th, .ref q1, v2, .ref q3, .ref q4, .ref q5, .ref q6, .ref q7, .ref q8, v9, v10, v11, v12, v13, v14, v15, v16])), (q1, .inl (c1, 16, .inl (fun _ => (0 : Int32))))]) [0, 1] (by decide) rfl
              have hKc := hK.sub (tys' := [(c1, .int)]) [0] rfl
              have hFc := va_free (wc := [(h0, .inr (8, [.int th, .ref q1, v2, .ref q3, .ref q4, .ref q5, .ref q6, .ref q7, .ref q8, v9, v10, v11, v12, v13, v14, v15, v16])), (q1, .inl (c1, 16, .inl (fun _ => (0 : Int32))))]) hD hS hA [0, 1] rfl
              refine va_calli (va_runV (As := []) (rest := []) ⟨hx, hb, hml, hown, hts⟩ (c_X8_free l  dC dI H.size h0 q1 c1 th v2 (.ref q3) (.ref q4) (.ref q5) (.ref q6) (.ref q7) (.ref q8) v9 v10 v11 v12 v13 v14 v15 v16) (cwV 0 hts gX8_make_X8_free rfl rfl rfl (by decide +kernel) ⟨(Nat.le_of_ble_eq_true rfl), (Nat.le_of_ble_eq_true rfl)⟩) ⟨pk_blind, va_recv hKc hPc (ci := 8) (q0 := 0) rfl rfl, pk_call hPc hKc hDc⟩ rfl rfl hl.1 rfl (lv_room (Nat.le_of_ble_eq_true rfl)) dX8_make_110 ⟨(Nat.le_of_ble_eq_true rfl), (Nat.le_of_ble_eq_true rfl)⟩) hS (fun q _ h => hFc q h) hFc (fun r_21 ur_21 t H1 locs ht hvm hw hB hz1 hk1 hS => ?_)
              try dsimp only at hw
              obtain ⟨hP1, hK1, hD1⟩ := hB
              rw [ht] at hP1
              have hK1 := va_K.moved hvm.symm hK1
              obtain ⟨hP, hD⟩ := va_join (wr := [(q3, .inl (c3, 16, .inl (fun _ => (0 : Int32)))), (q4, .inl (c4, 16, .inl (fun _ => (0 : Int32)))), (q5, .inl (c5, 16, .inl (fun _ => (0 : Int32)))), (q6, .inl (c6, 16, .inl (fun _ => (0 : Int32)))), (q7, .inl (c7, 16, .inl (fun _ => (0 : Int32)))), (q8, .inl (c8, 16, .inl (fun _ => (0 : Int32))))]) (w1 := [(h0, .inr (8, [.int th, .ref q1, v2, .ref q3, .ref q4, .ref q5, .ref q6, .ref q7, .ref q8, v9, v10, v11, v12, v13, v14, v15, v16])), (q1, .inl (c1, 16, .inl (fun _ => (0 : Int32))))]) hP hD [0, 1] [2, 3, 4, 5, 6, 7] rfl rfl (by decide) (by decide) hk1 hFc hP1 hD1
              clear hk1 hz1 ht hPc hDc hKc
              generalize H1 = H at hP hS ⊢
              have hP : va_P (dC, dI) vwCl [(q3, .inl (c3, 16, .inl (fun _ => (0 : Int32)))), (q4, .inl (c4, 16, .inl (fun _ => (0 : Int32)))), (q5, .inl (c5, 16, .inl (fun _ => (0 : Int32)))), (q6, .inl (c6, 16, .inl (fun _ => (0 : Int32)))), (q7, .inl (c7, 16, .inl (fun _ => (0 : Int32)))), (q8, .inl (c8, 16, .inl (fun _ => (0 : Int32)))), (h0, .inr (8, [.int th, .ref q1, v2, .ref q3, .ref q4, .ref q5, .ref q6, .ref q7, .ref q8, v9, v10, v11, v12, v13, v14, v15, v16])), (q1, .inl (c1, 16, .inl (fun _ => (0 : Int32))))] H := hP
              have hD : va_D A [(q3, .inl (c3, 16, .inl (fun _ => (0 : Int32)))), (q4, .inl (c4, 16, .inl (fun _ => (0 : Int32)))), (q5, .inl (c5, 16, .inl (fun _ => (0 : Int32)))), (q6, .inl (c6, 16, .inl (fun _ => (0 : Int32)))), (q7, .inl (c7, 16, .inl (fun _ => (0 : Int32)))), (q8, .inl (c8, 16, .inl (fun _ => (0 : Int32)))), (h0, .inr (8, [.int th, .ref q1, v2, .ref q3, .ref q4, .ref q5, .ref q6, .ref q7, .ref q8, v9, v10, v11, v12, v13, v14, v15, v16])), (q1, .inl (c1, 16, .inl (fun _ => (0 : Int32))))] := hD
              refine W.widen (k := 0) (n := 0) (Nat.le_of_ble_eq_true rfl) (Nat.le_of_ble_eq_true rfl) ?_
              obtain rfl : r_21 = 0 := hw
              refine W.eq (g2 := F0 m 113 ls [.int 0]) rfl ?_
              refine lv_istore (lv' := [(5, .int 0), (4, .int 1), (0, .ref h0), (1, .int p0), (2, .int p1), (3, .int p2)]) hx hb dX8_make_113 hl (by decide) rfl (fun ls hl => ?_)
              refine lv_iload hx hb dX8_make_115 (lv_at hl 0 rfl) ?_
              refine lv_if_ge (tgt := 126) hx hb dX8_make_117 (by decide) (fun c_22 => ?_) (fun c_22 => absurd c_22 (by decide))
              refine lv_aload_n hx hb dX8_make_126 rfl (lv_at hl 2 rfl) ?_
              refine lv_iconst (v := 0) hx hb dX8_make_127 (by decide) ?_
              refine va_put (D := (dC, dI)) (ci := 8) (v := .int 0) (ty := .int) (C := RX8) (T := TX8) (N := 17) hx hb hts (by decide +kernel) tyX8 tyX8_ok nmX8 hown hK hP hD hS 6 rfl rfl 0 (by decide) (hts (.fieldLink RX8 60 "KeyAtlasModel" "thrown" "I") (by decide +kernel)) (fun _ h9 => h9) rfl (by decide +kernel) rfl rfl (Nat.le_of_ble_eq_true rfl) dX8_make_128 (fun H locs hP hD hS => ?_)
              have hP : va_P (dC, dI) vwCl [(q3, .inl (c3, 16, .inl (fun _ => (0 : Int32)))), (q4, .inl (c4, 16, .inl (fun _ => (0 : Int32)))), (q5, .inl (c5, 16, .inl (fun _ => (0 : Int32)))), (q6, .inl (c6, 16, .inl (fun _ => (0 : Int32)))), (q7, .inl (c7, 16, .inl (fun _ => (0 : Int32)))), (q8, .inl (c8, 16, .inl (fun _ => (0 : Int32)))), (h0, .inr (8, [.int 0, .ref q1, v2, .ref q3, .ref q4, .ref q5, .ref q6, .ref q7, .ref q8, v9, v10, v11, v12, v13, v14, v15, v16])), (q1, .inl (c1, 16, .inl (fun _ => (0 : Int32))))] H := hP
              have hD : va_D A [(q3, .inl (c3, 16, .inl (fun _ => (0 : Int32)))), (q4, .inl (c4, 16, .inl (fun _ => (0 : Int32)))), (q5, .inl (c5, 16, .inl (fun _ => (0 : Int32)))), (q6, .inl (c6, 16, .inl (fun _ => (0 : Int32)))), (q7, .inl (c7, 16, .inl (fun _ => (0 : Int32)))), (q8, .inl (c8, 16, .inl (fun _ => (0 : Int32)))), (h0, .inr (8, [.int 0, .ref q1, v2, .ref q3, .ref q4, .ref q5, .ref q6, .ref q7, .ref q8, v9, v10, v11, v12, v13, v14, v15, v16])), (q1, .inl (c1, 16, .inl (fun _ => (0 : Int32))))] := hD
              refine lv_aload_n hx hb dX8_make_131 rfl (lv_at hl 2 rfl) ?_
              refine lv_iload hx hb dX8_make_132 (lv_at hl 0 rfl) ?_
              refine lv_iload_n hx hb dX8_make_134 rfl (lv_at hl 3 rfl) ?_
              refine lv_iconst (v := 1) hx hb dX8_make_135 (by decide) ?_
              refine lv_iadd hx hb dX8_make_136 ?_
              have hPc := hP.sub (ws' := [(h0, .inr (8, [.int 0, .ref q1, v2, .ref q3, .ref q4, .ref q5, .ref q6, .ref q7, .ref q8, v9, v10, v11, v12, v13, v14, v15, v16])), (q1, .inl (c1, 16, .inl (fun _ => (0 : Int32)))), (q3, .inl (c3, 16, .inl (fun _ => (0 : Int32)))), (q6, .inl (c6, 16, .inl (fun _ => (0 : Int32)))), (q7, .inl (c7, 16, .inl (fun _ => (0 : Int32)))), (q8, .inl (c8, 16, .inl (fun _ => (0 : Int32))))]) [6, 7, 0, 3, 4, 5] rfl
              have hDc := hD.sub (ws' := [(h0, .inr (8, [.int 0, .ref q1, v2, .ref q3, .ref q4, .ref q5, .ref q6, .ref q7, .ref q8, v9, v10, v11, v12, v13, v14, v15, v16])), (q1, .inl (c1, 16, .inl (fun _ => (0 : Int32)))), (q3, .inl (c3, 16, .inl (fun _ => (0 : Int32)))), (q6, .inl (c6, 16, .inl (fun _ => (0 : Int32)))), (q7, .inl (c7, 16, .inl (fun _ => (0 : Int32)))), (q8, .inl (c8, 16, .inl (fun _ => (0 : Int32))))]) [6, 7, 0, 3, 4, 5] (by decide) rfl
              have hKc := hK.sub (tys' := [(c1, .int), (c3, .int), (c6, .int), (c7, .int), (c8, .int)]) [0, 1, 4, 5, 6] rfl
              have hFc := va_free (wc := [(h0, .inr (8, [.int 0, .ref q1, v2, .ref q3, .ref q4, .ref q5, .ref q6, .ref q7, .ref q8, v9, v10, v11, v12, v13, v14, v15, v16])), (q1, .inl (c1, 16, .inl (fun _ => (0 : Int32)))), (q3, .inl (c3, 16, .inl (fun _ => (0 : Int32)))), (q6, .inl (c6, 16, .inl (fun _ => (0 : Int32)))), (q7, .inl (c7, 16, .inl (fun _ => (0 : Int32)))), (q8, .inl (c8, 16, .inl (fun _ => (0 : Int32))))]) hD hS hA [6, 7, 0, 3, 4, 5] rfl
              refine va_calli (va_runV (As := [.int 0, .int (p0 + 1)]) (rest := []) ⟨hx, hb, hml, hown, hts⟩ (c_X8_born l  dC dI H.size h0 0 q1 q3 q6 q7 q8 c1 c3 c6 c7 c8 v2 (.ref q4) (.ref q5) v9 v10 v11 v12 v13 v14 v15 v16 (p0 + 1)) (cwV 2 hts gX8_make_X8_born rfl rfl rfl (by decide +kernel) ⟨(Nat.le_of_ble_eq_true rfl), (Nat.le_of_ble_eq_true rfl)⟩) ⟨pk_blind, va_recv hKc hPc (ci := 8) (q0 := 0) rfl rfl, pk_call hPc hKc hDc⟩ rfl rfl hl.1 rfl (lv_room (Nat.le_of_ble_eq_true rfl)) dX8_make_137 ⟨(Nat.le_of_ble_eq_true rfl), (Nat.le_of_ble_eq_true rfl)⟩) hS (fun q _ h => hFc q h) hFc (fun r_23 ur_23 t H1 locs ht hvm hw hB hz1 hk1 hS => ?_)
              try dsimp only at hw
              have jr_23 := hw
              obtain ⟨hP1, hK1, hD1⟩ := hB
              rw [ht] at hP1
              have hK1 := va_K.moved hvm.symm hK1
              obtain ⟨hP, hD⟩ := va_join (wr := [(q4, .inl (c4, 16, .inl (fun _ => (0 : Int32)))), (q5, .inl (c5, 16, .inl (fun _ => (0 : Int32))))]) (w1 := [(h0, .inr (8, [.int 0, .ref q1, v2, .ref q3, .ref q4, .ref q5, .ref q6, .ref q7, .ref q8, v9, v10, v11, v12, v13, v14, v15, v16]))]) hP hD [6, 7, 0, 3, 4, 5] [1, 2] rfl rfl (by decide) (by decide) hk1 hFc hP1 hD1
              clear hk1 hz1 ht hPc hDc hKc
              generalize H1 = H at hP hS ⊢
              have hP : va_P (dC, dI) vwCl [(q4, .inl (c4, 16, .inl (fun _ => (0 : Int32)))), (q5, .inl (c5, 16, .inl (fun _ => (0 : Int32)))), (h0, .inr (8, [.int 0, .ref q1, v2, .ref q3, .ref q4, .ref q5, .ref q6, .ref q7, .ref q8, v9, v10, v11, v12, v13, v14, v15, v16]))] H := hP
              have hD : va_D A [(q4, .inl (c4, 16, .inl (fun _ => (0 : Int32)))), (q5, .inl (c5, 16, .inl (fun _ => (0 : Int32)))), (h0, .inr (8, [.int 0, .ref q1, v2, .ref q3, .ref q4, .ref q5, .ref q6, .ref q7, .ref q8, v9, v10, v11, v12, v13, v14, v15, v16]))] := hD
              refine W.widen (k := 0) (n := 0) (Nat.le_of_ble_eq_true rfl) (Nat.le_of_ble_eq_true rfl) ?_
              refine W.eq (g2 := F0 m 140 ls [.int r_23]) rfl ?_
              refine lv_pop hx hb dX8_make_140 rfl ?_
              refine lv_aload_n hx hb dX8_make_141 rfl (lv_at hl 2 rfl) ?_
              refine va_get (D := (dC, dI)) (ci := 8) (v := .ref q4) (C := RX8) (T := TX8) (N := 17) hx hb hts (by decide +kernel) hown hK hP 2 rfl rfl 4 (by decide) (hts (.fieldLink RX8 20 "KeyAtlasModel" "first" "[I") (by decide +kernel)) (fun _ h9 => h9) rfl dX8_make_142 ?_
              refine lv_iload hx hb dX8_make_145 (lv_at hl 0 rfl) ?_
              refine lv_iload_n hx hb dX8_make_147 rfl (lv_at hl 4 rfl) ?_
              refine va_iast (i := 0) hx hb hK hP hD hS 0 2 rfl rfl (by unfold vp_in; decide) dX8_make_148 (fun H locs hP hD hS => ?_)
              have hP : va_P (dC, dI) vwCl [(q4, .inl (c4, 16, .inl (upd (fun _ => (0 : Int32)) (0 : Int32).toNatClampNeg p1))), (q5, .inl (c5, 16, .inl (fun _ => (0 : Int32)))), (h0, .inr (8, [.int 0, .ref q1, v2, .ref q3, .ref q4, .ref q5, .ref q6, .ref q7, .ref q8, v9, v10, v11, v12, v13, v14, v15, v16]))] H := hP
              have hD : va_D A [(q4, .inl (c4, 16, .inl (upd (fun _ => (0 : Int32)) (0 : Int32).toNatClampNeg p1))), (q5, .inl (c5, 16, .inl (fun _ => (0 : Int32)))), (h0, .inr (8, [.int 0, .ref q1, v2, .ref q3, .ref q4, .ref q5, .ref q6, .ref q7, .ref q8, v9, v10, v11, v12, v13, v14, v15, v16]))] := hD
              refine lv_aload_n hx hb dX8_make_149 rfl (lv_at hl 2 rfl) ?_
              refine va_get (D := (dC, dI)) (ci := 8) (v := .ref q5) (C := RX8) (T := TX8) (N := 17) hx hb hts (by decide +kernel) hown hK hP 2 rfl rfl 5 (by decide) (hts (.fieldLink RX8 23 "KeyAtlasModel" "second" "[I") (by decide +kernel)) (fun _ h9 => h9) rfl dX8_make_150 ?_
              refine lv_iload hx hb dX8_make_153 (lv_at hl 0 rfl) ?_
              refine lv_iload_n hx hb dX8_make_155 rfl (lv_at hl 5 rfl) ?_
              refine va_iast (i := 0) hx hb hK hP hD hS 1 3 rfl rfl (by unfold vp_in; decide) dX8_make_156 (fun H locs hP hD hS => ?_)
              have hP : va_P (dC, dI) vwCl [(q4, .inl (c4, 16, .inl (upd (fun _ => (0 : Int32)) (0 : Int32).toNatClampNeg p1))), (q5, .inl (c5, 16, .inl (upd (fun _ => (0 : Int32)) (0 : Int32).toNatClampNeg p2))), (h0, .inr (8, [.int 0, .ref q1, v2, .ref q3, .ref q4, .ref q5, .ref q6, .ref q7, .ref q8, v9, v10, v11, v12, v13, v14, v15, v16]))] H := hP
              have hD : va_D A [(q4, .inl (c4, 16, .inl (upd (fun _ => (0 : Int32)) (0 : Int32).toNatClampNeg p1))), (q5, .inl (c5, 16, .inl (upd (fun _ => (0 : Int32)) (0 : Int32).toNatClampNeg p2))), (h0, .inr (8, [.int 0, .ref q1, v2, .ref q3, .ref q4, .ref q5, .ref q6, .ref q7, .ref q8, v9, v10, v11, v12, v13, v14, v15, v16]))] := hD
              refine lv_iload hx hb dX8_make_157 (lv_at hl 0 rfl) ?_
              have hP9 := hP.sub (ws' := [(h0, .inr (8, [.int 0, .ref q1, v2, .ref q3, .ref q4, .ref q5, .ref q6, .ref q7, .ref q8, v9, v10, v11, v12, v13, v14, v15, v16]))]) [2] rfl
              have hD9 := hD.sub (ws' := [(h0, .inr (8, [.int 0, .ref q1, v2, .ref q3, .ref q4, .ref q5, .ref q6, .ref q7, .ref q8, v9, v10, v11, v12, v13, v14, v15, v16]))]) [2] (by decide) rfl
              have hK9 := hK.sub (tys' := []) [] rfl
              refine W.widen (k := 0) (n := 0) (Nat.le_of_ble_eq_true rfl) (Nat.le_of_ble_eq_true rfl) ?_
              exact W.iret (v := 0) hx hb hr (fun t ht hW => ⟨⟨0, 0, rfl, ⟨tx_at (P := mkIs p0 p1 p2) (n := 0) (by decide) (by unfold mkIs; omega), fun _ => rfl⟩, by rw [ht]; exact hP9, va_K.moved hW.alike hK9, hD9⟩, hS.F ht⟩) hS.2.2 dX8_make_159
      ·
        have ic_4 : p0.toInt = 0 := tx_eq rfl (by decide) c_4
        refine lv_iload_n hx hb dX8_make_33 rfl (lv_at hl 2 rfl) ?_
        refine lv_sipush (v := 1000) hx hb dX8_make_34 (by decide) ?_
        refine lv_icmp_gt (tgt := 53) hx hb dX8_make_37 (by decide) (fun c_24 => ?_) (fun c_24 => ?_)
        ·
          have ic_24 : 1000 < p1.toInt := tx_lt (by decide) rfl c_24
          refine lv_iconst (v := 0) hx hb dX8_make_53 (by decide) ?_
          refine lv_goto (tgt := 96) hx hb dX8_make_54 (by decide) ?_
          refine lv_istore (lv' := [(4, .int 0), (0, .ref h0), (1, .int p0), (2, .int p1), (3, .int p2)]) hx hb dX8_make_96 hl (by decide) rfl (fun ls hl => ?_)
          refine lv_iload hx hb dX8_make_98 (lv_at hl 0 rfl) ?_
          refine lv_if_ne (tgt := 109) hx hb dX8_make_100 (by decide) (fun c_25 => absurd c_25 (by decide)) (fun c_25 => ?_)
          refine lv_aload_n hx hb dX8_make_103 rfl (lv_at hl 1 rfl) ?_
          refine lv_iconst (v := 1) hx hb dX8_make_104 (by decide) ?_
          have hPc := hP.sub (ws' := [(h0, .inr (8, [.int th, .ref q1, v2, .ref q3, .ref q4, .ref q5, .ref q6, .ref q7, .ref q8, v9, v10, v11, v12, v13, v14, v15, v16]))]) [0] rfl
          have hDc := hD.sub (ws' := [(h0, .inr (8, [.int th, .ref q1, v2, .ref q3, .ref q4, .ref q5, .ref q6, .ref q7, .ref q8, v9, v10, v11, v12, v13, v14, v15, v16]))]) [0] (by decide) rfl
          have hKc := hK.sub (tys' := []) [] rfl
          have hFc := va_free (wc := [(h0, .inr (8, [.int th, .ref q1, v2, .ref q3, .ref q4, .ref q5, .ref q6, .ref q7, .ref q8, v9, v10, v11, v12, v13, v14, v15, v16]))]) hD hS hA [0] rfl
          refine va_calli (va_runV (As := [.int 1]) (rest := []) ⟨hx, hb, hml, hown, hts⟩ (c_X8_refuse l  dC dI H.size h0 th 1 (.ref q1) v2 (.ref q3) (.ref q4) (.ref q5) (.ref q6) (.ref q7) (.ref q8) v9 v10 v11 v12 v13 v14 v15 v16) (cwV 1 hts gX8_make_X8_refuse rfl rfl rfl (by decide +kernel) ⟨(Nat.le_of_ble_eq_true rfl), (Nat.le_of_ble_eq_true rfl)⟩) ⟨pk_blind, va_recv hKc hPc (ci := 8) (q0 := 0) rfl rfl, pk_call hPc hKc hDc⟩ rfl rfl hl.1 rfl (lv_room (Nat.le_of_ble_eq_true rfl)) dX8_make_105 ⟨(Nat.le_of_ble_eq_true rfl), (Nat.le_of_ble_eq_true rfl)⟩) hS (fun q _ h => hFc q h) hFc (fun r_26 ur_26 t H1 locs ht hvm hw hB hz1 hk1 hS => ?_)
          try dsimp only at hw
          have jr_26 := hw
          obtain ⟨hP1, hK1, hD1⟩ := hB
          rw [ht] at hP1
          have hK1 := va_K.moved hvm.symm hK1
          obtain ⟨hP, hD⟩ := va_join (wr := [(q1, .inl (c1, 16, .inl (fun _ => (0 : Int32)))), (q3, .inl (c3, 16, .inl (fun _ => (0 : Int32)))), (q4, .inl (c4, 16, .inl (fun _ => (0 : Int32)))), (q5, .inl (c5, 16, .inl (fun _ => (0 : Int32)))), (q6, .inl (c6, 16, .inl (fun _ => (0 : Int32)))), (q7, .inl (c7, 16, .inl (fun _ => (0 : Int32)))), (q8, .inl (c8, 16, .inl (fun _ => (0 : Int32))))]) (w1 := [(h0, .inr (8, [.int 1, .ref q1, v2, .ref q3, .ref q4, .ref q5, .ref q6, .ref q7, .ref q8, v9, v10, v11, v12, v13, v14, v15, v16]))]) hP hD [0] [1, 2, 3, 4, 5, 6, 7] rfl rfl (by decide) (by decide) hk1 hFc hP1 hD1
          clear hk1 hz1 ht hPc hDc hKc
          generalize H1 = H at hP hS ⊢
          have hP : va_P (dC, dI) vwCl [(q1, .inl (c1, 16, .inl (fun _ => (0 : Int32)))), (q3, .inl (c3, 16, .inl (fun _ => (0 : Int32)))), (q4, .inl (c4, 16, .inl (fun _ => (0 : Int32)))), (q5, .inl (c5, 16, .inl (fun _ => (0 : Int32)))), (q6, .inl (c6, 16, .inl (fun _ => (0 : Int32)))), (q7, .inl (c7, 16, .inl (fun _ => (0 : Int32)))), (q8, .inl (c8, 16, .inl (fun _ => (0 : Int32)))), (h0, .inr (8, [.int 1, .ref q1, v2, .ref q3, .ref q4, .ref q5, .ref q6, .ref q7, .ref q8, v9, v10, v11, v12, v13, v14, v15, v16]))] H := hP
          have hD : va_D A [(q1, .inl (c1, 16, .inl (fun _ => (0 : Int32)))), (q3, .inl (c3, 16, .inl (fun _ => (0 : Int32)))), (q4, .inl (c4, 16, .inl (fun _ => (0 : Int32)))), (q5, .inl (c5, 16, .inl (fun _ => (0 : Int32)))), (q6, .inl (c6, 16, .inl (fun _ => (0 : Int32)))), (q7, .inl (c7, 16, .inl (fun _ => (0 : Int32)))), (q8, .inl (c8, 16, .inl (fun _ => (0 : Int32)))), (h0, .inr (8, [.int 1, .ref q1, v2, .ref q3, .ref q4, .ref q5, .ref q6, .ref q7, .ref q8, v9, v10, v11, v12, v13, v14, v15, v16]))] := hD
          refine W.widen (k := 0) (n := 0) (Nat.le_of_ble_eq_true rfl) (Nat.le_of_ble_eq_true rfl) ?_
          refine W.eq (g2 := F0 m 108 ls [.int r_26]) rfl ?_
          have hP9 := hP.sub (ws' := [(h0, .inr (8, [.int 1, .ref q1, v2, .ref q3, .ref q4, .ref q5, .ref q6, .ref q7, .ref q8, v9, v10, v11, v12, v13, v14, v15, v16]))]) [7] rfl
          have hD9 := hD.sub (ws' := [(h0, .inr (8, [.int 1, .ref q1, v2, .ref q3, .ref q4, .ref q5, .ref q6, .ref q7, .ref q8, v9, v10, v11, v12, v13, v14, v15, v16]))]) [7] (by decide) rfl
          have hK9 := hK.sub (tys' := []) [] rfl
          refine W.widen (k := 0) (n := 0) (Nat.le_of_ble_eq_true rfl) (Nat.le_of_ble_eq_true rfl) ?_
          exact W.iret (v := r_26) hx hb hr (fun t ht hW => ⟨⟨r_26, 1, rfl, ⟨tx_at (P := mkIs p0 p1 p2) (n := 1) (by decide) (by unfold mkIs; omega), fun h => absurd h (by decide)⟩, by rw [ht]; exact hP9, va_K.moved hW.alike hK9, hD9⟩, hS.F ht⟩) hS.2.2 dX8_make_108
        ·
          have ic_24 : p1.toInt ≤ 1000 := tx_nlt (by decide) rfl c_24
          refine lv_iload_n hx hb dX8_make_40 rfl (lv_at hl 3 rfl) ?_
          refine lv_iconst (v := 0) hx hb dX8_make_41 (by decide) ?_
          refine lv_iconst (v := 3) hx hb dX8_make_42 (by decide) ?_
          have hPc := hP.sub (ws' := []) [] rfl
          have hDc := hD.sub (ws' := []) [] (by decide) rfl
          have hKc := hK.sub (tys' := []) [] rfl
          have hFc := va_free (wc := []) hD hS hA [] rfl
          refine va_calli (va_runS (As := [.int p2, .int 0, .int 3]) (rest := []) ⟨hx, hb, hml, hown, hts⟩ (c_X8_in l  dC dI H.size p2 0 3 0 3 (by decide) (by decide)) (va_cwS 3 hts gX8_make_X8_in rfl rfl rfl (by decide +kernel) ⟨(Nat.le_of_ble_eq_true rfl), (Nat.le_of_ble_eq_true rfl)⟩) ⟨pk_blind, pk_call hPc hKc hDc⟩ rfl rfl hl.1 rfl (lv_room (Nat.le_of_ble_eq_true rfl)) dX8_make_43 ⟨(Nat.le_of_ble_eq_true rfl), (Nat.le_of_ble_eq_true rfl)⟩) hS (fun q _ h => hFc q h) hFc (fun r_27 ur_27 t H1 locs ht hvm hw hB hz1 hk1 hS => ?_)
          try dsimp only at hw
          have jr_27 := hw
          obtain ⟨hP, hD⟩ := va_join (wr := [(h0, .inr (8, [.int th, .ref q1, v2, .ref q3, .ref q4, .ref q5, .ref q6, .ref q7, .ref q8, v9, v10, v11, v12, v13, v14, v15, v16])), (q1, .inl (c1, 16, .inl (fun _ => (0 : Int32)))), (q3, .inl (c3, 16, .inl (fun _ => (0 : Int32)))), (q4, .inl (c4, 16, .inl (fun _ => (0 : Int32)))), (q5, .inl (c5, 16, .inl (fun _ => (0 : Int32)))), (q6, .inl (c6, 16, .inl (fun _ => (0 : Int32)))), (q7, .inl (c7, 16, .inl (fun _ => (0 : Int32)))), (q8, .inl (c8, 16, .inl (fun _ => (0 : Int32))))]) (w1 := []) hP hD [] [0, 1, 2, 3, 4, 5, 6, 7] rfl rfl (by decide) (by decide) hk1 hFc tx_P0 tx_D0
          clear hk1 hz1 ht hPc hDc hKc
          generalize H1 = H at hP hS ⊢
          have hP : va_P (dC, dI) vwCl [(h0, .inr (8, [.int th, .ref q1, v2, .ref q3, .ref q4, .ref q5, .ref q6, .ref q7, .ref q8, v9, v10, v11, v12, v13, v14, v15, v16])), (q1, .inl (c1, 16, .inl (fun _ => (0 : Int32)))), (q3, .inl (c3, 16, .inl (fun _ => (0 : Int32)))), (q4, .inl (c4, 16, .inl (fun _ => (0 : Int32)))), (q5, .inl (c5, 16, .inl (fun _ => (0 : Int32)))), (q6, .inl (c6, 16, .inl (fun _ => (0 : Int32)))), (q7, .inl (c7, 16, .inl (fun _ => (0 : Int32)))), (q8, .inl (c8, 16, .inl (fun _ => (0 : Int32))))] H := hP
          have hD : va_D A [(h0, .inr (8, [.int th, .ref q1, v2, .ref q3, .ref q4, .ref q5, .ref q6, .ref q7, .ref q8, v9, v10, v11, v12, v13, v14, v15, v16])), (q1, .inl (c1, 16, .inl (fun _ => (0 : Int32)))), (q3, .inl (c3, 16, .inl (fun _ => (0 : Int32)))), (q4, .inl (c4, 16, .inl (fun _ => (0 : Int32)))), (q5, .inl (c5, 16, .inl (fun _ => (0 : Int32)))), (q6, .inl (c6, 16, .inl (fun _ => (0 : Int32)))), (q7, .inl (c7, 16, .inl (fun _ => (0 : Int32)))), (q8, .inl (c8, 16, .inl (fun _ => (0 : Int32))))] := hD
          refine W.widen (k := 0) (n := 0) (Nat.le_of_ble_eq_true rfl) (Nat.le_of_ble_eq_true rfl) ?_
          refine W.eq (g2 := F0 m 46 ls [.int r_27]) rfl ?_
          refine lv_if_eq (tgt := 53) hx hb dX8_make_46 (by decide) (fun c_28 => ?_) (fun c_28 => ?_)
          ·
            have ic_28 : r_27.toInt = 0 := tx_eq rfl (by decide) c_28
            refine lv_iconst (v := 0) hx hb dX8_make_53 (by decide) ?_
            refine lv_goto (tgt := 96) hx hb dX8_make_54 (by decide) ?_
            refine lv_istore (lv' := [(4, .int 0), (0, .ref h0), (1, .int p0), (2, .int p1), (3, .int p2)]) hx hb dX8_make_96 hl (by decide) rfl (fun ls hl => ?_)
            refine lv_iload hx hb dX8_make_98 (lv_at hl 0 rfl) ?_
            refine lv_if_ne (tgt := 109) hx hb dX8_make_100 (by decide) (fun c_29 => absurd c_29 (by decide)) (fun c_29 => ?_)
            refine lv_aload_n hx hb dX8_make_103 rfl (lv_at hl 1 rfl) ?_
            refine lv_iconst (v := 1) hx hb dX8_make_104 (by decide) ?_
            have hPc := hP.sub (ws' := [(h0, .inr (8, [.int th, .ref q1, v2, .ref q3, .ref q4, .ref q5, .ref q6, .ref q7, .ref q8, v9, v10, v11, v12, v13, v14, v15, v16]))]) [0] rfl
            have hDc := hD.sub (ws' := [(h0, .inr (8, [.int th, .ref q1, v2, .ref q3, .ref q4, .ref q5, .ref q6, .ref q7, .ref q8, v9, v10, v11, v12, v13, v14, v15, v16]))]) [0] (by decide) rfl
            have hKc := hK.sub (tys' := []) [] rfl
            have hFc := va_free (wc := [(h0, .inr (8, [.int th, .ref q1, v2, .ref q3, .ref q4, .ref q5, .ref q6, .ref q7, .ref q8, v9, v10, v11, v12, v13, v14, v15, v16]))]) hD hS hA [0] rfl
            refine va_calli (va_runV (As := [.int 1]) (rest := []) ⟨hx, hb, hml, hown, hts⟩ (c_X8_refuse l  dC dI H.size h0 th 1 (.ref q1) v2 (.ref q3) (.ref q4) (.ref q5) (.ref q6) (.ref q7) (.ref q8) v9 v10 v11 v12 v13 v14 v15 v16) (cwV 1 hts gX8_make_X8_refuse rfl rfl rfl (by decide +kernel) ⟨(Nat.le_of_ble_eq_true rfl), (Nat.le_of_ble_eq_true rfl)⟩) ⟨pk_blind, va_recv hKc hPc (ci := 8) (q0 := 0) rfl rfl, pk_call hPc hKc hDc⟩ rfl rfl hl.1 rfl (lv_room (Nat.le_of_ble_eq_true rfl)) dX8_make_105 ⟨(Nat.le_of_ble_eq_true rfl), (Nat.le_of_ble_eq_true rfl)⟩) hS (fun q _ h => hFc q h) hFc (fun r_30 ur_30 t H1 locs ht hvm hw hB hz1 hk1 hS => ?_)
            try dsimp only at hw
            have jr_30 := hw
            obtain ⟨hP1, hK1, hD1⟩ := hB
            rw [ht] at hP1
            have hK1 := va_K.moved hvm.symm hK1
            obtain ⟨hP, hD⟩ := va_join (wr := [(q1, .inl (c1, 16, .inl (fun _ => (0 : Int32)))), (q3, .inl (c3, 16, .inl (fun _ => (0 : Int32)))), (q4, .inl (c4, 16, .inl (fun _ => (0 : Int32)))), (q5, .inl (c5, 16, .inl (fun _ => (0 : Int32)))), (q6, .inl (c6, 16, .inl (fun _ => (0 : Int32)))), (q7, .inl (c7, 16, .inl (fun _ => (0 : Int32)))), (q8, .inl (c8, 16, .inl (fun _ => (0 : Int32))))]) (w1 := [(h0, .inr (8, [.int 1, .ref q1, v2, .ref q3, .ref q4, .ref q5, .ref q6, .ref q7, .ref q8, v9, v10, v11, v12, v13, v14, v15, v16]))]) hP hD [0] [1, 2, 3, 4, 5, 6, 7] rfl rfl (by decide) (by decide) hk1 hFc hP1 hD1
            clear hk1 hz1 ht hPc hDc hKc
            generalize H1 = H at hP hS ⊢
            have hP : va_P (dC, dI) vwCl [(q1, .inl (c1, 16, .inl (fun _ => (0 : Int32)))), (q3, .inl (c3, 16, .inl (fun _ => (0 : Int32)))), (q4, .inl (c4, 16, .inl (fun _ => (0 : Int32)))), (q5, .inl (c5, 16, .inl (fun _ => (0 : Int32)))), (q6, .inl (c6, 16, .inl (fun _ => (0 : Int32)))), (q7, .inl (c7, 16, .inl (fun _ => (0 : Int32)))), (q8, .inl (c8, 16, .inl (fun _ => (0 : Int32)))), (h0, .inr (8, [.int 1, .ref q1, v2, .ref q3, .ref q4, .ref q5, .ref q6, .ref q7, .ref q8, v9, v10, v11, v12, v13, v14, v15, v16]))] H := hP
            have hD : va_D A [(q1, .inl (c1, 16, .inl (fun _ => (0 : Int32)))), (q3, .inl (c3, 16, .inl (fun _ => (0 : Int32)))), (q4, .inl (c4, 16, .inl (fun _ => (0 : Int32)))), (q5, .inl (c5, 16, .inl (fun _ => (0 : Int32)))), (q6, .inl (c6, 16, .inl (fun _ => (0 : Int32)))), (q7, .inl (c7, 16, .inl (fun _ => (0 : Int32)))), (q8, .inl (c8, 16, .inl (fun _ => (0 : Int32)))), (h0, .inr (8, [.int 1, .ref q1, v2, .ref q3, .ref q4, .ref q5, .ref q6, .ref q7, .ref q8, v9, v10, v11, v12, v13, v14, v15, v16]))] := hD
            refine W.widen (k := 0) (n := 0) (Nat.le_of_ble_eq_true rfl) (Nat.le_of_ble_eq_true rfl) ?_
            refine W.eq (g2 := F0 m 108 ls [.int r_30]) rfl ?_
            have hP9 := hP.sub (ws' := [(h0, .inr (8, [.int 1, .ref q1, v2, .ref q3, .ref q4, .ref q5, .ref q6, .ref q7, .ref q8, v9, v10, v11, v12, v13, v14, v15, v16]))]) [7] rfl
            have hD9 := hD.sub (ws' := [(h0, .inr (8, [.int 1, .ref q1, v2, .ref q3, .ref q4, .ref q5, .ref q6, .ref q7, .ref q8, v9, v10, v11, v12, v13, v14, v15, v16]))]) [7] (by decide) rfl
            have hK9 := hK.sub (tys' := []) [] rfl
            refine W.widen (k := 0) (n := 0) (Nat.le_of_ble_eq_true rfl) (Nat.le_of_ble_eq_true rfl) ?_
            exact W.iret (v := r_30) hx hb hr (fun t ht hW => ⟨⟨r_30, 1, rfl, ⟨tx_at (P := mkIs p0 p1 p2) (n := 1) (by decide) (by unfold mkIs; omega), fun h => absurd h (by decide)⟩, by rw [ht]; exact hP9, va_K.moved hW.alike hK9, hD9⟩, hS.F ht⟩) hS.2.2 dX8_make_108
          ·
            have ic_28 : ¬ r_27.toInt = 0 := tx_ne rfl (by decide) c_28
            refine lv_iconst (v := 1) hx hb dX8_make_49 (by decide) ?_
            refine lv_goto (tgt := 96) hx hb dX8_make_50 (by decide) ?_
            refine lv_istore (lv' := [(4, .int 1), (0, .ref h0), (1, .int p0), (2, .int p1), (3, .int p2)]) hx hb dX8_make_96 hl (by decide) rfl (fun ls hl => ?_)
            refine lv_iload hx hb dX8_make_98 (lv_at hl 0 rfl) ?_
            refine lv_if_ne (tgt := 109) hx hb dX8_make_100 (by decide) (fun c_31 => ?_) (fun c_31 => absurd c_31 (by decide))
            refine lv_aload_n hx hb dX8_make_109 rfl (lv_at hl 1 rfl) ?_
            have hPc := hP.sub (ws' := [(h0, .inr (8, [.int th, .ref q1, v2, .ref q3, .ref q4, .ref q5, .ref q6, .ref q7, .ref q8, v9, v10, v11, v12, v13, v14, v15, v16])), (q1, .inl (c1, 16, .inl (fun _ => (0 : Int32))))]) [0, 1] rfl
            have hDc := hD.sub (ws' := [(h0, .inr (8, [.int th, .ref q1, v2, .ref q3, .ref q4, .ref q5, .ref q6, .ref q7, .ref q8, v9, v10, v11, v12, v13, v14, v15, v16])), (q1, .inl (c1, 16, .inl (fun _ => (0 : Int32))))]) [0, 1] (by decide) rfl
            have hKc := hK.sub (tys' := [(c1, .int)]) [0] rfl
            have hFc := va_free (wc := [(h0, .inr (8, [.int th, .ref q1, v2, .ref q3, .ref q4, .ref q5, .ref q6, .ref q7, .ref q8, v9, v10, v11, v12, v13, v14, v15, v16])), (q1, .inl (c1, 16, .inl (fun _ => (0 : Int32))))]) hD hS hA [0, 1] rfl
            refine va_calli (va_runV (As := []) (rest := []) ⟨hx, hb, hml, hown, hts⟩ (c_X8_free l  dC dI H.size h0 q1 c1 th v2 (.ref q3) (.ref q4) (.ref q5) (.ref q6) (.ref q7) (.ref q8) v9 v10 v11 v12 v13 v14 v15 v16) (cwV 0 hts gX8_make_X8_free rfl rfl rfl (by decide +kernel) ⟨(Nat.le_of_ble_eq_true rfl), (Nat.le_of_ble_eq_true rfl)⟩) ⟨pk_blind, va_recv hKc hPc (ci := 8) (q0 := 0) rfl rfl, pk_call hPc hKc hDc⟩ rfl rfl hl.1 rfl (lv_room (Nat.le_of_ble_eq_true rfl)) dX8_make_110 ⟨(Nat.le_of_ble_eq_true rfl), (Nat.le_of_ble_eq_true rfl)⟩) hS (fun q _ h => hFc q h) hFc (fun r_32 ur_32 t H1 locs ht hvm hw hB hz1 hk1 hS => ?_)
            try dsimp only at hw
            obtain ⟨hP1, hK1, hD1⟩ := hB
            rw [ht] at hP1
            have hK1 := va_K.moved hvm.symm hK1
            obtain ⟨hP, hD⟩ := va_join (wr := [(q3, .inl (c3, 16, .inl (fun _ => (0 : Int32)))), (q4, .inl (c4, 16, .inl (fun _ => (0 : Int32)))), (q5, .inl (c5, 16, .inl (fun _ => (0 : Int32)))), (q6, .inl (c6, 16, .inl (fun _ => (0 : Int32)))), (q7, .inl (c7, 16, .inl (fun _ => (0 : Int32)))), (q8, .inl (c8, 16, .inl (fun _ => (0 : Int32))))]) (w1 := [(h0, .inr (8, [.int th, .ref q1, v2, .ref q3, .ref q4, .ref q5, .ref q6, .ref q7, .ref q8, v9, v10, v11, v12, v13, v14, v15, v16])), (q1, .inl (c1, 16, .inl (fun _ => (0 : Int32))))]) hP hD [0, 1] [2, 3, 4, 5, 6, 7] rfl rfl (by decide) (by decide) hk1 hFc hP1 hD1
            clear hk1 hz1 ht hPc hDc hKc
            generalize H1 = H at hP hS ⊢
            have hP : va_P (dC, dI) vwCl [(q3, .inl (c3, 16, .inl (fun _ => (0 : Int32)))), (q4, .inl (c4, 16, .inl (fun _ => (0 : Int32)))), (q5, .inl (c5, 16, .inl (fun _ => (0 : Int32)))), (q6, .inl (c6, 16, .inl (fun _ => (0 : Int32)))), (q7, .inl (c7, 16, .inl (fun _ => (0 : Int32)))), (q8, .inl (c8, 16, .inl (fun _ => (0 : Int32)))), (h0, .inr (8, [.int th, .ref q1, v2, .ref q3, .ref q4, .ref q5, .ref q6, .ref q7, .ref q8, v9, v10, v11, v12, v13, v14, v15, v16])), (q1, .inl (c1, 16, .inl (fun _ => (0 : Int32))))] H := hP
            have hD : va_D A [(q3, .inl (c3, 16, .inl (fun _ => (0 : Int32)))), (q4, .inl (c4, 16, .inl (fun _ => (0 : Int32)))), (q5, .inl (c5, 16, .inl (fun _ => (0 : Int32)))), (q6, .inl (c6, 16, .inl (fun _ => (0 : Int32)))), (q7, .inl (c7, 16, .inl (fun _ => (0 : Int32)))), (q8, .inl (c8, 16, .inl (fun _ => (0 : Int32)))), (h0, .inr (8, [.int th, .ref q1, v2, .ref q3, .ref q4, .ref q5, .ref q6, .ref q7, .ref q8, v9, v10, v11, v12, v13, v14, v15, v16])), (q1, .inl (c1, 16, .inl (fun _ => (0 : Int32))))] := hD
            refine W.widen (k := 0) (n := 0) (Nat.le_of_ble_eq_true rfl) (Nat.le_of_ble_eq_true rfl) ?_
            obtain rfl : r_32 = 0 := hw
            refine W.eq (g2 := F0 m 113 ls [.int 0]) rfl ?_
            refine lv_istore (lv' := [(5, .int 0), (4, .int 1), (0, .ref h0), (1, .int p0), (2, .int p1), (3, .int p2)]) hx hb dX8_make_113 hl (by decide) rfl (fun ls hl => ?_)
            refine lv_iload hx hb dX8_make_115 (lv_at hl 0 rfl) ?_
            refine lv_if_ge (tgt := 126) hx hb dX8_make_117 (by decide) (fun c_33 => ?_) (fun c_33 => absurd c_33 (by decide))
            refine lv_aload_n hx hb dX8_make_126 rfl (lv_at hl 2 rfl) ?_
            refine lv_iconst (v := 0) hx hb dX8_make_127 (by decide) ?_
            refine va_put (D := (dC, dI)) (ci := 8) (v := .int 0) (ty := .int) (C := RX8) (T := TX8) (N := 17) hx hb hts (by decide +kernel) tyX8 tyX8_ok nmX8 hown hK hP hD hS 6 rfl rfl 0 (by decide) (hts (.fieldLink RX8 60 "KeyAtlasModel" "thrown" "I") (by decide +kernel)) (fun _ h9 => h9) rfl (by decide +kernel) rfl rfl (Nat.le_of_ble_eq_true rfl) dX8_make_128 (fun H locs hP hD hS => ?_)
            have hP : va_P (dC, dI) vwCl [(q3, .inl (c3, 16, .inl (fun _ => (0 : Int32)))), (q4, .inl (c4, 16, .inl (fun _ => (0 : Int32)))), (q5, .inl (c5, 16, .inl (fun _ => (0 : Int32)))), (q6, .inl (c6, 16, .inl (fun _ => (0 : Int32)))), (q7, .inl (c7, 16, .inl (fun _ => (0 : Int32)))), (q8, .inl (c8, 16, .inl (fun _ => (0 : Int32)))), (h0, .inr (8, [.int 0, .ref q1, v2, .ref q3, .ref q4, .ref q5, .ref q6, .ref q7, .ref q8, v9, v10, v11, v12, v13, v14, v15, v16])), (q1, .inl (c1, 16, .inl (fun _ => (0 : Int32))))] H := hP
            have hD : va_D A [(q3, .inl (c3, 16, .inl (fun _ => (0 : Int32)))), (q4, .inl (c4, 16, .inl (fun _ => (0 : Int32)))), (q5, .inl (c5, 16, .inl (fun _ => (0 : Int32)))), (q6, .inl (c6, 16, .inl (fun _ => (0 : Int32)))), (q7, .inl (c7, 16, .inl (fun _ => (0 : Int32)))), (q8, .inl (c8, 16, .inl (fun _ => (0 : Int32)))), (h0, .inr (8, [.int 0, .ref q1, v2, .ref q3, .ref q4, .ref q5, .ref q6, .ref q7, .ref q8, v9, v10, v11, v12, v13, v14, v15, v16])), (q1, .inl (c1, 16, .inl (fun _ => (0 : Int32))))] := hD
            refine lv_aload_n hx hb dX8_make_131 rfl (lv_at hl 2 rfl) ?_
            refine lv_iload hx hb dX8_make_132 (lv_at hl 0 rfl) ?_
            refine lv_iload_n hx hb dX8_make_134 rfl (lv_at hl 3 rfl) ?_
            refine lv_iconst (v := 1) hx hb dX8_make_135 (by decide) ?_
            refine lv_iadd hx hb dX8_make_136 ?_
            have hPc := hP.sub (ws' := [(h0, .inr (8, [.int 0, .ref q1, v2, .ref q3, .ref q4, .ref q5, .ref q6, .ref q7, .ref q8, v9, v10, v11, v12, v13, v14, v15, v16])), (q1, .inl (c1, 16, .inl (fun _ => (0 : Int32)))), (q3, .inl (c3, 16, .inl (fun _ => (0 : Int32)))), (q6, .inl (c6, 16, .inl (fun _ => (0 : Int32)))), (q7, .inl (c7, 16, .inl (fun _ => (0 : Int32)))), (q8, .inl (c8, 16, .inl (fun _ => (0 : Int32))))]) [6, 7, 0, 3, 4, 5] rfl
            have hDc := hD.sub (ws' := [(h0, .inr (8, [.int 0, .ref q1, v2, .ref q3, .ref q4, .ref q5, .ref q6, .ref q7, .ref q8, v9, v10, v11, v12, v13, v14, v15, v16])), (q1, .inl (c1, 16, .inl (fun _ => (0 : Int32)))), (q3, .inl (c3, 16, .inl (fun _ => (0 : Int32)))), (q6, .inl (c6, 16, .inl (fun _ => (0 : Int32)))), (q7, .inl (c7, 16, .inl (fun _ => (0 : Int32)))), (q8, .inl (c8, 16, .inl (fun _ => (0 : Int32))))]) [6, 7, 0, 3, 4, 5] (by decide) rfl
            have hKc := hK.sub (tys' := [(c1, .int), (c3, .int), (c6, .int), (c7, .int), (c8, .int)]) [0, 1, 4, 5, 6] rfl
            have hFc := va_free (wc := [(h0, .inr (8, [.int 0, .ref q1, v2, .ref q3, .ref q4, .ref q5, .ref q6, .ref q7, .ref q8, v9, v10, v11, v12, v13, v14, v15, v16])), (q1, .inl (c1, 16, .inl (fun _ => (0 : Int32)))), (q3, .inl (c3, 16, .inl (fun _ => (0 : Int32)))), (q6, .inl (c6, 16, .inl (fun _ => (0 : Int32)))), (q7, .inl (c7, 16, .inl (fun _ => (0 : Int32)))), (q8, .inl (c8, 16, .inl (fun _ => (0 : Int32))))]) hD hS hA [6, 7, 0, 3, 4, 5] rfl
            refine va_calli (va_runV (As := [.int 0, .int (p0 + 1)]) (rest := []) ⟨hx, hb, hml, hown, hts⟩ (c_X8_born l  dC dI H.size h0 0 q1 q3 q6 q7 q8 c1 c3 c6 c7 c8 v2 (.ref q4) (.ref q5) v9 v10 v11 v12 v13 v14 v15 v16 (p0 + 1)) (cwV 2 hts gX8_make_X8_born rfl rfl rfl (by decide +kernel) ⟨(Nat.le_of_ble_eq_true rfl), (Nat.le_of_ble_eq_true rfl)⟩) ⟨pk_blind, va_recv hKc hPc (ci := 8) (q0 := 0) rfl rfl, pk_call hPc hKc hDc⟩ rfl rfl hl.1 rfl (lv_room (Nat.le_of_ble_eq_true rfl)) dX8_make_137 ⟨(Nat.le_of_ble_eq_true rfl), (Nat.le_of_ble_eq_true rfl)⟩) hS (fun q _ h => hFc q h) hFc (fun r_34 ur_34 t H1 locs ht hvm hw hB hz1 hk1 hS => ?_)
            try dsimp only at hw
            have jr_34 := hw
            obtain ⟨hP1, hK1, hD1⟩ := hB
            rw [ht] at hP1
            have hK1 := va_K.moved hvm.symm hK1
            obtain ⟨hP, hD⟩ := va_join (wr := [(q4, .inl (c4, 16, .inl (fun _ => (0 : Int32)))), (q5, .inl (c5, 16, .inl (fun _ => (0 : Int32))))]) (w1 := [(h0, .inr (8, [.int 0, .ref q1, v2, .ref q3, .ref q4, .ref q5, .ref q6, .ref q7, .ref q8, v9, v10, v11, v12, v13, v14, v15, v16]))]) hP hD [6, 7, 0, 3, 4, 5] [1, 2] rfl rfl (by decide) (by decide) hk1 hFc hP1 hD1
            clear hk1 hz1 ht hPc hDc hKc
            generalize H1 = H at hP hS ⊢
            have hP : va_P (dC, dI) vwCl [(q4, .inl (c4, 16, .inl (fun _ => (0 : Int32)))), (q5, .inl (c5, 16, .inl (fun _ => (0 : Int32)))), (h0, .inr (8, [.int 0, .ref q1, v2, .ref q3, .ref q4, .ref q5, .ref q6, .ref q7, .ref q8, v9, v10, v11, v12, v13, v14, v15, v16]))] H := hP
            have hD : va_D A [(q4, .inl (c4, 16, .inl (fun _ => (0 : Int32)))), (q5, .inl (c5, 16, .inl (fun _ => (0 : Int32)))), (h0, .inr (8, [.int 0, .ref q1, v2, .ref q3, .ref q4, .ref q5, .ref q6, .ref q7, .ref q8, v9, v10, v11, v12, v13, v14, v15, v16]))] := hD
            refine W.widen (k := 0) (n := 0) (Nat.le_of_ble_eq_true rfl) (Nat.le_of_ble_eq_true rfl) ?_
            refine W.eq (g2 := F0 m 140 ls [.int r_34]) rfl ?_
            refine lv_pop hx hb dX8_make_140 rfl ?_
            refine lv_aload_n hx hb dX8_make_141 rfl (lv_at hl 2 rfl) ?_
            refine va_get (D := (dC, dI)) (ci := 8) (v := .ref q4) (C := RX8) (T := TX8) (N := 17) hx hb hts (by decide +kernel) hown hK hP 2 rfl rfl 4 (by decide) (hts (.fieldLink RX8 20 "KeyAtlasModel" "first" "[I") (by decide +kernel)) (fun _ h9 => h9) rfl dX8_make_142 ?_
            refine lv_iload hx hb dX8_make_145 (lv_at hl 0 rfl) ?_
            refine lv_iload_n hx hb dX8_make_147 rfl (lv_at hl 4 rfl) ?_
            refine va_iast (i := 0) hx hb hK hP hD hS 0 2 rfl rfl (by unfold vp_in; decide) dX8_make_148 (fun H locs hP hD hS => ?_)
            have hP : va_P (dC, dI) vwCl [(q4, .inl (c4, 16, .inl (upd (fun _ => (0 : Int32)) (0 : Int32).toNatClampNeg p1))), (q5, .inl (c5, 16, .inl (fun _ => (0 : Int32)))), (h0, .inr (8, [.int 0, .ref q1, v2, .ref q3, .ref q4, .ref q5, .ref q6, .ref q7, .ref q8, v9, v10, v11, v12, v13, v14, v15, v16]))] H := hP
            have hD : va_D A [(q4, .inl (c4, 16, .inl (upd (fun _ => (0 : Int32)) (0 : Int32).toNatClampNeg p1))), (q5, .inl (c5, 16, .inl (fun _ => (0 : Int32)))), (h0, .inr (8, [.int 0, .ref q1, v2, .ref q3, .ref q4, .ref q5, .ref q6, .ref q7, .ref q8, v9, v10, v11, v12, v13, v14, v15, v16]))] := hD
            refine lv_aload_n hx hb dX8_make_149 rfl (lv_at hl 2 rfl) ?_
            refine va_get (D := (dC, dI)) (ci := 8) (v := .ref q5) (C := RX8) (T := TX8) (N := 17) hx hb hts (by decide +kernel) hown hK hP 2 rfl rfl 5 (by decide) (hts (.fieldLink RX8 23 "KeyAtlasModel" "second" "[I") (by decide +kernel)) (fun _ h9 => h9) rfl dX8_make_150 ?_
            refine lv_iload hx hb dX8_make_153 (lv_at hl 0 rfl) ?_
            refine lv_iload_n hx hb dX8_make_155 rfl (lv_at hl 5 rfl) ?_
            refine va_iast (i := 0) hx hb hK hP hD hS 1 3 rfl rfl (by unfold vp_in; decide) dX8_make_156 (fun H locs hP hD hS => ?_)
            have hP : va_P (dC, dI) vwCl [(q4, .inl (c4, 16, .inl (upd (fun _ => (0 : Int32)) (0 : Int32).toNatClampNeg p1))), (q5, .inl (c5, 16, .inl (upd (fun _ => (0 : Int32)) (0 : Int32).toNatClampNeg p2))), (h0, .inr (8, [.int 0, .ref q1, v2, .ref q3, .ref q4, .ref q5, .ref q6, .ref q7, .ref q8, v9, v10, v11, v12, v13, v14, v15, v16]))] H := hP
            have hD : va_D A [(q4, .inl (c4, 16, .inl (upd (fun _ => (0 : Int32)) (0 : Int32).toNatClampNeg p1))), (q5, .inl (c5, 16, .inl (upd (fun _ => (0 : Int32)) (0 : Int32).toNatClampNeg p2))), (h0, .inr (8, [.int 0, .ref q1, v2, .ref q3, .ref q4, .ref q5, .ref q6, .ref q7, .ref q8, v9, v10, v11, v12, v13, v14, v15, v16]))] := hD
            refine lv_iload hx hb dX8_make_157 (lv_at hl 0 rfl) ?_
            have hP9 := hP.sub (ws' := [(h0, .inr (8, [.int 0, .ref q1, v2, .ref q3, .ref q4, .ref q5, .ref q6, .ref q7, .ref q8, v9, v10, v11, v12, v13, v14, v15, v16]))]) [2] rfl
            have hD9 := hD.sub (ws' := [(h0, .inr (8, [.int 0, .ref q1, v2, .ref q3, .ref q4, .ref q5, .ref q6, .ref q7, .ref q8, v9, v10, v11, v12, v13, v14, v15, v16]))]) [2] (by decide) rfl
            have hK9 := hK.sub (tys' := []) [] rfl
            refine W.widen (k := 0) (n := 0) (Nat.le_of_ble_eq_true rfl) (Nat.le_of_ble_eq_true rfl) ?_
            exact W.iret (v := 0) hx hb hr (fun t ht hW => ⟨⟨0, 0, rfl, ⟨tx_at (P := mkIs p0 p1 p2) (n := 0) (by decide) (by unfold mkIs; omega), fun _ => rfl⟩, by rw [ht]; exact hP9, va_K.moved hW.alike hK9, hD9⟩, hS.F ht⟩) hS.2.2 dX8_make_159
    ·
      have ic_3 : p0.toInt = 0 := tx_eq rfl (by decide) c_3
      refine lv_iload_n hx hb dX8_make_19 rfl (lv_at hl 2 rfl) ?_
      refine lv_if_ge (tgt := 29) hx hb dX8_make_20 (by decide) (fun c_35 => ?_) (fun c_35 => ?_)
      ·
        have ic_35 : 0 ≤ p1.toInt := tx_le (by decide) rfl c_35
        refine lv_iload_n hx hb dX8_make_29 rfl (lv_at hl 1 rfl) ?_
        refine lv_if_ne (tgt := 57) hx hb dX8_make_30 (by decide) (fun c_36 => ?_) (fun c_36 => ?_)
        ·
          have ic_36 : ¬ p0.toInt = 0 := tx_ne rfl (by decide) c_36
          refine lv_iload_n hx hb dX8_make_57 rfl (lv_at hl 1 rfl) ?_
          refine lv_iconst (v := 1) hx hb dX8_make_58 (by decide) ?_
          refine lv_icmp_ne (tgt := 90) hx hb dX8_make_59 (by decide) (fun c_37 => ?_) (fun c_37 => ?_)
          ·
            have ic_37 : ¬ p0.toInt = 1 := tx_ne rfl (by decide) c_37
            refine lv_iload_n hx hb dX8_make_90 rfl (lv_at hl 2 rfl) ?_
            refine lv_iconst (v := 0) hx hb dX8_make_91 (by decide) ?_
            refine lv_iconst (v := 3) hx hb dX8_make_92 (by decide) ?_
            have hPc := hP.sub (ws' := []) [] rfl
            have hDc := hD.sub (ws' := []) [] (by decide) rfl
            have hKc := hK.sub (tys' := []) [] rfl
            have hFc := va_free (wc := []) hD hS hA [] rfl
            refine va_calli (va_runS (As := [.int p1, .int 0, .int 3]) (rest := []) ⟨hx, hb, hml, hown, hts⟩ (c_X8_in l  dC dI H.size p1 0 3 0 3 (by decide) (by decide)) (va_cwS 3 hts gX8_make_X8_in rfl rfl rfl (by decide +kernel) ⟨(Nat.le_of_ble_eq_true rfl), (Nat.le_of_ble_eq_true rfl)⟩) ⟨pk_blind, pk_call hPc hKc hDc⟩ rfl rfl hl.1 rfl (lv_room (Nat.le_of_ble_eq_true rfl)) dX8_make_93 ⟨(Nat.le_of_ble_eq_true rfl), (Nat.le_of_ble_eq_true rfl)⟩) hS (fun q _ h => hFc q h) hFc (fun r_38 ur_38 t H1 locs ht hvm hw hB hz1 hk1 hS => ?_)
            try dsimp only at hw
            have jr_38 := hw
            obtain ⟨hP, hD⟩ := va_join (wr := [(h0, .inr (8, [.int th, .ref q1, v2, .ref q3, .ref q4, .ref q5, .ref q6, .ref q7, .ref q8, v9, v10, v11, v12, v13, v14, v15, v16])), (q1, .inl (c1, 16, .inl (fun _ => (0 : Int32)))), (q3, .inl (c3, 16, .inl (fun _ => (0 : Int32)))), (q4, .inl (c4, 16, .inl (fun _ => (0 : Int32)))), (q5, .inl (c5, 16, .inl (fun _ => (0 : Int32)))), (q6, .inl (c6, 16, .inl (fun _ => (0 : Int32)))), (q7, .inl (c7, 16, .inl (fun _ => (0 : Int32)))), (q8, .inl (c8, 16, .inl (fun _ => (0 : Int32))))]) (w1 := []) hP hD [] [0, 1, 2, 3, 4, 5, 6, 7] rfl rfl (by decide) (by decide) hk1 hFc tx_P0 tx_D0
            clear hk1 hz1 ht hPc hDc hKc
            generalize H1 = H at hP hS ⊢
            have hP : va_P (dC, dI) vwCl [(h0, .inr (8, [.int th, .ref q1, v2, .ref q3, .ref q4, .ref q5, .ref q6, .ref q7, .ref q8, v9, v10, v11, v12, v13, v14, v15, v16])), (q1, .inl (c1, 16, .inl (fun _ => (0 : Int32)))), (q3, .inl (c3, 16, .inl (fun _ => (0 : Int32)))), (q4, .inl (c4, 16, .inl (fun _ => (0 : Int32)))), (q5, .inl (c5, 16, .inl (fun _ => (0 : Int32)))), (q6, .inl (c6, 16, .inl (fun _ => (0 : Int32)))), (q7, .inl (c7, 16, .inl (fun _ => (0 : Int32)))), (q8, .inl (c8, 16, .inl (fun _ => (0 : Int32))))] H := hP
            have hD : va_D A [(h0, .inr (8, [.int th, .ref q1, v2, .ref q3, .ref q4, .ref q5, .ref q6, .ref q7, .ref q8, v9, v10, v11, v12, v13, v14, v15, v16])), (q1, .inl (c1, 16, .inl (fun _ => (0 : Int32)))), (q3, .inl (c3, 16, .inl (fun _ => (0 : Int32)))), (q4, .inl (c4, 16, .inl (fun _ => (0 : Int32)))), (q5, .inl (c5, 16, .inl (fun _ => (0 : Int32)))), (q6, .inl (c6, 16, .inl (fun _ => (0 : Int32)))), (q7, .inl (c7, 16, .inl (fun _ => (0 : Int32)))), (q8, .inl (c8, 16, .inl (fun _ => (0 : Int32))))] := hD
            refine W.widen (k := 0) (n := 0) (Nat.le_of_ble_eq_true rfl) (Nat.le_of_ble_eq_true rfl) ?_
            refine W.eq (g2 := F0 m 96 ls [.int r_38]) rfl ?_
            refine lv_istore (lv' := [(4, .int r_38), (0, .ref h0), (1, .int p0), (2, .int p1), (3, .int p2)]) hx hb dX8_make_96 hl (by decide) rfl (fun ls hl => ?_)
            refine lv_iload hx hb dX8_make_98 (lv_at hl 0 rfl) ?_
            refine lv_if_ne (tgt := 109) hx hb dX8_make_100 (by decide) (fun c_39 => ?_) (fun c_39 => ?_)
            ·
              have ic_39 : ¬ r_38.toInt = 0 := tx_ne rfl (by decide) c_39
              refine lv_aload_n hx hb dX8_make_109 rfl (lv_at hl 1 rfl) ?_
              have hPc := hP.sub (ws' := [(h0, .inr (8, [.int th, .ref q1, v2, .ref q3, .ref q4, .ref q5, .ref q6, .ref q7, .ref q8, v9, v10, v11, v12, v13, v14, v15, v16])), (q1, .inl (c1, 16, .inl (fun _ => (0 : Int32))))]) [0, 1] rfl
              have hDc := hD.sub (ws' := [(h0, .inr (8, [.int th, .ref q1, v2, .ref q3, .ref q4, .ref q5, .ref q6, .ref q7, .ref q8, v9, v10, v11, v12, v13, v14, v15, v16])), (q1, .inl (c1, 16, .inl (fun _ => (0 : Int32))))]) [0, 1] (by decide) rfl
              have hKc := hK.sub (tys' := [(c1, .int)]) [0] rfl
              have hFc := va_free (wc := [(h0, .inr (8, [.int th, .ref q1, v2, .ref q3, .ref q4, .ref q5, .ref q6, .ref q7, .ref q8, v9, v10, v11, v12, v13, v14, v15, v16])), (q1, .inl (c1, 16, .inl (fun _ => (0 : Int32))))]) hD hS hA [0, 1] rfl
              refine va_calli (va_runV (As := []) (rest := []) ⟨hx, hb, hml, hown, hts⟩ (c_X8_free l  dC dI H.size h0 q1 c1 th v2 (.ref q3) (.ref q4) (.ref q5) (.ref q6) (.ref q7) (.ref q8) v9 v10 v11 v12 v13 v14 v15 v16) (cwV 0 hts gX8_make_X8_free rfl rfl rfl (by decide +kernel) ⟨(Nat.le_of_ble_eq_true rfl), (Nat.le_of_ble_eq_true rfl)⟩) ⟨pk_blind, va_recv hKc hPc (ci := 8) (q0 := 0) rfl rfl, pk_call hPc hKc hDc⟩ rfl rfl hl.1 rfl (lv_room (Nat.le_of_ble_eq_true rfl)) dX8_make_110 ⟨(Nat.le_of_ble_eq_true rfl), (Nat.le_of_ble_eq_true rfl)⟩) hS (fun q _ h => hFc q h) hFc (fun r_40 ur_40 t H1 locs ht hvm hw hB hz1 hk1 hS => ?_)
              try dsimp only at hw
              obtain ⟨hP1, hK1, hD1⟩ := hB
              rw [ht] at hP1
              have hK1 := va_K.moved hvm.symm hK1
              obtain ⟨hP, hD⟩ := va_join (wr := [(q3, .inl (c3, 16, .inl (fun _ => (0 : Int32)))), (q4, .inl (c4, 16, .inl (fun _ => (0 : Int32)))), (q5, .inl (c5, 16, .inl (fun _ => (0 : Int32)))), (q6, .inl (c6, 16, .inl (fun _ => (0 : Int32)))), (q7, .inl (c7, 16, .inl (fun _ => (0 : Int32)))), (q8, .inl (c8, 16, .inl (fun _ => (0 : Int32))))]) (w1 := [(h0, .inr (8, [.int th, .ref q1, v2, .ref q3, .ref q4, .ref q5, .ref q6, .ref q7, .ref q8, v9, v10, v11, v12, v13, v14, v15, v16])), (q1, .inl (c1, 16, .inl (fun _ => (0 : Int32))))]) hP hD [0, 1] [2, 3, 4, 5, 6, 7] rfl rfl (by decide) (by decide) hk1 hFc hP1 hD1
              clear hk1 hz1 ht hPc hDc hKc
              generalize H1 = H at hP hS ⊢
              have hP : va_P (dC, dI) vwCl [(q3, .inl (c3, 16, .inl (fun _ => (0 : Int32)))), (q4, .inl (c4, 16, .inl (fun _ => (0 : Int32)))), (q5, .inl (c5, 16, .inl (fun _ => (0 : Int32)))), (q6, .inl (c6, 16, .inl (fun _ => (0 : Int32)))), (q7, .inl (c7, 16, .inl (fun _ => (0 : Int32)))), (q8, .inl (c8, 16, .inl (fun _ => (0 : Int32)))), (h0, .inr (8, [.int th, .ref q1, v2, .ref q3, .ref q4, .ref q5, .ref q6, .ref q7, .ref q8, v9, v10, v11, v12, v13, v14, v15, v16])), (q1, .inl (c1, 16, .inl (fun _ => (0 : Int32))))] H := hP
              have hD : va_D A [(q3, .inl (c3, 16, .inl (fun _ => (0 : Int32)))), (q4, .inl (c4, 16, .inl (fun _ => (0 : Int32)))), (q5, .inl (c5, 16, .inl (fun _ => (0 : Int32)))), (q6, .inl (c6, 16, .inl (fun _ => (0 : Int32)))), (q7, .inl (c7, 16, .inl (fun _ => (0 : Int32)))), (q8, .inl (c8, 16, .inl (fun _ => (0 : Int32)))), (h0, .inr (8, [.int th, .ref q1, v2, .ref q3, .ref q4, .ref q5, .ref q6, .ref q7, .ref q8, v9, v10, v11, v12, v13, v14, v15, v16])), (q1, .inl (c1, 16, .inl (fun _ => (0 : Int32))))] := hD
              refine W.widen (k := 0) (n := 0) (Nat.le_of_ble_eq_true rfl) (Nat.le_of_ble_eq_true rfl) ?_
              obtain rfl : r_40 = 0 := hw
              refine W.eq (g2 := F0 m 113 ls [.int 0]) rfl ?_
              refine lv_istore (lv' := [(5, .int 0), (4, .int r_38), (0, .ref h0), (1, .int p0), (2, .int p1), (3, .int p2)]) hx hb dX8_make_113 hl (by decide) rfl (fun ls hl => ?_)
              refine lv_iload hx hb dX8_make_115 (lv_at hl 0 rfl) ?_
              refine lv_if_ge (tgt := 126) hx hb dX8_make_117 (by decide) (fun c_41 => ?_) (fun c_41 => absurd c_41 (by decide))
              refine lv_aload_n hx hb dX8_make_126 rfl (lv_at hl 2 rfl) ?_
              refine lv_iconst (v := 0) hx hb dX8_make_127 (by decide) ?_
              refine va_put (D := (dC, dI)) (ci := 8) (v := .int 0) (ty := .int) (C := RX8) (T := TX8) (N := 17) hx hb hts (by decide +kernel) tyX8 tyX8_ok nmX8 hown hK hP hD hS 6 rfl rfl 0 (by decide) (hts (.fieldLink RX8 60 "KeyAtlasModel" "thrown" "I") (by decide +kernel)) (fun _ h9 => h9) rfl (by decide +kernel) rfl rfl (Nat.le_of_ble_eq_true rfl) dX8_make_128 (fun H locs hP hD hS => ?_)
              have hP : va_P (dC, dI) vwCl [(q3, .inl (c3, 16, .inl (fun _ => (0 : Int32)))), (q4, .inl (c4, 16, .inl (fun _ => (0 : Int32)))), (q5, .inl (c5, 16, .inl (fun _ => (0 : Int32)))), (q6, .inl (c6, 16, .inl (fun _ => (0 : Int32)))), (q7, .inl (c7, 16, .inl (fun _ => (0 : Int32)))), (q8, .inl (c8, 16, .inl (fun _ => (0 : Int32)))), (h0, .inr (8, [.int 0, .ref q1, v2, .ref q3, .ref q4, .ref q5, .ref q6, .ref q7, .ref q8, v9, v10, v11, v12, v13, v14, v15, v16])), (q1, .inl (c1, 16, .inl (fun _ => (0 : Int32))))] H := hP
              have hD : va_D A [(q3, .inl (c3, 16, .inl (fun _ => (0 : Int32)))), (q4, .inl (c4, 16, .inl (fun _ => (0 : Int32)))), (q5, .inl (c5, 16, .inl (fun _ => (0 : Int32)))), (q6, .inl (c6, 16, .inl (fun _ => (0 : Int32)))), (q7, .inl (c7, 16, .inl (fun _ => (0 : Int32)))), (q8, .inl (c8, 16, .inl (fun _ => (0 : Int32)))), (h0, .inr (8, [.int 0, .ref q1, v2, .ref q3, .ref q4, .ref q5, .ref q6, .ref q7, .ref q8, v9, v10, v11, v12, v13, v14, v15, v16])), (q1, .inl (c1, 16, .inl (fun _ => (0 : Int32))))] := hD
              refine lv_aload_n hx hb dX8_make_131 rfl (lv_at hl 2 rfl) ?_
              refine lv_iload hx hb dX8_make_132 (lv_at hl 0 rfl) ?_
              refine lv_iload_n hx hb dX8_make_134 rfl (lv_at hl 3 rfl) ?_
              refine lv_iconst (v := 1) hx hb dX8_make_135 (by decide) ?_
              refine lv_iadd hx hb dX8_make_136 ?_
              have hPc := hP.sub (ws' := [(h0, .inr (8, [.int 0, .ref q1, v2, .ref q3, .ref q4, .ref q5, .ref q6, .ref q7, .ref q8, v9, v10, v11, v12, v13, v14, v15, v16])), (q1, .inl (c1, 16, .inl (fun _ => (0 : Int32)))), (q3, .inl (c3, 16, .inl (fun _ => (0 : Int32)))), (q6, .inl (c6, 16, .inl (fun _ => (0 : Int32)))), (q7, .inl (c7, 16, .inl (fun _ => (0 : Int32)))), (q8, .inl (c8, 16, .inl (fun _ => (0 : Int32))))]) [6, 7, 0, 3, 4, 5] rfl
              have hDc := hD.sub (ws' := [(h0, .inr (8, [.int 0, .ref q1, v2, .ref q3, .ref q4, .ref q5, .ref q6, .ref q7, .ref q8, v9, v10, v11, v12, v13, v14, v15, v16])), (q1, .inl (c1, 16, .inl (fun _ => (0 : Int32)))), (q3, .inl (c3, 16, .inl (fun _ => (0 : Int32)))), (q6, .inl (c6, 16, .inl (fun _ => (0 : Int32)))), (q7, .inl (c7, 16, .inl (fun _ => (0 : Int32)))), (q8, .inl (c8, 16, .inl (fun _ => (0 : Int32))))]) [6, 7, 0, 3, 4, 5] (by decide) rfl
              have hKc := hK.sub (tys' := [(c1, .int), (c3, .int), (c6, .int), (c7, .int), (c8, .int)]) [0, 1, 4, 5, 6] rfl
              have hFc := va_free (wc := [(h0, .inr (8, [.int 0, .ref q1, v2, .ref q3, .ref q4, .ref q5, .ref q6, .ref q7, .ref q8, v9, v10, v11, v12, v13, v14, v15, v16])), (q1, .inl (c1, 16, .inl (fun _ => (0 : Int32)))), (q3, .inl (c3, 16, .inl (fun _ => (0 : Int32)))), (q6, .inl (c6, 16, .inl (fun _ => (0 : Int32)))), (q7, .inl (c7, 16, .inl (fun _ => (0 : Int32)))), (q8, .inl (c8, 16, .inl (fun _ => (0 : Int32))))]) hD hS hA [6, 7, 0, 3, 4, 5] rfl
              refine va_calli (va_runV (As := [.int 0, .int (p0 + 1)]) (rest := []) ⟨hx, hb, hml, hown, hts⟩ (c_X8_born l  dC dI H.size h0 0 q1 q3 q6 q7 q8 c1 c3 c6 c7 c8 v2 (.ref q4) (.ref q5) v9 v10 v11 v12 v13 v14 v15 v16 (p0 + 1)) (cwV 2 hts gX8_make_X8_born rfl rfl rfl (by decide +kernel) ⟨(Nat.le_of_ble_eq_true rfl), (Nat.le_of_ble_eq_true rfl)⟩) ⟨pk_blind, va_recv hKc hPc (ci := 8) (q0 := 0) rfl rfl, pk_call hPc hKc hDc⟩ rfl rfl hl.1 rfl (lv_room (Nat.le_of_ble_eq_true rfl)) dX8_make_137 ⟨(Nat.le_of_ble_eq_true rfl), (Nat.le_of_ble_eq_true rfl)⟩) hS (fun q _ h => hFc q h) hFc (fun r_42 ur_42 t H1 locs ht hvm hw hB hz1 hk1 hS => ?_)
              try dsimp only at hw
              have jr_42 := hw
              obtain ⟨hP1, hK1, hD1⟩ := hB
              rw [ht] at hP1
              have hK1 := va_K.moved hvm.symm hK1
              obtain ⟨hP, hD⟩ := va_join (wr := [(q4, .inl (c4, 16, .inl (fun _ => (0 : Int32)))), (q5, .inl (c5, 16, .inl (fun _ => (0 : Int32))))]) (w1 := [(h0, .inr (8, [.int 0, .ref q1, v2, .ref q3, .ref q4, .ref q5, .ref q6, .ref q7, .ref q8, v9, v10, v11, v12, v13, v14, v15, v16]))]) hP hD [6, 7, 0, 3, 4, 5] [1, 2] rfl rfl (by decide) (by decide) hk1 hFc hP1 hD1
              clear hk1 hz1 ht hPc hDc hKc
              generalize H1 = H at hP hS ⊢
              have hP : va_P (dC, dI) vwCl [(q4, .inl (c4, 16, .inl (fun _ => (0 : Int32)))), (q5, .inl (c5, 16, .inl (fun _ => (0 : Int32)))), (h0, .inr (8, [.int 0, .ref q1, v2, .ref q3, .ref q4, .ref q5, .ref q6, .ref q7, .ref q8, v9, v10, v11, v12, v13, v14, v15, v16]))] H := hP
              have hD : va_D A [(q4, .inl (c4, 16, .inl (fun _ => (0 : Int32)))), (q5, .inl (c5, 16, .inl (fun _ => (0 : Int32)))), (h0, .inr (8, [.int 0, .ref q1, v2, .ref q3, .ref q4, .ref q5, .ref q6, .ref q7, .ref q8, v9, v10, v11, v12, v13, v14, v15, v16]))] := hD
              refine W.widen (k := 0) (n := 0) (Nat.le_of_ble_eq_true rfl) (Nat.le_of_ble_eq_true rfl) ?_
              refine W.eq (g2 := F0 m 140 ls [.int r_42]) rfl ?_
              refine lv_pop hx hb dX8_make_140 rfl ?_
              refine lv_aload_n hx hb dX8_make_141 rfl (lv_at hl 2 rfl) ?_
              refine va_get (D := (dC, dI)) (ci := 8) (v := .ref q4) (C := RX8) (T := TX8) (N := 17) hx hb hts (by decide +kernel) hown hK hP 2 rfl rfl 4 (by decide) (hts (.fieldLink RX8 20 "KeyAtlasModel" "first" "[I") (by decide +kernel)) (fun _ h9 => h9) rfl dX8_make_142 ?_
              refine lv_iload hx hb dX8_make_145 (lv_at hl 0 rfl) ?_
              refine lv_iload_n hx hb dX8_make_147 rfl (lv_at hl 4 rfl) ?_
              refine va_iast (i := 0) hx hb hK hP hD hS 0 2 rfl rfl (by unfold vp_in; decide) dX8_make_148 (fun H locs hP hD hS => ?_)
              have hP : va_P (dC, dI) vwCl [(q4, .inl (c4, 16, .inl (upd (fun _ => (0 : Int32)) (0 : Int32).toNatClampNeg p1))), (q5, .inl (c5, 16, .inl (fun _ => (0 : Int32)))), (h0, .inr (8, [.int 0, .ref q1, v2, .ref q3, .ref q4, .ref q5, .ref q6, .ref q7, .ref q8, v9, v10, v11, v12, v13, v14, v15, v16]))] H := hP
              have hD : va_D A [(q4, .inl (c4, 16, .inl (upd (fun _ => (0 : Int32)) (0 : Int32).toNatClampNeg p1))), (q5, .inl (c5, 16, .inl (fun _ => (0 : Int32)))), (h0, .inr (8, [.int 0, .ref q1, v2, .ref q3, .ref q4, .ref q5, .ref q6, .ref q7, .ref q8, v9, v10, v11, v12, v13, v14, v15, v16]))] := hD
              refine lv_aload_n hx hb dX8_make_149 rfl (lv_at hl 2 rfl) ?_
              refine va_get (D := (dC, dI)) (ci := 8) (v := .ref q5) (C := RX8) (T := TX8) (N := 17) hx hb hts (by decide +kernel) hown hK hP 2 rfl rfl 5 (by decide) (hts (.fieldLink RX8 23 "KeyAtlasModel" "second" "[I") (by decide +kernel)) (fun _ h9 => h9) rfl dX8_make_150 ?_
              refine lv_iload hx hb dX8_make_153 (lv_at hl 0 rfl) ?_
              refine lv_iload_n hx hb dX8_make_155 rfl (lv_at hl 5 rfl) ?_
              refine va_iast (i := 0) hx hb hK hP hD hS 1 3 rfl rfl (by unfold vp_in; decide) dX8_make_156 (fun H locs hP hD hS => ?_)
              have hP : va_P (dC, dI) vwCl [(q4, .inl (c4, 16, .inl (upd (fun _ => (0 : Int32)) (0 : Int32).toNatClampNeg p1))), (q5, .inl (c5, 16, .inl (upd (fun _ => (0 : Int32)) (0 : Int32).toNatClampNeg p2))), (h0, .inr (8, [.int 0, .ref q1, v2, .ref q3, .ref q4, .ref q5, .ref q6, .ref q7, .ref q8, v9, v10, v11, v12, v13, v14, v15, v16]))] H := hP
              have hD : va_D A [(q4, .inl (c4, 16, .inl (upd (fun _ => (0 : Int32)) (0 : Int32).toNatClampNeg p1))), (q5, .inl (c5, 16, .inl (upd (fun _ => (0 : Int32)) (0 : Int32).toNatClampNeg p2))), (h0, .inr (8, [.int 0, .ref q1, v2, .ref q3, .ref q4, .ref q5, .ref q6, .ref q7, .ref q8, v9, v10, v11, v12, v13, v14, v15, v16]))] := hD
              refine lv_iload hx hb dX8_make_157 (lv_at hl 0 rfl) ?_
              have hP9 := hP.sub (ws' := [(h0, .inr (8, [.int 0, .ref q1, v2, .ref q3, .ref q4, .ref q5, .ref q6, .ref q7, .ref q8, v9, v10, v11, v12, v13, v14, v15, v16]))]) [2] rfl
              have hD9 := hD.sub (ws' := [(h0, .inr (8, [.int 0, .ref q1, v2, .ref q3, .ref q4, .ref q5, .ref q6, .ref q7, .ref q8, v9, v10, v11, v12, v13, v14, v15, v16]))]) [2] (by decide) rfl
              have hK9 := hK.sub (tys' := []) [] rfl
              refine W.widen (k := 0) (n := 0) (Nat.le_of_ble_eq_true rfl) (Nat.le_of_ble_eq_true rfl) ?_
              exact W.iret (v := 0) hx hb hr (fun t ht hW => ⟨⟨0, 0, rfl, ⟨tx_at (P := mkIs p0 p1 p2) (n := 0) (by decide) (by unfold mkIs; omega), fun _ => rfl⟩, by rw [ht]; exact hP9, va_K.moved hW.alike hK9, hD9⟩, hS.F ht⟩) hS.2.2 dX8_make_159
            ·
              have ic_39 : r_38.toInt = 0 := tx_eq rfl (by decide) c_39
              refine lv_aload_n hx hb dX8_make_103 rfl (lv_at hl 1 rfl) ?_
              refine lv_iconst (v := 1) hx hb dX8_make_104 (by decide) ?_
              have hPc := hP.sub (ws' := [(h0, .inr (8, [.int th, .ref q1, v2, .ref q3, .ref q4, .ref q5, .ref q6, .ref q7, .ref q8, v9, v10, v11, v12, v13, v14, v15, v16]))]) [0] rfl
              have hDc := hD.sub (ws' := [(h0, .inr (8, [.int th, .ref q1, v2, .ref q3, .ref q4, .ref q5, .ref q6, .ref q7, .ref q8, v9, v10, v11, v12, v13, v14, v15, v16]))]) [0] (by decide) rfl
              have hKc := hK.sub (tys' := []) [] rfl
              have hFc := va_free (wc := [(h0, .inr (8, [.int th, .ref q1, v2, .ref q3, .ref q4, .ref q5, .ref q6, .ref q7, .ref q8, v9, v10, v11, v12, v13, v14, v15, v16]))]) hD hS hA [0] rfl
              refine va_calli (va_runV (As := [.int 1]) (rest := []) ⟨hx, hb, hml, hown, hts⟩ (c_X8_refuse l  dC dI H.size h0 th 1 (.ref q1) v2 (.ref q3) (.ref q4) (.ref q5) (.ref q6) (.ref q7) (.ref q8) v9 v10 v11 v12 v13 v14 v15 v16) (cwV 1 hts gX8_make_X8_refuse rfl rfl rfl (by decide +kernel) ⟨(Nat.le_of_ble_eq_true rfl), (Nat.le_of_ble_eq_true rfl)⟩) ⟨pk_blind, va_recv hKc hPc (ci := 8) (q0 := 0) rfl rfl, pk_call hPc hKc hDc⟩ rfl rfl hl.1 rfl (lv_room (Nat.le_of_ble_eq_true rfl)) dX8_make_105 ⟨(Nat.le_of_ble_eq_true rfl), (Nat.le_of_ble_eq_true rfl)⟩) hS (fun q _ h => hFc q h) hFc (fun r_43 ur_43 t H1 locs ht hvm hw hB hz1 hk1 hS => ?_)
              try dsimp only at hw
              have jr_43 := hw
              obtain ⟨hP1, hK1, hD1⟩ := hB
              rw [ht] at hP1
              have hK1 := va_K.moved hvm.symm hK1
              obtain ⟨hP, hD⟩ := va_join (wr := [(q1, .inl (c1, 16, .inl (fun _ => (0 : Int32)))), (q3, .inl (c3, 16, .inl (fun _ => (0 : Int32)))), (q4, .inl (c4, 16, .inl (fun _ => (0 : Int32)))), (q5, .inl (c5, 16, .inl (fun _ => (0 : Int32)))), (q6, .inl (c6, 16, .inl (fun _ => (0 : Int32)))), (q7, .inl (c7, 16, .inl (fun _ => (0 : Int32)))), (q8, .inl (c8, 16, .inl (fun _ => (0 : Int32))))]) (w1 := [(h0, .inr (8, [.int 1, .ref q1, v2, .ref q3, .ref q4, .ref q5, .ref q6, .ref q7, .ref q8, v9, v10, v11, v12, v13, v14, v15, v16]))]) hP hD [0] [1, 2, 3, 4, 5, 6, 7] rfl rfl (by decide) (by decide) hk1 hFc hP1 hD1
              clear hk1 hz1 ht hPc hDc hKc
              generalize H1 = H at hP hS ⊢
              have hP : va_P (dC, dI) vwCl [(q1, .inl (c1, 16, .inl (fun _ => (0 : Int32)))), (q3, .inl (c3, 16, .inl (fun _ => (0 : Int32)))), (q4, .inl (c4, 16, .inl (fun _ => (0 : Int32)))), (q5, .inl (c5, 16, .inl (fun _ => (0 : Int32)))), (q6, .inl (c6, 16, .inl (fun _ => (0 : Int32)))), (q7, .inl (c7, 16, .inl (fun _ => (0 : Int32)))), (q8, .inl (c8, 16, .inl (fun _ => (0 : Int32)))), (h0, .inr (8, [.int 1, .ref q1, v2, .ref q3, .ref q4, .ref q5, .ref q6, .ref q7, .ref q8, v9, v10, v11, v12, v13, v14, v15, v16]))] H := hP
              have hD : va_D A [(q1, .inl (c1, 16, .inl (fun _ => (0 : Int32)))), (q3, .inl (c3, 16, .inl (fun _ => (0 : Int32)))), (q4, .inl (c4, 16, .inl (fun _ => (0 : Int32)))), (q5, .inl (c5, 16, .inl (fun _ => (0 : Int32)))), (q6, .inl (c6, 16, .inl (fun _ => (0 : Int32)))), (q7, .inl (c7, 16, .inl (fun _ => (0 : Int32)))), (q8, .inl (c8, 16, .inl (fun _ => (0 : Int32)))), (h0, .inr (8, [.int 1, .ref q1, v2, .ref q3, .ref q4, .ref q5, .ref q6, .ref q7, .ref q8, v9, v10, v11, v12, v13, v14, v15, v16]))] := hD
              refine W.widen (k := 0) (n := 0) (Nat.le_of_ble_eq_true rfl) (Nat.le_of_ble_eq_true rfl) ?_
              refine W.eq (g2 := F0 m 108 ls [.int r_43]) rfl ?_
              have hP9 := hP.sub (ws' := [(h0, .inr (8, [.int 1, .ref q1, v2, .ref q3, .ref q4, .ref q5, .ref q6, .ref q7, .ref q8, v9, v10, v11, v12, v13, v14, v15, v16]))]) [7] rfl
              have hD9 := hD.sub (ws' := [(h0, .inr (8, [.int 1, .ref q1, v2, .ref q3, .ref q4, .ref q5, .ref q6, .ref q7, .ref q8, v9, v10, v11, v12, v13, v14, v15, v16]))]) [7] (by decide) rfl
              have hK9 := hK.sub (tys' := []) [] rfl
              refine W.widen (k := 0) (n := 0) (Nat.le_of_ble_eq_true rfl) (Nat.le_of_ble_eq_true rfl) ?_
              exact W.iret (v := r_43) hx hb hr (fun t ht hW => ⟨⟨r_43, 1, rfl, ⟨tx_at (P := mkIs p0 p1 p2) (n := 1) (by decide) (by unfold mkIs; omega), fun h => absurd h (by decide)⟩, by rw [ht]; exact hP9, va_K.moved hW.alike hK9, hD9⟩, hS.F ht⟩) hS.2.2 dX8_make_108
          ·
            have ic_37 : p0.toInt = 1 := tx_eq rfl (by decide) c_37
            refine lv_iload_n hx hb dX8_make_62 rfl (lv_at hl 2 rfl) ?_
            refine lv_iconst (v := 0) hx hb dX8_make_63 (by decide) ?_
            refine lv_sipush (v := 1000) hx hb dX8_make_64 (by decide) ?_
            have hPc := hP.sub (ws' := []) [] rfl
            have hDc := hD.sub (ws' := []) [] (by decide) rfl
            have hKc := hK.sub (tys' := []) [] rfl
            have hFc := va_free (wc := []) hD hS hA [] rfl
            refine va_calli (va_runS (As := [.int p1, .int 0, .int 1000]) (rest := []) ⟨hx, hb, hml, hown, hts⟩ (c_X8_in l  dC dI H.size p1 0 1000 0 1000 (by decide) (by decide)) (va_cwS 3 hts gX8_make_X8_in rfl rfl rfl (by decide +kernel) ⟨(Nat.le_of_ble_eq_true rfl), (Nat.le_of_ble_eq_true rfl)⟩) ⟨pk_blind, pk_call hPc hKc hDc⟩ rfl rfl hl.1 rfl (lv_room (Nat.le_of_ble_eq_true rfl)) dX8_make_67 ⟨(Nat.le_of_ble_eq_true rfl), (Nat.le_of_ble_eq_true rfl)⟩) hS (fun q _ h => hFc q h) hFc (fun r_44 ur_44 t H1 locs ht hvm hw hB hz1 hk1 hS => ?_)
            try dsimp only at hw
            have jr_44 := hw
            obtain ⟨hP, hD⟩ := va_join (wr := [(h0, .inr (8, [.int th, .ref q1, v2, .ref q3, .ref q4, .ref q5, .ref q6, .ref q7, .ref q8, v9, v10, v11, v12, v13, v14, v15, v16])), (q1, .inl (c1, 16, .inl (fun _ => (0 : Int32)))), (q3, .inl (c3, 16, .inl (fun _ => (0 : Int32)))), (q4, .inl (c4, 16, .inl (fun _ => (0 : Int32)))), (q5, .inl (c5, 16, .inl (fun _ => (0 : Int32)))), (q6, .inl (c6, 16, .inl (fun _ => (0 : Int32)))), (q7, .inl (c7, 16, .inl (fun _ => (0 : Int32)))), (q8, .inl (c8, 16, .inl (fun _ => (0 : Int32))))]) (w1 := []) hP hD [] [0, 1, 2, 3, 4, 5, 6, 7] rfl rfl (by decide) (by decide) hk1 hFc tx_P0 tx_D0
            clear hk1 hz1 ht hPc hDc hKc
            generalize H1 = H at hP hS ⊢
            have hP : va_P (dC, dI) vwCl [(h0, .inr (8, [.int th, .ref q1, v2, .ref q3, .ref q4, .ref q5, .ref q6, .ref q7, .ref q8, v9, v10, v11, v12, v13, v14, v15, v16])), (q1, .inl (c1, 16, .inl (fun _ => (0 : Int32)))), (q3, .inl (c3, 16, .inl (fun _ => (0 : Int32)))), (q4, .inl (c4, 16, .inl (fun _ => (0 : Int32)))), (q5, .inl (c5, 16, .inl (fun _ => (0 : Int32)))), (q6, .inl (c6, 16, .inl (fun _ => (0 : Int32)))), (q7, .inl (c7, 16, .inl (fun _ => (0 : Int32)))), (q8, .inl (c8, 16, .inl (fun _ => (0 : Int32))))] H := hP
            have hD : va_D A [(h0, .inr (8, [.int th, .ref q1, v2, .ref q3, .ref q4, .ref q5, .ref q6, .ref q7, .ref q8, v9, v10, v11, v12, v13, v14, v15, v16])), (q1, .inl (c1, 16, .inl (fun _ => (0 : Int32)))), (q3, .inl (c3, 16, .inl (fun _ => (0 : Int32)))), (q4, .inl (c4, 16, .inl (fun _ => (0 : Int32)))), (q5, .inl (c5, 16, .inl (fun _ => (0 : Int32)))), (q6, .inl (c6, 16, .inl (fun _ => (0 : Int32)))), (q7, .inl (c7, 16, .inl (fun _ => (0 : Int32)))), (q8, .inl (c8, 16, .inl (fun _ => (0 : Int32))))] := hD
            refine W.widen (k := 0) (n := 0) (Nat.le_of_ble_eq_true rfl) (Nat.le_of_ble_eq_true rfl) ?_
            refine W.eq (g2 := F0 m 70 ls [.int r_44]) rfl ?_
            refine lv_if_eq (tgt := 86) hx hb dX8_make_70 (by decide) (fun c_45 => ?_) (fun c_45 => ?_)
            ·
              have ic_45 : r_44.toInt = 0 := tx_eq rfl (by decide) c_45
              refine lv_iconst (v := 0) hx hb dX8_make_86 (by decide) ?_
              refine lv_goto (tgt := 96) hx hb dX8_make_87 (by decide) ?_
              refine lv_istore (lv' := [(4, .int 0), (0, .ref h0), (1, .int p0), (2, .int p1), (3, .int p2)]) hx hb dX8_make_96 hl (by decide) rfl (fun ls hl => ?_)
              refine lv_iload hx hb dX8_make_98 (lv_at hl 0 rfl) ?_
              refine lv_if_ne (tgt := 109) hx hb dX8_make_100 (by decide) (fun c_46 => absurd c_46 (by decide)) (fun c_46 => ?_)
              refine lv_aload_n hx hb dX8_make_103 rfl (lv_at hl 1 rfl) ?_
              refine lv_iconst (v := 1) hx hb dX8_make_104 (by decide) ?_
              have hPc := hP.sub (ws' := [(h0, .inr (8, [.int th, .ref q1, v2, .ref q3, .ref q4, .ref q5, .ref q6, .ref q7, .ref q8, v9, v10, v11, v12, v13, v14, v15, v16]))]) [0] rfl
              have hDc := hD.sub (ws' := [(h0, .inr (8, [.int th, .ref q1, v2, .ref q3, .ref q4, .ref q5, .ref q6, .ref q7, .ref q8, v9, v10, v11, v12, v13, v14, v15, v16]))]) [0] (by decide) rfl
              have hKc := hK.sub (tys' := []) [] rfl
              have hFc := va_free (wc := [(h0, .inr (8, [.int th, .ref q1, v2, .ref q3, .ref q4, .ref q5, .ref q6, .ref q7, .ref q8, v9, v10, v11, v12, v13, v14, v15, v16]))]) hD hS hA [0] rfl
              refine va_calli (va_runV (As := [.int 1]) (rest := []) ⟨hx, hb, hml, hown, hts⟩ (c_X8_refuse l  dC dI H.size h0 th 1 (.ref q1) v2 (.ref q3) (.ref q4) (.ref q5) (.ref q6) (.ref q7) (.ref q8) v9 v10 v11 v12 v13 v14 v15 v16) (cwV 1 hts gX8_make_X8_refuse rfl rfl rfl (by decide +kernel) ⟨(Nat.le_of_ble_eq_true rfl), (Nat.le_of_ble_eq_true rfl)⟩) ⟨pk_blind, va_recv hKc hPc (ci := 8) (q0 := 0) rfl rfl, pk_call hPc hKc hDc⟩ rfl rfl hl.1 rfl (lv_room (Nat.le_of_ble_eq_true rfl)) dX8_make_105 ⟨(Nat.le_of_ble_eq_true rfl), (Nat.le_of_ble_eq_true rfl)⟩) hS (fun q _ h => hFc q h) hFc (fun r_47 ur_47 t H1 locs ht hvm hw hB hz1 hk1 hS => ?_)
              try dsimp only at hw
              have jr_47 := hw
              obtain ⟨hP1, hK1, hD1⟩ := hB
              rw [ht] at hP1
              have hK1 := va_K.moved hvm.symm hK1
              obtain ⟨hP, hD⟩ := va_join (wr := [(q1, .inl (c1, 16, .inl (fun _ => (0 : Int32)))), (q3, .inl (c3, 16, .inl (fun _ => (0 : Int32)))), (q4, .inl (c4, 16, .inl (fun _ => (0 : Int32)))), (q5, .inl (c5, 16, .inl (fun _ => (0 : Int32)))), (q6, .inl (c6, 16, .inl (fun _ => (0 : Int32)))), (q7, .inl (c7, 16, .inl (fun _ => (0 : Int32)))), (q8, .inl (c8, 16, .inl (fun _ => (0 : Int32))))]) (w1 := [(h0, .inr (8, [.int 1, .ref q1, v2, .ref q3, .ref q4, .ref q5, .ref q6, .ref q7, .ref q8, v9, v10, v11, v12, v13, v14, v15, v16]))]) hP hD [0] [1, 2, 3, 4, 5, 6, 7] rfl rfl (by decide) (by decide) hk1 hFc hP1 hD1
              clear hk1 hz1 ht hPc hDc hKc
              generalize H1 = H at hP hS ⊢
              have hP : va_P (dC, dI) vwCl [(q1, .inl (c1, 16, .inl (fun _ => (0 : Int32)))), (q3, .inl (c3, 16, .inl (fun _ => (0 : Int32)))), (q4, .inl (c4, 16, .inl (fun _ => (0 : Int32)))), (q5, .inl (c5, 16, .inl (fun _ => (0 : Int32)))), (q6, .inl (c6, 16, .inl (fun _ => (0 : Int32)))), (q7, .inl (c7, 16, .inl (fun _ => (0 : Int32)))), (q8, .inl (c8, 16, .inl (fun _ => (0 : Int32)))), (h0, .inr (8, [.int 1, .ref q1, v2, .ref q3, .ref q4, .ref q5, .ref q6, .ref q7, .ref q8, v9, v10, v11, v12, v13, v14, v15, v16]))] H := hP
              have hD : va_D A [(q1, .inl (c1, 16, .inl (fun _ => (0 : Int32)))), (q3, .inl (c3, 16, .inl (fun _ => (0 : Int32)))), (q4, .inl (c4, 16, .inl (fun _ => (0 : Int32)))), (q5, .inl (c5, 16, .inl (fun _ => (0 : Int32)))), (q6, .inl (c6, 16, .inl (fun _ => (0 : Int32)))), (q7, .inl (c7, 16, .inl (fun _ => (0 : Int32)))), (q8, .inl (c8, 16, .inl (fun _ => (0 : Int32)))), (h0, .inr (8, [.int 1, .ref q1, v2, .ref q3, .ref q4, .ref q5, .ref q6, .ref q7, .ref q8, v9, v10, v11, v12, v13, v14, v15, v16]))] := hD
              refine W.widen (k := 0) (n := 0) (Nat.le_of_ble_eq_true rfl) (Nat.le_of_ble_eq_true rfl) ?_
              refine W.eq (g2 := F0 m 108 ls [.int r_47]) rfl ?_
              have hP9 := hP.sub (ws' := [(h0, .inr (8, [.int 1, .ref q1, v2, .ref q3, .ref q4, .ref q5, .ref q6, .ref q7, .ref q8, v9, v10, v11, v12, v13, v14, v15, v16]))]) [7] rfl
              have hD9 := hD.sub (ws' := [(h0, .inr (8, [.int 1, .ref q1, v2, .ref q3, .ref q4, .ref q5, .ref q6, .ref q7, .ref q8, v9, v10, v11, v12, v13, v14, v15, v16]))]) [7] (by decide) rfl
              have hK9 := hK.sub (tys' := []) [] rfl
              refine W.widen (k := 0) (n := 0) (Nat.le_of_ble_eq_true rfl) (Nat.le_of_ble_eq_true rfl) ?_
              exact W.iret (v := r_47) hx hb hr (fun t ht hW => ⟨⟨r_47, 1, rfl, ⟨tx_at (P := mkIs p0 p1 p2) (n := 1) (by decide) (by unfold mkIs; omega), fun h => absurd h (by decide)⟩, by rw [ht]; exact hP9, va_K.moved hW.alike hK9, hD9⟩, hS.F ht⟩) hS.2.2 dX8_make_108
            ·
              have ic_45 : ¬ r_44.toInt = 0 := tx_ne rfl (by decide) c_45
              refine lv_iload_n hx hb dX8_make_73 rfl (lv_at hl 3 rfl) ?_
              refine lv_iconst (v := 0) hx hb dX8_make_74 (by decide) ?_
              refine lv_iconst (v := 1) hx hb dX8_make_75 (by decide) ?_
              have hPc := hP.sub (ws' := []) [] rfl
              have hDc := hD.sub (ws' := []) [] (by decide) rfl
              have hKc := hK.sub (tys' := []) [] rfl
              have hFc := va_free (wc := []) hD hS hA [] rfl
              refine va_calli (va_runS (As := [.int p2, .int 0, .int 1]) (rest := []) ⟨hx, hb, hml, hown, hts⟩ (c_X8_in l  dC dI H.size p2 0 1 0 1 (by decide) (by decide)) (va_cwS 3 hts gX8_make_X8_in rfl rfl rfl (by decide +kernel) ⟨(Nat.le_of_ble_eq_true rfl), (Nat.le_of_ble_eq_true rfl)⟩) ⟨pk_blind, pk_call hPc hKc hDc⟩ rfl rfl hl.1 rfl (lv_room (Nat.le_of_ble_eq_true rfl)) dX8_make_76 ⟨(Nat.le_of_ble_eq_true rfl), (Nat.le_of_ble_eq_true rfl)⟩) hS (fun q _ h => hFc q h) hFc (fun r_48 ur_48 t H1 locs ht hvm hw hB hz1 hk1 hS => ?_)
              try dsimp only at hw
              have jr_48 := hw
              obtain ⟨hP, hD⟩ := va_join (wr := [(h0, .inr (8, [.int th, .ref q1, v2, .ref q3, .ref q4, .ref q5, .ref q6, .ref q7, .ref q8, v9, v10, v11, v12, v13, v14, v15, v16])), (q1, .inl (c1, 16, .inl (fun _ => (0 : Int32)))), (q3, .inl (c3, 16, .inl (fun _ => (0 : Int32)))), (q4, .inl (c4, 16, .inl (fun _ => (0 : Int32)))), (q5, .inl (c5, 16, .inl (fun _ => (0 : Int32)))), (q6, .inl (c6, 16, .inl (fun _ => (0 : Int32)))), (q7, .inl (c7, 16, .inl (fun _ => (0 : Int32)))), (q8, .inl (c8, 16, .inl (fun _ => (0 : Int32))))]) (w1 := []) hP hD [] [0, 1, 2, 3, 4, 5, 6, 7] rfl rfl (by decide) (by decide) hk1 hFc tx_P0 tx_D0
              clear hk1 hz1 ht hPc hDc hKc
              generalize H1 = H at hP hS ⊢
              have hP : va_P (dC, dI) vwCl [(h0, .inr (8, [.int th, .ref q1, v2, .ref q3, .ref q4, .ref q5, .ref q6, .ref q7, .ref q8, v9, v10, v11, v12, v13, v14, v15, v16])), (q1, .inl (c1, 16, .inl (fun _ => (0 : Int32)))), (q3, .inl (c3, 16, .inl (fun _ => (0 : Int32)))), (q4, .inl (c4, 16, .inl (fun _ => (0 : Int32)))), (q5, .inl (c5, 16, .inl (fun _ => (0 : Int32)))), (q6, .inl (c6, 16, .inl (fun _ => (0 : Int32)))), (q7, .inl (c7, 16, .inl (fun _ => (0 : Int32)))), (q8, .inl (c8, 16, .inl (fun _ => (0 : Int32))))] H := hP
              have hD : va_D A [(h0, .inr (8, [.int th, .ref q1, v2, .ref q3, .ref q4, .ref q5, .ref q6, .ref q7, .ref q8, v9, v10, v11, v12, v13, v14, v15, v16])), (q1, .inl (c1, 16, .inl (fun _ => (0 : Int32)))), (q3, .inl (c3, 16, .inl (fun _ => (0 : Int32)))), (q4, .inl (c4, 16, .inl (fun _ => (0 : Int32)))), (q5, .inl (c5, 16, .inl (fun _ => (0 : Int32)))), (q6, .inl (c6, 16, .inl (fun _ => (0 : Int32)))), (q7, .inl (c7, 16, .inl (fun _ => (0 : Int32)))), (q8, .inl (c8, 16, .inl (fun _ => (0 : Int32))))] := hD
              refine W.widen (k := 0) (n := 0) (Nat.le_of_ble_eq_true rfl) (Nat.le_of_ble_eq_true rfl) ?_
              refine W.eq (g2 := F0 m 79 ls [.int r_48]) rfl ?_
              refine lv_if_eq (tgt := 86) hx hb dX8_make_79 (by decide) (fun c_49 => ?_) (fun c_49 => ?_)
              ·
                have ic_49 : r_48.toInt = 0 := tx_eq rfl (by decide) c_49
                refine lv_iconst (v := 0) hx hb dX8_make_86 (by decide) ?_
                refine lv_goto (tgt := 96) hx hb dX8_make_87 (by decide) ?_
                refine lv_istore (lv' := [(4, .int 0), (0, .ref h0), (1, .int p0), (2, .int p1), (3, .int p2)]) hx hb dX8_make_96 hl (by decide) rfl (fun ls hl => ?_)
                refine lv_iload hx hb dX8_make_98 (lv_at hl 0 rfl) ?_
                refine lv_if_ne (tgt := 109) hx hb dX8_make_100 (by decide) (fun c_50 => absurd c_50 (by decide)) (fun c_50 => ?_)
                refine lv_aload_n hx hb dX8_make_103 rfl (lv_at hl 1 rfl) ?_
                refine lv_iconst (v := 1) hx hb dX8_make_104 (by decide) ?_
                have hPc := hP.sub (ws' := [(h0, .inr (8, [.int th, .ref q1, v2, .ref q3, .ref q4, .ref q5, .ref q6, .ref q7, .ref q8, v9, v10, v11, v12, v13, v14, v15, v16]))]) [0] rfl
                have hDc := hD.sub (ws' := [(h0, .inr (8, [.int th, .ref q1, v2, .ref q3, .ref q4, .ref q5, .ref q6, .ref q7, .ref q8, v9, v10, v11, v12, v13, v14, v15, v16]))]) [0] (by decide) rfl
                have hKc := hK.sub (tys' := []) [] rfl
                have hFc := va_free (wc := [(h0, .inr (8, [.int th, .ref q1, v2, .ref q3, .ref q4, .ref q5, .ref q6, .ref q7, .ref q8, v9, v10, v11, v12, v13, v14, v15, v16]))]) hD hS hA [0] rfl
                refine va_calli (va_runV (As := [.int 1]) (rest := []) ⟨hx, hb, hml, hown, hts⟩ (c_X8_refuse l  dC dI H.size h0 th 1 (.ref q1) v2 (.ref q3) (.ref q4) (.ref q5) (.ref q6) (.ref q7) (.ref q8) v9 v10 v11 v12 v13 v14 v15 v16) (cwV 1 hts gX8_make_X8_refuse rfl rfl rfl (by decide +kernel) ⟨(Nat.le_of_ble_eq_true rfl), (Nat.le_of_ble_eq_true rfl)⟩) ⟨pk_blind, va_recv hKc hPc (ci := 8) (q0 := 0) rfl rfl, pk_call hPc hKc hDc⟩ rfl rfl hl.1 rfl (lv_room (Nat.le_of_ble_eq_true rfl)) dX8_make_105 ⟨(Nat.le_of_ble_eq_true rfl), (Nat.le_of_ble_eq_true rfl)⟩) hS (fun q _ h => hFc q h) hFc (fun r_51 ur_51 t H1 locs ht hvm hw hB hz1 hk1 hS => ?_)
                try dsimp only at hw
                have jr_51 := hw
                obtain ⟨hP1, hK1, hD1⟩ := hB
                rw [ht] at hP1
                have hK1 := va_K.moved hvm.symm hK1
                obtain ⟨hP, hD⟩ := va_join (wr := [(q1, .inl (c1, 16, .inl (fun _ => (0 : Int32)))), (q3, .inl (c3, 16, .inl (fun _ => (0 : Int32)))), (q4, .inl (c4, 16, .inl (fun _ => (0 : Int32)))), (q5, .inl (c5, 16, .inl (fun _ => (0 : Int32)))), (q6, .inl (c6, 16, .inl (fun _ => (0 : Int32)))), (q7, .inl (c7, 16, .inl (fun _ => (0 : Int32)))), (q8, .inl (c8, 16, .inl (fun _ => (0 : Int32))))]) (w1 := [(h0, .inr (8, [.int 1, .ref q1, v2, .ref q3, .ref q4, .ref q5, .ref q6, .ref q7, .ref q8, v9, v10, v11, v12, v13, v14, v15, v16]))]) hP hD [0] [1, 2, 3, 4, 5, 6, 7] rfl rfl (by decide) (by decide) hk1 hFc hP1 hD1
                clear hk1 hz1 ht hPc hDc hKc
                generalize H1 = H at hP hS ⊢
                have hP : va_P (dC, dI) vwCl [(q1, .inl (c1, 16, .inl (fun _ => (0 : Int32)))), (q3, .inl (c3, 16, .inl (fun _ => (0 : Int32)))), (q4, .inl (c4, 16, .inl (fun _ => (0 : Int32)))), (q5, .inl (c5, 16, .inl (fun _ => (0 : Int32)))), (q6, .inl (c6, 16, .inl (fun _ => (0 : Int32)))), (q7, .inl (c7, 16, .inl (fun _ => (0 : Int32)))), (q8, .inl (c8, 16, .inl (fun _ => (0 : Int32)))), (h0, .inr (8, [.int 1, .ref q1, v2, .ref q3, .ref q4, .ref q5, .ref q6, .ref q7, .ref q8, v9, v10, v11, v12, v13, v14, v15, v16]))] H := hP
                have hD : va_D A [(q1, .inl (c1, 16, .inl (fun _ => (0 : Int32)))), (q3, .inl (c3, 16, .inl (fun _ => (0 : Int32)))), (q4, .inl (c4, 16, .inl (fun _ => (0 : Int32)))), (q5, .inl (c5, 16, .inl (fun _ => (0 : Int32)))), (q6, .inl (c6, 16, .inl (fun _ => (0 : Int32)))), (q7, .inl (c7, 16, .inl (fun _ => (0 : Int32)))), (q8, .inl (c8, 16, .inl (fun _ => (0 : Int32)))), (h0, .inr (8, [.int 1, .ref q1, v2, .ref q3, .ref q4, .ref q5, .ref q6, .ref q7, .ref q8, v9, v10, v11, v12, v13, v14, v15, v16]))] := hD
                refine W.widen (k := 0) (n := 0) (Nat.le_of_ble_eq_true rfl) (Nat.le_of_ble_eq_true rfl) ?_
                refine W.eq (g2 := F0 m 108 ls [.int r_51]) rfl ?_
                have hP9 := hP.sub (ws' := [(h0, .inr (8, [.int 1, .ref q1, v2, .ref q3, .ref q4, .ref q5, .ref q6, .ref q7, .ref q8, v9, v10, v11, v12, v13, v14, v15, v16]))]) [7] rfl
                have hD9 := hD.sub (ws' := [(h0, .inr (8, [.int 1, .ref q1, v2, .ref q3, .ref q4, .ref q5, .ref q6, .ref q7, .ref q8, v9, v10, v11, v12, v13, v14, v15, v16]))]) [7] (by decide) rfl
                have hK9 := hK.sub (tys' := []) [] rfl
                refine W.widen (k := 0) (n := 0) (Nat.le_of_ble_eq_true rfl) (Nat.le_of_ble_eq_true rfl) ?_
                exact W.iret (v := r_51) hx hb hr (fun t ht hW => ⟨⟨r_51, 1, rfl, ⟨tx_at (P := mkIs p0 p1 p2) (n := 1) (by decide) (by unfold mkIs; omega), fun h => absurd h (by decide)⟩, by rw [ht]; exact hP9, va_K.moved hW.alike hK9, hD9⟩, hS.F ht⟩) hS.2.2 dX8_make_108
              ·
                have ic_49 : ¬ r_48.toInt = 0 := tx_ne rfl (by decide) c_49
                refine lv_iconst (v := 1) hx hb dX8_make_82 (by decide) ?_
                refine lv_goto (tgt := 96) hx hb dX8_make_83 (by decide) ?_
                refine lv_istore (lv' := [(4, .int 1), (0, .ref h0), (1, .int p0), (2, .int p1), (3, .int p2)]) hx hb dX8_make_96 hl (by decide) rfl (fun ls hl => ?_)
                refine lv_iload hx hb dX8_make_98 (lv_at hl 0 rfl) ?_
                refine lv_if_ne (tgt := 109) hx hb dX8_make_100 (by decide) (fun c_52 => ?_) (fun c_52 => absurd c_52 (by decide))
                refine lv_aload_n hx hb dX8_make_109 rfl (lv_at hl 1 rfl) ?_
                have hPc := hP.sub (ws' := [(h0, .inr (8, [.int th, .ref q1, v2, .ref q3, .ref q4, .ref q5, .ref q6, .ref q7, .ref q8, v9, v10, v11, v12, v13, v14, v15, v16])), (q1, .inl (c1, 16, .inl (fun _ => (0 : Int32))))]) [0, 1] rfl
                have hDc := hD.sub (ws' := [(h0, .inr (8, [.int th, .ref q1, v2, .ref q3, .ref q4, .ref q5, .ref q6, .ref q7, .ref q8, v9, v10, v11, v12, v13, v14, v15, v16])), (q1, .inl (c1, 16, .inl (fun _ => (0 : Int32))))]) [0, 1] (by decide) rfl
                have hKc := hK.sub (tys' := [(c1, .int)]) [0] rfl
                have hFc := va_free (wc := [(h0, .inr (8, [.int th, .ref q1, v2, .ref q3, .ref q4, .ref q5, .ref q6, .ref q7, .ref q8, v9, v10, v11, v12, v13, v14, v15, v16])), (q1, .inl (c1, 16, .inl (fun _ => (0 : Int32))))]) hD hS hA [0, 1] rfl
                refine va_calli (va_runV (As := []) (rest := []) ⟨hx, hb, hml, hown, hts⟩ (c_X8_free l  dC dI H.size h0 q1 c1 th v2 (.ref q3) (.ref q4) (.ref q5) (.ref q6) (.ref q7) (.ref q8) v9 v10 v11 v12 v13 v14 v15 v16) (cwV 0 hts gX8_make_X8_free rfl rfl rfl (by decide +kernel) ⟨(Nat.le_of_ble_eq_true rfl), (Nat.le_of_ble_eq_true rfl)⟩) ⟨pk_blind, va_recv hKc hPc (ci := 8) (q0 := 0) rfl rfl, pk_call hPc hKc hDc⟩ rfl rfl hl.1 rfl (lv_room (Nat.le_of_ble_eq_true rfl)) dX8_make_110 ⟨(Nat.le_of_ble_eq_true rfl), (Nat.le_of_ble_eq_true rfl)⟩) hS (fun q _ h => hFc q h) hFc (fun r_53 ur_53 t H1 locs ht hvm hw hB hz1 hk1 hS => ?_)
                try dsimp only at hw
                obtain ⟨hP1, hK1, hD1⟩ := hB
                rw [ht] at hP1
                have hK1 := va_K.moved hvm.symm hK1
                obtain ⟨hP, hD⟩ := va_join (wr := [(q3, .inl (c3, 16, .inl (fun _ => (0 : Int32)))), (q4, .inl (c4, 16, .inl (fun _ => (0 : Int32)))), (q5, .inl (c5, 16, .inl (fun _ => (0 : Int32)))), (q6, .inl (c6, 16, .inl (fun _ => (0 : Int32)))), (q7, .inl (c7, 16, .inl (fun _ => (0 : Int32)))), (q8, .inl (c8, 16, .inl (fun _ => (0 : Int32))))]) (w1 := [(h0, .inr (8, [.int th, .ref q1, v2, .ref q3, .ref q4, .ref q5, .ref q6, .ref q7, .ref q8, v9, v10, v11, v12, v13, v14, v15, v16])), (q1, .inl (c1, 16, .inl (fun _ => (0 : Int32))))]) hP hD [0, 1] [2, 3, 4, 5, 6, 7] rfl rfl (by decide) (by decide) hk1 hFc hP1 hD1
                clear hk1 hz1 ht hPc hDc hKc
                generalize H1 = H at hP hS ⊢
                have hP : va_P (dC, dI) vwCl [(q3, .inl (c3, 16, .inl (fun _ => (0 : Int32)))), (q4, .inl (c4, 16, .inl (fun _ => (0 : Int32)))), (q5, .inl (c5, 16, .inl (fun _ => (0 : Int32)))), (q6, .inl (c6, 16, .inl (fun _ => (0 : Int32)))), (q7, .inl (c7, 16, .inl (fun _ => (0 : Int32)))), (q8, .inl (c8, 16, .inl (fun _ => (0 : Int32)))), (h0, .inr (8, [.int th, .ref q1, v2, .ref q3, .ref q4, .ref q5, .ref q6, .ref q7, .ref q8, v9, v10, v11, v12, v13, v14, v15, v16])), (q1, .inl (c1, 16, .inl (fun _ => (0 : Int32))))] H := hP
                have hD : va_D A [(q3, .inl (c3, 16, .inl (fun _ => (0 : Int32)))), (q4, .inl (c4, 16, .inl (fun _ => (0 : Int32)))), (q5, .inl (c5, 16, .inl (fun _ => (0 : Int32)))), (q6, .inl (c6, 16, .inl (fun _ => (0 : Int32)))), (q7, .inl (c7, 16, .inl (fun _ => (0 : Int32)))), (q8, .inl (c8, 16, .inl (fun _ => (0 : Int32)))), (h0, .inr (8, [.int th, .ref q1, v2, .ref q3, .ref q4, .ref q5, .ref q6, .ref q7, .ref q8, v9, v10, v11, v12, v13, v14, v15, v16])), (q1, .inl (c1, 16, .inl (fun _ => (0 : Int32))))] := hD
                refine W.widen (k := 0) (n := 0) (Nat.le_of_ble_eq_true rfl) (Nat.le_of_ble_eq_true rfl) ?_
                obtain rfl : r_53 = 0 := hw
                refine W.eq (g2 := F0 m 113 ls [.int 0]) rfl ?_
                refine lv_istore (lv' := [(5, .int 0), (4, .int 1), (0, .ref h0), (1, .int p0), (2, .int p1), (3, .int p2)]) hx hb dX8_make_113 hl (by decide) rfl (fun ls hl => ?_)
                refine lv_iload hx hb dX8_make_115 (lv_at hl 0 rfl) ?_
                refine lv_if_ge (tgt := 126) hx hb dX8_make_117 (by decide) (fun c_54 => ?_) (fun c_54 => absurd c_54 (by decide))
                refine lv_aload_n hx hb dX8_make_126 rfl (lv_at hl 2 rfl) ?_
                refine lv_iconst (v := 0) hx hb dX8_make_127 (by decide) ?_
                refine va_put (D := (dC, dI)) (ci := 8) (v := .int 0) (ty := .int) (C := RX8) (T := TX8) (N := 17) hx hb hts (by decide +kernel) tyX8 tyX8_ok nmX8 hown hK hP hD hS 6 rfl rfl 0 (by decide) (hts (.fieldLink RX8 60 "KeyAtlasModel" "thrown" "I") (by decide +kernel)) (fun _ h9 => h9) rfl (by decide +kernel) rfl rfl (Nat.le_of_ble_eq_true rfl) dX8_make_128 (fun H locs hP hD hS => ?_)
                have hP : va_P (dC, dI) vwCl [(q3, .inl (c3, 16, .inl (fun _ => (0 : Int32)))), (q4, .inl (c4, 16, .inl (fun _ => (0 : Int32)))), (q5, .inl (c5, 16, .inl (fun _ => (0 : Int32)))), (q6, .inl (c6, 16, .inl (fun _ => (0 : Int32)))), (q7, .inl (c7, 16, .inl (fun _ => (0 : Int32)))), (q8, .inl (c8, 16, .inl (fun _ => (0 : Int32)))), (h0, .inr (8, [.int 0, .ref q1, v2, .ref q3, .ref q4, .ref q5, .ref q6, .ref q7, .ref q8, v9, v10, v11, v12, v13, v14, v15, v16])), (q1, .inl (c1, 16, .inl (fun _ => (0 : Int32))))] H := hP
                have hD : va_D A [(q3, .inl (c3, 16, .inl (fun _ => (0 : Int32)))), (q4, .inl (c4, 16, .inl (fun _ => (0 : Int32)))), (q5, .inl (c5, 16, .inl (fun _ => (0 : Int32)))), (q6, .inl (c6, 16, .inl (fun _ => (0 : Int32)))), (q7, .inl (c7, 16, .inl (fun _ => (0 : Int32)))), (q8, .inl (c8, 16, .inl (fun _ => (0 : Int32)))), (h0, .inr (8, [.int 0, .ref q1, v2, .ref q3, .ref q4, .ref q5, .ref q6, .ref q7, .ref q8, v9, v10, v11, v12, v13, v14, v15, v16])), (q1, .inl (c1, 16, .inl (fun _ => (0 : Int32))))] := hD
                refine lv_aload_n hx hb dX8_make_131 rfl (lv_at hl 2 rfl) ?_
                refine lv_iload hx hb dX8_make_132 (lv_at hl 0 rfl) ?_
                refine lv_iload_n hx hb dX8_make_134 rfl (lv_at hl 3 rfl) ?_
                refine lv_iconst (v := 1) hx hb dX8_make_135 (by decide) ?_
                refine lv_iadd hx hb dX8_make_136 ?_
                have hPc := hP.sub (ws' := [(h0, .inr (8, [.int 0, .ref q1, v2, .ref q3, .ref q4, .ref q5, .ref q6, .ref q7, .ref q8, v9, v10, v11, v12, v13, v14, v15, v16])), (q1, .inl (c1, 16, .inl (fun _ => (0 : Int32)))), (q3, .inl (c3, 16, .inl (fun _ => (0 : Int32)))), (q6, .inl (c6, 16, .inl (fun _ => (0 : Int32)))), (q7, .inl (c7, 16, .inl (fun _ => (0 : Int32)))), (q8, .inl (c8, 16, .inl (fun _ => (0 : Int32))))]) [6, 7, 0, 3, 4, 5] rfl
                have hDc := hD.sub (ws' := [(h0, .inr (8, [.int 0, .ref q1, v2, .ref q3, .ref q4, .ref q5, .ref q6, .ref q7, .ref q8, v9, v10, v11, v12, v13, v14, v15, v16])), (q1, .inl (c1, 16, .inl (fun _ => (0 : Int32)))), (q3, .inl (c3, 16, .inl (fun _ => (0 : Int32)))), (q6, .inl (c6, 16, .inl (fun _ => (0 : Int32)))), (q7, .inl (c7, 16, .inl (fun _ => (0 : Int32)))), (q8, .inl (c8, 16, .inl (fun _ => (0 : Int32))))]) [6, 7, 0, 3, 4, 5] (by decide) rfl
                have hKc := hK.sub (tys' := [(c1, .int), (c3, .int), (c6, .int), (c7, .int), (c8, .int)]) [0, 1, 4, 5, 6] rfl
                have hFc := va_free (wc := [(h0, .inr (8, [.int 0, .ref q1, v2, .ref q3, .ref q4, .ref q5, .ref q6, .ref q7, .ref q8, v9, v10, v11, v12, v13, v14, v15, v16])), (q1, .inl (c1, 16, .inl (fun _ => (0 : Int32)))), (q3, .inl (c3, 16, .inl (fun _ => (0 : Int32)))), (q6, .inl (c6, 16, .inl (fun _ => (0 : Int32)))), (q7, .inl (c7, 16, .inl (fun _ => (0 : Int32)))), (q8, .inl (c8, 16, .inl (fun _ => (0 : Int32))))]) hD hS hA [6, 7, 0, 3, 4, 5] rfl
                refine va_calli (va_runV (As := [.int 0, .int (p0 + 1)]) (rest := []) ⟨hx, hb, hml, hown, hts⟩ (c_X8_born l  dC dI H.size h0 0 q1 q3 q6 q7 q8 c1 c3 c6 c7 c8 v2 (.ref q4) (.ref q5) v9 v10 v11 v12 v13 v14 v15 v16 (p0 + 1)) (cwV 2 hts gX8_make_X8_born rfl rfl rfl (by decide +kernel) ⟨(Nat.le_of_ble_eq_true rfl), (Nat.le_of_ble_eq_true rfl)⟩) ⟨pk_blind, va_recv hKc hPc (ci := 8) (q0 := 0) rfl rfl, pk_call hPc hKc hDc⟩ rfl rfl hl.1 rfl (lv_room (Nat.le_of_ble_eq_true rfl)) dX8_make_137 ⟨(Nat.le_of_ble_eq_true rfl), (Nat.le_of_ble_eq_true rfl)⟩) hS (fun q _ h => hFc q h) hFc (fun r_55 ur_55 t H1 locs ht hvm hw hB hz1 hk1 hS => ?_)
                try dsimp only at hw
                have jr_55 := hw
                obtain ⟨hP1, hK1, hD1⟩ := hB
                rw [ht] at hP1
                have hK1 := va_K.moved hvm.symm hK1
                obtain ⟨hP, hD⟩ := va_join (wr := [(q4, .inl (c4, 16, .inl (fun _ => (0 : Int32)))), (q5, .inl (c5, 16, .inl (fun _ => (0 : Int32))))]) (w1 := [(h0, .inr (8, [.int 0, .ref q1, v2, .ref q3, .ref q4, .ref q5, .ref q6, .ref q7, .ref q8, v9, v10, v11, v12, v13, v14, v15, v16]))]) hP hD [6, 7, 0, 3, 4, 5] [1, 2] rfl rfl (by decide) (by decide) hk1 hFc hP1 hD1
                clear hk1 hz1 ht hPc hDc hKc
                generalize H1 = H at hP hS ⊢
                have hP : va_P (dC, dI) vwCl [(q4, .inl (c4, 16, .inl (fun _ => (0 : Int32)))), (q5, .inl (c5, 16, .inl (fun _ => (0 : Int32)))), (h0, .inr (8, [.int 0, .ref q1, v2, .ref q3, .ref q4, .ref q5, .ref q6, .ref q7, .ref q8, v9, v10, v11, v12, v13, v14, v15, v16]))] H := hP
                have hD : va_D A [(q4, .inl (c4, 16, .inl (fun _ => (0 : Int32)))), (q5, .inl (c5, 16, .inl (fun _ => (0 : Int32)))), (h0, .inr (8, [.int 0, .ref q1, v2, .ref q3, .ref q4, .ref q5, .ref q6, .ref q7, .ref q8, v9, v10, v11, v12, v13, v14, v15, v16]))] := hD
                refine W.widen (k := 0) (n := 0) (Nat.le_of_ble_eq_true rfl) (Nat.le_of_ble_eq_true rfl) ?_
                refine W.eq (g2 := F0 m 140 ls [.int r_55]) rfl ?_
                refine lv_pop hx hb dX8_make_140 rfl ?_
                refine lv_aload_n hx hb dX8_make_141 rfl (lv_at hl 2 rfl) ?_
                refine va_get (D := (dC, dI)) (ci := 8) (v := .ref q4) (C := RX8) (T := TX8) (N := 17) hx hb hts (by decide +kernel) hown hK hP 2 rfl rfl 4 (by decide) (hts (.fieldLink RX8 20 "KeyAtlasModel" "first" "[I") (by decide +kernel)) (fun _ h9 => h9) rfl dX8_make_142 ?_
                refine lv_iload hx hb dX8_make_145 (lv_at hl 0 rfl) ?_
                refine lv_iload_n hx hb dX8_make_147 rfl (lv_at hl 4 rfl) ?_
                refine va_iast (i := 0) hx hb hK hP hD hS 0 2 rfl rfl (by unfold vp_in; decide) dX8_make_148 (fun H locs hP hD hS => ?_)
                have hP : va_P (dC, dI) vwCl [(q4, .inl (c4, 16, .inl (upd (fun _ => (0 : Int32)) (0 : Int32).toNatClampNeg p1))), (q5, .inl (c5, 16, .inl (fun _ => (0 : Int32)))), (h0, .inr (8, [.int 0, .ref q1, v2, .ref q3, .ref q4, .ref q5, .ref q6, .ref q7, .ref q8, v9, v10, v11, v12, v13, v14, v15, v16]))] H := hP
                have hD : va_D A [(q4, .inl (c4, 16, .inl (upd (fun _ => (0 : Int32)) (0 : Int32).toNatClampNeg p1))), (q5, .inl (c5, 16, .inl (fun _ => (0 : Int32)))), (h0, .inr (8, [.int 0, .ref q1, v2, .ref q3, .ref q4, .ref q5, .ref q6, .ref q7, .ref q8, v9, v10, v11, v12, v13, v14, v15, v16]))] := hD
                refine lv_aload_n hx hb dX8_make_149 rfl (lv_at hl 2 rfl) ?_
                refine va_get (D := (dC, dI)) (ci := 8) (v := .ref q5) (C := RX8) (T := TX8) (N := 17) hx hb hts (by decide +kernel) hown hK hP 2 rfl rfl 5 (by decide) (hts (.fieldLink RX8 23 "KeyAtlasModel" "second" "[I") (by decide +kernel)) (fun _ h9 => h9) rfl dX8_make_150 ?_
                refine lv_iload hx hb dX8_make_153 (lv_at hl 0 rfl) ?_
                refine lv_iload_n hx hb dX8_make_155 rfl (lv_at hl 5 rfl) ?_
                refine va_iast (i := 0) hx hb hK hP hD hS 1 3 rfl rfl (by unfold vp_in; decide) dX8_make_156 (fun H locs hP hD hS => ?_)
                have hP : va_P (dC, dI) vwCl [(q4, .inl (c4, 16, .inl (upd (fun _ => (0 : Int32)) (0 : Int32).toNatClampNeg p1))), (q5, .inl (c5, 16, .inl (upd (fun _ => (0 : Int32)) (0 : Int32).toNatClampNeg p2))), (h0, .inr (8, [.int 0, .ref q1, v2, .ref q3, .ref q4, .ref q5, .ref q6, .ref q7, .ref q8, v9, v10, v11, v12, v13, v14, v15, v16]))] H := hP
                have hD : va_D A [(q4, .inl (c4, 16, .inl (upd (fun _ => (0 : Int32)) (0 : Int32).toNatClampNeg p1))), (q5, .inl (c5, 16, .inl (upd (fun _ => (0 : Int32)) (0 : Int32).toNatClampNeg p2))), (h0, .inr (8, [.int 0, .ref q1, v2, .ref q3, .ref q4, .ref q5, .ref q6, .ref q7, .ref q8, v9, v10, v11, v12, v13, v14, v15, v16]))] := hD
                refine lv_iload hx hb dX8_make_157 (lv_at hl 0 rfl) ?_
                have hP9 := hP.sub (ws' := [(h0, .inr (8, [.int 0, .ref q1, v2, .ref q3, .ref q4, .ref q5, .ref q6, .ref q7, .ref q8, v9, v10, v11, v12, v13, v14, v15, v16]))]) [2] rfl
                have hD9 := hD.sub (ws' := [(h0, .inr (8, [.int 0, .ref q1, v2, .ref q3, .ref q4, .ref q5, .ref q6, .ref q7, .ref q8, v9, v10, v11, v12, v13, v14, v15, v16]))]) [2] (by decide) rfl
                have hK9 := hK.sub (tys' := []) [] rfl
                refine W.widen (k := 0) (n := 0) (Nat.le_of_ble_eq_true rfl) (Nat.le_of_ble_eq_true rfl) ?_
                exact W.iret (v := 0) hx hb hr (fun t ht hW => ⟨⟨0, 0, rfl, ⟨tx_at (P := mkIs p0 p1 p2) (n := 0) (by decide) (by unfold mkIs; omega), fun _ => rfl⟩, by rw [ht]; exact hP9, va_K.moved hW.alike hK9, hD9⟩, hS.F ht⟩) hS.2.2 dX8_make_159
        ·
          have ic_36 : p0.toInt = 0 := tx_eq rfl (by decide) c_36
          refine lv_iload_n hx hb dX8_make_33 rfl (lv_at hl 2 rfl) ?_
          refine lv_sipush (v := 1000) hx hb dX8_make_34 (by decide) ?_
          refine lv_icmp_gt (tgt := 53) hx hb dX8_make_37 (by decide) (fun c_56 => ?_) (fun c_56 => ?_)
          ·
            have ic_56 : 1000 < p1.toInt := tx_lt (by decide) rfl c_56
            refine lv_iconst (v := 0) hx hb dX8_make_53 (by decide) ?_
            refine lv_goto (tgt := 96) hx hb dX8_make_54 (by decide) ?_
            refine lv_istore (lv' := [(4, .int 0), (0, .ref h0), (1, .int p0), (2, .int p1), (3, .int p2)]) hx hb dX8_make_96 hl (by decide) rfl (fun ls hl => ?_)
            refine lv_iload hx hb dX8_make_98 (lv_at hl 0 rfl) ?_
            refine lv_if_ne (tgt := 109) hx hb dX8_make_100 (by decide) (fun c_57 => absurd c_57 (by decide)) (fun c_57 => ?_)
            refine lv_aload_n hx hb dX8_make_103 rfl (lv_at hl 1 rfl) ?_
            refine lv_iconst (v := 1) hx hb dX8_make_104 (by decide) ?_
            have hPc := hP.sub (ws' := [(h0, .inr (8, [.int th, .ref q1, v2, .ref q3, .ref q4, .ref q5, .ref q6, .ref q7, .ref q8, v9, v10, v11, v12, v13, v14, v15, v16]))]) [0] rfl
            have hDc := hD.sub (ws' := [(h0, .inr (8, [.int th, .ref q1, v2, .ref q3, .ref q4, .ref q5, .ref q6, .ref q7, .ref q8, v9, v10, v11, v12, v13, v14, v15, v16]))]) [0] (by decide) rfl
            have hKc := hK.sub (tys' := []) [] rfl
            have hFc := va_free (wc := [(h0, .inr (8, [.int th, .ref q1, v2, .ref q3, .ref q4, .ref q5, .ref q6, .ref q7, .ref q8, v9, v10, v11, v12, v13, v14, v15, v16]))]) hD hS hA [0] rfl
            refine va_calli (va_runV (As := [.int 1]) (rest := []) ⟨hx, hb, hml, hown, hts⟩ (c_X8_refuse l  dC dI H.size h0 th 1 (.ref q1) v2 (.ref q3) (.ref q4) (.ref q5) (.ref q6) (.ref q7) (.ref q8) v9 v10 v11 v12 v13 v14 v15 v16) (cwV 1 hts gX8_make_X8_refuse rfl rfl rfl (by decide +kernel) ⟨(Nat.le_of_ble_eq_true rfl), (Nat.le_of_ble_eq_true rfl)⟩) ⟨pk_blind, va_recv hKc hPc (ci := 8) (q0 := 0) rfl rfl, pk_call hPc hKc hDc⟩ rfl rfl hl.1 rfl (lv_room (Nat.le_of_ble_eq_true rfl)) dX8_make_105 ⟨(Nat.le_of_ble_eq_true rfl), (Nat.le_of_ble_eq_true rfl)⟩) hS (fun q _ h => hFc q h) hFc (fun r_58 ur_58 t H1 locs ht hvm hw hB hz1 hk1 hS => ?_)
            try dsimp only at hw
            have jr_58 := hw
            obtain ⟨hP1, hK1, hD1⟩ := hB
            rw [ht] at hP1
            have hK1 := va_K.moved hvm.symm hK1
            obtain ⟨hP, hD⟩ := va_join (wr := [(q1, .inl (c1, 16, .inl (fun _ => (0 : Int32)))), (q3, .inl (c3, 16, .inl (fun _ => (0 : Int32)))), (q4, .inl (c4, 16, .inl (fun _ => (0 : Int32)))), (q5, .inl (c5, 16, .inl (fun _ => (0 : Int32)))), (q6, .inl (c6, 16, .inl (fun _ => (0 : Int32)))), (q7, .inl (c7, 16, .inl (fun _ => (0 : Int32)))), (q8, .inl (c8, 16, .inl (fun _ => (0 : Int32))))]) (w1 := [(h0, .inr (8, [.int 1, .ref q1, v2, .ref q3, .ref q4, .ref q5, .ref q6, .ref q7, .ref q8, v9, v10, v11, v12, v13, v14, v15, v16]))]) hP hD [0] [1, 2, 3, 4, 5, 6, 7] rfl rfl (by decide) (by decide) hk1 hFc hP1 hD1
            clear hk1 hz1 ht hPc hDc hKc
            generalize H1 = H at hP hS ⊢
            have hP : va_P (dC, dI) vwCl [(q1, .inl (c1, 16, .inl (fun _ => (0 : Int32)))), (q3, .inl (c3, 16, .inl (fun _ => (0 : Int32)))), (q4, .inl (c4, 16, .inl (fun _ => (0 : Int32)))), (q5, .inl (c5, 16, .inl (fun _ => (0 : Int32)))), (q6, .inl (c6, 16, .inl (fun _ => (0 : Int32)))), (q7, .inl (c7, 16, .inl (fun _ => (0 : Int32)))), (q8, .inl (c8, 16, .inl (fun _ => (0 : Int32)))), (h0, .inr (8, [.int 1, .ref q1, v2, .ref q3, .ref q4, .ref q5, .ref q6, .ref q7, .ref q8, v9, v10, v11, v12, v13, v14, v15, v16]))] H := hP
            have hD : va_D A [(q1, .inl (c1, 16, .inl (fun _ => (0 : Int32)))), (q3, .inl (c3, 16, .inl (fun _ => (0 : Int32)))), (q4, .inl (c4, 16, .inl (fun _ => (0 : Int32)))), (q5, .inl (c5, 16, .inl (fun _ => (0 : Int32)))), (q6, .inl (c6, 16, .inl (fun _ => (0 : Int32)))), (q7, .inl (c7, 16, .inl (fun _ => (0 : Int32)))), (q8, .inl (c8, 16, .inl (fun _ => (0 : Int32)))), (h0, .inr (8, [.int 1, .ref q1, v2, .ref q3, .ref q4, .ref q5, .ref q6, .ref q7, .ref q8, v9, v10, v11, v12, v13, v14, v15, v16]))] := hD
            refine W.widen (k := 0) (n := 0) (Nat.le_of_ble_eq_true rfl) (Nat.le_of_ble_eq_true rfl) ?_
            refine W.eq (g2 := F0 m 108 ls [.int r_58]) rfl ?_
            have hP9 := hP.sub (ws' := [(h0, .inr (8, [.int 1, .ref q1, v2, .ref q3, .ref q4, .ref q5, .ref q6, .ref q7, .ref q8, v9, v10, v11, v12, v13, v14, v15, v16]))]) [7] rfl
            have hD9 := hD.sub (ws' := [(h0, .inr (8, [.int 1, .ref q1, v2, .ref q3, .ref q4, .ref q5, .ref q6, .ref q7, .ref q8, v9, v10, v11, v12, v13, v14, v15, v16]))]) [7] (by decide) rfl
            have hK9 := hK.sub (tys' := []) [] rfl
            refine W.widen (k := 0) (n := 0) (Nat.le_of_ble_eq_true rfl) (Nat.le_of_ble_eq_true rfl) ?_
            exact W.iret (v := r_58) hx hb hr (fun t ht hW => ⟨⟨r_58, 1, rfl, ⟨tx_at (P := mkIs p0 p1 p2) (n := 1) (by decide) (by unfold mkIs; omega), fun h => absurd h (by decide)⟩, by rw [ht]; exact hP9, va_K.moved hW.alike hK9, hD9⟩, hS.F ht⟩) hS.2.2 dX8_make_108
          ·
            have ic_56 : p1.toInt ≤ 1000 := tx_nlt (by decide) rfl c_56
            refine lv_iload_n hx hb dX8_make_40 rfl (lv_at hl 3 rfl) ?_
            refine lv_iconst (v := 0) hx hb dX8_make_41 (by decide) ?_
            refine lv_iconst (v := 3) hx hb dX8_make_42 (by decide) ?_
            have hPc := hP.sub (ws' := []) [] rfl
            have hDc := hD.sub (ws' := []) [] (by decide) rfl
            have hKc := hK.sub (tys' := []) [] rfl
            have hFc := va_free (wc := []) hD hS hA [] rfl
            refine va_calli (va_runS (As := [.int p2, .int 0, .int 3]) (rest := []) ⟨hx, hb, hml, hown, hts⟩ (c_X8_in l  dC dI H.size p2 0 3 0 3 (by decide) (by decide)) (va_cwS 3 hts gX8_make_X8_in rfl rfl rfl (by decide +kernel) ⟨(Nat.le_of_ble_eq_true rfl), (Nat.le_of_ble_eq_true rfl)⟩) ⟨pk_blind, pk_call hPc hKc hDc⟩ rfl rfl hl.1 rfl (lv_room (Nat.le_of_ble_eq_true rfl)) dX8_make_43 ⟨(Nat.le_of_ble_eq_true rfl), (Nat.le_of_ble_eq_true rfl)⟩) hS (fun q _ h => hFc q h) hFc (fun r_59 ur_59 t H1 locs ht hvm hw hB hz1 hk1 hS => ?_)
            try dsimp only at hw
            have jr_59 := hw
            obtain ⟨hP, hD⟩ := va_join (wr := [(h0, .inr (8, [.int th, .ref q1, v2, .ref q3, .ref q4, .ref q5, .ref q6, .ref q7, .ref q8, v9, v10, v11, v12, v13, v14, v15, v16])), (q1, .inl (c1, 16, .inl (fun _ => (0 : Int32)))), (q3, .inl (c3, 16, .inl (fun _ => (0 : Int32)))), (q4, .inl (c4, 16, .inl (fun _ => (0 : Int32)))), (q5, .inl (c5, 16, .inl (fun _ => (0 : Int32)))), (q6, .inl (c6, 16, .inl (fun _ => (0 : Int32)))), (q7, .inl (c7, 16, .inl (fun _ => (0 : Int32)))), (q8, .inl (c8, 16, .inl (fun _ => (0 : Int32))))]) (w1 := []) hP hD [] [0, 1, 2, 3, 4, 5, 6, 7] rfl rfl (by decide) (by decide) hk1 hFc tx_P0 tx_D0
            clear hk1 hz1 ht hPc hDc hKc
            generalize H1 = H at hP hS ⊢
            have hP : va_P (dC, dI) vwCl [(h0, .inr (8, [.int th, .ref q1, v2, .ref q3, .ref q4, .ref q5, .ref q6, .ref q7, .ref q8, v9, v10, v11, v12, v13, v14, v15, v16])), (q1, .inl (c1, 16, .inl (fun _ => (0 : Int32)))), (q3, .inl (c3, 16, .inl (fun _ => (0 : Int32)))), (q4, .inl (c4, 16, .inl (fun _ => (0 : Int32)))), (q5, .inl (c5, 16, .inl (fun _ => (0 : Int32)))), (q6, .inl (c6, 16, .inl (fun _ => (0 : Int32)))), (q7, .inl (c7, 16, .inl (fun _ => (0 : Int32)))), (q8, .inl (c8, 16, .inl (fun _ => (0 : Int32))))] H := hP
            have hD : va_D A [(h0, .inr (8, [.int th, .ref q1, v2, .ref q3, .ref q4, .ref q5, .ref q6, .ref q7, .ref q8, v9, v10, v11, v12, v13, v14, v15, v16])), (q1, .inl (c1, 16, .inl (fun _ => (0 : Int32)))), (q3, .inl (c3, 16, .inl (fun _ => (0 : Int32)))), (q4, .inl (c4, 16, .inl (fun _ => (0 : Int32)))), (q5, .inl (c5, 16, .inl (fun _ => (0 : Int32)))), (q6, .inl (c6, 16, .inl (fun _ => (0 : Int32)))), (q7, .inl (c7, 16, .inl (fun _ => (0 : Int32)))), (q8, .inl (c8, 16, .inl (fun _ => (0 : Int32))))] := hD
            refine W.widen (k := 0) (n := 0) (Nat.le_of_ble_eq_true rfl) (Nat.le_of_ble_eq_true rfl) ?_
            refine W.eq (g2 := F0 m 46 ls [.int r_59]) rfl ?_
            refine lv_if_eq (tgt := 53) hx hb dX8_make_46 (by decide) (fun c_60 => ?_) (fun c_60 => ?_)
            ·
              have ic_60 : r_59.toInt = 0 := tx_eq rfl (by decide) c_60
              refine lv_iconst (v := 0) hx hb dX8_make_53 (by decide) ?_
              refine lv_goto (tgt := 96) hx hb dX8_make_54 (by decide) ?_
              refine lv_istore (lv' := [(4, .int 0), (0, .ref h0), (1, .int p0), (2, .int p1), (3, .int p2)]) hx hb dX8_make_96 hl (by decide) rfl (fun ls hl => ?_)
              refine lv_iload hx hb dX8_make_98 (lv_at hl 0 rfl) ?_
              refine lv_if_ne (tgt := 109) hx hb dX8_make_100 (by decide) (fun c_61 => absurd c_61 (by decide)) (fun c_61 => ?_)
              refine lv_aload_n hx hb dX8_make_103 rfl (lv_at hl 1 rfl) ?_
              refine lv_iconst (v := 1) hx hb dX8_make_104 (by decide) ?_
              have hPc := hP.sub (ws' := [(h0, .inr (8, [.int th, .ref q1, v2, .ref q3, .ref q4, .ref q5, .ref q6, .ref q7, .ref q8, v9, v10, v11, v12, v13, v14, v15, v16]))]) [0] rfl
              have hDc := hD.sub (ws' := [(h0, .inr (8, [.int th, .ref q1, v2, .ref q3, .ref q4, .ref q5, .ref q6, .ref q7, .ref q8, v9, v10, v11, v12, v13, v14, v15, v16]))]) [0] (by decide) rfl
              have hKc := hK.sub (tys' := []) [] rfl
              have hFc := va_free (wc := [(h0, .inr (8, [.int th, .ref q1, v2, .ref q3, .ref q4, .ref q5, .ref q6, .ref q7, .ref q8, v9, v10, v11, v12, v13, v14, v15, v16]))]) hD hS hA [0] rfl
              refine va_calli (va_runV (As := [.int 1]) (rest := []) ⟨hx, hb, hml, hown, hts⟩ (c_X8_refuse l  dC dI H.size h0 th 1 (.ref q1) v2 (.ref q3) (.ref q4) (.ref q5) (.ref q6) (.ref q7) (.ref q8) v9 v10 v11 v12 v13 v14 v15 v16) (cwV 1 hts gX8_make_X8_refuse rfl rfl rfl (by decide +kernel) ⟨(Nat.le_of_ble_eq_true rfl), (Nat.le_of_ble_eq_true rfl)⟩) ⟨pk_blind, va_recv hKc hPc (ci := 8) (q0 := 0) rfl rfl, pk_call hPc hKc hDc⟩ rfl rfl hl.1 rfl (lv_room (Nat.le_of_ble_eq_true rfl)) dX8_make_105 ⟨(Nat.le_of_ble_eq_true rfl), (Nat.le_of_ble_eq_true rfl)⟩) hS (fun q _ h => hFc q h) hFc (fun r_62 ur_62 t H1 locs ht hvm hw hB hz1 hk1 hS => ?_)
              try dsimp only at hw
              have jr_62 := hw
              obtain ⟨hP1, hK1, hD1⟩ := hB
              rw [ht] at hP1
              have hK1 := va_K.moved hvm.symm hK1
              obtain ⟨hP, hD⟩ := va_join (wr := [(q1, .inl (c1, 16, .inl (fun _ => (0 : Int32)))), (q3, .inl (c3, 16, .inl (fun _ => (0 : Int32)))), (q4, .inl (c4, 16, .inl (fun _ => (0 : Int32)))), (q5, .inl (c5, 16, .inl (fun _ => (0 : Int32)))), (q6, .inl (c6, 16, .inl (fun _ => (0 : Int32)))), (q7, .inl (c7, 16, .inl (fun _ => (0 : Int32)))), (q8, .inl (c8, 16, .inl (fun _ => (0 : Int32))))]) (w1 := [(h0, .inr (8, [.int 1, .ref q1, v2, .ref q3, .ref q4, .ref q5, .ref q6, .ref q7, .ref q8, v9, v10, v11, v12, v13, v14, v15, v16]))]) hP hD [0] [1, 2, 3, 4, 5, 6, 7] rfl rfl (by decide) (by decide) hk1 hFc hP1 hD1
              clear hk1 hz1 ht hPc hDc hKc
              generalize H1 = H at hP hS ⊢
              have hP : va_P (dC, dI) vwCl [(q1, .inl (c1, 16, .inl (fun _ => (0 : Int32)))), (q3, .inl (c3, 16, .inl (fun _ => (0 : Int32)))), (q4, .inl (c4, 16, .inl (fun _ => (0 : Int32)))), (q5, .inl (c5, 16, .inl (fun _ => (0 : Int32)))), (q6, .inl (c6, 16, .inl (fun _ => (0 : Int32)))), (q7, .inl (c7, 16, .inl (fun _ => (0 : Int32)))), (q8, .inl (c8, 16, .inl (fun _ => (0 : Int32)))), (h0, .inr (8, [.int 1, .ref q1, v2, .ref q3, .ref q4, .ref q5, .ref q6, .ref q7, .ref q8, v9, v10, v11, v12, v13, v14, v15, v16]))] H := hP
              have hD : va_D A [(q1, .inl (c1, 16, .inl (fun _ => (0 : Int32)))), (q3, .inl (c3, 16, .inl (fun _ => (0 : Int32)))), (q4, .inl (c4, 16, .inl (fun _ => (0 : Int32)))), (q5, .inl (c5, 16, .inl (fun _ => (0 : Int32)))), (q6, .inl (c6, 16, .inl (fun _ => (0 : Int32)))), (q7, .inl (c7, 16, .inl (fun _ => (0 : Int32)))), (q8, .inl (c8, 16, .inl (fun _ => (0 : Int32)))), (h0, .inr (8, [.int 1, .ref q1, v2, .ref q3, .ref q4, .ref q5, .ref q6, .ref q7, .ref q8, v9, v10, v11, v12, v13, v14, v15, v16]))] := hD
              refine W.widen (k := 0) (n := 0) (Nat.le_of_ble_eq_true rfl) (Nat.le_of_ble_eq_true rfl) ?_
              refine W.eq (g2 := F0 m 108 ls [.int r_62]) rfl ?_
              have hP9 := hP.sub (ws' := [(h0, .inr (8, [.int 1, .ref q1, v2, .ref q3, .ref q4, .ref q5, .ref q6, .ref q7, .ref q8, v9, v10, v11, v12, v13, v14, v15, v16]))]) [7] rfl
              have hD9 := hD.sub (ws' := [(h0, .inr (8, [.int 1, .ref q1, v2, .ref q3, .ref q4, .ref q5, .ref q6, .ref q7, .ref q8, v9, v10, v11, v12, v13, v14, v15, v16]))]) [7] (by decide) rfl
              have hK9 := hK.sub (tys' := []) [] rfl
              refine W.widen (k := 0) (n := 0) (Nat.le_of_ble_eq_true rfl) (Nat.le_of_ble_eq_true rfl) ?_
              exact W.iret (v := r_62) hx hb hr (fun t ht hW => ⟨⟨r_62, 1, rfl, ⟨tx_at (P := mkIs p0 p1 p2) (n := 1) (by decide) (by unfold mkIs; omega), fun h => absurd h (by decide)⟩, by rw [ht]; exact hP9, va_K.moved hW.alike hK9, hD9⟩, hS.F ht⟩) hS.2.2 dX8_make_108
            ·
              have ic_60 : ¬ r_59.toInt = 0 := tx_ne rfl (by decide) c_60
              refine lv_iconst (v := 1) hx hb dX8_make_49 (by decide) ?_
              refine lv_goto (tgt := 96) hx hb dX8_make_50 (by decide) ?_
              refine lv_istore (lv' := [(4, .int 1), (0, .ref h0), (1, .int p0), (2, .int p1), (3, .int p2)]) hx hb dX8_make_96 hl (by decide) rfl (fun ls hl => ?_)
              refine lv_iload hx hb dX8_make_98 (lv_at hl 0 rfl) ?_
              refine lv_if_ne (tgt := 109) hx hb dX8_make_100 (by decide) (fun c_63 => ?_) (fun c_63 => absurd c_63 (by decide))
              refine lv_aload_n hx hb dX8_make_109 rfl (lv_at hl 1 rfl) ?_
              have hPc := hP.sub (ws' := [(h0, .inr (8, [.int th, .ref q1, v2, .ref q3, .ref q4, .ref q5, .ref q6, .ref q7, .ref q8, v9, v10, v11, v12, v13, v14, v15, v16])), (q1, .inl (c1, 16, .inl (fun _ => (0 : Int32))))]) [0, 1] rfl
              have hDc := hD.sub (ws' := [(h0, .inr (8, [.int th, .ref q1, v2, .ref q3, .ref q4, .ref q5, .ref q6, .ref q7, .ref q8, v9, v10, v11, v12, v13, v14, v15, v16])), (q1, .inl (c1, 16, .inl (fun _ => (0 : Int32))))]) [0, 1] (by decide) rfl
              have hKc := hK.sub (tys' := [(c1, .int)]) [0] rfl
              have hFc := va_free (wc := [(h0, .inr (8, [.int th, .ref q1, v2, .ref q3, .ref q4, .ref q5, .ref q6, .ref q7, .ref q8, v9, v10, v11, v12, v13, v14, v15, v16])), (q1, .inl (c1, 16, .inl (fun _ => (0 : Int32))))]) hD hS hA [0, 1] rfl
              refine va_calli (va_runV (As := []) (rest := []) ⟨hx, hb, hml, hown, hts⟩ (c_X8_free l  dC dI H.size h0 q1 c1 th v2 (.ref q3) (.ref q4) (.ref q5) (.ref q6) (.ref q7) (.ref q8) v9 v10 v11 v12 v13 v14 v15 v16) (cwV 0 hts gX8_make_X8_free rfl rfl rfl (by decide +kernel) ⟨(Nat.le_of_ble_eq_true rfl), (Nat.le_of_ble_eq_true rfl)⟩) ⟨pk_blind, va_recv hKc hPc (ci := 8) (q0 := 0) rfl rfl, pk_call hPc hKc hDc⟩ rfl rfl hl.1 rfl (lv_room (Nat.le_of_ble_eq_true rfl)) dX8_make_110 ⟨(Nat.le_of_ble_eq_true rfl), (Nat.le_of_ble_eq_true rfl)⟩) hS (fun q _ h => hFc q h) hFc (fun r_64 ur_64 t H1 locs ht hvm hw hB hz1 hk1 hS => ?_)
              try dsimp only at hw
              obtain ⟨hP1, hK1, hD1⟩ := hB
              rw [ht] at hP1
              have hK1 := va_K.moved hvm.symm hK1
              obtain ⟨hP, hD⟩ := va_join (wr := [(q3, .inl (c3, 16, .inl (fun _ => (0 : Int32)))), (q4, .inl (c4, 16, .inl (fun _ => (0 : Int32)))), (q5, .inl (c5, 16, .inl (fun _ => (0 : Int32)))), (q6, .inl (c6, 16, .inl (fun _ => (0 : Int32)))), (q7, .inl (c7, 16, .inl (fun _ => (0 : Int32)))), (q8, .inl (c8, 16, .inl (fun _ => (0 : Int32))))]) (w1 := [(h0, .inr (8, [.int th, .ref q1, v2, .ref q3, .ref q4, .ref q5, .ref q6, .ref q7, .ref q8, v9, v10, v11, v12, v13, v14, v15, v16])), (q1, .inl (c1, 16, .inl (fun _ => (0 : Int32))))]) hP hD [0, 1] [2, 3, 4, 5, 6, 7] rfl rfl (by decide) (by decide) hk1 hFc hP1 hD1
              clear hk1 hz1 ht hPc hDc hKc
              generalize H1 = H at hP hS ⊢
              have hP : va_P (dC, dI) vwCl [(q3, .inl (c3, 16, .inl (fun _ => (0 : Int32)))), (q4, .inl (c4, 16, .inl (fun _ => (0 : Int32)))), (q5, .inl (c5, 16, .inl (fun _ => (0 : Int32)))), (q6, .inl (c6, 16, .inl (fun _ => (0 : Int32)))), (q7, .inl (c7, 16, .inl (fun _ => (0 : Int32)))), (q8, .inl (c8, 16, .inl (fun _ => (0 : Int32)))), (h0, .inr (8, [.int th, .ref q1, v2, .ref q3, .ref q4, .ref q5, .ref q6, .ref q7, .ref q8, v9, v10, v11, v12, v13, v14, v15, v16])), (q1, .inl (c1, 16, .inl (fun _ => (0 : Int32))))] H := hP
              have hD : va_D A [(q3, .inl (c3, 16, .inl (fun _ => (0 : Int32)))), (q4, .inl (c4, 16, .inl (fun _ => (0 : Int32)))), (q5, .inl (c5, 16, .inl (fun _ => (0 : Int32)))), (q6, .inl (c6, 16, .inl (fun _ => (0 : Int32)))), (q7, .inl (c7, 16, .inl (fun _ => (0 : Int32)))), (q8, .inl (c8, 16, .inl (fun _ => (0 : Int32)))), (h0, .inr (8, [.int th, .ref q1, v2, .ref q3, .ref q4, .ref q5, .ref q6, .ref q7, .ref q8, v9, v10, v11, v12, v13, v14, v15, v16])), (q1, .inl (c1, 16, .inl (fun _ => (0 : Int32))))] := hD
              refine W.widen (k := 0) (n := 0) (Nat.le_of_ble_eq_true rfl) (Nat.le_of_ble_eq_true rfl) ?_
              obtain rfl : r_64 = 0 := hw
              refine W.eq (g2 := F0 m 113 ls [.int 0]) rfl ?_
              refine lv_istore (lv' := [(5, .int 0), (4, .int 1), (0, .ref h0), (1, .int p0), (2, .int p1), (3, .int p2)]) hx hb dX8_make_113 hl (by decide) rfl (fun ls hl => ?_)
              refine lv_iload hx hb dX8_make_115 (lv_at hl 0 rfl) ?_
              refine lv_if_ge (tgt := 126) hx hb dX8_make_117 (by decide) (fun c_65 => ?_) (fun c_65 => absurd c_65 (by decide))
              refine lv_aload_n hx hb dX8_make_126 rfl (lv_at hl 2 rfl) ?_
              refine lv_iconst (v := 0) hx hb dX8_make_127 (by decide) ?_
              refine va_put (D := (dC, dI)) (ci := 8) (v := .int 0) (ty := .int) (C := RX8) (T := TX8) (N := 17) hx hb hts (by decide +kernel) tyX8 tyX8_ok nmX8 hown hK hP hD hS 6 rfl rfl 0 (by decide) (hts (.fieldLink RX8 60 "KeyAtlasModel" "thrown" "I") (by decide +kernel)) (fun _ h9 => h9) rfl (by decide +kernel) rfl rfl (Nat.le_of_ble_eq_true rfl) dX8_make_128 (fun H locs hP hD hS => ?_)
              have hP : va_P (dC, dI) vwCl [(q3, .inl (c3, 16, .inl (fun _ => (0 : Int32)))), (q4, .inl (c4, 16, .inl (fun _ => (0 : Int32)))), (q5, .inl (c5, 16, .inl (fun _ => (0 : Int32)))), (q6, .inl (c6, 16, .inl (fun _ => (0 : Int32)))), (q7, .inl (c7, 16, .inl (fun _ => (0 : Int32)))), (q8, .inl (c8, 16, .inl (fun _ => (0 : Int32)))), (h0, .inr (8, [.int 0, .ref q1, v2, .ref q3, .ref q4, .ref q5, .ref q6, .ref q7, .ref q8, v9, v10, v11, v12, v13, v14, v15, v16])), (q1, .inl (c1, 16, .inl (fun _ => (0 : Int32))))] H := hP
              have hD : va_D A [(q3, .inl (c3, 16, .inl (fun _ => (0 : Int32)))), (q4, .inl (c4, 16, .inl (fun _ => (0 : Int32)))), (q5, .inl (c5, 16, .inl (fun _ => (0 : Int32)))), (q6, .inl (c6, 16, .inl (fun _ => (0 : Int32)))), (q7, .inl (c7, 16, .inl (fun _ => (0 : Int32)))), (q8, .inl (c8, 16, .inl (fun _ => (0 : Int32)))), (h0, .inr (8, [.int 0, .ref q1, v2, .ref q3, .ref q4, .ref q5, .ref q6, .ref q7, .ref q8, v9, v10, v11, v12, v13, v14, v15, v16])), (q1, .inl (c1, 16, .inl (fun _ => (0 : Int32))))] := hD
              refine lv_aload_n hx hb dX8_make_131 rfl (lv_at hl 2 rfl) ?_
              refine lv_iload hx hb dX8_make_132 (lv_at hl 0 rfl) ?_
              refine lv_iload_n hx hb dX8_make_134 rfl (lv_at hl 3 rfl) ?_
              refine lv_iconst (v := 1) hx hb dX8_make_135 (by decide) ?_
              refine lv_iadd hx hb dX8_make_136 ?_
              have hPc := hP.sub (ws' := [(h0, .inr (8, [.int 0, .ref q1, v2, .ref q3, .ref q4, .ref q5, .ref q6, .ref q7, .ref q8, v9, v10, v11, v12, v13, v14, v15, v16])), (q1, .inl (c1, 16, .inl (fun _ => (0 : Int32)))), (q3, .inl (c3, 16, .inl (fun _ => (0 : Int32)))), (q6, .inl (c6, 16, .inl (fun _ => (0 : Int32)))), (q7, .inl (c7, 16, .inl (fun _ => (0 : Int32)))), (q8, .inl (c8, 16, .inl (fun _ => (0 : Int32))))]) [6, 7, 0, 3, 4, 5] rfl
              have hDc := hD.sub (ws' := [(h0, .inr (8, [.int 0, .ref q1, v2, .ref q3, .ref q4, .ref q5, .ref q6, .ref q7, .ref q8, v9, v10, v11, v12, v13, v14, v15, v16])), (q1, .inl (c1, 16, .inl (fun _ => (0 : Int32)))), (q3, .inl (c3, 16, .inl (fun _ => (0 : Int32)))), (q6, .inl (c6, 16, .inl (fun _ => (0 : Int32)))), (q7, .inl (c7, 16, .inl (fun _ => (0 : Int32)))), (q8, .inl (c8, 16, .inl (fun _ => (0 : Int32))))]) [6, 7, 0, 3, 4, 5] (by decide) rfl
              have hKc := hK.sub (tys' := [(c1, .int), (c3, .int), (c6, .int), (c7, .int), (c8, .int)]) [0, 1, 4, 5, 6] rfl
              have hFc := va_free (wc := [(h0, .inr (8, [.int 0, .ref q1, v2, .ref q3, .ref q4, .ref q5, .ref q6, .ref q7, .ref q8, v9, v10, v11, v12, v13, v14, v15, v16])), (q1, .inl (c1, 16, .inl (fun _ => (0 : Int32)))), (q3, .inl (c3, 16, .inl (fun _ => (0 : Int32)))), (q6, .inl (c6, 16, .inl (fun _ => (0 : Int32)))), (q7, .inl (c7, 16, .inl (fun _ => (0 : Int32)))), (q8, .inl (c8, 16, .inl (fun _ => (0 : Int32))))]) hD hS hA [6, 7, 0, 3, 4, 5] rfl
              refine va_calli (va_runV (As := [.int 0, .int (p0 + 1)]) (rest := []) ⟨hx, hb, hml, hown, hts⟩ (c_X8_born l  dC dI H.size h0 0 q1 q3 q6 q7 q8 c1 c3 c6 c7 c8 v2 (.ref q4) (.ref q5) v9 v10 v11 v12 v13 v14 v15 v16 (p0 + 1)) (cwV 2 hts gX8_make_X8_born rfl rfl rfl (by decide +kernel) ⟨(Nat.le_of_ble_eq_true rfl), (Nat.le_of_ble_eq_true rfl)⟩) ⟨pk_blind, va_recv hKc hPc (ci := 8) (q0 := 0) rfl rfl, pk_call hPc hKc hDc⟩ rfl rfl hl.1 rfl (lv_room (Nat.le_of_ble_eq_true rfl)) dX8_make_137 ⟨(Nat.le_of_ble_eq_true rfl), (Nat.le_of_ble_eq_true rfl)⟩) hS (fun q _ h => hFc q h) hFc (fun r_66 ur_66 t H1 locs ht hvm hw hB hz1 hk1 hS => ?_)
              try dsimp only at hw
              have jr_66 := hw
              obtain ⟨hP1, hK1, hD1⟩ := hB
              rw [ht] at hP1
              have hK1 := va_K.moved hvm.symm hK1
              obtain ⟨hP, hD⟩ := va_join (wr := [(q4, .inl (c4, 16, .inl (fun _ => (0 : Int32)))), (q5, .inl (c5, 16, .inl (fun _ => (0 : Int32))))]) (w1 := [(h0, .inr (8, [.int 0, .ref q1, v2, .ref q3, .ref q4, .ref q5, .ref q6, .ref q7, .ref q8, v9, v10, v11, v12, v13, v14, v15, v16]))]) hP hD [6, 7, 0, 3, 4, 5] [1, 2] rfl rfl (by decide) (by decide) hk1 hFc hP1 hD1
              clear hk1 hz1 ht hPc hDc hKc
              generalize H1 = H at hP hS ⊢
              have hP : va_P (dC, dI) vwCl [(q4, .inl (c4, 16, .inl (fun _ => (0 : Int32)))), (q5, .inl (c5, 16, .inl (fun _ => (0 : Int32)))), (h0, .inr (8, [.int 0, .ref q1, v2, .ref q3, .ref q4, .ref q5, .ref q6, .ref q7, .ref q8, v9, v10, v11, v12, v13, v14, v15, v16]))] H := hP
              have hD : va_D A [(q4, .inl (c4, 16, .inl (fun _ => (0 : Int32)))), (q5, .inl (c5, 16, .inl (fun _ => (0 : Int32)))), (h0, .inr (8, [.int 0, .ref q1, v2, .ref q3, .ref q4, .ref q5, .ref q6, .ref q7, .ref q8, v9, v10, v11, v12, v13, v14, v15, v16]))] := hD
              refine W.widen (k := 0) (n := 0) (Nat.le_of_ble_eq_true rfl) (Nat.le_of_ble_eq_true rfl) ?_
              refine W.eq (g2 := F0 m 140 ls [.int r_66]) rfl ?_
              refine lv_pop hx hb dX8_make_140 rfl ?_
              refine lv_aload_n hx hb dX8_make_141 rfl (lv_at hl 2 rfl) ?_
              refine va_get (D := (dC, dI)) (ci := 8) (v := .ref q4) (C := RX8) (T := TX8) (N := 17) hx hb hts (by decide +kernel) hown hK hP 2 rfl rfl 4 (by decide) (hts (.fieldLink RX8 20 "KeyAtlasModel" "first" "[I") (by decide +kernel)) (fun _ h9 => h9) rfl dX8_make_142 ?_
              refine lv_iload hx hb dX8_make_145 (lv_at hl 0 rfl) ?_
              refine lv_iload_n hx hb dX8_make_147 rfl (lv_at hl 4 rfl) ?_
              refine va_iast (i := 0) hx hb hK hP hD hS 0 2 rfl rfl (by unfold vp_in; decide) dX8_make_148 (fun H locs hP hD hS => ?_)
              have hP : va_P (dC, dI) vwCl [(q4, .inl (c4, 16, .inl (upd (fun _ => (0 : Int32)) (0 : Int32).toNatClampNeg p1))), (q5, .inl (c5, 16, .inl (fun _ => (0 : Int32)))), (h0, .inr (8, [.int 0, .ref q1, v2, .ref q3, .ref q4, .ref q5, .ref q6, .ref q7, .ref q8, v9, v10, v11, v12, v13, v14, v15, v16]))] H := hP
              have hD : va_D A [(q4, .inl (c4, 16, .inl (upd (fun _ => (0 : Int32)) (0 : Int32).toNatClampNeg p1))), (q5, .inl (c5, 16, .inl (fun _ => (0 : Int32)))), (h0, .inr (8, [.int 0, .ref q1, v2, .ref q3, .ref q4, .ref q5, .ref q6, .ref q7, .ref q8, v9, v10, v11, v12, v13, v14, v15, v16]))] := hD
              refine lv_aload_n hx hb dX8_make_149 rfl (lv_at hl 2 rfl) ?_
              refine va_get (D := (dC, dI)) (ci := 8) (v := .ref q5) (C := RX8) (T := TX8) (N := 17) hx hb hts (by decide +kernel) hown hK hP 2 rfl rfl 5 (by decide) (hts (.fieldLink RX8 23 "KeyAtlasModel" "second" "[I") (by decide +kernel)) (fun _ h9 => h9) rfl dX8_make_150 ?_
              refine lv_iload hx hb dX8_make_153 (lv_at hl 0 rfl) ?_
              refine lv_iload_n hx hb dX8_make_155 rfl (lv_at hl 5 rfl) ?_
              refine va_iast (i := 0) hx hb hK hP hD hS 1 3 rfl rfl (by unfold vp_in; decide) dX8_make_156 (fun H locs hP hD hS => ?_)
              have hP : va_P (dC, dI) vwCl [(q4, .inl (c4, 16, .inl (upd (fun _ => (0 : Int32)) (0 : Int32).toNatClampNeg p1))), (q5, .inl (c5, 16, .inl (upd (fun _ => (0 : Int32)) (0 : Int32).toNatClampNeg p2))), (h0, .inr (8, [.int 0, .ref q1, v2, .ref q3, .ref q4, .ref q5, .ref q6, .ref q7, .ref q8, v9, v10, v11, v12, v13, v14, v15, v16]))] H := hP
              have hD : va_D A [(q4, .inl (c4, 16, .inl (upd (fun _ => (0 : Int32)) (0 : Int32).toNatClampNeg p1))), (q5, .inl (c5, 16, .inl (upd (fun _ => (0 : Int32)) (0 : Int32).toNatClampNeg p2))), (h0, .inr (8, [.int 0, .ref q1, v2, .ref q3, .ref q4, .ref q5, .ref q6, .ref q7, .ref q8, v9, v10, v11, v12, v13, v14, v15, v16]))] := hD
              refine lv_iload hx hb dX8_make_157 (lv_at hl 0 rfl) ?_
              have hP9 := hP.sub (ws' := [(h0, .inr (8, [.int 0, .ref q1, v2, .ref q3, .ref q4, .ref q5, .ref q6, .ref q7, .ref q8, v9, v10, v11, v12, v13, v14, v15, v16]))]) [2] rfl
              have hD9 := hD.sub (ws' := [(h0, .inr (8, [.int 0, .ref q1, v2, .ref q3, .ref q4, .ref q5, .ref q6, .ref q7, .ref q8, v9, v10, v11, v12, v13, v14, v15, v16]))]) [2] (by decide) rfl
              have hK9 := hK.sub (tys' := []) [] rfl
              refine W.widen (k := 0) (n := 0) (Nat.le_of_ble_eq_true rfl) (Nat.le_of_ble_eq_true rfl) ?_
              exact W.iret (v := 0) hx hb hr (fun t ht hW => ⟨⟨0, 0, rfl, ⟨tx_at (P := mkIs p0 p1 p2) (n := 0) (by decide) (by unfold mkIs; omega), fun _ => rfl⟩, by rw [ht]; exact hP9, va_K.moved hW.alike hK9, hD9⟩, hS.F ht⟩) hS.2.2 dX8_make_159
      ·
        have ic_35 : p1.toInt < 0 := tx_nle (by decide) rfl c_35
        refine lv_aload_n hx hb dX8_make_23 rfl (lv_at hl 0 rfl) ?_
        refine lv_iconst (v := 3) hx hb dX8_make_24 (by decide) ?_
        have hPc := hP.sub (ws' := [(h0, .inr (8, [.int th, .ref q1, v2, .ref q3, .ref q4, .ref q5, .ref q6, .ref q7, .ref q8, v9, v10, v11, v12, v13, v14, v15, v16]))]) [0] rfl
        have hDc := hD.sub (ws' := [(h0, .inr (8, [.int th, .ref q1, v2, .ref q3, .ref q4, .ref q5, .ref q6, .ref q7, .ref q8, v9, v10, v11, v12, v13, v14, v15, v16]))]) [0] (by decide) rfl
        have hKc := hK.sub (tys' := []) [] rfl
        have hFc := va_free (wc := [(h0, .inr (8, [.int th, .ref q1, v2, .ref q3, .ref q4, .ref q5, .ref q6, .ref q7, .ref q8, v9, v10, v11, v12, v13, v14, v15, v16]))]) hD hS hA [0] rfl
        refine va_calli (va_runV (As := [.int 3]) (rest := []) ⟨hx, hb, hml, hown, hts⟩ (c_X8_refuse l  dC dI H.size h0 th 3 (.ref q1) v2 (.ref q3) (.ref q4) (.ref q5) (.ref q6) (.ref q7) (.ref q8) v9 v10 v11 v12 v13 v14 v15 v16) (cwV 1 hts gX8_make_X8_refuse rfl rfl rfl (by decide +kernel) ⟨(Nat.le_of_ble_eq_true rfl), (Nat.le_of_ble_eq_true rfl)⟩) ⟨pk_blind, va_recv hKc hPc (ci := 8) (q0 := 0) rfl rfl, pk_call hPc hKc hDc⟩ rfl rfl hl.1 rfl (lv_room (Nat.le_of_ble_eq_true rfl)) dX8_make_25 ⟨(Nat.le_of_ble_eq_true rfl), (Nat.le_of_ble_eq_true rfl)⟩) hS (fun q _ h => hFc q h) hFc (fun r_67 ur_67 t H1 locs ht hvm hw hB hz1 hk1 hS => ?_)
        try dsimp only at hw
        have jr_67 := hw
        obtain ⟨hP1, hK1, hD1⟩ := hB
        rw [ht] at hP1
        have hK1 := va_K.moved hvm.symm hK1
        obtain ⟨hP, hD⟩ := va_join (wr := [(q1, .inl (c1, 16, .inl (fun _ => (0 : Int32)))), (q3, .inl (c3, 16, .inl (fun _ => (0 : Int32)))), (q4, .inl (c4, 16, .inl (fun _ => (0 : Int32)))), (q5, .inl (c5, 16, .inl (fun _ => (0 : Int32)))), (q6, .inl (c6, 16, .inl (fun _ => (0 : Int32)))), (q7, .inl (c7, 16, .inl (fun _ => (0 : Int32)))), (q8, .inl (c8, 16, .inl (fun _ => (0 : Int32))))]) (w1 := [(h0, .inr (8, [.int 3, .ref q1, v2, .ref q3, .ref q4, .ref q5, .ref q6, .ref q7, .ref q8, v9, v10, v11, v12, v13, v14, v15, v16]))]) hP hD [0] [1, 2, 3, 4, 5, 6, 7] rfl rfl (by decide) (by decide) hk1 hFc hP1 hD1
        clear hk1 hz1 ht hPc hDc hKc
        generalize H1 = H at hP hS ⊢
        have hP : va_P (dC, dI) vwCl [(q1, .inl (c1, 16, .inl (fun _ => (0 : Int32)))), (q3, .inl (c3, 16, .inl (fun _ => (0 : Int32)))), (q4, .inl (c4, 16, .inl (fun _ => (0 : Int32)))), (q5, .inl (c5, 16, .inl (fun _ => (0 : Int32)))), (q6, .inl (c6, 16, .inl (fun _ => (0 : Int32)))), (q7, .inl (c7, 16, .inl (fun _ => (0 : Int32)))), (q8, .inl (c8, 16, .inl (fun _ => (0 : Int32)))), (h0, .inr (8, [.int 3, .ref q1, v2, .ref q3, .ref q4, .ref q5, .ref q6, .ref q7, .ref q8, v9, v10, v11, v12, v13, v14, v15, v16]))] H := hP
        have hD : va_D A [(q1, .inl (c1, 16, .inl (fun _ => (0 : Int32)))), (q3, .inl (c3, 16, .inl (fun _ => (0 : Int32)))), (q4, .inl (c4, 16, .inl (fun _ => (0 : Int32)))), (q5, .inl (c5, 16, .inl (fun _ => (0 : Int32)))), (q6, .inl (c6, 16, .inl (fun _ => (0 : Int32)))), (q7, .inl (c7, 16, .inl (fun _ => (0 : Int32)))), (q8, .inl (c8, 16, .inl (fun _ => (0 : Int32)))), (h0, .inr (8, [.int 3, .ref q1, v2, .ref q3, .ref q4, .ref q5, .ref q6, .ref q7, .ref q8, v9, v10, v11, v12, v13, v14, v15, v16]))] := hD
        refine W.widen (k := 0) (n := 0) (Nat.le_of_ble_eq_true rfl) (Nat.le_of_ble_eq_true rfl) ?_
        refine W.eq (g2 := F0 m 28 ls [.int r_67]) rfl ?_
        have hP9 := hP.sub (ws' := [(h0, .inr (8, [.int 3, .ref q1, v2, .ref q3, .ref q4, .ref q5, .ref q6, .ref q7, .ref q8, v9, v10, v11, v12, v13, v14, v15, v16]))]) [7] rfl
        have hD9 := hD.sub (ws' := [(h0, .inr (8, [.int 3, .ref q1, v2, .ref q3, .ref q4, .ref q5, .ref q6, .ref q7, .ref q8, v9, v10, v11, v12, v13, v14, v15, v16]))]) [7] (by decide) rfl
        have hK9 := hK.sub (tys' := []) [] rfl
        refine W.widen (k := 0) (n := 0) (Nat.le_of_ble_eq_true rfl) (Nat.le_of_ble_eq_true rfl) ?_
        exact W.iret (v := r_67) hx hb hr (fun t ht hW => ⟨⟨r_67, 3, rfl, ⟨tx_at (P := mkIs p0 p1 p2) (n := 3) (by decide) (by unfold mkIs; omega), fun h => absurd h (by decide)⟩, by rw [ht]; exact hP9, va_K.moved hW.alike hK9, hD9⟩, hS.F ht⟩) hS.2.2 dX8_make_28
  ·
    have ic_2 : r_1.toInt = 0 := tx_eq rfl (by decide) c_2
    refine lv_aload_n hx hb dX8_make_9 rfl (lv_at hl 0 rfl) ?_
    refine lv_iconst (v := 1) hx hb dX8_make_10 (by decide) ?_
    have hPc := hP.sub (ws' := [(h0, .inr (8, [.int th, .ref q1, v2, .ref q3, .ref q4, .ref q5, .ref q6, .ref q7, .ref q8, v9, v10, v11, v12, v13, v14, v15, v16]))]) [0] rfl
    have hDc := hD.sub (ws' := [(h0, .inr (8, [.int th, .ref q1, v2, .ref q3, .ref q4, .ref q5, .ref q6, .ref q7, .ref q8, v9, v10, v11, v12, v13, v14, v15, v16]))]) [0] (by decide) rfl
    have hKc := hK.sub (tys' := []) [] rfl
    have hFc := va_free (wc := [(h0, .inr (8, [.int th, .ref q1, v2, .ref q3, .ref q4, .ref q5, .ref q6, .ref q7, .ref q8, v9, v10, v11, v12, v13, v14, v15, v16]))]) hD hS hA [0] rfl
    refine va_calli (va_runV (As := [.int 1]) (rest := []) ⟨hx, hb, hml, hown, hts⟩ (c_X8_refuse l  dC dI H.size h0 th 1 (.ref q1) v2 (.ref q3) (.ref q4) (.ref q5) (.ref q6) (.ref q7) (.ref q8) v9 v10 v11 v12 v13 v14 v15 v16) (cwV 1 hts gX8_make_X8_refuse rfl rfl rfl (by decide +kernel) ⟨(Nat.le_of_ble_eq_true rfl), (Nat.le_of_ble_eq_true rfl)⟩) ⟨pk_blind, va_recv hKc hPc (ci := 8) (q0 := 0) rfl rfl, pk_call hPc hKc hDc⟩ rfl rfl hl.1 rfl (lv_room (Nat.le_of_ble_eq_true rfl)) dX8_make_11 ⟨(Nat.le_of_ble_eq_true rfl), (Nat.le_of_ble_eq_true rfl)⟩) hS (fun q _ h => hFc q h) hFc (fun r_68 ur_68 t H1 locs ht hvm hw hB hz1 hk1 hS => ?_)
    try dsimp only at hw
    have jr_68 := hw
    obtain ⟨hP1, hK1, hD1⟩ := hB
    rw [ht] at hP1
    have hK1 := va_K.moved hvm.symm hK1
    obtain ⟨hP, hD⟩ := va_join (wr := [(q1, .inl (c1, 16, .inl (fun _ => (0 : Int32)))), (q3, .inl (c3, 16, .inl (fun _ => (0 : Int32)))), (q4, .inl (c4, 16, .inl (fun _ => (0 : Int32)))), (q5, .inl (c5, 16, .inl (fun _ => (0 : Int32)))), (q6, .inl (c6, 16, .inl (fun _ => (0 : Int32)))), (q7, .inl (c7, 16, .inl (fun _ => (0 : Int32)))), (q8, .inl (c8, 16, .inl (fun _ => (0 : Int32))))]) (w1 := [(h0, .inr (8, [.int 1, .ref q1, v2, .ref q3, .ref q4, .ref q5, .ref q6, .ref q7, .ref q8, v9, v10, v11, v12, v13, v14, v15, v16]))]) hP hD [0] [1, 2, 3, 4, 5, 6, 7] rfl rfl (by decide) (by decide) hk1 hFc hP1 hD1
    clear hk1 hz1 ht hPc hDc hKc
    generalize H1 = H at hP hS ⊢
    have hP : va_P (dC, dI) vwCl [(q1, .inl (c1, 16, .inl (fun _ => (0 : Int32)))), (q3, .inl (c3, 16, .inl (fun _ => (0 : Int32)))), (q4, .inl (c4, 16, .inl (fun _ => (0 : Int32)))), (q5, .inl (c5, 16, .inl (fun _ => (0 : Int32)))), (q6, .inl (c6, 16, .inl (fun _ => (0 : Int32)))), (q7, .inl (c7, 16, .inl (fun _ => (0 : Int32)))), (q8, .inl (c8, 16, .inl (fun _ => (0 : Int32)))), (h0, .inr (8, [.int 1, .ref q1, v2, .ref q3, .ref q4, .ref q5, .ref q6, .ref q7, .ref q8, v9, v10, v11, v12, v13, v14, v15, v16]))] H := hP
    have hD : va_D A [(q1, .inl (c1, 16, .inl (fun _ => (0 : Int32)))), (q3, .inl (c3, 16, .inl (fun _ => (0 : Int32)))), (q4, .inl (c4, 16, .inl (fun _ => (0 : Int32)))), (q5, .inl (c5, 16, .inl (fun _ => (0 : Int32)))), (q6, .inl (c6, 16, .inl (fun _ => (0 : Int32)))), (q7, .inl (c7, 16, .inl (fun _ => (0 : Int32)))), (q8, .inl (c8, 16, .inl (fun _ => (0 : Int32)))), (h0, .inr (8, [.int 1, .ref q1, v2, .ref q3, .ref q4, .ref q5, .ref q6, .ref q7, .ref q8, v9, v10, v11, v12, v13, v14, v15, v16]))] := hD
    refine W.widen (k := 0) (n := 0) (Nat.le_of_ble_eq_true rfl) (Nat.le_of_ble_eq_true rfl) ?_
    refine W.eq (g2 := F0 m 14 ls [.int r_68]) rfl ?_
    have hP9 := hP.sub (ws' := [(h0, .inr (8, [.int 1, .ref q1, v2, .ref q3, .ref q4, .ref q5, .ref q6, .ref q7, .ref q8, v9, v10, v11, v12, v13, v14, v15, v16]))]) [7] rfl
    have hD9 := hD.sub (ws' := [(h0, .inr (8, [.int 1, .ref q1, v2, .ref q3, .ref q4, .ref q5, .ref q6, .ref q7, .ref q8, v9, v10, v11, v12, v13, v14, v15, v16]))]) [7] (by decide) rfl
    have hK9 := hK.sub (tys' := []) [] rfl
    refine W.widen (k := 0) (n := 0) (Nat.le_of_ble_eq_true rfl) (Nat.le_of_ble_eq_true rfl) ?_
    exact W.iret (v := r_68) hx hb hr (fun t ht hW => ⟨⟨r_68, 1, rfl, ⟨tx_at (P := mkIs p0 p1 p2) (n := 1) (by decide) (by unfold mkIs; omega), fun h => absurd h (by decide)⟩, by rw [ht]; exact hP9, va_K.moved hW.alike hK9, hD9⟩, hS.F ht⟩) hS.2.2 dX8_make_14
set_option maxHeartbeats 4000000 in
set_option maxRecDepth 100000 in
/-- drop of the reference, fresh: refused -/
theorem c_X8_drop (l : Launch) (dC : Nat → ClassId) (dI : Nat → Nat → Nat) (sz : Nat) (h0 : Nat) (th : Int32) (q1 : Nat) (q3 : Nat) (q4 : Nat) (q5 : Nat) (q6 : Nat) (q7 : Nat) (q8 : Nat) (c1 : ClassId) (c3 : ClassId) (c4 : ClassId) (c5 : ClassId) (c6 : ClassId) (c7 : ClassId) (c8 : ClassId) (v2 : Value) (v9 : Value) (v10 : Value) (v11 : Value) (v12 : Value) (v13 : Value) (v14 : Value) (v15 : Value) (v16 : Value) (p0 : Int32) : Met l yX8_drop wsP_X8_drop ({ frames := 2, cells := 0, slots := 0, locals := 60 }) (va_Pc [.ref h0, .int p0] (pk_Pre (dC, dI) [(h0, .inr (8, [.int th, .ref q1, v2, .ref q3, .ref q4, .ref q5, .ref q6, .ref q7, .ref q8, v9, v10, v11, v12, v13, v14, v15, v16])), (q1, .inl (c1, 16, .inl (fun _ => (0 : Int32)))), (q3, .inl (c3, 16, .inl (fun _ => (0 : Int32)))), (q4, .inl (c4, 16, .inl (fun _ => (0 : Int32)))), (q5, .inl (c5, 16, .inl (fun _ => (0 : Int32)))), (q6, .inl (c6, 16, .inl (fun _ => (0 : Int32)))), (q7, .inl (c7, 16, .inl (fun _ => (0 : Int32)))), (q8, .inl (c8, 16, .inl (fun _ => (0 : Int32))))] [(c1, .int), (c3, .int), (c4, .int), (c5, .int), (c6, .int), (c7, .int), (c8, .int)] sz)) (va_Qi (fun (r : Int32) (_ : Unit) => True) (fun (_ : Unit) (t : State) => va_P (dC, dI) vwCl [(h0, .inr (8, [.int 1, .ref q1, v2, .ref q3, .ref q4, .ref q5, .ref q6, .ref q7, .ref q8, v9, v10, v11, v12, v13, v14, v15, v16]))] t.heap ∧ va_K (dC, dI) vwCl [] t ∧ va_D (va_A [(h0, .inr (8, [.int th, .ref q1, v2, .ref q3, .ref q4, .ref q5, .ref q6, .ref q7, .ref q8, v9, v10, v11, v12, v13, v14, v15, v16])), (q1, .inl (c1, 16, .inl (fun _ => (0 : Int32)))), (q3, .inl (c3, 16, .inl (fun _ => (0 : Int32)))), (q4, .inl (c4, 16, .inl (fun _ => (0 : Int32)))), (q5, .inl (c5, 16, .inl (fun _ => (0 : Int32)))), (q6, .inl (c6, 16, .inl (fun _ => (0 : Int32)))), (q7, .inl (c7, 16, .inl (fun _ => (0 : Int32)))), (q8, .inl (c8, 16, .inl (fun _ => (0 : Int32))))] sz) [(h0, .inr (8, [.int 1, .ref q1, v2, .ref q3, .ref q4, .ref q5, .ref q6, .ref q7, .ref q8, v9, v10, v11, v12, v13, v14, v15, v16]))]) (va_A [(h0, .inr (8, [.int th, .ref q1, v2, .ref q3, .ref q4, .ref q5, .ref q6, .ref q7, .ref q8, v9, v10, v11, v12, v13, v14, v15, v16])), (q1, .inl (c1, 16, .inl (fun _ => (0 : Int32)))), (q3, .inl (c3, 16, .inl (fun _ => (0 : Int32)))), (q4, .inl (c4, 16, .inl (fun _ => (0 : Int32)))), (q5, .inl (c5, 16, .inl (fun _ => (0 : Int32)))), (q6, .inl (c6, 16, .inl (fun _ => (0 : Int32)))), (q7, .inl (c7, 16, .inl (fun _ => (0 : Int32)))), (q8, .inl (c8, 16, .inl (fun _ => (0 : Int32))))] sz)) 0 0 (va_A [(h0, .inr (8, [.int th, .ref q1, v2, .ref q3, .ref q4, .ref q5, .ref q6, .ref q7, .ref q8, v9, v10, v11, v12, v13, v14, v15, v16])), (q1, .inl (c1, 16, .inl (fun _ => (0 : Int32)))), (q3, .inl (c3, 16, .inl (fun _ => (0 : Int32)))), (q4, .inl (c4, 16, .inl (fun _ => (0 : Int32)))), (q5, .inl (c5, 16, .inl (fun _ => (0 : Int32)))), (q6, .inl (c6, 16, .inl (fun _ => (0 : Int32)))), (q7, .inl (c7, 16, .inl (fun _ => (0 : Int32)))), (q8, .inl (c8, 16, .inl (fun _ => (0 : Int32))))] sz) := by
  refine Met.ofW (cc := cX8_drop) (maxL := 4) (ret := (some .int)) (by decide) rfl ?_
  intro p e s m args below meth c s₁ B hml hv
  obtain ⟨rfl, hsz, hP, hK, hD0⟩ := hv
  have hx := B.exec
  have hb := B.bytes
  have hr := B.returns
  have hts := atoms_spec (ws := wsP_X8_drop) B.pre
  have hown : s.vm.findClass RX8 = some m.cls := findClass_of_methodNamed B.named
  have hlocks := B.notSynchronized
  subst hsz
  have hD := hD0.self (sz := s.heap.size)
  generalize hAe : va_A [(h0, .inr (8, [.int th, .ref q1, v2, .ref q3, .ref q4, .ref q5, .ref q6, .ref q7, .ref q8, v9, v10, v11, v12, v13, v14, v15, v16])), (q1, .inl (c1, 16, .inl (fun _ => (0 : Int32)))), (q3, .inl (c3, 16, .inl (fun _ => (0 : Int32)))), (q4, .inl (c4, 16, .inl (fun _ => (0 : Int32)))), (q5, .inl (c5, 16, .inl (fun _ => (0 : Int32)))), (q6, .inl (c6, 16, .inl (fun _ => (0 : Int32)))), (q7, .inl (c7, 16, .inl (fun _ => (0 : Int32)))), (q8, .inl (c8, 16, .inl (fun _ => (0 : Int32))))] s.heap.size = A at hD ⊢
  have hA : ∀ q : Nat, s.heap.size ≤ q → A q := fun q h => by rw [← hAe]; exact Or.inr h
  have hS : va_S A s.heap s.heap [] := va_S.rf
  have hP : va_P (dC, dI) vwCl [(h0, .inr (8, [.int th, .ref q1, v2, .ref q3, .ref q4, .ref q5, .ref q6, .ref q7, .ref q8, v9, v10, v11, v12, v13, v14, v15, v16])), (q1, .inl (c1, 16, .inl (fun _ => (0 : Int32)))), (q3, .inl (c3, 16, .inl (fun _ => (0 : Int32)))), (q4, .inl (c4, 16, .inl (fun _ => (0 : Int32)))), (q5, .inl (c5, 16, .inl (fun _ => (0 : Int32)))), (q6, .inl (c6, 16, .inl (fun _ => (0 : Int32)))), (q7, .inl (c7, 16, .inl (fun _ => (0 : Int32)))), (q8, .inl (c8, 16, .inl (fun _ => (0 : Int32))))] s.heap := hP
  have hl := lv_entry ([.ref h0, .int p0]) (n := 4) (Nat.le_of_ble_eq_true rfl)
  rw [lg_entry_eq]
  generalize (lg_sl ([.ref h0, .int p0]) ++ List.replicate (4 - (lg_sl ([.ref h0, .int p0])).length) Slot.unset).toArray = ls at hl ⊢
  have hl : lv_has ls 4 [(0, .ref h0), (1, .int p0)] := hl
  refine lv_aload_n hx hb dX8_drop_0 rfl (lv_at hl 0 rfl) ?_
  refine lv_iload_n hx hb dX8_drop_1 rfl (lv_at hl 1 rfl) ?_
  have hPc := hP.sub (ws' := [(h0, .inr (8, [.int th, .ref q1, v2, .ref q3, .ref q4, .ref q5, .ref q6, .ref q7, .ref q8, v9, v10, v11, v12, v13, v14, v15, v16])), (q1, .inl (c1, 16, .inl (fun _ => (0 : Int32))))]) [0, 1] rfl
  have hDc := hD.sub (ws' := [(h0, .inr (8, [.int th, .ref q1, v2, .ref q3, .ref q4, .ref q5, .ref q6, .ref q7, .ref q8, v9, v10, v11, v12, v13, v14, v15, v16])), (q1, .inl (c1, 16, .inl (fun _ => (0 : Int32))))]) [0, 1] (by decide) rfl
  have hKc := hK.sub (tys' := [(c1, .int)]) [0] rfl
  have hFc := va_free (wc := [(h0, .inr (8, [.int th, .ref q1, v2, .ref q3, .ref q4, .ref q5, .ref q6, .ref q7, .ref q8, v9, v10, v11, v12, v13, v14, v15, v16])), (q1, .inl (c1, 16, .inl (fun _ => (0 : Int32))))]) hD hS hA [0, 1] rfl
  refine va_calli (va_runV (As := [.int p0]) (rest := []) ⟨hx, hb, hml, hown, hts⟩ (c_X8_isThere l  dC dI s.heap.size h0 q1 c1 th v2 (.ref q3) (.ref q4) (.ref q5) (.ref q6) (.ref q7) (.ref q8) v9 v10 v11 v12 v13 v14 v15 v16 p0) (cwV 1 hts gP_X8_drop_isThere rfl rfl rfl (by decide +kernel) ⟨(Nat.le_of_ble_eq_true rfl), (Nat.le_of_ble_eq_true rfl)⟩) ⟨pk_blind, va_recv hKc hPc (ci := 8) (q0 := 0) rfl rfl, pk_call hPc hKc hDc⟩ rfl rfl hl.1 rfl (lv_room (Nat.le_of_ble_eq_true rfl)) dX8_drop_2 ⟨(Nat.le_of_ble_eq_true rfl), (Nat.le_of_ble_eq_true rfl)⟩) hS (fun q _ h => hFc q h) hFc (fun r_1 ur_1 t H1 locs ht hvm hw hB hz1 hk1 hS => ?_)
  try dsimp only at hw
  obtain ⟨hP1, hK1, hD1⟩ := hB
  rw [ht] at hP1
  have hK1 := va_K.moved hvm.symm hK1
  obtain ⟨hP, hD⟩ := va_join (wr := [(q3, .inl (c3, 16, .inl (fun _ => (0 : Int32)))), (q4, .inl (c4, 16, .inl (fun _ => (0 : Int32)))), (q5, .inl (c5, 16, .inl (fun _ => (0 : Int32)))), (q6, .inl (c6, 16, .inl (fun _ => (0 : Int32)))), (q7, .inl (c7, 16, .inl (fun _ => (0 : Int32)))), (q8, .inl (c8, 16, .inl (fun _ => (0 : Int32))))]) (w1 := [(h0, .inr (8, [.int th, .ref q1, v2, .ref q3, .ref q4, .ref q5, .ref q6, .ref q7, .ref q8, v9, v10, v11, v12, v13, v14, v15, v16])), (q1, .inl (c1, 16, .inl (fun _ => (0 : Int32))))]) hP hD [0, 1] [2, 3, 4, 5, 6, 7] rfl rfl (by decide) (by decide) hk1 hFc hP1 hD1
  clear hk1 hz1 ht hPc hDc hKc
  generalize H1 = H at hP hS ⊢
  have hP : va_P (dC, dI) vwCl [(q3, .inl (c3, 16, .inl (fun _ => (0 : Int32)))), (q4, .inl (c4, 16, .inl (fun _ => (0 : Int32)))), (q5, .inl (c5, 16, .inl (fun _ => (0 : Int32)))), (q6, .inl (c6, 16, .inl (fun _ => (0 : Int32)))), (q7, .inl (c7, 16, .inl (fun _ => (0 : Int32)))), (q8, .inl (c8, 16, .inl (fun _ => (0 : Int32)))), (h0, .inr (8, [.int th, .ref q1, v2, .ref q3, .ref q4, .ref q5, .ref q6, .ref q7, .ref q8, v9, v10, v11, v12, v13, v14, v15, v16])), (q1, .inl (c1, 16, .inl (fun _ => (0 : Int32))))] H := hP
  have hD : va_D A [(q3, .inl (c3, 16, .inl (fun _ => (0 : Int32)))), (q4, .inl (c4, 16, .inl (fun _ => (0 : Int32)))), (q5, .inl (c5, 16, .inl (fun _ => (0 : Int32)))), (q6, .inl (c6, 16, .inl (fun _ => (0 : Int32)))), (q7, .inl (c7, 16, .inl (fun _ => (0 : Int32)))), (q8, .inl (c8, 16, .inl (fun _ => (0 : Int32)))), (h0, .inr (8, [.int th, .ref q1, v2, .ref q3, .ref q4, .ref q5, .ref q6, .ref q7, .ref q8, v9, v10, v11, v12, v13, v14, v15, v16])), (q1, .inl (c1, 16, .inl (fun _ => (0 : Int32))))] := hD
  refine W.widen (k := 0) (n := 0) (Nat.le_of_ble_eq_true rfl) (Nat.le_of_ble_eq_true rfl) ?_
  obtain rfl : r_1 = 0 := hw
  refine W.eq (g2 := F0 m 5 ls [.int 0]) rfl ?_
  refine lv_if_ne (tgt := 14) hx hb dX8_drop_5 (by decide) (fun c_2 => absurd c_2 (by decide)) (fun c_2 => ?_)
  refine lv_aload_n hx hb dX8_drop_8 rfl (lv_at hl 0 rfl) ?_
  refine lv_iconst (v := 1) hx hb dX8_drop_9 (by decide) ?_
  have hPc := hP.sub (ws' := [(h0, .inr (8, [.int th, .ref q1, v2, .ref q3, .ref q4, .ref q5, .ref q6, .ref q7, .ref q8, v9, v10, v11, v12, v13, v14, v15, v16]))]) [6] rfl
  have hDc := hD.sub (ws' := [(h0, .inr (8, [.int th, .ref q1, v2, .ref q3, .ref q4, .ref q5, .ref q6, .ref q7, .ref q8, v9, v10, v11, v12, v13, v14, v15, v16]))]) [6] (by decide) rfl
  have hKc := hK.sub (tys' := []) [] rfl
  have hFc := va_free (wc := [(h0, .inr (8, [.int th, .ref q1, v2, .ref q3, .ref q4, .ref q5, .ref q6, .ref q7, .ref q8, v9, v10, v11, v12, v13, v14, v15, v16]))]) hD hS hA [6] rfl
  refine va_calli (va_runV (As := [.int 1]) (rest := []) ⟨hx, hb, hml, hown, hts⟩ (c_X8_refuse l  dC dI H.size h0 th 1 (.ref q1) v2 (.ref q3) (.ref q4) (.ref q5) (.ref q6) (.ref q7) (.ref q8) v9 v10 v11 v12 v13 v14 v15 v16) (cwV 1 hts gP_X8_drop_refuse rfl rfl rfl (by decide +kernel) ⟨(Nat.le_of_ble_eq_true rfl), (Nat.le_of_ble_eq_true rfl)⟩) ⟨pk_blind, va_recv hKc hPc (ci := 8) (q0 := 0) rfl rfl, pk_call hPc hKc hDc⟩ rfl rfl hl.1 rfl (lv_room (Nat.le_of_ble_eq_true rfl)) dX8_drop_10 ⟨(Nat.le_of_ble_eq_true rfl), (Nat.le_of_ble_eq_true rfl)⟩) hS (fun q _ h => hFc q h) hFc (fun r_3 ur_3 t H1 locs ht hvm hw hB hz1 hk1 hS => ?_)
  try dsimp only at hw
  have jr_3 := hw
  obtain ⟨hP1, hK1, hD1⟩ := hB
  rw [ht] at hP1
  have hK1 := va_K.moved hvm.symm hK1
  obtain ⟨hP, hD⟩ := va_join (wr := [(q3, .inl (c3, 16, .inl (fun _ => (0 : Int32)))), (q4, .inl (c4, 16, .inl (fun _ => (0 : Int32)))), (q5, .inl (c5, 16, .inl (fun _ => (0 : Int32)))), (q6, .inl (c6, 16, .inl (fun _ => (0 : Int32)))), (q7, .inl (c7, 16, .inl (fun _ => (0 : Int32)))), (q8, .inl (c8, 16, .inl (fun _ => (0 : Int32)))), (q1, .inl (c1, 16, .inl (fun _ => (0 : Int32))))]) (w1 := [(h0, .inr (8, [.int 1, .ref q1, v2, .ref q3, .ref q4, .ref q5, .ref q6, .ref q7, .ref q8, v9, v10, v11, v12, v13, v14, v15, v16]))]) hP hD [6] [0, 1, 2, 3, 4, 5, 7] rfl rfl (by decide) (by decide) hk1 hFc hP1 hD1
  clear hk1 hz1 ht hPc hDc hKc
  generalize H1 = H at hP hS ⊢
  have hP : va_P (dC, dI) vwCl [(q3, .inl (c3, 16, .inl (fun _ => (0 : Int32)))), (q4, .inl (c4, 16, .inl (fun _ => (0 : Int32)))), (q5, .inl (c5, 16, .inl (fun _ => (0 : Int32)))), (q6, .inl (c6, 16, .inl (fun _ => (0 : Int32)))), (q7, .inl (c7, 16, .inl (fun _ => (0 : Int32)))), (q8, .inl (c8, 16, .inl (fun _ => (0 : Int32)))), (q1, .inl (c1, 16, .inl (fun _ => (0 : Int32)))), (h0, .inr (8, [.int 1, .ref q1, v2, .ref q3, .ref q4, .ref q5, .ref q6, .ref q7, .ref q8, v9, v10, v11, v12, v13, v14, v15, v16]))] H := hP
  have hD : va_D A [(q3, .inl (c3, 16, .inl (fun _ => (0 : Int32)))), (q4, .inl (c4, 16, .inl (fun _ => (0 : Int32)))), (q5, .inl (c5, 16, .inl (fun _ => (0 : Int32)))), (q6, .inl (c6, 16, .inl (fun _ => (0 : Int32)))), (q7, .inl (c7, 16, .inl (fun _ => (0 : Int32)))), (q8, .inl (c8, 16, .inl (fun _ => (0 : Int32)))), (q1, .inl (c1, 16, .inl (fun _ => (0 : Int32)))), (h0, .inr (8, [.int 1, .ref q1, v2, .ref q3, .ref q4, .ref q5, .ref q6, .ref q7, .ref q8, v9, v10, v11, v12, v13, v14, v15, v16]))] := hD
  refine W.widen (k := 0) (n := 0) (Nat.le_of_ble_eq_true rfl) (Nat.le_of_ble_eq_true rfl) ?_
  refine W.eq (g2 := F0 m 13 ls [.int r_3]) rfl ?_
  have hP9 := hP.sub (ws' := [(h0, .inr (8, [.int 1, .ref q1, v2, .ref q3, .ref q4, .ref q5, .ref q6, .ref q7, .ref q8, v9, v10, v11, v12, v13, v14, v15, v16]))]) [7] rfl
  have hD9 := hD.sub (ws' := [(h0, .inr (8, [.int 1, .ref q1, v2, .ref q3, .ref q4, .ref q5, .ref q6, .ref q7, .ref q8, v9, v10, v11, v12, v13, v14, v15, v16]))]) [7] (by decide) rfl
  have hK9 := hK.sub (tys' := []) [] rfl
  refine W.widen (k := 0) (n := 0) (Nat.le_of_ble_eq_true rfl) (Nat.le_of_ble_eq_true rfl) ?_
  exact W.iret (v := r_3) hx hb hr (fun t ht hW => ⟨⟨r_3, (), rfl, trivial, by rw [ht]; exact hP9, va_K.moved hW.alike hK9, hD9⟩, hS.F ht⟩) hS.2.2 dX8_drop_13
set_option maxHeartbeats 4000000 in
set_option maxRecDepth 100000 in
/-- map of the reference, fresh: refused -/
theorem c_X8_map (l : Launch) (dC : Nat → ClassId) (dI : Nat → Nat → Nat) (sz : Nat) (h0 : Nat) (th : Int32) (q1 : Nat) (q3 : Nat) (q4 : Nat) (q5 : Nat) (q6 : Nat) (q7 : Nat) (q8 : Nat) (c1 : ClassId) (c3 : ClassId) (c4 : ClassId) (c5 : ClassId) (c6 : ClassId) (c7 : ClassId) (c8 : ClassId) (v2 : Value) (v9 : Value) (v10 : Value) (v11 : Value) (v12 : Value) (v13 : Value) (v14 : Value) (v15 : Value) (v16 : Value) (p0 : Int32) (p1 : Int32) (p2 : Int32) (p3 : Int32) : Met l yX8_map wsP_X8_map ({ frames := 2, cells := 0, slots := 0, locals := 60 }) (va_Pc [.ref h0, .int p0, .int p1, .int p2, .int p3] (pk_Pre (dC, dI) [(h0, .inr (8, [.int th, .ref q1, v2, .ref q3, .ref q4, .ref q5, .ref q6, .ref q7, .ref q8, v9, v10, v11, v12, v13, v14, v15, v16])), (q1, .inl (c1, 16, .inl (fun _ => (0 : Int32)))), (q3, .inl (c3, 16, .inl (fun _ => (0 : Int32)))), (q4, .inl (c4, 16, .inl (fun _ => (0 : Int32)))), (q5, .inl (c5, 16, .inl (fun _ => (0 : Int32)))), (q6, .inl (c6, 16, .inl (fun _ => (0 : Int32)))), (q7, .inl (c7, 16, .inl (fun _ => (0 : Int32)))), (q8, .inl (c8, 16, .inl (fun _ => (0 : Int32))))] [(c1, .int), (c3, .int), (c4, .int), (c5, .int), (c6, .int), (c7, .int), (c8, .int)] sz)) (va_Ql (fun (r : Int64) (_ : Unit) => True) (fun (_ : Unit) (t : State) => va_P (dC, dI) vwCl [(h0, .inr (8, [.int 1, .ref q1, v2, .ref q3, .ref q4, .ref q5, .ref q6, .ref q7, .ref q8, v9, v10, v11, v12, v13, v14, v15, v16]))] t.heap ∧ va_K (dC, dI) vwCl [] t ∧ va_D (va_A [(h0, .inr (8, [.int th, .ref q1, v2, .ref q3, .ref q4, .ref q5, .ref q6, .ref q7, .ref q8, v9, v10, v11, v12, v13, v14, v15, v16])), (q1, .inl (c1, 16, .inl (fun _ => (0 : Int32)))), (q3, .inl (c3, 16, .inl (fun _ => (0 : Int32)))), (q4, .inl (c4, 16, .inl (fun _ => (0 : Int32)))), (q5, .inl (c5, 16, .inl (fun _ => (0 : Int32)))), (q6, .inl (c6, 16, .inl (fun _ => (0 : Int32)))), (q7, .inl (c7, 16, .inl (fun _ => (0 : Int32)))), (q8, .inl (c8, 16, .inl (fun _ => (0 : Int32))))] sz) [(h0, .inr (8, [.int 1, .ref q1, v2, .ref q3, .ref q4, .ref q5, .ref q6, .ref q7, .ref q8, v9, v10, v11, v12, v13, v14, v15, v16]))]) (va_A [(h0, .inr (8, [.int th, .ref q1, v2, .ref q3, .ref q4, .ref q5, .ref q6, .ref q7, .ref q8, v9, v10, v11, v12, v13, v14, v15, v16])), (q1, .inl (c1, 16, .inl (fun _ => (0 : Int32)))), (q3, .inl (c3, 16, .inl (fun _ => (0 : Int32)))), (q4, .inl (c4, 16, .inl (fun _ => (0 : Int32)))), (q5, .inl (c5, 16, .inl (fun _ => (0 : Int32)))), (q6, .inl (c6, 16, .inl (fun _ => (0 : Int32)))), (q7, .inl (c7, 16, .inl (fun _ => (0 : Int32)))), (q8, .inl (c8, 16, .inl (fun _ => (0 : Int32))))] sz)) 0 0 (va_A [(h0, .inr (8, [.int th, .ref q1, v2, .ref q3, .ref q4, .ref q5, .ref q6, .ref q7, .ref q8, v9, v10, v11, v12, v13, v14, v15, v16])), (q1, .inl (c1, 16, .inl (fun _ => (0 : Int32)))), (q3, .inl (c3, 16, .inl (fun _ => (0 : Int32)))), (q4, .inl (c4, 16, .inl (fun _ => (0 : Int32)))), (q5, .inl (c5, 16, .inl (fun _ => (0 : Int32)))), (q6, .inl (c6, 16, .inl (fun _ => (0 : Int32)))), (q7, .inl (c7, 16, .inl (fun _ => (0 : Int32)))), (q8, .inl (c8, 16, .inl (fun _ => (0 : Int32))))] sz) := by
  refine Met.ofW (cc := cX8_map) (maxL := 11) (ret := (some .long)) (by decide) rfl ?_
  intro p e s m args below meth c s₁ B hml hv
  obtain ⟨rfl, hsz, hP, hK, hD0⟩ := hv
  have hx := B.exec
  have hb := B.bytes
  have hr := B.returns
  have hts := atoms_spec (ws := wsP_X8_map) B.pre
  have hown : s.vm.findClass RX8 = some m.cls := findClass_of_methodNamed B.named
  have hlocks := B.notSynchronized
  subst hsz
  have hD := hD0.self (sz := s.heap.size)
  generalize hAe : va_A [(h0, .inr (8, [.int th, .ref q1, v2, .ref q3, .ref q4, .ref q5, .ref q6, .ref q7, .ref q8, v9, v10, v11, v12, v13, v14, v15, v16])), (q1, .inl (c1, 16, .inl (fun _ => (0 : Int32)))), (q3, .inl (c3, 16, .inl (fun _ => (0 : Int32)))), (q4, .inl (c4, 16, .inl (fun _ => (0 : Int32)))), (q5, .inl (c5, 16, .inl (fun _ => (0 : Int32)))), (q6, .inl (c6, 16, .inl (fun _ => (0 : Int32)))), (q7, .inl (c7, 16, .inl (fun _ => (0 : Int32)))), (q8, .inl (c8, 16, .inl (fun _ => (0 : Int32))))] s.heap.size = A at hD ⊢
  have hA : ∀ q : Nat, s.heap.size ≤ q → A q := fun q h => by rw [← hAe]; exact Or.inr h
  have hS : va_S A s.heap s.heap [] := va_S.rf
  have hP : va_P (dC, dI) vwCl [(h0, .inr (8, [.int th, .ref q1, v2, .ref q3, .ref q4, .ref q5, .ref q6, .ref q7, .ref q8, v9, v10, v11, v12, v13, v14, v15, v16])), (q1, .inl (c1, 16, .inl (fun _ => (0 : Int32)))), (q3, .inl (c3, 16, .inl (fun _ => (0 : Int32)))), (q4, .inl (c4, 16, .inl (fun _ => (0 : Int32)))), (q5, .inl (c5, 16, .inl (fun _ => (0 : Int32)))), (q6, .inl (c6, 16, .inl (fun _ => (0 : Int32)))), (q7, .inl (c7, 16, .inl (fun _ => (0 : Int32)))), (q8, .inl (c8, 16, .inl (fun _ => (0 : Int32))))] s.heap := hP
  have hl := lv_entry ([.ref h0, .int p0, .int p1, .int p2, .int p3]) (n := 11) (Nat.le_of_ble_eq_true rfl)
  rw [lg_entry_eq]
  generalize (lg_sl ([.ref h0, .int p0, .int p1, .int p2, .int p3]) ++ List.replicate (11 - (lg_sl ([.ref h0, .int p0, .int p1, .int p2, .int p3])).length) Slot.unset).toArray = ls at hl ⊢
  have hl : lv_has ls 11 [(0, .ref h0), (1, .int p0), (2, .int p1), (3, .int p2), (4, .int p3)] := hl
  refine lv_iload_n hx hb dX8_map_0 rfl (lv_at hl 2 rfl) ?_
  refine lv_bipush (v := 19) hx hb dX8_map_1 (by decide) ?_
  refine lv_icmp_eq (tgt := 12) hx hb dX8_map_3 (by decide) (fun c_1 => ?_) (fun c_1 => ?_)
  ·
    have ic_1 : p1.toInt = 19 := tx_eq rfl (by decide) c_1
    refine lv_iconst (v := 1) hx hb dX8_map_12 (by decide) ?_
    refine lv_goto (tgt := 17) hx hb dX8_map_13 (by decide) ?_
    refine lv_istore (lv' := [(5, .int 1), (0, .ref h0), (1, .int p0), (2, .int p1), (3, .int p2), (4, .int p3)]) hx hb dX8_map_17 hl (by decide) rfl (fun ls hl => ?_)
    refine lv_aload_n hx hb dX8_map_19 rfl (lv_at hl 1 rfl) ?_
    refine lv_iload_n hx hb dX8_map_20 rfl (lv_at hl 2 rfl) ?_
    have hPc := hP.sub (ws' := [(h0, .inr (8, [.int th, .ref q1, v2, .ref q3, .ref q4, .ref q5, .ref q6, .ref q7, .ref q8, v9, v10, v11, v12, v13, v14, v15, v16])), (q1, .inl (c1, 16, .inl (fun _ => (0 : Int32))))]) [0, 1] rfl
    have hDc := hD.sub (ws' := [(h0, .inr (8, [.int th, .ref q1, v2, .ref q3, .ref q4, .ref q5, .ref q6, .ref q7, .ref q8, v9, v10, v11, v12, v13, v14, v15, v16])), (q1, .inl (c1, 16, .inl (fun _ => (0 : Int32))))]) [0, 1] (by decide) rfl
    have hKc := hK.sub (tys' := [(c1, .int)]) [0] rfl
    have hFc := va_free (wc := [(h0, .inr (8, [.int th, .ref q1, v2, .ref q3, .ref q4, .ref q5, .ref q6, .ref q7, .ref q8, v9, v10, v11, v12, v13, v14, v15, v16])), (q1, .inl (c1, 16, .inl (fun _ => (0 : Int32))))]) hD hS hA [0, 1] rfl
    refine va_calli (va_runV (As := [.int p0]) (rest := []) ⟨hx, hb, hml, hown, hts⟩ (c_X8_isThere l  dC dI s.heap.size h0 q1 c1 th v2 (.ref q3) (.ref q4) (.ref q5) (.ref q6) (.ref q7) (.ref q8) v9 v10 v11 v12 v13 v14 v15 v16 p0) (cwV 1 hts gP_X8_map_isThere rfl rfl rfl (by decide +kernel) ⟨(Nat.le_of_ble_eq_true rfl), (Nat.le_of_ble_eq_true rfl)⟩) ⟨pk_blind, va_recv hKc hPc (ci := 8) (q0 := 0) rfl rfl, pk_call hPc hKc hDc⟩ rfl rfl hl.1 rfl (lv_room (Nat.le_of_ble_eq_true rfl)) dX8_map_21 ⟨(Nat.le_of_ble_eq_true rfl), (Nat.le_of_ble_eq_true rfl)⟩) hS (fun q _ h => hFc q h) hFc (fun r_2 ur_2 t H1 locs ht hvm hw hB hz1 hk1 hS => ?_)
    try dsimp only at hw
    obtain ⟨hP1, hK1, hD1⟩ := hB
    rw [ht] at hP1
    have hK1 := va_K.moved hvm.symm hK1
    obtain ⟨hP, hD⟩ := va_join (wr := [(q3, .inl (c3, 16, .inl (fun _ => (0 : Int32)))), (q4, .inl (c4, 16, .inl (fun _ => (0 : Int32)))), (q5, .inl (c5, 16, .inl (fun _ => (0 : Int32)))), (q6, .inl (c6, 16, .inl (fun _ => (0 : Int32)))), (q7, .inl (c7, 16, .inl (fun _ => (0 : Int32)))), (q8, .inl (c8, 16, .inl (fun _ => (0 : Int32))))]) (w1 := [(h0, .inr (8, [.int th, .ref q1, v2, .ref q3, .ref q4, .ref q5, .ref q6, .ref q7, .ref q8, v9, v10, v11, v12, v13, v14, v15, v16])), (q1, .inl (c1, 16, .inl (fun _ => (0 : Int32))))]) hP hD [0, 1] [2, 3, 4, 5, 6, 7] rfl rfl (by decide) (by decide) hk1 hFc hP1 hD1
    clear hk1 hz1 ht hPc hDc hKc
    generalize H1 = H at hP hS ⊢
    have hP : va_P (dC, dI) vwCl [(q3, .inl (c3, 16, .inl (fun _ => (0 : Int32)))), (q4, .inl (c4, 16, .inl (fun _ => (0 : Int32)))), (q5, .inl (c5, 16, .inl (fun _ => (0 : Int32)))), (q6, .inl (c6, 16, .inl (fun _ => (0 : Int32)))), (q7, .inl (c7, 16, .inl (fun _ => (0 : Int32)))), (q8, .inl (c8, 16, .inl (fun _ => (0 : Int32)))), (h0, .inr (8, [.int th, .ref q1, v2, .ref q3, .ref q4, .ref q5, .ref q6, .ref q7, .ref q8, v9, v10, v11, v12, v13, v14, v15, v16])), (q1, .inl (c1, 16, .inl (fun _ => (0 : Int32))))] H := hP
    have hD : va_D A [(q3, .inl (c3, 16, .inl (fun _ => (0 : Int32)))), (q4, .inl (c4, 16, .inl (fun _ => (0 : Int32)))), (q5, .inl (c5, 16, .inl (fun _ => (0 : Int32)))), (q6, .inl (c6, 16, .inl (fun _ => (0 : Int32)))), (q7, .inl (c7, 16, .inl (fun _ => (0 : Int32)))), (q8, .inl (c8, 16, .inl (fun _ => (0 : Int32)))), (h0, .inr (8, [.int th, .ref q1, v2, .ref q3, .ref q4, .ref q5, .ref q6, .ref q7, .ref q8, v9, v10, v11, v12, v13, v14, v15, v16])), (q1, .inl (c1, 16, .inl (fun _ => (0 : Int32))))] := hD
    refine W.widen (k := 0) (n := 0) (Nat.le_of_ble_eq_true rfl) (Nat.le_of_ble_eq_true rfl) ?_
    obtain rfl : r_2 = 0 := hw
    refine W.eq (g2 := F0 m 24 ls [.int 0]) rfl ?_
    refine lv_if_eq (tgt := 41) hx hb dX8_map_24 (by decide) (fun c_3 => ?_) (fun c_3 => absurd c_3 (by decide))
    refine lv_aload_n hx hb dX8_map_41 rfl (lv_at hl 1 rfl) ?_
    refine lv_iconst (v := 1) hx hb dX8_map_42 (by decide) ?_
    have hPc := hP.sub (ws' := [(h0, .inr (8, [.int th, .ref q1, v2, .ref q3, .ref q4, .ref q5, .ref q6, .ref q7, .ref q8, v9, v10, v11, v12, v13, v14, v15, v16]))]) [6] rfl
    have hDc := hD.sub (ws' := [(h0, .inr (8, [.int th, .ref q1, v2, .ref q3, .ref q4, .ref q5, .ref q6, .ref q7, .ref q8, v9, v10, v11, v12, v13, v14, v15, v16]))]) [6] (by decide) rfl
    have hKc := hK.sub (tys' := []) [] rfl
    have hFc := va_free (wc := [(h0, .inr (8, [.int th, .ref q1, v2, .ref q3, .ref q4, .ref q5, .ref q6, .ref q7, .ref q8, v9, v10, v11, v12, v13, v14, v15, v16]))]) hD hS hA [6] rfl
    refine va_calli (va_runV (As := [.int 1]) (rest := []) ⟨hx, hb, hml, hown, hts⟩ (c_X8_refuse l  dC dI H.size h0 th 1 (.ref q1) v2 (.ref q3) (.ref q4) (.ref q5) (.ref q6) (.ref q7) (.ref q8) v9 v10 v11 v12 v13 v14 v15 v16) (cwV 1 hts gP_X8_map_refuse rfl rfl rfl (by decide +kernel) ⟨(Nat.le_of_ble_eq_true rfl), (Nat.le_of_ble_eq_true rfl)⟩) ⟨pk_blind, va_recv hKc hPc (ci := 8) (q0 := 0) rfl rfl, pk_call hPc hKc hDc⟩ rfl rfl hl.1 rfl (lv_room (Nat.le_of_ble_eq_true rfl)) dX8_map_43 ⟨(Nat.le_of_ble_eq_true rfl), (Nat.le_of_ble_eq_true rfl)⟩) hS (fun q _ h => hFc q h) hFc (fun r_4 ur_4 t H1 locs ht hvm hw hB hz1 hk1 hS => ?_)
    try dsimp only at hw
    have jr_4 := hw
    obtain ⟨hP1, hK1, hD1⟩ := hB
    rw [ht] at hP1
    have hK1 := va_K.moved hvm.symm hK1
    obtain ⟨hP, hD⟩ := va_join (wr := [(q3, .inl (c3, 16, .inl (fun _ => (0 : Int32)))), (q4, .inl (c4, 16, .inl (fun _ => (0 : Int32)))), (q5, .inl (c5, 16, .inl (fun _ => (0 : Int32)))), (q6, .inl (c6, 16, .inl (fun _ => (0 : Int32)))), (q7, .inl (c7, 16, .inl (fun _ => (0 : Int32)))), (q8, .inl (c8, 16, .inl (fun _ => (0 : Int32)))), (q1, .inl (c1, 16, .inl (fun _ => (0 : Int32))))]) (w1 := [(h0, .inr (8, [.int 1, .ref q1, v2, .ref q3, .ref q4, .ref q5, .ref q6, .ref q7, .ref q8, v9, v10, v11, v12, v13, v14, v15, v16]))]) hP hD [6] [0, 1, 2, 3, 4, 5, 7] rfl rfl (by decide) (by decide) hk1 hFc hP1 hD1
    clear hk1 hz1 ht hPc hDc hKc
    generalize H1 = H at hP hS ⊢
    have hP : va_P (dC, dI) vwCl [(q3, .inl (c3, 16, .inl (fun _ => (0 : Int32)))), (q4, .inl (c4, 16, .inl (fun _ => (0 : Int32)))), (q5, .inl (c5, 16, .inl (fun _ => (0 : Int32)))), (q6, .inl (c6, 16, .inl (fun _ => (0 : Int32)))), (q7, .inl (c7, 16, .inl (fun _ => (0 : Int32)))), (q8, .inl (c8, 16, .inl (fun _ => (0 : Int32)))), (q1, .inl (c1, 16, .inl (fun _ => (0 : Int32)))), (h0, .inr (8, [.int 1, .ref q1, v2, .ref q3, .ref q4, .ref q5, .ref q6, .ref q7, .ref q8, v9, v10, v11, v12, v13, v14, v15, v16]))] H := hP
    have hD : va_D A [(q3, .inl (c3, 16, .inl (fun _ => (0 : Int32)))), (q4, .inl (c4, 16, .inl (fun _ => (0 : Int32)))), (q5, .inl (c5, 16, .inl (fun _ => (0 : Int32)))), (q6, .inl (c6, 16, .inl (fun _ => (0 : Int32)))), (q7, .inl (c7, 16, .inl (fun _ => (0 : Int32)))), (q8, .inl (c8, 16, .inl (fun _ => (0 : Int32)))), (q1, .inl (c1, 16, .inl (fun _ => (0 : Int32)))), (h0, .inr (8, [.int 1, .ref q1, v2, .ref q3, .ref q4, .ref q5, .ref q6, .ref q7, .ref q8, v9, v10, v11, v12, v13, v14, v15, v16]))] := hD
    refine W.widen (k := 0) (n := 0) (Nat.le_of_ble_eq_true rfl) (Nat.le_of_ble_eq_true rfl) ?_
    refine W.eq (g2 := F0 m 46 ls [.int r_4]) rfl ?_
    refine lv_i2l (v := r_4.toInt64) hx hb dX8_map_46 rfl ?_
    have hP9 := hP.sub (ws' := [(h0, .inr (8, [.int 1, .ref q1, v2, .ref q3, .ref q4, .ref q5, .ref q6, .ref q7, .ref q8, v9, v10, v11, v12, v13, v14, v15, v16]))]) [7] rfl
    have hD9 := hD.sub (ws' := [(h0, .inr (8, [.int 1, .ref q1, v2, .ref q3, .ref q4, .ref q5, .ref q6, .ref q7, .ref q8, v9, v10, v11, v12, v13, v14, v15, v16]))]) [7] (by decide) rfl
    have hK9 := hK.sub (tys' := []) [] rfl
    refine W.widen (k := 0) (n := 0) (Nat.le_of_ble_eq_true rfl) (Nat.le_of_ble_eq_true rfl) ?_
    exact W.lret (v := r_4.toInt64) hx hb hr (fun t ht hW => ⟨⟨r_4.toInt64, (), rfl, trivial, by rw [ht]; exact hP9, va_K.moved hW.alike hK9, hD9⟩, hS.F ht⟩) hS.2.2 dX8_map_47
  ·
    have ic_1 : ¬ p1.toInt = 19 := tx_ne rfl (by decide) c_1
    refine lv_iload_n hx hb dX8_map_6 rfl (lv_at hl 2 rfl) ?_
    refine lv_bipush (v := 20) hx hb dX8_map_7 (by decide) ?_
    refine lv_icmp_ne (tgt := 16) hx hb dX8_map_9 (by decide) (fun c_5 => ?_) (fun c_5 => ?_)
    ·
      have ic_5 : ¬ p1.toInt = 20 := tx_ne rfl (by decide) c_5
      refine lv_iconst (v := 0) hx hb dX8_map_16 (by decide) ?_
      refine lv_istore (lv' := [(5, .int 0), (0, .ref h0), (1, .int p0), (2, .int p1), (3, .int p2), (4, .int p3)]) hx hb dX8_map_17 hl (by decide) rfl (fun ls hl => ?_)
      refine lv_aload_n hx hb dX8_map_19 rfl (lv_at hl 1 rfl) ?_
      refine lv_iload_n hx hb dX8_map_20 rfl (lv_at hl 2 rfl) ?_
      have hPc := hP.sub (ws' := [(h0, .inr (8, [.int th, .ref q1, v2, .ref q3, .ref q4, .ref q5, .ref q6, .ref q7, .ref q8, v9, v10, v11, v12, v13, v14, v15, v16])), (q1, .inl (c1, 16, .inl (fun _ => (0 : Int32))))]) [0, 1] rfl
      have hDc := hD.sub (ws' := [(h0, .inr (8, [.int th, .ref q1, v2, .ref q3, .ref q4, .ref q5, .ref q6, .ref q7, .ref q8, v9, v10, v11, v12, v13, v14, v15, v16])), (q1, .inl (c1, 16, .inl (fun _ => (0 : Int32))))]) [0, 1] (by decide) rfl
      have hKc := hK.sub (tys' := [(c1, .int)]) [0] rfl
      have hFc := va_free (wc := [(h0, .inr (8, [.int th, .ref q1, v2, .ref q3, .ref q4, .ref q5, .ref q6, .ref q7, .ref q8, v9, v10, v11, v12, v13, v14, v15, v16])), (q1, .inl (c1, 16, .inl (fun _ => (0 : Int32))))]) hD hS hA [0, 1] rfl
      refine va_calli (va_runV (As := [.int p0]) (rest := []) ⟨hx, hb, hml, hown, hts⟩ (c_X8_isThere l  dC dI s.heap.size h0 q1 c1 th v2 (.ref q3) (.ref q4) (.ref q5) (.ref q6) (.ref q7) (.ref q8) v9 v10 v11 v12 v13 v14 v15 v16 p0) (cwV 1 hts gP_X8_map_isThere rfl rfl rfl (by decide +kernel) ⟨(Nat.le_of_ble_eq_true rfl), (Nat.le_of_ble_eq_true rfl)⟩) ⟨pk_blind, va_recv hKc hPc (ci := 8) (q0 := 0) rfl rfl, pk_call hPc hKc hDc⟩ rfl rfl hl.1 rfl (lv_room (Nat.le_of_ble_eq_true rfl)) dX8_map_21 ⟨(Nat.le_of_ble_eq_true rfl), (Nat.le_of_ble_eq_true rfl)⟩) hS (fun q _ h => hFc q h) hFc (fun r_6 ur_6 t H1 locs ht hvm hw hB hz1 hk1 hS => ?_)
      try dsimp only at hw
      obtain ⟨hP1, hK1, hD1⟩ := hB
      rw [ht] at hP1
      have hK1 := va_K.moved hvm.symm hK1
      obtain ⟨hP, hD⟩ := va_join (wr := [(q3, .inl (c3, 16, .inl (fun _ => (0 : Int32)))), (q4, .inl (c4, 16, .inl (fun _ => (0 : Int32)))), (q5, .inl (c5, 16, .inl (fun _ => (0 : Int32)))), (q6, .inl (c6, 16, .inl (fun _ => (0 : Int32)))), (q7, .inl (c7, 16, .inl (fun _ => (0 : Int32)))), (q8, .inl (c8, 16, .inl (fun _ => (0 : Int32))))]) (w1 := [(h0, .inr (8, [.int th, .ref q1, v2, .ref q3, .ref q4, .ref q5, .ref q6, .ref q7, .ref q8, v9, v10, v11, v12, v13, v14, v15, v16])), (q1, .inl (c1, 16, .inl (fun _ => (0 : Int32))))]) hP hD [0, 1] [2, 3, 4, 5, 6, 7] rfl rfl (by decide) (by decide) hk1 hFc hP1 hD1
      clear hk1 hz1 ht hPc hDc hKc
      generalize H1 = H at hP hS ⊢
      have hP : va_P (dC, dI) vwCl [(q3, .inl (c3, 16, .inl (fun _ => (0 : Int32)))), (q4, .inl (c4, 16, .inl (fun _ => (0 : Int32)))), (q5, .inl (c5, 16, .inl (fun _ => (0 : Int32)))), (q6, .inl (c6, 16, .inl (fun _ => (0 : Int32)))), (q7, .inl (c7, 16, .inl (fun _ => (0 : Int32)))), (q8, .inl (c8, 16, .inl (fun _ => (0 : Int32)))), (h0, .inr (8, [.int th, .ref q1, v2, .ref q3, .ref q4, .ref q5, .ref q6, .ref q7, .ref q8, v9, v10, v11, v12, v13, v14, v15, v16])), (q1, .inl (c1, 16, .inl (fun _ => (0 : Int32))))] H := hP
      have hD : va_D A [(q3, .inl (c3, 16, .inl (fun _ => (0 : Int32)))), (q4, .inl (c4, 16, .inl (fun _ => (0 : Int32)))), (q5, .inl (c5, 16, .inl (fun _ => (0 : Int32)))), (q6, .inl (c6, 16, .inl (fun _ => (0 : Int32)))), (q7, .inl (c7, 16, .inl (fun _ => (0 : Int32)))), (q8, .inl (c8, 16, .inl (fun _ => (0 : Int32)))), (h0, .inr (8, [.int th, .ref q1, v2, .ref q3, .ref q4, .ref q5, .ref q6, .ref q7, .ref q8, v9, v10, v11, v12, v13, v14, v15, v16])), (q1, .inl (c1, 16, .inl (fun _ => (0 : Int32))))] := hD
      refine W.widen (k := 0) (n := 0) (Nat.le_of_ble_eq_true rfl) (Nat.le_of_ble_eq_true rfl) ?_
      obtain rfl : r_6 = 0 := hw
      refine W.eq (g2 := F0 m 24 ls [.int 0]) rfl ?_
      refine lv_if_eq (tgt := 41) hx hb dX8_map_24 (by decide) (fun c_7 => ?_) (fun c_7 => absurd c_7 (by decide))
      refine lv_aload_n hx hb dX8_map_41 rfl (lv_at hl 1 rfl) ?_
      refine lv_iconst (v := 1) hx hb dX8_map_42 (by decide) ?_
      have hPc := hP.sub (ws' := [(h0, .inr (8, [.int th, .ref q1, v2, .ref q3, .ref q4, .ref q5, .ref q6, .ref q7, .ref q8, v9, v10, v11, v12, v13, v14, v15, v16]))]) [6] rfl
      have hDc := hD.sub (ws' := [(h0, .inr (8, [.int th, .ref q1, v2, .ref q3, .ref q4, .ref q5, .ref q6, .ref q7, .ref q8, v9, v10, v11, v12, v13, v14, v15, v16]))]) [6] (by decide) rfl
      have hKc := hK.sub (tys' := []) [] rfl
      have hFc := va_free (wc := [(h0, .inr (8, [.int th, .ref q1, v2, .ref q3, .ref q4, .ref q5, .ref q6, .ref q7, .ref q8, v9, v10, v11, v12, v13, v14, v15, v16]))]) hD hS hA [6] rfl
      refine va_calli (va_runV (As := [.int 1]) (rest := []) ⟨hx, hb, hml, hown, hts⟩ (c_X8_refuse l  dC dI H.size h0 th 1 (.ref q1) v2 (.ref q3) (.ref q4) (.ref q5) (.ref q6) (.ref q7) (.ref q8) v9 v10 v11 v12 v13 v14 v15 v16) (cwV 1 hts gP_X8_map_refuse rfl rfl rfl (by decide +kernel) ⟨(Nat.le_of_ble_eq_true rfl), (Nat.le_of_ble_eq_true rfl)⟩) ⟨pk_blind, va_recv hKc hPc (ci := 8) (q0 := 0) rfl rfl, pk_call hPc hKc hDc⟩ rfl rfl hl.1 rfl (lv_room (Nat.le_of_ble_eq_true rfl)) dX8_map_43 ⟨(Nat.le_of_ble_eq_true rfl), (Nat.le_of_ble_eq_true rfl)⟩) hS (fun q _ h => hFc q h) hFc (fun r_8 ur_8 t H1 locs ht hvm hw hB hz1 hk1 hS => ?_)
      try dsimp only at hw
      have jr_8 := hw
      obtain ⟨hP1, hK1, hD1⟩ := hB
      rw [ht] at hP1
      have hK1 := va_K.moved hvm.symm hK1
      obtain ⟨hP, hD⟩ := va_join (wr := [(q3, .inl (c3, 16, .inl (fun _ => (0 : Int32)))), (q4, .inl (c4, 16, .inl (fun _ => (0 : Int32)))), (q5, .inl (c5, 16, .inl (fun _ => (0 : Int32)))), (q6, .inl (c6, 16, .inl (fun _ => (0 : Int32)))), (q7, .inl (c7, 16, .inl (fun _ => (0 : Int32)))), (q8, .inl (c8, 16, .inl (fun _ => (0 : Int32)))), (q1, .inl (c1, 16, .inl (fun _ => (0 : Int32))))]) (w1 := [(h0, .inr (8, [.int 1, .ref q1, v2, .ref q3, .ref q4, .ref q5, .ref q6, .ref q7, .ref q8, v9, v10, v11, v12, v13, v14, v15, v16]))]) hP hD [6] [0, 1, 2, 3, 4, 5, 7] rfl rfl (by decide) (by decide) hk1 hFc hP1 hD1
      clear hk1 hz1 ht hPc hDc hKc
      generalize H1 = H at hP hS ⊢
      have hP : va_P (dC, dI) vwCl [(q3, .inl (c3, 16, .inl (fun _ => (0 : Int32)))), (q4, .inl (c4, 16, .inl (fun _ => (0 : Int32)))), (q5, .inl (c5, 16, .inl (fun _ => (0 : Int32)))), (q6, .inl (c6, 16, .inl (fun _ => (0 : Int32)))), (q7, .inl (c7, 16, .inl (fun _ => (0 : Int32)))), (q8, .inl (c8, 16, .inl (fun _ => (0 : Int32)))), (q1, .inl (c1, 16, .inl (fun _ => (0 : Int32)))), (h0, .inr (8, [.int 1, .ref q1, v2, .ref q3, .ref q4, .ref q5, .ref q6, .ref q7, .ref q8, v9, v10, v11, v12, v13, v14, v15, v16]))] H := hP
      have hD : va_D A [(q3, .inl (c3, 16, .inl (fun _ => (0 : Int32)))), (q4, .inl (c4, 16, .inl (fun _ => (0 : Int32)))), (q5, .inl (c5, 16, .inl (fun _ => (0 : Int32)))), (q6, .inl (c6, 16, .inl (fun _ => (0 : Int32)))), (q7, .inl (c7, 16, .inl (fun _ => (0 : Int32)))), (q8, .inl (c8, 16, .inl (fun _ => (0 : Int32)))), (q1, .inl (c1, 16, .inl (fun _ => (0 : Int32)))), (h0, .inr (8, [.int 1, .ref q1, v2, .ref q3, .ref q4, .ref q5, .ref q6, .ref q7, .ref q8, v9, v10, v11, v12, v13, v14, v15, v16]))] := hD
      refine W.widen (k := 0) (n := 0) (Nat.le_of_ble_eq_true rfl) (Nat.le_of_ble_eq_true rfl) ?_
      refine W.eq (g2 := F0 m 46 ls [.int r_8]) rfl ?_
      refine lv_i2l (v := r_8.toInt64) hx hb dX8_map_46 rfl ?_
      have hP9 := hP.sub (ws' := [(h0, .inr (8, [.int 1, .ref q1, v2, .ref q3, .ref q4, .ref q5, .ref q6, .ref q7, .ref q8, v9, v10, v11, v12, v13, v14, v15, v16]))]) [7] rfl
      have hD9 := hD.sub (ws' := [(h0, .inr (8, [.int 1, .ref q1, v2, .ref q3, .ref q4, .ref q5, .ref q6, .ref q7, .ref q8, v9, v10, v11, v12, v13, v14, v15, v16]))]) [7] (by decide) rfl
      have hK9 := hK.sub (tys' := []) [] rfl
      refine W.widen (k := 0) (n := 0) (Nat.le_of_ble_eq_true rfl) (Nat.le_of_ble_eq_true rfl) ?_
      exact W.lret (v := r_8.toInt64) hx hb hr (fun t ht hW => ⟨⟨r_8.toInt64, (), rfl, trivial, by rw [ht]; exact hP9, va_K.moved hW.alike hK9, hD9⟩, hS.F ht⟩) hS.2.2 dX8_map_47
    ·
      have ic_5 : p1.toInt = 20 := tx_eq rfl (by decide) c_5
      refine lv_iconst (v := 1) hx hb dX8_map_12 (by decide) ?_
      refine lv_goto (tgt := 17) hx hb dX8_map_13 (by decide) ?_
      refine lv_istore (lv' := [(5, .int 1), (0, .ref h0), (1, .int p0), (2, .int p1), (3, .int p2), (4, .int p3)]) hx hb dX8_map_17 hl (by decide) rfl (fun ls hl => ?_)
      refine lv_aload_n hx hb dX8_map_19 rfl (lv_at hl 1 rfl) ?_
      refine lv_iload_n hx hb dX8_map_20 rfl (lv_at hl 2 rfl) ?_
      have hPc := hP.sub (ws' := [(h0, .inr (8, [.int th, .ref q1, v2, .ref q3, .ref q4, .ref q5, .ref q6, .ref q7, .ref q8, v9, v10, v11, v12, v13, v14, v15, v16])), (q1, .inl (c1, 16, .inl (fun _ => (0 : Int32))))]) [0, 1] rfl
      have hDc := hD.sub (ws' := [(h0, .inr (8, [.int th, .ref q1, v2, .ref q3, .ref q4, .ref q5, .ref q6, .ref q7, .ref q8, v9, v10, v11, v12, v13, v14, v15, v16])), (q1, .inl (c1, 16, .inl (fun _ => (0 : Int32))))]) [0, 1] (by decide) rfl
      have hKc := hK.sub (tys' := [(c1, .int)]) [0] rfl
      have hFc := va_free (wc := [(h0, .inr (8, [.int th, .ref q1, v2, .ref q3, .ref q4, .ref q5, .ref q6, .ref q7, .ref q8, v9, v10, v11, v12, v13, v14, v15, v16])), (q1, .inl (c1, 16, .inl (fun _ => (0 : Int32))))]) hD hS hA [0, 1] rfl
      refine va_calli (va_runV (As := [.int p0]) (rest := []) ⟨hx, hb, hml, hown, hts⟩ (c_X8_isThere l  dC dI s.heap.size h0 q1 c1 th v2 (.ref q3) (.ref q4) (.ref q5) (.ref q6) (.ref q7) (.ref q8) v9 v10 v11 v12 v13 v14 v15 v16 p0) (cwV 1 hts gP_X8_map_isThere rfl rfl rfl (by decide +kernel) ⟨(Nat.le_of_ble_eq_true rfl), (Nat.le_of_ble_eq_true rfl)⟩) ⟨pk_blind, va_recv hKc hPc (ci := 8) (q0 := 0) rfl rfl, pk_call hPc hKc hDc⟩ rfl rfl hl.1 rfl (lv_room (Nat.le_of_ble_eq_true rfl)) dX8_map_21 ⟨(Nat.le_of_ble_eq_true rfl), (Nat.le_of_ble_eq_true rfl)⟩) hS (fun q _ h => hFc q h) hFc (fun r_9 ur_9 t H1 locs ht hvm hw hB hz1 hk1 hS => ?_)
      try dsimp only at hw
      obtain ⟨hP1, hK1, hD1⟩ := hB
      rw [ht] at hP1
      have hK1 := va_K.moved hvm.symm hK1
      obtain ⟨hP, hD⟩ := va_join (wr := [(q3, .inl (c3, 16, .inl (fun _ => (0 : Int32)))), (q4, .inl (c4, 16, .inl (fun _ => (0 : Int32)))), (q5, .inl (c5, 16, .inl (fun _ => (0 : Int32)))), (q6, .inl (c6, 16, .inl (fun _ => (0 : Int32)))), (q7, .inl (c7, 16, .inl (fun _ => (0 : Int32)))), (q8, .inl (c8, 16, .inl (fun _ => (0 : Int32))))]) (w1 := [(h0, .inr (8, [.int th, .ref q1, v2, .ref q3, .ref q4, .ref q5, .ref q6, .ref q7, .ref q8, v9, v10, v11, v12, v13, v14, v15, v16])), (q1, .inl (c1, 16, .inl (fun _ => (0 : Int32))))]) hP hD [0, 1] [2, 3, 4, 5, 6, 7] rfl rfl (by decide) (by decide) hk1 hFc hP1 hD1
      clear hk1 hz1 ht hPc hDc hKc
      generalize H1 = H at hP hS ⊢
      have hP : va_P (dC, dI) vwCl [(q3, .inl (c3, 16, .inl (fun _ => (0 : Int32)))), (q4, .inl (c4, 16, .inl (fun _ => (0 : Int32)))), (q5, .inl (c5, 16, .inl (fun _ => (0 : Int32)))), (q6, .inl (c6, 16, .inl (fun _ => (0 : Int32)))), (q7, .inl (c7, 16, .inl (fun _ => (0 : Int32)))), (q8, .inl (c8, 16, .inl (fun _ => (0 : Int32)))), (h0, .inr (8, [.int th, .ref q1, v2, .ref q3, .ref q4, .ref q5, .ref q6, .ref q7, .ref q8, v9, v10, v11, v12, v13, v14, v15, v16])), (q1, .inl (c1, 16, .inl (fun _ => (0 : Int32))))] H := hP
      have hD : va_D A [(q3, .inl (c3, 16, .inl (fun _ => (0 : Int32)))), (q4, .inl (c4, 16, .inl (fun _ => (0 : Int32)))), (q5, .inl (c5, 16, .inl (fun _ => (0 : Int32)))), (q6, .inl (c6, 16, .inl (fun _ => (0 : Int32)))), (q7, .inl (c7, 16, .inl (fun _ => (0 : Int32)))), (q8, .inl (c8, 16, .inl (fun _ => (0 : Int32)))), (h0, .inr (8, [.int th, .ref q1, v2, .ref q3, .ref q4, .ref q5, .ref q6, .ref q7, .ref q8, v9, v10, v11, v12, v13, v14, v15, v16])), (q1, .inl (c1, 16, .inl (fun _ => (0 : Int32))))] := hD
      refine W.widen (k := 0) (n := 0) (Nat.le_of_ble_eq_true rfl) (Nat.le_of_ble_eq_true rfl) ?_
      obtain rfl : r_9 = 0 := hw
      refine W.eq (g2 := F0 m 24 ls [.int 0]) rfl ?_
      refine lv_if_eq (tgt := 41) hx hb dX8_map_24 (by decide) (fun c_10 => ?_) (fun c_10 => absurd c_10 (by decide))
      refine lv_aload_n hx hb dX8_map_41 rfl (lv_at hl 1 rfl) ?_
      refine lv_iconst (v := 1) hx hb dX8_map_42 (by decide) ?_
      have hPc := hP.sub (ws' := [(h0, .inr (8, [.int th, .ref q1, v2, .ref q3, .ref q4, .ref q5, .ref q6, .ref q7, .ref q8, v9, v10, v11, v12, v13, v14, v15, v16]))]) [6] rfl
      have hDc := hD.sub (ws' := [(h0, .inr (8, [.int th, .ref q1, v2, .ref q3, .ref q4, .ref q5, .ref q6, .ref q7, .ref q8, v9, v10, v11, v12, v13, v14, v15, v16]))]) [6] (by decide) rfl
      have hKc := hK.sub (tys' := []) [] rfl
      have hFc := va_free (wc := [(h0, .inr (8, [.int th, .ref q1, v2, .ref q3, .ref q4, .ref q5, .ref q6, .ref q7, .ref q8, v9, v10, v11, v12, v13, v14, v15, v16]))]) hD hS hA [6] rfl
      refine va_calli (va_runV (As := [.int 1]) (rest := []) ⟨hx, hb, hml, hown, hts⟩ (c_X8_refuse l  dC dI H.size h0 th 1 (.ref q1) v2 (.ref q3) (.ref q4) (.ref q5) (.ref q6) (.ref q7) (.ref q8) v9 v10 v11 v12 v13 v14 v15 v16) (cwV 1 hts gP_X8_map_refuse rfl rfl rfl (by decide +kernel) ⟨(Nat.le_of_ble_eq_true rfl), (Nat.le_of_ble_eq_true rfl)⟩) ⟨pk_blind, va_recv hKc hPc (ci := 8) (q0 := 0) rfl rfl, pk_call hPc hKc hDc⟩ rfl rfl hl.1 rfl (lv_room (Nat.le_of_ble_eq_true rfl)) dX8_map_43 ⟨(Nat.le_of_ble_eq_true rfl), (Nat.le_of_ble_eq_true rfl)⟩) hS (fun q _ h => hFc q h) hFc (fun r_11 ur_11 t H1 locs ht hvm hw hB hz1 hk1 hS => ?_)
      try dsimp only at hw
      have jr_11 := hw
      obtain ⟨hP1, hK1, hD1⟩ := hB
      rw [ht] at hP1
      have hK1 := va_K.moved hvm.symm hK1
      obtain ⟨hP, hD⟩ := va_join (wr := [(q3, .inl (c3, 16, .inl (fun _ => (0 : Int32)))), (q4, .inl (c4, 16, .inl (fun _ => (0 : Int32)))), (q5, .inl (c5, 16, .inl (fun _ => (0 : Int32)))), (q6, .inl (c6, 16, .inl (fun _ => (0 : Int32)))), (q7, .inl (c7, 16, .inl (fun _ => (0 : Int32)))), (q8, .inl (c8, 16, .inl (fun _ => (0 : Int32)))), (q1, .inl (c1, 16, .inl (fun _ => (0 : Int32))))]) (w1 := [(h0, .inr (8, [.int 1, .ref q1, v2, .ref q3, .ref q4, .ref q5, .ref q6, .ref q7, .ref q8, v9, v10, v11, v12, v13, v14, v15, v16]))]) hP hD [6] [0, 1, 2, 3, 4, 5, 7] rfl rfl (by decide) (by decide) hk1 hFc hP1 hD1
      clear hk1 hz1 ht hPc hDc hKc
      generalize H1 = H at hP hS ⊢
      have hP : va_P (dC, dI) vwCl [(q3, .inl (c3, 16, .inl (fun _ => (0 : Int32)))), (q4, .inl (c4, 16, .inl (fun _ => (0 : Int32)))), (q5, .inl (c5, 16, .inl (fun _ => (0 : Int32)))), (q6, .inl (c6, 16, .inl (fun _ => (0 : Int32)))), (q7, .inl (c7, 16, .inl (fun _ => (0 : Int32)))), (q8, .inl (c8, 16, .inl (fun _ => (0 : Int32)))), (q1, .inl (c1, 16, .inl (fun _ => (0 : Int32)))), (h0, .inr (8, [.int 1, .ref q1, v2, .ref q3, .ref q4, .ref q5, .ref q6, .ref q7, .ref q8, v9, v10, v11, v12, v13, v14, v15, v16]))] H := hP
      have hD : va_D A [(q3, .inl (c3, 16, .inl (fun _ => (0 : Int32)))), (q4, .inl (c4, 16, .inl (fun _ => (0 : Int32)))), (q5, .inl (c5, 16, .inl (fun _ => (0 : Int32)))), (q6, .inl (c6, 16, .inl (fun _ => (0 : Int32)))), (q7, .inl (c7, 16, .inl (fun _ => (0 : Int32)))), (q8, .inl (c8, 16, .inl (fun _ => (0 : Int32)))), (q1, .inl (c1, 16, .inl (fun _ => (0 : Int32)))), (h0, .inr (8, [.int 1, .ref q1, v2, .ref q3, .ref q4, .ref q5, .ref q6, .ref q7, .ref q8, v9, v10, v11, v12, v13, v14, v15, v16]))] := hD
      refine W.widen (k := 0) (n := 0) (Nat.le_of_ble_eq_true rfl) (Nat.le_of_ble_eq_true rfl) ?_
      refine W.eq (g2 := F0 m 46 ls [.int r_11]) rfl ?_
      refine lv_i2l (v := r_11.toInt64) hx hb dX8_map_46 rfl ?_
      have hP9 := hP.sub (ws' := [(h0, .inr (8, [.int 1, .ref q1, v2, .ref q3, .ref q4, .ref q5, .ref q6, .ref q7, .ref q8, v9, v10, v11, v12, v13, v14, v15, v16]))]) [7] rfl
      have hD9 := hD.sub (ws' := [(h0, .inr (8, [.int 1, .ref q1, v2, .ref q3, .ref q4, .ref q5, .ref q6, .ref q7, .ref q8, v9, v10, v11, v12, v13, v14, v15, v16]))]) [7] (by decide) rfl
      have hK9 := hK.sub (tys' := []) [] rfl
      refine W.widen (k := 0) (n := 0) (Nat.le_of_ble_eq_true rfl) (Nat.le_of_ble_eq_true rfl) ?_
      exact W.lret (v := r_11.toInt64) hx hb hr (fun t ht hW => ⟨⟨r_11.toInt64, (), rfl, trivial, by rw [ht]; exact hP9, va_K.moved hW.alike hK9, hD9⟩, hS.F ht⟩) hS.2.2 dX8_map_47
set_option maxHeartbeats 4000000 in
set_option maxRecDepth 100000 in
/-- view of the reference, fresh: refused -/
theorem c_X8_view (l : Launch) (dC : Nat → ClassId) (dI : Nat → Nat → Nat) (sz : Nat) (h0 : Nat) (th : Int32) (q1 : Nat) (q3 : Nat) (q4 : Nat) (q5 : Nat) (q6 : Nat) (q7 : Nat) (q8 : Nat) (c1 : ClassId) (c3 : ClassId) (c4 : ClassId) (c5 : ClassId) (c6 : ClassId) (c7 : ClassId) (c8 : ClassId) (v2 : Value) (v9 : Value) (v10 : Value) (v11 : Value) (v12 : Value) (v13 : Value) (v14 : Value) (v15 : Value) (v16 : Value) (p0 : Int32) (p1 : Int32) (p2 : Int32) (p3 : Int32) : Met l yX8_view wsP_X8_view ({ frames := 2, cells := 0, slots := 0, locals := 60 }) (va_Pc [.ref h0, .int p0, .int p1, .int p2, .int p3] (pk_Pre (dC, dI) [(h0, .inr (8, [.int th, .ref q1, v2, .ref q3, .ref q4, .ref q5, .ref q6, .ref q7, .ref q8, v9, v10, v11, v12, v13, v14, v15, v16])), (q1, .inl (c1, 16, .inl (fun _ => (0 : Int32)))), (q3, .inl (c3, 16, .inl (fun _ => (0 : Int32)))), (q4, .inl (c4, 16, .inl (fun _ => (0 : Int32)))), (q5, .inl (c5, 16, .inl (fun _ => (0 : Int32)))), (q6, .inl (c6, 16, .inl (fun _ => (0 : Int32)))), (q7, .inl (c7, 16, .inl (fun _ => (0 : Int32)))), (q8, .inl (c8, 16, .inl (fun _ => (0 : Int32))))] [(c1, .int), (c3, .int), (c4, .int), (c5, .int), (c6, .int), (c7, .int), (c8, .int)] sz)) (va_Qi (fun (r : Int32) (_ : Unit) => True) (fun (_ : Unit) (t : State) => va_P (dC, dI) vwCl [(h0, .inr (8, [.int 1, .ref q1, v2, .ref q3, .ref q4, .ref q5, .ref q6, .ref q7, .ref q8, v9, v10, v11, v12, v13, v14, v15, v16]))] t.heap ∧ va_K (dC, dI) vwCl [] t ∧ va_D (va_A [(h0, .inr (8, [.int th, .ref q1, v2, .ref q3, .ref q4, .ref q5, .ref q6, .ref q7, .ref q8, v9, v10, v11, v12, v13, v14, v15, v16])), (q1, .inl (c1, 16, .inl (fun _ => (0 : Int32)))), (q3, .inl (c3, 16, .inl (fun _ => (0 : Int32)))), (q4, .inl (c4, 16, .inl (fun _ => (0 : Int32)))), (q5, .inl (c5, 16, .inl (fun _ => (0 : Int32)))), (q6, .inl (c6, 16, .inl (fun _ => (0 : Int32)))), (q7, .inl (c7, 16, .inl (fun _ => (0 : Int32)))), (q8, .inl (c8, 16, .inl (fun _ => (0 : Int32))))] sz) [(h0, .inr (8, [.int 1, .ref q1, v2, .ref q3, .ref q4, .ref q5, .ref q6, .ref q7, .ref q8, v9, v10, v11, v12, v13, v14, v15, v16]))]) (va_A [(h0, .inr (8, [.int th, .ref q1, v2, .ref q3, .ref q4, .ref q5, .ref q6, .ref q7, .ref q8, v9, v10, v11, v12, v13, v14, v15, v16])), (q1, .inl (c1, 16, .inl (fun _ => (0 : Int32)))), (q3, .inl (c3, 16, .inl (fun _ => (0 : Int32)))), (q4, .inl (c4, 16, .inl (fun _ => (0 : Int32)))), (q5, .inl (c5, 16, .inl (fun _ => (0 : Int32)))), (q6, .inl (c6, 16, .inl (fun _ => (0 : Int32)))), (q7, .inl (c7, 16, .inl (fun _ => (0 : Int32)))), (q8, .inl (c8, 16, .inl (fun _ => (0 : Int32))))] sz)) 0 0 (va_A [(h0, .inr (8, [.int th, .ref q1, v2, .ref q3, .ref q4, .ref q5, .ref q6, .ref q7, .ref q8, v9, v10, v11, v12, v13, v14, v15, v16])), (q1, .inl (c1, 16, .inl (fun _ => (0 : Int32)))), (q3, .inl (c3, 16, .inl (fun _ => (0 : Int32)))), (q4, .inl (c4, 16, .inl (fun _ => (0 : Int32)))), (q5, .inl (c5, 16, .inl (fun _ => (0 : Int32)))), (q6, .inl (c6, 16, .inl (fun _ => (0 : Int32)))), (q7, .inl (c7, 16, .inl (fun _ => (0 : Int32)))), (q8, .inl (c8, 16, .inl (fun _ => (0 : Int32))))] sz) := by
  refine Met.ofW (cc := cX8_view) (maxL := 6) (ret := (some .int)) (by decide) rfl ?_
  intro p e s m args below meth c s₁ B hml hv
  obtain ⟨rfl, hsz, hP, hK, hD0⟩ := hv
  have hx := B.exec
  have hb := B.bytes
  have hr := B.returns
  have hts := atoms_spec (ws := wsP_X8_view) B.pre
  have hown : s.vm.findClass RX8 = some m.cls := findClass_of_methodNamed B.named
  have hlocks := B.notSynchronized
  subst hsz
  have hD := hD0.self (sz := s.heap.size)
  generalize hAe : va_A [(h0, .inr (8, [.int th, .ref q1, v2, .ref q3, .ref q4, .ref q5, .ref q6, .ref q7, .ref q8, v9, v10, v11, v12, v13, v14, v15, v16])), (q1, .inl (c1, 16, .inl (fun _ => (0 : Int32)))), (q3, .inl (c3, 16, .inl (fun _ => (0 : Int32)))), (q4, .inl (c4, 16, .inl (fun _ => (0 : Int32)))), (q5, .inl (c5, 16, .inl (fun _ => (0 : Int32)))), (q6, .inl (c6, 16, .inl (fun _ => (0 : Int32)))), (q7, .inl (c7, 16, .inl (fun _ => (0 : Int32)))), (q8, .inl (c8, 16, .inl (fun _ => (0 : Int32))))] s.heap.size = A at hD ⊢
  have hA : ∀ q : Nat, s.heap.size ≤ q → A q := fun q h => by rw [← hAe]; exact Or.inr h
  have hS : va_S A s.heap s.heap [] := va_S.rf
  have hP : va_P (dC, dI) vwCl [(h0, .inr (8, [.int th, .ref q1, v2, .ref q3, .ref q4, .ref q5, .ref q6, .ref q7, .ref q8, v9, v10, v11, v12, v13, v14, v15, v16])), (q1, .inl (c1, 16, .inl (fun _ => (0 : Int32)))), (q3, .inl (c3, 16, .inl (fun _ => (0 : Int32)))), (q4, .inl (c4, 16, .inl (fun _ => (0 : Int32)))), (q5, .inl (c5, 16, .inl (fun _ => (0 : Int32)))), (q6, .inl (c6, 16, .inl (fun _ => (0 : Int32)))), (q7, .inl (c7, 16, .inl (fun _ => (0 : Int32)))), (q8, .inl (c8, 16, .inl (fun _ => (0 : Int32))))] s.heap := hP
  have hl := lv_entry ([.ref h0, .int p0, .int p1, .int p2, .int p3]) (n := 6) (Nat.le_of_ble_eq_true rfl)
  rw [lg_entry_eq]
  generalize (lg_sl ([.ref h0, .int p0, .int p1, .int p2, .int p3]) ++ List.replicate (6 - (lg_sl ([.ref h0, .int p0, .int p1, .int p2, .int p3])).length) Slot.unset).toArray = ls at hl ⊢
  have hl : lv_has ls 6 [(0, .ref h0), (1, .int p0), (2, .int p1), (3, .int p2), (4, .int p3)] := hl
  refine lv_aload_n hx hb dX8_view_0 rfl (lv_at hl 0 rfl) ?_
  refine lv_iload_n hx hb dX8_view_1 rfl (lv_at hl 1 rfl) ?_
  have hPc := hP.sub (ws' := [(h0, .inr (8, [.int th, .ref q1, v2, .ref q3, .ref q4, .ref q5, .ref q6, .ref q7, .ref q8, v9, v10, v11, v12, v13, v14, v15, v16])), (q1, .inl (c1, 16, .inl (fun _ => (0 : Int32))))]) [0, 1] rfl
  have hDc := hD.sub (ws' := [(h0, .inr (8, [.int th, .ref q1, v2, .ref q3, .ref q4, .ref q5, .ref q6, .ref q7, .ref q8, v9, v10, v11, v12, v13, v14, v15, v16])), (q1, .inl (c1, 16, .inl (fun _ => (0 : Int32))))]) [0, 1] (by decide) rfl
  have hKc := hK.sub (tys' := [(c1, .int)]) [0] rfl
  have hFc := va_free (wc := [(h0, .inr (8, [.int th, .ref q1, v2, .ref q3, .ref q4, .ref q5, .ref q6, .ref q7, .ref q8, v9, v10, v11, v12, v13, v14, v15, v16])), (q1, .inl (c1, 16, .inl (fun _ => (0 : Int32))))]) hD hS hA [0, 1] rfl
  refine va_calli (va_runV (As := [.int p0]) (rest := []) ⟨hx, hb, hml, hown, hts⟩ (c_X8_isThere l  dC dI s.heap.size h0 q1 c1 th v2 (.ref q3) (.ref q4) (.ref q5) (.ref q6) (.ref q7) (.ref q8) v9 v10 v11 v12 v13 v14 v15 v16 p0) (cwV 1 hts gP_X8_view_isThere rfl rfl rfl (by decide +kernel) ⟨(Nat.le_of_ble_eq_true rfl), (Nat.le_of_ble_eq_true rfl)⟩) ⟨pk_blind, va_recv hKc hPc (ci := 8) (q0 := 0) rfl rfl, pk_call hPc hKc hDc⟩ rfl rfl hl.1 rfl (lv_room (Nat.le_of_ble_eq_true rfl)) dX8_view_2 ⟨(Nat.le_of_ble_eq_true rfl), (Nat.le_of_ble_eq_true rfl)⟩) hS (fun q _ h => hFc q h) hFc (fun r_1 ur_1 t H1 locs ht hvm hw hB hz1 hk1 hS => ?_)
  try dsimp only at hw
  obtain ⟨hP1, hK1, hD1⟩ := hB
  rw [ht] at hP1
  have hK1 := va_K.moved hvm.symm hK1
  obtain ⟨hP, hD⟩ := va_join (wr := [(q3, .inl (c3, 16, .inl (fun _ => (0 : Int32)))), (q4, .inl (c4, 16, .inl (fun _ => (0 : Int32)))), (q5, .inl (c5, 16, .inl (fun _ => (0 : Int32)))), (q6, .inl (c6, 16, .inl (fun _ => (0 : Int32)))), (q7, .inl (c7, 16, .inl (fun _ => (0 : Int32)))), (q8, .inl (c8, 16, .inl (fun _ => (0 : Int32))))]) (w1 := [(h0, .inr (8, [.int th, .ref q1, v2, .ref q3, .ref q4, .ref q5, .ref q6, .ref q7, .ref q8, v9, v10, v11, v12, v13, v14, v15, v16])), (q1, .inl (c1, 16, .inl (fun _ => (0 : Int32))))]) hP hD [0, 1] [2, 3, 4, 5, 6, 7] rfl rfl (by decide) (by decide) hk1 hFc hP1 hD1
  clear hk1 hz1 ht hPc hDc hKc
  generalize H1 = H at hP hS ⊢
  have hP : va_P (dC, dI) vwCl [(q3, .inl (c3, 16, .inl (fun _ => (0 : Int32)))), (q4, .inl (c4, 16, .inl (fun _ => (0 : Int32)))), (q5, .inl (c5, 16, .inl (fun _ => (0 : Int32)))), (q6, .inl (c6, 16, .inl (fun _ => (0 : Int32)))), (q7, .inl (c7, 16, .inl (fun _ => (0 : Int32)))), (q8, .inl (c8, 16, .inl (fun _ => (0 : Int32)))), (h0, .inr (8, [.int th, .ref q1, v2, .ref q3, .ref q4, .ref q5, .ref q6, .ref q7, .ref q8, v9, v10, v11, v12, v13, v14, v15, v16])), (q1, .inl (c1, 16, .inl (fun _ => (0 : Int32))))] H := hP
  have hD : va_D A [(q3, .inl (c3, 16, .inl (fun _ => (0 : Int32)))), (q4, .inl (c4, 16, .inl (fun _ => (0 : Int32)))), (q5, .inl (c5, 16, .inl (fun _ => (0 : Int32)))), (q6, .inl (c6, 16, .inl (fun _ => (0 : Int32)))), (q7, .inl (c7, 16, .inl (fun _ => (0 : Int32)))), (q8, .inl (c8, 16, .inl (fun _ => (0 : Int32)))), (h0, .inr (8, [.int th, .ref q1, v2, .ref q3, .ref q4, .ref q5, .ref q6, .ref q7, .ref q8, v9, v10, v11, v12, v13, v14, v15, v16])), (q1, .inl (c1, 16, .inl (fun _ => (0 : Int32))))] := hD
  refine W.widen (k := 0) (n := 0) (Nat.le_of_ble_eq_true rfl) (Nat.le_of_ble_eq_true rfl) ?_
  obtain rfl : r_1 = 0 := hw
  refine W.eq (g2 := F0 m 5 ls [.int 0]) rfl ?_
  refine lv_if_ne (tgt := 14) hx hb dX8_view_5 (by decide) (fun c_2 => absurd c_2 (by decide)) (fun c_2 => ?_)
  refine lv_aload_n hx hb dX8_view_8 rfl (lv_at hl 0 rfl) ?_
  refine lv_iconst (v := 1) hx hb dX8_view_9 (by decide) ?_
  have hPc := hP.sub (ws' := [(h0, .inr (8, [.int th, .ref q1, v2, .ref q3, .ref q4, .ref q5, .ref q6, .ref q7, .ref q8, v9, v10, v11, v12, v13, v14, v15, v16]))]) [6] rfl
  have hDc := hD.sub (ws' := [(h0, .inr (8, [.int th, .ref q1, v2, .ref q3, .ref q4, .ref q5, .ref q6, .ref q7, .ref q8, v9, v10, v11, v12, v13, v14, v15, v16]))]) [6] (by decide) rfl
  have hKc := hK.sub (tys' := []) [] rfl
  have hFc := va_free (wc := [(h0, .inr (8, [.int th, .ref q1, v2, .ref q3, .ref q4, .ref q5, .ref q6, .ref q7, .ref q8, v9, v10, v11, v12, v13, v14, v15, v16]))]) hD hS hA [6] rfl
  refine va_calli (va_runV (As := [.int 1]) (rest := []) ⟨hx, hb, hml, hown, hts⟩ (c_X8_refuse l  dC dI H.size h0 th 1 (.ref q1) v2 (.ref q3) (.ref q4) (.ref q5) (.ref q6) (.ref q7) (.ref q8) v9 v10 v11 v12 v13 v14 v15 v16) (cwV 1 hts gP_X8_view_refuse rfl rfl rfl (by decide +kernel) ⟨(Nat.le_of_ble_eq_true rfl), (Nat.le_of_ble_eq_true rfl)⟩) ⟨pk_blind, va_recv hKc hPc (ci := 8) (q0 := 0) rfl rfl, pk_call hPc hKc hDc⟩ rfl rfl hl.1 rfl (lv_room (Nat.le_of_ble_eq_true rfl)) dX8_view_10 ⟨(Nat.le_of_ble_eq_true rfl), (Nat.le_of_ble_eq_true rfl)⟩) hS (fun q _ h => hFc q h) hFc (fun r_3 ur_3 t H1 locs ht hvm hw hB hz1 hk1 hS => ?_)
  try dsimp only at hw
  have jr_3 := hw
  obtain ⟨hP1, hK1, hD1⟩ := hB
  rw [ht] at hP1
  have hK1 := va_K.moved hvm.symm hK1
  obtain ⟨hP, hD⟩ := va_join (wr := [(q3, .inl (c3, 16, .inl (fun _ => (0 : Int32)))), (q4, .inl (c4, 16, .inl (fun _ => (0 : Int32)))), (q5, .inl (c5, 16, .inl (fun _ => (0 : Int32)))), (q6, .inl (c6, 16, .inl (fun _ => (0 : Int32)))), (q7, .inl (c7, 16, .inl (fun _ => (0 : Int32)))), (q8, .inl (c8, 16, .inl (fun _ => (0 : Int32)))), (q1, .inl (c1, 16, .inl (fun _ => (0 : Int32))))]) (w1 := [(h0, .inr (8, [.int 1, .ref q1, v2, .ref q3, .ref q4, .ref q5, .ref q6, .ref q7, .ref q8, v9, v10, v11, v12, v13, v14, v15, v16]))]) hP hD [6] [0, 1, 2, 3, 4, 5, 7] rfl rfl (by decide) (by decide) hk1 hFc hP1 hD1
  clear hk1 hz1 ht hPc hDc hKc
  generalize H1 = H at hP hS ⊢
  have hP : va_P (dC, dI) vwCl [(q3, .inl (c3, 16, .inl (fun _ => (0 : Int32)))), (q4, .inl (c4, 16, .inl (fun _ => (0 : Int32)))), (q5, .inl (c5, 16, .inl (fun _ => (0 : Int32)))), (q6, .inl (c6, 16, .inl (fun _ => (0 : Int32)))), (q7, .inl (c7, 16, .inl (fun _ => (0 : Int32)))), (q8, .inl (c8, 16, .inl (fun _ => (0 : Int32)))), (q1, .inl (c1, 16, .inl (fun _ => (0 : Int32)))), (h0, .inr (8, [.int 1, .ref q1, v2, .ref q3, .ref q4, .ref q5, .ref q6, .ref q7, .ref q8, v9, v10, v11, v12, v13, v14, v15, v16]))] H := hP
  have hD : va_D A [(q3, .inl (c3, 16, .inl (fun _ => (0 : Int32)))), (q4, .inl (c4, 16, .inl (fun _ => (0 : Int32)))), (q5, .inl (c5, 16, .inl (fun _ => (0 : Int32)))), (q6, .inl (c6, 16, .inl (fun _ => (0 : Int32)))), (q7, .inl (c7, 16, .inl (fun _ => (0 : Int32)))), (q8, .inl (c8, 16, .inl (fun _ => (0 : Int32)))), (q1, .inl (c1, 16, .inl (fun _ => (0 : Int32)))), (h0, .inr (8, [.int 1, .ref q1, v2, .ref q3, .ref q4, .ref q5, .ref q6, .ref q7, .ref q8, v9, v10, v11, v12, v13, v14, v15, v16]))] := hD
  refine W.widen (k := 0) (n := 0) (Nat.le_of_ble_eq_true rfl) (Nat.le_of_ble_eq_true rfl) ?_
  refine W.eq (g2 := F0 m 13 ls [.int r_3]) rfl ?_
  have hP9 := hP.sub (ws' := [(h0, .inr (8, [.int 1, .ref q1, v2, .ref q3, .ref q4, .ref q5, .ref q6, .ref q7, .ref q8, v9, v10, v11, v12, v13, v14, v15, v16]))]) [7] rfl
  have hD9 := hD.sub (ws' := [(h0, .inr (8, [.int 1, .ref q1, v2, .ref q3, .ref q4, .ref q5, .ref q6, .ref q7, .ref q8, v9, v10, v11, v12, v13, v14, v15, v16]))]) [7] (by decide) rfl
  have hK9 := hK.sub (tys' := []) [] rfl
  refine W.widen (k := 0) (n := 0) (Nat.le_of_ble_eq_true rfl) (Nat.le_of_ble_eq_true rfl) ?_
  exact W.iret (v := r_3) hx hb hr (fun t ht hW => ⟨⟨r_3, (), rfl, trivial, by rw [ht]; exact hP9, va_K.moved hW.alike hK9, hD9⟩, hS.F ht⟩) hS.2.2 dX8_view_13
set_option maxHeartbeats 4000000 in
set_option maxRecDepth 100000 in
/-- cursor of the reference, fresh: refused -/
theorem c_X8_cursor (l : Launch) (dC : Nat → ClassId) (dI : Nat → Nat → Nat) (sz : Nat) (h0 : Nat) (th : Int32) (q1 : Nat) (q3 : Nat) (q4 : Nat) (q5 : Nat) (q6 : Nat) (q7 : Nat) (q8 : Nat) (c1 : ClassId) (c3 : ClassId) (c4 : ClassId) (c5 : ClassId) (c6 : ClassId) (c7 : ClassId) (c8 : ClassId) (v2 : Value) (v9 : Value) (v10 : Value) (v11 : Value) (v12 : Value) (v13 : Value) (v14 : Value) (v15 : Value) (v16 : Value) (p0 : Int32) : Met l yX8_cursor wsP_X8_cursor ({ frames := 2, cells := 0, slots := 0, locals := 60 }) (va_Pc [.ref h0, .int p0] (pk_Pre (dC, dI) [(h0, .inr (8, [.int th, .ref q1, v2, .ref q3, .ref q4, .ref q5, .ref q6, .ref q7, .ref q8, v9, v10, v11, v12, v13, v14, v15, v16])), (q1, .inl (c1, 16, .inl (fun _ => (0 : Int32)))), (q3, .inl (c3, 16, .inl (fun _ => (0 : Int32)))), (q4, .inl (c4, 16, .inl (fun _ => (0 : Int32)))), (q5, .inl (c5, 16, .inl (fun _ => (0 : Int32)))), (q6, .inl (c6, 16, .inl (fun _ => (0 : Int32)))), (q7, .inl (c7, 16, .inl (fun _ => (0 : Int32)))), (q8, .inl (c8, 16, .inl (fun _ => (0 : Int32))))] [(c1, .int), (c3, .int), (c4, .int), (c5, .int), (c6, .int), (c7, .int), (c8, .int)] sz)) (va_Qi (fun (r : Int32) (_ : Unit) => True) (fun (_ : Unit) (t : State) => va_P (dC, dI) vwCl [(h0, .inr (8, [.int 1, .ref q1, v2, .ref q3, .ref q4, .ref q5, .ref q6, .ref q7, .ref q8, v9, v10, v11, v12, v13, v14, v15, v16]))] t.heap ∧ va_K (dC, dI) vwCl [] t ∧ va_D (va_A [(h0, .inr (8, [.int th, .ref q1, v2, .ref q3, .ref q4, .ref q5, .ref q6, .ref q7, .ref q8, v9, v10, v11, v12, v13, v14, v15, v16])), (q1, .inl (c1, 16, .inl (fun _ => (0 : Int32)))), (q3, .inl (c3, 16, .inl (fun _ => (0 : Int32)))), (q4, .inl (c4, 16, .inl (fun _ => (0 : Int32)))), (q5, .inl (c5, 16, .inl (fun _ => (0 : Int32)))), (q6, .inl (c6, 16, .inl (fun _ => (0 : Int32)))), (q7, .inl (c7, 16, .inl (fun _ => (0 : Int32)))), (q8, .inl (c8, 16, .inl (fun _ => (0 : Int32))))] sz) [(h0, .inr (8, [.int 1, .ref q1, v2, .ref q3, .ref q4, .ref q5, .ref q6, .ref q7, .ref q8, v9, v10, v11, v12, v13, v14, v15, v16]))]) (va_A [(h0, .inr (8, [.int th, .ref q1, v2, .ref q3, .ref q4, .ref q5, .ref q6, .ref q7, .ref q8, v9, v10, v11, v12, v13, v14, v15, v16])), (q1, .inl (c1, 16, .inl (fun _ => (0 : Int32)))), (q3, .inl (c3, 16, .inl (fun _ => (0 : Int32)))), (q4, .inl (c4, 16, .inl (fun _ => (0 : Int32)))), (q5, .inl (c5, 16, .inl (fun _ => (0 : Int32)))), (q6, .inl (c6, 16, .inl (fun _ => (0 : Int32)))), (q7, .inl (c7, 16, .inl (fun _ => (0 : Int32)))), (q8, .inl (c8, 16, .inl (fun _ => (0 : Int32))))] sz)) 0 0 (va_A [(h0, .inr (8, [.int th, .ref q1, v2, .ref q3, .ref q4, .ref q5, .ref q6, .ref q7, .ref q8, v9, v10, v11, v12, v13, v14, v15, v16])), (q1, .inl (c1, 16, .inl (fun _ => (0 : Int32)))), (q3, .inl (c3, 16, .inl (fun _ => (0 : Int32)))), (q4, .inl (c4, 16, .inl (fun _ => (0 : Int32)))), (q5, .inl (c5, 16, .inl (fun _ => (0 : Int32)))), (q6, .inl (c6, 16, .inl (fun _ => (0 : Int32)))), (q7, .inl (c7, 16, .inl (fun _ => (0 : Int32)))), (q8, .inl (c8, 16, .inl (fun _ => (0 : Int32))))] sz) := by
  refine Met.ofW (cc := cX8_cursor) (maxL := 3) (ret := (some .int)) (by decide) rfl ?_
  intro p e s m args below meth c s₁ B hml hv
  obtain ⟨rfl, hsz, hP, hK, hD0⟩ := hv
  have hx := B.exec
  have hb := B.bytes
  have hr := B.returns
  have hts := atoms_spec (ws := wsP_X8_cursor) B.pre
  have hown : s.vm.findClass RX8 = some m.cls := findClass_of_methodNamed B.named
  have hlocks := B.notSynchronized
  subst hsz
  have hD := hD0.self (sz := s.heap.size)
  generalize hAe : va_A [(h0, .inr (8, [.int th, .ref q1, v2, .ref q3, .ref q4, .ref q5, .ref q6, .ref q7, .ref q8, v9, v10, v11, v12, v13, v14, v15, v16])), (q1, .inl (c1, 16, .inl (fun _ => (0 : Int32)))), (q3, .inl (c3, 16, .inl (fun _ => (0 : Int32)))), (q4, .inl (c4, 16, .inl (fun _ => (0 : Int32)))), (q5, .inl (c5, 16, .inl (fun _ => (0 : Int32)))), (q6, .inl (c6, 16, .inl (fun _ => (0 : Int32)))), (q7, .inl (c7, 16, .inl (fun _ => (0 : Int32)))), (q8, .inl (c8, 16, .inl (fun _ => (0 : Int32))))] s.heap.size = A at hD ⊢
  have hA : ∀ q : Nat, s.heap.size ≤ q → A q := fun q h => by rw [← hAe]; exact Or.inr h
  have hS : va_S A s.heap s.heap [] := va_S.rf
  have hP : va_P (dC, dI) vwCl [(h0, .inr (8, [.int th, .ref q1, v2, .ref q3, .ref q4, .ref q5, .ref q6, .ref q7, .ref q8, v9, v10, v11, v12, v13, v14, v15, v16])), (q1, .inl (c1, 16, .inl (fun _ => (0 : Int32)))), (q3, .inl (c3, 16, .inl (fun _ => (0 : Int32)))), (q4, .inl (c4, 16, .inl (fun _ => (0 : Int32)))), (q5, .inl (c5, 16, .inl (fun _ => (0 : Int32)))), (q6, .inl (c6, 16, .inl (fun _ => (0 : Int32)))), (q7, .inl (c7, 16, .inl (fun _ => (0 : Int32)))), (q8, .inl (c8, 16, .inl (fun _ => (0 : Int32))))] s.heap := hP
  have hl := lv_entry ([.ref h0, .int p0]) (n := 3) (Nat.le_of_ble_eq_true rfl)
  rw [lg_entry_eq]
  generalize (lg_sl ([.ref h0, .int p0]) ++ List.replicate (3 - (lg_sl ([.ref h0, .int p0])).length) Slot.unset).toArray = ls at hl ⊢
  have hl : lv_has ls 3 [(0, .ref h0), (1, .int p0)] := hl
  refine lv_aload_n hx hb dX8_cursor_0 rfl (lv_at hl 0 rfl) ?_
  refine lv_iload_n hx hb dX8_cursor_1 rfl (lv_at hl 1 rfl) ?_
  have hPc := hP.sub (ws' := [(h0, .inr (8, [.int th, .ref q1, v2, .ref q3, .ref q4, .ref q5, .ref q6, .ref q7, .ref q8, v9, v10, v11, v12, v13, v14, v15, v16])), (q1, .inl (c1, 16, .inl (fun _ => (0 : Int32))))]) [0, 1] rfl
  have hDc := hD.sub (ws' := [(h0, .inr (8, [.int th, .ref q1, v2, .ref q3, .ref q4, .ref q5, .ref q6, .ref q7, .ref q8, v9, v10, v11, v12, v13, v14, v15, v16])), (q1, .inl (c1, 16, .inl (fun _ => (0 : Int32))))]) [0, 1] (by decide) rfl
  have hKc := hK.sub (tys' := [(c1, .int)]) [0] rfl
  have hFc := va_free (wc := [(h0, .inr (8, [.int th, .ref q1, v2, .ref q3, .ref q4, .ref q5, .ref q6, .ref q7, .ref q8, v9, v10, v11, v12, v13, v14, v15, v16])), (q1, .inl (c1, 16, .inl (fun _ => (0 : Int32))))]) hD hS hA [0, 1] rfl
  refine va_calli (va_runV (As := [.int p0]) (rest := []) ⟨hx, hb, hml, hown, hts⟩ (c_X8_isThere l  dC dI s.heap.size h0 q1 c1 th v2 (.ref q3) (.ref q4) (.ref q5) (.ref q6) (.ref q7) (.ref q8) v9 v10 v11 v12 v13 v14 v15 v16 p0) (cwV 1 hts gP_X8_cursor_isThere rfl rfl rfl (by decide +kernel) ⟨(Nat.le_of_ble_eq_true rfl), (Nat.le_of_ble_eq_true rfl)⟩) ⟨pk_blind, va_recv hKc hPc (ci := 8) (q0 := 0) rfl rfl, pk_call hPc hKc hDc⟩ rfl rfl hl.1 rfl (lv_room (Nat.le_of_ble_eq_true rfl)) dX8_cursor_2 ⟨(Nat.le_of_ble_eq_true rfl), (Nat.le_of_ble_eq_true rfl)⟩) hS (fun q _ h => hFc q h) hFc (fun r_1 ur_1 t H1 locs ht hvm hw hB hz1 hk1 hS => ?_)
  try dsimp only at hw
  obtain ⟨hP1, hK1, hD1⟩ := hB
  rw [ht] at hP1
  have hK1 := va_K.moved hvm.symm hK1
  obtain ⟨hP, hD⟩ := va_join (wr := [(q3, .inl (c3, 16, .inl (fun _ => (0 : Int32)))), (q4, .inl (c4, 16, .inl (fun _ => (0 : Int32)))), (q5, .inl (c5, 16, .inl (fun _ => (0 : Int32)))), (q6, .inl (c6, 16, .inl (fun _ => (0 : Int32)))), (q7, .inl (c7, 16, .inl (fun _ => (0 : Int32)))), (q8, .inl (c8, 16, .inl (fun _ => (0 : Int32))))]) (w1 := [(h0, .inr (8, [.int th, .ref q1, v2, .ref q3, .ref q4, .ref q5, .ref q6, .ref q7, .ref q8, v9, v10, v11, v12, v13, v14, v15, v16])), (q1, .inl (c1, 16, .inl (fun _ => (0 : Int32))))]) hP hD [0, 1] [2, 3, 4, 5, 6, 7] rfl rfl (by decide) (by decide) hk1 hFc hP1 hD1
  clear hk1 hz1 ht hPc hDc hKc
  generalize H1 = H at hP hS ⊢
  have hP : va_P (dC, dI) vwCl [(q3, .inl (c3, 16, .inl (fun _ => (0 : Int32)))), (q4, .inl (c4, 16, .inl (fun _ => (0 : Int32)))), (q5, .inl (c5, 16, .inl (fun _ => (0 : Int32)))), (q6, .inl (c6, 16, .inl (fun _ => (0 : Int32)))), (q7, .inl (c7, 16, .inl (fun _ => (0 : Int32)))), (q8, .inl (c8, 16, .inl (fun _ => (0 : Int32)))), (h0, .inr (8, [.int th, .ref q1, v2, .ref q3, .ref q4, .ref q5, .ref q6, .ref q7, .ref q8, v9, v10, v11, v12, v13, v14, v15, v16])), (q1, .inl (c1, 16, .inl (fun _ => (0 : Int32))))] H := hP
  have hD : va_D A [(q3, .inl (c3, 16, .inl (fun _ => (0 : Int32)))), (q4, .inl (c4, 16, .inl (fun _ => (0 : Int32)))), (q5, .inl (c5, 16, .inl (fun _ => (0 : Int32)))), (q6, .inl (c6, 16, .inl (fun _ => (0 : Int32)))), (q7, .inl (c7, 16, .inl (fun _ => (0 : Int32)))), (q8, .inl (c8, 16, .inl (fun _ => (0 : Int32)))), (h0, .inr (8, [.int th, .ref q1, v2, .ref q3, .ref q4, .ref q5, .ref q6, .ref q7, .ref q8, v9, v10, v11, v12, v13, v14, v15, v16])), (q1, .inl (c1, 16, .inl (fun _ => (0 : Int32))))] := hD
  refine W.widen (k := 0) (n := 0) (Nat.le_of_ble_eq_true rfl) (Nat.le_of_ble_eq_true rfl) ?_
  obtain rfl : r_1 = 0 := hw
  refine W.eq (g2 := F0 m 5 ls [.int 0]) rfl ?_
  refine lv_if_ne (tgt := 14) hx hb dX8_cursor_5 (by decide) (fun c_2 => absurd c_2 (by decide)) (fun c_2 => ?_)
  refine lv_aload_n hx hb dX8_cursor_8 rfl (lv_at hl 0 rfl) ?_
  refine lv_iconst (v := 1) hx hb dX8_cursor_9 (by decide) ?_
  have hPc := hP.sub (ws' := [(h0, .inr (8, [.int th, .ref q1, v2, .ref q3, .ref q4, .ref q5, .ref q6, .ref q7, .ref q8, v9, v10, v11, v12, v13, v14, v15, v16]))]) [6] rfl
  have hDc := hD.sub (ws' := [(h0, .inr (8, [.int th, .ref q1, v2, .ref q3, .ref q4, .ref q5, .ref q6, .ref q7, .ref q8, v9, v10, v11, v12, v13, v14, v15, v16]))]) [6] (by decide) rfl
  have hKc := hK.sub (tys' := []) [] rfl
  have hFc := va_free (wc := [(h0, .inr (8, [.int th, .ref q1, v2, .ref q3, .ref q4, .ref q5, .ref q6, .ref q7, .ref q8, v9, v10, v11, v12, v13, v14, v15, v16]))]) hD hS hA [6] rfl
  refine va_calli (va_runV (As := [.int 1]) (rest := []) ⟨hx, hb, hml, hown, hts⟩ (c_X8_refuse l  dC dI H.size h0 th 1 (.ref q1) v2 (.ref q3) (.ref q4) (.ref q5) (.ref q6) (.ref q7) (.ref q8) v9 v10 v11 v12 v13 v14 v15 v16) (cwV 1 hts gP_X8_cursor_refuse rfl rfl rfl (by decide +kernel) ⟨(Nat.le_of_ble_eq_true rfl), (Nat.le_of_ble_eq_true rfl)⟩) ⟨pk_blind, va_recv hKc hPc (ci := 8) (q0 := 0) rfl rfl, pk_call hPc hKc hDc⟩ rfl rfl hl.1 rfl (lv_room (Nat.le_of_ble_eq_true rfl)) dX8_cursor_10 ⟨(Nat.le_of_ble_eq_true rfl), (Nat.le_of_ble_eq_true rfl)⟩) hS (fun q _ h => hFc q h) hFc (fun r_3 ur_3 t H1 locs ht hvm hw hB hz1 hk1 hS => ?_)
  try dsimp only at hw
  have jr_3 := hw
  obtain ⟨hP1, hK1, hD1⟩ := hB
  rw [ht] at hP1
  have hK1 := va_K.moved hvm.symm hK1
  obtain ⟨hP, hD⟩ := va_join (wr := [(q3, .inl (c3, 16, .inl (fun _ => (0 : Int32)))), (q4, .inl (c4, 16, .inl (fun _ => (0 : Int32)))), (q5, .inl (c5, 16, .inl (fun _ => (0 : Int32)))), (q6, .inl (c6, 16, .inl (fun _ => (0 : Int32)))), (q7, .inl (c7, 16, .inl (fun _ => (0 : Int32)))), (q8, .inl (c8, 16, .inl (fun _ => (0 : Int32)))), (q1, .inl (c1, 16, .inl (fun _ => (0 : Int32))))]) (w1 := [(h0, .inr (8, [.int 1, .ref q1, v2, .ref q3, .ref q4, .ref q5, .ref q6, .ref q7, .ref q8, v9, v10, v11, v12, v13, v14, v15, v16]))]) hP hD [6] [0, 1, 2, 3, 4, 5, 7] rfl rfl (by decide) (by decide) hk1 hFc hP1 hD1
  clear hk1 hz1 ht hPc hDc hKc
  generalize H1 = H at hP hS ⊢
  have hP : va_P (dC, dI) vwCl [(q3, .inl (c3, 16, .inl (fun _ => (0 : Int32)))), (q4, .inl (c4, 16, .inl (fun _ => (0 : Int32)))), (q5, .inl (c5, 16, .inl (fun _ => (0 : Int32)))), (q6, .inl (c6, 16, .inl (fun _ => (0 : Int32)))), (q7, .inl (c7, 16, .inl (fun _ => (0 : Int32)))), (q8, .inl (c8, 16, .inl (fun _ => (0 : Int32)))), (q1, .inl (c1, 16, .inl (fun _ => (0 : Int32)))), (h0, .inr (8, [.int 1, .ref q1, v2, .ref q3, .ref q4, .ref q5, .ref q6, .ref q7, .ref q8, v9, v10, v11, v12, v13, v14, v15, v16]))] H := hP
  have hD : va_D A [(q3, .inl (c3, 16, .inl (fun _ => (0 : Int32)))), (q4, .inl (c4, 16, .inl (fun _ => (0 : Int32)))), (q5, .inl (c5, 16, .inl (fun _ => (0 : Int32)))), (q6, .inl (c6, 16, .inl (fun _ => (0 : Int32)))), (q7, .inl (c7, 16, .inl (fun _ => (0 : Int32)))), (q8, .inl (c8, 16, .inl (fun _ => (0 : Int32)))), (q1, .inl (c1, 16, .inl (fun _ => (0 : Int32)))), (h0, .inr (8, [.int 1, .ref q1, v2, .ref q3, .ref q4, .ref q5, .ref q6, .ref q7, .ref q8, v9, v10, v11, v12, v13, v14, v15, v16]))] := hD
  refine W.widen (k := 0) (n := 0) (Nat.le_of_ble_eq_true rfl) (Nat.le_of_ble_eq_true rfl) ?_
  refine W.eq (g2 := F0 m 13 ls [.int r_3]) rfl ?_
  have hP9 := hP.sub (ws' := [(h0, .inr (8, [.int 1, .ref q1, v2, .ref q3, .ref q4, .ref q5, .ref q6, .ref q7, .ref q8, v9, v10, v11, v12, v13, v14, v15, v16]))]) [7] rfl
  have hD9 := hD.sub (ws' := [(h0, .inr (8, [.int 1, .ref q1, v2, .ref q3, .ref q4, .ref q5, .ref q6, .ref q7, .ref q8, v9, v10, v11, v12, v13, v14, v15, v16]))]) [7] (by decide) rfl
  have hK9 := hK.sub (tys' := []) [] rfl
  refine W.widen (k := 0) (n := 0) (Nat.le_of_ble_eq_true rfl) (Nat.le_of_ble_eq_true rfl) ?_
  exact W.iret (v := r_3) hx hb hr (fun t ht hW => ⟨⟨r_3, (), rfl, trivial, by rw [ht]; exact hP9, va_K.moved hW.alike hK9, hD9⟩, hS.F ht⟩) hS.2.2 dX8_cursor_13
set_option maxHeartbeats 4000000 in
set_option maxRecDepth 100000 in
/-- move of the reference, fresh: refused -/
theorem c_X8_move (l : Launch) (dC : Nat → ClassId) (dI : Nat → Nat → Nat) (sz : Nat) (h0 : Nat) (th : Int32) (q1 : Nat) (q3 : Nat) (q4 : Nat) (q5 : Nat) (q6 : Nat) (q7 : Nat) (q8 : Nat) (c1 : ClassId) (c3 : ClassId) (c4 : ClassId) (c5 : ClassId) (c6 : ClassId) (c7 : ClassId) (c8 : ClassId) (v2 : Value) (v9 : Value) (v10 : Value) (v11 : Value) (v12 : Value) (v13 : Value) (v14 : Value) (v15 : Value) (v16 : Value) (p0 : Int32) (p1 : Int32) (p2 : Int32) : Met l yX8_move wsP_X8_move ({ frames := 2, cells := 0, slots := 0, locals := 60 }) (va_Pc [.ref h0, .int p0, .int p1, .int p2] (pk_Pre (dC, dI) [(h0, .inr (8, [.int th, .ref q1, v2, .ref q3, .ref q4, .ref q5, .ref q6, .ref q7, .ref q8, v9, v10, v11, v12, v13, v14, v15, v16])), (q1, .inl (c1, 16, .inl (fun _ => (0 : Int32)))), (q3, .inl (c3, 16, .inl (fun _ => (0 : Int32)))), (q4, .inl (c4, 16, .inl (fun _ => (0 : Int32)))), (q5, .inl (c5, 16, .inl (fun _ => (0 : Int32)))), (q6, .inl (c6, 16, .inl (fun _ => (0 : Int32)))), (q7, .inl (c7, 16, .inl (fun _ => (0 : Int32)))), (q8, .inl (c8, 16, .inl (fun _ => (0 : Int32))))] [(c1, .int), (c3, .int), (c4, .int), (c5, .int), (c6, .int), (c7, .int), (c8, .int)] sz)) (va_Ql (fun (r : Int64) (_ : Unit) => True) (fun (_ : Unit) (t : State) => va_P (dC, dI) vwCl [(h0, .inr (8, [.int 1, .ref q1, v2, .ref q3, .ref q4, .ref q5, .ref q6, .ref q7, .ref q8, v9, v10, v11, v12, v13, v14, v15, v16]))] t.heap ∧ va_K (dC, dI) vwCl [] t ∧ va_D (va_A [(h0, .inr (8, [.int th, .ref q1, v2, .ref q3, .ref q4, .ref q5, .ref q6, .ref q7, .ref q8, v9, v10, v11, v12, v13, v14, v15, v16])), (q1, .inl (c1, 16, .inl (fun _ => (0 : Int32)))), (q3, .inl (c3, 16, .inl (fun _ => (0 : Int32)))), (q4, .inl (c4, 16, .inl (fun _ => (0 : Int32)))), (q5, .inl (c5, 16, .inl (fun _ => (0 : Int32)))), (q6, .inl (c6, 16, .inl (fun _ => (0 : Int32)))), (q7, .inl (c7, 16, .inl (fun _ => (0 : Int32)))), (q8, .inl (c8, 16, .inl (fun _ => (0 : Int32))))] sz) [(h0, .inr (8, [.int 1, .ref q1, v2, .ref q3, .ref q4, .ref q5, .ref q6, .ref q7, .ref q8, v9, v10, v11, v12, v13, v14, v15, v16]))]) (va_A [(h0, .inr (8, [.int th, .ref q1, v2, .ref q3, .ref q4, .ref q5, .ref q6, .ref q7, .ref q8, v9, v10, v11, v12, v13, v14, v15, v16])), (q1, .inl (c1, 16, .inl (fun _ => (0 : Int32)))), (q3, .inl (c3, 16, .inl (fun _ => (0 : Int32)))), (q4, .inl (c4, 16, .inl (fun _ => (0 : Int32)))), (q5, .inl (c5, 16, .inl (fun _ => (0 : Int32)))), (q6, .inl (c6, 16, .inl (fun _ => (0 : Int32)))), (q7, .inl (c7, 16, .inl (fun _ => (0 : Int32)))), (q8, .inl (c8, 16, .inl (fun _ => (0 : Int32))))] sz)) 0 0 (va_A [(h0, .inr (8, [.int th, .ref q1, v2, .ref q3, .ref q4, .ref q5, .ref q6, .ref q7, .ref q8, v9, v10, v11, v12, v13, v14, v15, v16])), (q1, .inl (c1, 16, .inl (fun _ => (0 : Int32)))), (q3, .inl (c3, 16, .inl (fun _ => (0 : Int32)))), (q4, .inl (c4, 16, .inl (fun _ => (0 : Int32)))), (q5, .inl (c5, 16, .inl (fun _ => (0 : Int32)))), (q6, .inl (c6, 16, .inl (fun _ => (0 : Int32)))), (q7, .inl (c7, 16, .inl (fun _ => (0 : Int32)))), (q8, .inl (c8, 16, .inl (fun _ => (0 : Int32))))] sz) := by
  refine Met.ofW (cc := cX8_move) (maxL := 9) (ret := (some .long)) (by decide) rfl ?_
  intro p e s m args below meth c s₁ B hml hv
  obtain ⟨rfl, hsz, hP, hK, hD0⟩ := hv
  have hx := B.exec
  have hb := B.bytes
  have hr := B.returns
  have hts := atoms_spec (ws := wsP_X8_move) B.pre
  have hown : s.vm.findClass RX8 = some m.cls := findClass_of_methodNamed B.named
  have hlocks := B.notSynchronized
  subst hsz
  have hD := hD0.self (sz := s.heap.size)
  generalize hAe : va_A [(h0, .inr (8, [.int th, .ref q1, v2, .ref q3, .ref q4, .ref q5, .ref q6, .ref q7, .ref q8, v9, v10, v11, v12, v13, v14, v15, v16])), (q1, .inl (c1, 16, .inl (fun _ => (0 : Int32)))), (q3, .inl (c3, 16, .inl (fun _ => (0 : Int32)))), (q4, .inl (c4, 16, .inl (fun _ => (0 : Int32)))), (q5, .inl (c5, 16, .inl (fun _ => (0 : Int32)))), (q6, .inl (c6, 16, .inl (fun _ => (0 : Int32)))), (q7, .inl (c7, 16, .inl (fun _ => (0 : Int32)))), (q8, .inl (c8, 16, .inl (fun _ => (0 : Int32))))] s.heap.size = A at hD ⊢
  have hA : ∀ q : Nat, s.heap.size ≤ q → A q := fun q h => by rw [← hAe]; exact Or.inr h
  have hS : va_S A s.heap s.heap [] := va_S.rf
  have hP : va_P (dC, dI) vwCl [(h0, .inr (8, [.int th, .ref q1, v2, .ref q3, .ref q4, .ref q5, .ref q6, .ref q7, .ref q8, v9, v10, v11, v12, v13, v14, v15, v16])), (q1, .inl (c1, 16, .inl (fun _ => (0 : Int32)))), (q3, .inl (c3, 16, .inl (fun _ => (0 : Int32)))), (q4, .inl (c4, 16, .inl (fun _ => (0 : Int32)))), (q5, .inl (c5, 16, .inl (fun _ => (0 : Int32)))), (q6, .inl (c6, 16, .inl (fun _ => (0 : Int32)))), (q7, .inl (c7, 16, .inl (fun _ => (0 : Int32)))), (q8, .inl (c8, 16, .inl (fun _ => (0 : Int32))))] s.heap := hP
  have hl := lv_entry ([.ref h0, .int p0, .int p1, .int p2]) (n := 9) (Nat.le_of_ble_eq_true rfl)
  rw [lg_entry_eq]
  generalize (lg_sl ([.ref h0, .int p0, .int p1, .int p2]) ++ List.replicate (9 - (lg_sl ([.ref h0, .int p0, .int p1, .int p2])).length) Slot.unset).toArray = ls at hl ⊢
  have hl : lv_has ls 9 [(0, .ref h0), (1, .int p0), (2, .int p1), (3, .int p2)] := hl
  refine lv_aload_n hx hb dX8_move_0 rfl (lv_at hl 0 rfl) ?_
  refine lv_iload_n hx hb dX8_move_1 rfl (lv_at hl 1 rfl) ?_
  have hPc := hP.sub (ws' := [(h0, .inr (8, [.int th, .ref q1, v2, .ref q3, .ref q4, .ref q5, .ref q6, .ref q7, .ref q8, v9, v10, v11, v12, v13, v14, v15, v16])), (q1, .inl (c1, 16, .inl (fun _ => (0 : Int32))))]) [0, 1] rfl
  have hDc := hD.sub (ws' := [(h0, .inr (8, [.int th, .ref q1, v2, .ref q3, .ref q4, .ref q5, .ref q6, .ref q7, .ref q8, v9, v10, v11, v12, v13, v14, v15, v16])), (q1, .inl (c1, 16, .inl (fun _ => (0 : Int32))))]) [0, 1] (by decide) rfl
  have hKc := hK.sub (tys' := [(c1, .int)]) [0] rfl
  have hFc := va_free (wc := [(h0, .inr (8, [.int th, .ref q1, v2, .ref q3, .ref q4, .ref q5, .ref q6, .ref q7, .ref q8, v9, v10, v11, v12, v13, v14, v15, v16])), (q1, .inl (c1, 16, .inl (fun _ => (0 : Int32))))]) hD hS hA [0, 1] rfl
  refine va_calli (va_runV (As := [.int p0]) (rest := []) ⟨hx, hb, hml, hown, hts⟩ (c_X8_isThere l  dC dI s.heap.size h0 q1 c1 th v2 (.ref q3) (.ref q4) (.ref q5) (.ref q6) (.ref q7) (.ref q8) v9 v10 v11 v12 v13 v14 v15 v16 p0) (cwV 1 hts gP_X8_move_isThere rfl rfl rfl (by decide +kernel) ⟨(Nat.le_of_ble_eq_true rfl), (Nat.le_of_ble_eq_true rfl)⟩) ⟨pk_blind, va_recv hKc hPc (ci := 8) (q0 := 0) rfl rfl, pk_call hPc hKc hDc⟩ rfl rfl hl.1 rfl (lv_room (Nat.le_of_ble_eq_true rfl)) dX8_move_2 ⟨(Nat.le_of_ble_eq_true rfl), (Nat.le_of_ble_eq_true rfl)⟩) hS (fun q _ h => hFc q h) hFc (fun r_1 ur_1 t H1 locs ht hvm hw hB hz1 hk1 hS => ?_)
  try dsimp only at hw
  obtain ⟨hP1, hK1, hD1⟩ := hB
  rw [ht] at hP1
  have hK1 := va_K.moved hvm.symm hK1
  obtain ⟨hP, hD⟩ := va_join (wr := [(q3, .inl (c3, 16, .inl (fun _ => (0 : Int32)))), (q4, .inl (c4, 16, .inl (fun _ => (0 : Int32)))), (q5, .inl (c5, 16, .inl (fun _ => (0 : Int32)))), (q6, .inl (c6, 16, .inl (fun _ => (0 : Int32)))), (q7, .inl (c7, 16, .inl (fun _ => (0 : Int32)))), (q8, .inl (c8, 16, .inl (fun _ => (0 : Int32))))]) (w1 := [(h0, .inr (8, [.int th, .ref q1, v2, .ref q3, .ref q4, .ref q5, .ref q6, .ref q7, .ref q8, v9, v10, v11, v12, v13, v14, v15, v16])), (q1, .inl (c1, 16, .inl (fun _ => (0 : Int32))))]) hP hD [0, 1] [2, 3, 4, 5, 6, 7] rfl rfl (by decide) (by decide) hk1 hFc hP1 hD1
  clear hk1 hz1 ht hPc hDc hKc
  generalize H1 = H at hP hS ⊢
  have hP : va_P (dC, dI) vwCl [(q3, .inl (c3, 16, .inl (fun _ => (0 : Int32)))), (q4, .inl (c4, 16, .inl (fun _ => (0 : Int32)))), (q5, .inl (c5, 16, .inl (fun _ => (0 : Int32)))), (q6, .inl (c6, 16, .inl (fun _ => (0 : Int32)))), (q7, .inl (c7, 16, .inl (fun _ => (0 : Int32)))), (q8, .inl (c8, 16, .inl (fun _ => (0 : Int32)))), (h0, .inr (8, [.int th, .ref q1, v2, .ref q3, .ref q4, .ref q5, .ref q6, .ref q7, .ref q8, v9, v10, v11, v12, v13, v14, v15, v16])), (q1, .inl (c1, 16, .inl (fun _ => (0 : Int32))))] H := hP
  have hD : va_D A [(q3, .inl (c3, 16, .inl (fun _ => (0 : Int32)))), (q4, .inl (c4, 16, .inl (fun _ => (0 : Int32)))), (q5, .inl (c5, 16, .inl (fun _ => (0 : Int32)))), (q6, .inl (c6, 16, .inl (fun _ => (0 : Int32)))), (q7, .inl (c7, 16, .inl (fun _ => (0 : Int32)))), (q8, .inl (c8, 16, .inl (fun _ => (0 : Int32)))), (h0, .inr (8, [.int th, .ref q1, v2, .ref q3, .ref q4, .ref q5, .ref q6, .ref q7, .ref q8, v9, v10, v11, v12, v13, v14, v15, v16])), (q1, .inl (c1, 16, .inl (fun _ => (0 : Int32))))] := hD
  refine W.widen (k := 0) (n := 0) (Nat.le_of_ble_eq_true rfl) (Nat.le_of_ble_eq_true rfl) ?_
  obtain rfl : r_1 = 0 := hw
  refine W.eq (g2 := F0 m 5 ls [.int 0]) rfl ?_
  refine lv_if_ne (tgt := 15) hx hb dX8_move_5 (by decide) (fun c_2 => absurd c_2 (by decide)) (fun c_2 => ?_)
  refine lv_aload_n hx hb dX8_move_8 rfl (lv_at hl 0 rfl) ?_
  refine lv_iconst (v := 1) hx hb dX8_move_9 (by decide) ?_
  have hPc := hP.sub (ws' := [(h0, .inr (8, [.int th, .ref q1, v2, .ref q3, .ref q4, .ref q5, .ref q6, .ref q7, .ref q8, v9, v10, v11, v12, v13, v14, v15, v16]))]) [6] rfl
  have hDc := hD.sub (ws' := [(h0, .inr (8, [.int th, .ref q1, v2, .ref q3, .ref q4, .ref q5, .ref q6, .ref q7, .ref q8, v9, v10, v11, v12, v13, v14, v15, v16]))]) [6] (by decide) rfl
  have hKc := hK.sub (tys' := []) [] rfl
  have hFc := va_free (wc := [(h0, .inr (8, [.int th, .ref q1, v2, .ref q3, .ref q4, .ref q5, .ref q6, .ref q7, .ref q8, v9, v10, v11, v12, v13, v14, v15, v16]))]) hD hS hA [6] rfl
  refine va_calli (va_runV (As := [.int 1]) (rest := []) ⟨hx, hb, hml, hown, hts⟩ (c_X8_refuse l  dC dI H.size h0 th 1 (.ref q1) v2 (.ref q3) (.ref q4) (.ref q5) (.ref q6) (.ref q7) (.ref q8) v9 v10 v11 v12 v13 v14 v15 v16) (cwV 1 hts gP_X8_move_refuse rfl rfl rfl (by decide +kernel) ⟨(Nat.le_of_ble_eq_true rfl), (Nat.le_of_ble_eq_true rfl)⟩) ⟨pk_blind, va_recv hKc hPc (ci := 8) (q0 := 0) rfl rfl, pk_call hPc hKc hDc⟩ rfl rfl hl.1 rfl (lv_room (Nat.le_of_ble_eq_true rfl)) dX8_move_10 ⟨(Nat.le_of_ble_eq_true rfl), (Nat.le_of_ble_eq_true rfl)⟩) hS (fun q _ h => hFc q h) hFc (fun r_3 ur_3 t H1 locs ht hvm hw hB hz1 hk1 hS => ?_)
  try dsimp only at hw
  have jr_3 := hw
  obtain ⟨hP1, hK1, hD1⟩ := hB
  rw [ht] at hP1
  have hK1 := va_K.moved hvm.symm hK1
  obtain ⟨hP, hD⟩ := va_join (wr := [(q3, .inl (c3, 16, .inl (fun _ => (0 : Int32)))), (q4, .inl (c4, 16, .inl (fun _ => (0 : Int32)))), (q5, .inl (c5, 16, .inl (fun _ => (0 : Int32)))), (q6, .inl (c6, 16, .inl (fun _ => (0 : Int32)))), (q7, .inl (c7, 16, .inl (fun _ => (0 : Int32)))), (q8, .inl (c8, 16, .inl (fun _ => (0 : Int32)))), (q1, .inl (c1, 16, .inl (fun _ => (0 : Int32))))]) (w1 := [(h0, .inr (8, [.int 1, .ref q1, v2, .ref q3, .ref q4, .ref q5, .ref q6, .ref q7, .ref q8, v9, v10, v11, v12, v13, v14, v15, v16]))]) hP hD [6] [0, 1, 2, 3, 4, 5, 7] rfl rfl (by decide) (by decide) hk1 hFc hP1 hD1
  clear hk1 hz1 ht hPc hDc hKc
  generalize H1 = H at hP hS ⊢
  have hP : va_P (dC, dI) vwCl [(q3, .inl (c3, 16, .inl (fun _ => (0 : Int32)))), (q4, .inl (c4, 16, .inl (fun _ => (0 : Int32)))), (q5, .inl (c5, 16, .inl (fun _ => (0 : Int32)))), (q6, .inl (c6, 16, .inl (fun _ => (0 : Int32)))), (q7, .inl (c7, 16, .inl (fun _ => (0 : Int32)))), (q8, .inl (c8, 16, .inl (fun _ => (0 : Int32)))), (q1, .inl (c1, 16, .inl (fun _ => (0 : Int32)))), (h0, .inr (8, [.int 1, .ref q1, v2, .ref q3, .ref q4, .ref q5, .ref q6, .ref q7, .ref q8, v9, v10, v11, v12, v13, v14, v15, v16]))] H := hP
  have hD : va_D A [(q3, .inl (c3, 16, .inl (fun _ => (0 : Int32)))), (q4, .inl (c4, 16, .inl (fun _ => (0 : Int32)))), (q5, .inl (c5, 16, .inl (fun _ => (0 : Int32)))), (q6, .inl (c6, 16, .inl (fun _ => (0 : Int32)))), (q7, .inl (c7, 16, .inl (fun _ => (0 : Int32)))), (q8, .inl (c8, 16, .inl (fun _ => (0 : Int32)))), (q1, .inl (c1, 16, .inl (fun _ => (0 : Int32)))), (h0, .inr (8, [.int 1, .ref q1, v2, .ref q3, .ref q4, .ref q5, .ref q6, .ref q7, .ref q8, v9, v10, v11, v12, v13, v14, v15, v16]))] := hD
  refine W.widen (k := 0) (n := 0) (Nat.le_of_ble_eq_true rfl) (Nat.le_of_ble_eq_true rfl) ?_
  refine W.eq (g2 := F0 m 13 ls [.int r_3]) rfl ?_
  refine lv_i2l (v := r_3.toInt64) hx hb dX8_move_13 rfl ?_
  have hP9 := hP.sub (ws' := [(h0, .inr (8, [.int 1, .ref q1, v2, .ref q3, .ref q4, .ref q5, .ref q6, .ref q7, .ref q8, v9, v10, v11, v12, v13, v14, v15, v16]))]) [7] rfl
  have hD9 := hD.sub (ws' := [(h0, .inr (8, [.int 1, .ref q1, v2, .ref q3, .ref q4, .ref q5, .ref q6, .ref q7, .ref q8, v9, v10, v11, v12, v13, v14, v15, v16]))]) [7] (by decide) rfl
  have hK9 := hK.sub (tys' := []) [] rfl
  refine W.widen (k := 0) (n := 0) (Nat.le_of_ble_eq_true rfl) (Nat.le_of_ble_eq_true rfl) ?_
  exact W.lret (v := r_3.toInt64) hx hb hr (fun t ht hW => ⟨⟨r_3.toInt64, (), rfl, trivial, by rw [ht]; exact hP9, va_K.moved hW.alike hK9, hD9⟩, hS.F ht⟩) hS.2.2 dX8_move_14
set_option maxHeartbeats 4000000 in
set_option maxRecDepth 100000 in
/-- item of the reference, fresh: refused -/
theorem c_X8_item (l : Launch) (dC : Nat → ClassId) (dI : Nat → Nat → Nat) (sz : Nat) (h0 : Nat) (th : Int32) (q1 : Nat) (q3 : Nat) (q4 : Nat) (q5 : Nat) (q6 : Nat) (q7 : Nat) (q8 : Nat) (c1 : ClassId) (c3 : ClassId) (c4 : ClassId) (c5 : ClassId) (c6 : ClassId) (c7 : ClassId) (c8 : ClassId) (v2 : Value) (v9 : Value) (v10 : Value) (v11 : Value) (v12 : Value) (v13 : Value) (v14 : Value) (v15 : Value) (v16 : Value) (p0 : Int32) (p1 : Int32) (p2 : Int32) : Met l yX8_item wsP_X8_item ({ frames := 2, cells := 0, slots := 0, locals := 60 }) (va_Pc [.ref h0, .int p0, .int p1, .int p2] (pk_Pre (dC, dI) [(h0, .inr (8, [.int th, .ref q1, v2, .ref q3, .ref q4, .ref q5, .ref q6, .ref q7, .ref q8, v9, v10, v11, v12, v13, v14, v15, v16])), (q1, .inl (c1, 16, .inl (fun _ => (0 : Int32)))), (q3, .inl (c3, 16, .inl (fun _ => (0 : Int32)))), (q4, .inl (c4, 16, .inl (fun _ => (0 : Int32)))), (q5, .inl (c5, 16, .inl (fun _ => (0 : Int32)))), (q6, .inl (c6, 16, .inl (fun _ => (0 : Int32)))), (q7, .inl (c7, 16, .inl (fun _ => (0 : Int32)))), (q8, .inl (c8, 16, .inl (fun _ => (0 : Int32))))] [(c1, .int), (c3, .int), (c4, .int), (c5, .int), (c6, .int), (c7, .int), (c8, .int)] sz)) (va_Ql (fun (r : Int64) (_ : Unit) => True) (fun (_ : Unit) (t : State) => va_P (dC, dI) vwCl [(h0, .inr (8, [.int 1, .ref q1, v2, .ref q3, .ref q4, .ref q5, .ref q6, .ref q7, .ref q8, v9, v10, v11, v12, v13, v14, v15, v16]))] t.heap ∧ va_K (dC, dI) vwCl [] t ∧ va_D (va_A [(h0, .inr (8, [.int th, .ref q1, v2, .ref q3, .ref q4, .ref q5, .ref q6, .ref q7, .ref q8, v9, v10, v11, v12, v13, v14, v15, v16])), (q1, .inl (c1, 16, .inl (fun _ => (0 : Int32)))), (q3, .inl (c3, 16, .inl (fun _ => (0 : Int32)))), (q4, .inl (c4, 16, .inl (fun _ => (0 : Int32)))), (q5, .inl (c5, 16, .inl (fun _ => (0 : Int32)))), (q6, .inl (c6, 16, .inl (fun _ => (0 : Int32)))), (q7, .inl (c7, 16, .inl (fun _ => (0 : Int32)))), (q8, .inl (c8, 16, .inl (fun _ => (0 : Int32))))] sz) [(h0, .inr (8, [.int 1, .ref q1, v2, .ref q3, .ref q4, .ref q5, .ref q6, .ref q7, .ref q8, v9, v10, v11, v12, v13, v14, v15, v16]))]) (va_A [(h0, .inr (8, [.int th, .ref q1, v2, .ref q3, .ref q4, .ref q5, .ref q6, .ref q7, .ref q8, v9, v10, v11, v12, v13, v14, v15, v16])), (q1, .inl (c1, 16, .inl (fun _ => (0 : Int32)))), (q3, .inl (c3, 16, .inl (fun _ => (0 : Int32)))), (q4, .inl (c4, 16, .inl (fun _ => (0 : Int32)))), (q5, .inl (c5, 16, .inl (fun _ => (0 : Int32)))), (q6, .inl (c6, 16, .inl (fun _ => (0 : Int32)))), (q7, .inl (c7, 16, .inl (fun _ => (0 : Int32)))), (q8, .inl (c8, 16, .inl (fun _ => (0 : Int32))))] sz)) 0 0 (va_A [(h0, .inr (8, [.int th, .ref q1, v2, .ref q3, .ref q4, .ref q5, .ref q6, .ref q7, .ref q8, v9, v10, v11, v12, v13, v14, v15, v16])), (q1, .inl (c1, 16, .inl (fun _ => (0 : Int32)))), (q3, .inl (c3, 16, .inl (fun _ => (0 : Int32)))), (q4, .inl (c4, 16, .inl (fun _ => (0 : Int32)))), (q5, .inl (c5, 16, .inl (fun _ => (0 : Int32)))), (q6, .inl (c6, 16, .inl (fun _ => (0 : Int32)))), (q7, .inl (c7, 16, .inl (fun _ => (0 : Int32)))), (q8, .inl (c8, 16, .inl (fun _ => (0 : Int32))))] sz) := by
  refine Met.ofW (cc := cX8_item) (maxL := 5) (ret := (some .long)) (by decide) rfl ?_
  intro p e s m args below meth c s₁ B hml hv
  obtain ⟨rfl, hsz, hP, hK, hD0⟩ := hv
  have hx := B.exec
  have hb := B.bytes
  have hr := B.returns
  have hts := atoms_spec (ws := wsP_X8_item) B.pre
  have hown : s.vm.findClass RX8 = some m.cls := findClass_of_methodNamed B.named
  have hlocks := B.notSynchronized
  subst hsz
  have hD := hD0.self (sz := s.heap.size)
  generalize hAe : va_A [(h0, .inr (8, [.int th, .ref q1, v2, .ref q3, .ref q4, .ref q5, .ref q6, .ref q7, .ref q8, v9, v10, v11, v12, v13, v14, v15, v16])), (q1, .inl (c1, 16, .inl (fun _ => (0 : Int32)))), (q3, .inl (c3, 16, .inl (fun _ => (0 : Int32)))), (q4, .inl (c4, 16, .inl (fun _ => (0 : Int32)))), (q5, .inl (c5, 16, .inl (fun _ => (0 : Int32)))), (q6, .inl (c6, 16, .inl (fun _ => (0 : Int32)))), (q7, .inl (c7, 16, .inl (fun _ => (0 : Int32)))), (q8, .inl (c8, 16, .inl (fun _ => (0 : Int32))))] s.heap.size = A at hD ⊢
  have hA : ∀ q : Nat, s.heap.size ≤ q → A q := fun q h => by rw [← hAe]; exact Or.inr h
  have hS : va_S A s.heap s.heap [] := va_S.rf
  have hP : va_P (dC, dI) vwCl [(h0, .inr (8, [.int th, .ref q1, v2, .ref q3, .ref q4, .ref q5, .ref q6, .ref q7, .ref q8, v9, v10, v11, v12, v13, v14, v15, v16])), (q1, .inl (c1, 16, .inl (fun _ => (0 : Int32)))), (q3, .inl (c3, 16, .inl (fun _ => (0 : Int32)))), (q4, .inl (c4, 16, .inl (fun _ => (0 : Int32)))), (q5, .inl (c5, 16, .inl (fun _ => (0 : Int32)))), (q6, .inl (c6, 16, .inl (fun _ => (0 : Int32)))), (q7, .inl (c7, 16, .inl (fun _ => (0 : Int32)))), (q8, .inl (c8, 16, .inl (fun _ => (0 : Int32))))] s.heap := hP
  have hl := lv_entry ([.ref h0, .int p0, .int p1, .int p2]) (n := 5) (Nat.le_of_ble_eq_true rfl)
  rw [lg_entry_eq]
  generalize (lg_sl ([.ref h0, .int p0, .int p1, .int p2]) ++ List.replicate (5 - (lg_sl ([.ref h0, .int p0, .int p1, .int p2])).length) Slot.unset).toArray = ls at hl ⊢
  have hl : lv_has ls 5 [(0, .ref h0), (1, .int p0), (2, .int p1), (3, .int p2)] := hl
  refine lv_aload_n hx hb dX8_item_0 rfl (lv_at hl 0 rfl) ?_
  refine lv_iload_n hx hb dX8_item_1 rfl (lv_at hl 1 rfl) ?_
  have hPc := hP.sub (ws' := [(h0, .inr (8, [.int th, .ref q1, v2, .ref q3, .ref q4, .ref q5, .ref q6, .ref q7, .ref q8, v9, v10, v11, v12, v13, v14, v15, v16])), (q1, .inl (c1, 16, .inl (fun _ => (0 : Int32))))]) [0, 1] rfl
  have hDc := hD.sub (ws' := [(h0, .inr (8, [.int th, .ref q1, v2, .ref q3, .ref q4, .ref q5, .ref q6, .ref q7, .ref q8, v9, v10, v11, v12, v13, v14, v15, v16])), (q1, .inl (c1, 16, .inl (fun _ => (0 : Int32))))]) [0, 1] (by decide) rfl
  have hKc := hK.sub (tys' := [(c1, .int)]) [0] rfl
  have hFc := va_free (wc := [(h0, .inr (8, [.int th, .ref q1, v2, .ref q3, .ref q4, .ref q5, .ref q6, .ref q7, .ref q8, v9, v10, v11, v12, v13, v14, v15, v16])), (q1, .inl (c1, 16, .inl (fun _ => (0 : Int32))))]) hD hS hA [0, 1] rfl
  refine va_calli (va_runV (As := [.int p0]) (rest := []) ⟨hx, hb, hml, hown, hts⟩ (c_X8_isThere l  dC dI s.heap.size h0 q1 c1 th v2 (.ref q3) (.ref q4) (.ref q5) (.ref q6) (.ref q7) (.ref q8) v9 v10 v11 v12 v13 v14 v15 v16 p0) (cwV 1 hts gP_X8_item_isThere rfl rfl rfl (by decide +kernel) ⟨(Nat.le_of_ble_eq_true rfl), (Nat.le_of_ble_eq_true rfl)⟩) ⟨pk_blind, va_recv hKc hPc (ci := 8) (q0 := 0) rfl rfl, pk_call hPc hKc hDc⟩ rfl rfl hl.1 rfl (lv_room (Nat.le_of_ble_eq_true rfl)) dX8_item_2 ⟨(Nat.le_of_ble_eq_true rfl), (Nat.le_of_ble_eq_true rfl)⟩) hS (fun q _ h => hFc q h) hFc (fun r_1 ur_1 t H1 locs ht hvm hw hB hz1 hk1 hS => ?_)
  try dsimp only at hw
  obtain ⟨hP1, hK1, hD1⟩ := hB
  rw [ht] at hP1
  have hK1 := va_K.moved hvm.symm hK1
  obtain ⟨hP, hD⟩ := va_join (wr := [(q3, .inl (c3, 16, .inl (fun _ => (0 : Int32)))), (q4, .inl (c4, 16, .inl (fun _ => (0 : Int32)))), (q5, .inl (c5, 16, .inl (fun _ => (0 : Int32)))), (q6, .inl (c6, 16, .inl (fun _ => (0 : Int32)))), (q7, .inl (c7, 16, .inl (fun _ => (0 : Int32)))), (q8, .inl (c8, 16, .inl (fun _ => (0 : Int32))))]) (w1 := [(h0, .inr (8, [.int th, .ref q1, v2, .ref q3, .ref q4, .ref q5, .ref q6, .ref q7, .ref q8, v9, v10, v11, v12, v13, v14, v15, v16])), (q1, .inl (c1, 16, .inl (fun _ => (0 : Int32))))]) hP hD [0, 1] [2, 3, 4, 5, 6, 7] rfl rfl (by decide) (by decide) hk1 hFc hP1 hD1
  clear hk1 hz1 ht hPc hDc hKc
  generalize H1 = H at hP hS ⊢
  have hP : va_P (dC, dI) vwCl [(q3, .inl (c3, 16, .inl (fun _ => (0 : Int32)))), (q4, .inl (c4, 16, .inl (fun _ => (0 : Int32)))), (q5, .inl (c5, 16, .inl (fun _ => (0 : Int32)))), (q6, .inl (c6, 16, .inl (fun _ => (0 : Int32)))), (q7, .inl (c7, 16, .inl (fun _ => (0 : Int32)))), (q8, .inl (c8, 16, .inl (fun _ => (0 : Int32)))), (h0, .inr (8, [.int th, .ref q1, v2, .ref q3, .ref q4, .ref q5, .ref q6, .ref q7, .ref q8, v9, v10, v11, v12, v13, v14, v15, v16])), (q1, .inl (c1, 16, .inl (fun _ => (0 : Int32))))] H := hP
  have hD : va_D A [(q3, .inl (c3, 16, .inl (fun _ => (0 : Int32)))), (q4, .inl (c4, 16, .inl (fun _ => (0 : Int32)))), (q5, .inl (c5, 16, .inl (fun _ => (0 : Int32)))), (q6, .inl (c6, 16, .inl (fun _ => (0 : Int32)))), (q7, .inl (c7, 16, .inl (fun _ => (0 : Int32)))), (q8, .inl (c8, 16, .inl (fun _ => (0 : Int32)))), (h0, .inr (8, [.int th, .ref q1, v2, .ref q3, .ref q4, .ref q5, .ref q6, .ref q7, .ref q8, v9, v10, v11, v12, v13, v14, v15, v16])), (q1, .inl (c1, 16, .inl (fun _ => (0 : Int32))))] := hD
  refine W.widen (k := 0) (n := 0) (Nat.le_of_ble_eq_true rfl) (Nat.le_of_ble_eq_true rfl) ?_
  obtain rfl : r_1 = 0 := hw
  refine W.eq (g2 := F0 m 5 ls [.int 0]) rfl ?_
  refine lv_if_ne (tgt := 15) hx hb dX8_item_5 (by decide) (fun c_2 => absurd c_2 (by decide)) (fun c_2 => ?_)
  refine lv_aload_n hx hb dX8_item_8 rfl (lv_at hl 0 rfl) ?_
  refine lv_iconst (v := 1) hx hb dX8_item_9 (by decide) ?_
  have hPc := hP.sub (ws' := [(h0, .inr (8, [.int th, .ref q1, v2, .ref q3, .ref q4, .ref q5, .ref q6, .ref q7, .ref q8, v9, v10, v11, v12, v13, v14, v15, v16]))]) [6] rfl
  have hDc := hD.sub (ws' := [(h0, .inr (8, [.int th, .ref q1, v2, .ref q3, .ref q4, .ref q5, .ref q6, .ref q7, .ref q8, v9, v10, v11, v12, v13, v14, v15, v16]))]) [6] (by decide) rfl
  have hKc := hK.sub (tys' := []) [] rfl
  have hFc := va_free (wc := [(h0, .inr (8, [.int th, .ref q1, v2, .ref q3, .ref q4, .ref q5, .ref q6, .ref q7, .ref q8, v9, v10, v11, v12, v13, v14, v15, v16]))]) hD hS hA [6] rfl
  refine va_calli (va_runV (As := [.int 1]) (rest := []) ⟨hx, hb, hml, hown, hts⟩ (c_X8_refuse l  dC dI H.size h0 th 1 (.ref q1) v2 (.ref q3) (.ref q4) (.ref q5) (.ref q6) (.ref q7) (.ref q8) v9 v10 v11 v12 v13 v14 v15 v16) (cwV 1 hts gP_X8_item_refuse rfl rfl rfl (by decide +kernel) ⟨(Nat.le_of_ble_eq_true rfl), (Nat.le_of_ble_eq_true rfl)⟩) ⟨pk_blind, va_recv hKc hPc (ci := 8) (q0 := 0) rfl rfl, pk_call hPc hKc hDc⟩ rfl rfl hl.1 rfl (lv_room (Nat.le_of_ble_eq_true rfl)) dX8_item_10 ⟨(Nat.le_of_ble_eq_true rfl), (Nat.le_of_ble_eq_true rfl)⟩) hS (fun q _ h => hFc q h) hFc (fun r_3 ur_3 t H1 locs ht hvm hw hB hz1 hk1 hS => ?_)
  try dsimp only at hw
  have jr_3 := hw
  obtain ⟨hP1, hK1, hD1⟩ := hB
  rw [ht] at hP1
  have hK1 := va_K.moved hvm.symm hK1
  obtain ⟨hP, hD⟩ := va_join (wr := [(q3, .inl (c3, 16, .inl (fun _ => (0 : Int32)))), (q4, .inl (c4, 16, .inl (fun _ => (0 : Int32)))), (q5, .inl (c5, 16, .inl (fun _ => (0 : Int32)))), (q6, .inl (c6, 16, .inl (fun _ => (0 : Int32)))), (q7, .inl (c7, 16, .inl (fun _ => (0 : Int32)))), (q8, .inl (c8, 16, .inl (fun _ => (0 : Int32)))), (q1, .inl (c1, 16, .inl (fun _ => (0 : Int32))))]) (w1 := [(h0, .inr (8, [.int 1, .ref q1, v2, .ref q3, .ref q4, .ref q5, .ref q6, .ref q7, .ref q8, v9, v10, v11, v12, v13, v14, v15, v16]))]) hP hD [6] [0, 1, 2, 3, 4, 5, 7] rfl rfl (by decide) (by decide) hk1 hFc hP1 hD1
  clear hk1 hz1 ht hPc hDc hKc
  generalize H1 = H at hP hS ⊢
  have hP : va_P (dC, dI) vwCl [(q3, .inl (c3, 16, .inl (fun _ => (0 : Int32)))), (q4, .inl (c4, 16, .inl (fun _ => (0 : Int32)))), (q5, .inl (c5, 16, .inl (fun _ => (0 : Int32)))), (q6, .inl (c6, 16, .inl (fun _ => (0 : Int32)))), (q7, .inl (c7, 16, .inl (fun _ => (0 : Int32)))), (q8, .inl (c8, 16, .inl (fun _ => (0 : Int32)))), (q1, .inl (c1, 16, .inl (fun _ => (0 : Int32)))), (h0, .inr (8, [.int 1, .ref q1, v2, .ref q3, .ref q4, .ref q5, .ref q6, .ref q7, .ref q8, v9, v10, v11, v12, v13, v14, v15, v16]))] H := hP
  have hD : va_D A [(q3, .inl (c3, 16, .inl (fun _ => (0 : Int32)))), (q4, .inl (c4, 16, .inl (fun _ => (0 : Int32)))), (q5, .inl (c5, 16, .inl (fun _ => (0 : Int32)))), (q6, .inl (c6, 16, .inl (fun _ => (0 : Int32)))), (q7, .inl (c7, 16, .inl (fun _ => (0 : Int32)))), (q8, .inl (c8, 16, .inl (fun _ => (0 : Int32)))), (q1, .inl (c1, 16, .inl (fun _ => (0 : Int32)))), (h0, .inr (8, [.int 1, .ref q1, v2, .ref q3, .ref q4, .ref q5, .ref q6, .ref q7, .ref q8, v9, v10, v11, v12, v13, v14, v15, v16]))] := hD
  refine W.widen (k := 0) (n := 0) (Nat.le_of_ble_eq_true rfl) (Nat.le_of_ble_eq_true rfl) ?_
  refine W.eq (g2 := F0 m 13 ls [.int r_3]) rfl ?_
  refine lv_i2l (v := r_3.toInt64) hx hb dX8_item_13 rfl ?_
  have hP9 := hP.sub (ws' := [(h0, .inr (8, [.int 1, .ref q1, v2, .ref q3, .ref q4, .ref q5, .ref q6, .ref q7, .ref q8, v9, v10, v11, v12, v13, v14, v15, v16]))]) [7] rfl
  have hD9 := hD.sub (ws' := [(h0, .inr (8, [.int 1, .ref q1, v2, .ref q3, .ref q4, .ref q5, .ref q6, .ref q7, .ref q8, v9, v10, v11, v12, v13, v14, v15, v16]))]) [7] (by decide) rfl
  have hK9 := hK.sub (tys' := []) [] rfl
  refine W.widen (k := 0) (n := 0) (Nat.le_of_ble_eq_true rfl) (Nat.le_of_ble_eq_true rfl) ?_
  exact W.lret (v := r_3.toInt64) hx hb hr (fun t ht hW => ⟨⟨r_3.toInt64, (), rfl, trivial, by rw [ht]; exact hP9, va_K.moved hW.alike hK9, hD9⟩, hS.F ht⟩) hS.2.2 dX8_item_14
set_option maxHeartbeats 4000000 in
set_option maxRecDepth 100000 in
/-- count of the reference, fresh -/
theorem c_X8_count (l : Launch) (dC : Nat → ClassId) (dI : Nat → Nat → Nat) (sz : Nat) (h0 : Nat) (th : Int32) (q1 : Nat) (q3 : Nat) (q4 : Nat) (q5 : Nat) (q6 : Nat) (q7 : Nat) (q8 : Nat) (c1 : ClassId) (c3 : ClassId) (c4 : ClassId) (c5 : ClassId) (c6 : ClassId) (c7 : ClassId) (c8 : ClassId) (v2 : Value) (v9 : Value) (v10 : Value) (v11 : Value) (v12 : Value) (v13 : Value) (v14 : Value) (v15 : Value) (v16 : Value) (p0 : Int32) : Met l yX8_count wsP_X8_count ({ frames := 1, cells := 0, slots := 0, locals := 40 }) (va_Pc [.ref h0, .int p0] (pk_Pre (dC, dI) [(h0, .inr (8, [.int th, .ref q1, v2, .ref q3, .ref q4, .ref q5, .ref q6, .ref q7, .ref q8, v9, v10, v11, v12, v13, v14, v15, v16])), (q1, .inl (c1, 16, .inl (fun _ => (0 : Int32)))), (q3, .inl (c3, 16, .inl (fun _ => (0 : Int32)))), (q4, .inl (c4, 16, .inl (fun _ => (0 : Int32)))), (q5, .inl (c5, 16, .inl (fun _ => (0 : Int32)))), (q6, .inl (c6, 16, .inl (fun _ => (0 : Int32)))), (q7, .inl (c7, 16, .inl (fun _ => (0 : Int32)))), (q8, .inl (c8, 16, .inl (fun _ => (0 : Int32))))] [(c1, .int), (c3, .int), (c4, .int), (c5, .int), (c6, .int), (c7, .int), (c8, .int)] sz)) (va_Qi (fun (r : Int32) (u : Int32) => ctIs p0 u.toInt r.toInt) (fun (u : Int32) (t : State) => va_P (dC, dI) vwCl [(h0, .inr (8, [.int u, .ref q1, v2, .ref q3, .ref q4, .ref q5, .ref q6, .ref q7, .ref q8, v9, v10, v11, v12, v13, v14, v15, v16]))] t.heap ∧ va_K (dC, dI) vwCl [] t ∧ va_D (va_A [(h0, .inr (8, [.int th, .ref q1, v2, .ref q3, .ref q4, .ref q5, .ref q6, .ref q7, .ref q8, v9, v10, v11, v12, v13, v14, v15, v16])), (q1, .inl (c1, 16, .inl (fun _ => (0 : Int32)))), (q3, .inl (c3, 16, .inl (fun _ => (0 : Int32)))), (q4, .inl (c4, 16, .inl (fun _ => (0 : Int32)))), (q5, .inl (c5, 16, .inl (fun _ => (0 : Int32)))), (q6, .inl (c6, 16, .inl (fun _ => (0 : Int32)))), (q7, .inl (c7, 16, .inl (fun _ => (0 : Int32)))), (q8, .inl (c8, 16, .inl (fun _ => (0 : Int32))))] sz) [(h0, .inr (8, [.int u, .ref q1, v2, .ref q3, .ref q4, .ref q5, .ref q6, .ref q7, .ref q8, v9, v10, v11, v12, v13, v14, v15, v16]))]) (va_A [(h0, .inr (8, [.int th, .ref q1, v2, .ref q3, .ref q4, .ref q5, .ref q6, .ref q7, .ref q8, v9, v10, v11, v12, v13, v14, v15, v16])), (q1, .inl (c1, 16, .inl (fun _ => (0 : Int32)))), (q3, .inl (c3, 16, .inl (fun _ => (0 : Int32)))), (q4, .inl (c4, 16, .inl (fun _ => (0 : Int32)))), (q5, .inl (c5, 16, .inl (fun _ => (0 : Int32)))), (q6, .inl (c6, 16, .inl (fun _ => (0 : Int32)))), (q7, .inl (c7, 16, .inl (fun _ => (0 : Int32)))), (q8, .inl (c8, 16, .inl (fun _ => (0 : Int32))))] sz)) 0 0 (va_A [(h0, .inr (8, [.int th, .ref q1, v2, .ref q3, .ref q4, .ref q5, .ref q6, .ref q7, .ref q8, v9, v10, v11, v12, v13, v14, v15, v16])), (q1, .inl (c1, 16, .inl (fun _ => (0 : Int32)))), (q3, .inl (c3, 16, .inl (fun _ => (0 : Int32)))), (q4, .inl (c4, 16, .inl (fun _ => (0 : Int32)))), (q5, .inl (c5, 16, .inl (fun _ => (0 : Int32)))), (q6, .inl (c6, 16, .inl (fun _ => (0 : Int32)))), (q7, .inl (c7, 16, .inl (fun _ => (0 : Int32)))), (q8, .inl (c8, 16, .inl (fun _ => (0 : Int32))))] sz) := by
  refine Met.ofW (cc := cX8_count) (maxL := 4) (ret := (some .int)) (by decide) rfl ?_
  intro p e s m args below meth c s₁ B hml hv
  obtain ⟨rfl, hsz, hP, hK, hD0⟩ := hv
  have hx := B.exec
  have hb := B.bytes
  have hr := B.returns
  have hts := atoms_spec (ws := wsP_X8_count) B.pre
  have hown : s.vm.findClass RX8 = some m.cls := findClass_of_methodNamed B.named
  have hlocks := B.notSynchronized
  subst hsz
  have hD := hD0.self (sz := s.heap.size)
  generalize hAe : va_A [(h0, .inr (8, [.int th, .ref q1, v2, .ref q3, .ref q4, .ref q5, .ref q6, .ref q7, .ref q8, v9, v10, v11, v12, v13, v14, v15, v16])), (q1, .inl (c1, 16, .inl (fun _ => (0 : Int32)))), (q3, .inl (c3, 16, .inl (fun _ => (0 : Int32)))), (q4, .inl (c4, 16, .inl (fun _ => (0 : Int32)))), (q5, .inl (c5, 16, .inl (fun _ => (0 : Int32)))), (q6, .inl (c6, 16, .inl (fun _ => (0 : Int32)))), (q7, .inl (c7, 16, .inl (fun _ => (0 : Int32)))), (q8, .inl (c8, 16, .inl (fun _ => (0 : Int32))))] s.heap.size = A at hD ⊢
  have hA : ∀ q : Nat, s.heap.size ≤ q → A q := fun q h => by rw [← hAe]; exact Or.inr h
  have hS : va_S A s.heap s.heap [] := va_S.rf
  have hP : va_P (dC, dI) vwCl [(h0, .inr (8, [.int th, .ref q1, v2, .ref q3, .ref q4, .ref q5, .ref q6, .ref q7, .ref q8, v9, v10, v11, v12, v13, v14, v15, v16])), (q1, .inl (c1, 16, .inl (fun _ => (0 : Int32)))), (q3, .inl (c3, 16, .inl (fun _ => (0 : Int32)))), (q4, .inl (c4, 16, .inl (fun _ => (0 : Int32)))), (q5, .inl (c5, 16, .inl (fun _ => (0 : Int32)))), (q6, .inl (c6, 16, .inl (fun _ => (0 : Int32)))), (q7, .inl (c7, 16, .inl (fun _ => (0 : Int32)))), (q8, .inl (c8, 16, .inl (fun _ => (0 : Int32))))] s.heap := hP
  have hl := lv_entry ([.ref h0, .int p0]) (n := 4) (Nat.le_of_ble_eq_true rfl)
  rw [lg_entry_eq]
  generalize (lg_sl ([.ref h0, .int p0]) ++ List.replicate (4 - (lg_sl ([.ref h0, .int p0])).length) Slot.unset).toArray = ls at hl ⊢
  have hl : lv_has ls 4 [(0, .ref h0), (1, .int p0)] := hl
  refine lv_iload_n hx hb dX8_count_0 rfl (lv_at hl 1 rfl) ?_
  refine lv_if_eq (tgt := 32) hx hb dX8_count_1 (by decide) (fun c_1 => ?_) (fun c_1 => ?_)
  ·
    have ic_1 : p0.toInt = 0 := tx_eq rfl (by decide) c_1
    refine lv_aload_n hx hb dX8_count_32 rfl (lv_at hl 0 rfl) ?_
    refine lv_iconst (v := 0) hx hb dX8_count_33 (by decide) ?_
    refine va_put (D := (dC, dI)) (ci := 8) (v := .int 0) (ty := .int) (C := RX8) (T := TX8) (N := 17) hx hb hts (by decide +kernel) tyX8 tyX8_ok nmX8 hown hK hP hD hS 0 rfl rfl 0 (by decide) (hts (.fieldLink RX8 60 "KeyAtlasModel" "thrown" "I") (by decide +kernel)) (fun _ h9 => h9) rfl (by decide +kernel) rfl rfl (Nat.le_of_ble_eq_true rfl) dX8_count_34 (fun H locs hP hD hS => ?_)
    have hP : va_P (dC, dI) vwCl [(h0, .inr (8, [.int 0, .ref q1, v2, .ref q3, .ref q4, .ref q5, .ref q6, .ref q7, .ref q8, v9, v10, v11, v12, v13, v14, v15, v16])), (q1, .inl (c1, 16, .inl (fun _ => (0 : Int32)))), (q3, .inl (c3, 16, .inl (fun _ => (0 : Int32)))), (q4, .inl (c4, 16, .inl (fun _ => (0 : Int32)))), (q5, .inl (c5, 16, .inl (fun _ => (0 : Int32)))), (q6, .inl (c6, 16, .inl (fun _ => (0 : Int32)))), (q7, .inl (c7, 16, .inl (fun _ => (0 : Int32)))), (q8, .inl (c8, 16, .inl (fun _ => (0 : Int32))))] H := hP
    have hD : va_D A [(h0, .inr (8, [.int 0, .ref q1, v2, .ref q3, .ref q4, .ref q5, .ref q6, .ref q7, .ref q8, v9, v10, v11, v12, v13, v14, v15, v16])), (q1, .inl (c1, 16, .inl (fun _ => (0 : Int32)))), (q3, .inl (c3, 16, .inl (fun _ => (0 : Int32)))), (q4, .inl (c4, 16, .inl (fun _ => (0 : Int32)))), (q5, .inl (c5, 16, .inl (fun _ => (0 : Int32)))), (q6, .inl (c6, 16, .inl (fun _ => (0 : Int32)))), (q7, .inl (c7, 16, .inl (fun _ => (0 : Int32)))), (q8, .inl (c8, 16, .inl (fun _ => (0 : Int32))))] := hD
    refine lv_iload_n hx hb dX8_count_37 rfl (lv_at hl 1 rfl) ?_
    refine lv_if_ne (tgt := 76) hx hb dX8_count_38 (by decide) (fun c_2 => ?_) (fun c_2 => ?_)
    ·
      have ic_2 : ¬ p0.toInt = 0 := tx_ne rfl (by decide) c_2
      refine lv_iload_n hx hb dX8_count_76 rfl (lv_at hl 1 rfl) ?_
      refine lv_bipush (v := 30) hx hb dX8_count_77 (by decide) ?_
      refine lv_icmp_ge (tgt := 94) hx hb dX8_count_79 (by decide) (fun c_3 => ?_) (fun c_3 => ?_)
      ·
        have ic_3 : 30 ≤ p0.toInt := tx_le (by decide) rfl c_3
        refine lv_aload_n hx hb dX8_count_94 rfl (lv_at hl 0 rfl) ?_
        refine lv_iload_n hx hb dX8_count_95 rfl (lv_at hl 1 rfl) ?_
        refine lv_bipush (v := 30) hx hb dX8_count_96 (by decide) ?_
        refine lv_isub hx hb dX8_count_98 ?_
        have hPc := hP.sub (ws' := [(h0, .inr (8, [.int 0, .ref q1, v2, .ref q3, .ref q4, .ref q5, .ref q6, .ref q7, .ref q8, v9, v10, v11, v12, v13, v14, v15, v16])), (q1, .inl (c1, 16, .inl (fun _ => (0 : Int32))))]) [0, 1] rfl
        have hDc := hD.sub (ws' := [(h0, .inr (8, [.int 0, .ref q1, v2, .ref q3, .ref q4, .ref q5, .ref q6, .ref q7, .ref q8, v9, v10, v11, v12, v13, v14, v15, v16])), (q1, .inl (c1, 16, .inl (fun _ => (0 : Int32))))]) [0, 1] (by decide) rfl
        have hKc := hK.sub (tys' := [(c1, .int)]) [0] rfl
        have hFc := va_free (wc := [(h0, .inr (8, [.int 0, .ref q1, v2, .ref q3, .ref q4, .ref q5, .ref q6, .ref q7, .ref q8, v9, v10, v11, v12, v13, v14, v15, v16])), (q1, .inl (c1, 16, .inl (fun _ => (0 : Int32))))]) hD hS hA [0, 1] rfl
        refine va_calli (va_runV (As := [.int (p0 - 30)]) (rest := []) ⟨hx, hb, hml, hown, hts⟩ (c_X8_isMap l  dC dI H.size h0 q1 c1 0 v2 (.ref q3) (.ref q4) (.ref q5) (.ref q6) (.ref q7) (.ref q8) v9 v10 v11 v12 v13 v14 v15 v16 (p0 - 30) (tx_subin (b := 30) (by decide) (by omega) (by omega) (by omega))) (cwV 1 hts gP_X8_count_isMap rfl rfl rfl (by decide +kernel) ⟨(Nat.le_of_ble_eq_true rfl), (Nat.le_of_ble_eq_true rfl)⟩) ⟨pk_blind, va_recv hKc hPc (ci := 8) (q0 := 0) rfl rfl, pk_call hPc hKc hDc⟩ rfl rfl hl.1 rfl (lv_room (Nat.le_of_ble_eq_true rfl)) dX8_count_99 ⟨(Nat.le_of_ble_eq_true rfl), (Nat.le_of_ble_eq_true rfl)⟩) hS (fun q _ h => hFc q h) hFc (fun r_4 ur_4 t H1 locs ht hvm hw hB hz1 hk1 hS => ?_)
        try dsimp only at hw
        obtain ⟨hP1, hK1, hD1⟩ := hB
        rw [ht] at hP1
        have hK1 := va_K.moved hvm.symm hK1
        obtain ⟨hP, hD⟩ := va_join (wr := [(q3, .inl (c3, 16, .inl (fun _ => (0 : Int32)))), (q4, .inl (c4, 16, .inl (fun _ => (0 : Int32)))), (q5, .inl (c5, 16, .inl (fun _ => (0 : Int32)))), (q6, .inl (c6, 16, .inl (fun _ => (0 : Int32)))), (q7, .inl (c7, 16, .inl (fun _ => (0 : Int32)))), (q8, .inl (c8, 16, .inl (fun _ => (0 : Int32))))]) (w1 := [(h0, .inr (8, [.int 0, .ref q1, v2, .ref q3, .ref q4, .ref q5, .ref q6, .ref q7, .ref q8, v9, v10, v11, v12, v13, v14, v15, v16])), (q1, .inl (c1, 16, .inl (fun _ => (0 : Int32))))]) hP hD [0, 1] [2, 3, 4, 5, 6, 7] rfl rfl (by decide) (by decide) hk1 hFc hP1 hD1
        clear hk1 hz1 ht hPc hDc hKc
        generalize H1 = H at hP hS ⊢
        have hP : va_P (dC, dI) vwCl [(q3, .inl (c3, 16, .inl (fun _ => (0 : Int32)))), (q4, .inl (c4, 16, .inl (fun _ => (0 : Int32)))), (q5, .inl (c5, 16, .inl (fun _ => (0 : Int32)))), (q6, .inl (c6, 16, .inl (fun _ => (0 : Int32)))), (q7, .inl (c7, 16, .inl (fun _ => (0 : Int32)))), (q8, .inl (c8, 16, .inl (fun _ => (0 : Int32)))), (h0, .inr (8, [.int 0, .ref q1, v2, .ref q3, .ref q4, .ref q5, .ref q6, .ref q7, .ref q8, v9, v10, v11, v12, v13, v14, v15, v16])), (q1, .inl (c1, 16, .inl (fun _ => (0 : Int32))))] H := hP
        have hD : va_D A [(q3, .inl (c3, 16, .inl (fun _ => (0 : Int32)))), (q4, .inl (c4, 16, .inl (fun _ => (0 : Int32)))), (q5, .inl (c5, 16, .inl (fun _ => (0 : Int32)))), (q6, .inl (c6, 16, .inl (fun _ => (0 : Int32)))), (q7, .inl (c7, 16, .inl (fun _ => (0 : Int32)))), (q8, .inl (c8, 16, .inl (fun _ => (0 : Int32)))), (h0, .inr (8, [.int 0, .ref q1, v2, .ref q3, .ref q4, .ref q5, .ref q6, .ref q7, .ref q8, v9, v10, v11, v12, v13, v14, v15, v16])), (q1, .inl (c1, 16, .inl (fun _ => (0 : Int32))))] := hD
        refine W.widen (k := 0) (n := 0) (Nat.le_of_ble_eq_true rfl) (Nat.le_of_ble_eq_true rfl) ?_
        obtain rfl : r_4 = 0 := hw
        refine W.eq (g2 := F0 m 102 ls [.int 0]) rfl ?_
        refine lv_if_eq (tgt := 116) hx hb dX8_count_102 (by decide) (fun c_5 => ?_) (fun c_5 => absurd c_5 (by decide))
        refine lv_iconst (v := (-1)) hx hb dX8_count_116 (by decide) ?_
        have hP9 := hP.sub (ws' := [(h0, .inr (8, [.int 0, .ref q1, v2, .ref q3, .ref q4, .ref q5, .ref q6, .ref q7, .ref q8, v9, v10, v11, v12, v13, v14, v15, v16]))]) [6] rfl
        have hD9 := hD.sub (ws' := [(h0, .inr (8, [.int 0, .ref q1, v2, .ref q3, .ref q4, .ref q5, .ref q6, .ref q7, .ref q8, v9, v10, v11, v12, v13, v14, v15, v16]))]) [6] (by decide) rfl
        have hK9 := hK.sub (tys' := []) [] rfl
        refine W.widen (k := 0) (n := 0) (Nat.le_of_ble_eq_true rfl) (Nat.le_of_ble_eq_true rfl) ?_
        exact W.iret (v := -1) hx hb hr (fun t ht hW => ⟨⟨-1, 0, rfl, tx_at2 (P := ctIs p0) (n := 0) (m := -1) (by decide) (by decide) (by unfold ctIs; omega), by rw [ht]; exact hP9, va_K.moved hW.alike hK9, hD9⟩, hS.F ht⟩) hS.2.2 dX8_count_117
      ·
        have ic_3 : p0.toInt < 30 := tx_nle (by decide) rfl c_3
        refine lv_aload_n hx hb dX8_count_82 rfl (lv_at hl 0 rfl) ?_
        refine va_get (D := (dC, dI)) (ci := 8) (v := .ref q1) (C := RX8) (T := TX8) (N := 17) hx hb hts (by decide +kernel) hown hK hP 0 rfl rfl 1 (by decide) (hts (.fieldLink RX8 7 "KeyAtlasModel" "kind" "[I") (by decide +kernel)) (fun _ h9 => h9) rfl dX8_count_83 ?_
        refine lv_iload_n hx hb dX8_count_86 rfl (lv_at hl 1 rfl) ?_
        refine lv_bipush (v := 10) hx hb dX8_count_87 (by decide) ?_
        refine lv_isub hx hb dX8_count_89 ?_
        refine va_iald (i := p0 - 10) hx hb hK hP 1 0 rfl rfl (tx_subin (b := 10) (by decide) (by omega) (by omega) (by omega)) dX8_count_90 ?_
        refine W.eq (g2 := F0 m 91 ls [.int 0]) rfl ?_
        refine lv_iconst (v := 1) hx hb dX8_count_91 (by decide) ?_
        refine lv_isub hx hb dX8_count_92 ?_
        refine lv_topi (fun z_6 ez_6 => ?_)
        obtain rfl : z_6 = (-1 : Int32) := ez_6.trans (by decide)
        have hP9 := hP.sub (ws' := [(h0, .inr (8, [.int 0, .ref q1, v2, .ref q3, .ref q4, .ref q5, .ref q6, .ref q7, .ref q8, v9, v10, v11, v12, v13, v14, v15, v16]))]) [0] rfl
        have hD9 := hD.sub (ws' := [(h0, .inr (8, [.int 0, .ref q1, v2, .ref q3, .ref q4, .ref q5, .ref q6, .ref q7, .ref q8, v9, v10, v11, v12, v13, v14, v15, v16]))]) [0] (by decide) rfl
        have hK9 := hK.sub (tys' := []) [] rfl
        refine W.widen (k := 0) (n := 0) (Nat.le_of_ble_eq_true rfl) (Nat.le_of_ble_eq_true rfl) ?_
        exact W.iret (v := -1) hx hb hr (fun t ht hW => ⟨⟨-1, 0, rfl, tx_at2 (P := ctIs p0) (n := 0) (m := -1) (by decide) (by decide) (by unfold ctIs; omega), by rw [ht]; exact hP9, va_K.moved hW.alike hK9, hD9⟩, hS.F ht⟩) hS.2.2 dX8_count_93
    ·
      have ic_2 : p0.toInt = 0 := tx_eq rfl (by decide) c_2
      refine lv_iconst (v := 0) hx hb dX8_count_41 (by decide) ?_
      refine lv_istore_n (lv' := [(2, .int 0), (0, .ref h0), (1, .int p0)]) hx hb dX8_count_42 rfl hl (by decide) rfl (fun ls hl => ?_)
      refine lv_iconst (v := 0) hx hb dX8_count_43 (by decide) ?_
      refine lv_istore_n (lv' := [(3, .int 0), (2, .int 0), (0, .ref h0), (1, .int p0)]) hx hb dX8_count_44 rfl hl (by decide) rfl (fun ls hl => ?_)
      refine lv_iload_n hx hb dX8_count_45 rfl (lv_at hl 0 rfl) ?_
      refine lv_bipush (v := 16) hx hb dX8_count_46 (by decide) ?_
      refine lv_icmp_ge (tgt := 74) hx hb dX8_count_48 (by decide) (fun c_7 => absurd c_7 (by decide)) (fun c_7 => ?_)
      refine lv_iload_n hx hb dX8_count_51 rfl (lv_at hl 1 rfl) ?_
      refine lv_aload_n hx hb dX8_count_52 rfl (lv_at hl 2 rfl) ?_
      refine va_get (D := (dC, dI)) (ci := 8) (v := .ref q1) (C := RX8) (T := TX8) (N := 17) hx hb hts (by decide +kernel) hown hK hP 0 rfl rfl 1 (by decide) (hts (.fieldLink RX8 7 "KeyAtlasModel" "kind" "[I") (by decide +kernel)) (fun _ h9 => h9) rfl dX8_count_53 ?_
      refine lv_iload_n hx hb dX8_count_56 rfl (lv_at hl 0 rfl) ?_
      refine va_iald (i := 0) hx hb hK hP 1 0 rfl rfl (by unfold vp_in; decide) dX8_count_57 ?_
      refine W.eq (g2 := F0 m 58 ls [.int 0, .int 0]) rfl ?_
      refine lv_if_eq (tgt := 65) hx hb dX8_count_58 (by decide) (fun c_8 => ?_) (fun c_8 => absurd c_8 (by decide))
      refine lv_iconst (v := 0) hx hb dX8_count_65 (by decide) ?_
      refine lv_iadd hx hb dX8_count_66 ?_
      refine lv_topi (fun z_9 ez_9 => ?_)
      obtain rfl : z_9 = (0 : Int32) := ez_9.trans (by decide)
      refine lv_istore_n (lv' := [(2, .int 0), (3, .int 0), (0, .ref h0), (1, .int p0)]) hx hb dX8_count_67 rfl hl (by decide) rfl (fun ls hl => ?_)
      refine lv_iinc (v := 1) (lv' := [(3, .int 1), (2, .int 0), (0, .ref h0), (1, .int p0)]) hx hb dX8_count_68 hl (k := 1) rfl (by decide) (by decide) rfl (fun ls hl => ?_)
      refine lv_goto (tgt := 45) hx hb dX8_count_71 (by decide) ?_
      refine lv_iload_n hx hb dX8_count_45 rfl (lv_at hl 0 rfl) ?_
      refine lv_bipush (v := 16) hx hb dX8_count_46 (by decide) ?_
      refine lv_icmp_ge (tgt := 74) hx hb dX8_count_48 (by decide) (fun c_10 => absurd c_10 (by decide)) (fun c_10 => ?_)
      refine lv_iload_n hx hb dX8_count_51 rfl (lv_at hl 1 rfl) ?_
      refine lv_aload_n hx hb dX8_count_52 rfl (lv_at hl 2 rfl) ?_
      refine va_get (D := (dC, dI)) (ci := 8) (v := .ref q1) (C := RX8) (T := TX8) (N := 17) hx hb hts (by decide +kernel) hown hK hP 0 rfl rfl 1 (by decide) (hts (.fieldLink RX8 7 "KeyAtlasModel" "kind" "[I") (by decide +kernel)) (fun _ h9 => h9) rfl dX8_count_53 ?_
      refine lv_iload_n hx hb dX8_count_56 rfl (lv_at hl 0 rfl) ?_
      refine va_iald (i := 1) hx hb hK hP 1 0 rfl rfl (by unfold vp_in; decide) dX8_count_57 ?_
      refine W.eq (g2 := F0 m 58 ls [.int 0, .int 0]) rfl ?_
      refine lv_if_eq (tgt := 65) hx hb dX8_count_58 (by decide) (fun c_11 => ?_) (fun c_11 => absurd c_11 (by decide))
      refine lv_iconst (v := 0) hx hb dX8_count_65 (by decide) ?_
      refine lv_iadd hx hb dX8_count_66 ?_
      refine lv_topi (fun z_12 ez_12 => ?_)
      obtain rfl : z_12 = (0 : Int32) := ez_12.trans (by decide)
      refine lv_istore_n (lv' := [(2, .int 0), (3, .int 1), (0, .ref h0), (1, .int p0)]) hx hb dX8_count_67 rfl hl (by decide) rfl (fun ls hl => ?_)
      refine lv_iinc (v := 2) (lv' := [(3, .int 2), (2, .int 0), (0, .ref h0), (1, .int p0)]) hx hb dX8_count_68 hl (k := 1) rfl (by decide) (by decide) rfl (fun ls hl => ?_)
      refine lv_goto (tgt := 45) hx hb dX8_count_71 (by decide) ?_
      refine lv_iload_n hx hb dX8_count_45 rfl (lv_at hl 0 rfl) ?_
      refine lv_bipush (v := 16) hx hb dX8_count_46 (by decide) ?_
      refine lv_icmp_ge (tgt := 74) hx hb dX8_count_48 (by decide) (fun c_13 => absurd c_13 (by decide)) (fun c_13 => ?_)
      refine lv_iload_n hx hb dX8_count_51 rfl (lv_at hl 1 rfl) ?_
      refine lv_aload_n hx hb dX8_count_52 rfl (lv_at hl 2 rfl) ?_
      refine va_get (D := (dC, dI)) (ci := 8) (v := .ref q1) (C := RX8) (T := TX8) (N := 17) hx hb hts (by decide +kernel) hown hK hP 0 rfl rfl 1 (by decide) (hts (.fieldLink RX8 7 "KeyAtlasModel" "kind" "[I") (by decide +kernel)) (fun _ h9 => h9) rfl dX8_count_53 ?_
      refine lv_iload_n hx hb dX8_count_56 rfl (lv_at hl 0 rfl) ?_
      refine va_iald (i := 2) hx hb hK hP 1 0 rfl rfl (by unfold vp_in; decide) dX8_count_57 ?_
      refine W.eq (g2 := F0 m 58 ls [.int 0, .int 0]) rfl ?_
      refine lv_if_eq (tgt := 65) hx hb dX8_count_58 (by decide) (fun c_14 => ?_) (fun c_14 => absurd c_14 (by decide))
      refine lv_iconst (v := 0) hx hb dX8_count_65 (by decide) ?_
      refine lv_iadd hx hb dX8_count_66 ?_
      refine lv_topi (fun z_15 ez_15 => ?_)
      obtain rfl : z_15 = (0 : Int32) := ez_15.trans (by decide)
      refine lv_istore_n (lv' := [(2, .int 0), (3, .int 2), (0, .ref h0), (1, .int p0)]) hx hb dX8_count_67 rfl hl (by decide) rfl (fun ls hl => ?_)
      refine lv_iinc (v := 3) (lv' := [(3, .int 3), (2, .int 0), (0, .ref h0), (1, .int p0)]) hx hb dX8_count_68 hl (k := 1) rfl (by decide) (by decide) rfl (fun ls hl => ?_)
      refine lv_goto (tgt := 45) hx hb dX8_count_71 (by decide) ?_
      refine lv_iload_n hx hb dX8_count_45 rfl (lv_at hl 0 rfl) ?_
      refine lv_bipush (v := 16) hx hb dX8_count_46 (by decide) ?_
      refine lv_icmp_ge (tgt := 74) hx hb dX8_count_48 (by decide) (fun c_16 => absurd c_16 (by decide)) (fun c_16 => ?_)
      refine lv_iload_n hx hb dX8_count_51 rfl (lv_at hl 1 rfl) ?_
      refine lv_aload_n hx hb dX8_count_52 rfl (lv_at hl 2 rfl) ?_
      refine va_get (D := (dC, dI)) (ci := 8) (v := .ref q1) (C := RX8) (T := TX8) (N := 17) hx hb hts (by decide +kernel) hown hK hP 0 rfl rfl 1 (by decide) (hts (.fieldLink RX8 7 "KeyAtlasModel" "kind" "[I") (by decide +kernel)) (fun _ h9 => h9) rfl dX8_count_53 ?_
      refine lv_iload_n hx hb dX8_count_56 rfl (lv_at hl 0 rfl) ?_
      refine va_iald (i := 3) hx hb hK hP 1 0 rfl rfl (by unfold vp_in; decide) dX8_count_57 ?_
      refine W.eq (g2 := F0 m 58 ls [.int 0, .int 0]) rfl ?_
      refine lv_if_eq (tgt := 65) hx hb dX8_count_58 (by decide) (fun c_17 => ?_) (fun c_17 => absurd c_17 (by decide))
      refine lv_iconst (v := 0) hx hb dX8_count_65 (by decide) ?_
      refine lv_iadd hx hb dX8_count_66 ?_
      refine lv_topi (fun z_18 ez_18 => ?_)
      obtain rfl : z_18 = (0 : Int32) := ez_18.trans (by decide)
      refine lv_istore_n (lv' := [(2, .int 0), (3, .int 3), (0, .ref h0), (1, .int p0)]) hx hb dX8_count_67 rfl hl (by decide) rfl (fun ls hl => ?_)
      refine lv_iinc (v := 4) (lv' := [(3, .int 4), (2, .int 0), (0, .ref h0), (1, .int p0)]) hx hb dX8_count_68 hl (k := 1) rfl (by decide) (by decide) rfl (fun ls hl => ?_)
      refine lv_goto (tgt := 45) hx hb dX8_count_71 (by decide) ?_
      refine lv_iload_n hx hb dX8_count_45 rfl (lv_at hl 0 rfl) ?_
      refine lv_bipush (v := 16) hx hb dX8_count_46 (by decide) ?_
      refine lv_icmp_ge (tgt := 74) hx hb dX8_count_48 (by decide) (fun c_19 => absurd c_19 (by decide)) (fun c_19 => ?_)
      refine lv_iload_n hx hb dX8_count_51 rfl (lv_at hl 1 rfl) ?_
      refine lv_aload_n hx hb dX8_count_52 rfl (lv_at hl 2 rfl) ?_
      refine va_get (D := (dC, dI)) (ci := 8) (v := .ref q1) (C := RX8) (T := TX8) (N := 17) hx hb hts (by decide +kernel) hown hK hP 0 rfl rfl 1 (by decide) (hts (.fieldLink RX8 7 "KeyAtlasModel" "kind" "[I") (by decide +kernel)) (fun _ h9 => h9) rfl dX8_count_53 ?_
      refine lv_iload_n hx hb dX8_count_56 rfl (lv_at hl 0 rfl) ?_
      refine va_iald (i := 4) hx hb hK hP 1 0 rfl rfl (by unfold vp_in; decide) dX8_count_57 ?_
      refine W.eq (g2 := F0 m 58 ls [.int 0, .int 0]) rfl ?_
      refine lv_if_eq (tgt := 65) hx hb dX8_count_58 (by decide) (fun c_20 => ?_) (fun c_20 => absurd c_20 (by decide))
      refine lv_iconst (v := 0) hx hb dX8_count_65 (by decide) ?_
      refine lv_iadd hx hb dX8_count_66 ?_
      refine lv_topi (fun z_21 ez_21 => ?_)
      obtain rfl : z_21 = (0 : Int32) := ez_21.trans (by decide)
      refine lv_istore_n (lv' := [(2, .int 0), (3, .int 4), (0, .ref h0), (1, .int p0)]) hx hb dX8_count_67 rfl hl (by decide) rfl (fun ls hl => ?_)
      refine lv_iinc (v := 5) (lv' := [(3, .int 5), (2, .int 0), (0, .ref h0), (1, .int p0)]) hx hb dX8_count_68 hl (k := 1) rfl (by decide) (by decide) rfl (fun ls hl => ?_)
      refine lv_goto (tgt := 45) hx hb dX8_count_71 (by decide) ?_
      refine lv_iload_n hx hb dX8_count_45 rfl (lv_at hl 0 rfl) ?_
      refine lv_bipush (v := 16) hx hb dX8_count_46 (by decide) ?_
      refine lv_icmp_ge (tgt := 74) hx hb dX8_count_48 (by decide) (fun c_22 => absurd c_22 (by decide)) (fun c_22 => ?_)
      refine lv_iload_n hx hb dX8_count_51 rfl (lv_at hl 1 rfl) ?_
      refine lv_aload_n hx hb dX8_count_52 rfl (lv_at hl 2 rfl) ?_
      refine va_get (D := (dC, dI)) (ci := 8) (v := .ref q1) (C := RX8) (T := TX8) (N := 17) hx hb hts (by decide +kernel) hown hK hP 0 rfl rfl 1 (by decide) (hts (.fieldLink RX8 7 "KeyAtlasModel" "kind" "[I") (by decide +kernel)) (fun _ h9 => h9) rfl dX8_count_53 ?_
      refine lv_iload_n hx hb dX8_count_56 rfl (lv_at hl 0 rfl) ?_
      refine va_iald (i := 5) hx hb hK hP 1 0 rfl rfl (by unfold vp_in; decide) dX8_count_57 ?_
      refine W.eq (g2 := F0 m 58 ls [.int 0, .int 0]) rfl ?_
      refine lv_if_eq (tgt := 65) hx hb dX8_count_58 (by decide) (fun c_23 => ?_) (fun c_23 => absurd c_23 (by decide))
      refine lv_iconst (v := 0) hx hb dX8_count_65 (by decide) ?_
      refine lv_iadd hx hb dX8_count_66 ?_
      refine lv_topi (fun z_24 ez_24 => ?_)
      obtain rfl : z_24 = (0 : Int32) := ez_24.trans (by decide)
      refine lv_istore_n (lv' := [(2, .int 0), (3, .int 5), (0, .ref h0), (1, .int p0)]) hx hb dX8_count_67 rfl hl (by decide) rfl (fun ls hl => ?_)
      refine lv_iinc (v := 6) (lv' := [(3, .int 6), (2, .int 0), (0, .ref h0), (1, .int p0)]) hx hb dX8_count_68 hl (k := 1) rfl (by decide) (by decide) rfl (fun ls hl => ?_)
      refine lv_goto (tgt := 45) hx hb dX8_count_71 (by decide) ?_
      refine lv_iload_n hx hb dX8_count_45 rfl (lv_at hl 0 rfl) ?_
      refine lv_bipush (v := 16) hx hb dX8_count_46 (by decide) ?_
      refine lv_icmp_ge (tgt := 74) hx hb dX8_count_48 (by decide) (fun c_25 => absurd c_25 (by decide)) (fun c_25 => ?_)
      refine lv_iload_n hx hb dX8_count_51 rfl (lv_at hl 1 rfl) ?_
      refine lv_aload_n hx hb dX8_count_52 rfl (lv_at hl 2 rfl) ?_
      refine va_get (D := (dC, dI)) (ci := 8) (v := .ref q1) (C := RX8) (T := TX8) (N := 17) hx hb hts (by decide +kernel) hown hK hP 0 rfl rfl 1 (by decide) (hts (.fieldLink RX8 7 "KeyAtlasModel" "kind" "[I") (by decide +kernel)) (fun _ h9 => h9) rfl dX8_count_53 ?_
      refine lv_iload_n hx hb dX8_count_56 rfl (lv_at hl 0 rfl) ?_
      refine va_iald (i := 6) hx hb hK hP 1 0 rfl rfl (by unfold vp_in; decide) dX8_count_57 ?_
      refine W.eq (g2 := F0 m 58 ls [.int 0, .int 0]) rfl ?_
      refine lv_if_eq (tgt := 65) hx hb dX8_count_58 (by decide) (fun c_26 => ?_) (fun c_26 => absurd c_26 (by decide))
      refine lv_iconst (v := 0) hx hb dX8_count_65 (by decide) ?_
      refine lv_iadd hx hb dX8_count_66 ?_
      refine lv_topi (fun z_27 ez_27 => ?_)
      obtain rfl : z_27 = (0 : Int32) := ez_27.trans (by decide)
      refine lv_istore_n (lv' := [(2, .int 0), (3, .int 6), (0, .ref h0), (1, .int p0)]) hx hb dX8_count_67 rfl hl (by decide) rfl (fun ls hl => ?_)
      refine lv_iinc (v := 7) (lv' := [(3, .int 7), (2, .int 0), (0, .ref h0), (1, .int p0)]) hx hb dX8_count_68 hl (k := 1) rfl (by decide) (by decide) rfl (fun ls hl => ?_)
      refine lv_goto (tgt := 45) hx hb dX8_count_71 (by decide) ?_
      refine lv_iload_n hx hb dX8_count_45 rfl (lv_at hl 0 rfl) ?_
      refine lv_bipush (v := 16) hx hb dX8_count_46 (by decide) ?_
      refine lv_icmp_ge (tgt := 74) hx hb dX8_count_48 (by decide) (fun c_28 => absurd c_28 (by decide)) (fun c_28 => ?_)
      refine lv_iload_n hx hb dX8_count_51 rfl (lv_at hl 1 rfl) ?_
      refine lv_aload_n hx hb dX8_count_52 rfl (lv_at hl 2 rfl) ?_
      refine va_get (D := (dC, dI)) (ci := 8) (v := .ref q1) (C := RX8) (T := TX8) (N := 17) hx hb hts (by decide +kernel) hown hK hP 0 rfl rfl 1 (by decide) (hts (.fieldLink RX8 7 "KeyAtlasModel" "kind" "[I") (by decide +kernel)) (fun _ h9 => h9) rfl dX8_count_53 ?_
      refine lv_iload_n hx hb dX8_count_56 rfl (lv_at hl 0 rfl) ?_
      refine va_iald (i := 7) hx hb hK hP 1 0 rfl rfl (by unfold vp_in; decide) dX8_count_57 ?_
      refine W.eq (g2 := F0 m 58 ls [.int 0, .int 0]) rfl ?_
      refine lv_if_eq (tgt := 65) hx hb dX8_count_58 (by decide) (fun c_29 => ?_) (fun c_29 => absurd c_29 (by decide))
      refine lv_iconst (v := 0) hx hb dX8_count_65 (by decide) ?_
      refine lv_iadd hx hb dX8_count_66 ?_
      refine lv_topi (fun z_30 ez_30 => ?_)
      obtain rfl : z_30 = (0 : Int32) := ez_30.trans (by decide)
      refine lv_istore_n (lv' := [(2, .int 0), (3, .int 7), (0, .ref h0), (1, .int p0)]) hx hb dX8_count_67 rfl hl (by decide) rfl (fun ls hl => ?_)
      refine lv_iinc (v := 8) (lv' := [(3, .int 8), (2, .int 0), (0, .ref h0), (1, .int p0)]) hx hb dX8_count_68 hl (k := 1) rfl (by decide) (by decide) rfl (fun ls hl => ?_)
      refine lv_goto (tgt := 45) hx hb dX8_count_71 (by decide) ?_
      refine lv_iload_n hx hb dX8_count_45 rfl (lv_at hl 0 rfl) ?_
      refine lv_bipush (v := 16) hx hb dX8_count_46 (by decide) ?_
      refine lv_icmp_ge (tgt := 74) hx hb dX8_count_48 (by decide) (fun c_31 => absurd c_31 (by decide)) (fun c_31 => ?_)
      refine lv_iload_n hx hb dX8_count_51 rfl (lv_at hl 1 rfl) ?_
      refine lv_aload_n hx hb dX8_count_52 rfl (lv_at hl 2 rfl) ?_
      refine va_get (D := (dC, dI)) (ci := 8) (v := .ref q1) (C := RX8) (T := TX8) (N := 17) hx hb hts (by decide +kernel) hown hK hP 0 rfl rfl 1 (by decide) (hts (.fieldLink RX8 7 "KeyAtlasModel" "kind" "[I") (by decide +kernel)) (fun _ h9 => h9) rfl dX8_count_53 ?_
      refine lv_iload_n hx hb dX8_count_56 rfl (lv_at hl 0 rfl) ?_
      refine va_iald (i := 8) hx hb hK hP 1 0 rfl rfl (by unfold vp_in; decide) dX8_count_57 ?_
      refine W.eq (g2 := F0 m 58 ls [.int 0, .int 0]) rfl ?_
      refine lv_if_eq (tgt := 65) hx hb dX8_count_58 (by decide) (fun c_32 => ?_) (fun c_32 => absurd c_32 (by decide))
      refine lv_iconst (v := 0) hx hb dX8_count_65 (by decide) ?_
      refine lv_iadd hx hb dX8_count_66 ?_
      refine lv_topi (fun z_33 ez_33 => ?_)
      obtain rfl : z_33 = (0 : Int32) := ez_33.trans (by decide)
      refine lv_istore_n (lv' := [(2, .int 0), (3, .int 8), (0, .ref h0), (1, .int p0)]) hx hb dX8_count_67 rfl hl (by decide) rfl (fun ls hl => ?_)
      refine lv_iinc (v := 9) (lv' := [(3, .int 9), (2, .int 0), (0, .ref h0), (1, .int p0)]) hx hb dX8_count_68 hl (k := 1) rfl (by decide) (by decide) rfl (fun ls hl => ?_)
      refine lv_goto (tgt := 45) hx hb dX8_count_71 (by decide) ?_
      refine lv_iload_n hx hb dX8_count_45 rfl (lv_at hl 0 rfl) ?_
      refine lv_bipush (v := 16) hx hb dX8_count_46 (by decide) ?_
      refine lv_icmp_ge (tgt := 74) hx hb dX8_count_48 (by decide) (fun c_34 => absurd c_34 (by decide)) (fun c_34 => ?_)
      refine lv_iload_n hx hb dX8_count_51 rfl (lv_at hl 1 rfl) ?_
      refine lv_aload_n hx hb dX8_count_52 rfl (lv_at hl 2 rfl) ?_
      refine va_get (D := (dC, dI)) (ci := 8) (v := .ref q1) (C := RX8) (T := TX8) (N := 17) hx hb hts (by decide +kernel) hown hK hP 0 rfl rfl 1 (by decide) (hts (.fieldLink RX8 7 "KeyAtlasModel" "kind" "[I") (by decide +kernel)) (fun _ h9 => h9) rfl dX8_count_53 ?_
      refine lv_iload_n hx hb dX8_count_56 rfl (lv_at hl 0 rfl) ?_
      refine va_iald (i := 9) hx hb hK hP 1 0 rfl rfl (by unfold vp_in; decide) dX8_count_57 ?_
      refine W.eq (g2 := F0 m 58 ls [.int 0, .int 0]) rfl ?_
      refine lv_if_eq (tgt := 65) hx hb dX8_count_58 (by decide) (fun c_35 => ?_) (fun c_35 => absurd c_35 (by decide))
      refine lv_iconst (v := 0) hx hb dX8_count_65 (by decide) ?_
      refine lv_iadd hx hb dX8_count_66 ?_
      refine lv_topi (fun z_36 ez_36 => ?_)
      obtain rfl : z_36 = (0 : Int32) := ez_36.trans (by decide)
      refine lv_istore_n (lv' := [(2, .int 0), (3, .int 9), (0, .ref h0), (1, .int p0)]) hx hb dX8_count_67 rfl hl (by decide) rfl (fun ls hl => ?_)
      refine lv_iinc (v := 10) (lv' := [(3, .int 10), (2, .int 0), (0, .ref h0), (1, .int p0)]) hx hb dX8_count_68 hl (k := 1) rfl (by decide) (by decide) rfl (fun ls hl => ?_)
      refine lv_goto (tgt := 45) hx hb dX8_count_71 (by decide) ?_
      refine lv_iload_n hx hb dX8_count_45 rfl (lv_at hl 0 rfl) ?_
      refine lv_bipush (v := 16) hx hb dX8_count_46 (by decide) ?_
      refine lv_icmp_ge (tgt := 74) hx hb dX8_count_48 (by decide) (fun c_37 => absurd c_37 (by decide)) (fun c_37 => ?_)
      refine lv_iload_n hx hb dX8_count_51 rfl (lv_at hl 1 rfl) ?_
      refine lv_aload_n hx hb dX8_count_52 rfl (lv_at hl 2 rfl) ?_
      refine va_get (D := (dC, dI)) (ci := 8) (v := .ref q1) (C := RX8) (T := TX8) (N := 17) hx hb hts (by decide +kernel) hown hK hP 0 rfl rfl 1 (by decide) (hts (.fieldLink RX8 7 "KeyAtlasModel" "kind" "[I") (by decide +kernel)) (fun _ h9 => h9) rfl dX8_count_53 ?_
      refine lv_iload_n hx hb dX8_count_56 rfl (lv_at hl 0 rfl) ?_
      refine va_iald (i := 10) hx hb hK hP 1 0 rfl rfl (by unfold vp_in; decide) dX8_count_57 ?_
      refine W.eq (g2 := F0 m 58 ls [.int 0, .int 0]) rfl ?_
      refine lv_if_eq (tgt := 65) hx hb dX8_count_58 (by decide) (fun c_38 => ?_) (fun c_38 => absurd c_38 (by decide))
      refine lv_iconst (v := 0) hx hb dX8_count_65 (by decide) ?_
      refine lv_iadd hx hb dX8_count_66 ?_
      refine lv_topi (fun z_39 ez_39 => ?_)
      obtain rfl : z_39 = (0 : Int32) := ez_39.trans (by decide)
      refine lv_istore_n (lv' := [(2, .int 0), (3, .int 10), (0, .ref h0), (1, .int p0)]) hx hb dX8_count_67 rfl hl (by decide) rfl (fun ls hl => ?_)
      refine lv_iinc (v := 11) (lv' := [(3, .int 11), (2, .int 0), (0, .ref h0), (1, .int p0)]) hx hb dX8_count_68 hl (k := 1) rfl (by decide) (by decide) rfl (fun ls hl => ?_)
      refine lv_goto (tgt := 45) hx hb dX8_count_71 (by decide) ?_
      refine lv_iload_n hx hb dX8_count_45 rfl (lv_at hl 0 rfl) ?_
      refine lv_bipush (v := 16) hx hb dX8_count_46 (by decide) ?_
      refine lv_icmp_ge (tgt := 74) hx hb dX8_count_48 (by decide) (fun c_40 => absurd c_40 (by decide)) (fun c_40 => ?_)
      refine lv_iload_n hx hb dX8_count_51 rfl (lv_at hl 1 rfl) ?_
      refine lv_aload_n hx hb dX8_count_52 rfl (lv_at hl 2 rfl) ?_
      refine va_get (D := (dC, dI)) (ci := 8) (v := .ref q1) (C := RX8) (T := TX8) (N := 17) hx hb hts (by decide +kernel) hown hK hP 0 rfl rfl 1 (by decide) (hts (.fieldLink RX8 7 "KeyAtlasModel" "kind" "[I") (by decide +kernel)) (fun _ h9 => h9) rfl dX8_count_53 ?_
      refine lv_iload_n hx hb dX8_count_56 rfl (lv_at hl 0 rfl) ?_
      refine va_iald (i := 11) hx hb hK hP 1 0 rfl rfl (by unfold vp_in; decide) dX8_count_57 ?_
      refine W.eq (g2 := F0 m 58 ls [.int 0, .int 0]) rfl ?_
      refine lv_if_eq (tgt := 65) hx hb dX8_count_58 (by decide) (fun c_41 => ?_) (fun c_41 => absurd c_41 (by decide))
      refine lv_iconst (v := 0) hx hb dX8_count_65 (by decide) ?_
      refine lv_iadd hx hb dX8_count_66 ?_
      refine lv_topi (fun z_42 ez_42 => ?_)
      obtain rfl : z_42 = (0 : Int32) := ez_42.trans (by decide)
      refine lv_istore_n (lv' := [(2, .int 0), (3, .int 11), (0, .ref h0), (1, .int p0)]) hx hb dX8_count_67 rfl hl (by decide) rfl (fun ls hl => ?_)
      refine lv_iinc (v := 12) (lv' := [(3, .int 12), (2, .int 0), (0, .ref h0), (1, .int p0)]) hx hb dX8_count_68 hl (k := 1) rfl (by decide) (by decide) rfl (fun ls hl => ?_)
      refine lv_goto (tgt := 45) hx hb dX8_count_71 (by decide) ?_
      refine lv_iload_n hx hb dX8_count_45 rfl (lv_at hl 0 rfl) ?_
      refine lv_bipush (v := 16) hx hb dX8_count_46 (by decide) ?_
      refine lv_icmp_ge (tgt := 74) hx hb dX8_count_48 (by decide) (fun c_43 => absurd c_43 (by decide)) (fun c_43 => ?_)
      refine lv_iload_n hx hb dX8_count_51 rfl (lv_at hl 1 rfl) ?_
      refine lv_aload_n hx hb dX8_count_52 rfl (lv_at hl 2 rfl) ?_
      refine va_get (D := (dC, dI)) (ci := 8) (v := .ref q1) (C := RX8) (T := TX8) (N := 17) hx hb hts (by decide +kernel) hown hK hP 0 rfl rfl 1 (by decide) (hts (.fieldLink RX8 7 "KeyAtlasModel" "kind" "[I") (by decide +kernel)) (fun _ h9 => h9) rfl dX8_count_53 ?_
      refine lv_iload_n hx hb dX8_count_56 rfl (lv_at hl 0 rfl) ?_
      refine va_iald (i := 12) hx hb hK hP 1 0 rfl rfl (by unfold vp_in; decide) dX8_count_57 ?_
      refine W.eq (g2 := F0 m 58 ls [.int 0, .int 0]) rfl ?_
      refine lv_if_eq (tgt := 65) hx hb dX8_count_58 (by decide) (fun c_44 => ?_) (fun c_44 => absurd c_44 (by decide))
      refine lv_iconst (v := 0) hx hb dX8_count_65 (by decide) ?_
      refine lv_iadd hx hb dX8_count_66 ?_
      refine lv_topi (fun z_45 ez_45 => ?_)
      obtain rfl : z_45 = (0 : Int32) := ez_45.trans (by decide)
      refine lv_istore_n (lv' := [(2, .int 0), (3, .int 12), (0, .ref h0), (1, .int p0)]) hx hb dX8_count_67 rfl hl (by decide) rfl (fun ls hl => ?_)
      refine lv_iinc (v := 13) (lv' := [(3, .int 13), (2, .int 0), (0, .ref h0), (1, .int p0)]) hx hb dX8_count_68 hl (k := 1) rfl (by decide) (by decide) rfl (fun ls hl => ?_)
      refine lv_goto (tgt := 45) hx hb dX8_count_71 (by decide) ?_
      refine lv_iload_n hx hb dX8_count_45 rfl (lv_at hl 0 rfl) ?_
      refine lv_bipush (v := 16) hx hb dX8_count_46 (by decide) ?_
      refine lv_icmp_ge (tgt := 74) hx hb dX8_count_48 (by decide) (fun c_46 => absurd c_46 (by decide)) (fun c_46 => ?_)
      refine lv_iload_n hx hb dX8_count_51 rfl (lv_at hl 1 rfl) ?_
      refine lv_aload_n hx hb dX8_count_52 rfl (lv_at hl 2 rfl) ?_
      refine va_get (D := (dC, dI)) (ci := 8) (v := .ref q1) (C := RX8) (T := TX8) (N := 17) hx hb hts (by decide +kernel) hown hK hP 0 rfl rfl 1 (by decide) (hts (.fieldLink RX8 7 "KeyAtlasModel" "kind" "[I") (by decide +kernel)) (fun _ h9 => h9) rfl dX8_count_53 ?_
      refine lv_iload_n hx hb dX8_count_56 rfl (lv_at hl 0 rfl) ?_
      refine va_iald (i := 13) hx hb hK hP 1 0 rfl rfl (by unfold vp_in; decide) dX8_count_57 ?_
      refine W.eq (g2 := F0 m 58 ls [.int 0, .int 0]) rfl ?_
      refine lv_if_eq (tgt := 65) hx hb dX8_count_58 (by decide) (fun c_47 => ?_) (fun c_47 => absurd c_47 (by decide))
      refine lv_iconst (v := 0) hx hb dX8_count_65 (by decide) ?_
      refine lv_iadd hx hb dX8_count_66 ?_
      refine lv_topi (fun z_48 ez_48 => ?_)
      obtain rfl : z_48 = (0 : Int32) := ez_48.trans (by decide)
      refine lv_istore_n (lv' := [(2, .int 0), (3, .int 13), (0, .ref h0), (1, .int p0)]) hx hb dX8_count_67 rfl hl (by decide) rfl (fun ls hl => ?_)
      refine lv_iinc (v := 14) (lv' := [(3, .int 14), (2, .int 0), (0, .ref h0), (1, .int p0)]) hx hb dX8_count_68 hl (k := 1) rfl (by decide) (by decide) rfl (fun ls hl => ?_)
      refine lv_goto (tgt := 45) hx hb dX8_count_71 (by decide) ?_
      refine lv_iload_n hx hb dX8_count_45 rfl (lv_at hl 0 rfl) ?_
      refine lv_bipush (v := 16) hx hb dX8_count_46 (by decide) ?_
      refine lv_icmp_ge (tgt := 74) hx hb dX8_count_48 (by decide) (fun c_49 => absurd c_49 (by decide)) (fun c_49 => ?_)
      refine lv_iload_n hx hb dX8_count_51 rfl (lv_at hl 1 rfl) ?_
      refine lv_aload_n hx hb dX8_count_52 rfl (lv_at hl 2 rfl) ?_
      refine va_get (D := (dC, dI)) (ci := 8) (v := .ref q1) (C := RX8) (T := TX8) (N := 17) hx hb hts (by decide +kernel) hown hK hP 0 rfl rfl 1 (by decide) (hts (.fieldLink RX8 7 "KeyAtlasModel" "kind" "[I") (by decide +kernel)) (fun _ h9 => h9) rfl dX8_count_53 ?_
      refine lv_iload_n hx hb dX8_count_56 rfl (lv_at hl 0 rfl) ?_
      refine va_iald (i := 14) hx hb hK hP 1 0 rfl rfl (by unfold vp_in; decide) dX8_count_57 ?_
      refine W.eq (g2 := F0 m 58 ls [.int 0, .int 0]) rfl ?_
      refine lv_if_eq (tgt := 65) hx hb dX8_count_58 (by decide) (fun c_50 => ?_) (fun c_50 => absurd c_50 (by decide))
      refine lv_iconst (v := 0) hx hb dX8_count_65 (by decide) ?_
      refine lv_iadd hx hb dX8_count_66 ?_
      refine lv_topi (fun z_51 ez_51 => ?_)
      obtain rfl : z_51 = (0 : Int32) := ez_51.trans (by decide)
      refine lv_istore_n (lv' := [(2, .int 0), (3, .int 14), (0, .ref h0), (1, .int p0)]) hx hb dX8_count_67 rfl hl (by decide) rfl (fun ls hl => ?_)
      refine lv_iinc (v := 15) (lv' := [(3, .int 15), (2, .int 0), (0, .ref h0), (1, .int p0)]) hx hb dX8_count_68 hl (k := 1) rfl (by decide) (by decide) rfl (fun ls hl => ?_)
      refine lv_goto (tgt := 45) hx hb dX8_count_71 (by decide) ?_
      refine lv_iload_n hx hb dX8_count_45 rfl (lv_at hl 0 rfl) ?_
      refine lv_bipush (v := 16) hx hb dX8_count_46 (by decide) ?_
      refine lv_icmp_ge (tgt := 74) hx hb dX8_count_48 (by decide) (fun c_52 => absurd c_52 (by decide)) (fun c_52 => ?_)
      refine lv_iload_n hx hb dX8_count_51 rfl (lv_at hl 1 rfl) ?_
      refine lv_aload_n hx hb dX8_count_52 rfl (lv_at hl 2 rfl) ?_
      refine va_get (D := (dC, dI)) (ci := 8) (v := .ref q1) (C := RX8) (T := TX8) (N := 17) hx hb hts (by decide +kernel) hown hK hP 0 rfl rfl 1 (by decide) (hts (.fieldLink RX8 7 "KeyAtlasModel" "kind" "[I") (by decide +kernel)) (fun _ h9 => h9) rfl dX8_count_53 ?_
      refine lv_iload_n hx hb dX8_count_56 rfl (lv_at hl 0 rfl) ?_
      refine va_iald (i := 15) hx hb hK hP 1 0 rfl rfl (by unfold vp_in; decide) dX8_count_57 ?_
      refine W.eq (g2 := F0 m 58 ls [.int 0, .int 0]) rfl ?_
      refine lv_if_eq (tgt := 65) hx hb dX8_count_58 (by decide) (fun c_53 => ?_) (fun c_53 => absurd c_53 (by decide))
      refine lv_iconst (v := 0) hx hb dX8_count_65 (by decide) ?_
      refine lv_iadd hx hb dX8_count_66 ?_
      refine lv_topi (fun z_54 ez_54 => ?_)
      obtain rfl : z_54 = (0 : Int32) := ez_54.trans (by decide)
      refine lv_istore_n (lv' := [(2, .int 0), (3, .int 15), (0, .ref h0), (1, .int p0)]) hx hb dX8_count_67 rfl hl (by decide) rfl (fun ls hl => ?_)
      refine lv_iinc (v := 16) (lv' := [(3, .int 16), (2, .int 0), (0, .ref h0), (1, .int p0)]) hx hb dX8_count_68 hl (k := 1) rfl (by decide) (by decide) rfl (fun ls hl => ?_)
      refine lv_goto (tgt := 45) hx hb dX8_count_71 (by decide) ?_
      refine lv_iload_n hx hb dX8_count_45 rfl (lv_at hl 0 rfl) ?_
      refine lv_bipush (v := 16) hx hb dX8_count_46 (by decide) ?_
      refine lv_icmp_ge (tgt := 74) hx hb dX8_count_48 (by decide) (fun c_55 => ?_) (fun c_55 => absurd c_55 (by decide))
      refine lv_iload_n hx hb dX8_count_74 rfl (lv_at hl 1 rfl) ?_
      have hP9 := hP.sub (ws' := [(h0, .inr (8, [.int 0, .ref q1, v2, .ref q3, .ref q4, .ref q5, .ref q6, .ref q7, .ref q8, v9, v10, v11, v12, v13, v14, v15, v16]))]) [0] rfl
      have hD9 := hD.sub (ws' := [(h0, .inr (8, [.int 0, .ref q1, v2, .ref q3, .ref q4, .ref q5, .ref q6, .ref q7, .ref q8, v9, v10, v11, v12, v13, v14, v15, v16]))]) [0] (by decide) rfl
      have hK9 := hK.sub (tys' := []) [] rfl
      refine W.widen (k := 0) (n := 0) (Nat.le_of_ble_eq_true rfl) (Nat.le_of_ble_eq_true rfl) ?_
      exact W.iret (v := 0) hx hb hr (fun t ht hW => ⟨⟨0, 0, rfl, tx_at2 (P := ctIs p0) (n := 0) (m := 0) (by decide) (by decide) (by unfold ctIs; omega), by rw [ht]; exact hP9, va_K.moved hW.alike hK9, hD9⟩, hS.F ht⟩) hS.2.2 dX8_count_75
  ·
    have ic_1 : ¬ p0.toInt = 0 := tx_ne rfl (by decide) c_1
    refine lv_iload_n hx hb dX8_count_4 rfl (lv_at hl 1 rfl) ?_
    refine lv_bipush (v := 10) hx hb dX8_count_5 (by decide) ?_
    refine lv_bipush (v := 25) hx hb dX8_count_7 (by decide) ?_
    have hPc := hP.sub (ws' := []) [] rfl
    have hDc := hD.sub (ws' := []) [] (by decide) rfl
    have hKc := hK.sub (tys' := []) [] rfl
    have hFc := va_free (wc := []) hD hS hA [] rfl
    refine va_calli (va_runS (As := [.int p0, .int 10, .int 25]) (rest := []) ⟨hx, hb, hml, hown, hts⟩ (c_X8_in l  dC dI s.heap.size p0 10 25 10 25 (by decide) (by decide)) (va_cwS 3 hts gP_X8_count_in rfl rfl rfl (by decide +kernel) ⟨(Nat.le_of_ble_eq_true rfl), (Nat.le_of_ble_eq_true rfl)⟩) ⟨pk_blind, pk_call hPc hKc hDc⟩ rfl rfl hl.1 rfl (lv_room (Nat.le_of_ble_eq_true rfl)) dX8_count_9 ⟨(Nat.le_of_ble_eq_true rfl), (Nat.le_of_ble_eq_true rfl)⟩) hS (fun q _ h => hFc q h) hFc (fun r_56 ur_56 t H1 locs ht hvm hw hB hz1 hk1 hS => ?_)
    try dsimp only at hw
    have jr_56 := hw
    obtain ⟨hP, hD⟩ := va_join (wr := [(h0, .inr (8, [.int th, .ref q1, v2, .ref q3, .ref q4, .ref q5, .ref q6, .ref q7, .ref q8, v9, v10, v11, v12, v13, v14, v15, v16])), (q1, .inl (c1, 16, .inl (fun _ => (0 : Int32)))), (q3, .inl (c3, 16, .inl (fun _ => (0 : Int32)))), (q4, .inl (c4, 16, .inl (fun _ => (0 : Int32)))), (q5, .inl (c5, 16, .inl (fun _ => (0 : Int32)))), (q6, .inl (c6, 16, .inl (fun _ => (0 : Int32)))), (q7, .inl (c7, 16, .inl (fun _ => (0 : Int32)))), (q8, .inl (c8, 16, .inl (fun _ => (0 : Int32))))]) (w1 := []) hP hD [] [0, 1, 2, 3, 4, 5, 6, 7] rfl rfl (by decide) (by decide) hk1 hFc tx_P0 tx_D0
    clear hk1 hz1 ht hPc hDc hKc
    generalize H1 = H at hP hS ⊢
    have hP : va_P (dC, dI) vwCl [(h0, .inr (8, [.int th, .ref q1, v2, .ref q3, .ref q4, .ref q5, .ref q6, .ref q7, .ref q8, v9, v10, v11, v12, v13, v14, v15, v16])), (q1, .inl (c1, 16, .inl (fun _ => (0 : Int32)))), (q3, .inl (c3, 16, .inl (fun _ => (0 : Int32)))), (q4, .inl (c4, 16, .inl (fun _ => (0 : Int32)))), (q5, .inl (c5, 16, .inl (fun _ => (0 : Int32)))), (q6, .inl (c6, 16, .inl (fun _ => (0 : Int32)))), (q7, .inl (c7, 16, .inl (fun _ => (0 : Int32)))), (q8, .inl (c8, 16, .inl (fun _ => (0 : Int32))))] H := hP
    have hD : va_D A [(h0, .inr (8, [.int th, .ref q1, v2, .ref q3, .ref q4, .ref q5, .ref q6, .ref q7, .ref q8, v9, v10, v11, v12, v13, v14, v15, v16])), (q1, .inl (c1, 16, .inl (fun _ => (0 : Int32)))), (q3, .inl (c3, 16, .inl (fun _ => (0 : Int32)))), (q4, .inl (c4, 16, .inl (fun _ => (0 : Int32)))), (q5, .inl (c5, 16, .inl (fun _ => (0 : Int32)))), (q6, .inl (c6, 16, .inl (fun _ => (0 : Int32)))), (q7, .inl (c7, 16, .inl (fun _ => (0 : Int32)))), (q8, .inl (c8, 16, .inl (fun _ => (0 : Int32))))] := hD
    refine W.widen (k := 0) (n := 0) (Nat.le_of_ble_eq_true rfl) (Nat.le_of_ble_eq_true rfl) ?_
    refine W.eq (g2 := F0 m 12 ls [.int r_56]) rfl ?_
    refine lv_if_ne (tgt := 32) hx hb dX8_count_12 (by decide) (fun c_57 => ?_) (fun c_57 => ?_)
    ·
      have ic_57 : ¬ r_56.toInt = 0 := tx_ne rfl (by decide) c_57
      refine lv_aload_n hx hb dX8_count_32 rfl (lv_at hl 0 rfl) ?_
      refine lv_iconst (v := 0) hx hb dX8_count_33 (by decide) ?_
      refine va_put (D := (dC, dI)) (ci := 8) (v := .int 0) (ty := .int) (C := RX8) (T := TX8) (N := 17) hx hb hts (by decide +kernel) tyX8 tyX8_ok nmX8 hown hK hP hD hS 0 rfl rfl 0 (by decide) (hts (.fieldLink RX8 60 "KeyAtlasModel" "thrown" "I") (by decide +kernel)) (fun _ h9 => h9) rfl (by decide +kernel) rfl rfl (Nat.le_of_ble_eq_true rfl) dX8_count_34 (fun H locs hP hD hS => ?_)
      have hP : va_P (dC, dI) vwCl [(h0, .inr (8, [.int 0, .ref q1, v2, .ref q3, .ref q4, .ref q5, .ref q6, .ref q7, .ref q8, v9, v10, v11, v12, v13, v14, v15, v16])), (q1, .inl (c1, 16, .inl (fun _ => (0 : Int32)))), (q3, .inl (c3, 16, .inl (fun _ => (0 : Int32)))), (q4, .inl (c4, 16, .inl (fun _ => (0 : Int32)))), (q5, .inl (c5, 16, .inl (fun _ => (0 : Int32)))), (q6, .inl (c6, 16, .inl (fun _ => (0 : Int32)))), (q7, .inl (c7, 16, .inl (fun _ => (0 : Int32)))), (q8, .inl (c8, 16, .inl (fun _ => (0 : Int32))))] H := hP
      have hD : va_D A [(h0, .inr (8, [.int 0, .ref q1, v2, .ref q3, .ref q4, .ref q5, .ref q6, .ref q7, .ref q8, v9, v10, v11, v12, v13, v14, v15, v16])), (q1, .inl (c1, 16, .inl (fun _ => (0 : Int32)))), (q3, .inl (c3, 16, .inl (fun _ => (0 : Int32)))), (q4, .inl (c4, 16, .inl (fun _ => (0 : Int32)))), (q5, .inl (c5, 16, .inl (fun _ => (0 : Int32)))), (q6, .inl (c6, 16, .inl (fun _ => (0 : Int32)))), (q7, .inl (c7, 16, .inl (fun _ => (0 : Int32)))), (q8, .inl (c8, 16, .inl (fun _ => (0 : Int32))))] := hD
      refine lv_iload_n hx hb dX8_count_37 rfl (lv_at hl 1 rfl) ?_
      refine lv_if_ne (tgt := 76) hx hb dX8_count_38 (by decide) (fun c_58 => ?_) (fun c_58 => ?_)
      ·
        have ic_58 : ¬ p0.toInt = 0 := tx_ne rfl (by decide) c_58
        refine lv_iload_n hx hb dX8_count_76 rfl (lv_at hl 1 rfl) ?_
        refine lv_bipush (v := 30) hx hb dX8_count_77 (by decide) ?_
        refine lv_icmp_ge (tgt := 94) hx hb dX8_count_79 (by decide) (fun c_59 => ?_) (fun c_59 => ?_)
        ·
          have ic_59 : 30 ≤ p0.toInt := tx_le (by decide) rfl c_59
          refine lv_aload_n hx hb dX8_count_94 rfl (lv_at hl 0 rfl) ?_
          refine lv_iload_n hx hb dX8_count_95 rfl (lv_at hl 1 rfl) ?_
          refine lv_bipush (v := 30) hx hb dX8_count_96 (by decide) ?_
          refine lv_isub hx hb dX8_count_98 ?_
          have hPc := hP.sub (ws' := [(h0, .inr (8, [.int 0, .ref q1, v2, .ref q3, .ref q4, .ref q5, .ref q6, .ref q7, .ref q8, v9, v10, v11, v12, v13, v14, v15, v16])), (q1, .inl (c1, 16, .inl (fun _ => (0 : Int32))))]) [0, 1] rfl
          have hDc := hD.sub (ws' := [(h0, .inr (8, [.int 0, .ref q1, v2, .ref q3, .ref q4, .ref q5, .ref q6, .ref q7, .ref q8, v9, v10, v11, v12, v13, v14, v15, v16])), (q1, .inl (c1, 16, .inl (fun _ => (0 : Int32))))]) [0, 1] (by decide) rfl
          have hKc := hK.sub (tys' := [(c1, .int)]) [0] rfl
          have hFc := va_free (wc := [(h0, .inr (8, [.int 0, .ref q1, v2, .ref q3, .ref q4, .ref q5, .ref q6, .ref q7, .ref q8, v9, v10, v11, v12, v13, v14, v15, v16])), (q1, .inl (c1, 16, .inl (fun _ => (0 : Int32))))]) hD hS hA [0, 1] rfl
          refine va_calli (va_runV (As := [.int (p0 - 30)]) (rest := []) ⟨hx, hb, hml, hown, hts⟩ (c_X8_isMap l  dC dI H.size h0 q1 c1 0 v2 (.ref q3) (.ref q4) (.ref q5) (.ref q6) (.ref q7) (.ref q8) v9 v10 v11 v12 v13 v14 v15 v16 (p0 - 30) (tx_subin (b := 30) (by decide) (by omega) (by omega) (by omega))) (cwV 1 hts gP_X8_count_isMap rfl rfl rfl (by decide +kernel) ⟨(Nat.le_of_ble_eq_true rfl), (Nat.le_of_ble_eq_true rfl)⟩) ⟨pk_blind, va_recv hKc hPc (ci := 8) (q0 := 0) rfl rfl, pk_call hPc hKc hDc⟩ rfl rfl hl.1 rfl (lv_room (Nat.le_of_ble_eq_true rfl)) dX8_count_99 ⟨(Nat.le_of_ble_eq_true rfl), (Nat.le_of_ble_eq_true rfl)⟩) hS (fun q _ h => hFc q h) hFc (fun r_60 ur_60 t H1 locs ht hvm hw hB hz1 hk1 hS => ?_)
          try dsimp only at hw
          obtain ⟨hP1, hK1, hD1⟩ := hB
          rw [ht] at hP1
          have hK1 := va_K.moved hvm.symm hK1
          obtain ⟨hP, hD⟩ := va_join (wr := [(q3, .inl (c3, 16, .inl (fun _ => (0 : Int32)))), (q4, .inl (c4, 16, .inl (fun _ => (0 : Int32)))), (q5, .inl (c5, 16, .inl (fun _ => (0 : Int32)))), (q6, .inl (c6, 16, .inl (fun _ => (0 : Int32)))), (q7, .inl (c7, 16, .inl (fun _ => (0 : Int32)))), (q8, .inl (c8, 16, .inl (fun _ => (0 : Int32))))]) (w1 := [(h0, .inr (8, [.int 0, .ref q1, v2, .ref q3, .ref q4, .ref q5, .ref q6, .ref q7, .ref q8, v9, v10, v11, v12, v13, v14, v15, v16])), (q1, .inl (c1, 16, .inl (fun _ => (0 : Int32))))]) hP hD [0, 1] [2, 3, 4, 5, 6, 7] rfl rfl (by decide) (by decide) hk1 hFc hP1 hD1
          clear hk1 hz1 ht hPc hDc hKc
          generalize H1 = H at hP hS ⊢
          have hP : va_P (dC, dI) vwCl [(q3, .inl (c3, 16, .inl (fun _ => (0 : Int32)))), (q4, .inl (c4, 16, .inl (fun _ => (0 : Int32)))), (q5, .inl (c5, 16, .inl (fun _ => (0 : Int32)))), (q6, .inl (c6, 16, .inl (fun _ => (0 : Int32)))), (q7, .inl (c7, 16, .inl (fun _ => (0 : Int32)))), (q8, .inl (c8, 16, .inl (fun _ => (0 : Int32)))), (h0, .inr (8, [.int 0, .ref q1, v2, .ref q3, .ref q4, .ref q5, .ref q6, .ref q7, .ref q8, v9, v10, v11, v12, v13, v14, v15, v16])), (q1, .inl (c1, 16, .inl (fun _ => (0 : Int32))))] H := hP
          have hD : va_D A [(q3, .inl (c3, 16, .inl (fun _ => (0 : Int32)))), (q4, .inl (c4, 16, .inl (fun _ => (0 : Int32)))), (q5, .inl (c5, 16, .inl (fun _ => (0 : Int32)))), (q6, .inl (c6, 16, .inl (fun _ => (0 : Int32)))), (q7, .inl (c7, 16, .inl (fun _ => (0 : Int32)))), (q8, .inl (c8, 16, .inl (fun _ => (0 : Int32)))), (h0, .inr (8, [.int 0, .ref q1, v2, .ref q3, .ref q4, .ref q5, .ref q6, .ref q7, .ref q8, v9, v10, v11, v12, v13, v14, v15, v16])), (q1, .inl (c1, 16, .inl (fun _ => (0 : Int32))))] := hD
          refine W.widen (k := 0) (n := 0) (Nat.le_of_ble_eq_true rfl) (Nat.le_of_ble_eq_true rfl) ?_
          obtain rfl : r_60 = 0 := hw
          refine W.eq (g2 := F0 m 102 ls [.int 0]) rfl ?_
          refine lv_if_eq (tgt := 116) hx hb dX8_count_102 (by decide) (fun c_61 => ?_) (fun c_61 => absurd c_61 (by decide))
          refine lv_iconst (v := (-1)) hx hb dX8_count_116 (by decide) ?_
          have hP9 := hP.sub (ws' := [(h0, .inr (8, [.int 0, .ref q1, v2, .ref q3, .ref q4, .ref q5, .ref q6, .ref q7, .ref q8, v9, v10, v11, v12, v13, v14, v15, v16]))]) [6] rfl
          have hD9 := hD.sub (ws' := [(h0, .inr (8, [.int 0, .ref q1, v2, .ref q3, .ref q4, .ref q5, .ref q6, .ref q7, .ref q8, v9, v10, v11, v12, v13, v14, v15, v16]))]) [6] (by decide) rfl
          have hK9 := hK.sub (tys' := []) [] rfl
          refine W.widen (k := 0) (n := 0) (Nat.le_of_ble_eq_true rfl) (Nat.le_of_ble_eq_true rfl) ?_
          exact W.iret (v := -1) hx hb hr (fun t ht hW => ⟨⟨-1, 0, rfl, tx_at2 (P := ctIs p0) (n := 0) (m := -1) (by decide) (by decide) (by unfold ctIs; omega), by rw [ht]; exact hP9, va_K.moved hW.alike hK9, hD9⟩, hS.F ht⟩) hS.2.2 dX8_count_117
        ·
          have ic_59 : p0.toInt < 30 := tx_nle (by decide) rfl c_59
          refine lv_aload_n hx hb dX8_count_82 rfl (lv_at hl 0 rfl) ?_
          refine va_get (D := (dC, dI)) (ci := 8) (v := .ref q1) (C := RX8) (T := TX8) (N := 17) hx hb hts (by decide +kernel) hown hK hP 0 rfl rfl 1 (by decide) (hts (.fieldLink RX8 7 "KeyAtlasModel" "kind" "[I") (by decide +kernel)) (fun _ h9 => h9) rfl dX8_count_83 ?_
          refine lv_iload_n hx hb dX8_count_86 rfl (lv_at hl 1 rfl) ?_
          refine lv_bipush (v := 10) hx hb dX8_count_87 (by decide) ?_
          refine lv_isub hx hb dX8_count_89 ?_
          refine va_iald (i := p0 - 10) hx hb hK hP 1 0 rfl rfl (tx_subin (b := 10) (by decide) (by omega) (by omega) (by omega)) dX8_count_90 ?_
          refine W.eq (g2 := F0 m 91 ls [.int 0]) rfl ?_
          refine lv_iconst (v := 1) hx hb dX8_count_91 (by decide) ?_
          refine lv_isub hx hb dX8_count_92 ?_
          refine lv_topi (fun z_62 ez_62 => ?_)
          obtain rfl : z_62 = (-1 : Int32) := ez_62.trans (by decide)
          have hP9 := hP.sub (ws' := [(h0, .inr (8, [.int 0, .ref q1, v2, .ref q3, .ref q4, .ref q5, .ref q6, .ref q7, .ref q8, v9, v10, v11, v12, v13, v14, v15, v16]))]) [0] rfl
          have hD9 := hD.sub (ws' := [(h0, .inr (8, [.int 0, .ref q1, v2, .ref q3, .ref q4, .ref q5, .ref q6, .ref q7, .ref q8, v9, v10, v11, v12, v13, v14, v15, v16]))]) [0] (by decide) rfl
          have hK9 := hK.sub (tys' := []) [] rfl
          refine W.widen (k := 0) (n := 0) (Nat.le_of_ble_eq_true rfl) (Nat.le_of_ble_eq_true rfl) ?_
          exact W.iret (v := -1) hx hb hr (fun t ht hW => ⟨⟨-1, 0, rfl, tx_at2 (P := ctIs p0) (n := 0) (m := -1) (by decide) (by decide) (by unfold ctIs; omega), by rw [ht]; exact hP9, va_K.moved hW.alike hK9, hD9⟩, hS.F ht⟩) hS.2.2 dX8_count_93
      ·
        have ic_58 : p0.toInt = 0 := tx_eq rfl (by decide) c_58
        refine lv_iconst (v := 0) hx hb dX8_count_41 (by decide) ?_
        refine lv_istore_n (lv' := [(2, .int 0), (0, .ref h0), (1, .int p0)]) hx hb dX8_count_42 rfl hl (by decide) rfl (fun ls hl => ?_)
        refine lv_iconst (v := 0) hx hb dX8_count_43 (by decide) ?_
        refine lv_istore_n (lv' := [(3, .int 0), (2, .int 0), (0, .ref h0), (1, .int p0)]) hx hb dX8_count_44 rfl hl (by decide) rfl (fun ls hl => ?_)
        refine lv_iload_n hx hb dX8_count_45 rfl (lv_at hl 0 rfl) ?_
        refine lv_bipush (v := 16) hx hb dX8_count_46 (by decide) ?_
        refine lv_icmp_ge (tgt := 74) hx hb dX8_count_48 (by decide) (fun c_63 => absurd c_63 (by decide)) (fun c_63 => ?_)
        refine lv_iload_n hx hb dX8_count_51 rfl (lv_at hl 1 rfl) ?_
        refine lv_aload_n hx hb dX8_count_52 rfl (lv_at hl 2 rfl) ?_
        refine va_get (D := (dC, dI)) (ci := 8) (v := .ref q1) (C := RX8) (T := TX8) (N := 17) hx hb hts (by decide +kernel) hown hK hP 0 rfl rfl 1 (by decide) (hts (.fieldLink RX8 7 "KeyAtlasModel" "kind" "[I") (by decide +kernel)) (fun _ h9 => h9) rfl dX8_count_53 ?_
        refine lv_iload_n hx hb dX8_count_56 rfl (lv_at hl 0 rfl) ?_
        refine va_iald (i := 0) hx hb hK hP 1 0 rfl rfl (by unfold vp_in; decide) dX8_count_57 ?_
        refine W.eq (g2 := F0 m 58 ls [.int 0, .int 0]) rfl ?_
        refine lv_if_eq (tgt := 65) hx hb dX8_count_58 (by decide) (fun c_64 => ?_) (fun c_64 => absurd c_64 (by decide))
        refine lv_iconst (v := 0) hx hb dX8_count_65 (by decide) ?_
        refine lv_iadd hx hb dX8_count_66 ?_
        refine lv_topi (fun z_65 ez_65 => ?_)
        obtain rfl : z_65 = (0 : Int32) := ez_65.trans (by decide)
        refine lv_istore_n (lv' := [(2, .int 0), (3, .int 0), (0, .ref h0), (1, .int p0)]) hx hb dX8_count_67 rfl hl (by decide) rfl (fun ls hl => ?_)
        refine lv_iinc (v := 1) (lv' := [(3, .int 1), (2, .int 0), (0, .ref h0), (1, .int p0)]) hx hb dX8_count_68 hl (k := 1) rfl (by decide) (by decide) rfl (fun ls hl => ?_)
        refine lv_goto (tgt := 45) hx hb dX8_count_71 (by decide) ?_
        refine lv_iload_n hx hb dX8_count_45 rfl (lv_at hl 0 rfl) ?_
        refine lv_bipush (v := 16) hx hb dX8_count_46 (by decide) ?_
        refine lv_icmp_ge (tgt := 74) hx hb dX8_count_48 (by decide) (fun c_66 => absurd c_66 (by decide)) (fun c_66 => ?_)
        refine lv_iload_n hx hb dX8_count_51 rfl (lv_at hl 1 rfl) ?_
        refine lv_aload_n hx hb dX8_count_52 rfl (lv_at hl 2 rfl) ?_
        refine va_get (D := (dC, dI)) (ci := 8) (v := .ref q1) (C := RX8) (T := TX8) (N := 17) hx hb hts (by decide +kernel) hown hK hP 0 rfl rfl 1 (by decide) (hts (.fieldLink RX8 7 "KeyAtlasModel" "kind" "[I") (by decide +kernel)) (fun _ h9 => h9) rfl dX8_count_53 ?_
        refine lv_iload_n hx hb dX8_count_56 rfl (lv_at hl 0 rfl) ?_
        refine va_iald (i := 1) hx hb hK hP 1 0 rfl rfl (by unfold vp_in; decide) dX8_count_57 ?_
        refine W.eq (g2 := F0 m 58 ls [.int 0, .int 0]) rfl ?_
        refine lv_if_eq (tgt := 65) hx hb dX8_count_58 (by decide) (fun c_67 => ?_) (fun c_67 => absurd c_67 (by decide))
        refine lv_iconst (v := 0) hx hb dX8_count_65 (by decide) ?_
        refine lv_iadd hx hb dX8_count_66 ?_
        refine lv_topi (fun z_68 ez_68 => ?_)
        obtain rfl : z_68 = (0 : Int32) := ez_68.trans (by decide)
        refine lv_istore_n (lv' := [(2, .int 0), (3, .int 1), (0, .ref h0), (1, .int p0)]) hx hb dX8_count_67 rfl hl (by decide) rfl (fun ls hl => ?_)
        refine lv_iinc (v := 2) (lv' := [(3, .int 2), (2, .int 0), (0, .ref h0), (1, .int p0)]) hx hb dX8_count_68 hl (k := 1) rfl (by decide) (by decide) rfl (fun ls hl => ?_)
        refine lv_goto (tgt := 45) hx hb dX8_count_71 (by decide) ?_
        refine lv_iload_n hx hb dX8_count_45 rfl (lv_at hl 0 rfl) ?_
        refine lv_bipush (v := 16) hx hb dX8_count_46 (by decide) ?_
        refine lv_icmp_ge (tgt := 74) hx hb dX8_count_48 (by decide) (fun c_69 => absurd c_69 (by decide)) (fun c_69 => ?_)
        refine lv_iload_n hx hb dX8_count_51 rfl (lv_at hl 1 rfl) ?_
        refine lv_aload_n hx hb dX8_count_52 rfl (lv_at hl 2 rfl) ?_
        refine va_get (D := (dC, dI)) (ci := 8) (v := .ref q1) (C := RX8) (T := TX8) (N := 17) hx hb hts (by decide +kernel) hown hK hP 0 rfl rfl 1 (by decide) (hts (.fieldLink RX8 7 "KeyAtlasModel" "kind" "[I") (by decide +kernel)) (fun _ h9 => h9) rfl dX8_count_53 ?_
        refine lv_iload_n hx hb dX8_count_56 rfl (lv_at hl 0 rfl) ?_
        refine va_iald (i := 2) hx hb hK hP 1 0 rfl rfl (by unfold vp_in; decide) dX8_count_57 ?_
        refine W.eq (g2 := F0 m 58 ls [.int 0, .int 0]) rfl ?_
        refine lv_if_eq (tgt := 65) hx hb dX8_count_58 (by decide) (fun c_70 => ?_) (fun c_70 => absurd c_70 (by decide))
        refine lv_iconst (v := 0) hx hb dX8_count_65 (by decide) ?_
        refine lv_iadd hx hb dX8_count_66 ?_
        refine lv_topi (fun z_71 ez_71 => ?_)
        obtain rfl : z_71 = (0 : Int32) := ez_71.trans (by decide)
        refine lv_istore_n (lv' := [(2, .int 0), (3, .int 2), (0, .ref h0), (1, .int p0)]) hx hb dX8_count_67 rfl hl (by decide) rfl (fun ls hl => ?_)
        refine lv_iinc (v := 3) (lv' := [(3, .int 3), (2, .int 0), (0, .ref h0), (1, .int p0)]) hx hb dX8_count_68 hl (k := 1) rfl (by decide) (by decide) rfl (fun ls hl => ?_)
        refine lv_goto (tgt := 45) hx hb dX8_count_71 (by decide) ?_
        refine lv_iload_n hx hb dX8_count_45 rfl (lv_at hl 0 rfl) ?_
        refine lv_bipush (v := 16) hx hb dX8_count_46 (by decide) ?_
        refine lv_icmp_ge (tgt := 74) hx hb dX8_count_48 (by decide) (fun c_72 => absurd c_72 (by decide)) (fun c_72 => ?_)
        refine lv_iload_n hx hb dX8_count_51 rfl (lv_at hl 1 rfl) ?_
        refine lv_aload_n hx hb dX8_count_52 rfl (lv_at hl 2 rfl) ?_
        refine va_get (D := (dC, dI)) (ci := 8) (v := .ref q1) (C := RX8) (T := TX8) (N := 17) hx hb hts (by decide +kernel) hown hK hP 0 rfl rfl 1 (by decide) (hts (.fieldLink RX8 7 "KeyAtlasModel" "kind" "[I") (by decide +kernel)) (fun _ h9 => h9) rfl dX8_count_53 ?_
        refine lv_iload_n hx hb dX8_count_56 rfl (lv_at hl 0 rfl) ?_
        refine va_iald (i := 3) hx hb hK hP 1 0 rfl rfl (by unfold vp_in; decide) dX8_count_57 ?_
        refine W.eq (g2 := F0 m 58 ls [.int 0, .int 0]) rfl ?_
        refine lv_if_eq (tgt := 65) hx hb dX8_count_58 (by decide) (fun c_73 => ?_) (fun c_73 => absurd c_73 (by decide))
        refine lv_iconst (v := 0) hx hb dX8_count_65 (by decide) ?_
        refine lv_iadd hx hb dX8_count_66 ?_
        refine lv_topi (fun z_74 ez_74 => ?_)
        obtain rfl : z_74 = (0 : Int32) := ez_74.trans (by decide)
        refine lv_istore_n (lv' := [(2, .int 0), (3, .int 3), (0, .ref h0), (1, .int p0)]) hx hb dX8_count_67 rfl hl (by decide) rfl (fun ls hl => ?_)
        refine lv_iinc (v := 4) (lv' := [(3, .int 4), (2, .int 0), (0, .ref h0), (1, .int p0)]) hx hb dX8_count_68 hl (k := 1) rfl (by decide) (by decide) rfl (fun ls hl => ?_)
        refine lv_goto (tgt := 45) hx hb dX8_count_71 (by decide) ?_
        refine lv_iload_n hx hb dX8_count_45 rfl (lv_at hl 0 rfl) ?_
        refine lv_bipush (v := 16) hx hb dX8_count_46 (by decide) ?_
        refine lv_icmp_ge (tgt := 74) hx hb dX8_count_48 (by decide) (fun c_75 => absurd c_75 (by decide)) (fun c_75 => ?_)
        refine lv_iload_n hx hb dX8_count_51 rfl (lv_at hl 1 rfl) ?_
        refine lv_aload_n hx hb dX8_count_52 rfl (lv_at hl 2 rfl) ?_
        refine va_get (D := (dC, dI)) (ci := 8) (v := .ref q1) (C := RX8) (T := TX8) (N := 17) hx hb hts (by decide +kernel) hown hK hP 0 rfl rfl 1 (by decide) (hts (.fieldLink RX8 7 "KeyAtlasModel" "kind" "[I") (by decide +kernel)) (fun _ h9 => h9) rfl dX8_count_53 ?_
        refine lv_iload_n hx hb dX8_count_56 rfl (lv_at hl 0 rfl) ?_
        refine va_iald (i := 4) hx hb hK hP 1 0 rfl rfl (by unfold vp_in; decide) dX8_count_57 ?_
        refine W.eq (g2 := F0 m 58 ls [.int 0, .int 0]) rfl ?_
        refine lv_if_eq (tgt := 65) hx hb dX8_count_58 (by decide) (fun c_76 => ?_) (fun c_76 => absurd c_76 (by decide))
        refine lv_iconst (v := 0) hx hb dX8_count_65 (by decide) ?_
        refine lv_iadd hx hb dX8_count_66 ?_
        refine lv_topi (fun z_77 ez_77 => ?_)
        obtain rfl : z_77 = (0 : Int32) := ez_77.trans (by decide)
        refine lv_istore_n (lv' := [(2, .int 0), (3, .int 4), (0, .ref h0), (1, .int p0)]) hx hb dX8_count_67 rfl hl (by decide) rfl (fun ls hl => ?_)
        refine lv_iinc (v := 5) (lv' := [(3, .int 5), (2, .int 0), (0, .ref h0), (1, .int p0)]) hx hb dX8_count_68 hl (k := 1) rfl (by decide) (by decide) rfl (fun ls hl => ?_)
        refine lv_goto (tgt := 45) hx hb dX8_count_71 (by decide) ?_
        refine lv_iload_n hx hb dX8_count_45 rfl (lv_at hl 0 rfl) ?_
        refine lv_bipush (v := 16) hx hb dX8_count_46 (by decide) ?_
        refine lv_icmp_ge (tgt := 74) hx hb dX8_count_48 (by decide) (fun c_78 => absurd c_78 (by decide)) (fun c_78 => ?_)
        refine lv_iload_n hx hb dX8_count_51 rfl (lv_at hl 1 rfl) ?_
        refine lv_aload_n hx hb dX8_count_52 rfl (lv_at hl 2 rfl) ?_
        refine va_get (D := (dC, dI)) (ci := 8) (v := .ref q1) (C := RX8) (T := TX8) (N := 17) hx hb hts (by decide +kernel) hown hK hP 0 rfl rfl 1 (by decide) (hts (.fieldLink RX8 7 "KeyAtlasModel" "kind" "[I") (by decide +kernel)) (fun _ h9 => h9) rfl dX8_count_53 ?_
        refine lv_iload_n hx hb dX8_count_56 rfl (lv_at hl 0 rfl) ?_
        refine va_iald (i := 5) hx hb hK hP 1 0 rfl rfl (by unfold vp_in; decide) dX8_count_57 ?_
        refine W.eq (g2 := F0 m 58 ls [.int 0, .int 0]) rfl ?_
        refine lv_if_eq (tgt := 65) hx hb dX8_count_58 (by decide) (fun c_79 => ?_) (fun c_79 => absurd c_79 (by decide))
        refine lv_iconst (v := 0) hx hb dX8_count_65 (by decide) ?_
        refine lv_iadd hx hb dX8_count_66 ?_
        refine lv_topi (fun z_80 ez_80 => ?_)
        obtain rfl : z_80 = (0 : Int32) := ez_80.trans (by decide)
        refine lv_istore_n (lv' := [(2, .int 0), (3, .int 5), (0, .ref h0), (1, .int p0)]) hx hb dX8_count_67 rfl hl (by decide) rfl (fun ls hl => ?_)
        refine lv_iinc (v := 6) (lv' := [(3, .int 6), (2, .int 0), (0, .ref h0), (1, .int p0)]) hx hb dX8_count_68 hl (k := 1) rfl (by decide) (by decide) rfl (fun ls hl => ?_)
        refine lv_goto (tgt := 45) hx hb dX8_count_71 (by decide) ?_
        refine lv_iload_n hx hb dX8_count_45 rfl (lv_at hl 0 rfl) ?_
        refine lv_bipush (v := 16) hx hb dX8_count_46 (by decide) ?_
        refine lv_icmp_ge (tgt := 74) hx hb dX8_count_48 (by decide) (fun c_81 => absurd c_81 (by decide)) (fun c_81 => ?_)
        refine lv_iload_n hx hb dX8_count_51 rfl (lv_at hl 1 rfl) ?_
        refine lv_aload_n hx hb dX8_count_52 rfl (lv_at hl 2 rfl) ?_
        refine va_get (D := (dC, dI)) (ci := 8) (v := .ref q1) (C := RX8) (T := TX8) (N := 17) hx hb hts (by decide +kernel) hown hK hP 0 rfl rfl 1 (by decide) (hts (.fieldLink RX8 7 "KeyAtlasModel" "kind" "[I") (by decide +kernel)) (fun _ h9 => h9) rfl dX8_count_53 ?_
        refine lv_iload_n hx hb dX8_count_56 rfl (lv_at hl 0 rfl) ?_
        refine va_iald (i := 6) hx hb hK hP 1 0 rfl rfl (by unfold vp_in; decide) dX8_count_57 ?_
        refine W.eq (g2 := F0 m 58 ls [.int 0, .int 0]) rfl ?_
        refine lv_if_eq (tgt := 65) hx hb dX8_count_58 (by decide) (fun c_82 => ?_) (fun c_82 => absurd c_82 (by decide))
        refine lv_iconst (v := 0) hx hb dX8_count_65 (by decide) ?_
        refine lv_iadd hx hb dX8_count_66 ?_
        refine lv_topi (fun z_83 ez_83 => ?_)
        obtain rfl : z_83 = (0 : Int32) := ez_83.trans (by decide)
        refine lv_istore_n (lv' := [(2, .int 0), (3, .int 6), (0, .ref h0), (1, .int p0)]) hx hb dX8_count_67 rfl hl (by decide) rfl (fun ls hl => ?_)
        refine lv_iinc (v := 7) (lv' := [(3, .int 7), (2, .int 0), (0, .ref h0), (1, .int p0)]) hx hb dX8_count_68 hl (k := 1) rfl (by decide) (by decide) rfl (fun ls hl => ?_)
        refine lv_goto (tgt := 45) hx hb dX8_count_71 (by decide) ?_
        refine lv_iload_n hx hb dX8_count_45 rfl (lv_at hl 0 rfl) ?_
        refine lv_bipush (v := 16) hx hb dX8_count_46 (by decide) ?_
        refine lv_icmp_ge (tgt := 74) hx hb dX8_count_48 (by decide) (fun c_84 => absurd c_84 (by decide)) (fun c_84 => ?_)
        refine lv_iload_n hx hb dX8_count_51 rfl (lv_at hl 1 rfl) ?_
        refine lv_aload_n hx hb dX8_count_52 rfl (lv_at hl 2 rfl) ?_
        refine va_get (D := (dC, dI)) (ci := 8) (v := .ref q1) (C := RX8) (T := TX8) (N := 17) hx hb hts (by decide +kernel) hown hK hP 0 rfl rfl 1 (by decide) (hts (.fieldLink RX8 7 "KeyAtlasModel" "kind" "[I") (by decide +kernel)) (fun _ h9 => h9) rfl dX8_count_53 ?_
        refine lv_iload_n hx hb dX8_count_56 rfl (lv_at hl 0 rfl) ?_
        refine va_iald (i := 7) hx hb hK hP 1 0 rfl rfl (by unfold vp_in; decide) dX8_count_57 ?_
        refine W.eq (g2 := F0 m 58 ls [.int 0, .int 0]) rfl ?_
        refine lv_if_eq (tgt := 65) hx hb dX8_count_58 (by decide) (fun c_85 => ?_) (fun c_85 => absurd c_85 (by decide))
        refine lv_iconst (v := 0) hx hb dX8_count_65 (by decide) ?_
        refine lv_iadd hx hb dX8_count_66 ?_
        refine lv_topi (fun z_86 ez_86 => ?_)
        obtain rfl : z_86 = (0 : Int32) := ez_86.trans (by decide)
        refine lv_istore_n (lv' := [(2, .int 0), (3, .int 7), (0, .ref h0), (1, .int p0)]) hx hb dX8_count_67 rfl hl (by decide) rfl (fun ls hl => ?_)
        refine lv_iinc (v := 8) (lv' := [(3, .int 8), (2, .int 0), (0, .ref h0), (1, .int p0)]) hx hb dX8_count_68 hl (k := 1) rfl (by decide) (by decide) rfl (fun ls hl => ?_)
        refine lv_goto (tgt := 45) hx hb dX8_count_71 (by decide) ?_
        refine lv_iload_n hx hb dX8_count_45 rfl (lv_at hl 0 rfl) ?_
        refine lv_bipush (v := 16) hx hb dX8_count_46 (by decide) ?_
        refine lv_icmp_ge (tgt := 74) hx hb dX8_count_48 (by decide) (fun c_87 => absurd c_87 (by decide)) (fun c_87 => ?_)
        refine lv_iload_n hx hb dX8_count_51 rfl (lv_at hl 1 rfl) ?_
        refine lv_aload_n hx hb dX8_count_52 rfl (lv_at hl 2 rfl) ?_
        refine va_get (D := (dC, dI)) (ci := 8) (v := .ref q1) (C := RX8) (T := TX8) (N := 17) hx hb hts (by decide +kernel) hown hK hP 0 rfl rfl 1 (by decide) (hts (.fieldLink RX8 7 "KeyAtlasModel" "kind" "[I") (by decide +kernel)) (fun _ h9 => h9) rfl dX8_count_53 ?_
        refine lv_iload_n hx hb dX8_count_56 rfl (lv_at hl 0 rfl) ?_
        refine va_iald (i := 8) hx hb hK hP 1 0 rfl rfl (by unfold vp_in; decide) dX8_count_57 ?_
        refine W.eq (g2 := F0 m 58 ls [.int 0, .int 0]) rfl ?_
        refine lv_if_eq (tgt := 65) hx hb dX8_count_58 (by decide) (fun c_88 => ?_) (fun c_88 => absurd c_88 (by decide))
        refine lv_iconst (v := 0) hx hb dX8_count_65 (by decide) ?_
        refine lv_iadd hx hb dX8_count_66 ?_
        refine lv_topi (fun z_89 ez_89 => ?_)
        obtain rfl : z_89 = (0 : Int32) := ez_89.trans (by decide)
        refine lv_istore_n (lv' := [(2, .int 0), (3, .int 8), (0, .ref h0), (1, .int p0)]) hx hb dX8_count_67 rfl hl (by decide) rfl (fun ls hl => ?_)
        refine lv_iinc (v := 9) (lv' := [(3, .int 9), (2, .int 0), (0, .ref h0), (1, .int p0)]) hx hb dX8_count_68 hl (k := 1) rfl (by decide) (by decide) rfl (fun ls hl => ?_)
        refine lv_goto (tgt := 45) hx hb dX8_count_71 (by decide) ?_
        refine lv_iload_n hx hb dX8_count_45 rfl (lv_at hl 0 rfl) ?_
        refine lv_bipush (v := 16) hx hb dX8_count_46 (by decide) ?_
        refine lv_icmp_ge (tgt := 74) hx hb dX8_count_48 (by decide) (fun c_90 => absurd c_90 (by decide)) (fun c_90 => ?_)
        refine lv_iload_n hx hb dX8_count_51 rfl (lv_at hl 1 rfl) ?_
        refine lv_aload_n hx hb dX8_count_52 rfl (lv_at hl 2 rfl) ?_
        refine va_get (D := (dC, dI)) (ci := 8) (v := .ref q1) (C := RX8) (T := TX8) (N := 17) hx hb hts (by decide +kernel) hown hK hP 0 rfl rfl 1 (by decide) (hts (.fieldLink RX8 7 "KeyAtlasModel" "kind" "[I") (by decide +kernel)) (fun _ h9 => h9) rfl dX8_count_53 ?_
        refine lv_iload_n hx hb dX8_count_56 rfl (lv_at hl 0 rfl) ?_
        refine va_iald (i := 9) hx hb hK hP 1 0 rfl rfl (by unfold vp_in; decide) dX8_count_57 ?_
        refine W.eq (g2 := F0 m 58 ls [.int 0, .int 0]) rfl ?_
        refine lv_if_eq (tgt := 65) hx hb dX8_count_58 (by decide) (fun c_91 => ?_) (fun c_91 => absurd c_91 (by decide))
        refine lv_iconst (v := 0) hx hb dX8_count_65 (by decide) ?_
        refine lv_iadd hx hb dX8_count_66 ?_
        refine lv_topi (fun z_92 ez_92 => ?_)
        obtain rfl : z_92 = (0 : Int32) := ez_92.trans (by decide)
        refine lv_istore_n (lv' := [(2, .int 0), (3, .int 9), (0, .ref h0), (1, .int p0)]) hx hb dX8_count_67 rfl hl (by decide) rfl (fun ls hl => ?_)
        refine lv_iinc (v := 10) (lv' := [(3, .int 10), (2, .int 0), (0, .ref h0), (1, .int p0)]) hx hb dX8_count_68 hl (k := 1) rfl (by decide) (by decide) rfl (fun ls hl => ?_)
        refine lv_goto (tgt := 45) hx hb dX8_count_71 (by decide) ?_
        refine lv_iload_n hx hb dX8_count_45 rfl (lv_at hl 0 rfl) ?_
        refine lv_bipush (v := 16) hx hb dX8_count_46 (by decide) ?_
        refine lv_icmp_ge (tgt := 74) hx hb dX8_count_48 (by decide) (fun c_93 => absurd c_93 (by decide)) (fun c_93 => ?_)
        refine lv_iload_n hx hb dX8_count_51 rfl (lv_at hl 1 rfl) ?_
        refine lv_aload_n hx hb dX8_count_52 rfl (lv_at hl 2 rfl) ?_
        refine va_get (D := (dC, dI)) (ci := 8) (v := .ref q1) (C := RX8) (T := TX8) (N := 17) hx hb hts (by decide +kernel) hown hK hP 0 rfl rfl 1 (by decide) (hts (.fieldLink RX8 7 "KeyAtlasModel" "kind" "[I") (by decide +kernel)) (fun _ h9 => h9) rfl dX8_count_53 ?_
        refine lv_iload_n hx hb dX8_count_56 rfl (lv_at hl 0 rfl) ?_
        refine va_iald (i := 10) hx hb hK hP 1 0 rfl rfl (by unfold vp_in; decide) dX8_count_57 ?_
        refine W.eq (g2 := F0 m 58 ls [.int 0, .int 0]) rfl ?_
        refine lv_if_eq (tgt := 65) hx hb dX8_count_58 (by decide) (fun c_94 => ?_) (fun c_94 => absurd c_94 (by decide))
        refine lv_iconst (v := 0) hx hb dX8_count_65 (by decide) ?_
        refine lv_iadd hx hb dX8_count_66 ?_
        refine lv_topi (fun z_95 ez_95 => ?_)
        obtain rfl : z_95 = (0 : Int32) := ez_95.trans (by decide)
        refine lv_istore_n (lv' := [(2, .int 0), (3, .int 10), (0, .ref h0), (1, .int p0)]) hx hb dX8_count_67 rfl hl (by decide) rfl (fun ls hl => ?_)
        refine lv_iinc (v := 11) (lv' := [(3, .int 11), (2, .int 0), (0, .ref h0), (1, .int p0)]) hx hb dX8_count_68 hl (k := 1) rfl (by decide) (by decide) rfl (fun ls hl => ?_)
        refine lv_goto (tgt := 45) hx hb dX8_count_71 (by decide) ?_
        refine lv_iload_n hx hb dX8_count_45 rfl (lv_at hl 0 rfl) ?_
        refine lv_bipush (v := 16) hx hb dX8_count_46 (by decide) ?_
        refine lv_icmp_ge (tgt := 74) hx hb dX8_count_48 (by decide) (fun c_96 => absurd c_96 (by decide)) (fun c_96 => ?_)
        refine lv_iload_n hx hb dX8_count_51 rfl (lv_at hl 1 rfl) ?_
        refine lv_aload_n hx hb dX8_count_52 rfl (lv_at hl 2 rfl) ?_
        refine va_get (D := (dC, dI)) (ci := 8) (v := .ref q1) (C := RX8) (T := TX8) (N := 17) hx hb hts (by decide +kernel) hown hK hP 0 rfl rfl 1 (by decide) (hts (.fieldLink RX8 7 "KeyAtlasModel" "kind" "[I") (by decide +kernel)) (fun _ h9 => h9) rfl dX8_count_53 ?_
        refine lv_iload_n hx hb dX8_count_56 rfl (lv_at hl 0 rfl) ?_
        refine va_iald (i := 11) hx hb hK hP 1 0 rfl rfl (by unfold vp_in; decide) dX8_count_57 ?_
        refine W.eq (g2 := F0 m 58 ls [.int 0, .int 0]) rfl ?_
        refine lv_if_eq (tgt := 65) hx hb dX8_count_58 (by decide) (fun c_97 => ?_) (fun c_97 => absurd c_97 (by decide))
        refine lv_iconst (v := 0) hx hb dX8_count_65 (by decide) ?_
        refine lv_iadd hx hb dX8_count_66 ?_
        refine lv_topi (fun z_98 ez_98 => ?_)
        obtain rfl : z_98 = (0 : Int32) := ez_98.trans (by decide)
        refine lv_istore_n (lv' := [(2, .int 0), (3, .int 11), (0, .ref h0), (1, .int p0)]) hx hb dX8_count_67 rfl hl (by decide) rfl (fun ls hl => ?_)
        refine lv_iinc (v := 12) (lv' := [(3, .int 12), (2, .int 0), (0, .ref h0), (1, .int p0)]) hx hb dX8_count_68 hl (k := 1) rfl (by decide) (by decide) rfl (fun ls hl => ?_)
        refine lv_goto (tgt := 45) hx hb dX8_count_71 (by decide) ?_
        refine lv_iload_n hx hb dX8_count_45 rfl (lv_at hl 0 rfl) ?_
        refine lv_bipush (v := 16) hx hb dX8_count_46 (by decide) ?_
        refine lv_icmp_ge (tgt := 74) hx hb dX8_count_48 (by decide) (fun c_99 => absurd c_99 (by decide)) (fun c_99 => ?_)
        refine lv_iload_n hx hb dX8_count_51 rfl (lv_at hl 1 rfl) ?_
        refine lv_aload_n hx hb dX8_count_52 rfl (lv_at hl 2 rfl) ?_
        refine va_get (D := (dC, dI)) (ci := 8) (v := .ref q1) (C := RX8) (T := TX8) (N := 17) hx hb hts (by decide +kernel) hown hK hP 0 rfl rfl 1 (by decide) (hts (.fieldLink RX8 7 "KeyAtlasModel" "kind" "[I") (by decide +kernel)) (fun _ h9 => h9) rfl dX8_count_53 ?_
        refine lv_iload_n hx hb dX8_count_56 rfl (lv_at hl 0 rfl) ?_
        refine va_iald (i := 12) hx hb hK hP 1 0 rfl rfl (by unfold vp_in; decide) dX8_count_57 ?_
        refine W.eq (g2 := F0 m 58 ls [.int 0, .int 0]) rfl ?_
        refine lv_if_eq (tgt := 65) hx hb dX8_count_58 (by decide) (fun c_100 => ?_) (fun c_100 => absurd c_100 (by decide))
        refine lv_iconst (v := 0) hx hb dX8_count_65 (by decide) ?_
        refine lv_iadd hx hb dX8_count_66 ?_
        refine lv_topi (fun z_101 ez_101 => ?_)
        obtain rfl : z_101 = (0 : Int32) := ez_101.trans (by decide)
        refine lv_istore_n (lv' := [(2, .int 0), (3, .int 12), (0, .ref h0), (1, .int p0)]) hx hb dX8_count_67 rfl hl (by decide) rfl (fun ls hl => ?_)
        refine lv_iinc (v := 13) (lv' := [(3, .int 13), (2, .int 0), (0, .ref h0), (1, .int p0)]) hx hb dX8_count_68 hl (k := 1) rfl (by decide) (by decide) rfl (fun ls hl => ?_)
        refine lv_goto (tgt := 45) hx hb dX8_count_71 (by decide) ?_
        refine lv_iload_n hx hb dX8_count_45 rfl (lv_at hl 0 rfl) ?_
        refine lv_bipush (v := 16) hx hb dX8_count_46 (by decide) ?_
        refine lv_icmp_ge (tgt := 74) hx hb dX8_count_48 (by decide) (fun c_102 => absurd c_102 (by decide)) (fun c_102 => ?_)
        refine lv_iload_n hx hb dX8_count_51 rfl (lv_at hl 1 rfl) ?_
        refine lv_aload_n hx hb dX8_count_52 rfl (lv_at hl 2 rfl) ?_
        refine va_get (D := (dC, dI)) (ci := 8) (v := .ref q1) (C := RX8) (T := TX8) (N := 17) hx hb hts (by decide +kernel) hown hK hP 0 rfl rfl 1 (by decide) (hts (.fieldLink RX8 7 "KeyAtlasModel" "kind" "[I") (by decide +kernel)) (fun _ h9 => h9) rfl dX8_count_53 ?_
        refine lv_iload_n hx hb dX8_count_56 rfl (lv_at hl 0 rfl) ?_
        refine va_iald (i := 13) hx hb hK hP 1 0 rfl rfl (by unfold vp_in; decide) dX8_count_57 ?_
        refine W.eq (g2 := F0 m 58 ls [.int 0, .int 0]) rfl ?_
        refine lv_if_eq (tgt := 65) hx hb dX8_count_58 (by decide) (fun c_103 => ?_) (fun c_103 => absurd c_103 (by decide))
        refine lv_iconst (v := 0) hx hb dX8_count_65 (by decide) ?_
        refine lv_iadd hx hb dX8_count_66 ?_
        refine lv_topi (fun z_104 ez_104 => ?_)
        obtain rfl : z_104 = (0 : Int32) := ez_104.trans (by decide)
        refine lv_istore_n (lv' := [(2, .int 0), (3, .int 13), (0, .ref h0), (1, .int p0)]) hx hb dX8_count_67 rfl hl (by decide) rfl (fun ls hl => ?_)
        refine lv_iinc (v := 14) (lv' := [(3, .int 14), (2, .int 0), (0, .ref h0), (1, .int p0)]) hx hb dX8_count_68 hl (k := 1) rfl (by decide) (by decide) rfl (fun ls hl => ?_)
        refine lv_goto (tgt := 45) hx hb dX8_count_71 (by decide) ?_
        refine lv_iload_n hx hb dX8_count_45 rfl (lv_at hl 0 rfl) ?_
        refine lv_bipush (v := 16) hx hb dX8_count_46 (by decide) ?_
        refine lv_icmp_ge (tgt := 74) hx hb dX8_count_48 (by decide) (fun c_105 => absurd c_105 (by decide)) (fun c_105 => ?_)
        refine lv_iload_n hx hb dX8_count_51 rfl (lv_at hl 1 rfl) ?_
        refine lv_aload_n hx hb dX8_count_52 rfl (lv_at hl 2 rfl) ?_
        refine va_get (D := (dC, dI)) (ci := 8) (v := .ref q1) (C := RX8) (T := TX8) (N := 17) hx hb hts (by decide +kernel) hown hK hP 0 rfl rfl 1 (by decide) (hts (.fieldLink RX8 7 "KeyAtlasModel" "kind" "[I") (by decide +kernel)) (fun _ h9 => h9) rfl dX8_count_53 ?_
        refine lv_iload_n hx hb dX8_count_56 rfl (lv_at hl 0 rfl) ?_
        refine va_iald (i := 14) hx hb hK hP 1 0 rfl rfl (by unfold vp_in; decide) dX8_count_57 ?_
        refine W.eq (g2 := F0 m 58 ls [.int 0, .int 0]) rfl ?_
        refine lv_if_eq (tgt := 65) hx hb dX8_count_58 (by decide) (fun c_106 => ?_) (fun c_106 => absurd c_106 (by decide))
        refine lv_iconst (v := 0) hx hb dX8_count_65 (by decide) ?_
        refine lv_iadd hx hb dX8_count_66 ?_
        refine lv_topi (fun z_107 ez_107 => ?_)
        obtain rfl : z_107 = (0 : Int32) := ez_107.trans (by decide)
        refine lv_istore_n (lv' := [(2, .int 0), (3, .int 14), (0, .ref h0), (1, .int p0)]) hx hb dX8_count_67 rfl hl (by decide) rfl (fun ls hl => ?_)
        refine lv_iinc (v := 15) (lv' := [(3, .int 15), (2, .int 0), (0, .ref h0), (1, .int p0)]) hx hb dX8_count_68 hl (k := 1) rfl (by decide) (by decide) rfl (fun ls hl => ?_)
        refine lv_goto (tgt := 45) hx hb dX8_count_71 (by decide) ?_
        refine lv_iload_n hx hb dX8_count_45 rfl (lv_at hl 0 rfl) ?_
        refine lv_bipush (v := 16) hx hb dX8_count_46 (by decide) ?_
        refine lv_icmp_ge (tgt := 74) hx hb dX8_count_48 (by decide) (fun c_108 => absurd c_108 (by decide)) (fun c_108 => ?_)
        refine lv_iload_n hx hb dX8_count_51 rfl (lv_at hl 1 rfl) ?_
        refine lv_aload_n hx hb dX8_count_52 rfl (lv_at hl 2 rfl) ?_
        refine va_get (D := (dC, dI)) (ci := 8) (v := .ref q1) (C := RX8) (T := TX8) (N := 17) hx hb hts (by decide +kernel) hown hK hP 0 rfl rfl 1 (by decide) (hts (.fieldLink RX8 7 "KeyAtlasModel" "kind" "[I") (by decide +kernel)) (fun _ h9 => h9) rfl dX8_count_53 ?_
        refine lv_iload_n hx hb dX8_count_56 rfl (lv_at hl 0 rfl) ?_
        refine va_iald (i := 15) hx hb hK hP 1 0 rfl rfl (by unfold vp_in; decide) dX8_count_57 ?_
        refine W.eq (g2 := F0 m 58 ls [.int 0, .int 0]) rfl ?_
        refine lv_if_eq (tgt := 65) hx hb dX8_count_58 (by decide) (fun c_109 => ?_) (fun c_109 => absurd c_109 (by decide))
        refine lv_iconst (v := 0) hx hb dX8_count_65 (by decide) ?_
        refine lv_iadd hx hb dX8_count_66 ?_
        refine lv_topi (fun z_110 ez_110 => ?_)
        obtain rfl : z_110 = (0 : Int32) := ez_110.trans (by decide)
        refine lv_istore_n (lv' := [(2, .int 0), (3, .int 15), (0, .ref h0), (1, .int p0)]) hx hb dX8_count_67 rfl hl (by decide) rfl (fun ls hl => ?_)
        refine lv_iinc (v := 16) (lv' := [(3, .int 16), (2, .int 0), (0, .ref h0), (1, .int p0)]) hx hb dX8_count_68 hl (k := 1) rfl (by decide) (by decide) rfl (fun ls hl => ?_)
        refine lv_goto (tgt := 45) hx hb dX8_count_71 (by decide) ?_
        refine lv_iload_n hx hb dX8_count_45 rfl (lv_at hl 0 rfl) ?_
        refine lv_bipush (v := 16) hx hb dX8_count_46 (by decide) ?_
        refine lv_icmp_ge (tgt := 74) hx hb dX8_count_48 (by decide) (fun c_111 => ?_) (fun c_111 => absurd c_111 (by decide))
        refine lv_iload_n hx hb dX8_count_74 rfl (lv_at hl 1 rfl) ?_
        have hP9 := hP.sub (ws' := [(h0, .inr (8, [.int 0, .ref q1, v2, .ref q3, .ref q4, .ref q5, .ref q6, .ref q7, .ref q8, v9, v10, v11, v12, v13, v14, v15, v16]))]) [0] rfl
        have hD9 := hD.sub (ws' := [(h0, .inr (8, [.int 0, .ref q1, v2, .ref q3, .ref q4, .ref q5, .ref q6, .ref q7, .ref q8, v9, v10, v11, v12, v13, v14, v15, v16]))]) [0] (by decide) rfl
        have hK9 := hK.sub (tys' := []) [] rfl
        refine W.widen (k := 0) (n := 0) (Nat.le_of_ble_eq_true rfl) (Nat.le_of_ble_eq_true rfl) ?_
        exact W.iret (v := 0) hx hb hr (fun t ht hW => ⟨⟨0, 0, rfl, tx_at2 (P := ctIs p0) (n := 0) (m := 0) (by decide) (by decide) (by unfold ctIs; omega), by rw [ht]; exact hP9, va_K.moved hW.alike hK9, hD9⟩, hS.F ht⟩) hS.2.2 dX8_count_75
    ·
      have ic_57 : r_56.toInt = 0 := tx_eq rfl (by decide) c_57
      refine lv_iload_n hx hb dX8_count_15 rfl (lv_at hl 1 rfl) ?_
      refine lv_bipush (v := 30) hx hb dX8_count_16 (by decide) ?_
      refine lv_bipush (v := 45) hx hb dX8_count_18 (by decide) ?_
      have hPc := hP.sub (ws' := []) [] rfl
      have hDc := hD.sub (ws' := []) [] (by decide) rfl
      have hKc := hK.sub (tys' := []) [] rfl
      have hFc := va_free (wc := []) hD hS hA [] rfl
      refine va_calli (va_runS (As := [.int p0, .int 30, .int 45]) (rest := []) ⟨hx, hb, hml, hown, hts⟩ (c_X8_in l  dC dI H.size p0 30 45 30 45 (by decide) (by decide)) (va_cwS 3 hts gP_X8_count_in rfl rfl rfl (by decide +kernel) ⟨(Nat.le_of_ble_eq_true rfl), (Nat.le_of_ble_eq_true rfl)⟩) ⟨pk_blind, pk_call hPc hKc hDc⟩ rfl rfl hl.1 rfl (lv_room (Nat.le_of_ble_eq_true rfl)) dX8_count_20 ⟨(Nat.le_of_ble_eq_true rfl), (Nat.le_of_ble_eq_true rfl)⟩) hS (fun q _ h => hFc q h) hFc (fun r_112 ur_112 t H1 locs ht hvm hw hB hz1 hk1 hS => ?_)
      try dsimp only at hw
      have jr_112 := hw
      obtain ⟨hP, hD⟩ := va_join (wr := [(h0, .inr (8, [.int th, .ref q1, v2, .ref q3, .ref q4, .ref q5, .ref q6, .ref q7, .ref q8, v9, v10, v11, v12, v13, v14, v15, v16])), (q1, .inl (c1, 16, .inl (fun _ => (0 : Int32)))), (q3, .inl (c3, 16, .inl (fun _ => (0 : Int32)))), (q4, .inl (c4, 16, .inl (fun _ => (0 : Int32)))), (q5, .inl (c5, 16, .inl (fun _ => (0 : Int32)))), (q6, .inl (c6, 16, .inl (fun _ => (0 : Int32)))), (q7, .inl (c7, 16, .inl (fun _ => (0 : Int32)))), (q8, .inl (c8, 16, .inl (fun _ => (0 : Int32))))]) (w1 := []) hP hD [] [0, 1, 2, 3, 4, 5, 6, 7] rfl rfl (by decide) (by decide) hk1 hFc tx_P0 tx_D0
      clear hk1 hz1 ht hPc hDc hKc
      generalize H1 = H at hP hS ⊢
      have hP : va_P (dC, dI) vwCl [(h0, .inr (8, [.int th, .ref q1, v2, .ref q3, .ref q4, .ref q5, .ref q6, .ref q7, .ref q8, v9, v10, v11, v12, v13, v14, v15, v16])), (q1, .inl (c1, 16, .inl (fun _ => (0 : Int32)))), (q3, .inl (c3, 16, .inl (fun _ => (0 : Int32)))), (q4, .inl (c4, 16, .inl (fun _ => (0 : Int32)))), (q5, .inl (c5, 16, .inl (fun _ => (0 : Int32)))), (q6, .inl (c6, 16, .inl (fun _ => (0 : Int32)))), (q7, .inl (c7, 16, .inl (fun _ => (0 : Int32)))), (q8, .inl (c8, 16, .inl (fun _ => (0 : Int32))))] H := hP
      have hD : va_D A [(h0, .inr (8, [.int th, .ref q1, v2, .ref q3, .ref q4, .ref q5, .ref q6, .ref q7, .ref q8, v9, v10, v11, v12, v13, v14, v15, v16])), (q1, .inl (c1, 16, .inl (fun _ => (0 : Int32)))), (q3, .inl (c3, 16, .inl (fun _ => (0 : Int32)))), (q4, .inl (c4, 16, .inl (fun _ => (0 : Int32)))), (q5, .inl (c5, 16, .inl (fun _ => (0 : Int32)))), (q6, .inl (c6, 16, .inl (fun _ => (0 : Int32)))), (q7, .inl (c7, 16, .inl (fun _ => (0 : Int32)))), (q8, .inl (c8, 16, .inl (fun _ => (0 : Int32))))] := hD
      refine W.widen (k := 0) (n := 0) (Nat.le_of_ble_eq_true rfl) (Nat.le_of_ble_eq_true rfl) ?_
      refine W.eq (g2 := F0 m 23 ls [.int r_112]) rfl ?_
      refine lv_if_ne (tgt := 32) hx hb dX8_count_23 (by decide) (fun c_113 => ?_) (fun c_113 => ?_)
      ·
        have ic_113 : ¬ r_112.toInt = 0 := tx_ne rfl (by decide) c_113
        refine lv_aload_n hx hb dX8_count_32 rfl (lv_at hl 0 rfl) ?_
        refine lv_iconst (v := 0) hx hb dX8_count_33 (by decide) ?_
        refine va_put (D := (dC, dI)) (ci := 8) (v := .int 0) (ty := .int) (C := RX8) (T := TX8) (N := 17) hx hb hts (by decide +kernel) tyX8 tyX8_ok nmX8 hown hK hP hD hS 0 rfl rfl 0 (by decide) (hts (.fieldLink RX8 60 "KeyAtlasModel" "thrown" "I") (by decide +kernel)) (fun _ h9 => h9) rfl (by decide +kernel) rfl rfl (Nat.le_of_ble_eq_true rfl) dX8_count_34 (fun H locs hP hD hS => ?_)
        have hP : va_P (dC, dI) vwCl [(h0, .inr (8, [.int 0, .ref q1, v2, .ref q3, .ref q4, .ref q5, .ref q6, .ref q7, .ref q8, v9, v10, v11, v12, v13, v14, v15, v16])), (q1, .inl (c1, 16, .inl (fun _ => (0 : Int32)))), (q3, .inl (c3, 16, .inl (fun _ => (0 : Int32)))), (q4, .inl (c4, 16, .inl (fun _ => (0 : Int32)))), (q5, .inl (c5, 16, .inl (fun _ => (0 : Int32)))), (q6, .inl (c6, 16, .inl (fun _ => (0 : Int32)))), (q7, .inl (c7, 16, .inl (fun _ => (0 : Int32)))), (q8, .inl (c8, 16, .inl (fun _ => (0 : Int32))))] H := hP
        have hD : va_D A [(h0, .inr (8, [.int 0, .ref q1, v2, .ref q3, .ref q4, .ref q5, .ref q6, .ref q7, .ref q8, v9, v10, v11, v12, v13, v14, v15, v16])), (q1, .inl (c1, 16, .inl (fun _ => (0 : Int32)))), (q3, .inl (c3, 16, .inl (fun _ => (0 : Int32)))), (q4, .inl (c4, 16, .inl (fun _ => (0 : Int32)))), (q5, .inl (c5, 16, .inl (fun _ => (0 : Int32)))), (q6, .inl (c6, 16, .inl (fun _ => (0 : Int32)))), (q7, .inl (c7, 16, .inl (fun _ => (0 : Int32)))), (q8, .inl (c8, 16, .inl (fun _ => (0 : Int32))))] := hD
        refine lv_iload_n hx hb dX8_count_37 rfl (lv_at hl 1 rfl) ?_
        refine lv_if_ne (tgt := 76) hx hb dX8_count_38 (by decide) (fun c_114 => ?_) (fun c_114 => ?_)
        ·
          have ic_114 : ¬ p0.toInt = 0 := tx_ne rfl (by decide) c_114
          refine lv_iload_n hx hb dX8_count_76 rfl (lv_at hl 1 rfl) ?_
          refine lv_bipush (v := 30) hx hb dX8_count_77 (by decide) ?_
          refine lv_icmp_ge (tgt := 94) hx hb dX8_count_79 (by decide) (fun c_115 => ?_) (fun c_115 => ?_)
          ·
            have ic_115 : 30 ≤ p0.toInt := tx_le (by decide) rfl c_115
            refine lv_aload_n hx hb dX8_count_94 rfl (lv_at hl 0 rfl) ?_
            refine lv_iload_n hx hb dX8_count_95 rfl (lv_at hl 1 rfl) ?_
            refine lv_bipush (v := 30) hx hb dX8_count_96 (by decide) ?_
            refine lv_isub hx hb dX8_count_98 ?_
            have hPc := hP.sub (ws' := [(h0, .inr (8, [.int 0, .ref q1, v2, .ref q3, .ref q4, .ref q5, .ref q6, .ref q7, .ref q8, v9, v10, v11, v12, v13, v14, v15, v16])), (q1, .inl (c1, 16, .inl (fun _ => (0 : Int32))))]) [0, 1] rfl
            have hDc := hD.sub (ws' := [(h0, .inr (8, [.int 0, .ref q1, v2, .ref q3, .ref q4, .ref q5, .ref q6, .ref q7, .ref q8, v9, v10, v11, v12, v13, v14, v15, v16])), (q1, .inl (c1, 16, .inl (fun _ => (0 : Int32))))]) [0, 1] (by decide) rfl
            have hKc := hK.sub (tys' := [(c1, .int)]) [0] rfl
            have hFc := va_free (wc := [(h0, .inr (8, [.int 0, .ref q1, v2, .ref q3, .ref q4, .ref q5, .ref q6, .ref q7, .ref q8, v9, v10, v11, v12, v13, v14, v15, v16])), (q1, .inl (c1, 16, .inl (fun _ => (0 : Int32))))]) hD hS hA [0, 1] rfl
            refine va_calli (va_runV (As := [.int (p0 - 30)]) (rest := []) ⟨hx, hb, hml, hown, hts⟩ (c_X8_isMap l  dC dI H.size h0 q1 c1 0 v2 (.ref q3) (.ref q4) (.ref q5) (.ref q6) (.ref q7) (.ref q8) v9 v10 v11 v12 v13 v14 v15 v16 (p0 - 30) (tx_subin (b := 30) (by decide) (by omega) (by omega) (by omega))) (cwV 1 hts gP_X8_count_isMap rfl rfl rfl (by decide +kernel) ⟨(Nat.le_of_ble_eq_true rfl), (Nat.le_of_ble_eq_true rfl)⟩) ⟨pk_blind, va_recv hKc hPc (ci := 8) (q0 := 0) rfl rfl, pk_call hPc hKc hDc⟩ rfl rfl hl.1 rfl (lv_room (Nat.le_of_ble_eq_true rfl)) dX8_count_99 ⟨(Nat.le_of_ble_eq_true rfl), (Nat.le_of_ble_eq_true rfl)⟩) hS (fun q _ h => hFc q h) hFc (fun r_116 ur_116 t H1 locs ht hvm hw hB hz1 hk1 hS => ?_)
            try dsimp only at hw
            obtain ⟨hP1, hK1, hD1⟩ := hB
            rw [ht] at hP1
            have hK1 := va_K.moved hvm.symm hK1
            obtain ⟨hP, hD⟩ := va_join (wr := [(q3, .inl (c3, 16, .inl (fun _ => (0 : Int32)))), (q4, .inl (c4, 16, .inl (fun _ => (0 : Int32)))), (q5, .inl (c5, 16, .inl (fun _ => (0 : Int32)))), (q6, .inl (c6, 16, .inl (fun _ => (0 : Int32)))), (q7, .inl (c7, 16, .inl (fun _ => (0 : Int32)))), (q8, .inl (c8, 16, .inl (fun _ => (0 : Int32))))]) (w1 := [(h0, .inr (8, [.int 0, .ref q1, v2, .ref q3, .ref q4, .ref q5, .ref q6, .ref q7, .ref q8, v9, v10, v11, v12, v13, v14, v15, v16])), (q1, .inl (c1, 16, .inl (fun _ => (0 : Int32))))]) hP hD [0, 1] [2, 3, 4, 5, 6, 7] rfl rfl (by decide) (by decide) hk1 hFc hP1 hD1
            clear hk1 hz1 ht hPc hDc hKc
            generalize H1 = H at hP hS ⊢
            have hP : va_P (dC, dI) vwCl [(q3, .inl (c3, 16, .inl (fun _ => (0 : Int32)))), (q4, .inl (c4, 16, .inl (fun _ => (0 : Int32)))), (q5, .inl (c5, 16, .inl (fun _ => (0 : Int32)))), (q6, .inl (c6, 16, .inl (fun _ => (0 : Int32)))), (q7, .inl (c7, 16, .inl (fun _ => (0 : Int32)))), (q8, .inl (c8, 16, .inl (fun _ => (0 : Int32)))), (h0, .inr (8, [.int 0, .ref q1, v2, .ref q3, .ref q4, .ref q5, .ref q6, .ref q7, .ref q8, v9, v10, v11, v12, v13, v14, v15, v16])), (q1, .inl (c1, 16, .inl (fun _ => (0 : Int32))))] H := hP
            have hD : va_D A [(q3, .inl (c3, 16, .inl (fun _ => (0 : Int32)))), (q4, .inl (c4, 16, .inl (fun _ => (0 : Int32)))), (q5, .inl (c5, 16, .inl (fun _ => (0 : Int32)))), (q6, .inl (c6, 16, .inl (fun _ => (0 : Int32)))), (q7, .inl (c7, 16, .inl (fun _ => (0 : Int32)))), (q8, .inl (c8, 16, .inl (fun _ => (0 : Int32)))), (h0, .inr (8, [.int 0, .ref q1, v2, .ref q3, .ref q4, .ref q5, .ref q6, .ref q7, .ref q8, v9, v10, v11, v12, v13, v14, v15, v16])), (q1, .inl (c1, 16, .inl (fun _ => (0 : Int32))))] := hD
            refine W.widen (k := 0) (n := 0) (Nat.le_of_ble_eq_true rfl) (Nat.le_of_ble_eq_true rfl) ?_
            obtain rfl : r_116 = 0 := hw
            refine W.eq (g2 := F0 m 102 ls [.int 0]) rfl ?_
            refine lv_if_eq (tgt := 116) hx hb dX8_count_102 (by decide) (fun c_117 => ?_) (fun c_117 => absurd c_117 (by decide))
            refine lv_iconst (v := (-1)) hx hb dX8_count_116 (by decide) ?_
            have hP9 := hP.sub (ws' := [(h0, .inr (8, [.int 0, .ref q1, v2, .ref q3, .ref q4, .ref q5, .ref q6, .ref q7, .ref q8, v9, v10, v11, v12, v13, v14, v15, v16]))]) [6] rfl
            have hD9 := hD.sub (ws' := [(h0, .inr (8, [.int 0, .ref q1, v2, .ref q3, .ref q4, .ref q5, .ref q6, .ref q7, .ref q8, v9, v10, v11, v12, v13, v14, v15, v16]))]) [6] (by decide) rfl
            have hK9 := hK.sub (tys' := []) [] rfl
            refine W.widen (k := 0) (n := 0) (Nat.le_of_ble_eq_true rfl) (Nat.le_of_ble_eq_true rfl) ?_
            exact W.iret (v := -1) hx hb hr (fun t ht hW => ⟨⟨-1, 0, rfl, tx_at2 (P := ctIs p0) (n := 0) (m := -1) (by decide) (by decide) (by unfold ctIs; omega), by rw [ht]; exact hP9, va_K.moved hW.alike hK9, hD9⟩, hS.F ht⟩) hS.2.2 dX8_count_117
          ·
            have ic_115 : p0.toInt < 30 := tx_nle (by decide) rfl c_115
            refine lv_aload_n hx hb dX8_count_82 rfl (lv_at hl 0 rfl) ?_
            refine va_get (D := (dC, dI)) (ci := 8) (v := .ref q1) (C := RX8) (T := TX8) (N := 17) hx hb hts (by decide +kernel) hown hK hP 0 rfl rfl 1 (by decide) (hts (.fieldLink RX8 7 "KeyAtlasModel" "kind" "[I") (by decide +kernel)) (fun _ h9 => h9) rfl dX8_count_83 ?_
            refine lv_iload_n hx hb dX8_count_86 rfl (lv_at hl 1 rfl) ?_
            refine lv_bipush (v := 10) hx hb dX8_count_87 (by decide) ?_
            refine lv_isub hx hb dX8_count_89 ?_
            refine va_iald (i := p0 - 10) hx hb hK hP 1 0 rfl rfl (tx_subin (b := 10) (by decide) (by omega) (by omega) (by omega)) dX8_count_90 ?_
            refine W.eq (g2 := F0 m 91 ls [.int 0]) rfl ?_
            refine lv_iconst (v := 1) hx hb dX8_count_91 (by decide) ?_
            refine lv_isub hx hb dX8_count_92 ?_
            refine lv_topi (fun z_118 ez_118 => ?_)
            obtain rfl : z_118 = (-1 : Int32) := ez_118.trans (by decide)
            have hP9 := hP.sub (ws' := [(h0, .inr (8, [.int 0, .ref q1, v2, .ref q3, .ref q4, .ref q5, .ref q6, .ref q7, .ref q8, v9, v10, v11, v12, v13, v14, v15, v16]))]) [0] rfl
            have hD9 := hD.sub (ws' := [(h0, .inr (8, [.int 0, .ref q1, v2, .ref q3, .ref q4, .ref q5, .ref q6, .ref q7, .ref q8, v9, v10, v11, v12, v13, v14, v15, v16]))]) [0] (by decide) rfl
            have hK9 := hK.sub (tys' := []) [] rfl
            refine W.widen (k := 0) (n := 0) (Nat.le_of_ble_eq_true rfl) (Nat.le_of_ble_eq_true rfl) ?_
            exact W.iret (v := -1) hx hb hr (fun t ht hW => ⟨⟨-1, 0, rfl, tx_at2 (P := ctIs p0) (n := 0) (m := -1) (by decide) (by decide) (by unfold ctIs; omega), by rw [ht]; exact hP9, va_K.moved hW.alike hK9, hD9⟩, hS.F ht⟩) hS.2.2 dX8_count_93
        ·
          have ic_114 : p0.toInt = 0 := tx_eq rfl (by decide) c_114
          refine lv_iconst (v := 0) hx hb dX8_count_41 (by decide) ?_
          refine lv_istore_n (lv' := [(2, .int 0), (0, .ref h0), (1, .int p0)]) hx hb dX8_count_42 rfl hl (by decide) rfl (fun ls hl => ?_)
          refine lv_iconst (v := 0) hx hb dX8_count_43 (by decide) ?_
          refine lv_istore_n (lv' := [(3, .int 0), (2, .int 0), (0, .ref h0), (1, .int p0)]) hx hb dX8_count_44 rfl hl (by decide) rfl (fun ls hl => ?_)
          refine lv_iload_n hx hb dX8_count_45 rfl (lv_at hl 0 rfl) ?_
          refine lv_bipush (v := 16) hx hb dX8_count_46 (by decide) ?_
          refine lv_icmp_ge (tgt := 74) hx hb dX8_count_48 (by decide) (fun c_119 => absurd c_119 (by decide)) (fun c_119 => ?_)
          refine lv_iload_n hx hb dX8_count_51 rfl (lv_at hl 1 rfl) ?_
          refine lv_aload_n hx hb dX8_count_52 rfl (lv_at hl 2 rfl) ?_
          refine va_get (D := (dC, dI)) (ci := 8) (v := .ref q1) (C := RX8) (T := TX8) (N := 17) hx hb hts (by decide +kernel) hown hK hP 0 rfl rfl 1 (by decide) (hts (.fieldLink RX8 7 "KeyAtlasModel" "kind" "[I") (by decide +kernel)) (fun _ h9 => h9) rfl dX8_count_53 ?_
          refine lv_iload_n hx hb dX8_count_56 rfl (lv_at hl 0 rfl) ?_
          refine va_iald (i := 0) hx hb hK hP 1 0 rfl rfl (by unfold vp_in; decide) dX8_count_57 ?_
          refine W.eq (g2 := F0 m 58 ls [.int 0, .int 0]) rfl ?_
          refine lv_if_eq (tgt := 65) hx hb dX8_count_58 (by decide) (fun c_120 => ?_) (fun c_120 => absurd c_120 (by decide))
          refine lv_iconst (v := 0) hx hb dX8_count_65 (by decide) ?_
          refine lv_iadd hx hb dX8_count_66 ?_
          refine lv_topi (fun z_121 ez_121 => ?_)
          obtain rfl : z_121 = (0 : Int32) := ez_121.trans (by decide)
          refine lv_istore_n (lv' := [(2, .int 0), (3, .int 0), (0, .ref h0), (1, .int p0)]) hx hb dX8_count_67 rfl hl (by decide) rfl (fun ls hl => ?_)
          refine lv_iinc (v := 1) (lv' := [(3, .int 1), (2, .int 0), (0, .ref h0), (1, .int p0)]) hx hb dX8_count_68 hl (k := 1) rfl (by decide) (by decide) rfl (fun ls hl => ?_)
          refine lv_goto (tgt := 45) hx hb dX8_count_71 (by decide) ?_
          refine lv_iload_n hx hb dX8_count_45 rfl (lv_at hl 0 rfl) ?_
          refine lv_bipush (v := 16) hx hb dX8_count_46 (by decide) ?_
          refine lv_icmp_ge (tgt := 74) hx hb dX8_count_48 (by decide) (fun c_122 => absurd c_122 (by decide)) (fun c_122 => ?_)
          refine lv_iload_n hx hb dX8_count_51 rfl (lv_at hl 1 rfl) ?_
          refine lv_aload_n hx hb dX8_count_52 rfl (lv_at hl 2 rfl) ?_
          refine va_get (D := (dC, dI)) (ci := 8) (v := .ref q1) (C := RX8) (T := TX8) (N := 17) hx hb hts (by decide +kernel) hown hK hP 0 rfl rfl 1 (by decide) (hts (.fieldLink RX8 7 "KeyAtlasModel" "kind" "[I") (by decide +kernel)) (fun _ h9 => h9) rfl dX8_count_53 ?_
          refine lv_iload_n hx hb dX8_count_56 rfl (lv_at hl 0 rfl) ?_
          refine va_iald (i := 1) hx hb hK hP 1 0 rfl rfl (by unfold vp_in; decide) dX8_count_57 ?_
          refine W.eq (g2 := F0 m 58 ls [.int 0, .int 0]) rfl ?_
          refine lv_if_eq (tgt := 65) hx hb dX8_count_58 (by decide) (fun c_123 => ?_) (fun c_123 => absurd c_123 (by decide))
          refine lv_iconst (v := 0) hx hb dX8_count_65 (by decide) ?_
          refine lv_iadd hx hb dX8_count_66 ?_
          refine lv_topi (fun z_124 ez_124 => ?_)
          obtain rfl : z_124 = (0 : Int32) := ez_124.trans (by decide)
          refine lv_istore_n (lv' := [(2, .int 0), (3, .int 1), (0, .ref h0), (1, .int p0)]) hx hb dX8_count_67 rfl hl (by decide) rfl (fun ls hl => ?_)
          refine lv_iinc (v := 2) (lv' := [(3, .int 2), (2, .int 0), (0, .ref h0), (1, .int p0)]) hx hb dX8_count_68 hl (k := 1) rfl (by decide) (by decide) rfl (fun ls hl => ?_)
          refine lv_goto (tgt := 45) hx hb dX8_count_71 (by decide) ?_
          refine lv_iload_n hx hb dX8_count_45 rfl (lv_at hl 0 rfl) ?_
          refine lv_bipush (v := 16) hx hb dX8_count_46 (by decide) ?_
          refine lv_icmp_ge (tgt := 74) hx hb dX8_count_48 (by decide) (fun c_125 => absurd c_125 (by decide)) (fun c_125 => ?_)
          refine lv_iload_n hx hb dX8_count_51 rfl (lv_at hl 1 rfl) ?_
          refine lv_aload_n hx hb dX8_count_52 rfl (lv_at hl 2 rfl) ?_
          refine va_get (D := (dC, dI)) (ci := 8) (v := .ref q1) (C := RX8) (T := TX8) (N := 17) hx hb hts (by decide +kernel) hown hK hP 0 rfl rfl 1 (by decide) (hts (.fieldLink RX8 7 "KeyAtlasModel" "kind" "[I") (by decide +kernel)) (fun _ h9 => h9) rfl dX8_count_53 ?_
          refine lv_iload_n hx hb dX8_count_56 rfl (lv_at hl 0 rfl) ?_
          refine va_iald (i := 2) hx hb hK hP 1 0 rfl rfl (by unfold vp_in; decide) dX8_count_57 ?_
          refine W.eq (g2 := F0 m 58 ls [.int 0, .int 0]) rfl ?_
          refine lv_if_eq (tgt := 65) hx hb dX8_count_58 (by decide) (fun c_126 => ?_) (fun c_126 => absurd c_126 (by decide))
          refine lv_iconst (v := 0) hx hb dX8_count_65 (by decide) ?_
          refine lv_iadd hx hb dX8_count_66 ?_
          refine lv_topi (fun z_127 ez_127 => ?_)
          obtain rfl : z_127 = (0 : Int32) := ez_127.trans (by decide)
          refine lv_istore_n (lv' := [(2, .int 0), (3, .int 2), (0, .ref h0), (1, .int p0)]) hx hb dX8_count_67 rfl hl (by decide) rfl (fun ls hl => ?_)
          refine lv_iinc (v := 3) (lv' := [(3, .int 3), (2, .int 0), (0, .ref h0), (1, .int p0)]) hx hb dX8_count_68 hl (k := 1) rfl (by decide) (by decide) rfl (fun ls hl => ?_)
          refine lv_goto (tgt := 45) hx hb dX8_count_71 (by decide) ?_
          refine lv_iload_n hx hb dX8_count_45 rfl (lv_at hl 0 rfl) ?_
          refine lv_bipush (v := 16) hx hb dX8_count_46 (by decide) ?_
          refine lv_icmp_ge (tgt := 74) hx hb dX8_count_48 (by decide) (fun c_128 => absurd c_128 (by decide)) (fun c_128 => ?_)
          refine lv_iload_n hx hb dX8_count_51 rfl (lv_at hl 1 rfl) ?_
          refine lv_aload_n hx hb dX8_count_52 rfl (lv_at hl 2 rfl) ?_
          refine va_get (D := (dC, dI)) (ci := 8) (v := .ref q1) (C := RX8) (T := TX8) (N := 17) hx hb hts (by decide +kernel) hown hK hP 0 rfl rfl 1 (by decide) (hts (.fieldLink RX8 7 "KeyAtlasModel" "kind" "[I") (by decide +kernel)) (fun _ h9 => h9) rfl dX8_count_53 ?_
          refine lv_iload_n hx hb dX8_count_56 rfl (lv_at hl 0 rfl) ?_
          refine va_iald (i := 3) hx hb hK hP 1 0 rfl rfl (by unfold vp_in; decide) dX8_count_57 ?_
          refine W.eq (g2 := F0 m 58 ls [.int 0, .int 0]) rfl ?_
          refine lv_if_eq (tgt := 65) hx hb dX8_count_58 (by decide) (fun c_129 => ?_) (fun c_129 => absurd c_129 (by decide))
          refine lv_iconst (v := 0) hx hb dX8_count_65 (by decide) ?_
          refine lv_iadd hx hb dX8_count_66 ?_
          refine lv_topi (fun z_130 ez_130 => ?_)
          obtain rfl : z_130 = (0 : Int32) := ez_130.trans (by decide)
          refine lv_istore_n (lv' := [(2, .int 0), (3, .int 3), (0, .ref h0), (1, .int p0)]) hx hb dX8_count_67 rfl hl (by decide) rfl (fun ls hl => ?_)
          refine lv_iinc (v := 4) (lv' := [(3, .int 4), (2, .int 0), (0, .ref h0), (1, .int p0)]) hx hb dX8_count_68 hl (k := 1) rfl (by decide) (by decide) rfl (fun ls hl => ?_)
          refine lv_goto (tgt := 45) hx hb dX8_count_71 (by decide) ?_
          refine lv_iload_n hx hb dX8_count_45 rfl (lv_at hl 0 rfl) ?_
          refine lv_bipush (v := 16) hx hb dX8_count_46 (by decide) ?_
          refine lv_icmp_ge (tgt := 74) hx hb dX8_count_48 (by decide) (fun c_131 => absurd c_131 (by decide)) (fun c_131 => ?_)
          refine lv_iload_n hx hb dX8_count_51 rfl (lv_at hl 1 rfl) ?_
          refine lv_aload_n hx hb dX8_count_52 rfl (lv_at hl 2 rfl) ?_
          refine va_get (D := (dC, dI)) (ci := 8) (v := .ref q1) (C := RX8) (T := TX8) (N := 17) hx hb hts (by decide +kernel) hown hK hP 0 rfl rfl 1 (by decide) (hts (.fieldLink RX8 7 "KeyAtlasModel" "kind" "[I") (by decide +kernel)) (fun _ h9 => h9) rfl dX8_count_53 ?_
          refine lv_iload_n hx hb dX8_count_56 rfl (lv_at hl 0 rfl) ?_
          refine va_iald (i := 4) hx hb hK hP 1 0 rfl rfl (by unfold vp_in; decide) dX8_count_57 ?_
          refine W.eq (g2 := F0 m 58 ls [.int 0, .int 0]) rfl ?_
          refine lv_if_eq (tgt := 65) hx hb dX8_count_58 (by decide) (fun c_132 => ?_) (fun c_132 => absurd c_132 (by decide))
          refine lv_iconst (v := 0) hx hb dX8_count_65 (by decide) ?_
          refine lv_iadd hx hb dX8_count_66 ?_
          refine lv_topi (fun z_133 ez_133 => ?_)
          obtain rfl : z_133 = (0 : Int32) := ez_133.trans (by decide)
          refine lv_istore_n (lv' := [(2, .int 0), (3, .int 4), (0, .ref h0), (1, .int p0)]) hx hb dX8_count_67 rfl hl (by decide) rfl (fun ls hl => ?_)
          refine lv_iinc (v := 5) (lv' := [(3, .int 5), (2, .int 0), (0, .ref h0), (1, .int p0)]) hx hb dX8_count_68 hl (k := 1) rfl (by decide) (by decide) rfl (fun ls hl => ?_)
          refine lv_goto (tgt := 45) hx hb dX8_count_71 (by decide) ?_
          refine lv_iload_n hx hb dX8_count_45 rfl (lv_at hl 0 rfl) ?_
          refine lv_bipush (v := 16) hx hb dX8_count_46 (by decide) ?_
          refine lv_icmp_ge (tgt := 74) hx hb dX8_count_48 (by decide) (fun c_134 => absurd c_134 (by decide)) (fun c_134 => ?_)
          refine lv_iload_n hx hb dX8_count_51 rfl (lv_at hl 1 rfl) ?_
          refine lv_aload_n hx hb dX8_count_52 rfl (lv_at hl 2 rfl) ?_
          refine va_get (D := (dC, dI)) (ci := 8) (v := .ref q1) (C := RX8) (T := TX8) (N := 17) hx hb hts (by decide +kernel) hown hK hP 0 rfl rfl 1 (by decide) (hts (.fieldLink RX8 7 "KeyAtlasModel" "kind" "[I") (by decide +kernel)) (fun _ h9 => h9) rfl dX8_count_53 ?_
          refine lv_iload_n hx hb dX8_count_56 rfl (lv_at hl 0 rfl) ?_
          refine va_iald (i := 5) hx hb hK hP 1 0 rfl rfl (by unfold vp_in; decide) dX8_count_57 ?_
          refine W.eq (g2 := F0 m 58 ls [.int 0, .int 0]) rfl ?_
          refine lv_if_eq (tgt := 65) hx hb dX8_count_58 (by decide) (fun c_135 => ?_) (fun c_135 => absurd c_135 (by decide))
          refine lv_iconst (v := 0) hx hb dX8_count_65 (by decide) ?_
          refine lv_iadd hx hb dX8_count_66 ?_
          refine lv_topi (fun z_136 ez_136 => ?_)
          obtain rfl : z_136 = (0 : Int32) := ez_136.trans (by decide)
          refine lv_istore_n (lv' := [(2, .int 0), (3, .int 5), (0, .ref h0), (1, .int p0)]) hx hb dX8_count_67 rfl hl (by decide) rfl (fun ls hl => ?_)
          refine lv_iinc (v := 6) (lv' := [(3, .int 6), (2, .int 0), (0, .ref h0), (1, .int p0)]) hx hb dX8_count_68 hl (k := 1) rfl (by decide) (by decide) rfl (fun ls hl => ?_)
          refine lv_goto (tgt := 45) hx hb dX8_count_71 (by decide) ?_
          refine lv_iload_n hx hb dX8_count_45 rfl (lv_at hl 0 rfl) ?_
          refine lv_bipush (v := 16) hx hb dX8_count_46 (by decide) ?_
          refine lv_icmp_ge (tgt := 74) hx hb dX8_count_48 (by decide) (fun c_137 => absurd c_137 (by decide)) (fun c_137 => ?_)
          refine lv_iload_n hx hb dX8_count_51 rfl (lv_at hl 1 rfl) ?_
          refine lv_aload_n hx hb dX8_count_52 rfl (lv_at hl 2 rfl) ?_
          refine va_get (D := (dC, dI)) (ci := 8) (v := .ref q1) (C := RX8) (T := TX8) (N := 17) hx hb hts (by decide +kernel) hown hK hP 0 rfl rfl 1 (by decide) (hts (.fieldLink RX8 7 "KeyAtlasModel" "kind" "[I") (by decide +kernel)) (fun _ h9 => h9) rfl dX8_count_53 ?_
          refine lv_iload_n hx hb dX8_count_56 rfl (lv_at hl 0 rfl) ?_
          refine va_iald (i := 6) hx hb hK hP 1 0 rfl rfl (by unfold vp_in; decide) dX8_count_57 ?_
          refine W.eq (g2 := F0 m 58 ls [.int 0, .int 0]) rfl ?_
          refine lv_if_eq (tgt := 65) hx hb dX8_count_58 (by decide) (fun c_138 => ?_) (fun c_138 => absurd c_138 (by decide))
          refine lv_iconst (v := 0) hx hb dX8_count_65 (by decide) ?_
          refine lv_iadd hx hb dX8_count_66 ?_
          refine lv_topi (fun z_139 ez_139 => ?_)
          obtain rfl : z_139 = (0 : Int32) := ez_139.trans (by decide)
          refine lv_istore_n (lv' := [(2, .int 0), (3, .int 6), (0, .ref h0), (1, .int p0)]) hx hb dX8_count_67 rfl hl (by decide) rfl (fun ls hl => ?_)
          refine lv_iinc (v := 7) (lv' := [(3, .int 7), (2, .int 0), (0, .ref h0), (1, .int p0)]) hx hb dX8_count_68 hl (k := 1) rfl (by decide) (by decide) rfl (fun ls hl => ?_)
          refine lv_goto (tgt := 45) hx hb dX8_count_71 (by decide) ?_
          refine lv_iload_n hx hb dX8_count_45 rfl (lv_at hl 0 rfl) ?_
          refine lv_bipush (v := 16) hx hb dX8_count_46 (by decide) ?_
          refine lv_icmp_ge (tgt := 74) hx hb dX8_count_48 (by decide) (fun c_140 => absurd c_140 (by decide)) (fun c_140 => ?_)
          refine lv_iload_n hx hb dX8_count_51 rfl (lv_at hl 1 rfl) ?_
          refine lv_aload_n hx hb dX8_count_52 rfl (lv_at hl 2 rfl) ?_
          refine va_get (D := (dC, dI)) (ci := 8) (v := .ref q1) (C := RX8) (T := TX8) (N := 17) hx hb hts (by decide +kernel) hown hK hP 0 rfl rfl 1 (by decide) (hts (.fieldLink RX8 7 "KeyAtlasModel" "kind" "[I") (by decide +kernel)) (fun _ h9 => h9) rfl dX8_count_53 ?_
          refine lv_iload_n hx hb dX8_count_56 rfl (lv_at hl 0 rfl) ?_
          refine va_iald (i := 7) hx hb hK hP 1 0 rfl rfl (by unfold vp_in; decide) dX8_count_57 ?_
          refine W.eq (g2 := F0 m 58 ls [.int 0, .int 0]) rfl ?_
          refine lv_if_eq (tgt := 65) hx hb dX8_count_58 (by decide) (fun c_141 => ?_) (fun c_141 => absurd c_141 (by decide))
          refine lv_iconst (v := 0) hx hb dX8_count_65 (by decide) ?_
          refine lv_iadd hx hb dX8_count_66 ?_
          refine lv_topi (fun z_142 ez_142 => ?_)
          obtain rfl : z_142 = (0 : Int32) := ez_142.trans (by decide)
          refine lv_istore_n (lv' := [(2, .int 0), (3, .int 7), (0, .ref h0), (1, .int p0)]) hx hb dX8_count_67 rfl hl (by decide) rfl (fun ls hl => ?_)
          refine lv_iinc (v := 8) (lv' := [(3, .int 8), (2, .int 0), (0, .ref h0), (1, .int p0)]) hx hb dX8_count_68 hl (k := 1) rfl (by decide) (by decide) rfl (fun ls hl => ?_)
          refine lv_goto (tgt := 45) hx hb dX8_count_71 (by decide) ?_
          refine lv_iload_n hx hb dX8_count_45 rfl (lv_at hl 0 rfl) ?_
          refine lv_bipush (v := 16) hx hb dX8_count_46 (by decide) ?_
          refine lv_icmp_ge (tgt := 74) hx hb dX8_count_48 (by decide) (fun c_143 => absurd c_143 (by decide)) (fun c_143 => ?_)
          refine lv_iload_n hx hb dX8_count_51 rfl (lv_at hl 1 rfl) ?_
          refine lv_aload_n hx hb dX8_count_52 rfl (lv_at hl 2 rfl) ?_
          refine va_get (D := (dC, dI)) (ci := 8) (v := .ref q1) (C := RX8) (T := TX8) (N := 17) hx hb hts (by decide +kernel) hown hK hP 0 rfl rfl 1 (by decide) (hts (.fieldLink RX8 7 "KeyAtlasModel" "kind" "[I") (by decide +kernel)) (fun _ h9 => h9) rfl dX8_count_53 ?_
          refine lv_iload_n hx hb dX8_count_56 rfl (lv_at hl 0 rfl) ?_
          refine va_iald (i := 8) hx hb hK hP 1 0 rfl rfl (by unfold vp_in; decide) dX8_count_57 ?_
          refine W.eq (g2 := F0 m 58 ls [.int 0, .int 0]) rfl ?_
          refine lv_if_eq (tgt := 65) hx hb dX8_count_58 (by decide) (fun c_144 => ?_) (fun c_144 => absurd c_144 (by decide))
          refine lv_iconst (v := 0) hx hb dX8_count_65 (by decide) ?_
          refine lv_iadd hx hb dX8_count_66 ?_
          refine lv_topi (fun z_145 ez_145 => ?_)
          obtain rfl : z_145 = (0 : Int32) := ez_145.trans (by decide)
          refine lv_istore_n (lv' := [(2, .int 0), (3, .int 8), (0, .ref h0), (1, .int p0)]) hx hb dX8_count_67 rfl hl (by decide) rfl (fun ls hl => ?_)
          refine lv_iinc (v := 9) (lv' := [(3, .int 9), (2, .int 0), (0, .ref h0), (1, .int p0)]) hx hb dX8_count_68 hl (k := 1) rfl (by decide) (by decide) rfl (fun ls hl => ?_)
          refine lv_goto (tgt := 45) hx hb dX8_count_71 (by decide) ?_
          refine lv_iload_n hx hb dX8_count_45 rfl (lv_at hl 0 rfl) ?_
          refine lv_bipush (v := 16) hx hb dX8_count_46 (by decide) ?_
          refine lv_icmp_ge (tgt := 74) hx hb dX8_count_48 (by decide) (fun c_146 => absurd c_146 (by decide)) (fun c_146 => ?_)
          refine lv_iload_n hx hb dX8_count_51 rfl (lv_at hl 1 rfl) ?_
          refine lv_aload_n hx hb dX8_count_52 rfl (lv_at hl 2 rfl) ?_
          refine va_get (D := (dC, dI)) (ci := 8) (v := .ref q1) (C := RX8) (T := TX8) (N := 17) hx hb hts (by decide +kernel) hown hK hP 0 rfl rfl 1 (by decide) (hts (.fieldLink RX8 7 "KeyAtlasModel" "kind" "[I") (by decide +kernel)) (fun _ h9 => h9) rfl dX8_count_53 ?_
          refine lv_iload_n hx hb dX8_count_56 rfl (lv_at hl 0 rfl) ?_
          refine va_iald (i := 9) hx hb hK hP 1 0 rfl rfl (by unfold vp_in; decide) dX8_count_57 ?_
          refine W.eq (g2 := F0 m 58 ls [.int 0, .int 0]) rfl ?_
          refine lv_if_eq (tgt := 65) hx hb dX8_count_58 (by decide) (fun c_147 => ?_) (fun c_147 => absurd c_147 (by decide))
          refine lv_iconst (v := 0) hx hb dX8_count_65 (by decide) ?_
          refine lv_iadd hx hb dX8_count_66 ?_
          refine lv_topi (fun z_148 ez_148 => ?_)
          obtain rfl : z_148 = (0 : Int32) := ez_148.trans (by decide)
          refine lv_istore_n (lv' := [(2, .int 0), (3, .int 9), (0, .ref h0), (1, .int p0)]) hx hb dX8_count_67 rfl hl (by decide) rfl (fun ls hl => ?_)
          refine lv_iinc (v := 10) (lv' := [(3, .int 10), (2, .int 0), (0, .ref h0), (1, .int p0)]) hx hb dX8_count_68 hl (k := 1) rfl (by decide) (by decide) rfl (fun ls hl => ?_)
          refine lv_goto (tgt := 45) hx hb dX8_count_71 (by decide) ?_
          refine lv_iload_n hx hb dX8_count_45 rfl (lv_at hl 0 rfl) ?_
          refine lv_bipush (v := 16) hx hb dX8_count_46 (by decide) ?_
          refine lv_icmp_ge (tgt := 74) hx hb dX8_count_48 (by decide) (fun c_149 => absurd c_149 (by decide)) (fun c_149 => ?_)
          refine lv_iload_n hx hb dX8_count_51 rfl (lv_at hl 1 rfl) ?_
          refine lv_aload_n hx hb dX8_count_52 rfl (lv_at hl 2 rfl) ?_
          refine va_get (D := (dC, dI)) (ci := 8) (v := .ref q1) (C := RX8) (T := TX8) (N := 17) hx hb hts (by decide +kernel) hown hK hP 0 rfl rfl 1 (by decide) (hts (.fieldLink RX8 7 "KeyAtlasModel" "kind" "[I") (by decide +kernel)) (fun _ h9 => h9) rfl dX8_count_53 ?_
          refine lv_iload_n hx hb dX8_count_56 rfl (lv_at hl 0 rfl) ?_
          refine va_iald (i := 10) hx hb hK hP 1 0 rfl rfl (by unfold vp_in; decide) dX8_count_57 ?_
          refine W.eq (g2 := F0 m 58 ls [.int 0, .int 0]) rfl ?_
          refine lv_if_eq (tgt := 65) hx hb dX8_count_58 (by decide) (fun c_150 => ?_) (fun c_150 => absurd c_150 (by decide))
          refine lv_iconst (v := 0) hx hb dX8_count_65 (by decide) ?_
          refine lv_iadd hx hb dX8_count_66 ?_
          refine lv_topi (fun z_151 ez_151 => ?_)
          obtain rfl : z_151 = (0 : Int32) := ez_151.trans (by decide)
          refine lv_istore_n (lv' := [(2, .int 0), (3, .int 10), (0, .ref h0), (1, .int p0)]) hx hb dX8_count_67 rfl hl (by decide) rfl (fun ls hl => ?_)
          refine lv_iinc (v := 11) (lv' := [(3, .int 11), (2, .int 0), (0, .ref h0), (1, .int p0)]) hx hb dX8_count_68 hl (k := 1) rfl (by decide) (by decide) rfl (fun ls hl => ?_)
          refine lv_goto (tgt := 45) hx hb dX8_count_71 (by decide) ?_
          refine lv_iload_n hx hb dX8_count_45 rfl (lv_at hl 0 rfl) ?_
          refine lv_bipush (v := 16) hx hb dX8_count_46 (by decide) ?_
          refine lv_icmp_ge (tgt := 74) hx hb dX8_count_48 (by decide) (fun c_152 => absurd c_152 (by decide)) (fun c_152 => ?_)
          refine lv_iload_n hx hb dX8_count_51 rfl (lv_at hl 1 rfl) ?_
          refine lv_aload_n hx hb dX8_count_52 rfl (lv_at hl 2 rfl) ?_
          refine va_get (D := (dC, dI)) (ci := 8) (v := .ref q1) (C := RX8) (T := TX8) (N := 17) hx hb hts (by decide +kernel) hown hK hP 0 rfl rfl 1 (by decide) (hts (.fieldLink RX8 7 "KeyAtlasModel" "kind" "[I") (by decide +kernel)) (fun _ h9 => h9) rfl dX8_count_53 ?_
          refine lv_iload_n hx hb dX8_count_56 rfl (lv_at hl 0 rfl) ?_
          refine va_iald (i := 11) hx hb hK hP 1 0 rfl rfl (by unfold vp_in; decide) dX8_count_57 ?_
          refine W.eq (g2 := F0 m 58 ls [.int 0, .int 0]) rfl ?_
          refine lv_if_eq (tgt := 65) hx hb dX8_count_58 (by decide) (fun c_153 => ?_) (fun c_153 => absurd c_153 (by decide))
          refine lv_iconst (v := 0) hx hb dX8_count_65 (by decide) ?_
          refine lv_iadd hx hb dX8_count_66 ?_
          refine lv_topi (fun z_154 ez_154 => ?_)
          obtain rfl : z_154 = (0 : Int32) := ez_154.trans (by decide)
          refine lv_istore_n (lv' := [(2, .int 0), (3, .int 11), (0, .ref h0), (1, .int p0)]) hx hb dX8_count_67 rfl hl (by decide) rfl (fun ls hl => ?_)
          refine lv_iinc (v := 12) (lv' := [(3, .int 12), (2, .int 0), (0, .ref h0), (1, .int p0)]) hx hb dX8_count_68 hl (k := 1) rfl (by decide) (by decide) rfl (fun ls hl => ?_)
          refine lv_goto (tgt := 45) hx hb dX8_count_71 (by decide) ?_
          refine lv_iload_n hx hb dX8_count_45 rfl (lv_at hl 0 rfl) ?_
          refine lv_bipush (v := 16) hx hb dX8_count_46 (by decide) ?_
          refine lv_icmp_ge (tgt := 74) hx hb dX8_count_48 (by decide) (fun c_155 => absurd c_155 (by decide)) (fun c_155 => ?_)
          refine lv_iload_n hx hb dX8_count_51 rfl (lv_at hl 1 rfl) ?_
          refine lv_aload_n hx hb dX8_count_52 rfl (lv_at hl 2 rfl) ?_
          refine va_get (D := (dC, dI)) (ci := 8) (v := .ref q1) (C := RX8) (T := TX8) (N := 17) hx hb hts (by decide +kernel) hown hK hP 0 rfl rfl 1 (by decide) (hts (.fieldLink RX8 7 "KeyAtlasModel" "kind" "[I") (by decide +kernel)) (fun _ h9 => h9) rfl dX8_count_53 ?_
          refine lv_iload_n hx hb dX8_count_56 rfl (lv_at hl 0 rfl) ?_
          refine va_iald (i := 12) hx hb hK hP 1 0 rfl rfl (by unfold vp_in; decide) dX8_count_57 ?_
          refine W.eq (g2 := F0 m 58 ls [.int 0, .int 0]) rfl ?_
          refine lv_if_eq (tgt := 65) hx hb dX8_count_58 (by decide) (fun c_156 => ?_) (fun c_156 => absurd c_156 (by decide))
          refine lv_iconst (v := 0) hx hb dX8_count_65 (by decide) ?_
          refine lv_iadd hx hb dX8_count_66 ?_
          refine lv_topi (fun z_157 ez_157 => ?_)
          obtain rfl : z_157 = (0 : Int32) := ez_157.trans (by decide)
          refine lv_istore_n (lv' := [(2, .int 0), (3, .int 12), (0, .ref h0), (1, .int p0)]) hx hb dX8_count_67 rfl hl (by decide) rfl (fun ls hl => ?_)
          refine lv_iinc (v := 13) (lv' := [(3, .int 13), (2, .int 0), (0, .ref h0), (1, .int p0)]) hx hb dX8_count_68 hl (k := 1) rfl (by decide) (by decide) rfl (fun ls hl => ?_)
          refine lv_goto (tgt := 45) hx hb dX8_count_71 (by decide) ?_
          refine lv_iload_n hx hb dX8_count_45 rfl (lv_at hl 0 rfl) ?_
          refine lv_bipush (v := 16) hx hb dX8_count_46 (by decide) ?_
          refine lv_icmp_ge (tgt := 74) hx hb dX8_count_48 (by decide) (fun c_158 => absurd c_158 (by decide)) (fun c_158 => ?_)
          refine lv_iload_n hx hb dX8_count_51 rfl (lv_at hl 1 rfl) ?_
          refine lv_aload_n hx hb dX8_count_52 rfl (lv_at hl 2 rfl) ?_
          refine va_get (D := (dC, dI)) (ci := 8) (v := .ref q1) (C := RX8) (T := TX8) (N := 17) hx hb hts (by decide +kernel) hown hK hP 0 rfl rfl 1 (by decide) (hts (.fieldLink RX8 7 "KeyAtlasModel" "kind" "[I") (by decide +kernel)) (fun _ h9 => h9) rfl dX8_count_53 ?_
          refine lv_iload_n hx hb dX8_count_56 rfl (lv_at hl 0 rfl) ?_
          refine va_iald (i := 13) hx hb hK hP 1 0 rfl rfl (by unfold vp_in; decide) dX8_count_57 ?_
          refine W.eq (g2 := F0 m 58 ls [.int 0, .int 0]) rfl ?_
          refine lv_if_eq (tgt := 65) hx hb dX8_count_58 (by decide) (fun c_159 => ?_) (fun c_159 => absurd c_159 (by decide))
          refine lv_iconst (v := 0) hx hb dX8_count_65 (by decide) ?_
          refine lv_iadd hx hb dX8_count_66 ?_
          refine lv_topi (fun z_160 ez_160 => ?_)
          obtain rfl : z_160 = (0 : Int32) := ez_160.trans (by decide)
          refine lv_istore_n (lv' := [(2, .int 0), (3, .int 13), (0, .ref h0), (1, .int p0)]) hx hb dX8_count_67 rfl hl (by decide) rfl (fun ls hl => ?_)
          refine lv_iinc (v := 14) (lv' := [(3, .int 14), (2, .int 0), (0, .ref h0), (1, .int p0)]) hx hb dX8_count_68 hl (k := 1) rfl (by decide) (by decide) rfl (fun ls hl => ?_)
          refine lv_goto (tgt := 45) hx hb dX8_count_71 (by decide) ?_
          refine lv_iload_n hx hb dX8_count_45 rfl (lv_at hl 0 rfl) ?_
          refine lv_bipush (v := 16) hx hb dX8_count_46 (by decide) ?_
          refine lv_icmp_ge (tgt := 74) hx hb dX8_count_48 (by decide) (fun c_161 => absurd c_161 (by decide)) (fun c_161 => ?_)
          refine lv_iload_n hx hb dX8_count_51 rfl (lv_at hl 1 rfl) ?_
          refine lv_aload_n hx hb dX8_count_52 rfl (lv_at hl 2 rfl) ?_
          refine va_get (D := (dC, dI)) (ci := 8) (v := .ref q1) (C := RX8) (T := TX8) (N := 17) hx hb hts (by decide +kernel) hown hK hP 0 rfl rfl 1 (by decide) (hts (.fieldLink RX8 7 "KeyAtlasModel" "kind" "[I") (by decide +kernel)) (fun _ h9 => h9) rfl dX8_count_53 ?_
          refine lv_iload_n hx hb dX8_count_56 rfl (lv_at hl 0 rfl) ?_
          refine va_iald (i := 14) hx hb hK hP 1 0 rfl rfl (by unfold vp_in; decide) dX8_count_57 ?_
          refine W.eq (g2 := F0 m 58 ls [.int 0, .int 0]) rfl ?_
          refine lv_if_eq (tgt := 65) hx hb dX8_count_58 (by decide) (fun c_162 => ?_) (fun c_162 => absurd c_162 (by decide))
          refine lv_iconst (v := 0) hx hb dX8_count_65 (by decide) ?_
          refine lv_iadd hx hb dX8_count_66 ?_
          refine lv_topi (fun z_163 ez_163 => ?_)
          obtain rfl : z_163 = (0 : Int32) := ez_163.trans (by decide)
          refine lv_istore_n (lv' := [(2, .int 0), (3, .int 14), (0, .ref h0), (1, .int p0)]) hx hb dX8_count_67 rfl hl (by decide) rfl (fun ls hl => ?_)
          refine lv_iinc (v := 15) (lv' := [(3, .int 15), (2, .int 0), (0, .ref h0), (1, .int p0)]) hx hb dX8_count_68 hl (k := 1) rfl (by decide) (by decide) rfl (fun ls hl => ?_)
          refine lv_goto (tgt := 45) hx hb dX8_count_71 (by decide) ?_
          refine lv_iload_n hx hb dX8_count_45 rfl (lv_at hl 0 rfl) ?_
          refine lv_bipush (v := 16) hx hb dX8_count_46 (by decide) ?_
          refine lv_icmp_ge (tgt := 74) hx hb dX8_count_48 (by decide) (fun c_164 => absurd c_164 (by decide)) (fun c_164 => ?_)
          refine lv_iload_n hx hb dX8_count_51 rfl (lv_at hl 1 rfl) ?_
          refine lv_aload_n hx hb dX8_count_52 rfl (lv_at hl 2 rfl) ?_
          refine va_get (D := (dC, dI)) (ci := 8) (v := .ref q1) (C := RX8) (T := TX8) (N := 17) hx hb hts (by decide +kernel) hown hK hP 0 rfl rfl 1 (by decide) (hts (.fieldLink RX8 7 "KeyAtlasModel" "kind" "[I") (by decide +kernel)) (fun _ h9 => h9) rfl dX8_count_53 ?_
          refine lv_iload_n hx hb dX8_count_56 rfl (lv_at hl 0 rfl) ?_
          refine va_iald (i := 15) hx hb hK hP 1 0 rfl rfl (by unfold vp_in; decide) dX8_count_57 ?_
          refine W.eq (g2 := F0 m 58 ls [.int 0, .int 0]) rfl ?_
          refine lv_if_eq (tgt := 65) hx hb dX8_count_58 (by decide) (fun c_165 => ?_) (fun c_165 => absurd c_165 (by decide))
          refine lv_iconst (v := 0) hx hb dX8_count_65 (by decide) ?_
          refine lv_iadd hx hb dX8_count_66 ?_
          refine lv_topi (fun z_166 ez_166 => ?_)
          obtain rfl : z_166 = (0 : Int32) := ez_166.trans (by decide)
          refine lv_istore_n (lv' := [(2, .int 0), (3, .int 15), (0, .ref h0), (1, .int p0)]) hx hb dX8_count_67 rfl hl (by decide) rfl (fun ls hl => ?_)
          refine lv_iinc (v := 16) (lv' := [(3, .int 16), (2, .int 0), (0, .ref h0), (1, .int p0)]) hx hb dX8_count_68 hl (k := 1) rfl (by decide) (by decide) rfl (fun ls hl => ?_)
          refine lv_goto (tgt := 45) hx hb dX8_count_71 (by decide) ?_
          refine lv_iload_n hx hb dX8_count_45 rfl (lv_at hl 0 rfl) ?_
          refine lv_bipush (v := 16) hx hb dX8_count_46 (by decide) ?_
          refine lv_icmp_ge (tgt := 74) hx hb dX8_count_48 (by decide) (fun c_167 => ?_) (fun c_167 => absurd c_167 (by decide))
          refine lv_iload_n hx hb dX8_count_74 rfl (lv_at hl 1 rfl) ?_
          have hP9 := hP.sub (ws' := [(h0, .inr (8, [.int 0, .ref q1, v2, .ref q3, .ref q4, .ref q5, .ref q6, .ref q7, .ref q8, v9, v10, v11, v12, v13, v14, v15, v16]))]) [0] rfl
          have hD9 := hD.sub (ws' := [(h0, .inr (8, [.int 0, .ref q1, v2, .ref q3, .ref q4, .ref q5, .ref q6, .ref q7, .ref q8, v9, v10, v11, v12, v13, v14, v15, v16]))]) [0] (by decide) rfl
          have hK9 := hK.sub (tys' := []) [] rfl
          refine W.widen (k := 0) (n := 0) (Nat.le_of_ble_eq_true rfl) (Nat.le_of_ble_eq_true rfl) ?_
          exact W.iret (v := 0) hx hb hr (fun t ht hW => ⟨⟨0, 0, rfl, tx_at2 (P := ctIs p0) (n := 0) (m := 0) (by decide) (by decide) (by unfold ctIs; omega), by rw [ht]; exact hP9, va_K.moved hW.alike hK9, hD9⟩, hS.F ht⟩) hS.2.2 dX8_count_75
      ·
        have ic_113 : r_112.toInt = 0 := tx_eq rfl (by decide) c_113
        refine lv_aload_n hx hb dX8_count_26 rfl (lv_at hl 0 rfl) ?_
        refine lv_iconst (v := 1) hx hb dX8_count_27 (by decide) ?_
        have hPc := hP.sub (ws' := [(h0, .inr (8, [.int th, .ref q1, v2, .ref q3, .ref q4, .ref q5, .ref q6, .ref q7, .ref q8, v9, v10, v11, v12, v13, v14, v15, v16]))]) [0] rfl
        have hDc := hD.sub (ws' := [(h0, .inr (8, [.int th, .ref q1, v2, .ref q3, .ref q4, .ref q5, .ref q6, .ref q7, .ref q8, v9, v10, v11, v12, v13, v14, v15, v16]))]) [0] (by decide) rfl
        have hKc := hK.sub (tys' := []) [] rfl
        have hFc := va_free (wc := [(h0, .inr (8, [.int th, .ref q1, v2, .ref q3, .ref q4, .ref q5, .ref q6, .ref q7, .ref q8, v9, v10, v11, v12, v13, v14, v15, v16]))]) hD hS hA [0] rfl
        refine va_calli (va_runV (As := [.int 1]) (rest := []) ⟨hx, hb, hml, hown, hts⟩ (c_X8_refuse l  dC dI H.size h0 th 1 (.ref q1) v2 (.ref q3) (.ref q4) (.ref q5) (.ref q6) (.ref q7) (.ref q8) v9 v10 v11 v12 v13 v14 v15 v16) (cwV 1 hts gP_X8_count_refuse rfl rfl rfl (by decide +kernel) ⟨(Nat.le_of_ble_eq_true rfl), (Nat.le_of_ble_eq_true rfl)⟩) ⟨pk_blind, va_recv hKc hPc (ci := 8) (q0 := 0) rfl rfl, pk_call hPc hKc hDc⟩ rfl rfl hl.1 rfl (lv_room (Nat.le_of_ble_eq_true rfl)) dX8_count_28 ⟨(Nat.le_of_ble_eq_true rfl), (Nat.le_of_ble_eq_true rfl)⟩) hS (fun q _ h => hFc q h) hFc (fun r_168 ur_168 t H1 locs ht hvm hw hB hz1 hk1 hS => ?_)
        try dsimp only at hw
        have jr_168 := hw
        obtain ⟨hP1, hK1, hD1⟩ := hB
        rw [ht] at hP1
        have hK1 := va_K.moved hvm.symm hK1
        obtain ⟨hP, hD⟩ := va_join (wr := [(q1, .inl (c1, 16, .inl (fun _ => (0 : Int32)))), (q3, .inl (c3, 16, .inl (fun _ => (0 : Int32)))), (q4, .inl (c4, 16, .inl (fun _ => (0 : Int32)))), (q5, .inl (c5, 16, .inl (fun _ => (0 : Int32)))), (q6, .inl (c6, 16, .inl (fun _ => (0 : Int32)))), (q7, .inl (c7, 16, .inl (fun _ => (0 : Int32)))), (q8, .inl (c8, 16, .inl (fun _ => (0 : Int32))))]) (w1 := [(h0, .inr (8, [.int 1, .ref q1, v2, .ref q3, .ref q4, .ref q5, .ref q6, .ref q7, .ref q8, v9, v10, v11, v12, v13, v14, v15, v16]))]) hP hD [0] [1, 2, 3, 4, 5, 6, 7] rfl rfl (by decide) (by decide) hk1 hFc hP1 hD1
        clear hk1 hz1 ht hPc hDc hKc
        generalize H1 = H at hP hS ⊢
        have hP : va_P (dC, dI) vwCl [(q1, .inl (c1, 16, .inl (fun _ => (0 : Int32)))), (q3, .inl (c3, 16, .inl (fun _ => (0 : Int32)))), (q4, .inl (c4, 16, .inl (fun _ => (0 : Int32)))), (q5, .inl (c5, 16, .inl (fun _ => (0 : Int32)))), (q6, .inl (c6, 16, .inl (fun _ => (0 : Int32)))), (q7, .inl (c7, 16, .inl (fun _ => (0 : Int32)))), (q8, .inl (c8, 16, .inl (fun _ => (0 : Int32)))), (h0, .inr (8, [.int 1, .ref q1, v2, .ref q3, .ref q4, .ref q5, .ref q6, .ref q7, .ref q8, v9, v10, v11, v12, v13, v14, v15, v16]))] H := hP
        have hD : va_D A [(q1, .inl (c1, 16, .inl (fun _ => (0 : Int32)))), (q3, .inl (c3, 16, .inl (fun _ => (0 : Int32)))), (q4, .inl (c4, 16, .inl (fun _ => (0 : Int32)))), (q5, .inl (c5, 16, .inl (fun _ => (0 : Int32)))), (q6, .inl (c6, 16, .inl (fun _ => (0 : Int32)))), (q7, .inl (c7, 16, .inl (fun _ => (0 : Int32)))), (q8, .inl (c8, 16, .inl (fun _ => (0 : Int32)))), (h0, .inr (8, [.int 1, .ref q1, v2, .ref q3, .ref q4, .ref q5, .ref q6, .ref q7, .ref q8, v9, v10, v11, v12, v13, v14, v15, v16]))] := hD
        refine W.widen (k := 0) (n := 0) (Nat.le_of_ble_eq_true rfl) (Nat.le_of_ble_eq_true rfl) ?_
        refine W.eq (g2 := F0 m 31 ls [.int r_168]) rfl ?_
        have hP9 := hP.sub (ws' := [(h0, .inr (8, [.int 1, .ref q1, v2, .ref q3, .ref q4, .ref q5, .ref q6, .ref q7, .ref q8, v9, v10, v11, v12, v13, v14, v15, v16]))]) [7] rfl
        have hD9 := hD.sub (ws' := [(h0, .inr (8, [.int 1, .ref q1, v2, .ref q3, .ref q4, .ref q5, .ref q6, .ref q7, .ref q8, v9, v10, v11, v12, v13, v14, v15, v16]))]) [7] (by decide) rfl
        have hK9 := hK.sub (tys' := []) [] rfl
        refine W.widen (k := 0) (n := 0) (Nat.le_of_ble_eq_true rfl) (Nat.le_of_ble_eq_true rfl) ?_
        exact W.iret (v := r_168) hx hb hr (fun t ht hW => ⟨⟨r_168, 1, rfl, tx_at2 (P := ctIs p0) (n := 1) (m := 0) (by decide) (by rw [jr_168]; decide) (by unfold ctIs; omega), by rw [ht]; exact hP9, va_K.moved hW.alike hK9, hD9⟩, hS.F ht⟩) hS.2.2 dX8_count_31
end
section
set_option maxHeartbeats 4000000 in
set_option maxRecDepth 100000 in
/-- Body(kind, whole) in an object of X2 -/
theorem c_X0_init_X2 (l : Launch) (dC : Nat → ClassId) (dI : Nat → Nat → Nat) (sz : Nat) (h0 : Nat) (p0 : Int32) (p1 : Int32) (f0 : Value) (f1 : Value) (f2 : Value) (f3 : Value) (f4 : Value) (f5 : Value) (f6 : Value) : Met l yX0_init wsX0_init ({ frames := 1, cells := 0, slots := 0, locals := 16 }) (va_Pc [.ref h0, .int p0, .int p1] (pk_Pre (dC, dI) [(h0, .inr (3, [f0, f1, f2, f3, f4, f5, f6]))] [] sz)) (va_Qv (fun (_ : Unit) => True) (fun (_ : Unit) (t : State) => va_P (dC, dI) vwCl [(h0, .inr (3, [f0, .int p0, .int p1, f3, f4, f5, f6]))] t.heap ∧ va_K (dC, dI) vwCl [] t ∧ va_D (va_A [(h0, .inr (3, [f0, f1, f2, f3, f4, f5, f6]))] sz) [(h0, .inr (3, [f0, .int p0, .int p1, f3, f4, f5, f6]))]) (va_A [(h0, .inr (3, [f0, f1, f2, f3, f4, f5, f6]))] sz)) 0 0 (va_A [(h0, .inr (3, [f0, f1, f2, f3, f4, f5, f6]))] sz) := by
  refine Met.ofW (cc := cX0_init) (maxL := 3) (ret := none) (by decide) rfl ?_
  intro p e s m args below meth c s₁ B hml hv
  obtain ⟨rfl, hsz, hP, hK, hD0⟩ := hv
  have hx := B.exec
  have hb := B.bytes
  have hr := B.returns
  have hts := atoms_spec (ws := wsX0_init) B.pre
  have hown : s.vm.findClass RX0 = some m.cls := findClass_of_methodNamed B.named
  have hlocks := B.notSynchronized
  have hin : meth.name = "<init>" := (name_of_methodNamed B.named B.method).1
  subst hsz
  have hD := hD0.self (sz := s.heap.size)
  generalize hAe : va_A [(h0, .inr (3, [f0, f1, f2, f3, f4, f5, f6]))] s.heap.size = A at hD ⊢
  have hA : ∀ q : Nat, s.heap.size ≤ q → A q := fun q h => by rw [← hAe]; exact Or.inr h
  have hS : va_S A s.heap s.heap [] := va_S.rf
  have hP : va_P (dC, dI) vwCl [(h0, .inr (3, [f0, f1, f2, f3, f4, f5, f6]))] s.heap := hP
  have hl := lv_entry ([.ref h0, .int p0, .int p1]) (n := 3) (Nat.le_of_ble_eq_true rfl)
  rw [lg_entry_eq]
  generalize (lg_sl ([.ref h0, .int p0, .int p1]) ++ List.replicate (3 - (lg_sl ([.ref h0, .int p0, .int p1])).length) Slot.unset).toArray = ls at hl ⊢
  have hl : lv_has ls 3 [(0, .ref h0), (1, .int p0), (2, .int p1)] := hl
  refine lv_aload_n hx hb dX0_init_0 rfl (lv_at hl 0 rfl) ?_
  refine W.objInit hx hb hown (hts (.methodLink RX0 1 objectInit) (by decide +kernel)) (hts (.instanceMethod objectInit) (by decide +kernel)) (hts _ (List.mem_cons_of_mem _ (List.mem_append_left _ (List.mem_of_getElem? (i := 2) rfl)))) rfl (by rw [hml]; exact hl.1) rfl dX0_init_1 (Nat.le_of_ble_eq_true rfl) (Nat.le_of_ble_eq_true rfl) ?_
  refine W.eq (g2 := F0 m 4 ls []) rfl ?_
  refine lv_aload_n hx hb dX0_init_4 rfl (lv_at hl 0 rfl) ?_
  refine lv_iload_n hx hb dX0_init_5 rfl (lv_at hl 1 rfl) ?_
  refine va_putF (D := (dC, dI)) (ci := 3) (v := .int p0) (ty := .int) (C := RX2) (T := TX2) (N := 7) hx hb hts (by decide +kernel) tyX2 tyX2_ok nmX2 hown hK hP hD hS 0 rfl rfl 1 (by decide) (hts (.fieldLink RX0 7 "KeyAtlas$Body" "kind" "I") (by decide +kernel)) (fun _ h9 => h9) rfl hin rfl (by decide +kernel) rfl rfl (Nat.le_of_ble_eq_true rfl) dX0_init_6 (fun H locs hP hD hS => ?_)
  have hP : va_P (dC, dI) vwCl [(h0, .inr (3, [f0, .int p0, f2, f3, f4, f5, f6]))] H := hP
  have hD : va_D A [(h0, .inr (3, [f0, .int p0, f2, f3, f4, f5, f6]))] := hD
  refine lv_aload_n hx hb dX0_init_9 rfl (lv_at hl 0 rfl) ?_
  refine lv_iload_n hx hb dX0_init_10 rfl (lv_at hl 2 rfl) ?_
  refine va_putF (D := (dC, dI)) (ci := 3) (v := .int p1) (ty := .int) (C := RX2) (T := TX2) (N := 7) hx hb hts (by decide +kernel) tyX2 tyX2_ok nmX2 hown hK hP hD hS 0 rfl rfl 2 (by decide) (hts (.fieldLink RX0 13 "KeyAtlas$Body" "whole" "I") (by decide +kernel)) (fun _ h9 => h9) rfl hin rfl (by decide +kernel) rfl rfl (Nat.le_of_ble_eq_true rfl) dX0_init_11 (fun H locs hP hD hS => ?_)
  have hP : va_P (dC, dI) vwCl [(h0, .inr (3, [f0, .int p0, .int p1, f3, f4, f5, f6]))] H := hP
  have hD : va_D A [(h0, .inr (3, [f0, .int p0, .int p1, f3, f4, f5, f6]))] := hD
  have hP9 := hP.sub (ws' := [(h0, .inr (3, [f0, .int p0, .int p1, f3, f4, f5, f6]))]) [0] rfl
  have hD9 := hD.sub (ws' := [(h0, .inr (3, [f0, .int p0, .int p1, f3, f4, f5, f6]))]) [0] (by decide) rfl
  have hK9 := hK.sub (tys' := []) [] rfl
  refine W.widen (k := 0) (n := 0) (Nat.le_of_ble_eq_true rfl) (Nat.le_of_ble_eq_true rfl) ?_
  exact W.vret hx hb hr (fun t ht hW => ⟨⟨(), rfl, trivial, by rw [ht]; exact hP9, va_K.moved hW.alike hK9, hD9⟩, hS.F ht⟩) hS.2.2 dX0_init_14
set_option maxHeartbeats 4000000 in
set_option maxRecDepth 100000 in
/-- Keyed(kind, whole, rows) in an object of X2 -/
theorem c_X3_init_X2 (l : Launch) (dC : Nat → ClassId) (dI : Nat → Nat → Nat) (sz : Nat) (h0 : Nat) (p0 : Int32) (p1 : Int32) (p2 : Nat) (f0 : Value) (f1 : Value) (f2 : Value) (f3 : Value) (f4 : Value) (f5 : Value) (f6 : Value) : Met l yX3_init wsX3_init ({ frames := 2, cells := 0, slots := 0, locals := 40 }) (va_Pc [.ref h0, .int p0, .int p1, .ref p2] (pk_Pre (dC, dI) [(h0, .inr (3, [f0, f1, f2, f3, f4, f5, f6]))] [] sz)) (va_Qv (fun (_ : Unit) => True) (fun (_ : Unit) (t : State) => va_P (dC, dI) vwCl [(h0, .inr (3, [.ref p2, .int p0, .int p1, f3, f4, f5, f6]))] t.heap ∧ va_K (dC, dI) vwCl [] t ∧ va_D (va_A [(h0, .inr (3, [f0, f1, f2, f3, f4, f5, f6]))] sz) [(h0, .inr (3, [.ref p2, .int p0, .int p1, f3, f4, f5, f6]))]) (va_A [(h0, .inr (3, [f0, f1, f2, f3, f4, f5, f6]))] sz)) 0 0 (va_A [(h0, .inr (3, [f0, f1, f2, f3, f4, f5, f6]))] sz) := by
  refine Met.ofW (cc := cX3_init) (maxL := 4) (ret := none) (by decide) rfl ?_
  intro p e s m args below meth c s₁ B hml hv
  obtain ⟨rfl, hsz, hP, hK, hD0⟩ := hv
  have hx := B.exec
  have hb := B.bytes
  have hr := B.returns
  have hts := atoms_spec (ws := wsX3_init) B.pre
  have hown : s.vm.findClass RX3 = some m.cls := findClass_of_methodNamed B.named
  have hlocks := B.notSynchronized
  have hin : meth.name = "<init>" := (name_of_methodNamed B.named B.method).1
  subst hsz
  have hD := hD0.self (sz := s.heap.size)
  generalize hAe : va_A [(h0, .inr (3, [f0, f1, f2, f3, f4, f5, f6]))] s.heap.size = A at hD ⊢
  have hA : ∀ q : Nat, s.heap.size ≤ q → A q := fun q h => by rw [← hAe]; exact Or.inr h
  have hS : va_S A s.heap s.heap [] := va_S.rf
  have hP : va_P (dC, dI) vwCl [(h0, .inr (3, [f0, f1, f2, f3, f4, f5, f6]))] s.heap := hP
  have hl := lv_entry ([.ref h0, .int p0, .int p1, .ref p2]) (n := 4) (Nat.le_of_ble_eq_true rfl)
  rw [lg_entry_eq]
  generalize (lg_sl ([.ref h0, .int p0, .int p1, .ref p2]) ++ List.replicate (4 - (lg_sl ([.ref h0, .int p0, .int p1, .ref p2])).length) Slot.unset).toArray = ls at hl ⊢
  have hl : lv_has ls 4 [(0, .ref h0), (1, .int p0), (2, .int p1), (3, .ref p2)] := hl
  refine lv_aload_n hx hb dX3_init_0 rfl (lv_at hl 0 rfl) ?_
  refine lv_iload_n hx hb dX3_init_1 rfl (lv_at hl 1 rfl) ?_
  refine lv_iload_n hx hb dX3_init_2 rfl (lv_at hl 2 rfl) ?_
  have hPc := hP.sub (ws' := [(h0, .inr (3, [f0, f1, f2, f3, f4, f5, f6]))]) [0] rfl
  have hDc := hD.sub (ws' := [(h0, .inr (3, [f0, f1, f2, f3, f4, f5, f6]))]) [0] (by decide) rfl
  have hKc := hK.sub (tys' := []) [] rfl
  have hFc := va_free (wc := [(h0, .inr (3, [f0, f1, f2, f3, f4, f5, f6]))]) hD hS hA [0] rfl
  refine va_callv (va_runI (As := [.int p0, .int p1]) (rest := []) ⟨hx, hb, hml, hown, hts⟩ (c_X0_init_X2 l  dC dI s.heap.size h0 p0 p1 f0 f1 f2 f3 f4 f5 f6) (cwI 2 hts gX3_init_X0_init rfl rfl rfl (hts (.initialized RX0) (by decide +kernel)) (hts (.methodLink RX3 3 yX0_init) (by decide +kernel)) (hts (.instanceMethod yX0_init) (by decide +kernel)) rfl (by decide +kernel) ⟨(Nat.le_of_ble_eq_true rfl), (Nat.le_of_ble_eq_true rfl)⟩) ⟨pk_blind, pk_call hPc hKc hDc⟩ rfl rfl hl.1 rfl (lv_room (Nat.le_of_ble_eq_true rfl)) dX3_init_3 ⟨(Nat.le_of_ble_eq_true rfl), (Nat.le_of_ble_eq_true rfl)⟩) hS (fun q _ h => hFc q h) hFc (fun ur_1 t H1 locs ht hvm hw hB hz1 hk1 hS => ?_)
  try dsimp only at hw
  have jr_1 := hw
  obtain ⟨hP1, hK1, hD1⟩ := hB
  rw [ht] at hP1
  have hK1 := va_K.moved hvm.symm hK1
  obtain ⟨hP, hD⟩ := va_join (wr := []) (w1 := [(h0, .inr (3, [f0, .int p0, .int p1, f3, f4, f5, f6]))]) hP hD [0] [] rfl rfl (by decide) (by decide) hk1 hFc hP1 hD1
  clear hk1 hz1 ht hPc hDc hKc
  generalize H1 = H at hP hS ⊢
  have hP : va_P (dC, dI) vwCl [(h0, .inr (3, [f0, .int p0, .int p1, f3, f4, f5, f6]))] H := hP
  have hD : va_D A [(h0, .inr (3, [f0, .int p0, .int p1, f3, f4, f5, f6]))] := hD
  refine W.widen (k := 0) (n := 0) (Nat.le_of_ble_eq_true rfl) (Nat.le_of_ble_eq_true rfl) ?_
  refine W.eq (g2 := F0 m 6 ls []) rfl ?_
  refine lv_aload_n hx hb dX3_init_6 rfl (lv_at hl 0 rfl) ?_
  refine lv_aload_n hx hb dX3_init_7 rfl (lv_at hl 3 rfl) ?_
  refine va_putF (D := (dC, dI)) (ci := 3) (v := .ref p2) (ty := .object "KeyAtlas$Rows") (C := RX2) (T := TX2) (N := 7) hx hb hts (by decide +kernel) tyX2 tyX2_ok nmX2 hown hK hP hD hS 0 rfl rfl 0 (by decide) (hts (.fieldLink RX3 9 "KeyAtlas$Keyed" "rows" "LKeyAtlas$Rows;") (by decide +kernel)) (fun _ h9 => h9) rfl hin rfl (by decide +kernel) rfl rfl (Nat.le_of_ble_eq_true rfl) dX3_init_8 (fun H locs hP hD hS => ?_)
  have hP : va_P (dC, dI) vwCl [(h0, .inr (3, [.ref p2, .int p0, .int p1, f3, f4, f5, f6]))] H := hP
  have hD : va_D A [(h0, .inr (3, [.ref p2, .int p0, .int p1, f3, f4, f5, f6]))] := hD
  have hP9 := hP.sub (ws' := [(h0, .inr (3, [.ref p2, .int p0, .int p1, f3, f4, f5, f6]))]) [0] rfl
  have hD9 := hD.sub (ws' := [(h0, .inr (3, [.ref p2, .int p0, .int p1, f3, f4, f5, f6]))]) [0] (by decide) rfl
  have hK9 := hK.sub (tys' := []) [] rfl
  refine W.widen (k := 0) (n := 0) (Nat.le_of_ble_eq_true rfl) (Nat.le_of_ble_eq_true rfl) ?_
  exact W.vret hx hb hr (fun t ht hW => ⟨⟨(), rfl, trivial, by rw [ht]; exact hP9, va_K.moved hW.alike hK9, hD9⟩, hS.F ht⟩) hS.2.2 dX3_init_11
set_option maxHeartbeats 4000000 in
set_option maxRecDepth 100000 in
/-- Body(kind, whole) in an object of X4 -/
theorem c_X0_init_X4 (l : Launch) (dC : Nat → ClassId) (dI : Nat → Nat → Nat) (sz : Nat) (h0 : Nat) (p0 : Int32) (p1 : Int32) (f0 : Value) (f1 : Value) (f2 : Value) (f3 : Value) (f4 : Value) : Met l yX0_init wsX0_init ({ frames := 1, cells := 0, slots := 0, locals := 16 }) (va_Pc [.ref h0, .int p0, .int p1] (pk_Pre (dC, dI) [(h0, .inr (4, [f0, f1, f2, f3, f4]))] [] sz)) (va_Qv (fun (_ : Unit) => True) (fun (_ : Unit) (t : State) => va_P (dC, dI) vwCl [(h0, .inr (4, [f0, .int p0, .int p1, f3, f4]))] t.heap ∧ va_K (dC, dI) vwCl [] t ∧ va_D (va_A [(h0, .inr (4, [f0, f1, f2, f3, f4]))] sz) [(h0, .inr (4, [f0, .int p0, .int p1, f3, f4]))]) (va_A [(h0, .inr (4, [f0, f1, f2, f3, f4]))] sz)) 0 0 (va_A [(h0, .inr (4, [f0, f1, f2, f3, f4]))] sz) := by
  refine Met.ofW (cc := cX0_init) (maxL := 3) (ret := none) (by decide) rfl ?_
  intro p e s m args below meth c s₁ B hml hv
  obtain ⟨rfl, hsz, hP, hK, hD0⟩ := hv
  have hx := B.exec
  have hb := B.bytes
  have hr := B.returns
  have hts := atoms_spec (ws := wsX0_init) B.pre
  have hown : s.vm.findClass RX0 = some m.cls := findClass_of_methodNamed B.named
  have hlocks := B.notSynchronized
  have hin : meth.name = "<init>" := (name_of_methodNamed B.named B.method).1
  subst hsz
  have hD := hD0.self (sz := s.heap.size)
  generalize hAe : va_A [(h0, .inr (4, [f0, f1, f2, f3, f4]))] s.heap.size = A at hD ⊢
  have hA : ∀ q : Nat, s.heap.size ≤ q → A q := fun q h => by rw [← hAe]; exact Or.inr h
  have hS : va_S A s.heap s.heap [] := va_S.rf
  have hP : va_P (dC, dI) vwCl [(h0, .inr (4, [f0, f1, f2, f3, f4]))] s.heap := hP
  have hl := lv_entry ([.ref h0, .int p0, .int p1]) (n := 3) (Nat.le_of_ble_eq_true rfl)
  rw [lg_entry_eq]
  generalize (lg_sl ([.ref h0, .int p0, .int p1]) ++ List.replicate (3 - (lg_sl ([.ref h0, .int p0, .int p1])).length) Slot.unset).toArray = ls at hl ⊢
  have hl : lv_has ls 3 [(0, .ref h0), (1, .int p0), (2, .int p1)] := hl
  refine lv_aload_n hx hb dX0_init_0 rfl (lv_at hl 0 rfl) ?_
  refine W.objInit hx hb hown (hts (.methodLink RX0 1 objectInit) (by decide +kernel)) (hts (.instanceMethod objectInit) (by decide +kernel)) (hts _ (List.mem_cons_of_mem _ (List.mem_append_left _ (List.mem_of_getElem? (i := 2) rfl)))) rfl (by rw [hml]; exact hl.1) rfl dX0_init_1 (Nat.le_of_ble_eq_true rfl) (Nat.le_of_ble_eq_true rfl) ?_
  refine W.eq (g2 := F0 m 4 ls []) rfl ?_
  refine lv_aload_n hx hb dX0_init_4 rfl (lv_at hl 0 rfl) ?_
  refine lv_iload_n hx hb dX0_init_5 rfl (lv_at hl 1 rfl) ?_
  refine va_putF (D := (dC, dI)) (ci := 4) (v := .int p0) (ty := .int) (C := RX4) (T := TX4) (N := 5) hx hb hts (by decide +kernel) tyX4 tyX4_ok nmX4 hown hK hP hD hS 0 rfl rfl 1 (by decide) (hts (.fieldLink RX0 7 "KeyAtlas$Body" "kind" "I") (by decide +kernel)) (fun _ h9 => h9) rfl hin rfl (by decide +kernel) rfl rfl (Nat.le_of_ble_eq_true rfl) dX0_init_6 (fun H locs hP hD hS => ?_)
  have hP : va_P (dC, dI) vwCl [(h0, .inr (4, [f0, .int p0, f2, f3, f4]))] H := hP
  have hD : va_D A [(h0, .inr (4, [f0, .int p0, f2, f3, f4]))] := hD
  refine lv_aload_n hx hb dX0_init_9 rfl (lv_at hl 0 rfl) ?_
  refine lv_iload_n hx hb dX0_init_10 rfl (lv_at hl 2 rfl) ?_
  refine va_putF (D := (dC, dI)) (ci := 4) (v := .int p1) (ty := .int) (C := RX4) (T := TX4) (N := 5) hx hb hts (by decide +kernel) tyX4 tyX4_ok nmX4 hown hK hP hD hS 0 rfl rfl 2 (by decide) (hts (.fieldLink RX0 13 "KeyAtlas$Body" "whole" "I") (by decide +kernel)) (fun _ h9 => h9) rfl hin rfl (by decide +kernel) rfl rfl (Nat.le_of_ble_eq_true rfl) dX0_init_11 (fun H locs hP hD hS => ?_)
  have hP : va_P (dC, dI) vwCl [(h0, .inr (4, [f0, .int p0, .int p1, f3, f4]))] H := hP
  have hD : va_D A [(h0, .inr (4, [f0, .int p0, .int p1, f3, f4]))] := hD
  have hP9 := hP.sub (ws' := [(h0, .inr (4, [f0, .int p0, .int p1, f3, f4]))]) [0] rfl
  have hD9 := hD.sub (ws' := [(h0, .inr (4, [f0, .int p0, .int p1, f3, f4]))]) [0] (by decide) rfl
  have hK9 := hK.sub (tys' := []) [] rfl
  refine W.widen (k := 0) (n := 0) (Nat.le_of_ble_eq_true rfl) (Nat.le_of_ble_eq_true rfl) ?_
  exact W.vret hx hb hr (fun t ht hW => ⟨⟨(), rfl, trivial, by rw [ht]; exact hP9, va_K.moved hW.alike hK9, hD9⟩, hS.F ht⟩) hS.2.2 dX0_init_14
set_option maxHeartbeats 4000000 in
set_option maxRecDepth 100000 in
/-- Keyed(kind, whole, rows) in an object of X4 -/
theorem c_X3_init_X4 (l : Launch) (dC : Nat → ClassId) (dI : Nat → Nat → Nat) (sz : Nat) (h0 : Nat) (p0 : Int32) (p1 : Int32) (p2 : Nat) (f0 : Value) (f1 : Value) (f2 : Value) (f3 : Value) (f4 : Value) : Met l yX3_init wsX3_init ({ frames := 2, cells := 0, slots := 0, locals := 40 }) (va_Pc [.ref h0, .int p0, .int p1, .ref p2] (pk_Pre (dC, dI) [(h0, .inr (4, [f0, f1, f2, f3, f4]))] [] sz)) (va_Qv (fun (_ : Unit) => True) (fun (_ : Unit) (t : State) => va_P (dC, dI) vwCl [(h0, .inr (4, [.ref p2, .int p0, .int p1, f3, f4]))] t.heap ∧ va_K (dC, dI) vwCl [] t ∧ va_D (va_A [(h0, .inr (4, [f0, f1, f2, f3, f4]))] sz) [(h0, .inr (4, [.ref p2, .int p0, .int p1, f3, f4]))]) (va_A [(h0, .inr (4, [f0, f1, f2, f3, f4]))] sz)) 0 0 (va_A [(h0, .inr (4, [f0, f1, f2, f3, f4]))] sz) := by
  refine Met.ofW (cc := cX3_init) (maxL := 4) (ret := none) (by decide) rfl ?_
  intro p e s m args below meth c s₁ B hml hv
  obtain ⟨rfl, hsz, hP, hK, hD0⟩ := hv
  have hx := B.exec
  have hb := B.bytes
  have hr := B.returns
  have hts := atoms_spec (ws := wsX3_init) B.pre
  have hown : s.vm.findClass RX3 = some m.cls := findClass_of_methodNamed B.named
  have hlocks := B.notSynchronized
  have hin : meth.name = "<init>" := (name_of_methodNamed B.named B.method).1
  subst hsz
  have hD := hD0.self (sz := s.heap.size)
  generalize hAe : va_A [(h0, .inr (4, [f0, f1, f2, f3, f4]))] s.heap.size = A at hD ⊢
  have hA : ∀ q : Nat, s.heap.size ≤ q → A q := fun q h => by rw [← hAe]; exact Or.inr h
  have hS : va_S A s.heap s.heap [] := va_S.rf
  have hP : va_P (dC, dI) vwCl [(h0, .inr (4, [f0, f1, f2, f3, f4]))] s.heap := hP
  have hl := lv_entry ([.ref h0, .int p0, .int p1, .ref p2]) (n := 4) (Nat.le_of_ble_eq_true rfl)
  rw [lg_entry_eq]
  generalize (lg_sl ([.ref h0, .int p0, .int p1, .ref p2]) ++ List.replicate (4 - (lg_sl ([.ref h0, .int p0, .int p1, .ref p2])).length) Slot.unset).toArray = ls at hl ⊢
  have hl : lv_has ls 4 [(0, .ref h0), (1, .int p0), (2, .int p1), (3, .ref p2)] := hl
  refine lv_aload_n hx hb dX3_init_0 rfl (lv_at hl 0 rfl) ?_
  refine lv_iload_n hx hb dX3_init_1 rfl (lv_at hl 1 rfl) ?_
  refine lv_iload_n hx hb dX3_init_2 rfl (lv_at hl 2 rfl) ?_
  have hPc := hP.sub (ws' := [(h0, .inr (4, [f0, f1, f2, f3, f4]))]) [0] rfl
  have hDc := hD.sub (ws' := [(h0, .inr (4, [f0, f1, f2, f3, f4]))]) [0] (by decide) rfl
  have hKc := hK.sub (tys' := []) [] rfl
  have hFc := va_free (wc := [(h0, .inr (4, [f0, f1, f2, f3, f4]))]) hD hS hA [0] rfl
  refine va_callv (va_runI (As := [.int p0, .int p1]) (rest := []) ⟨hx, hb, hml, hown, hts⟩ (c_X0_init_X4 l  dC dI s.heap.size h0 p0 p1 f0 f1 f2 f3 f4) (cwI 2 hts gX3_init_X0_init rfl rfl rfl (hts (.initialized RX0) (by decide +kernel)) (hts (.methodLink RX3 3 yX0_init) (by decide +kernel)) (hts (.instanceMethod yX0_init) (by decide +kernel)) rfl (by decide +kernel) ⟨(Nat.le_of_ble_eq_true rfl), (Nat.le_of_ble_eq_true rfl)⟩) ⟨pk_blind, pk_call hPc hKc hDc⟩ rfl rfl hl.1 rfl (lv_room (Nat.le_of_ble_eq_true rfl)) dX3_init_3 ⟨(Nat.le_of_ble_eq_true rfl), (Nat.le_of_ble_eq_true rfl)⟩) hS (fun q _ h => hFc q h) hFc (fun ur_1 t H1 locs ht hvm hw hB hz1 hk1 hS => ?_)
  try dsimp only at hw
  have jr_1 := hw
  obtain ⟨hP1, hK1, hD1⟩ := hB
  rw [ht] at hP1
  have hK1 := va_K.moved hvm.symm hK1
  obtain ⟨hP, hD⟩ := va_join (wr := []) (w1 := [(h0, .inr (4, [f0, .int p0, .int p1, f3, f4]))]) hP hD [0] [] rfl rfl (by decide) (by decide) hk1 hFc hP1 hD1
  clear hk1 hz1 ht hPc hDc hKc
  generalize H1 = H at hP hS ⊢
  have hP : va_P (dC, dI) vwCl [(h0, .inr (4, [f0, .int p0, .int p1, f3, f4]))] H := hP
  have hD : va_D A [(h0, .inr (4, [f0, .int p0, .int p1, f3, f4]))] := hD
  refine W.widen (k := 0) (n := 0) (Nat.le_of_ble_eq_true rfl) (Nat.le_of_ble_eq_true rfl) ?_
  refine W.eq (g2 := F0 m 6 ls []) rfl ?_
  refine lv_aload_n hx hb dX3_init_6 rfl (lv_at hl 0 rfl) ?_
  refine lv_aload_n hx hb dX3_init_7 rfl (lv_at hl 3 rfl) ?_
  refine va_putF (D := (dC, dI)) (ci := 4) (v := .ref p2) (ty := .object "KeyAtlas$Rows") (C := RX4) (T := TX4) (N := 5) hx hb hts (by decide +kernel) tyX4 tyX4_ok nmX4 hown hK hP hD hS 0 rfl rfl 0 (by decide) (hts (.fieldLink RX3 9 "KeyAtlas$Keyed" "rows" "LKeyAtlas$Rows;") (by decide +kernel)) (fun _ h9 => h9) rfl hin rfl (by decide +kernel) rfl rfl (Nat.le_of_ble_eq_true rfl) dX3_init_8 (fun H locs hP hD hS => ?_)
  have hP : va_P (dC, dI) vwCl [(h0, .inr (4, [.ref p2, .int p0, .int p1, f3, f4]))] H := hP
  have hD : va_D A [(h0, .inr (4, [.ref p2, .int p0, .int p1, f3, f4]))] := hD
  have hP9 := hP.sub (ws' := [(h0, .inr (4, [.ref p2, .int p0, .int p1, f3, f4]))]) [0] rfl
  have hD9 := hD.sub (ws' := [(h0, .inr (4, [.ref p2, .int p0, .int p1, f3, f4]))]) [0] (by decide) rfl
  have hK9 := hK.sub (tys' := []) [] rfl
  refine W.widen (k := 0) (n := 0) (Nat.le_of_ble_eq_true rfl) (Nat.le_of_ble_eq_true rfl) ?_
  exact W.vret hx hb hr (fun t ht hW => ⟨⟨(), rfl, trivial, by rw [ht]; exact hP9, va_K.moved hW.alike hK9, hD9⟩, hS.F ht⟩) hS.2.2 dX3_init_11
set_option maxHeartbeats 4000000 in
set_option maxRecDepth 100000 in
/-- Body(kind, whole) in an object of X6 -/
theorem c_X0_init_X6 (l : Launch) (dC : Nat → ClassId) (dI : Nat → Nat → Nat) (sz : Nat) (h0 : Nat) (p0 : Int32) (p1 : Int32) (f0 : Value) (f1 : Value) (f2 : Value) (f3 : Value) (f4 : Value) (f5 : Value) (f6 : Value) : Met l yX0_init wsX0_init ({ frames := 1, cells := 0, slots := 0, locals := 16 }) (va_Pc [.ref h0, .int p0, .int p1] (pk_Pre (dC, dI) [(h0, .inr (6, [f0, f1, f2, f3, f4, f5, f6]))] [] sz)) (va_Qv (fun (_ : Unit) => True) (fun (_ : Unit) (t : State) => va_P (dC, dI) vwCl [(h0, .inr (6, [f0, .int p0, .int p1, f3, f4, f5, f6]))] t.heap ∧ va_K (dC, dI) vwCl [] t ∧ va_D (va_A [(h0, .inr (6, [f0, f1, f2, f3, f4, f5, f6]))] sz) [(h0, .inr (6, [f0, .int p0, .int p1, f3, f4, f5, f6]))]) (va_A [(h0, .inr (6, [f0, f1, f2, f3, f4, f5, f6]))] sz)) 0 0 (va_A [(h0, .inr (6, [f0, f1, f2, f3, f4, f5, f6]))] sz) := by
  refine Met.ofW (cc := cX0_init) (maxL := 3) (ret := none) (by decide) rfl ?_
  intro p e s m args below meth c s₁ B hml hv
  obtain ⟨rfl, hsz, hP, hK, hD0⟩ := hv
  have hx := B.exec
  have hb := B.bytes
  have hr := B.returns
  have hts := atoms_spec (ws := wsX0_init) B.pre
  have hown : s.vm.findClass RX0 = some m.cls := findClass_of_methodNamed B.named
  have hlocks := B.notSynchronized
  have hin : meth.name = "<init>" := (name_of_methodNamed B.named B.method).1
  subst hsz
  have hD := hD0.self (sz := s.heap.size)
  generalize hAe : va_A [(h0, .inr (6, [f0, f1, f2, f3, f4, f5, f6]))] s.heap.size = A at hD ⊢
  have hA : ∀ q : Nat, s.heap.size ≤ q → A q := fun q h => by rw [← hAe]; exact Or.inr h
  have hS : va_S A s.heap s.heap [] := va_S.rf
  have hP : va_P (dC, dI) vwCl [(h0, .inr (6, [f0, f1, f2, f3, f4, f5, f6]))] s.heap := hP
  have hl := lv_entry ([.ref h0, .int p0, .int p1]) (n := 3) (Nat.le_of_ble_eq_true rfl)
  rw [lg_entry_eq]
  generalize (lg_sl ([.ref h0, .int p0, .int p1]) ++ List.replicate (3 - (lg_sl ([.ref h0, .int p0, .int p1])).length) Slot.unset).toArray = ls at hl ⊢
  have hl : lv_has ls 3 [(0, .ref h0), (1, .int p0), (2, .int p1)] := hl
  refine lv_aload_n hx hb dX0_init_0 rfl (lv_at hl 0 rfl) ?_
  refine W.objInit hx hb hown (hts (.methodLink RX0 1 objectInit) (by decide +kernel)) (hts (.instanceMethod objectInit) (by decide +kernel)) (hts _ (List.mem_cons_of_mem _ (List.mem_append_left _ (List.mem_of_getElem? (i := 2) rfl)))) rfl (by rw [hml]; exact hl.1) rfl dX0_init_1 (Nat.le_of_ble_eq_true rfl) (Nat.le_of_ble_eq_true rfl) ?_
  refine W.eq (g2 := F0 m 4 ls []) rfl ?_
  refine lv_aload_n hx hb dX0_init_4 rfl (lv_at hl 0 rfl) ?_
  refine lv_iload_n hx hb dX0_init_5 rfl (lv_at hl 1 rfl) ?_
  refine va_putF (D := (dC, dI)) (ci := 6) (v := .int p0) (ty := .int) (C := RX6) (T := TX6) (N := 7) hx hb hts (by decide +kernel) tyX6 tyX6_ok nmX6 hown hK hP hD hS 0 rfl rfl 1 (by decide) (hts (.fieldLink RX0 7 "KeyAtlas$Body" "kind" "I") (by decide +kernel)) (fun _ h9 => h9) rfl hin rfl (by decide +kernel) rfl rfl (Nat.le_of_ble_eq_true rfl) dX0_init_6 (fun H locs hP hD hS => ?_)
  have hP : va_P (dC, dI) vwCl [(h0, .inr (6, [f0, .int p0, f2, f3, f4, f5, f6]))] H := hP
  have hD : va_D A [(h0, .inr (6, [f0, .int p0, f2, f3, f4, f5, f6]))] := hD
  refine lv_aload_n hx hb dX0_init_9 rfl (lv_at hl 0 rfl) ?_
  refine lv_iload_n hx hb dX0_init_10 rfl (lv_at hl 2 rfl) ?_
  refine va_putF (D := (dC, dI)) (ci := 6) (v := .int p1) (ty := .int) (C := RX6) (T := TX6) (N := 7) hx hb hts (by decide +kernel) tyX6 tyX6_ok nmX6 hown hK hP hD hS 0 rfl rfl 2 (by decide) (hts (.fieldLink RX0 13 "KeyAtlas$Body" "whole" "I") (by decide +kernel)) (fun _ h9 => h9) rfl hin rfl (by decide +kernel) rfl rfl (Nat.le_of_ble_eq_true rfl) dX0_init_11 (fun H locs hP hD hS => ?_)
  have hP : va_P (dC, dI) vwCl [(h0, .inr (6, [f0, .int p0, .int p1, f3, f4, f5, f6]))] H := hP
  have hD : va_D A [(h0, .inr (6, [f0, .int p0, .int p1, f3, f4, f5, f6]))] := hD
  have hP9 := hP.sub (ws' := [(h0, .inr (6, [f0, .int p0, .int p1, f3, f4, f5, f6]))]) [0] rfl
  have hD9 := hD.sub (ws' := [(h0, .inr (6, [f0, .int p0, .int p1, f3, f4, f5, f6]))]) [0] (by decide) rfl
  have hK9 := hK.sub (tys' := []) [] rfl
  refine W.widen (k := 0) (n := 0) (Nat.le_of_ble_eq_true rfl) (Nat.le_of_ble_eq_true rfl) ?_
  exact W.vret hx hb hr (fun t ht hW => ⟨⟨(), rfl, trivial, by rw [ht]; exact hP9, va_K.moved hW.alike hK9, hD9⟩, hS.F ht⟩) hS.2.2 dX0_init_14
set_option maxHeartbeats 4000000 in
set_option maxRecDepth 100000 in
/-- Keyed(kind, whole, rows) in an object of X6 -/
theorem c_X3_init_X6 (l : Launch) (dC : Nat → ClassId) (dI : Nat → Nat → Nat) (sz : Nat) (h0 : Nat) (p0 : Int32) (p1 : Int32) (p2 : Nat) (f0 : Value) (f1 : Value) (f2 : Value) (f3 : Value) (f4 : Value) (f5 : Value) (f6 : Value) : Met l yX3_init wsX3_init ({ frames := 2, cells := 0, slots := 0, locals := 40 }) (va_Pc [.ref h0, .int p0, .int p1, .ref p2] (pk_Pre (dC, dI) [(h0, .inr (6, [f0, f1, f2, f3, f4, f5, f6]))] [] sz)) (va_Qv (fun (_ : Unit) => True) (fun (_ : Unit) (t : State) => va_P (dC, dI) vwCl [(h0, .inr (6, [.ref p2, .int p0, .int p1, f3, f4, f5, f6]))] t.heap ∧ va_K (dC, dI) vwCl [] t ∧ va_D (va_A [(h0, .inr (6, [f0, f1, f2, f3, f4, f5, f6]))] sz) [(h0, .inr (6, [.ref p2, .int p0, .int p1, f3, f4, f5, f6]))]) (va_A [(h0, .inr (6, [f0, f1, f2, f3, f4, f5, f6]))] sz)) 0 0 (va_A [(h0, .inr (6, [f0, f1, f2, f3, f4, f5, f6]))] sz) := by
  refine Met.ofW (cc := cX3_init) (maxL := 4) (ret := none) (by decide) rfl ?_
  intro p e s m args below meth c s₁ B hml hv
  obtain ⟨rfl, hsz, hP, hK, hD0⟩ := hv
  have hx := B.exec
  have hb := B.bytes
  have hr := B.returns
  have hts := atoms_spec (ws := wsX3_init) B.pre
  have hown : s.vm.findClass RX3 = some m.cls := findClass_of_methodNamed B.named
  have hlocks := B.notSynchronized
  have hin : meth.name = "<init>" := (name_of_methodNamed B.named B.method).1
  subst hsz
  have hD := hD0.self (sz := s.heap.size)
  generalize hAe : va_A [(h0, .inr (6, [f0, f1, f2, f3, f4, f5, f6]))] s.heap.size = A at hD ⊢
  have hA : ∀ q : Nat, s.heap.size ≤ q → A q := fun q h => by rw [← hAe]; exact Or.inr h
  have hS : va_S A s.heap s.heap [] := va_S.rf
  have hP : va_P (dC, dI) vwCl [(h0, .inr (6, [f0, f1, f2, f3, f4, f5, f6]))] s.heap := hP
  have hl := lv_entry ([.ref h0, .int p0, .int p1, .ref p2]) (n := 4) (Nat.le_of_ble_eq_true rfl)
  rw [lg_entry_eq]
  generalize (lg_sl ([.ref h0, .int p0, .int p1, .ref p2]) ++ List.replicate (4 - (lg_sl ([.ref h0, .int p0, .int p1, .ref p2])).length) Slot.unset).toArray = ls at hl ⊢
  have hl : lv_has ls 4 [(0, .ref h0), (1, .int p0), (2, .int p1), (3, .ref p2)] := hl
  refine lv_aload_n hx hb dX3_init_0 rfl (lv_at hl 0 rfl) ?_
  refine lv_iload_n hx hb dX3_init_1 rfl (lv_at hl 1 rfl) ?_
  refine lv_iload_n hx hb dX3_init_2 rfl (lv_at hl 2 rfl) ?_
  have hPc := hP.sub (ws' := [(h0, .inr (6, [f0, f1, f2, f3, f4, f5, f6]))]) [0] rfl
  have hDc := hD.sub (ws' := [(h0, .inr (6, [f0, f1, f2, f3, f4, f5, f6]))]) [0] (by decide) rfl
  have hKc := hK.sub (tys' := []) [] rfl
  have hFc := va_free (wc := [(h0, .inr (6, [f0, f1, f2, f3, f4, f5, f6]))]) hD hS hA [0] rfl
  refine va_callv (va_runI (As := [.int p0, .int p1]) (rest := []) ⟨hx, hb, hml, hown, hts⟩ (c_X0_init_X6 l  dC dI s.heap.size h0 p0 p1 f0 f1 f2 f3 f4 f5 f6) (cwI 2 hts gX3_init_X0_init rfl rfl rfl (hts (.initialized RX0) (by decide +kernel)) (hts (.methodLink RX3 3 yX0_init) (by decide +kernel)) (hts (.instanceMethod yX0_init) (by decide +kernel)) rfl (by decide +kernel) ⟨(Nat.le_of_ble_eq_true rfl), (Nat.le_of_ble_eq_true rfl)⟩) ⟨pk_blind, pk_call hPc hKc hDc⟩ rfl rfl hl.1 rfl (lv_room (Nat.le_of_ble_eq_true rfl)) dX3_init_3 ⟨(Nat.le_of_ble_eq_true rfl), (Nat.le_of_ble_eq_true rfl)⟩) hS (fun q _ h => hFc q h) hFc (fun ur_1 t H1 locs ht hvm hw hB hz1 hk1 hS => ?_)
  try dsimp only at hw
  have jr_1 := hw
  obtain ⟨hP1, hK1, hD1⟩ := hB
  rw [ht] at hP1
  have hK1 := va_K.moved hvm.symm hK1
  obtain ⟨hP, hD⟩ := va_join (wr := []) (w1 := [(h0, .inr (6, [f0, .int p0, .int p1, f3, f4, f5, f6]))]) hP hD [0] [] rfl rfl (by decide) (by decide) hk1 hFc hP1 hD1
  clear hk1 hz1 ht hPc hDc hKc
  generalize H1 = H at hP hS ⊢
  have hP : va_P (dC, dI) vwCl [(h0, .inr (6, [f0, .int p0, .int p1, f3, f4, f5, f6]))] H := hP
  have hD : va_D A [(h0, .inr (6, [f0, .int p0, .int p1, f3, f4, f5, f6]))] := hD
  refine W.widen (k := 0) (n := 0) (Nat.le_of_ble_eq_true rfl) (Nat.le_of_ble_eq_true rfl) ?_
  refine W.eq (g2 := F0 m 6 ls []) rfl ?_
  refine lv_aload_n hx hb dX3_init_6 rfl (lv_at hl 0 rfl) ?_
  refine lv_aload_n hx hb dX3_init_7 rfl (lv_at hl 3 rfl) ?_
  refine va_putF (D := (dC, dI)) (ci := 6) (v := .ref p2) (ty := .object "KeyAtlas$Rows") (C := RX6) (T := TX6) (N := 7) hx hb hts (by decide +kernel) tyX6 tyX6_ok nmX6 hown hK hP hD hS 0 rfl rfl 0 (by decide) (hts (.fieldLink RX3 9 "KeyAtlas$Keyed" "rows" "LKeyAtlas$Rows;") (by decide +kernel)) (fun _ h9 => h9) rfl hin rfl (by decide +kernel) rfl rfl (Nat.le_of_ble_eq_true rfl) dX3_init_8 (fun H locs hP hD hS => ?_)
  have hP : va_P (dC, dI) vwCl [(h0, .inr (6, [.ref p2, .int p0, .int p1, f3, f4, f5, f6]))] H := hP
  have hD : va_D A [(h0, .inr (6, [.ref p2, .int p0, .int p1, f3, f4, f5, f6]))] := hD
  have hP9 := hP.sub (ws' := [(h0, .inr (6, [.ref p2, .int p0, .int p1, f3, f4, f5, f6]))]) [0] rfl
  have hD9 := hD.sub (ws' := [(h0, .inr (6, [.ref p2, .int p0, .int p1, f3, f4, f5, f6]))]) [0] (by decide) rfl
  have hK9 := hK.sub (tys' := []) [] rfl
  refine W.widen (k := 0) (n := 0) (Nat.le_of_ble_eq_true rfl) (Nat.le_of_ble_eq_true rfl) ?_
  exact W.vret hx hb hr (fun t ht hW => ⟨⟨(), rfl, trivial, by rw [ht]; exact hP9, va_K.moved hW.alike hK9, hD9⟩, hS.F ht⟩) hS.2.2 dX3_init_11
set_option maxHeartbeats 4000000 in
set_option maxRecDepth 100000 in
/-- Rows() -/
theorem c_X5_init (l : Launch) (dC : Nat → ClassId) (dI : Nat → Nat → Nat) (sz : Nat) (h0 : Nat) (f0 : Value) (f1 : Value) (f2 : Value) (f3 : Value) : Met l yX5_init wsX5_init ({ frames := 1, cells := 2, slots := 32, locals := 16 }) (va_Pc [.ref h0] (pk_Pre (dC, dI) [(h0, .inr (5, [f0, f1, f2, f3]))] [] sz)) (va_Qv (fun (_ : Unit) => True) (fun (_ : Unit) (_ : State) => True) (va_A [(h0, .inr (5, [f0, f1, f2, f3]))] sz)) 2 32 (va_A [(h0, .inr (5, [f0, f1, f2, f3]))] sz) := by
  refine Met.ofW (cc := cX5_init) (maxL := 1) (ret := none) (by decide) rfl ?_
  intro p e s m args below meth c s₁ B hml hv
  obtain ⟨rfl, hsz, hP, hK, hD0⟩ := hv
  have hx := B.exec
  have hb := B.bytes
  have hr := B.returns
  have hts := atoms_spec (ws := wsX5_init) B.pre
  have hown : s.vm.findClass RX5 = some m.cls := findClass_of_methodNamed B.named
  have hlocks := B.notSynchronized
  have hin : meth.name = "<init>" := (name_of_methodNamed B.named B.method).1
  subst hsz
  have hD := hD0.self (sz := s.heap.size)
  generalize hAe : va_A [(h0, .inr (5, [f0, f1, f2, f3]))] s.heap.size = A at hD ⊢
  have hA : ∀ q : Nat, s.heap.size ≤ q → A q := fun q h => by rw [← hAe]; exact Or.inr h
  have hS : va_S A s.heap s.heap [] := va_S.rf
  have hP : va_P (dC, dI) vwCl [(h0, .inr (5, [f0, f1, f2, f3]))] s.heap := hP
  have hl := lv_entry ([.ref h0]) (n := 1) (Nat.le_of_ble_eq_true rfl)
  rw [lg_entry_eq]
  generalize (lg_sl ([.ref h0]) ++ List.replicate (1 - (lg_sl ([.ref h0])).length) Slot.unset).toArray = ls at hl ⊢
  have hl : lv_has ls 1 [(0, .ref h0)] := hl
  refine lv_aload_n hx hb dX5_init_0 rfl (lv_at hl 0 rfl) ?_
  refine W.objInit hx hb hown (hts (.methodLink RX5 3 objectInit) (by decide +kernel)) (hts (.instanceMethod objectInit) (by decide +kernel)) (hts _ (List.mem_cons_of_mem _ (List.mem_append_left _ (List.mem_of_getElem? (i := 2) rfl)))) rfl (by rw [hml]; exact hl.1) rfl dX5_init_1 (Nat.le_of_ble_eq_true rfl) (Nat.le_of_ble_eq_true rfl) ?_
  refine W.eq (g2 := F0 m 4 ls []) rfl ?_
  refine lv_aload_n hx hb dX5_init_4 rfl (lv_at hl 0 rfl) ?_
  refine lv_bipush (v := 16) hx hb dX5_init_5 (by decide) ?_
  refine va_newa (atype := .int) (ty := .int) (n := 16) (N' := 16) (a0 := (16, .inl (fun _ => (0 : Int32)))) hx hb (hts (.arrayClass .int) (by decide +kernel)) rfl hK hP hD hS hA (fun _ => rfl) (by decide) (by decide) (by decide) (Nat.le_of_ble_eq_true rfl) (Nat.le_of_ble_eq_true rfl) dX5_init_7 (fun q_1 cA_2 H hK hP hD hS => ?_)
  have hK : va_K (dC, dI) vwCl [(cA_2, .int)] s := hK
  have hP : va_P (dC, dI) vwCl [(h0, .inr (5, [f0, f1, f2, f3])), (q_1, .inl (cA_2, 16, .inl (fun _ => (0 : Int32))))] H := hP
  have hD : va_D A [(h0, .inr (5, [f0, f1, f2, f3])), (q_1, .inl (cA_2, 16, .inl (fun _ => (0 : Int32))))] := hD
  refine W.widen (k := 1) (n := 16) (Nat.le_of_ble_eq_true rfl) (Nat.le_of_ble_eq_true rfl) ?_
  refine va_put (D := (dC, dI)) (ci := 5) (v := .ref q_1) (ty := .array .int) (C := RX5) (T := TX5) (N := 4) hx hb hts (by decide +kernel) tyX5 tyX5_ok nmX5 hown hK hP hD hS 0 rfl rfl 0 (by decide) (hts (.fieldLink RX5 9 "KeyAtlas$Rows" "keys" "[I") (by decide +kernel)) (fun _ h9 => h9) rfl (by decide +kernel) rfl rfl (Nat.le_of_ble_eq_true rfl) dX5_init_9 (fun H locs hP hD hS => ?_)
  have hP : va_P (dC, dI) vwCl [(h0, .inr (5, [.ref q_1, f1, f2, f3])), (q_1, .inl (cA_2, 16, .inl (fun _ => (0 : Int32))))] H := hP
  have hD : va_D A [(h0, .inr (5, [.ref q_1, f1, f2, f3])), (q_1, .inl (cA_2, 16, .inl (fun _ => (0 : Int32))))] := hD
  refine lv_aload_n hx hb dX5_init_12 rfl (lv_at hl 0 rfl) ?_
  refine lv_bipush (v := 16) hx hb dX5_init_13 (by decide) ?_
  refine va_newa (atype := .int) (ty := .int) (n := 16) (N' := 16) (a0 := (16, .inl (fun _ => (0 : Int32)))) hx hb (hts (.arrayClass .int) (by decide +kernel)) rfl hK hP hD hS hA (fun _ => rfl) (by decide) (by decide) (by decide) (Nat.le_of_ble_eq_true rfl) (Nat.le_of_ble_eq_true rfl) dX5_init_15 (fun q_3 cA_4 H hK hP hD hS => ?_)
  have hK : va_K (dC, dI) vwCl [(cA_2, .int), (cA_4, .int)] s := hK
  have hP : va_P (dC, dI) vwCl [(h0, .inr (5, [.ref q_1, f1, f2, f3])), (q_1, .inl (cA_2, 16, .inl (fun _ => (0 : Int32)))), (q_3, .inl (cA_4, 16, .inl (fun _ => (0 : Int32))))] H := hP
  have hD : va_D A [(h0, .inr (5, [.ref q_1, f1, f2, f3])), (q_1, .inl (cA_2, 16, .inl (fun _ => (0 : Int32)))), (q_3, .inl (cA_4, 16, .inl (fun _ => (0 : Int32))))] := hD
  refine W.widen (k := 2) (n := 32) (Nat.le_of_ble_eq_true rfl) (Nat.le_of_ble_eq_true rfl) ?_
  refine va_put (D := (dC, dI)) (ci := 5) (v := .ref q_3) (ty := .array .int) (C := RX5) (T := TX5) (N := 4) hx hb hts (by decide +kernel) tyX5 tyX5_ok nmX5 hown hK hP hD hS 0 rfl rfl 1 (by decide) (hts (.fieldLink RX5 15 "KeyAtlas$Rows" "values" "[I") (by decide +kernel)) (fun _ h9 => h9) rfl (by decide +kernel) rfl rfl (Nat.le_of_ble_eq_true rfl) dX5_init_17 (fun H locs hP hD hS => ?_)
  have hP : va_P (dC, dI) vwCl [(h0, .inr (5, [.ref q_1, .ref q_3, f2, f3])), (q_1, .inl (cA_2, 16, .inl (fun _ => (0 : Int32)))), (q_3, .inl (cA_4, 16, .inl (fun _ => (0 : Int32))))] H := hP
  have hD : va_D A [(h0, .inr (5, [.ref q_1, .ref q_3, f2, f3])), (q_1, .inl (cA_2, 16, .inl (fun _ => (0 : Int32)))), (q_3, .inl (cA_4, 16, .inl (fun _ => (0 : Int32))))] := hD
  refine W.widen (k := 2) (n := 32) (Nat.le_of_ble_eq_true rfl) (Nat.le_of_ble_eq_true rfl) ?_
  exact W.vret hx hb hr (fun t ht hW => ⟨⟨(), rfl, trivial, trivial⟩, hS.F ht⟩) hS.2.2 dX5_init_20
set_option maxHeartbeats 4000000 in
set_option maxRecDepth 100000 in
/-- the constructor of X2 -/
theorem c_X2_init (l : Launch) (hlt : l.stackTraces = false) (dC : Nat → ClassId) (dI : Nat → Nat → Nat) (sz : Nat) (h0 : Nat) (p0 : Int32) (p1 : Int32) : Met l yX2_init wsX2_init ({ frames := 3, cells := 4, slots := 36, locals := 64 }) (va_Pc [.ref h0, .int p0, .int p1] (pk_PreX (dC, dI) [(h0, .inr (3, [.null, .int 0, .int 0, .int 0, .int 0, .int 0, .null]))] [] sz)) (va_Qv (fun (_ : List Value) => True) (fun (u : List Value) (t : State) => va_P (dC, dI) vwCl [(h0, .inr (3, u))] t.heap ∧ va_K (dC, dI) vwCl [] t ∧ va_D (va_A [(h0, .inr (3, [.null, .int 0, .int 0, .int 0, .int 0, .int 0, .null]))] sz) [(h0, .inr (3, u))]) (va_A [(h0, .inr (3, [.null, .int 0, .int 0, .int 0, .int 0, .int 0, .null]))] sz)) 4 36 (va_A [(h0, .inr (3, [.null, .int 0, .int 0, .int 0, .int 0, .int 0, .null]))] sz) := by
  refine Met.ofW (cc := cX2_init) (maxL := 3) (ret := none) (by decide) rfl ?_
  intro p e s m args below meth c s₁ B hml hv
  obtain ⟨rfl, hsz, hP, hK, hD0, hN, hZ⟩ := hv
  have hx := B.exec
  have hb := B.bytes
  have hr := B.returns
  have hts := atoms_spec (ws := wsX2_init) B.pre
  have hown : s.vm.findClass RX2 = some m.cls := findClass_of_methodNamed B.named
  have hlocks := B.notSynchronized
  have hin : meth.name = "<init>" := (name_of_methodNamed B.named B.method).1
  subst hsz
  have hD := hD0.self (sz := s.heap.size)
  generalize hAe : va_A [(h0, .inr (3, [.null, .int 0, .int 0, .int 0, .int 0, .int 0, .null]))] s.heap.size = A at hZ hD ⊢
  have hA : ∀ q : Nat, s.heap.size ≤ q → A q := fun q h => by rw [← hAe]; exact Or.inr h
  have hS : va_S A s.heap s.heap [] := va_S.rf
  have hP : va_P (dC, dI) vwCl [(h0, .inr (3, [.null, .int 0, .int 0, .int 0, .int 0, .int 0, .null]))] s.heap := hP
  have hl := lv_entry ([.ref h0, .int p0, .int p1]) (n := 3) (Nat.le_of_ble_eq_true rfl)
  rw [lg_entry_eq]
  generalize (lg_sl ([.ref h0, .int p0, .int p1]) ++ List.replicate (3 - (lg_sl ([.ref h0, .int p0, .int p1])).length) Slot.unset).toArray = ls at hl ⊢
  have hl : lv_has ls 3 [(0, .ref h0), (1, .int p0), (2, .int p1)] := hl
  refine lv_aload_n hx hb dX2_init_0 rfl (lv_at hl 0 rfl) ?_
  refine lv_iconst (v := 0) hx hb dX2_init_1 (by decide) ?_
  refine lv_iconst (v := (-1)) hx hb dX2_init_2 (by decide) ?_
  refine va_new (ci := 5) (fs := [.null, .null, .int 0, .int 0]) (C := RX5) (T := TX5) (N := 4) hx hb hts (by decide +kernel) tyX5 tyX5_ok hown (hts (.classLink RX2 3 RX5) (by decide +kernel)) (hts (.instantiable RX5 4) (by decide +kernel)) (hts (.initialized RX5) (by decide +kernel)) hK hP hD hS hA rfl (by decide +kernel) (Nat.le_of_ble_eq_true rfl) (Nat.le_of_ble_eq_true rfl) dX2_init_3 (fun q_1 H hP hD hS => ?_)
  have hP : va_P (dC, dI) vwCl [(h0, .inr (3, [.null, .int 0, .int 0, .int 0, .int 0, .int 0, .null])), (q_1, .inr (5, [.null, .null, .int 0, .int 0]))] H := hP
  have hD : va_D A [(h0, .inr (3, [.null, .int 0, .int 0, .int 0, .int 0, .int 0, .null])), (q_1, .inr (5, [.null, .null, .int 0, .int 0]))] := hD
  refine W.widen (k := 1) (n := 4) (Nat.le_of_ble_eq_true rfl) (Nat.le_of_ble_eq_true rfl) ?_
  refine lv_dup hx hb dX2_init_6 rfl ?_
  have hPc := hP.sub (ws' := [(q_1, .inr (5, [.null, .null, .int 0, .int 0]))]) [1] rfl
  have hDc := hD.sub (ws' := [(q_1, .inr (5, [.null, .null, .int 0, .int 0]))]) [1] (by decide) rfl
  have hKc := hK.sub (tys' := []) [] rfl
  have hFc := va_free (wc := [(q_1, .inr (5, [.null, .null, .int 0, .int 0]))]) hD hS hA [1] rfl
  refine va_callv (va_runIN (As := []) (rest := [.ref q_1, .int (-1), .int 0, .ref h0]) ⟨hx, hb, hml, hown, hts⟩ (c_X5_init l  dC dI H.size q_1 .null .null (.int 0) (.int 0)) ⟨va_cnB 0 hts gX2_init_X5_init_n5 rfl rfl rfl hN.n2 (hts (.initialized RX5) (by decide +kernel)) (by decide +kernel) ⟨(Nat.le_of_ble_eq_true rfl), (Nat.le_of_ble_eq_true rfl)⟩, rfl, hts (.instanceMethod yX5_init) (by decide +kernel)⟩ ⟨pk_blind, pk_call hPc hKc hDc⟩ rfl rfl hl.1 rfl (lv_room (Nat.le_of_ble_eq_true rfl)) dX2_init_7 ⟨(Nat.le_of_ble_eq_true rfl), (Nat.le_of_ble_eq_true rfl)⟩) hS (fun q _ h => hFc q h) hFc (fun ur_2 t H1 locs ht hvm hw hB hz1 hk1 hS => ?_)
  try dsimp only at hw
  have jr_2 := hw
  obtain ⟨hP, hD⟩ := va_join (wr := [(h0, .inr (3, [.null, .int 0, .int 0, .int 0, .int 0, .int 0, .null]))]) (w1 := []) hP hD [1] [0] rfl rfl (by decide) (by decide) hk1 hFc tx_P0 tx_D0
  clear hk1 hz1 ht hPc hDc hKc
  generalize H1 = H at hP hS ⊢
  have hP : va_P (dC, dI) vwCl [(h0, .inr (3, [.null, .int 0, .int 0, .int 0, .int 0, .int 0, .null]))] H := hP
  have hD : va_D A [(h0, .inr (3, [.null, .int 0, .int 0, .int 0, .int 0, .int 0, .null]))] := hD
  refine W.widen (k := 3) (n := 36) (Nat.le_of_ble_eq_true rfl) (Nat.le_of_ble_eq_true rfl) ?_
  refine W.eq (g2 := F0 m 10 ls [.ref q_1, .int (-1), .int 0, .ref h0]) rfl ?_
  have hPc := hP.sub (ws' := [(h0, .inr (3, [.null, .int 0, .int 0, .int 0, .int 0, .int 0, .null]))]) [0] rfl
  have hDc := hD.sub (ws' := [(h0, .inr (3, [.null, .int 0, .int 0, .int 0, .int 0, .int 0, .null]))]) [0] (by decide) rfl
  have hKc := hK.sub (tys' := []) [] rfl
  have hFc := va_free (wc := [(h0, .inr (3, [.null, .int 0, .int 0, .int 0, .int 0, .int 0, .null]))]) hD hS hA [0] rfl
  refine va_callv (va_runI (As := [.int 0, .int (-1), .ref q_1]) (rest := []) ⟨hx, hb, hml, hown, hts⟩ (c_X3_init_X2 l  dC dI H.size h0 0 (-1) q_1 .null (.int 0) (.int 0) (.int 0) (.int 0) (.int 0) .null) (cwI 3 hts gX2_init_X3_init rfl rfl rfl (hts (.initialized RX3) (by decide +kernel)) (hts (.methodLink RX2 9 yX3_init) (by decide +kernel)) (hts (.instanceMethod yX3_init) (by decide +kernel)) rfl (by decide +kernel) ⟨(Nat.le_of_ble_eq_true rfl), (Nat.le_of_ble_eq_true rfl)⟩) ⟨pk_blind, pk_call hPc hKc hDc⟩ rfl rfl hl.1 rfl (lv_room (Nat.le_of_ble_eq_true rfl)) dX2_init_10 ⟨(Nat.le_of_ble_eq_true rfl), (Nat.le_of_ble_eq_true rfl)⟩) hS (fun q _ h => hFc q h) hFc (fun ur_3 t H1 locs ht hvm hw hB hz1 hk1 hS => ?_)
  try dsimp only at hw
  have jr_3 := hw
  obtain ⟨hP1, hK1, hD1⟩ := hB
  rw [ht] at hP1
  have hK1 := va_K.moved hvm.symm hK1
  obtain ⟨hP, hD⟩ := va_join (wr := []) (w1 := [(h0, .inr (3, [.ref q_1, .int 0, .int (-1), .int 0, .int 0, .int 0, .null]))]) hP hD [0] [] rfl rfl (by decide) (by decide) hk1 hFc hP1 hD1
  clear hk1 hz1 ht hPc hDc hKc
  generalize H1 = H at hP hS ⊢
  have hP : va_P (dC, dI) vwCl [(h0, .inr (3, [.ref q_1, .int 0, .int (-1), .int 0, .int 0, .int 0, .null]))] H := hP
  have hD : va_D A [(h0, .inr (3, [.ref q_1, .int 0, .int (-1), .int 0, .int 0, .int 0, .null]))] := hD
  refine W.widen (k := 3) (n := 36) (Nat.le_of_ble_eq_true rfl) (Nat.le_of_ble_eq_true rfl) ?_
  refine W.eq (g2 := F0 m 13 ls []) rfl ?_
  refine lv_aload_n hx hb dX2_init_13 rfl (lv_at hl 0 rfl) ?_
  refine lv_iconst (v := 0) hx hb dX2_init_14 (by decide) ?_
  refine va_newa (atype := .boolean) (ty := .boolean) (n := 0) (N' := 0) (a0 := (0, .inl (fun _ => (0 : Int32)))) hx hb (hts (.arrayClass .boolean) (by decide +kernel)) rfl hK hP hD hS hA (fun _ => rfl) (by decide) (by decide) (by decide) (Nat.le_of_ble_eq_true rfl) (Nat.le_of_ble_eq_true rfl) dX2_init_15 (fun q_4 cA_5 H hK hP hD hS => ?_)
  have hK : va_K (dC, dI) vwCl [(cA_5, .boolean)] s := hK
  have hP : va_P (dC, dI) vwCl [(h0, .inr (3, [.ref q_1, .int 0, .int (-1), .int 0, .int 0, .int 0, .null])), (q_4, .inl (cA_5, 0, .inl (fun _ => (0 : Int32))))] H := hP
  have hD : va_D A [(h0, .inr (3, [.ref q_1, .int 0, .int (-1), .int 0, .int 0, .int 0, .null])), (q_4, .inl (cA_5, 0, .inl (fun _ => (0 : Int32))))] := hD
  refine W.widen (k := 4) (n := 36) (Nat.le_of_ble_eq_true rfl) (Nat.le_of_ble_eq_true rfl) ?_
  refine va_put (D := (dC, dI)) (ci := 3) (v := .ref q_4) (ty := .array .boolean) (C := RX2) (T := TX2) (N := 7) hx hb hts (by decide +kernel) tyX2 tyX2_ok nmX2 hown hK hP hD hS 0 rfl rfl 6 (by decide) (hts (.fieldLink RX2 14 "KeyAtlas$Hash" "bushy" "[Z") (by decide +kernel)) (fun _ h9 => h9) rfl (by decide +kernel) rfl rfl (Nat.le_of_ble_eq_true rfl) dX2_init_17 (fun H locs hP hD hS => ?_)
  have hP : va_P (dC, dI) vwCl [(h0, .inr (3, [.ref q_1, .int 0, .int (-1), .int 0, .int 0, .int 0, .ref q_4])), (q_4, .inl (cA_5, 0, .inl (fun _ => (0 : Int32))))] H := hP
  have hD : va_D A [(h0, .inr (3, [.ref q_1, .int 0, .int (-1), .int 0, .int 0, .int 0, .ref q_4])), (q_4, .inl (cA_5, 0, .inl (fun _ => (0 : Int32))))] := hD
  refine lv_aload_n hx hb dX2_init_20 rfl (lv_at hl 0 rfl) ?_
  refine lv_iload_n hx hb dX2_init_21 rfl (lv_at hl 1 rfl) ?_
  refine va_putF (D := (dC, dI)) (ci := 3) (v := .int p0) (ty := .int) (C := RX2) (T := TX2) (N := 7) hx hb hts (by decide +kernel) tyX2 tyX2_ok nmX2 hown hK hP hD hS 0 rfl rfl 3 (by decide) (hts (.fieldLink RX2 20 "KeyAtlas$Hash" "capacity" "I") (by decide +kernel)) (fun _ h9 => h9) rfl hin rfl (by decide +kernel) rfl rfl (Nat.le_of_ble_eq_true rfl) dX2_init_22 (fun H locs hP hD hS => ?_)
  have hP : va_P (dC, dI) vwCl [(h0, .inr (3, [.ref q_1, .int 0, .int (-1), .int p0, .int 0, .int 0, .ref q_4])), (q_4, .inl (cA_5, 0, .inl (fun _ => (0 : Int32))))] H := hP
  have hD : va_D A [(h0, .inr (3, [.ref q_1, .int 0, .int (-1), .int p0, .int 0, .int 0, .ref q_4])), (q_4, .inl (cA_5, 0, .inl (fun _ => (0 : Int32))))] := hD
  refine lv_aload_n hx hb dX2_init_25 rfl (lv_at hl 0 rfl) ?_
  refine lv_iload_n hx hb dX2_init_26 rfl (lv_at hl 2 rfl) ?_
  refine va_putF (D := (dC, dI)) (ci := 3) (v := .int p1) (ty := .int) (C := RX2) (T := TX2) (N := 7) hx hb hts (by decide +kernel) tyX2 tyX2_ok nmX2 hown hK hP hD hS 0 rfl rfl 4 (by decide) (hts (.fieldLink RX2 24 "KeyAtlas$Hash" "rule" "I") (by decide +kernel)) (fun _ h9 => h9) rfl hin rfl (by decide +kernel) rfl rfl (Nat.le_of_ble_eq_true rfl) dX2_init_27 (fun H locs hP hD hS => ?_)
  have hP : va_P (dC, dI) vwCl [(h0, .inr (3, [.ref q_1, .int 0, .int (-1), .int p0, .int p1, .int 0, .ref q_4])), (q_4, .inl (cA_5, 0, .inl (fun _ => (0 : Int32))))] H := hP
  have hD : va_D A [(h0, .inr (3, [.ref q_1, .int 0, .int (-1), .int p0, .int p1, .int 0, .ref q_4])), (q_4, .inl (cA_5, 0, .inl (fun _ => (0 : Int32))))] := hD
  have hP9 := hP.sub (ws' := [(h0, .inr (3, [.ref q_1, .int 0, .int (-1), .int p0, .int p1, .int 0, .ref q_4]))]) [0] rfl
  have hD9 := hD.sub (ws' := [(h0, .inr (3, [.ref q_1, .int 0, .int (-1), .int p0, .int p1, .int 0, .ref q_4]))]) [0] (by decide) rfl
  have hK9 := hK.sub (tys' := []) [] rfl
  refine W.widen (k := 4) (n := 36) (Nat.le_of_ble_eq_true rfl) (Nat.le_of_ble_eq_true rfl) ?_
  exact W.vret hx hb hr (fun t ht hW => ⟨⟨[.ref q_1, .int 0, .int (-1), .int p0, .int p1, .int 0, .ref q_4], rfl, trivial, by rw [ht]; exact hP9, va_K.moved hW.alike hK9, hD9⟩, hS.F ht⟩) hS.2.2 dX2_init_30
set_option maxHeartbeats 4000000 in
set_option maxRecDepth 100000 in
/-- the constructor of X4 -/
theorem c_X4_init (l : Launch) (hlt : l.stackTraces = false) (dC : Nat → ClassId) (dI : Nat → Nat → Nat) (sz : Nat) (h0 : Nat) (p0 : Int32) (p1 : Int32) (hz : p1 = 0 ∨ p1 = 1) : Met l yX4_init wsX4_init ({ frames := 3, cells := 4, slots := 36, locals := 64 }) (va_Pc [.ref h0, .int p0, .int p1] (pk_PreX (dC, dI) [(h0, .inr (4, [.null, .int 0, .int 0, .int 0, .int 0]))] [] sz)) (va_Qv (fun (_ : List Value) => True) (fun (u : List Value) (t : State) => va_P (dC, dI) vwCl [(h0, .inr (4, u))] t.heap ∧ va_K (dC, dI) vwCl [] t ∧ va_D (va_A [(h0, .inr (4, [.null, .int 0, .int 0, .int 0, .int 0]))] sz) [(h0, .inr (4, u))]) (va_A [(h0, .inr (4, [.null, .int 0, .int 0, .int 0, .int 0]))] sz)) 4 36 (va_A [(h0, .inr (4, [.null, .int 0, .int 0, .int 0, .int 0]))] sz) := by
  refine Met.ofW (cc := cX4_init) (maxL := 3) (ret := none) (by decide) rfl ?_
  intro p e s m args below meth c s₁ B hml hv
  obtain ⟨rfl, hsz, hP, hK, hD0, hN, hZ⟩ := hv
  have hx := B.exec
  have hb := B.bytes
  have hr := B.returns
  have hts := atoms_spec (ws := wsX4_init) B.pre
  have hown : s.vm.findClass RX4 = some m.cls := findClass_of_methodNamed B.named
  have hlocks := B.notSynchronized
  have hin : meth.name = "<init>" := (name_of_methodNamed B.named B.method).1
  subst hsz
  have hD := hD0.self (sz := s.heap.size)
  generalize hAe : va_A [(h0, .inr (4, [.null, .int 0, .int 0, .int 0, .int 0]))] s.heap.size = A at hZ hD ⊢
  have hA : ∀ q : Nat, s.heap.size ≤ q → A q := fun q h => by rw [← hAe]; exact Or.inr h
  have hS : va_S A s.heap s.heap [] := va_S.rf
  have hP : va_P (dC, dI) vwCl [(h0, .inr (4, [.null, .int 0, .int 0, .int 0, .int 0]))] s.heap := hP
  have hl := lv_entry ([.ref h0, .int p0, .int p1]) (n := 3) (Nat.le_of_ble_eq_true rfl)
  rw [lg_entry_eq]
  generalize (lg_sl ([.ref h0, .int p0, .int p1]) ++ List.replicate (3 - (lg_sl ([.ref h0, .int p0, .int p1])).length) Slot.unset).toArray = ls at hl ⊢
  have hl : lv_has ls 3 [(0, .ref h0), (1, .int p0), (2, .int p1)] := hl
  refine lv_aload_n hx hb dX4_init_0 rfl (lv_at hl 0 rfl) ?_
  refine lv_iconst (v := 1) hx hb dX4_init_1 (by decide) ?_
  refine lv_iconst (v := (-1)) hx hb dX4_init_2 (by decide) ?_
  refine va_new (ci := 5) (fs := [.null, .null, .int 0, .int 0]) (C := RX5) (T := TX5) (N := 4) hx hb hts (by decide +kernel) tyX5 tyX5_ok hown (hts (.classLink RX4 3 RX5) (by decide +kernel)) (hts (.instantiable RX5 4) (by decide +kernel)) (hts (.initialized RX5) (by decide +kernel)) hK hP hD hS hA rfl (by decide +kernel) (Nat.le_of_ble_eq_true rfl) (Nat.le_of_ble_eq_true rfl) dX4_init_3 (fun q_1 H hP hD hS => ?_)
  have hP : va_P (dC, dI) vwCl [(h0, .inr (4, [.null, .int 0, .int 0, .int 0, .int 0])), (q_1, .inr (5, [.null, .null, .int 0, .int 0]))] H := hP
  have hD : va_D A [(h0, .inr (4, [.null, .int 0, .int 0, .int 0, .int 0])), (q_1, .inr (5, [.null, .null, .int 0, .int 0]))] := hD
  refine W.widen (k := 1) (n := 4) (Nat.le_of_ble_eq_true rfl) (Nat.le_of_ble_eq_true rfl) ?_
  refine lv_dup hx hb dX4_init_6 rfl ?_
  have hPc := hP.sub (ws' := [(q_1, .inr (5, [.null, .null, .int 0, .int 0]))]) [1] rfl
  have hDc := hD.sub (ws' := [(q_1, .inr (5, [.null, .null, .int 0, .int 0]))]) [1] (by decide) rfl
  have hKc := hK.sub (tys' := []) [] rfl
  have hFc := va_free (wc := [(q_1, .inr (5, [.null, .null, .int 0, .int 0]))]) hD hS hA [1] rfl
  refine va_callv (va_runIN (As := []) (rest := [.ref q_1, .int (-1), .int 1, .ref h0]) ⟨hx, hb, hml, hown, hts⟩ (c_X5_init l  dC dI H.size q_1 .null .null (.int 0) (.int 0)) ⟨va_cnB 0 hts gX4_init_X5_init_n5 rfl rfl rfl hN.n4 (hts (.initialized RX5) (by decide +kernel)) (by decide +kernel) ⟨(Nat.le_of_ble_eq_true rfl), (Nat.le_of_ble_eq_true rfl)⟩, rfl, hts (.instanceMethod yX5_init) (by decide +kernel)⟩ ⟨pk_blind, pk_call hPc hKc hDc⟩ rfl rfl hl.1 rfl (lv_room (Nat.le_of_ble_eq_true rfl)) dX4_init_7 ⟨(Nat.le_of_ble_eq_true rfl), (Nat.le_of_ble_eq_true rfl)⟩) hS (fun q _ h => hFc q h) hFc (fun ur_2 t H1 locs ht hvm hw hB hz1 hk1 hS => ?_)
  try dsimp only at hw
  have jr_2 := hw
  obtain ⟨hP, hD⟩ := va_join (wr := [(h0, .inr (4, [.null, .int 0, .int 0, .int 0, .int 0]))]) (w1 := []) hP hD [1] [0] rfl rfl (by decide) (by decide) hk1 hFc tx_P0 tx_D0
  clear hk1 hz1 ht hPc hDc hKc
  generalize H1 = H at hP hS ⊢
  have hP : va_P (dC, dI) vwCl [(h0, .inr (4, [.null, .int 0, .int 0, .int 0, .int 0]))] H := hP
  have hD : va_D A [(h0, .inr (4, [.null, .int 0, .int 0, .int 0, .int 0]))] := hD
  refine W.widen (k := 3) (n := 36) (Nat.le_of_ble_eq_true rfl) (Nat.le_of_ble_eq_true rfl) ?_
  refine W.eq (g2 := F0 m 10 ls [.ref q_1, .int (-1), .int 1, .ref h0]) rfl ?_
  have hPc := hP.sub (ws' := [(h0, .inr (4, [.null, .int 0, .int 0, .int 0, .int 0]))]) [0] rfl
  have hDc := hD.sub (ws' := [(h0, .inr (4, [.null, .int 0, .int 0, .int 0, .int 0]))]) [0] (by decide) rfl
  have hKc := hK.sub (tys' := []) [] rfl
  have hFc := va_free (wc := [(h0, .inr (4, [.null, .int 0, .int 0, .int 0, .int 0]))]) hD hS hA [0] rfl
  refine va_callv (va_runI (As := [.int 1, .int (-1), .ref q_1]) (rest := []) ⟨hx, hb, hml, hown, hts⟩ (c_X3_init_X4 l  dC dI H.size h0 1 (-1) q_1 .null (.int 0) (.int 0) (.int 0) (.int 0)) (cwI 3 hts gX4_init_X3_init rfl rfl rfl (hts (.initialized RX3) (by decide +kernel)) (hts (.methodLink RX4 9 yX3_init) (by decide +kernel)) (hts (.instanceMethod yX3_init) (by decide +kernel)) rfl (by decide +kernel) ⟨(Nat.le_of_ble_eq_true rfl), (Nat.le_of_ble_eq_true rfl)⟩) ⟨pk_blind, pk_call hPc hKc hDc⟩ rfl rfl hl.1 rfl (lv_room (Nat.le_of_ble_eq_true rfl)) dX4_init_10 ⟨(Nat.le_of_ble_eq_true rfl), (Nat.le_of_ble_eq_true rfl)⟩) hS (fun q _ h => hFc q h) hFc (fun ur_3 t H1 locs ht hvm hw hB hz1 hk1 hS => ?_)
  try dsimp only at hw
  have jr_3 := hw
  obtain ⟨hP1, hK1, hD1⟩ := hB
  rw [ht] at hP1
  have hK1 := va_K.moved hvm.symm hK1
  obtain ⟨hP, hD⟩ := va_join (wr := []) (w1 := [(h0, .inr (4, [.ref q_1, .int 1, .int (-1), .int 0, .int 0]))]) hP hD [0] [] rfl rfl (by decide) (by decide) hk1 hFc hP1 hD1
  clear hk1 hz1 ht hPc hDc hKc
  generalize H1 = H at hP hS ⊢
  have hP : va_P (dC, dI) vwCl [(h0, .inr (4, [.ref q_1, .int 1, .int (-1), .int 0, .int 0]))] H := hP
  have hD : va_D A [(h0, .inr (4, [.ref q_1, .int 1, .int (-1), .int 0, .int 0]))] := hD
  refine W.widen (k := 3) (n := 36) (Nat.le_of_ble_eq_true rfl) (Nat.le_of_ble_eq_true rfl) ?_
  refine W.eq (g2 := F0 m 13 ls []) rfl ?_
  refine lv_aload_n hx hb dX4_init_13 rfl (lv_at hl 0 rfl) ?_
  refine lv_iload_n hx hb dX4_init_14 rfl (lv_at hl 1 rfl) ?_
  refine va_putF (D := (dC, dI)) (ci := 4) (v := .int p0) (ty := .int) (C := RX4) (T := TX4) (N := 5) hx hb hts (by decide +kernel) tyX4 tyX4_ok nmX4 hown hK hP hD hS 0 rfl rfl 3 (by decide) (hts (.fieldLink RX4 14 "KeyAtlas$Linked" "limit" "I") (by decide +kernel)) (fun _ h9 => h9) rfl hin rfl (by decide +kernel) rfl rfl (Nat.le_of_ble_eq_true rfl) dX4_init_15 (fun H locs hP hD hS => ?_)
  have hP : va_P (dC, dI) vwCl [(h0, .inr (4, [.ref q_1, .int 1, .int (-1), .int p0, .int 0]))] H := hP
  have hD : va_D A [(h0, .inr (4, [.ref q_1, .int 1, .int (-1), .int p0, .int 0]))] := hD
  refine lv_aload_n hx hb dX4_init_18 rfl (lv_at hl 0 rfl) ?_
  refine lv_iload_n hx hb dX4_init_19 rfl (lv_at hl 2 rfl) ?_
  refine va_putF (D := (dC, dI)) (ci := 4) (v := .int p1) (ty := .boolean) (C := RX4) (T := TX4) (N := 5) hx hb hts (by decide +kernel) tyX4 tyX4_ok nmX4 hown hK hP hD hS 0 rfl rfl 4 (by decide) (hts (.fieldLink RX4 20 "KeyAtlas$Linked" "isByUse" "Z") (by decide +kernel)) (fun _ h9 => h9) rfl hin rfl (by decide +kernel) (by rcases hz with rfl | rfl <;> rfl) (by rcases hz with rfl | rfl <;> rfl) (Nat.le_of_ble_eq_true rfl) dX4_init_20 (fun H locs hP hD hS => ?_)
  have hP : va_P (dC, dI) vwCl [(h0, .inr (4, [.ref q_1, .int 1, .int (-1), .int p0, .int p1]))] H := hP
  have hD : va_D A [(h0, .inr (4, [.ref q_1, .int 1, .int (-1), .int p0, .int p1]))] := hD
  have hP9 := hP.sub (ws' := [(h0, .inr (4, [.ref q_1, .int 1, .int (-1), .int p0, .int p1]))]) [0] rfl
  have hD9 := hD.sub (ws' := [(h0, .inr (4, [.ref q_1, .int 1, .int (-1), .int p0, .int p1]))]) [0] (by decide) rfl
  have hK9 := hK.sub (tys' := []) [] rfl
  refine W.widen (k := 4) (n := 36) (Nat.le_of_ble_eq_true rfl) (Nat.le_of_ble_eq_true rfl) ?_
  exact W.vret hx hb hr (fun t ht hW => ⟨⟨[.ref q_1, .int 1, .int (-1), .int p0, .int p1], rfl, trivial, by rw [ht]; exact hP9, va_K.moved hW.alike hK9, hD9⟩, hS.F ht⟩) hS.2.2 dX4_init_23
set_option maxHeartbeats 4000000 in
set_option maxRecDepth 100000 in
/-- the constructor of X6 -/
theorem c_X6_init (l : Launch) (hlt : l.stackTraces = false) (dC : Nat → ClassId) (dI : Nat → Nat → Nat) (sz : Nat) (h0 : Nat) (p0 : Int32) : Met l yX6_init wsX6_init ({ frames := 3, cells := 4, slots := 36, locals := 64 }) (va_Pc [.ref h0, .int p0] (pk_PreX (dC, dI) [(h0, .inr (6, [.null, .int 0, .int 0, .int 0, .int 0, .long 0, .long 0]))] [] sz)) (va_Qv (fun (_ : List Value) => True) (fun (u : List Value) (t : State) => va_P (dC, dI) vwCl [(h0, .inr (6, u))] t.heap ∧ va_K (dC, dI) vwCl [] t ∧ va_D (va_A [(h0, .inr (6, [.null, .int 0, .int 0, .int 0, .int 0, .long 0, .long 0]))] sz) [(h0, .inr (6, u))]) (va_A [(h0, .inr (6, [.null, .int 0, .int 0, .int 0, .int 0, .long 0, .long 0]))] sz)) 4 36 (va_A [(h0, .inr (6, [.null, .int 0, .int 0, .int 0, .int 0, .long 0, .long 0]))] sz) := by
  refine Met.ofW (cc := cX6_init) (maxL := 2) (ret := none) (by decide) rfl ?_
  intro p e s m args below meth c s₁ B hml hv
  obtain ⟨rfl, hsz, hP, hK, hD0, hN, hZ⟩ := hv
  have hx := B.exec
  have hb := B.bytes
  have hr := B.returns
  have hts := atoms_spec (ws := wsX6_init) B.pre
  have hown : s.vm.findClass RX6 = some m.cls := findClass_of_methodNamed B.named
  have hlocks := B.notSynchronized
  have hin : meth.name = "<init>" := (name_of_methodNamed B.named B.method).1
  subst hsz
  have hD := hD0.self (sz := s.heap.size)
  generalize hAe : va_A [(h0, .inr (6, [.null, .int 0, .int 0, .int 0, .int 0, .long 0, .long 0]))] s.heap.size = A at hZ hD ⊢
  have hA : ∀ q : Nat, s.heap.size ≤ q → A q := fun q h => by rw [← hAe]; exact Or.inr h
  have hS : va_S A s.heap s.heap [] := va_S.rf
  have hP : va_P (dC, dI) vwCl [(h0, .inr (6, [.null, .int 0, .int 0, .int 0, .int 0, .long 0, .long 0]))] s.heap := hP
  have hl := lv_entry ([.ref h0, .int p0]) (n := 2) (Nat.le_of_ble_eq_true rfl)
  rw [lg_entry_eq]
  generalize (lg_sl ([.ref h0, .int p0]) ++ List.replicate (2 - (lg_sl ([.ref h0, .int p0])).length) Slot.unset).toArray = ls at hl ⊢
  have hl : lv_has ls 2 [(0, .ref h0), (1, .int p0)] := hl
  refine lv_aload_n hx hb dX6_init_0 rfl (lv_at hl 0 rfl) ?_
  refine lv_iconst (v := 2) hx hb dX6_init_1 (by decide) ?_
  refine lv_iconst (v := (-1)) hx hb dX6_init_2 (by decide) ?_
  refine va_new (ci := 5) (fs := [.null, .null, .int 0, .int 0]) (C := RX5) (T := TX5) (N := 4) hx hb hts (by decide +kernel) tyX5 tyX5_ok hown (hts (.classLink RX6 5 RX5) (by decide +kernel)) (hts (.instantiable RX5 4) (by decide +kernel)) (hts (.initialized RX5) (by decide +kernel)) hK hP hD hS hA rfl (by decide +kernel) (Nat.le_of_ble_eq_true rfl) (Nat.le_of_ble_eq_true rfl) dX6_init_3 (fun q_1 H hP hD hS => ?_)
  have hP : va_P (dC, dI) vwCl [(h0, .inr (6, [.null, .int 0, .int 0, .int 0, .int 0, .long 0, .long 0])), (q_1, .inr (5, [.null, .null, .int 0, .int 0]))] H := hP
  have hD : va_D A [(h0, .inr (6, [.null, .int 0, .int 0, .int 0, .int 0, .long 0, .long 0])), (q_1, .inr (5, [.null, .null, .int 0, .int 0]))] := hD
  refine W.widen (k := 1) (n := 4) (Nat.le_of_ble_eq_true rfl) (Nat.le_of_ble_eq_true rfl) ?_
  refine lv_dup hx hb dX6_init_6 rfl ?_
  have hPc := hP.sub (ws' := [(q_1, .inr (5, [.null, .null, .int 0, .int 0]))]) [1] rfl
  have hDc := hD.sub (ws' := [(q_1, .inr (5, [.null, .null, .int 0, .int 0]))]) [1] (by decide) rfl
  have hKc := hK.sub (tys' := []) [] rfl
  have hFc := va_free (wc := [(q_1, .inr (5, [.null, .null, .int 0, .int 0]))]) hD hS hA [1] rfl
  refine va_callv (va_runIN (As := []) (rest := [.ref q_1, .int (-1), .int 2, .ref h0]) ⟨hx, hb, hml, hown, hts⟩ (c_X5_init l  dC dI H.size q_1 .null .null (.int 0) (.int 0)) ⟨va_cnB 0 hts gX6_init_X5_init_n7 rfl rfl rfl hN.n6 (hts (.initialized RX5) (by decide +kernel)) (by decide +kernel) ⟨(Nat.le_of_ble_eq_true rfl), (Nat.le_of_ble_eq_true rfl)⟩, rfl, hts (.instanceMethod yX5_init) (by decide +kernel)⟩ ⟨pk_blind, pk_call hPc hKc hDc⟩ rfl rfl hl.1 rfl (lv_room (Nat.le_of_ble_eq_true rfl)) dX6_init_7 ⟨(Nat.le_of_ble_eq_true rfl), (Nat.le_of_ble_eq_true rfl)⟩) hS (fun q _ h => hFc q h) hFc (fun ur_2 t H1 locs ht hvm hw hB hz1 hk1 hS => ?_)
  try dsimp only at hw
  have jr_2 := hw
  obtain ⟨hP, hD⟩ := va_join (wr := [(h0, .inr (6, [.null, .int 0, .int 0, .int 0, .int 0, .long 0, .long 0]))]) (w1 := []) hP hD [1] [0] rfl rfl (by decide) (by decide) hk1 hFc tx_P0 tx_D0
  clear hk1 hz1 ht hPc hDc hKc
  generalize H1 = H at hP hS ⊢
  have hP : va_P (dC, dI) vwCl [(h0, .inr (6, [.null, .int 0, .int 0, .int 0, .int 0, .long 0, .long 0]))] H := hP
  have hD : va_D A [(h0, .inr (6, [.null, .int 0, .int 0, .int 0, .int 0, .long 0, .long 0]))] := hD
  refine W.widen (k := 3) (n := 36) (Nat.le_of_ble_eq_true rfl) (Nat.le_of_ble_eq_true rfl) ?_
  refine W.eq (g2 := F0 m 10 ls [.ref q_1, .int (-1), .int 2, .ref h0]) rfl ?_
  have hPc := hP.sub (ws' := [(h0, .inr (6, [.null, .int 0, .int 0, .int 0, .int 0, .long 0, .long 0]))]) [0] rfl
  have hDc := hD.sub (ws' := [(h0, .inr (6, [.null, .int 0, .int 0, .int 0, .int 0, .long 0, .long 0]))]) [0] (by decide) rfl
  have hKc := hK.sub (tys' := []) [] rfl
  have hFc := va_free (wc := [(h0, .inr (6, [.null, .int 0, .int 0, .int 0, .int 0, .long 0, .long 0]))]) hD hS hA [0] rfl
  refine va_callv (va_runI (As := [.int 2, .int (-1), .ref q_1]) (rest := []) ⟨hx, hb, hml, hown, hts⟩ (c_X3_init_X6 l  dC dI H.size h0 2 (-1) q_1 .null (.int 0) (.int 0) (.int 0) (.int 0) (.long 0) (.long 0)) (cwI 3 hts gX6_init_X3_init rfl rfl rfl (hts (.initialized RX3) (by decide +kernel)) (hts (.methodLink RX6 11 yX3_init) (by decide +kernel)) (hts (.instanceMethod yX3_init) (by decide +kernel)) rfl (by decide +kernel) ⟨(Nat.le_of_ble_eq_true rfl), (Nat.le_of_ble_eq_true rfl)⟩) ⟨pk_blind, pk_call hPc hKc hDc⟩ rfl rfl hl.1 rfl (lv_room (Nat.le_of_ble_eq_true rfl)) dX6_init_10 ⟨(Nat.le_of_ble_eq_true rfl), (Nat.le_of_ble_eq_true rfl)⟩) hS (fun q _ h => hFc q h) hFc (fun ur_3 t H1 locs ht hvm hw hB hz1 hk1 hS => ?_)
  try dsimp only at hw
  have jr_3 := hw
  obtain ⟨hP1, hK1, hD1⟩ := hB
  rw [ht] at hP1
  have hK1 := va_K.moved hvm.symm hK1
  obtain ⟨hP, hD⟩ := va_join (wr := []) (w1 := [(h0, .inr (6, [.ref q_1, .int 2, .int (-1), .int 0, .int 0, .long 0, .long 0]))]) hP hD [0] [] rfl rfl (by decide) (by decide) hk1 hFc hP1 hD1
  clear hk1 hz1 ht hPc hDc hKc
  generalize H1 = H at hP hS ⊢
  have hP : va_P (dC, dI) vwCl [(h0, .inr (6, [.ref q_1, .int 2, .int (-1), .int 0, .int 0, .long 0, .long 0]))] H := hP
  have hD : va_D A [(h0, .inr (6, [.ref q_1, .int 2, .int (-1), .int 0, .int 0, .long 0, .long 0]))] := hD
  refine W.widen (k := 3) (n := 36) (Nat.le_of_ble_eq_true rfl) (Nat.le_of_ble_eq_true rfl) ?_
  refine W.eq (g2 := F0 m 13 ls []) rfl ?_
  refine lv_aload_n hx hb dX6_init_13 rfl (lv_at hl 0 rfl) ?_
  refine lv_iload_n hx hb dX6_init_14 rfl (lv_at hl 1 rfl) ?_
  refine va_putF (D := (dC, dI)) (ci := 6) (v := .int p0) (ty := .int) (C := RX6) (T := TX6) (N := 7) hx hb hts (by decide +kernel) tyX6 tyX6_ok nmX6 hown hK hP hD hS 0 rfl rfl 3 (by decide) (hts (.fieldLink RX6 16 "KeyAtlas$Sorted" "order" "I") (by decide +kernel)) (fun _ h9 => h9) rfl hin rfl (by decide +kernel) rfl rfl (Nat.le_of_ble_eq_true rfl) dX6_init_15 (fun H locs hP hD hS => ?_)
  have hP : va_P (dC, dI) vwCl [(h0, .inr (6, [.ref q_1, .int 2, .int (-1), .int p0, .int 0, .long 0, .long 0]))] H := hP
  have hD : va_D A [(h0, .inr (6, [.ref q_1, .int 2, .int (-1), .int p0, .int 0, .long 0, .long 0]))] := hD
  refine lv_aload_n hx hb dX6_init_18 rfl (lv_at hl 0 rfl) ?_
  refine lv_iconst (v := 0) hx hb dX6_init_19 (by decide) ?_
  refine va_putF (D := (dC, dI)) (ci := 6) (v := .int 0) (ty := .boolean) (C := RX6) (T := TX6) (N := 7) hx hb hts (by decide +kernel) tyX6 tyX6_ok nmX6 hown hK hP hD hS 0 rfl rfl 4 (by decide) (hts (.fieldLink RX6 22 "KeyAtlas$Sorted" "isTurned" "Z") (by decide +kernel)) (fun _ h9 => h9) rfl hin rfl (by decide +kernel) rfl rfl (Nat.le_of_ble_eq_true rfl) dX6_init_20 (fun H locs hP hD hS => ?_)
  have hP : va_P (dC, dI) vwCl [(h0, .inr (6, [.ref q_1, .int 2, .int (-1), .int p0, .int 0, .long 0, .long 0]))] H := hP
  have hD : va_D A [(h0, .inr (6, [.ref q_1, .int 2, .int (-1), .int p0, .int 0, .long 0, .long 0]))] := hD
  refine lv_aload_n hx hb dX6_init_23 rfl (lv_at hl 0 rfl) ?_
  refine lv_ldc2 (v := (-9223372036854775808)) hx hb hown (hts (.constantLong RX6 26 (-9223372036854775808)) (by decide +kernel)) dX6_init_24 ?_
  refine va_putF (D := (dC, dI)) (ci := 6) (v := .long (-9223372036854775808)) (ty := .long) (C := RX6) (T := TX6) (N := 7) hx hb hts (by decide +kernel) tyX6 tyX6_ok nmX6 hown hK hP hD hS 0 rfl rfl 5 (by decide) (hts (.fieldLink RX6 28 "KeyAtlas$Sorted" "low" "J") (by decide +kernel)) (fun _ h9 => h9) rfl hin rfl (by decide +kernel) rfl rfl (Nat.le_of_ble_eq_true rfl) dX6_init_27 (fun H locs hP hD hS => ?_)
  have hP : va_P (dC, dI) vwCl [(h0, .inr (6, [.ref q_1, .int 2, .int (-1), .int p0, .int 0, .long (-9223372036854775808), .long 0]))] H := hP
  have hD : va_D A [(h0, .inr (6, [.ref q_1, .int 2, .int (-1), .int p0, .int 0, .long (-9223372036854775808), .long 0]))] := hD
  refine lv_aload_n hx hb dX6_init_30 rfl (lv_at hl 0 rfl) ?_
  refine lv_ldc2 (v := 9223372036854775807) hx hb hown (hts (.constantLong RX6 32 (9223372036854775807)) (by decide +kernel)) dX6_init_31 ?_
  refine va_putF (D := (dC, dI)) (ci := 6) (v := .long 9223372036854775807) (ty := .long) (C := RX6) (T := TX6) (N := 7) hx hb hts (by decide +kernel) tyX6 tyX6_ok nmX6 hown hK hP hD hS 0 rfl rfl 6 (by decide) (hts (.fieldLink RX6 34 "KeyAtlas$Sorted" "high" "J") (by decide +kernel)) (fun _ h9 => h9) rfl hin rfl (by decide +kernel) rfl rfl (Nat.le_of_ble_eq_true rfl) dX6_init_34 (fun H locs hP hD hS => ?_)
  have hP : va_P (dC, dI) vwCl [(h0, .inr (6, [.ref q_1, .int 2, .int (-1), .int p0, .int 0, .long (-9223372036854775808), .long 9223372036854775807]))] H := hP
  have hD : va_D A [(h0, .inr (6, [.ref q_1, .int 2, .int (-1), .int p0, .int 0, .long (-9223372036854775808), .long 9223372036854775807]))] := hD
  have hP9 := hP.sub (ws' := [(h0, .inr (6, [.ref q_1, .int 2, .int (-1), .int p0, .int 0, .long (-9223372036854775808), .long 9223372036854775807]))]) [0] rfl
  have hD9 := hD.sub (ws' := [(h0, .inr (6, [.ref q_1, .int 2, .int (-1), .int p0, .int 0, .long (-9223372036854775808), .long 9223372036854775807]))]) [0] (by decide) rfl
  have hK9 := hK.sub (tys' := []) [] rfl
  refine W.widen (k := 4) (n := 36) (Nat.le_of_ble_eq_true rfl) (Nat.le_of_ble_eq_true rfl) ?_
  exact W.vret hx hb hr (fun t ht hW => ⟨⟨[.ref q_1, .int 2, .int (-1), .int p0, .int 0, .long (-9223372036854775808), .long 9223372036854775807], rfl, trivial, by rw [ht]; exact hP9, va_K.moved hW.alike hK9, hD9⟩, hS.F ht⟩) hS.2.2 dX6_init_37
end
section
theorem gN_make_areInRange : GoodIn wsN_make (va_wsS RX7 27 yX7_areInRange wsX7_areInRange) := by
  unfold wsN_make
  exact goodIn_mono gX7_make_X7_areInRange
theorem gN_make_newMap : GoodIn wsN_make (va_wsS RX7 33 yX7_newMap wsX7_newMap) := by
  unfold wsN_make
  exact goodIn_mono gX7_make_X7_newMap
theorem gN_make_settle : GoodIn wsN_make (wsV RX7 37 RX7 yX7_settle wsX7_settle) := by
  unfold wsN_make
  exact goodIn_mono gX7_make_X7_settle
theorem ng_RX7_19 : ∀ w ∈ (vx_atS RX7 19 "java/lang/IllegalArgumentException" ["java/lang/RuntimeException", "java/lang/Exception"]).filter (fun w => !goodWord w), w ∈ p_xw := by decide +kernel
theorem og_RX7_19 : ∀ w ∈ Cond.classLink RX7 15 "java/lang/IllegalArgumentException" :: Cond.initialized "java/lang/IllegalArgumentException" :: vx_atS RX7 19 "java/lang/IllegalArgumentException" ["java/lang/RuntimeException", "java/lang/Exception"], vx_ot w = true := by decide +kernel
theorem at_X7_make_9 : ∀ w ∈ (vx_atS RX7 19 "java/lang/IllegalArgumentException" ["java/lang/RuntimeException", "java/lang/Exception"]).filter goodWord, w ∈ wsN_make := fun w h => by
  unfold wsN_make wsX7_make
  exact List.mem_append_left _ (List.mem_cons_of_mem _ (List.mem_append_left _ (List.mem_append_right _ h)))
theorem at_X7_make_46 : ∀ w ∈ (vx_atS RX7 19 "java/lang/IllegalArgumentException" ["java/lang/RuntimeException", "java/lang/Exception"]).filter goodWord, w ∈ wsN_make := fun w h => by
  unfold wsN_make wsX7_make
  exact List.mem_append_left _ (List.mem_cons_of_mem _ (List.mem_append_left _ (List.mem_append_right _ h)))
theorem ng_RX7_26 : ∀ w ∈ (vx_atS RX7 26 "java/lang/NegativeArraySizeException" ["java/lang/RuntimeException", "java/lang/Exception"]).filter (fun w => !goodWord w), w ∈ p_xw := by decide +kernel
theorem og_RX7_26 : ∀ w ∈ Cond.classLink RX7 22 "java/lang/NegativeArraySizeException" :: Cond.initialized "java/lang/NegativeArraySizeException" :: vx_atS RX7 26 "java/lang/NegativeArraySizeException" ["java/lang/RuntimeException", "java/lang/Exception"], vx_ot w = true := by decide +kernel
theorem at_X7_make_27 : ∀ w ∈ (vx_atS RX7 26 "java/lang/NegativeArraySizeException" ["java/lang/RuntimeException", "java/lang/Exception"]).filter goodWord, w ∈ wsN_make := fun w h => by
  unfold wsN_make wsX7_make
  exact List.mem_append_right _ h
theorem ng_RX7_243 : ∀ w ∈ (tx_atN RX7 243).filter (fun w => !goodWord w), w ∈ p_xw := by decide +kernel
theorem og_RX7_243 : ∀ w ∈ Cond.classLink RX7 239 nN :: Cond.initialized nN :: tx_atN RX7 243, vx_ot w = true := by decide +kernel
theorem at_X7_bodyAt_10 : ∀ w ∈ (tx_atN RX7 243).filter goodWord, w ∈ wsP_X7_bodyAt := fun w h => by
  unfold wsP_X7_bodyAt
  exact List.mem_cons_of_mem _ (List.mem_append_right _ h)
theorem at_X7_count_51 : ∀ w ∈ (vx_atS RX7 19 "java/lang/IllegalArgumentException" ["java/lang/RuntimeException", "java/lang/Exception"]).filter goodWord, w ∈ wsP_X7_count := fun w h => by
  unfold wsP_X7_count
  exact List.mem_cons_of_mem _ (List.mem_append_right _ h)
end
section
set_option maxHeartbeats 4000000 in
set_option maxRecDepth 100000 in
/-- a new atlas -/
theorem c_X7_init (l : Launch) (hlt : l.stackTraces = false) (dC : Nat → ClassId) (dI : Nat → Nat → Nat) (sz : Nat) (h0 : Nat) : Met l yX7_init wsX7_init ({ frames := 1, cells := 1, slots := 16, locals := 16 }) (va_Pc [.ref h0] (pk_PreX (dC, dI) [(h0, .inr (7, [.null]))] [] sz)) (va_Qv (fun (_ : Unit) => True) (fun (_ : Unit) (t : State) => ∃ (qb : Nat) (cb : ClassId), va_P (dC, dI) vwCl [(h0, .inr (7, [.ref qb])), (qb, .inl (cb, 16, .inr (.inr (.inr (.inr (fun _ => none))))))] t.heap ∧ va_K (dC, dI) vwCl [(cb, .object "KeyAtlas$Body")] t ∧ va_D (va_A [(h0, .inr (7, [.null]))] sz) [(h0, .inr (7, [.ref qb])), (qb, .inl (cb, 16, .inr (.inr (.inr (.inr (fun _ => none))))))]) (va_A [(h0, .inr (7, [.null]))] sz)) 1 16 (va_A [(h0, .inr (7, [.null]))] sz) := by
  refine Met.ofW (cc := cX7_init) (maxL := 1) (ret := none) (by decide) rfl ?_
  intro p e s m args below meth c s₁ B hml hv
  obtain ⟨rfl, hsz, hP, hK, hD0, hN, hZ⟩ := hv
  have hx := B.exec
  have hb := B.bytes
  have hr := B.returns
  have hts := atoms_spec (ws := wsX7_init) B.pre
  have hown : s.vm.findClass RX7 = some m.cls := findClass_of_methodNamed B.named
  have hlocks := B.notSynchronized
  have hin : meth.name = "<init>" := (name_of_methodNamed B.named B.method).1
  subst hsz
  have hD := hD0.self (sz := s.heap.size)
  generalize hAe : va_A [(h0, .inr (7, [.null]))] s.heap.size = A at hZ hD ⊢
  have hA : ∀ q : Nat, s.heap.size ≤ q → A q := fun q h => by rw [← hAe]; exact Or.inr h
  have hS : va_S A s.heap s.heap [] := va_S.rf
  have hP : va_P (dC, dI) vwCl [(h0, .inr (7, [.null]))] s.heap := hP
  have hl := lv_entry ([.ref h0]) (n := 1) (Nat.le_of_ble_eq_true rfl)
  rw [lg_entry_eq]
  generalize (lg_sl ([.ref h0]) ++ List.replicate (1 - (lg_sl ([.ref h0])).length) Slot.unset).toArray = ls at hl ⊢
  have hl : lv_has ls 1 [(0, .ref h0)] := hl
  have hw0_ := hts (.methodLink RX7 1 objectInit) (by decide +kernel)
  have hw1_ := hts (.instanceMethod objectInit) (by decide +kernel)
  have hw2_ := hts (.classLink RX7 9 "KeyAtlas$Body") (by decide +kernel)
  have hw3_ := hts (.fieldLink RX7 11 "KeyAtlas" "bodies" "[LKeyAtlas$Body;") (by decide +kernel)
  have hi0_ : ∀ w ∈ u_ws RX7 TX7 1, w ∈ wsX7_init := by decide +kernel
  refine lv_aload_n hx hb dX7_init_0 rfl (lv_at hl 0 rfl) ?_
  refine W.objInit hx hb hown hw0_ hw1_ (hts _ (List.mem_cons_of_mem _ (List.mem_append_left _ (List.mem_of_getElem? (i := 2) rfl)))) rfl (by rw [hml]; exact hl.1) rfl dX7_init_1 (Nat.le_of_ble_eq_true rfl) (Nat.le_of_ble_eq_true rfl) ?_
  refine W.eq (g2 := F0 m 4 ls []) rfl ?_
  refine lv_aload_n hx hb dX7_init_4 rfl (lv_at hl 0 rfl) ?_
  refine lv_bipush (v := 16) hx hb dX7_init_5 (by decide) ?_
  refine va_newq (C := "KeyAtlas$Body") (n := 16) (N' := 16) hx hb hown hw2_ hN.ao hK hP hD hS hA (by decide) (by decide) (by decide) (Nat.le_of_ble_eq_true rfl) (Nat.le_of_ble_eq_true rfl) dX7_init_7 (fun q_1 cA_2 H hK hP hD hS => ?_)
  have hK : va_K (dC, dI) vwCl [(cA_2, .object "KeyAtlas$Body")] s := hK
  have hP : va_P (dC, dI) vwCl [(h0, .inr (7, [.null])), (q_1, .inl (cA_2, 16, .inr (.inr (.inr (.inr (fun _ => none))))))] H := hP
  have hD : va_D A [(h0, .inr (7, [.null])), (q_1, .inl (cA_2, 16, .inr (.inr (.inr (.inr (fun _ => none))))))] := hD
  refine W.widen (k := 1) (n := 16) (Nat.le_of_ble_eq_true rfl) (Nat.le_of_ble_eq_true rfl) ?_
  refine va_putF (D := (dC, dI)) (ci := 7) (v := .ref q_1) (ty := .array (.object "KeyAtlas$Body")) (C := RX7) (T := TX7) (N := 1) hx hb hts hi0_ tyX7 tyX7_ok nmX7 hown hK hP hD hS 0 rfl rfl 0 (by decide) hw3_ (fun _ h9 => h9) rfl hin rfl (by decide +kernel) rfl rfl (Nat.le_of_ble_eq_true rfl) dX7_init_10 (fun H locs hP hD hS => ?_)
  have hP : va_P (dC, dI) vwCl [(h0, .inr (7, [.ref q_1])), (q_1, .inl (cA_2, 16, .inr (.inr (.inr (.inr (fun _ => none))))))] H := hP
  have hD : va_D A [(h0, .inr (7, [.ref q_1])), (q_1, .inl (cA_2, 16, .inr (.inr (.inr (.inr (fun _ => none))))))] := hD
  have hP9 := hP.sub (ws' := [(h0, .inr (7, [.ref q_1])), (q_1, .inl (cA_2, 16, .inr (.inr (.inr (.inr (fun _ => none))))))]) [0, 1] rfl
  have hD9 := hD.sub (ws' := [(h0, .inr (7, [.ref q_1])), (q_1, .inl (cA_2, 16, .inr (.inr (.inr (.inr (fun _ => none))))))]) [0, 1] (by decide) rfl
  have hK9 := hK.sub (tys' := [(cA_2, .object "KeyAtlas$Body")]) [0] rfl
  refine W.widen (k := 1) (n := 16) (Nat.le_of_ble_eq_true rfl) (Nat.le_of_ble_eq_true rfl) ?_
  exact W.vret hx hb hr (fun t ht hW => ⟨⟨(), rfl, trivial, q_1, cA_2, by rw [ht]; exact hP9, va_K.moved hW.alike hK9, hD9⟩, hS.F ht⟩) hS.2.2 dX7_init_13
set_option maxHeartbeats 4000000 in
set_option maxRecDepth 100000 in
/-- a and b in their ranges -/
theorem c_X7_areInRange (l : Launch) (dC : Nat → ClassId) (dI : Nat → Nat → Nat) (sz : Nat) (p0 : Int32) (p1 : Int32) (p2 : Int32) : Met l yX7_areInRange wsX7_areInRange ({ frames := 0, cells := 0, slots := 0, locals := 0 }) (va_Pc [.int p0, .int p1, .int p2] (pk_Pre (dC, dI) [] [] sz)) (va_Qi (fun (r : Int32) (_ : Unit) => (r.toInt = 1 ∧ mkRng p0 p1 p2) ∨ (r.toInt = 0 ∧ ¬ mkRng p0 p1 p2)) (fun (_ : Unit) (_ : State) => True) (va_A [] sz)) 0 0 (va_A [] sz) := by
  refine Met.ofW (cc := cX7_areInRange) (maxL := 3) (ret := (some .boolean)) (by decide) rfl ?_
  intro p e s m args below meth c s₁ B hml hv
  obtain ⟨rfl, hsz, hP, hK, hD0⟩ := hv
  have hx := B.exec
  have hb := B.bytes
  have hr := B.returns
  have hts := atoms_spec (ws := wsX7_areInRange) B.pre
  have hown : s.vm.findClass RX7 = some m.cls := findClass_of_methodNamed B.named
  have hlocks := B.notSynchronized
  subst hsz
  have hD := hD0.self (sz := s.heap.size)
  generalize hAe : va_A [] s.heap.size = A at hD ⊢
  have hA : ∀ q : Nat, s.heap.size ≤ q → A q := fun q h => by rw [← hAe]; exact Or.inr h
  have hS : va_S A s.heap s.heap [] := va_S.rf
  have hP : va_P (dC, dI) vwCl [] s.heap := hP
  have hl := lv_entry ([.int p0, .int p1, .int p2]) (n := 3) (Nat.le_of_ble_eq_true rfl)
  rw [lg_entry_eq]
  generalize (lg_sl ([.int p0, .int p1, .int p2]) ++ List.replicate (3 - (lg_sl ([.int p0, .int p1, .int p2])).length) Slot.unset).toArray = ls at hl ⊢
  have hl : lv_has ls 3 [(0, .int p0), (1, .int p1), (2, .int p2)] := hl

  refine lv_iload_n hx hb dX7_areInRange_0 rfl (lv_at hl 0 rfl) ?_
  by_cases c_1 : p0 = 0
  ·
    have ic_1 : p0.toInt = 0 := tx_eq rfl (by decide) c_1
    refine lv_lookup (off := 27) (tgt := 28) hx hb dX7_areInRange_1 (by decide) (by rw [c_1]; rfl) (by decide) ?_
    refine lv_iload_n hx hb dX7_areInRange_28 rfl (lv_at hl 1 rfl) ?_
    refine lv_if_lt (tgt := 52) hx hb dX7_areInRange_29 (by decide) (fun c_2 => ?_) (fun c_2 => ?_)
    ·
      have ic_2 : p1.toInt < 0 := tx_lt rfl (by decide) c_2
      refine lv_iconst (v := 0) hx hb dX7_areInRange_52 (by decide) ?_
      refine W.widen (k := 0) (n := 0) (Nat.le_of_ble_eq_true rfl) (Nat.le_of_ble_eq_true rfl) ?_
      exact W.zret (v := 0) hx hb hr rfl (fun t ht hW => ⟨⟨0, (), rfl, Or.inr ⟨by decide, by unfold mkRng; omega⟩, trivial⟩, hS.F ht⟩) hS.2.2 dX7_areInRange_53
    ·
      have ic_2 : 0 ≤ p1.toInt := tx_nlt rfl (by decide) c_2
      refine lv_iload_n hx hb dX7_areInRange_32 rfl (lv_at hl 1 rfl) ?_
      refine lv_sipush (v := 1000) hx hb dX7_areInRange_33 (by decide) ?_
      refine lv_icmp_gt (tgt := 52) hx hb dX7_areInRange_36 (by decide) (fun c_3 => ?_) (fun c_3 => ?_)
      ·
        have ic_3 : 1000 < p1.toInt := tx_lt (by decide) rfl c_3
        refine lv_iconst (v := 0) hx hb dX7_areInRange_52 (by decide) ?_
        refine W.widen (k := 0) (n := 0) (Nat.le_of_ble_eq_true rfl) (Nat.le_of_ble_eq_true rfl) ?_
        exact W.zret (v := 0) hx hb hr rfl (fun t ht hW => ⟨⟨0, (), rfl, Or.inr ⟨by decide, by unfold mkRng; omega⟩, trivial⟩, hS.F ht⟩) hS.2.2 dX7_areInRange_53
      ·
        have ic_3 : p1.toInt ≤ 1000 := tx_nlt (by decide) rfl c_3
        refine lv_iload_n hx hb dX7_areInRange_39 rfl (lv_at hl 2 rfl) ?_
        refine lv_if_lt (tgt := 52) hx hb dX7_areInRange_40 (by decide) (fun c_4 => ?_) (fun c_4 => ?_)
        ·
          have ic_4 : p2.toInt < 0 := tx_lt rfl (by decide) c_4
          refine lv_iconst (v := 0) hx hb dX7_areInRange_52 (by decide) ?_
          refine W.widen (k := 0) (n := 0) (Nat.le_of_ble_eq_true rfl) (Nat.le_of_ble_eq_true rfl) ?_
          exact W.zret (v := 0) hx hb hr rfl (fun t ht hW => ⟨⟨0, (), rfl, Or.inr ⟨by decide, by unfold mkRng; omega⟩, trivial⟩, hS.F ht⟩) hS.2.2 dX7_areInRange_53
        ·
          have ic_4 : 0 ≤ p2.toInt := tx_nlt rfl (by decide) c_4
          refine lv_iload_n hx hb dX7_areInRange_43 rfl (lv_at hl 2 rfl) ?_
          refine lv_iconst (v := 3) hx hb dX7_areInRange_44 (by decide) ?_
          refine lv_icmp_gt (tgt := 52) hx hb dX7_areInRange_45 (by decide) (fun c_5 => ?_) (fun c_5 => ?_)
          ·
            have ic_5 : 3 < p2.toInt := tx_lt (by decide) rfl c_5
            refine lv_iconst (v := 0) hx hb dX7_areInRange_52 (by decide) ?_
            refine W.widen (k := 0) (n := 0) (Nat.le_of_ble_eq_true rfl) (Nat.le_of_ble_eq_true rfl) ?_
            exact W.zret (v := 0) hx hb hr rfl (fun t ht hW => ⟨⟨0, (), rfl, Or.inr ⟨by decide, by unfold mkRng; omega⟩, trivial⟩, hS.F ht⟩) hS.2.2 dX7_areInRange_53
          ·
            have ic_5 : p2.toInt ≤ 3 := tx_nlt (by decide) rfl c_5
            refine lv_iconst (v := 1) hx hb dX7_areInRange_48 (by decide) ?_
            refine lv_goto (tgt := 53) hx hb dX7_areInRange_49 (by decide) ?_
            refine W.widen (k := 0) (n := 0) (Nat.le_of_ble_eq_true rfl) (Nat.le_of_ble_eq_true rfl) ?_
            exact W.zret (v := 1) hx hb hr rfl (fun t ht hW => ⟨⟨1, (), rfl, Or.inl ⟨by decide, by unfold mkRng; omega⟩, trivial⟩, hS.F ht⟩) hS.2.2 dX7_areInRange_53
  have ic_1 : ¬ p0.toInt = 0 := tx_ne rfl (by decide) c_1
  by_cases c_6 : p0 = 1
  ·
    have ic_6 : p0.toInt = 1 := tx_eq rfl (by decide) c_6
    refine lv_lookup (off := 53) (tgt := 54) hx hb dX7_areInRange_1 (by decide) (by rw [c_6]; rfl) (by decide) ?_
    refine lv_iload_n hx hb dX7_areInRange_54 rfl (lv_at hl 1 rfl) ?_
    refine lv_if_lt (tgt := 78) hx hb dX7_areInRange_55 (by decide) (fun c_7 => ?_) (fun c_7 => ?_)
    ·
      have ic_7 : p1.toInt < 0 := tx_lt rfl (by decide) c_7
      refine lv_iconst (v := 0) hx hb dX7_areInRange_78 (by decide) ?_
      refine W.widen (k := 0) (n := 0) (Nat.le_of_ble_eq_true rfl) (Nat.le_of_ble_eq_true rfl) ?_
      exact W.zret (v := 0) hx hb hr rfl (fun t ht hW => ⟨⟨0, (), rfl, Or.inr ⟨by decide, by unfold mkRng; omega⟩, trivial⟩, hS.F ht⟩) hS.2.2 dX7_areInRange_79
    ·
      have ic_7 : 0 ≤ p1.toInt := tx_nlt rfl (by decide) c_7
      refine lv_iload_n hx hb dX7_areInRange_58 rfl (lv_at hl 1 rfl) ?_
      refine lv_sipush (v := 1000) hx hb dX7_areInRange_59 (by decide) ?_
      refine lv_icmp_gt (tgt := 78) hx hb dX7_areInRange_62 (by decide) (fun c_8 => ?_) (fun c_8 => ?_)
      ·
        have ic_8 : 1000 < p1.toInt := tx_lt (by decide) rfl c_8
        refine lv_iconst (v := 0) hx hb dX7_areInRange_78 (by decide) ?_
        refine W.widen (k := 0) (n := 0) (Nat.le_of_ble_eq_true rfl) (Nat.le_of_ble_eq_true rfl) ?_
        exact W.zret (v := 0) hx hb hr rfl (fun t ht hW => ⟨⟨0, (), rfl, Or.inr ⟨by decide, by unfold mkRng; omega⟩, trivial⟩, hS.F ht⟩) hS.2.2 dX7_areInRange_79
      ·
        have ic_8 : p1.toInt ≤ 1000 := tx_nlt (by decide) rfl c_8
        refine lv_iload_n hx hb dX7_areInRange_65 rfl (lv_at hl 2 rfl) ?_
        refine lv_if_lt (tgt := 78) hx hb dX7_areInRange_66 (by decide) (fun c_9 => ?_) (fun c_9 => ?_)
        ·
          have ic_9 : p2.toInt < 0 := tx_lt rfl (by decide) c_9
          refine lv_iconst (v := 0) hx hb dX7_areInRange_78 (by decide) ?_
          refine W.widen (k := 0) (n := 0) (Nat.le_of_ble_eq_true rfl) (Nat.le_of_ble_eq_true rfl) ?_
          exact W.zret (v := 0) hx hb hr rfl (fun t ht hW => ⟨⟨0, (), rfl, Or.inr ⟨by decide, by unfold mkRng; omega⟩, trivial⟩, hS.F ht⟩) hS.2.2 dX7_areInRange_79
        ·
          have ic_9 : 0 ≤ p2.toInt := tx_nlt rfl (by decide) c_9
          refine lv_iload_n hx hb dX7_areInRange_69 rfl (lv_at hl 2 rfl) ?_
          refine lv_iconst (v := 1) hx hb dX7_areInRange_70 (by decide) ?_
          refine lv_icmp_gt (tgt := 78) hx hb dX7_areInRange_71 (by decide) (fun c_10 => ?_) (fun c_10 => ?_)
          ·
            have ic_10 : 1 < p2.toInt := tx_lt (by decide) rfl c_10
            refine lv_iconst (v := 0) hx hb dX7_areInRange_78 (by decide) ?_
            refine W.widen (k := 0) (n := 0) (Nat.le_of_ble_eq_true rfl) (Nat.le_of_ble_eq_true rfl) ?_
            exact W.zret (v := 0) hx hb hr rfl (fun t ht hW => ⟨⟨0, (), rfl, Or.inr ⟨by decide, by unfold mkRng; omega⟩, trivial⟩, hS.F ht⟩) hS.2.2 dX7_areInRange_79
          ·
            have ic_10 : p2.toInt ≤ 1 := tx_nlt (by decide) rfl c_10
            refine lv_iconst (v := 1) hx hb dX7_areInRange_74 (by decide) ?_
            refine lv_goto (tgt := 79) hx hb dX7_areInRange_75 (by decide) ?_
            refine W.widen (k := 0) (n := 0) (Nat.le_of_ble_eq_true rfl) (Nat.le_of_ble_eq_true rfl) ?_
            exact W.zret (v := 1) hx hb hr rfl (fun t ht hW => ⟨⟨1, (), rfl, Or.inl ⟨by decide, by unfold mkRng; omega⟩, trivial⟩, hS.F ht⟩) hS.2.2 dX7_areInRange_79
  have ic_6 : ¬ p0.toInt = 1 := tx_ne rfl (by decide) c_6
  refine lv_lookup (off := 79) (tgt := 80) hx hb dX7_areInRange_1 (by decide) ((lv_osw c_1 (by decide)).trans ((lv_osw c_6 (by decide)).trans (rfl))) (by decide) ?_
  refine lv_iload_n hx hb dX7_areInRange_80 rfl (lv_at hl 1 rfl) ?_
  refine lv_if_lt (tgt := 93) hx hb dX7_areInRange_81 (by decide) (fun c_11 => ?_) (fun c_11 => ?_)
  ·
    have ic_11 : p1.toInt < 0 := tx_lt rfl (by decide) c_11
    refine lv_iconst (v := 0) hx hb dX7_areInRange_93 (by decide) ?_
    refine W.widen (k := 0) (n := 0) (Nat.le_of_ble_eq_true rfl) (Nat.le_of_ble_eq_true rfl) ?_
    exact W.zret (v := 0) hx hb hr rfl (fun t ht hW => ⟨⟨0, (), rfl, Or.inr ⟨by decide, by unfold mkRng; omega⟩, trivial⟩, hS.F ht⟩) hS.2.2 dX7_areInRange_94
  ·
    have ic_11 : 0 ≤ p1.toInt := tx_nlt rfl (by decide) c_11
    refine lv_iload_n hx hb dX7_areInRange_84 rfl (lv_at hl 1 rfl) ?_
    refine lv_iconst (v := 3) hx hb dX7_areInRange_85 (by decide) ?_
    refine lv_icmp_gt (tgt := 93) hx hb dX7_areInRange_86 (by decide) (fun c_12 => ?_) (fun c_12 => ?_)
    ·
      have ic_12 : 3 < p1.toInt := tx_lt (by decide) rfl c_12
      refine lv_iconst (v := 0) hx hb dX7_areInRange_93 (by decide) ?_
      refine W.widen (k := 0) (n := 0) (Nat.le_of_ble_eq_true rfl) (Nat.le_of_ble_eq_true rfl) ?_
      exact W.zret (v := 0) hx hb hr rfl (fun t ht hW => ⟨⟨0, (), rfl, Or.inr ⟨by decide, by unfold mkRng; omega⟩, trivial⟩, hS.F ht⟩) hS.2.2 dX7_areInRange_94
    ·
      have ic_12 : p1.toInt ≤ 3 := tx_nlt (by decide) rfl c_12
      refine lv_iconst (v := 1) hx hb dX7_areInRange_89 (by decide) ?_
      refine lv_goto (tgt := 94) hx hb dX7_areInRange_90 (by decide) ?_
      refine W.widen (k := 0) (n := 0) (Nat.le_of_ble_eq_true rfl) (Nat.le_of_ble_eq_true rfl) ?_
      exact W.zret (v := 1) hx hb hr rfl (fun t ht hW => ⟨⟨1, (), rfl, Or.inl ⟨by decide, by unfold mkRng; omega⟩, trivial⟩, hS.F ht⟩) hS.2.2 dX7_areInRange_94
set_option maxHeartbeats 4000000 in
set_option maxRecDepth 100000 in
/-- a new map of its kind -/
theorem c_X7_newMap (l : Launch) (hlt : l.stackTraces = false) (dC : Nat → ClassId) (dI : Nat → Nat → Nat) (sz : Nat) (p0 : Int32) (p1 : Int32) (p2 : Int32) : Met l yX7_newMap wsX7_newMap ({ frames := 4, cells := 5, slots := 43, locals := 90 }) (va_Pc [.int p0, .int p1, .int p2] (pk_PreX (dC, dI) [] [] sz)) (va_Qr (fun (u : Nat × List Value) => u.1 = 3 ∨ u.1 = 4 ∨ u.1 = 6) (fun (u : Nat × List Value) (a : Nat) (t : State) => va_P (dC, dI) vwCl [(a, .inr (u.1, u.2))] t.heap ∧ va_K (dC, dI) vwCl [] t ∧ va_D (va_A [] sz) [(a, .inr (u.1, u.2))]) (va_A [] sz)) 5 43 (va_A [] sz) := by
  refine Met.ofW (cc := cX7_newMap) (maxL := 3) (ret := (some (.object "KeyAtlas$Keyed"))) (by decide) rfl ?_
  intro p e s m args below meth c s₁ B hml hv
  obtain ⟨rfl, hsz, hP, hK, hD0, hN, hZ⟩ := hv
  have hx := B.exec
  have hb := B.bytes
  have hr := B.returns
  have hts := atoms_spec (ws := wsX7_newMap) B.pre
  have hown : s.vm.findClass RX7 = some m.cls := findClass_of_methodNamed B.named
  have hlocks := B.notSynchronized
  subst hsz
  have hD := hD0.self (sz := s.heap.size)
  generalize hAe : va_A [] s.heap.size = A at hZ hD ⊢
  have hA : ∀ q : Nat, s.heap.size ≤ q → A q := fun q h => by rw [← hAe]; exact Or.inr h
  have hS : va_S A s.heap s.heap [] := va_S.rf
  have hP : va_P (dC, dI) vwCl [] s.heap := hP
  have hl := lv_entry ([.int p0, .int p1, .int p2]) (n := 3) (Nat.le_of_ble_eq_true rfl)
  rw [lg_entry_eq]
  generalize (lg_sl ([.int p0, .int p1, .int p2]) ++ List.replicate (3 - (lg_sl ([.int p0, .int p1, .int p2])).length) Slot.unset).toArray = ls at hl ⊢
  have hl : lv_has ls 3 [(0, .int p0), (1, .int p1), (2, .int p2)] := hl
  have hw0_ := hts (.classLink RX7 223 RX2) (by decide +kernel)
  have hw1_ := hts (.instantiable RX2 7) (by decide +kernel)
  have hw2_ := hts (.initialized RX2) (by decide +kernel)
  have hw3_ := hts (.methodLink RX7 225 yX2_init) (by decide +kernel)
  have hw4_ := hts (.instanceMethod yX2_init) (by decide +kernel)
  have hw5_ := hts (.classLink RX7 228 RX4) (by decide +kernel)
  have hw6_ := hts (.instantiable RX4 5) (by decide +kernel)
  have hw7_ := hts (.initialized RX4) (by decide +kernel)
  have hw8_ := hts (.methodLink RX7 230 yX4_init) (by decide +kernel)
  have hw9_ := hts (.instanceMethod yX4_init) (by decide +kernel)
  have hw10_ := hts (.classLink RX7 147 RX6) (by decide +kernel)
  have hw11_ := hts (.instantiable RX6 7) (by decide +kernel)
  have hw12_ := hts (.initialized RX6) (by decide +kernel)
  have hw13_ := hts (.methodLink RX7 233 yX6_init) (by decide +kernel)
  have hw14_ := hts (.instanceMethod yX6_init) (by decide +kernel)
  have hi0_ : ∀ w ∈ u_ws RX2 TX2 7, w ∈ wsX7_newMap := by decide +kernel
  have hi1_ : ∀ w ∈ u_ws RX4 TX4 5, w ∈ wsX7_newMap := by decide +kernel
  have hi2_ : ∀ w ∈ u_ws RX6 TX6 7, w ∈ wsX7_newMap := by decide +kernel
  refine lv_iload_n hx hb dX7_newMap_0 rfl (lv_at hl 0 rfl) ?_
  by_cases c_1 : p0 = 0
  ·
    have ic_1 : p0.toInt = 0 := tx_eq rfl (by decide) c_1
    refine lv_lookup (off := 27) (tgt := 28) hx hb dX7_newMap_1 (by decide) (by rw [c_1]; rfl) (by decide) ?_
    refine va_new (ci := 3) (fs := [.null, .int 0, .int 0, .int 0, .int 0, .int 0, .null]) (C := RX2) (T := TX2) (N := 7) hx hb hts hi0_ tyX2 tyX2_ok hown hw0_ hw1_ hw2_ hK hP hD hS hA rfl (by decide +kernel) (Nat.le_of_ble_eq_true rfl) (Nat.le_of_ble_eq_true rfl) dX7_newMap_28 (fun q_2 H hP hD hS => ?_)
    have hP : va_P (dC, dI) vwCl [(q_2, .inr (3, [.null, .int 0, .int 0, .int 0, .int 0, .int 0, .null]))] H := hP
    have hD : va_D A [(q_2, .inr (3, [.null, .int 0, .int 0, .int 0, .int 0, .int 0, .null]))] := hD
    refine W.widen (k := 1) (n := 7) (Nat.le_of_ble_eq_true rfl) (Nat.le_of_ble_eq_true rfl) ?_
    refine lv_dup hx hb dX7_newMap_31 rfl ?_
    refine lv_iload_n hx hb dX7_newMap_32 rfl (lv_at hl 1 rfl) ?_
    refine lv_iload_n hx hb dX7_newMap_33 rfl (lv_at hl 2 rfl) ?_
    have hPc := hP.sub (ws' := [(q_2, .inr (3, [.null, .int 0, .int 0, .int 0, .int 0, .int 0, .null]))]) [0] rfl
    have hDc := hD.sub (ws' := [(q_2, .inr (3, [.null, .int 0, .int 0, .int 0, .int 0, .int 0, .null]))]) [0] (by decide) rfl
    have hKc := hK.sub (tys' := []) [] rfl
    have hFc := va_free (wc := [(q_2, .inr (3, [.null, .int 0, .int 0, .int 0, .int 0, .int 0, .null]))]) hD hS hA [0] rfl
    have hZc := (hZ.kept hS.2.1).narrow hFc
    refine va_callv (va_runI (As := [.int p1, .int p2]) (rest := [.ref q_2]) ⟨hx, hb, hml, hown, hts⟩ (c_X2_init l hlt dC dI H.size q_2 p1 p2) (cwI 2 hts gX7_newMap_X2_init rfl rfl rfl hw2_ hw3_ hw4_ rfl (by decide +kernel) ⟨(Nat.le_of_ble_eq_true rfl), (Nat.le_of_ble_eq_true rfl)⟩) ⟨pk_blindX, pk_callX hPc hKc hDc hN hZc⟩ rfl rfl hl.1 rfl (lv_room (Nat.le_of_ble_eq_true rfl)) dX7_newMap_34 ⟨(Nat.le_of_ble_eq_true rfl), (Nat.le_of_ble_eq_true rfl)⟩) hS (fun q _ h => hFc q h) hFc (fun ur_3 t H1 locs ht hvm hw hB hz1 hk1 hS => ?_)
    try dsimp only at hw
    have jr_3 := hw
    obtain ⟨hP1, hK1, hD1⟩ := hB
    rw [ht] at hP1
    have hK1 := va_K.moved hvm.symm hK1
    obtain ⟨hP, hD⟩ := va_join (wr := []) (w1 := [(q_2, .inr (3, ur_3))]) hP hD [0] [] rfl rfl (by decide) (by decide) hk1 hFc hP1 hD1
    clear hk1 hz1 ht hPc hDc hKc
    generalize H1 = H at hP hS ⊢
    have hP : va_P (dC, dI) vwCl [(q_2, .inr (3, ur_3))] H := hP
    have hD : va_D A [(q_2, .inr (3, ur_3))] := hD
    refine W.widen (k := 5) (n := 43) (Nat.le_of_ble_eq_true rfl) (Nat.le_of_ble_eq_true rfl) ?_
    refine W.eq (g2 := F0 m 37 ls [.ref q_2]) rfl ?_
    have hP9 := hP.sub (ws' := [(q_2, .inr (3, ur_3))]) [0] rfl
    have hD9 := hD.sub (ws' := [(q_2, .inr (3, ur_3))]) [0] (by decide) rfl
    have hK9 := hK.sub (tys' := []) [] rfl
    refine W.widen (k := 5) (n := 43) (Nat.le_of_ble_eq_true rfl) (Nat.le_of_ble_eq_true rfl) ?_
    exact W.aret (v := .ref q_2) hx hb hr (Or.inl ⟨_, rfl⟩) (Or.inr ⟨_, rfl⟩) (fun t ht hW => ⟨⟨(3, ur_3), q_2, rfl, Or.inl rfl, by rw [ht]; exact hP9, va_K.moved hW.alike hK9, hD9⟩, hS.F ht⟩) hS.2.2 dX7_newMap_37
  have ic_1 : ¬ p0.toInt = 0 := tx_ne rfl (by decide) c_1
  by_cases c_4 : p0 = 1
  ·
    have ic_4 : p0.toInt = 1 := tx_eq rfl (by decide) c_4
    refine lv_lookup (off := 37) (tgt := 38) hx hb dX7_newMap_1 (by decide) (by rw [c_4]; rfl) (by decide) ?_
    refine va_new (ci := 4) (fs := [.null, .int 0, .int 0, .int 0, .int 0]) (C := RX4) (T := TX4) (N := 5) hx hb hts hi1_ tyX4 tyX4_ok hown hw5_ hw6_ hw7_ hK hP hD hS hA rfl (by decide +kernel) (Nat.le_of_ble_eq_true rfl) (Nat.le_of_ble_eq_true rfl) dX7_newMap_38 (fun q_5 H hP hD hS => ?_)
    have hP : va_P (dC, dI) vwCl [(q_5, .inr (4, [.null, .int 0, .int 0, .int 0, .int 0]))] H := hP
    have hD : va_D A [(q_5, .inr (4, [.null, .int 0, .int 0, .int 0, .int 0]))] := hD
    refine W.widen (k := 1) (n := 5) (Nat.le_of_ble_eq_true rfl) (Nat.le_of_ble_eq_true rfl) ?_
    refine lv_dup hx hb dX7_newMap_41 rfl ?_
    refine lv_iload_n hx hb dX7_newMap_42 rfl (lv_at hl 1 rfl) ?_
    refine lv_iload_n hx hb dX7_newMap_43 rfl (lv_at hl 2 rfl) ?_
    refine lv_iconst (v := 1) hx hb dX7_newMap_44 (by decide) ?_
    refine lv_icmp_ne (tgt := 52) hx hb dX7_newMap_45 (by decide) (fun c_6 => ?_) (fun c_6 => ?_)
    ·
      have ic_6 : ¬ p2.toInt = 1 := tx_ne rfl (by decide) c_6
      refine lv_iconst (v := 0) hx hb dX7_newMap_52 (by decide) ?_
      have hPc := hP.sub (ws' := [(q_5, .inr (4, [.null, .int 0, .int 0, .int 0, .int 0]))]) [0] rfl
      have hDc := hD.sub (ws' := [(q_5, .inr (4, [.null, .int 0, .int 0, .int 0, .int 0]))]) [0] (by decide) rfl
      have hKc := hK.sub (tys' := []) [] rfl
      have hFc := va_free (wc := [(q_5, .inr (4, [.null, .int 0, .int 0, .int 0, .int 0]))]) hD hS hA [0] rfl
      have hZc := (hZ.kept hS.2.1).narrow hFc
      refine va_callv (va_runI (As := [.int p1, .int 0]) (rest := [.ref q_5]) ⟨hx, hb, hml, hown, hts⟩ (c_X4_init l hlt dC dI H.size q_5 p1 0 (Or.inl rfl)) (cwI 2 hts gX7_newMap_X4_init rfl rfl rfl hw7_ hw8_ hw9_ rfl (by decide +kernel) ⟨(Nat.le_of_ble_eq_true rfl), (Nat.le_of_ble_eq_true rfl)⟩) ⟨pk_blindX, pk_callX hPc hKc hDc hN hZc⟩ rfl rfl hl.1 rfl (lv_room (Nat.le_of_ble_eq_true rfl)) dX7_newMap_53 ⟨(Nat.le_of_ble_eq_true rfl), (Nat.le_of_ble_eq_true rfl)⟩) hS (fun q _ h => hFc q h) hFc (fun ur_7 t H1 locs ht hvm hw hB hz1 hk1 hS => ?_)
      try dsimp only at hw
      have jr_7 := hw
      obtain ⟨hP1, hK1, hD1⟩ := hB
      rw [ht] at hP1
      have hK1 := va_K.moved hvm.symm hK1
      obtain ⟨hP, hD⟩ := va_join (wr := []) (w1 := [(q_5, .inr (4, ur_7))]) hP hD [0] [] rfl rfl (by decide) (by decide) hk1 hFc hP1 hD1
      clear hk1 hz1 ht hPc hDc hKc
      generalize H1 = H at hP hS ⊢
      have hP : va_P (dC, dI) vwCl [(q_5, .inr (4, ur_7))] H := hP
      have hD : va_D A [(q_5, .inr (4, ur_7))] := hD
      refine W.widen (k := 5) (n := 41) (Nat.le_of_ble_eq_true rfl) (Nat.le_of_ble_eq_true rfl) ?_
      refine W.eq (g2 := F0 m 56 ls [.ref q_5]) rfl ?_
      have hP9 := hP.sub (ws' := [(q_5, .inr (4, ur_7))]) [0] rfl
      have hD9 := hD.sub (ws' := [(q_5, .inr (4, ur_7))]) [0] (by decide) rfl
      have hK9 := hK.sub (tys' := []) [] rfl
      refine W.widen (k := 5) (n := 43) (Nat.le_of_ble_eq_true rfl) (Nat.le_of_ble_eq_true rfl) ?_
      exact W.aret (v := .ref q_5) hx hb hr (Or.inl ⟨_, rfl⟩) (Or.inr ⟨_, rfl⟩) (fun t ht hW => ⟨⟨(4, ur_7), q_5, rfl, Or.inr (Or.inl rfl), by rw [ht]; exact hP9, va_K.moved hW.alike hK9, hD9⟩, hS.F ht⟩) hS.2.2 dX7_newMap_56
    ·
      have ic_6 : p2.toInt = 1 := tx_eq rfl (by decide) c_6
      refine lv_iconst (v := 1) hx hb dX7_newMap_48 (by decide) ?_
      refine lv_goto (tgt := 53) hx hb dX7_newMap_49 (by decide) ?_
      have hPc := hP.sub (ws' := [(q_5, .inr (4, [.null, .int 0, .int 0, .int 0, .int 0]))]) [0] rfl
      have hDc := hD.sub (ws' := [(q_5, .inr (4, [.null, .int 0, .int 0, .int 0, .int 0]))]) [0] (by decide) rfl
      have hKc := hK.sub (tys' := []) [] rfl
      have hFc := va_free (wc := [(q_5, .inr (4, [.null, .int 0, .int 0, .int 0, .int 0]))]) hD hS hA [0] rfl
      have hZc := (hZ.kept hS.2.1).narrow hFc
      refine va_callv (va_runI (As := [.int p1, .int 1]) (rest := [.ref q_5]) ⟨hx, hb, hml, hown, hts⟩ (c_X4_init l hlt dC dI H.size q_5 p1 1 (Or.inr rfl)) (cwI 2 hts gX7_newMap_X4_init rfl rfl rfl hw7_ hw8_ hw9_ rfl (by decide +kernel) ⟨(Nat.le_of_ble_eq_true rfl), (Nat.le_of_ble_eq_true rfl)⟩) ⟨pk_blindX, pk_callX hPc hKc hDc hN hZc⟩ rfl rfl hl.1 rfl (lv_room (Nat.le_of_ble_eq_true rfl)) dX7_newMap_53 ⟨(Nat.le_of_ble_eq_true rfl), (Nat.le_of_ble_eq_true rfl)⟩) hS (fun q _ h => hFc q h) hFc (fun ur_8 t H1 locs ht hvm hw hB hz1 hk1 hS => ?_)
      try dsimp only at hw
      have jr_8 := hw
      obtain ⟨hP1, hK1, hD1⟩ := hB
      rw [ht] at hP1
      have hK1 := va_K.moved hvm.symm hK1
      obtain ⟨hP, hD⟩ := va_join (wr := []) (w1 := [(q_5, .inr (4, ur_8))]) hP hD [0] [] rfl rfl (by decide) (by decide) hk1 hFc hP1 hD1
      clear hk1 hz1 ht hPc hDc hKc
      generalize H1 = H at hP hS ⊢
      have hP : va_P (dC, dI) vwCl [(q_5, .inr (4, ur_8))] H := hP
      have hD : va_D A [(q_5, .inr (4, ur_8))] := hD
      refine W.widen (k := 5) (n := 41) (Nat.le_of_ble_eq_true rfl) (Nat.le_of_ble_eq_true rfl) ?_
      refine W.eq (g2 := F0 m 56 ls [.ref q_5]) rfl ?_
      have hP9 := hP.sub (ws' := [(q_5, .inr (4, ur_8))]) [0] rfl
      have hD9 := hD.sub (ws' := [(q_5, .inr (4, ur_8))]) [0] (by decide) rfl
      have hK9 := hK.sub (tys' := []) [] rfl
      refine W.widen (k := 5) (n := 43) (Nat.le_of_ble_eq_true rfl) (Nat.le_of_ble_eq_true rfl) ?_
      exact W.aret (v := .ref q_5) hx hb hr (Or.inl ⟨_, rfl⟩) (Or.inr ⟨_, rfl⟩) (fun t ht hW => ⟨⟨(4, ur_8), q_5, rfl, Or.inr (Or.inl rfl), by rw [ht]; exact hP9, va_K.moved hW.alike hK9, hD9⟩, hS.F ht⟩) hS.2.2 dX7_newMap_56
  have ic_4 : ¬ p0.toInt = 1 := tx_ne rfl (by decide) c_4
  refine lv_lookup (off := 56) (tgt := 57) hx hb dX7_newMap_1 (by decide) ((lv_osw c_1 (by decide)).trans ((lv_osw c_4 (by decide)).trans (rfl))) (by decide) ?_
  refine va_new (ci := 6) (fs := [.null, .int 0, .int 0, .int 0, .int 0, .long 0, .long 0]) (C := RX6) (T := TX6) (N := 7) hx hb hts hi2_ tyX6 tyX6_ok hown hw10_ hw11_ hw12_ hK hP hD hS hA rfl (by decide +kernel) (Nat.le_of_ble_eq_true rfl) (Nat.le_of_ble_eq_true rfl) dX7_newMap_57 (fun q_9 H hP hD hS => ?_)
  have hP : va_P (dC, dI) vwCl [(q_9, .inr (6, [.null, .int 0, .int 0, .int 0, .int 0, .long 0, .long 0]))] H := hP
  have hD : va_D A [(q_9, .inr (6, [.null, .int 0, .int 0, .int 0, .int 0, .long 0, .long 0]))] := hD
  refine W.widen (k := 1) (n := 7) (Nat.le_of_ble_eq_true rfl) (Nat.le_of_ble_eq_true rfl) ?_
  refine lv_dup hx hb dX7_newMap_60 rfl ?_
  refine lv_iload_n hx hb dX7_newMap_61 rfl (lv_at hl 1 rfl) ?_
  have hPc := hP.sub (ws' := [(q_9, .inr (6, [.null, .int 0, .int 0, .int 0, .int 0, .long 0, .long 0]))]) [0] rfl
  have hDc := hD.sub (ws' := [(q_9, .inr (6, [.null, .int 0, .int 0, .int 0, .int 0, .long 0, .long 0]))]) [0] (by decide) rfl
  have hKc := hK.sub (tys' := []) [] rfl
  have hFc := va_free (wc := [(q_9, .inr (6, [.null, .int 0, .int 0, .int 0, .int 0, .long 0, .long 0]))]) hD hS hA [0] rfl
  have hZc := (hZ.kept hS.2.1).narrow hFc
  refine va_callv (va_runI (As := [.int p1]) (rest := [.ref q_9]) ⟨hx, hb, hml, hown, hts⟩ (c_X6_init l hlt dC dI H.size q_9 p1) (cwI 1 hts gX7_newMap_X6_init rfl rfl rfl hw12_ hw13_ hw14_ rfl (by decide +kernel) ⟨(Nat.le_of_ble_eq_true rfl), (Nat.le_of_ble_eq_true rfl)⟩) ⟨pk_blindX, pk_callX hPc hKc hDc hN hZc⟩ rfl rfl hl.1 rfl (lv_room (Nat.le_of_ble_eq_true rfl)) dX7_newMap_62 ⟨(Nat.le_of_ble_eq_true rfl), (Nat.le_of_ble_eq_true rfl)⟩) hS (fun q _ h => hFc q h) hFc (fun ur_10 t H1 locs ht hvm hw hB hz1 hk1 hS => ?_)
  try dsimp only at hw
  have jr_10 := hw
  obtain ⟨hP1, hK1, hD1⟩ := hB
  rw [ht] at hP1
  have hK1 := va_K.moved hvm.symm hK1
  obtain ⟨hP, hD⟩ := va_join (wr := []) (w1 := [(q_9, .inr (6, ur_10))]) hP hD [0] [] rfl rfl (by decide) (by decide) hk1 hFc hP1 hD1
  clear hk1 hz1 ht hPc hDc hKc
  generalize H1 = H at hP hS ⊢
  have hP : va_P (dC, dI) vwCl [(q_9, .inr (6, ur_10))] H := hP
  have hD : va_D A [(q_9, .inr (6, ur_10))] := hD
  refine W.widen (k := 5) (n := 43) (Nat.le_of_ble_eq_true rfl) (Nat.le_of_ble_eq_true rfl) ?_
  refine W.eq (g2 := F0 m 65 ls [.ref q_9]) rfl ?_
  have hP9 := hP.sub (ws' := [(q_9, .inr (6, ur_10))]) [0] rfl
  have hD9 := hD.sub (ws' := [(q_9, .inr (6, ur_10))]) [0] (by decide) rfl
  have hK9 := hK.sub (tys' := []) [] rfl
  refine W.widen (k := 5) (n := 43) (Nat.le_of_ble_eq_true rfl) (Nat.le_of_ble_eq_true rfl) ?_
  exact W.aret (v := .ref q_9) hx hb hr (Or.inl ⟨_, rfl⟩) (Or.inr ⟨_, rfl⟩) (fun t ht hW => ⟨⟨(6, ur_10), q_9, rfl, Or.inr (Or.inr rfl), by rw [ht]; exact hP9, va_K.moved hW.alike hK9, hD9⟩, hS.F ht⟩) hS.2.2 dX7_newMap_65
set_option maxHeartbeats 4000000 in
set_option maxRecDepth 100000 in
/-- the first place is free -/
theorem c_X7_settle_X2 (l : Launch) (hlt : l.stackTraces = false) (dC : Nat → ClassId) (dI : Nat → Nat → Nat) (sz : Nat) (h0 : Nat) (qb : Nat) (cb : ClassId) (v0 : Nat) (vs : List Value) : Met l yX7_settle wsX7_settle ({ frames := 0, cells := 0, slots := 0, locals := 0 }) (va_Pc [.ref h0, .ref v0] (pk_PreX (dC, dI) [(h0, .inr (7, [.ref qb])), (qb, .inl (cb, 16, .inr (.inr (.inr (.inr (fun _ => none)))))), (v0, .inr (3, vs))] [(cb, .object "KeyAtlas$Body")] sz)) (va_Qi (fun (r : Int32) (_ : Unit) => r = 0) (fun (_ : Unit) (_ : State) => True) (va_A [(h0, .inr (7, [.ref qb])), (qb, .inl (cb, 16, .inr (.inr (.inr (.inr (fun _ => none)))))), (v0, .inr (3, vs))] sz)) 0 0 (va_A [(h0, .inr (7, [.ref qb])), (qb, .inl (cb, 16, .inr (.inr (.inr (.inr (fun _ => none)))))), (v0, .inr (3, vs))] sz) := by
  refine Met.ofW (cc := cX7_settle) (maxL := 3) (ret := (some .int)) (by decide) rfl ?_
  intro p e s m args below meth c s₁ B hml hv
  obtain ⟨rfl, hsz, hP, hK, hD0, hN, hZ⟩ := hv
  have hx := B.exec
  have hb := B.bytes
  have hr := B.returns
  have hts := atoms_spec (ws := wsX7_settle) B.pre
  have hown : s.vm.findClass RX7 = some m.cls := findClass_of_methodNamed B.named
  have hlocks := B.notSynchronized
  subst hsz
  have hD := hD0.self (sz := s.heap.size)
  generalize hAe : va_A [(h0, .inr (7, [.ref qb])), (qb, .inl (cb, 16, .inr (.inr (.inr (.inr (fun _ => none)))))), (v0, .inr (3, vs))] s.heap.size = A at hZ hD ⊢
  have hA : ∀ q : Nat, s.heap.size ≤ q → A q := fun q h => by rw [← hAe]; exact Or.inr h
  have hS : va_S A s.heap s.heap [] := va_S.rf
  have hP : va_P (dC, dI) vwCl [(h0, .inr (7, [.ref qb])), (qb, .inl (cb, 16, .inr (.inr (.inr (.inr (fun _ => none)))))), (v0, .inr (3, vs))] s.heap := hP
  have hl := lv_entry ([.ref h0, .ref v0]) (n := 3) (Nat.le_of_ble_eq_true rfl)
  rw [lg_entry_eq]
  generalize (lg_sl ([.ref h0, .ref v0]) ++ List.replicate (3 - (lg_sl ([.ref h0, .ref v0])).length) Slot.unset).toArray = ls at hl ⊢
  have hl : lv_has ls 3 [(0, .ref h0), (1, .ref v0)] := hl
  have hw0_ := hts (.fieldLink RX7 11 "KeyAtlas" "bodies" "[LKeyAtlas$Body;") (by decide +kernel)
  have hi0_ : ∀ w ∈ u_ws RX7 TX7 1, w ∈ wsX7_settle := by decide +kernel
  refine lv_iconst (v := 0) hx hb dX7_settle_0 (by decide) ?_
  refine lv_istore_n (lv' := [(2, .int 0), (0, .ref h0), (1, .ref v0)]) hx hb dX7_settle_1 rfl hl (by decide) rfl (fun ls hl => ?_)
  refine lv_iload_n hx hb dX7_settle_2 rfl (lv_at hl 0 rfl) ?_
  refine lv_aload_n hx hb dX7_settle_3 rfl (lv_at hl 1 rfl) ?_
  refine va_get (D := (dC, dI)) (ci := 7) (v := .ref qb) (C := RX7) (T := TX7) (N := 1) hx hb hts hi0_ hown hK hP 0 rfl rfl 0 (by decide) hw0_ (fun _ h9 => h9) rfl dX7_settle_4 ?_
  refine va_alen (v := 16) hx hb hK hP 1 0 rfl rfl rfl dX7_settle_7 ?_
  refine lv_icmp_ge (tgt := 35) hx hb dX7_settle_8 (by decide) (fun c_1 => absurd c_1 (by decide)) (fun c_1 => ?_)
  refine lv_aload_n hx hb dX7_settle_11 rfl (lv_at hl 1 rfl) ?_
  refine va_get (D := (dC, dI)) (ci := 7) (v := .ref qb) (C := RX7) (T := TX7) (N := 1) hx hb hts hi0_ hown hK hP 0 rfl rfl 0 (by decide) hw0_ (fun _ h9 => h9) rfl dX7_settle_12 ?_
  refine lv_iload_n hx hb dX7_settle_15 rfl (lv_at hl 0 rfl) ?_
  refine va_aldq (i := 0) hx hb hK hP 1 0 rfl rfl (by unfold vp_in; decide) dX7_settle_16 ?_
  refine W.eq (g2 := F0 m 17 ls [.null]) rfl ?_
  refine lv_ifnonnullN hx hb dX7_settle_17 ?_
  refine lv_aload_n hx hb dX7_settle_20 rfl (lv_at hl 1 rfl) ?_
  refine va_get (D := (dC, dI)) (ci := 7) (v := .ref qb) (C := RX7) (T := TX7) (N := 1) hx hb hts hi0_ hown hK hP 0 rfl rfl 0 (by decide) hw0_ (fun _ h9 => h9) rfl dX7_settle_21 ?_
  refine lv_iload_n hx hb dX7_settle_24 rfl (lv_at hl 0 rfl) ?_
  refine lv_aload_n hx hb dX7_settle_25 rfl (lv_at hl 2 rfl) ?_
  refine va_astqO (i := 0) hx hb hK hP hD hS 1 0 2 3 rfl rfl (r := (RX2, TX2, 7)) (hN.xw (.castable RX2 "KeyAtlas$Body") (by decide +kernel)) rfl rfl (by unfold vp_in; decide) dX7_settle_26 (fun H locs hP hD hS => ?_)
  have hP : va_P (dC, dI) vwCl [(h0, .inr (7, [.ref qb])), (qb, .inl (cb, 16, .inr (.inr (.inr (.inr (va_up (fun _ => none) (0 : Int32).toNatClampNeg (some v0))))))), (v0, .inr (3, vs))] H := hP
  have hD : va_D A [(h0, .inr (7, [.ref qb])), (qb, .inl (cb, 16, .inr (.inr (.inr (.inr (va_up (fun _ => none) (0 : Int32).toNatClampNeg (some v0))))))), (v0, .inr (3, vs))] := hD
  refine lv_iload_n hx hb dX7_settle_27 rfl (lv_at hl 0 rfl) ?_
  refine W.widen (k := 0) (n := 0) (Nat.le_of_ble_eq_true rfl) (Nat.le_of_ble_eq_true rfl) ?_
  exact W.iret (v := 0) hx hb hr (fun t ht hW => ⟨⟨0, (), rfl, rfl, trivial⟩, hS.F ht⟩) hS.2.2 dX7_settle_28
set_option maxHeartbeats 4000000 in
set_option maxRecDepth 100000 in
/-- the first place is free -/
theorem c_X7_settle_X4 (l : Launch) (hlt : l.stackTraces = false) (dC : Nat → ClassId) (dI : Nat → Nat → Nat) (sz : Nat) (h0 : Nat) (qb : Nat) (cb : ClassId) (v0 : Nat) (vs : List Value) : Met l yX7_settle wsX7_settle ({ frames := 0, cells := 0, slots := 0, locals := 0 }) (va_Pc [.ref h0, .ref v0] (pk_PreX (dC, dI) [(h0, .inr (7, [.ref qb])), (qb, .inl (cb, 16, .inr (.inr (.inr (.inr (fun _ => none)))))), (v0, .inr (4, vs))] [(cb, .object "KeyAtlas$Body")] sz)) (va_Qi (fun (r : Int32) (_ : Unit) => r = 0) (fun (_ : Unit) (_ : State) => True) (va_A [(h0, .inr (7, [.ref qb])), (qb, .inl (cb, 16, .inr (.inr (.inr (.inr (fun _ => none)))))), (v0, .inr (4, vs))] sz)) 0 0 (va_A [(h0, .inr (7, [.ref qb])), (qb, .inl (cb, 16, .inr (.inr (.inr (.inr (fun _ => none)))))), (v0, .inr (4, vs))] sz) := by
  refine Met.ofW (cc := cX7_settle) (maxL := 3) (ret := (some .int)) (by decide) rfl ?_
  intro p e s m args below meth c s₁ B hml hv
  obtain ⟨rfl, hsz, hP, hK, hD0, hN, hZ⟩ := hv
  have hx := B.exec
  have hb := B.bytes
  have hr := B.returns
  have hts := atoms_spec (ws := wsX7_settle) B.pre
  have hown : s.vm.findClass RX7 = some m.cls := findClass_of_methodNamed B.named
  have hlocks := B.notSynchronized
  subst hsz
  have hD := hD0.self (sz := s.heap.size)
  generalize hAe : va_A [(h0, .inr (7, [.ref qb])), (qb, .inl (cb, 16, .inr (.inr (.inr (.inr (fun _ => none)))))), (v0, .inr (4, vs))] s.heap.size = A at hZ hD ⊢
  have hA : ∀ q : Nat, s.heap.size ≤ q → A q := fun q h => by rw [← hAe]; exact Or.inr h
  have hS : va_S A s.heap s.heap [] := va_S.rf
  have hP : va_P (dC, dI) vwCl [(h0, .inr (7, [.ref qb])), (qb, .inl (cb, 16, .inr (.inr (.inr (.inr (fun _ => none)))))), (v0, .inr (4, vs))] s.heap := hP
  have hl := lv_entry ([.ref h0, .ref v0]) (n := 3) (Nat.le_of_ble_eq_true rfl)
  rw [lg_entry_eq]
  generalize (lg_sl ([.ref h0, .ref v0]) ++ List.replicate (3 - (lg_sl ([.ref h0, .ref v0])).length) Slot.unset).toArray = ls at hl ⊢
  have hl : lv_has ls 3 [(0, .ref h0), (1, .ref v0)] := hl
  have hw0_ := hts (.fieldLink RX7 11 "KeyAtlas" "bodies" "[LKeyAtlas$Body;") (by decide +kernel)
  have hi0_ : ∀ w ∈ u_ws RX7 TX7 1, w ∈ wsX7_settle := by decide +kernel
  refine lv_iconst (v := 0) hx hb dX7_settle_0 (by decide) ?_
  refine lv_istore_n (lv' := [(2, .int 0), (0, .ref h0), (1, .ref v0)]) hx hb dX7_settle_1 rfl hl (by decide) rfl (fun ls hl => ?_)
  refine lv_iload_n hx hb dX7_settle_2 rfl (lv_at hl 0 rfl) ?_
  refine lv_aload_n hx hb dX7_settle_3 rfl (lv_at hl 1 rfl) ?_
  refine va_get (D := (dC, dI)) (ci := 7) (v := .ref qb) (C := RX7) (T := TX7) (N := 1) hx hb hts hi0_ hown hK hP 0 rfl rfl 0 (by decide) hw0_ (fun _ h9 => h9) rfl dX7_settle_4 ?_
  refine va_alen (v := 16) hx hb hK hP 1 0 rfl rfl rfl dX7_settle_7 ?_
  refine lv_icmp_ge (tgt := 35) hx hb dX7_settle_8 (by decide) (fun c_1 => absurd c_1 (by decide)) (fun c_1 => ?_)
  refine lv_aload_n hx hb dX7_settle_11 rfl (lv_at hl 1 rfl) ?_
  refine va_get (D := (dC, dI)) (ci := 7) (v := .ref qb) (C := RX7) (T := TX7) (N := 1) hx hb hts hi0_ hown hK hP 0 rfl rfl 0 (by decide) hw0_ (fun _ h9 => h9) rfl dX7_settle_12 ?_
  refine lv_iload_n hx hb dX7_settle_15 rfl (lv_at hl 0 rfl) ?_
  refine va_aldq (i := 0) hx hb hK hP 1 0 rfl rfl (by unfold vp_in; decide) dX7_settle_16 ?_
  refine W.eq (g2 := F0 m 17 ls [.null]) rfl ?_
  refine lv_ifnonnullN hx hb dX7_settle_17 ?_
  refine lv_aload_n hx hb dX7_settle_20 rfl (lv_at hl 1 rfl) ?_
  refine va_get (D := (dC, dI)) (ci := 7) (v := .ref qb) (C := RX7) (T := TX7) (N := 1) hx hb hts hi0_ hown hK hP 0 rfl rfl 0 (by decide) hw0_ (fun _ h9 => h9) rfl dX7_settle_21 ?_
  refine lv_iload_n hx hb dX7_settle_24 rfl (lv_at hl 0 rfl) ?_
  refine lv_aload_n hx hb dX7_settle_25 rfl (lv_at hl 2 rfl) ?_
  refine va_astqO (i := 0) hx hb hK hP hD hS 1 0 2 4 rfl rfl (r := (RX4, TX4, 5)) (hN.xw (.castable RX4 "KeyAtlas$Body") (by decide +kernel)) rfl rfl (by unfold vp_in; decide) dX7_settle_26 (fun H locs hP hD hS => ?_)
  have hP : va_P (dC, dI) vwCl [(h0, .inr (7, [.ref qb])), (qb, .inl (cb, 16, .inr (.inr (.inr (.inr (va_up (fun _ => none) (0 : Int32).toNatClampNeg (some v0))))))), (v0, .inr (4, vs))] H := hP
  have hD : va_D A [(h0, .inr (7, [.ref qb])), (qb, .inl (cb, 16, .inr (.inr (.inr (.inr (va_up (fun _ => none) (0 : Int32).toNatClampNeg (some v0))))))), (v0, .inr (4, vs))] := hD
  refine lv_iload_n hx hb dX7_settle_27 rfl (lv_at hl 0 rfl) ?_
  refine W.widen (k := 0) (n := 0) (Nat.le_of_ble_eq_true rfl) (Nat.le_of_ble_eq_true rfl) ?_
  exact W.iret (v := 0) hx hb hr (fun t ht hW => ⟨⟨0, (), rfl, rfl, trivial⟩, hS.F ht⟩) hS.2.2 dX7_settle_28
set_option maxHeartbeats 4000000 in
set_option maxRecDepth 100000 in
/-- the first place is free -/
theorem c_X7_settle_X6 (l : Launch) (hlt : l.stackTraces = false) (dC : Nat → ClassId) (dI : Nat → Nat → Nat) (sz : Nat) (h0 : Nat) (qb : Nat) (cb : ClassId) (v0 : Nat) (vs : List Value) : Met l yX7_settle wsX7_settle ({ frames := 0, cells := 0, slots := 0, locals := 0 }) (va_Pc [.ref h0, .ref v0] (pk_PreX (dC, dI) [(h0, .inr (7, [.ref qb])), (qb, .inl (cb, 16, .inr (.inr (.inr (.inr (fun _ => none)))))), (v0, .inr (6, vs))] [(cb, .object "KeyAtlas$Body")] sz)) (va_Qi (fun (r : Int32) (_ : Unit) => r = 0) (fun (_ : Unit) (_ : State) => True) (va_A [(h0, .inr (7, [.ref qb])), (qb, .inl (cb, 16, .inr (.inr (.inr (.inr (fun _ => none)))))), (v0, .inr (6, vs))] sz)) 0 0 (va_A [(h0, .inr (7, [.ref qb])), (qb, .inl (cb, 16, .inr (.inr (.inr (.inr (fun _ => none)))))), (v0, .inr (6, vs))] sz) := by
  refine Met.ofW (cc := cX7_settle) (maxL := 3) (ret := (some .int)) (by decide) rfl ?_
  intro p e s m args below meth c s₁ B hml hv
  obtain ⟨rfl, hsz, hP, hK, hD0, hN, hZ⟩ := hv
  have hx := B.exec
  have hb := B.bytes
  have hr := B.returns
  have hts := atoms_spec (ws := wsX7_settle) B.pre
  have hown : s.vm.findClass RX7 = some m.cls := findClass_of_methodNamed B.named
  have hlocks := B.notSynchronized
  subst hsz
  have hD := hD0.self (sz := s.heap.size)
  generalize hAe : va_A [(h0, .inr (7, [.ref qb])), (qb, .inl (cb, 16, .inr (.inr (.inr (.inr (fun _ => none)))))), (v0, .inr (6, vs))] s.heap.size = A at hZ hD ⊢
  have hA : ∀ q : Nat, s.heap.size ≤ q → A q := fun q h => by rw [← hAe]; exact Or.inr h
  have hS : va_S A s.heap s.heap [] := va_S.rf
  have hP : va_P (dC, dI) vwCl [(h0, .inr (7, [.ref qb])), (qb, .inl (cb, 16, .inr (.inr (.inr (.inr (fun _ => none)))))), (v0, .inr (6, vs))] s.heap := hP
  have hl := lv_entry ([.ref h0, .ref v0]) (n := 3) (Nat.le_of_ble_eq_true rfl)
  rw [lg_entry_eq]
  generalize (lg_sl ([.ref h0, .ref v0]) ++ List.replicate (3 - (lg_sl ([.ref h0, .ref v0])).length) Slot.unset).toArray = ls at hl ⊢
  have hl : lv_has ls 3 [(0, .ref h0), (1, .ref v0)] := hl
  have hw0_ := hts (.fieldLink RX7 11 "KeyAtlas" "bodies" "[LKeyAtlas$Body;") (by decide +kernel)
  have hi0_ : ∀ w ∈ u_ws RX7 TX7 1, w ∈ wsX7_settle := by decide +kernel
  refine lv_iconst (v := 0) hx hb dX7_settle_0 (by decide) ?_
  refine lv_istore_n (lv' := [(2, .int 0), (0, .ref h0), (1, .ref v0)]) hx hb dX7_settle_1 rfl hl (by decide) rfl (fun ls hl => ?_)
  refine lv_iload_n hx hb dX7_settle_2 rfl (lv_at hl 0 rfl) ?_
  refine lv_aload_n hx hb dX7_settle_3 rfl (lv_at hl 1 rfl) ?_
  refine va_get (D := (dC, dI)) (ci := 7) (v := .ref qb) (C := RX7) (T := TX7) (N := 1) hx hb hts hi0_ hown hK hP 0 rfl rfl 0 (by decide) hw0_ (fun _ h9 => h9) rfl dX7_settle_4 ?_
  refine va_alen (v := 16) hx hb hK hP 1 0 rfl rfl rfl dX7_settle_7 ?_
  refine lv_icmp_ge (tgt := 35) hx hb dX7_settle_8 (by decide) (fun c_1 => absurd c_1 (by decide)) (fun c_1 => ?_)
  refine lv_aload_n hx hb dX7_settle_11 rfl (lv_at hl 1 rfl) ?_
  refine va_get (D := (dC, dI)) (ci := 7) (v := .ref qb) (C := RX7) (T := TX7) (N := 1) hx hb hts hi0_ hown hK hP 0 rfl rfl 0 (by decide) hw0_ (fun _ h9 => h9) rfl dX7_settle_12 ?_
  refine lv_iload_n hx hb dX7_settle_15 rfl (lv_at hl 0 rfl) ?_
  refine va_aldq (i := 0) hx hb hK hP 1 0 rfl rfl (by unfold vp_in; decide) dX7_settle_16 ?_
  refine W.eq (g2 := F0 m 17 ls [.null]) rfl ?_
  refine lv_ifnonnullN hx hb dX7_settle_17 ?_
  refine lv_aload_n hx hb dX7_settle_20 rfl (lv_at hl 1 rfl) ?_
  refine va_get (D := (dC, dI)) (ci := 7) (v := .ref qb) (C := RX7) (T := TX7) (N := 1) hx hb hts hi0_ hown hK hP 0 rfl rfl 0 (by decide) hw0_ (fun _ h9 => h9) rfl dX7_settle_21 ?_
  refine lv_iload_n hx hb dX7_settle_24 rfl (lv_at hl 0 rfl) ?_
  refine lv_aload_n hx hb dX7_settle_25 rfl (lv_at hl 2 rfl) ?_
  refine va_astqO (i := 0) hx hb hK hP hD hS 1 0 2 6 rfl rfl (r := (RX6, TX6, 7)) (hN.xw (.castable RX6 "KeyAtlas$Body") (by decide +kernel)) rfl rfl (by unfold vp_in; decide) dX7_settle_26 (fun H locs hP hD hS => ?_)
  have hP : va_P (dC, dI) vwCl [(h0, .inr (7, [.ref qb])), (qb, .inl (cb, 16, .inr (.inr (.inr (.inr (va_up (fun _ => none) (0 : Int32).toNatClampNeg (some v0))))))), (v0, .inr (6, vs))] H := hP
  have hD : va_D A [(h0, .inr (7, [.ref qb])), (qb, .inl (cb, 16, .inr (.inr (.inr (.inr (va_up (fun _ => none) (0 : Int32).toNatClampNeg (some v0))))))), (v0, .inr (6, vs))] := hD
  refine lv_iload_n hx hb dX7_settle_27 rfl (lv_at hl 0 rfl) ?_
  refine W.widen (k := 0) (n := 0) (Nat.le_of_ble_eq_true rfl) (Nat.le_of_ble_eq_true rfl) ?_
  exact W.iret (v := 0) hx hb hr (fun t ht hW => ⟨⟨0, (), rfl, rfl, trivial⟩, hS.F ht⟩) hS.2.2 dX7_settle_28
end
section
set_option maxHeartbeats 4000000 in
set_option maxRecDepth 100000 in
/-- make, fresh -/
theorem c_X7_make (l : Launch) (hlt : l.stackTraces = false) (dC : Nat → ClassId) (dI : Nat → Nat → Nat) (sz : Nat) (h0 : Nat) (qb : Nat) (cb : ClassId) (p0 : Int32) (p1 : Int32) (p2 : Int32) : vx_Met l yX7_make wsN_make ({ frames := 6, cells := 6, slots := 49, locals := 130 }) (va_Pc [.ref h0, .int p0, .int p1, .int p2] (pk_PreX (dC, dI) [(h0, .inr (7, [.ref qb])), (qb, .inl (cb, 16, .inr (.inr (.inr (.inr (fun _ => none))))))] [(cb, .object "KeyAtlas$Body")] sz)) (va_Qi (fun (r : Int32) (_ : Unit) => r = 0 ∧ mkIs p0 p1 p2 0) (fun (_ : Unit) (_ : State) => True) (va_A [(h0, .inr (7, [.ref qb])), (qb, .inl (cb, 16, .inr (.inr (.inr (.inr (fun _ => none))))))] sz)) (vx_X (fun _ : Unit => True) (fun (E : String) (_ : Unit) (_ : State) => (E = "java/lang/IllegalArgumentException" ∧ mkIs p0 p1 p2 1) ∨ (E = "java/lang/NegativeArraySizeException" ∧ mkIs p0 p1 p2 3)) (va_A [(h0, .inr (7, [.ref qb])), (qb, .inl (cb, 16, .inr (.inr (.inr (.inr (fun _ => none))))))] sz)) 6 49 (va_A [(h0, .inr (7, [.ref qb])), (qb, .inl (cb, 16, .inr (.inr (.inr (.inr (fun _ => none))))))] sz) := by
  refine vx_ofW (cc := cX7_make) (maxL := 4) (ret := (some .int)) (by decide) rfl ?_
  intro p e s m args below meth c s₁ B hml htab hv
  obtain ⟨rfl, hsz, hP, hK, hD0, hN, hZ⟩ := hv
  have hx := B.exec
  have hb := B.bytes
  have hr := B.returns
  have hts := atoms_spec (ws := wsN_make) B.pre
  have hown : s.vm.findClass RX7 = some m.cls := findClass_of_methodNamed B.named
  have hlocks := B.notSynchronized
  subst hsz
  have hD := hD0.self (sz := s.heap.size)
  generalize hAe : va_A [(h0, .inr (7, [.ref qb])), (qb, .inl (cb, 16, .inr (.inr (.inr (.inr (fun _ => none))))))] s.heap.size = A at hZ hD ⊢
  have hA : ∀ q : Nat, s.heap.size ≤ q → A q := fun q h => by rw [← hAe]; exact Or.inr h
  have hS : va_S A s.heap s.heap [] := va_S.rf
  have hP : va_P (dC, dI) vwCl [(h0, .inr (7, [.ref qb])), (qb, .inl (cb, 16, .inr (.inr (.inr (.inr (fun _ => none))))))] s.heap := hP
  have hl := lv_entry ([.ref h0, .int p0, .int p1, .int p2]) (n := 4) (Nat.le_of_ble_eq_true rfl)
  rw [lg_entry_eq]
  generalize (lg_sl ([.ref h0, .int p0, .int p1, .int p2]) ++ List.replicate (4 - (lg_sl ([.ref h0, .int p0, .int p1, .int p2])).length) Slot.unset).toArray = ls at hl ⊢
  have hl : lv_has ls 4 [(0, .ref h0), (1, .int p0), (2, .int p1), (3, .int p2)] := hl
  have hw0_ := hts (.classLink RX7 15 "java/lang/IllegalArgumentException") (by decide +kernel)
  have hw1_ := hts (.initialized "java/lang/IllegalArgumentException") (by decide +kernel)
  have hw2_ := hts (.classLink RX7 22 "java/lang/NegativeArraySizeException") (by decide +kernel)
  have hw3_ := hts (.initialized "java/lang/NegativeArraySizeException") (by decide +kernel)
  refine lv_iload_n hx hb dX7_make_0 rfl (lv_at hl 1 rfl) ?_
  refine lv_if_lt (tgt := 9) hx hb dX7_make_1 (by decide) (fun c_1 => ?_) (fun c_1 => ?_)
  ·
    have ic_1 : p0.toInt < 0 := tx_lt rfl (by decide) c_1
    obtain ⟨sa, hsa⟩ := hN.stX7_17
    exact vx_throwS hx hb hlt (own := RX7) (cls := "java/lang/IllegalArgumentException") (text := "no such kind") (names := ["java/lang/RuntimeException", "java/lang/Exception"]) hown (by decide +kernel) (by decide +kernel) hw0_ hw1_ hsa (tx_hat hN.xw (fun w h => hts w (at_X7_make_9 w h)) ng_RX7_19) og_RX7_19 hZ.1 hZ.2 hS (by rw [hml]; exact hl.1) dX7_make_9 dX7_make_12 dX7_make_13 dX7_make_15 dX7_make_18 (fun x hx9 => (htab x hx9).elim) (by decide) (by decide) (Nat.le_of_ble_eq_true rfl) (Nat.le_of_ble_eq_true rfl) hlocks (fun t hvm hz hq => ⟨(), trivial, Or.inl ⟨rfl, by unfold mkIs; omega⟩, ⟨Nat.le_trans hS.1 hz, fun q h1 h2 => (hq q (Nat.lt_of_lt_of_le h1 hS.1)).trans (hS.2.1 q h1 h2)⟩⟩) hS.2.2 (Nat.le_of_ble_eq_true rfl) (Nat.le_of_ble_eq_true rfl)
  ·
    have ic_1 : 0 ≤ p0.toInt := tx_nlt rfl (by decide) c_1
    refine lv_iload_n hx hb dX7_make_4 rfl (lv_at hl 1 rfl) ?_
    refine lv_iconst (v := 2) hx hb dX7_make_5 (by decide) ?_
    refine lv_icmp_le (tgt := 19) hx hb dX7_make_6 (by decide) (fun c_2 => ?_) (fun c_2 => ?_)
    ·
      have ic_2 : p0.toInt ≤ 2 := tx_le rfl (by decide) c_2
      refine lv_iload_n hx hb dX7_make_19 rfl (lv_at hl 1 rfl) ?_
      refine lv_if_ne (tgt := 37) hx hb dX7_make_20 (by decide) (fun c_3 => ?_) (fun c_3 => ?_)
      ·
        have ic_3 : ¬ p0.toInt = 0 := tx_ne rfl (by decide) c_3
        refine lv_iload_n hx hb dX7_make_37 rfl (lv_at hl 1 rfl) ?_
        refine lv_iload_n hx hb dX7_make_38 rfl (lv_at hl 2 rfl) ?_
        refine lv_iload_n hx hb dX7_make_39 rfl (lv_at hl 3 rfl) ?_
        have hPc := hP.sub (ws' := []) [] rfl
        have hDc := hD.sub (ws' := []) [] (by decide) rfl
        have hKc := hK.sub (tys' := []) [] rfl
        have hFc := va_free (wc := []) hD hS hA [] rfl
        refine va_calli (va_runS (As := [.int p0, .int p1, .int p2]) (rest := []) ⟨hx, hb, hml, hown, hts⟩ (c_X7_areInRange l  dC dI s.heap.size p0 p1 p2) (va_cwS 3 hts gN_make_areInRange rfl rfl rfl (by decide +kernel) ⟨(Nat.le_of_ble_eq_true rfl), (Nat.le_of_ble_eq_true rfl)⟩) ⟨pk_blind, pk_call hPc hKc hDc⟩ rfl rfl hl.1 rfl (lv_room (Nat.le_of_ble_eq_true rfl)) dX7_make_40 ⟨(Nat.le_of_ble_eq_true rfl), (Nat.le_of_ble_eq_true rfl)⟩) hS (fun q _ h => hFc q h) hFc (fun r_4 ur_4 t H1 locs ht hvm hw hB hz1 hk1 hS => ?_)
        try dsimp only at hw
        have jr_4 := hw
        obtain ⟨hP, hD⟩ := va_join (wr := [(h0, .inr (7, [.ref qb])), (qb, .inl (cb, 16, .inr (.inr (.inr (.inr (fun _ => none))))))]) (w1 := []) hP hD [] [0, 1] rfl rfl (by decide) (by decide) hk1 hFc tx_P0 tx_D0
        clear hk1 hz1 ht hPc hDc hKc
        generalize H1 = H at hP hS ⊢
        have hP : va_P (dC, dI) vwCl [(h0, .inr (7, [.ref qb])), (qb, .inl (cb, 16, .inr (.inr (.inr (.inr (fun _ => none))))))] H := hP
        have hD : va_D A [(h0, .inr (7, [.ref qb])), (qb, .inl (cb, 16, .inr (.inr (.inr (.inr (fun _ => none))))))] := hD
        refine W.widen (k := 0) (n := 0) (Nat.le_of_ble_eq_true rfl) (Nat.le_of_ble_eq_true rfl) ?_
        refine W.eq (g2 := F0 m 43 ls [.int r_4]) rfl ?_
        refine lv_if_ne (tgt := 56) hx hb dX7_make_43 (by decide) (fun c_5 => ?_) (fun c_5 => ?_)
        ·
          have ic_5 : ¬ r_4.toInt = 0 := tx_ne rfl (by decide) c_5
          refine lv_aload_n hx hb dX7_make_56 rfl (lv_at hl 0 rfl) ?_
          refine lv_iload_n hx hb dX7_make_57 rfl (lv_at hl 1 rfl) ?_
          refine lv_iload_n hx hb dX7_make_58 rfl (lv_at hl 2 rfl) ?_
          refine lv_iload_n hx hb dX7_make_59 rfl (lv_at hl 3 rfl) ?_
          have hPc := hP.sub (ws' := []) [] rfl
          have hDc := hD.sub (ws' := []) [] (by decide) rfl
          have hKc := hK.sub (tys' := []) [] rfl
          have hFc := va_free (wc := []) hD hS hA [] rfl
          have hZc := (hZ.kept hS.2.1).narrow hFc
          refine va_callr (va_runS (As := [.int p0, .int p1, .int p2]) (rest := [.ref h0]) ⟨hx, hb, hml, hown, hts⟩ (c_X7_newMap l hlt dC dI H.size p0 p1 p2) (va_cwS 3 hts gN_make_newMap rfl rfl rfl (by decide +kernel) ⟨(Nat.le_of_ble_eq_true rfl), (Nat.le_of_ble_eq_true rfl)⟩) ⟨pk_blindX, pk_callX hPc hKc hDc hN hZc⟩ rfl rfl hl.1 rfl (lv_room (Nat.le_of_ble_eq_true rfl)) dX7_make_60 ⟨(Nat.le_of_ble_eq_true rfl), (Nat.le_of_ble_eq_true rfl)⟩) hS (fun q _ h => hFc q h) hFc (fun ur_6 r_6 t H1 locs ht hvm hw hB hz1 hk1 hS => ?_)
          try dsimp only at hw
          have jr_6 := hw
          have jur_6 := hw
          obtain ⟨hP1, hK1, hD1⟩ := hB
          rw [ht] at hP1
          have hK1 := va_K.moved hvm.symm hK1
          obtain ⟨hP, hD⟩ := va_join (wr := [(h0, .inr (7, [.ref qb])), (qb, .inl (cb, 16, .inr (.inr (.inr (.inr (fun _ => none))))))]) (w1 := [(r_6, .inr (ur_6.1, ur_6.2))]) hP hD [] [0, 1] rfl rfl (by decide) (by decide) hk1 hFc hP1 hD1
          clear hk1 hz1 ht hPc hDc hKc
          generalize H1 = H at hP hS ⊢
          have hP : va_P (dC, dI) vwCl [(h0, .inr (7, [.ref qb])), (qb, .inl (cb, 16, .inr (.inr (.inr (.inr (fun _ => none)))))), (r_6, .inr (ur_6.1, ur_6.2))] H := hP
          have hD : va_D A [(h0, .inr (7, [.ref qb])), (qb, .inl (cb, 16, .inr (.inr (.inr (.inr (fun _ => none)))))), (r_6, .inr (ur_6.1, ur_6.2))] := hD
          refine W.widen (k := 5) (n := 43) (Nat.le_of_ble_eq_true rfl) (Nat.le_of_ble_eq_true rfl) ?_
          refine W.eq (g2 := F0 m 63 ls [.ref r_6, .ref h0]) rfl ?_
          rcases jur_6 with er_6 | er_6 | er_6
          ·
            rw [er_6] at hP hD
            have hP : va_P (dC, dI) vwCl [(h0, .inr (7, [.ref qb])), (qb, .inl (cb, 16, .inr (.inr (.inr (.inr (fun _ => none)))))), (r_6, .inr (3, ur_6.2))] H := hP
            have hD : va_D A [(h0, .inr (7, [.ref qb])), (qb, .inl (cb, 16, .inr (.inr (.inr (.inr (fun _ => none)))))), (r_6, .inr (3, ur_6.2))] := hD
            have hPc := hP.sub (ws' := [(h0, .inr (7, [.ref qb])), (qb, .inl (cb, 16, .inr (.inr (.inr (.inr (fun _ => none)))))), (r_6, .inr (3, ur_6.2))]) [0, 1, 2] rfl
            have hDc := hD.sub (ws' := [(h0, .inr (7, [.ref qb])), (qb, .inl (cb, 16, .inr (.inr (.inr (.inr (fun _ => none)))))), (r_6, .inr (3, ur_6.2))]) [0, 1, 2] (by decide) rfl
            have hKc := hK.sub (tys' := [(cb, .object "KeyAtlas$Body")]) [0] rfl
            have hFc := va_free (wc := [(h0, .inr (7, [.ref qb])), (qb, .inl (cb, 16, .inr (.inr (.inr (.inr (fun _ => none)))))), (r_6, .inr (3, ur_6.2))]) hD hS hA [0, 1, 2] rfl
            have hZc := (hZ.kept hS.2.1).narrow hFc
            refine va_calli (va_runV (As := [.ref r_6]) (rest := []) ⟨hx, hb, hml, hown, hts⟩ (c_X7_settle_X2 l hlt dC dI H.size h0 qb cb r_6 ur_6.2) (cwV 1 hts gN_make_settle rfl rfl rfl (by decide +kernel) ⟨(Nat.le_of_ble_eq_true rfl), (Nat.le_of_ble_eq_true rfl)⟩) ⟨pk_blindX, va_recv hKc hPc (ci := 7) (q0 := 0) rfl rfl, pk_callX hPc hKc hDc hN hZc⟩ rfl rfl hl.1 rfl (lv_room (Nat.le_of_ble_eq_true rfl)) dX7_make_63 ⟨(Nat.le_of_ble_eq_true rfl), (Nat.le_of_ble_eq_true rfl)⟩) hS (fun q _ h => hFc q h) hFc (fun r_7 ur_7 t H1 locs ht hvm hw hB hz1 hk1 hS => ?_)
            try dsimp only at hw
            have jr_7 := hw
            obtain ⟨hP, hD⟩ := va_join (wr := []) (w1 := []) hP hD [0, 1, 2] [] rfl rfl (by decide) (by decide) hk1 hFc tx_P0 tx_D0
            clear hk1 hz1 ht hPc hDc hKc
            generalize H1 = H at hP hS ⊢
            have hP : va_P (dC, dI) vwCl [] H := hP
            have hD : va_D A [] := hD
            refine W.widen (k := 5) (n := 43) (Nat.le_of_ble_eq_true rfl) (Nat.le_of_ble_eq_true rfl) ?_
            refine W.eq (g2 := F0 m 66 ls [.int r_7]) rfl ?_
            refine W.widen (k := 6) (n := 49) (Nat.le_of_ble_eq_true rfl) (Nat.le_of_ble_eq_true rfl) ?_
            refine vx_ret ?_
            exact W.iret (v := r_7) hx hb hr (fun t ht hW => ⟨⟨r_7, (), rfl, ⟨jr_7, by unfold mkIs; unfold mkRng at *; omega⟩, trivial⟩, hS.F ht⟩) hS.2.2 dX7_make_66
          ·
            rw [er_6] at hP hD
            have hP : va_P (dC, dI) vwCl [(h0, .inr (7, [.ref qb])), (qb, .inl (cb, 16, .inr (.inr (.inr (.inr (fun _ => none)))))), (r_6, .inr (4, ur_6.2))] H := hP
            have hD : va_D A [(h0, .inr (7, [.ref qb])), (qb, .inl (cb, 16, .inr (.inr (.inr (.inr (fun _ => none)))))), (r_6, .inr (4, ur_6.2))] := hD
            have hPc := hP.sub (ws' := [(h0, .inr (7, [.ref qb])), (qb, .inl (cb, 16, .inr (.inr (.inr (.inr (fun _ => none)))))), (r_6, .inr (4, ur_6.2))]) [0, 1, 2] rfl
            have hDc := hD.sub (ws' := [(h0, .inr (7, [.ref qb])), (qb, .inl (cb, 16, .inr (.inr (.inr (.inr (fun _ => none)))))), (r_6, .inr (4, ur_6.2))]) [0, 1, 2] (by decide) rfl
            have hKc := hK.sub (tys' := [(cb, .object "KeyAtlas$Body")]) [0] rfl
            have hFc := va_free (wc := [(h0, .inr (7, [.ref qb])), (qb, .inl (cb, 16, .inr (.inr (.inr (.inr (fun _ => none)))))), (r_6, .inr (4, ur_6.2))]) hD hS hA [0, 1, 2] rfl
            have hZc := (hZ.kept hS.2.1).narrow hFc
            refine va_calli (va_runV (As := [.ref r_6]) (rest := []) ⟨hx, hb, hml, hown, hts⟩ (c_X7_settle_X4 l hlt dC dI H.size h0 qb cb r_6 ur_6.2) (cwV 1 hts gN_make_settle rfl rfl rfl (by decide +kernel) ⟨(Nat.le_of_ble_eq_true rfl), (Nat.le_of_ble_eq_true rfl)⟩) ⟨pk_blindX, va_recv hKc hPc (ci := 7) (q0 := 0) rfl rfl, pk_callX hPc hKc hDc hN hZc⟩ rfl rfl hl.1 rfl (lv_room (Nat.le_of_ble_eq_true rfl)) dX7_make_63 ⟨(Nat.le_of_ble_eq_true rfl), (Nat.le_of_ble_eq_true rfl)⟩) hS (fun q _ h => hFc q h) hFc (fun r_8 ur_8 t H1 locs ht hvm hw hB hz1 hk1 hS => ?_)
            try dsimp only at hw
            have jr_8 := hw
            obtain ⟨hP, hD⟩ := va_join (wr := []) (w1 := []) hP hD [0, 1, 2] [] rfl rfl (by decide) (by decide) hk1 hFc tx_P0 tx_D0
            clear hk1 hz1 ht hPc hDc hKc
            generalize H1 = H at hP hS ⊢
            have hP : va_P (dC, dI) vwCl [] H := hP
            have hD : va_D A [] := hD
            refine W.widen (k := 5) (n := 43) (Nat.le_of_ble_eq_true rfl) (Nat.le_of_ble_eq_true rfl) ?_
            refine W.eq (g2 := F0 m 66 ls [.int r_8]) rfl ?_
            refine W.widen (k := 6) (n := 49) (Nat.le_of_ble_eq_true rfl) (Nat.le_of_ble_eq_true rfl) ?_
            refine vx_ret ?_
            exact W.iret (v := r_8) hx hb hr (fun t ht hW => ⟨⟨r_8, (), rfl, ⟨jr_8, by unfold mkIs; unfold mkRng at *; omega⟩, trivial⟩, hS.F ht⟩) hS.2.2 dX7_make_66
          ·
            rw [er_6] at hP hD
            have hP : va_P (dC, dI) vwCl [(h0, .inr (7, [.ref qb])), (qb, .inl (cb, 16, .inr (.inr (.inr (.inr (fun _ => none)))))), (r_6, .inr (6, ur_6.2))] H := hP
            have hD : va_D A [(h0, .inr (7, [.ref qb])), (qb, .inl (cb, 16, .inr (.inr (.inr (.inr (fun _ => none)))))), (r_6, .inr (6, ur_6.2))] := hD
            have hPc := hP.sub (ws' := [(h0, .inr (7, [.ref qb])), (qb, .inl (cb, 16, .inr (.inr (.inr (.inr (fun _ => none)))))), (r_6, .inr (6, ur_6.2))]) [0, 1, 2] rfl
            have hDc := hD.sub (ws' := [(h0, .inr (7, [.ref qb])), (qb, .inl (cb, 16, .inr (.inr (.inr (.inr (fun _ => none)))))), (r_6, .inr (6, ur_6.2))]) [0, 1, 2] (by decide) rfl
            have hKc := hK.sub (tys' := [(cb, .object "KeyAtlas$Body")]) [0] rfl
            have hFc := va_free (wc := [(h0, .inr (7, [.ref qb])), (qb, .inl (cb, 16, .inr (.inr (.inr (.inr (fun _ => none)))))), (r_6, .inr (6, ur_6.2))]) hD hS hA [0, 1, 2] rfl
            have hZc := (hZ.kept hS.2.1).narrow hFc
            refine va_calli (va_runV (As := [.ref r_6]) (rest := []) ⟨hx, hb, hml, hown, hts⟩ (c_X7_settle_X6 l hlt dC dI H.size h0 qb cb r_6 ur_6.2) (cwV 1 hts gN_make_settle rfl rfl rfl (by decide +kernel) ⟨(Nat.le_of_ble_eq_true rfl), (Nat.le_of_ble_eq_true rfl)⟩) ⟨pk_blindX, va_recv hKc hPc (ci := 7) (q0 := 0) rfl rfl, pk_callX hPc hKc hDc hN hZc⟩ rfl rfl hl.1 rfl (lv_room (Nat.le_of_ble_eq_true rfl)) dX7_make_63 ⟨(Nat.le_of_ble_eq_true rfl), (Nat.le_of_ble_eq_true rfl)⟩) hS (fun q _ h => hFc q h) hFc (fun r_9 ur_9 t H1 locs ht hvm hw hB hz1 hk1 hS => ?_)
            try dsimp only at hw
            have jr_9 := hw
            obtain ⟨hP, hD⟩ := va_join (wr := []) (w1 := []) hP hD [0, 1, 2] [] rfl rfl (by decide) (by decide) hk1 hFc tx_P0 tx_D0
            clear hk1 hz1 ht hPc hDc hKc
            generalize H1 = H at hP hS ⊢
            have hP : va_P (dC, dI) vwCl [] H := hP
            have hD : va_D A [] := hD
            refine W.widen (k := 5) (n := 43) (Nat.le_of_ble_eq_true rfl) (Nat.le_of_ble_eq_true rfl) ?_
            refine W.eq (g2 := F0 m 66 ls [.int r_9]) rfl ?_
            refine W.widen (k := 6) (n := 49) (Nat.le_of_ble_eq_true rfl) (Nat.le_of_ble_eq_true rfl) ?_
            refine vx_ret ?_
            exact W.iret (v := r_9) hx hb hr (fun t ht hW => ⟨⟨r_9, (), rfl, ⟨jr_9, by unfold mkIs; unfold mkRng at *; omega⟩, trivial⟩, hS.F ht⟩) hS.2.2 dX7_make_66
        ·
          have ic_5 : r_4.toInt = 0 := tx_eq rfl (by decide) c_5
          obtain ⟨sa, hsa⟩ := hN.stX7_31
          exact vx_throwS hx hb hlt (own := RX7) (cls := "java/lang/IllegalArgumentException") (text := "a or b out of range") (names := ["java/lang/RuntimeException", "java/lang/Exception"]) hown (by decide +kernel) (by decide +kernel) hw0_ hw1_ hsa (tx_hat hN.xw (fun w h => hts w (at_X7_make_46 w h)) ng_RX7_19) og_RX7_19 hZ.1 hZ.2 hS (by rw [hml]; exact hl.1) dX7_make_46 dX7_make_49 dX7_make_50 dX7_make_52 dX7_make_55 (fun x hx9 => (htab x hx9).elim) (by decide) (by decide) (Nat.le_of_ble_eq_true rfl) (Nat.le_of_ble_eq_true rfl) hlocks (fun t hvm hz hq => ⟨(), trivial, Or.inl ⟨rfl, by unfold mkIs; unfold mkRng at *; omega⟩, ⟨Nat.le_trans hS.1 hz, fun q h1 h2 => (hq q (Nat.lt_of_lt_of_le h1 hS.1)).trans (hS.2.1 q h1 h2)⟩⟩) hS.2.2 (Nat.le_of_ble_eq_true rfl) (Nat.le_of_ble_eq_true rfl)
      ·
        have ic_3 : p0.toInt = 0 := tx_eq rfl (by decide) c_3
        refine lv_iload_n hx hb dX7_make_23 rfl (lv_at hl 2 rfl) ?_
        refine lv_if_ge (tgt := 37) hx hb dX7_make_24 (by decide) (fun c_10 => ?_) (fun c_10 => ?_)
        ·
          have ic_10 : 0 ≤ p1.toInt := tx_le (by decide) rfl c_10
          refine lv_iload_n hx hb dX7_make_37 rfl (lv_at hl 1 rfl) ?_
          refine lv_iload_n hx hb dX7_make_38 rfl (lv_at hl 2 rfl) ?_
          refine lv_iload_n hx hb dX7_make_39 rfl (lv_at hl 3 rfl) ?_
          have hPc := hP.sub (ws' := []) [] rfl
          have hDc := hD.sub (ws' := []) [] (by decide) rfl
          have hKc := hK.sub (tys' := []) [] rfl
          have hFc := va_free (wc := []) hD hS hA [] rfl
          refine va_calli (va_runS (As := [.int p0, .int p1, .int p2]) (rest := []) ⟨hx, hb, hml, hown, hts⟩ (c_X7_areInRange l  dC dI s.heap.size p0 p1 p2) (va_cwS 3 hts gN_make_areInRange rfl rfl rfl (by decide +kernel) ⟨(Nat.le_of_ble_eq_true rfl), (Nat.le_of_ble_eq_true rfl)⟩) ⟨pk_blind, pk_call hPc hKc hDc⟩ rfl rfl hl.1 rfl (lv_room (Nat.le_of_ble_eq_true rfl)) dX7_make_40 ⟨(Nat.le_of_ble_eq_true rfl), (Nat.le_of_ble_eq_true rfl)⟩) hS (fun q _ h => hFc q h) hFc (fun r_11 ur_11 t H1 locs ht hvm hw hB hz1 hk1 hS => ?_)
          try dsimp only at hw
          have jr_11 := hw
          obtain ⟨hP, hD⟩ := va_join (wr := [(h0, .inr (7, [.ref qb])), (qb, .inl (cb, 16, .inr (.inr (.inr (.inr (fun _ => none))))))]) (w1 := []) hP hD [] [0, 1] rfl rfl (by decide) (by decide) hk1 hFc tx_P0 tx_D0
          clear hk1 hz1 ht hPc hDc hKc
          generalize H1 = H at hP hS ⊢
          have hP : va_P (dC, dI) vwCl [(h0, .inr (7, [.ref qb])), (qb, .inl (cb, 16, .inr (.inr (.inr (.inr (fun _ => none))))))] H := hP
          have hD : va_D A [(h0, .inr (7, [.ref qb])), (qb, .inl (cb, 16, .inr (.inr (.inr (.inr (fun _ => none))))))] := hD
          refine W.widen (k := 0) (n := 0) (Nat.le_of_ble_eq_true rfl) (Nat.le_of_ble_eq_true rfl) ?_
          refine W.eq (g2 := F0 m 43 ls [.int r_11]) rfl ?_
          refine lv_if_ne (tgt := 56) hx hb dX7_make_43 (by decide) (fun c_12 => ?_) (fun c_12 => ?_)
          ·
            have ic_12 : ¬ r_11.toInt = 0 := tx_ne rfl (by decide) c_12
            refine lv_aload_n hx hb dX7_make_56 rfl (lv_at hl 0 rfl) ?_
            refine lv_iload_n hx hb dX7_make_57 rfl (lv_at hl 1 rfl) ?_
            refine lv_iload_n hx hb dX7_make_58 rfl (lv_at hl 2 rfl) ?_
            refine lv_iload_n hx hb dX7_make_59 rfl (lv_at hl 3 rfl) ?_
            have hPc := hP.sub (ws' := []) [] rfl
            have hDc := hD.sub (ws' := []) [] (by decide) rfl
            have hKc := hK.sub (tys' := []) [] rfl
            have hFc := va_free (wc := []) hD hS hA [] rfl
            have hZc := (hZ.kept hS.2.1).narrow hFc
            refine va_callr (va_runS (As := [.int p0, .int p1, .int p2]) (rest := [.ref h0]) ⟨hx, hb, hml, hown, hts⟩ (c_X7_newMap l hlt dC dI H.size p0 p1 p2) (va_cwS 3 hts gN_make_newMap rfl rfl rfl (by decide +kernel) ⟨(Nat.le_of_ble_eq_true rfl), (Nat.le_of_ble_eq_true rfl)⟩) ⟨pk_blindX, pk_callX hPc hKc hDc hN hZc⟩ rfl rfl hl.1 rfl (lv_room (Nat.le_of_ble_eq_true rfl)) dX7_make_60 ⟨(Nat.le_of_ble_eq_true rfl), (Nat.le_of_ble_eq_true rfl)⟩) hS (fun q _ h => hFc q h) hFc (fun ur_13 r_13 t H1 locs ht hvm hw hB hz1 hk1 hS => ?_)
            try dsimp only at hw
            have jr_13 := hw
            have jur_13 := hw
            obtain ⟨hP1, hK1, hD1⟩ := hB
            rw [ht] at hP1
            have hK1 := va_K.moved hvm.symm hK1
            obtain ⟨hP, hD⟩ := va_join (wr := [(h0, .inr (7, [.ref qb])), (qb, .inl (cb, 16, .inr (.inr (.inr (.inr (fun _ => none))))))]) (w1 := [(r_13, .inr (ur_13.1, ur_13.2))]) hP hD [] [0, 1] rfl rfl (by decide) (by decide) hk1 hFc hP1 hD1
            clear hk1 hz1 ht hPc hDc hKc
            generalize H1 = H at hP hS ⊢
            have hP : va_P (dC, dI) vwCl [(h0, .inr (7, [.ref qb])), (qb, .inl (cb, 16, .inr (.inr (.inr (.inr (fun _ => none)))))), (r_13, .inr (ur_13.1, ur_13.2))] H := hP
            have hD : va_D A [(h0, .inr (7, [.ref qb])), (qb, .inl (cb, 16, .inr (.inr (.inr (.inr (fun _ => none)))))), (r_13, .inr (ur_13.1, ur_13.2))] := hD
            refine W.widen (k := 5) (n := 43) (Nat.le_of_ble_eq_true rfl) (Nat.le_of_ble_eq_true rfl) ?_
            refine W.eq (g2 := F0 m 63 ls [.ref r_13, .ref h0]) rfl ?_
            rcases jur_13 with er_13 | er_13 | er_13
            ·
              rw [er_13] at hP hD
              have hP : va_P (dC, dI) vwCl [(h0, .inr (7, [.ref qb])), (qb, .inl (cb, 16, .inr (.inr (.inr (.inr (fun _ => none)))))), (r_13, .inr (3, ur_13.2))] H := hP
              have hD : va_D A [(h0, .inr (7, [.ref qb])), (qb, .inl (cb, 16, .inr (.inr (.inr (.inr (fun _ => none)))))), (r_13, .inr (3, ur_13.2))] := hD
              have hPc := hP.sub (ws' := [(h0, .inr (7, [.ref qb])), (qb, .inl (cb, 16, .inr (.inr (.inr (.inr (fun _ => none)))))), (r_13, .inr (3, ur_13.2))]) [0, 1, 2] rfl
              have hDc := hD.sub (ws' := [(h0, .inr (7, [.ref qb])), (qb, .inl (cb, 16, .inr (.inr (.inr (.inr (fun _ => none)))))), (r_13, .inr (3, ur_13.2))]) [0, 1, 2] (by decide) rfl
              have hKc := hK.sub (tys' := [(cb, .object "KeyAtlas$Body")]) [0] rfl
              have hFc := va_free (wc := [(h0, .inr (7, [.ref qb])), (qb, .inl (cb, 16, .inr (.inr (.inr (.inr (fun _ => none)))))), (r_13, .inr (3, ur_13.2))]) hD hS hA [0, 1, 2] rfl
              have hZc := (hZ.kept hS.2.1).narrow hFc
              refine va_calli (va_runV (As := [.ref r_13]) (rest := []) ⟨hx, hb, hml, hown, hts⟩ (c_X7_settle_X2 l hlt dC dI H.size h0 qb cb r_13 ur_13.2) (cwV 1 hts gN_make_settle rfl rfl rfl (by decide +kernel) ⟨(Nat.le_of_ble_eq_true rfl), (Nat.le_of_ble_eq_true rfl)⟩) ⟨pk_blindX, va_recv hKc hPc (ci := 7) (q0 := 0) rfl rfl, pk_callX hPc hKc hDc hN hZc⟩ rfl rfl hl.1 rfl (lv_room (Nat.le_of_ble_eq_true rfl)) dX7_make_63 ⟨(Nat.le_of_ble_eq_true rfl), (Nat.le_of_ble_eq_true rfl)⟩) hS (fun q _ h => hFc q h) hFc (fun r_14 ur_14 t H1 locs ht hvm hw hB hz1 hk1 hS => ?_)
              try dsimp only at hw
              have jr_14 := hw
              obtain ⟨hP, hD⟩ := va_join (wr := []) (w1 := []) hP hD [0, 1, 2] [] rfl rfl (by decide) (by decide) hk1 hFc tx_P0 tx_D0
              clear hk1 hz1 ht hPc hDc hKc
              generalize H1 = H at hP hS ⊢
              have hP : va_P (dC, dI) vwCl [] H := hP
              have hD : va_D A [] := hD
              refine W.widen (k := 5) (n := 43) (Nat.le_of_ble_eq_true rfl) (Nat.le_of_ble_eq_true rfl) ?_
              refine W.eq (g2 := F0 m 66 ls [.int r_14]) rfl ?_
              refine W.widen (k := 6) (n := 49) (Nat.le_of_ble_eq_true rfl) (Nat.le_of_ble_eq_true rfl) ?_
              refine vx_ret ?_
              exact W.iret (v := r_14) hx hb hr (fun t ht hW => ⟨⟨r_14, (), rfl, ⟨jr_14, by unfold mkIs; unfold mkRng at *; omega⟩, trivial⟩, hS.F ht⟩) hS.2.2 dX7_make_66
            ·
              rw [er_13] at hP hD
              have hP : va_P (dC, dI) vwCl [(h0, .inr (7, [.ref qb])), (qb, .inl (cb, 16, .inr (.inr (.inr (.inr (fun _ => none)))))), (r_13, .inr (4, ur_13.2))] H := hP
              have hD : va_D A [(h0, .inr (7, [.ref qb])), (qb, .inl (cb, 16, .inr (.inr (.inr (.inr (fun _ => none)))))), (r_13, .inr (4, ur_13.2))] := hD
              have hPc := hP.sub (ws' := [(h0, .inr (7, [.ref qb])), (qb, .inl (cb, 16, .inr (.inr (.inr (.inr (fun _ => none)))))), (r_13, .inr (4, ur_13.2))]) [0, 1, 2] rfl
              have hDc := hD.sub (ws' := [(h0, .inr (7, [.ref qb])), (qb, .inl (cb, 16, .inr (.inr (.inr (.inr (fun _ => none)))))), (r_13, .inr (4, ur_13.2))]) [0, 1, 2] (by decide) rfl
              have hKc := hK.sub (tys' := [(cb, .object "KeyAtlas$Body")]) [0] rfl
              have hFc := va_free (wc := [(h0, .inr (7, [.ref qb])), (qb, .inl (cb, 16, .inr (.inr (.inr (.inr (fun _ => none)))))), (r_13, .inr (4, ur_13.2))]) hD hS hA [0, 1, 2] rfl
              have hZc := (hZ.kept hS.2.1).narrow hFc
              refine va_calli (va_runV (As := [.ref r_13]) (rest := []) ⟨hx, hb, hml, hown, hts⟩ (c_X7_settle_X4 l hlt dC dI H.size h0 qb cb r_13 ur_13.2) (cwV 1 hts gN_make_settle rfl rfl rfl (by decide +kernel) ⟨(Nat.le_of_ble_eq_true rfl), (Nat.le_of_ble_eq_true rfl)⟩) ⟨pk_blindX, va_recv hKc hPc (ci := 7) (q0 := 0) rfl rfl, pk_callX hPc hKc hDc hN hZc⟩ rfl rfl hl.1 rfl (lv_room (Nat.le_of_ble_eq_true rfl)) dX7_make_63 ⟨(Nat.le_of_ble_eq_true rfl), (Nat.le_of_ble_eq_true rfl)⟩) hS (fun q _ h => hFc q h) hFc (fun r_15 ur_15 t H1 locs ht hvm hw hB hz1 hk1 hS => ?_)
              try dsimp only at hw
              have jr_15 := hw
              obtain ⟨hP, hD⟩ := va_join (wr := []) (w1 := []) hP hD [0, 1, 2] [] rfl rfl (by decide) (by decide) hk1 hFc tx_P0 tx_D0
              clear hk1 hz1 ht hPc hDc hKc
              generalize H1 = H at hP hS ⊢
              have hP : va_P (dC, dI) vwCl [] H := hP
              have hD : va_D A [] := hD
              refine W.widen (k := 5) (n := 43) (Nat.le_of_ble_eq_true rfl) (Nat.le_of_ble_eq_true rfl) ?_
              refine W.eq (g2 := F0 m 66 ls [.int r_15]) rfl ?_
              refine W.widen (k := 6) (n := 49) (Nat.le_of_ble_eq_true rfl) (Nat.le_of_ble_eq_true rfl) ?_
              refine vx_ret ?_
              exact W.iret (v := r_15) hx hb hr (fun t ht hW => ⟨⟨r_15, (), rfl, ⟨jr_15, by unfold mkIs; unfold mkRng at *; omega⟩, trivial⟩, hS.F ht⟩) hS.2.2 dX7_make_66
            ·
              rw [er_13] at hP hD
              have hP : va_P (dC, dI) vwCl [(h0, .inr (7, [.ref qb])), (qb, .inl (cb, 16, .inr (.inr (.inr (.inr (fun _ => none)))))), (r_13, .inr (6, ur_13.2))] H := hP
              have hD : va_D A [(h0, .inr (7, [.ref qb])), (qb, .inl (cb, 16, .inr (.inr (.inr (.inr (fun _ => none)))))), (r_13, .inr (6, ur_13.2))] := hD
              have hPc := hP.sub (ws' := [(h0, .inr (7, [.ref qb])), (qb, .inl (cb, 16, .inr (.inr (.inr (.inr (fun _ => none)))))), (r_13, .inr (6, ur_13.2))]) [0, 1, 2] rfl
              have hDc := hD.sub (ws' := [(h0, .inr (7, [.ref qb])), (qb, .inl (cb, 16, .inr (.inr (.inr (.inr (fun _ => none)))))), (r_13, .inr (6, ur_13.2))]) [0, 1, 2] (by decide) rfl
              have hKc := hK.sub (tys' := [(cb, .object "KeyAtlas$Body")]) [0] rfl
              have hFc := va_free (wc := [(h0, .inr (7, [.ref qb])), (qb, .inl (cb, 16, .inr (.inr (.inr (.inr (fun _ => none)))))), (r_13, .inr (6, ur_13.2))]) hD hS hA [0, 1, 2] rfl
              have hZc := (hZ.kept hS.2.1).narrow hFc
              refine va_calli (va_runV (As := [.ref r_13]) (rest := []) ⟨hx, hb, hml, hown, hts⟩ (c_X7_settle_X6 l hlt dC dI H.size h0 qb cb r_13 ur_13.2) (cwV 1 hts gN_make_settle rfl rfl rfl (by decide +kernel) ⟨(Nat.le_of_ble_eq_true rfl), (Nat.le_of_ble_eq_true rfl)⟩) ⟨pk_blindX, va_recv hKc hPc (ci := 7) (q0 := 0) rfl rfl, pk_callX hPc hKc hDc hN hZc⟩ rfl rfl hl.1 rfl (lv_room (Nat.le_of_ble_eq_true rfl)) dX7_make_63 ⟨(Nat.le_of_ble_eq_true rfl), (Nat.le_of_ble_eq_true rfl)⟩) hS (fun q _ h => hFc q h) hFc (fun r_16 ur_16 t H1 locs ht hvm hw hB hz1 hk1 hS => ?_)
              try dsimp only at hw
              have jr_16 := hw
              obtain ⟨hP, hD⟩ := va_join (wr := []) (w1 := []) hP hD [0, 1, 2] [] rfl rfl (by decide) (by decide) hk1 hFc tx_P0 tx_D0
              clear hk1 hz1 ht hPc hDc hKc
              generalize H1 = H at hP hS ⊢
              have hP : va_P (dC, dI) vwCl [] H := hP
              have hD : va_D A [] := hD
              refine W.widen (k := 5) (n := 43) (Nat.le_of_ble_eq_true rfl) (Nat.le_of_ble_eq_true rfl) ?_
              refine W.eq (g2 := F0 m 66 ls [.int r_16]) rfl ?_
              refine W.widen (k := 6) (n := 49) (Nat.le_of_ble_eq_true rfl) (Nat.le_of_ble_eq_true rfl) ?_
              refine vx_ret ?_
              exact W.iret (v := r_16) hx hb hr (fun t ht hW => ⟨⟨r_16, (), rfl, ⟨jr_16, by unfold mkIs; unfold mkRng at *; omega⟩, trivial⟩, hS.F ht⟩) hS.2.2 dX7_make_66
          ·
            have ic_12 : r_11.toInt = 0 := tx_eq rfl (by decide) c_12
            obtain ⟨sa, hsa⟩ := hN.stX7_31
            exact vx_throwS hx hb hlt (own := RX7) (cls := "java/lang/IllegalArgumentException") (text := "a or b out of range") (names := ["java/lang/RuntimeException", "java/lang/Exception"]) hown (by decide +kernel) (by decide +kernel) hw0_ hw1_ hsa (tx_hat hN.xw (fun w h => hts w (at_X7_make_46 w h)) ng_RX7_19) og_RX7_19 hZ.1 hZ.2 hS (by rw [hml]; exact hl.1) dX7_make_46 dX7_make_49 dX7_make_50 dX7_make_52 dX7_make_55 (fun x hx9 => (htab x hx9).elim) (by decide) (by decide) (Nat.le_of_ble_eq_true rfl) (Nat.le_of_ble_eq_true rfl) hlocks (fun t hvm hz hq => ⟨(), trivial, Or.inl ⟨rfl, by unfold mkIs; unfold mkRng at *; omega⟩, ⟨Nat.le_trans hS.1 hz, fun q h1 h2 => (hq q (Nat.lt_of_lt_of_le h1 hS.1)).trans (hS.2.1 q h1 h2)⟩⟩) hS.2.2 (Nat.le_of_ble_eq_true rfl) (Nat.le_of_ble_eq_true rfl)
        ·
          have ic_10 : p1.toInt < 0 := tx_nle (by decide) rfl c_10
          obtain ⟨sa, hsa⟩ := hN.stX7_24
          exact vx_throwS hx hb hlt (own := RX7) (cls := "java/lang/NegativeArraySizeException") (text := "capacity below 0") (names := ["java/lang/RuntimeException", "java/lang/Exception"]) hown (by decide +kernel) (by decide +kernel) hw2_ hw3_ hsa (tx_hat hN.xw (fun w h => hts w (at_X7_make_27 w h)) ng_RX7_26) og_RX7_26 hZ.1 hZ.2 hS (by rw [hml]; exact hl.1) dX7_make_27 dX7_make_30 dX7_make_31 dX7_make_33 dX7_make_36 (fun x hx9 => (htab x hx9).elim) (by decide) (by decide) (Nat.le_of_ble_eq_true rfl) (Nat.le_of_ble_eq_true rfl) hlocks (fun t hvm hz hq => ⟨(), trivial, Or.inr ⟨rfl, by unfold mkIs; omega⟩, ⟨Nat.le_trans hS.1 hz, fun q h1 h2 => (hq q (Nat.lt_of_lt_of_le h1 hS.1)).trans (hS.2.1 q h1 h2)⟩⟩) hS.2.2 (Nat.le_of_ble_eq_true rfl) (Nat.le_of_ble_eq_true rfl)
    ·
      have ic_2 : 2 < p0.toInt := tx_nle rfl (by decide) c_2
      obtain ⟨sa, hsa⟩ := hN.stX7_17
      exact vx_throwS hx hb hlt (own := RX7) (cls := "java/lang/IllegalArgumentException") (text := "no such kind") (names := ["java/lang/RuntimeException", "java/lang/Exception"]) hown (by decide +kernel) (by decide +kernel) hw0_ hw1_ hsa (tx_hat hN.xw (fun w h => hts w (at_X7_make_9 w h)) ng_RX7_19) og_RX7_19 hZ.1 hZ.2 hS (by rw [hml]; exact hl.1) dX7_make_9 dX7_make_12 dX7_make_13 dX7_make_15 dX7_make_18 (fun x hx9 => (htab x hx9).elim) (by decide) (by decide) (Nat.le_of_ble_eq_true rfl) (Nat.le_of_ble_eq_true rfl) hlocks (fun t hvm hz hq => ⟨(), trivial, Or.inl ⟨rfl, by unfold mkIs; omega⟩, ⟨Nat.le_trans hS.1 hz, fun q h1 h2 => (hq q (Nat.lt_of_lt_of_le h1 hS.1)).trans (hS.2.1 q h1 h2)⟩⟩) hS.2.2 (Nat.le_of_ble_eq_true rfl) (Nat.le_of_ble_eq_true rfl)
end
