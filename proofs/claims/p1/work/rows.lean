section
-- ===== PART A: goes FIRST, ahead of the names: the tables' words, and 'selects' of the private methods out of them =====
/-- a private method of a class that the tables say can be made, by its rows of tables_1 -/
def lw_okq (q : MethodName × Nat) : Prop := (q.1.cls ≠ "java/lang/invoke/MethodHandle" ∧ q.1.cls ≠ "java/lang/invoke/VarHandle") ∧ Cond.instantiable q.1.cls q.2 ∈ tables_1 ∧ Cond.privateMethod q.1 ∈ tables_1 ∧ Cond.instanceMethod q.1 ∈ tables_1
theorem lw_p0 : lw_okq (⟨"MailArchive", "makeReady", "(IIIII)V"⟩, 17) := ⟨⟨by decide +kernel, by decide +kernel⟩, List.mem_of_getElem? (i := 33) (by decide +kernel), List.mem_of_getElem? (i := 320) (by decide +kernel), List.mem_of_getElem? (i := 321) (by decide +kernel)⟩
theorem lw_p1 : lw_okq (⟨"MailArchive$Threads", "nodeOf", "(LMailArchive$Message;I)I"⟩, 7) := ⟨⟨by decide +kernel, by decide +kernel⟩, List.mem_of_getElem? (i := 110) (by decide +kernel), List.mem_of_getElem? (i := 447) (by decide +kernel), List.mem_of_getElem? (i := 448) (by decide +kernel)⟩
theorem lw_p2 : lw_okq (⟨"MailArchive$Threads", "hangMessage", "(LMailArchive$Message;I)V"⟩, 7) := ⟨⟨by decide +kernel, by decide +kernel⟩, List.mem_of_getElem? (i := 110) (by decide +kernel), List.mem_of_getElem? (i := 454) (by decide +kernel), List.mem_of_getElem? (i := 455) (by decide +kernel)⟩
theorem lw_p3 : lw_okq (⟨"MailArchive$Threads", "aboveOf", "(I)I"⟩, 7) := ⟨⟨by decide +kernel, by decide +kernel⟩, List.mem_of_getElem? (i := 110) (by decide +kernel), List.mem_of_getElem? (i := 458) (by decide +kernel), List.mem_of_getElem? (i := 459) (by decide +kernel)⟩
theorem lw_p4 : lw_okq (⟨"MailArchive$Threads", "hang", "(II)V"⟩, 7) := ⟨⟨by decide +kernel, by decide +kernel⟩, List.mem_of_getElem? (i := 110) (by decide +kernel), List.mem_of_getElem? (i := 462) (by decide +kernel), List.mem_of_getElem? (i := 463) (by decide +kernel)⟩
theorem lw_p5 : lw_okq (⟨"MailArchive$Threads", "rootOf", "(I)I"⟩, 7) := ⟨⟨by decide +kernel, by decide +kernel⟩, List.mem_of_getElem? (i := 110) (by decide +kernel), List.mem_of_getElem? (i := 466) (by decide +kernel), List.mem_of_getElem? (i := 467) (by decide +kernel)⟩
theorem lw_p6 : lw_okq (⟨"MailArchive", "placeOf", "(I)I"⟩, 17) := ⟨⟨by decide +kernel, by decide +kernel⟩, List.mem_of_getElem? (i := 33) (by decide +kernel), List.mem_of_getElem? (i := 470) (by decide +kernel), List.mem_of_getElem? (i := 471) (by decide +kernel)⟩
theorem lw_p7 : lw_okq (⟨"MailArchive$Threads", "nodeAt", "(I)I"⟩, 7) := ⟨⟨by decide +kernel, by decide +kernel⟩, List.mem_of_getElem? (i := 110) (by decide +kernel), List.mem_of_getElem? (i := 481) (by decide +kernel), List.mem_of_getElem? (i := 482) (by decide +kernel)⟩
theorem lw_p8 : lw_okq (⟨"MailArchive", "tellThread", "(I)V"⟩, 17) := ⟨⟨by decide +kernel, by decide +kernel⟩, List.mem_of_getElem? (i := 33) (by decide +kernel), List.mem_of_getElem? (i := 485) (by decide +kernel), List.mem_of_getElem? (i := 486) (by decide +kernel)⟩
theorem lw_p9 : lw_okq (⟨"MailArchive", "differentWords", "()I"⟩, 17) := ⟨⟨by decide +kernel, by decide +kernel⟩, List.mem_of_getElem? (i := 33) (by decide +kernel), List.mem_of_getElem? (i := 539) (by decide +kernel), List.mem_of_getElem? (i := 540) (by decide +kernel)⟩
theorem lw_p10 : lw_okq (⟨"MailArchive", "differentTags", "()I"⟩, 17) := ⟨⟨by decide +kernel, by decide +kernel⟩, List.mem_of_getElem? (i := 33) (by decide +kernel), List.mem_of_getElem? (i := 551) (by decide +kernel), List.mem_of_getElem? (i := 552) (by decide +kernel)⟩
theorem lw_p11 : lw_okq (⟨"java/lang/Throwable", "fillInStackTrace", "(I)Ljava/lang/Throwable;"⟩, 6) := ⟨⟨by decide +kernel, by decide +kernel⟩, List.mem_of_getElem? (i := 601) (by decide +kernel), List.mem_of_getElem? (i := 599) (by decide +kernel), List.mem_of_getElem? (i := 600) (by decide +kernel)⟩
theorem lw_p12 : lw_okq (⟨"MailArchive$Header", "colonOf", "(II)I"⟩, 5) := ⟨⟨by decide +kernel, by decide +kernel⟩, List.mem_of_getElem? (i := 146) (by decide +kernel), List.mem_of_getElem? (i := 653) (by decide +kernel), List.mem_of_getElem? (i := 654) (by decide +kernel)⟩
theorem lw_p13 : lw_okq (⟨"MailArchive$Header", "nameOf", "(II)I"⟩, 5) := ⟨⟨by decide +kernel, by decide +kernel⟩, List.mem_of_getElem? (i := 146) (by decide +kernel), List.mem_of_getElem? (i := 667) (by decide +kernel), List.mem_of_getElem? (i := 668) (by decide +kernel)⟩
theorem lw_p14 : lw_okq (⟨"MailArchive$Header", "startValue", "(II)V"⟩, 5) := ⟨⟨by decide +kernel, by decide +kernel⟩, List.mem_of_getElem? (i := 146) (by decide +kernel), List.mem_of_getElem? (i := 737) (by decide +kernel), List.mem_of_getElem? (i := 738) (by decide +kernel)⟩
theorem lw_p15 : lw_okq (⟨"MailArchive$Header", "stopValue", "(II)V"⟩, 5) := ⟨⟨by decide +kernel, by decide +kernel⟩, List.mem_of_getElem? (i := 146) (by decide +kernel), List.mem_of_getElem? (i := 744) (by decide +kernel), List.mem_of_getElem? (i := 745) (by decide +kernel)⟩
def lw_privs_1 : List (MethodName × Nat) := [(⟨"MailArchive", "makeReady", "(IIIII)V"⟩, 17), (⟨"MailArchive$Threads", "nodeOf", "(LMailArchive$Message;I)I"⟩, 7), (⟨"MailArchive$Threads", "hangMessage", "(LMailArchive$Message;I)V"⟩, 7), (⟨"MailArchive$Threads", "aboveOf", "(I)I"⟩, 7), (⟨"MailArchive$Threads", "hang", "(II)V"⟩, 7), (⟨"MailArchive$Threads", "rootOf", "(I)I"⟩, 7), (⟨"MailArchive", "placeOf", "(I)I"⟩, 17), (⟨"MailArchive$Threads", "nodeAt", "(I)I"⟩, 7), (⟨"MailArchive", "tellThread", "(I)V"⟩, 17), (⟨"MailArchive", "differentWords", "()I"⟩, 17), (⟨"MailArchive", "differentTags", "()I"⟩, 17), (⟨"java/lang/Throwable", "fillInStackTrace", "(I)Ljava/lang/Throwable;"⟩, 6), (⟨"MailArchive$Header", "colonOf", "(II)I"⟩, 5), (⟨"MailArchive$Header", "nameOf", "(II)I"⟩, 5), (⟨"MailArchive$Header", "startValue", "(II)V"⟩, 5), (⟨"MailArchive$Header", "stopValue", "(II)V"⟩, 5)]
theorem lw_r1 : ∀ q ∈ lw_privs_1, lw_okq q := List.forall_mem_cons.mpr ⟨lw_p0, List.forall_mem_cons.mpr ⟨lw_p1, List.forall_mem_cons.mpr ⟨lw_p2, List.forall_mem_cons.mpr ⟨lw_p3, List.forall_mem_cons.mpr ⟨lw_p4, List.forall_mem_cons.mpr ⟨lw_p5, List.forall_mem_cons.mpr ⟨lw_p6, List.forall_mem_cons.mpr ⟨lw_p7, List.forall_mem_cons.mpr ⟨lw_p8, List.forall_mem_cons.mpr ⟨lw_p9, List.forall_mem_cons.mpr ⟨lw_p10, List.forall_mem_cons.mpr ⟨lw_p11, List.forall_mem_cons.mpr ⟨lw_p12, List.forall_mem_cons.mpr ⟨lw_p13, List.forall_mem_cons.mpr ⟨lw_p14, List.forall_mem_cons.mpr ⟨lw_p15, fun _ h => absurd h List.not_mem_nil⟩⟩⟩⟩⟩⟩⟩⟩⟩⟩⟩⟩⟩⟩⟩⟩
theorem lw_p16 : lw_okq (⟨"MailArchive$Reader", "readDate", "()I"⟩, 15) := ⟨⟨by decide +kernel, by decide +kernel⟩, List.mem_of_getElem? (i := 138) (by decide +kernel), List.mem_of_getElem? (i := 748) (by decide +kernel), List.mem_of_getElem? (i := 749) (by decide +kernel)⟩
theorem lw_p17 : lw_okq (⟨"MailArchive$Reader", "readId", "()I"⟩, 15) := ⟨⟨by decide +kernel, by decide +kernel⟩, List.mem_of_getElem? (i := 138) (by decide +kernel), List.mem_of_getElem? (i := 823) (by decide +kernel), List.mem_of_getElem? (i := 824) (by decide +kernel)⟩
theorem lw_p18 : lw_okq (⟨"MailArchive$Reader", "isId", "(II)Z"⟩, 15) := ⟨⟨by decide +kernel, by decide +kernel⟩, List.mem_of_getElem? (i := 138) (by decide +kernel), List.mem_of_getElem? (i := 831) (by decide +kernel), List.mem_of_getElem? (i := 832) (by decide +kernel)⟩
theorem lw_p19 : lw_okq (⟨"MailArchive$Book", "makeRoom", "(II)V"⟩, 7) := ⟨⟨by decide +kernel, by decide +kernel⟩, List.mem_of_getElem? (i := 55) (by decide +kernel), List.mem_of_getElem? (i := 853) (by decide +kernel), List.mem_of_getElem? (i := 854) (by decide +kernel)⟩
theorem lw_p20 : lw_okq (⟨"MailArchive$Reader", "readReferences", "()[I"⟩, 15) := ⟨⟨by decide +kernel, by decide +kernel⟩, List.mem_of_getElem? (i := 138) (by decide +kernel), List.mem_of_getElem? (i := 879) (by decide +kernel), List.mem_of_getElem? (i := 880) (by decide +kernel)⟩
theorem lw_p21 : lw_okq (⟨"MailArchive$Reader", "takeReferences", "(I)I"⟩, 15) := ⟨⟨by decide +kernel, by decide +kernel⟩, List.mem_of_getElem? (i := 138) (by decide +kernel), List.mem_of_getElem? (i := 883) (by decide +kernel), List.mem_of_getElem? (i := 884) (by decide +kernel)⟩
theorem lw_p22 : lw_okq (⟨"MailArchive$Reader", "takeWords", "(I)V"⟩, 15) := ⟨⟨by decide +kernel, by decide +kernel⟩, List.mem_of_getElem? (i := 138) (by decide +kernel), List.mem_of_getElem? (i := 927) (by decide +kernel), List.mem_of_getElem? (i := 928) (by decide +kernel)⟩
theorem lw_p23 : lw_okq (⟨"MailArchive$Reader", "writeText", "()V"⟩, 15) := ⟨⟨by decide +kernel, by decide +kernel⟩, List.mem_of_getElem? (i := 138) (by decide +kernel), List.mem_of_getElem? (i := 939) (by decide +kernel), List.mem_of_getElem? (i := 940) (by decide +kernel)⟩
theorem lw_p24 : lw_okq (⟨"MailArchive$Reader", "putPart", "(III)V"⟩, 15) := ⟨⟨by decide +kernel, by decide +kernel⟩, List.mem_of_getElem? (i := 138) (by decide +kernel), List.mem_of_getElem? (i := 943) (by decide +kernel), List.mem_of_getElem? (i := 944) (by decide +kernel)⟩
theorem lw_p25 : lw_okq (⟨"MailArchive$Reader", "writePart", "(I)V"⟩, 15) := ⟨⟨by decide +kernel, by decide +kernel⟩, List.mem_of_getElem? (i := 138) (by decide +kernel), List.mem_of_getElem? (i := 948) (by decide +kernel), List.mem_of_getElem? (i := 949) (by decide +kernel)⟩
theorem lw_p26 : lw_okq (⟨"MailArchive$Reader", "writePlain", "()V"⟩, 15) := ⟨⟨by decide +kernel, by decide +kernel⟩, List.mem_of_getElem? (i := 138) (by decide +kernel), List.mem_of_getElem? (i := 962) (by decide +kernel), List.mem_of_getElem? (i := 963) (by decide +kernel)⟩
theorem lw_p27 : lw_okq (⟨"MailArchive$Reader", "readBoundary", "(I)V"⟩, 15) := ⟨⟨by decide +kernel, by decide +kernel⟩, List.mem_of_getElem? (i := 138) (by decide +kernel), List.mem_of_getElem? (i := 978) (by decide +kernel), List.mem_of_getElem? (i := 979) (by decide +kernel)⟩
theorem lw_p28 : lw_okq (⟨"MailArchive$Reader", "takeBoundary", "(II)V"⟩, 15) := ⟨⟨by decide +kernel, by decide +kernel⟩, List.mem_of_getElem? (i := 138) (by decide +kernel), List.mem_of_getElem? (i := 984) (by decide +kernel), List.mem_of_getElem? (i := 985) (by decide +kernel)⟩
theorem lw_p29 : lw_okq (⟨"MailArchive$Reader", "putParts", "(I)V"⟩, 15) := ⟨⟨by decide +kernel, by decide +kernel⟩, List.mem_of_getElem? (i := 138) (by decide +kernel), List.mem_of_getElem? (i := 988) (by decide +kernel), List.mem_of_getElem? (i := 989) (by decide +kernel)⟩
theorem lw_p30 : lw_okq (⟨"MailArchive$Reader", "behindBoundary", "(I)I"⟩, 15) := ⟨⟨by decide +kernel, by decide +kernel⟩, List.mem_of_getElem? (i := 138) (by decide +kernel), List.mem_of_getElem? (i := 993) (by decide +kernel), List.mem_of_getElem? (i := 994) (by decide +kernel)⟩
theorem lw_p31 : lw_okq (⟨"MailArchive$Reader", "turnParts", "(I)V"⟩, 15) := ⟨⟨by decide +kernel, by decide +kernel⟩, List.mem_of_getElem? (i := 138) (by decide +kernel), List.mem_of_getElem? (i := 999) (by decide +kernel), List.mem_of_getElem? (i := 1000) (by decide +kernel)⟩
def lw_privs_2 : List (MethodName × Nat) := [(⟨"MailArchive$Reader", "readDate", "()I"⟩, 15), (⟨"MailArchive$Reader", "readId", "()I"⟩, 15), (⟨"MailArchive$Reader", "isId", "(II)Z"⟩, 15), (⟨"MailArchive$Book", "makeRoom", "(II)V"⟩, 7), (⟨"MailArchive$Reader", "readReferences", "()[I"⟩, 15), (⟨"MailArchive$Reader", "takeReferences", "(I)I"⟩, 15), (⟨"MailArchive$Reader", "takeWords", "(I)V"⟩, 15), (⟨"MailArchive$Reader", "writeText", "()V"⟩, 15), (⟨"MailArchive$Reader", "putPart", "(III)V"⟩, 15), (⟨"MailArchive$Reader", "writePart", "(I)V"⟩, 15), (⟨"MailArchive$Reader", "writePlain", "()V"⟩, 15), (⟨"MailArchive$Reader", "readBoundary", "(I)V"⟩, 15), (⟨"MailArchive$Reader", "takeBoundary", "(II)V"⟩, 15), (⟨"MailArchive$Reader", "putParts", "(I)V"⟩, 15), (⟨"MailArchive$Reader", "behindBoundary", "(I)I"⟩, 15), (⟨"MailArchive$Reader", "turnParts", "(I)V"⟩, 15)]
theorem lw_r2 : ∀ q ∈ lw_privs_2, lw_okq q := List.forall_mem_cons.mpr ⟨lw_p16, List.forall_mem_cons.mpr ⟨lw_p17, List.forall_mem_cons.mpr ⟨lw_p18, List.forall_mem_cons.mpr ⟨lw_p19, List.forall_mem_cons.mpr ⟨lw_p20, List.forall_mem_cons.mpr ⟨lw_p21, List.forall_mem_cons.mpr ⟨lw_p22, List.forall_mem_cons.mpr ⟨lw_p23, List.forall_mem_cons.mpr ⟨lw_p24, List.forall_mem_cons.mpr ⟨lw_p25, List.forall_mem_cons.mpr ⟨lw_p26, List.forall_mem_cons.mpr ⟨lw_p27, List.forall_mem_cons.mpr ⟨lw_p28, List.forall_mem_cons.mpr ⟨lw_p29, List.forall_mem_cons.mpr ⟨lw_p30, List.forall_mem_cons.mpr ⟨lw_p31, fun _ h => absurd h List.not_mem_nil⟩⟩⟩⟩⟩⟩⟩⟩⟩⟩⟩⟩⟩⟩⟩⟩
theorem lw_p32 : lw_okq (⟨"java/util/ArrayList", "add", "(Ljava/lang/Object;[Ljava/lang/Object;I)V"⟩, 3) := ⟨⟨by decide +kernel, by decide +kernel⟩, List.mem_of_getElem? (i := 84) (by decide +kernel), List.mem_of_getElem? (i := 1050) (by decide +kernel), List.mem_of_getElem? (i := 1051) (by decide +kernel)⟩
theorem lw_p33 : lw_okq (⟨"java/util/ArrayList", "grow", "()[Ljava/lang/Object;"⟩, 3) := ⟨⟨by decide +kernel, by decide +kernel⟩, List.mem_of_getElem? (i := 84) (by decide +kernel), List.mem_of_getElem? (i := 1054) (by decide +kernel), List.mem_of_getElem? (i := 1055) (by decide +kernel)⟩
theorem lw_p34 : lw_okq (⟨"java/util/ArrayList", "grow", "(I)[Ljava/lang/Object;"⟩, 3) := ⟨⟨by decide +kernel, by decide +kernel⟩, List.mem_of_getElem? (i := 84) (by decide +kernel), List.mem_of_getElem? (i := 1058) (by decide +kernel), List.mem_of_getElem? (i := 1059) (by decide +kernel)⟩
theorem lw_p35 : lw_okq (⟨"java/util/ArrayList", "fastRemove", "([Ljava/lang/Object;I)V"⟩, 3) := ⟨⟨by decide +kernel, by decide +kernel⟩, List.mem_of_getElem? (i := 84) (by decide +kernel), List.mem_of_getElem? (i := 1133) (by decide +kernel), List.mem_of_getElem? (i := 1134) (by decide +kernel)⟩
theorem lw_p36 : lw_okq (⟨"MailArchive", "takeTape", "()V"⟩, 17) := ⟨⟨by decide +kernel, by decide +kernel⟩, List.mem_of_getElem? (i := 33) (by decide +kernel), List.mem_of_getElem? (i := 1146) (by decide +kernel), List.mem_of_getElem? (i := 1147) (by decide +kernel)⟩
theorem lw_p37 : lw_okq (⟨"MailArchive$Message", "tagPlace", "(I)I"⟩, 8) := ⟨⟨by decide +kernel, by decide +kernel⟩, List.mem_of_getElem? (i := 1004) (by decide +kernel), List.mem_of_getElem? (i := 1176) (by decide +kernel), List.mem_of_getElem? (i := 1177) (by decide +kernel)⟩
theorem lw_p38 : lw_okq (⟨"MailArchive$Seeker", "startLevel", "(I)V"⟩, 17) := ⟨⟨by decide +kernel, by decide +kernel⟩, List.mem_of_getElem? (i := 216) (by decide +kernel), List.mem_of_getElem? (i := 1212) (by decide +kernel), List.mem_of_getElem? (i := 1213) (by decide +kernel)⟩
theorem lw_p39 : lw_okq (⟨"MailArchive$Seeker", "isLevel", "()Z"⟩, 17) := ⟨⟨by decide +kernel, by decide +kernel⟩, List.mem_of_getElem? (i := 216) (by decide +kernel), List.mem_of_getElem? (i := 1216) (by decide +kernel), List.mem_of_getElem? (i := 1217) (by decide +kernel)⟩
theorem lw_p40 : lw_okq (⟨"MailArchive$Lexer", "readPhrase", "(I)I"⟩, 9) := ⟨⟨by decide +kernel, by decide +kernel⟩, List.mem_of_getElem? (i := 224) (by decide +kernel), List.mem_of_getElem? (i := 1228) (by decide +kernel), List.mem_of_getElem? (i := 1229) (by decide +kernel)⟩
theorem lw_p41 : lw_okq (⟨"MailArchive$Lexer", "readWord", "()I"⟩, 9) := ⟨⟨by decide +kernel, by decide +kernel⟩, List.mem_of_getElem? (i := 224) (by decide +kernel), List.mem_of_getElem? (i := 1233) (by decide +kernel), List.mem_of_getElem? (i := 1234) (by decide +kernel)⟩
theorem lw_p42 : lw_okq (⟨"MailArchive$Lexer", "wordStop", "()I"⟩, 9) := ⟨⟨by decide +kernel, by decide +kernel⟩, List.mem_of_getElem? (i := 224) (by decide +kernel), List.mem_of_getElem? (i := 1237) (by decide +kernel), List.mem_of_getElem? (i := 1238) (by decide +kernel)⟩
theorem lw_p43 : lw_okq (⟨"MailArchive$Lexer", "readField", "()V"⟩, 9) := ⟨⟨by decide +kernel, by decide +kernel⟩, List.mem_of_getElem? (i := 224) (by decide +kernel), List.mem_of_getElem? (i := 1249) (by decide +kernel), List.mem_of_getElem? (i := 1250) (by decide +kernel)⟩
theorem lw_p44 : lw_okq (⟨"MailArchive$Lexer", "readDays", "()Z"⟩, 9) := ⟨⟨by decide +kernel, by decide +kernel⟩, List.mem_of_getElem? (i := 224) (by decide +kernel), List.mem_of_getElem? (i := 1267) (by decide +kernel), List.mem_of_getElem? (i := 1268) (by decide +kernel)⟩
theorem lw_p45 : lw_okq (⟨"MailArchive$Seeker", "canStand", "(IZZ)Z"⟩, 17) := ⟨⟨by decide +kernel, by decide +kernel⟩, List.mem_of_getElem? (i := 216) (by decide +kernel), List.mem_of_getElem? (i := 1278) (by decide +kernel), List.mem_of_getElem? (i := 1279) (by decide +kernel)⟩
theorem lw_p46 : lw_okq (⟨"MailArchive$Seeker", "termSet", "()J"⟩, 17) := ⟨⟨by decide +kernel, by decide +kernel⟩, List.mem_of_getElem? (i := 216) (by decide +kernel), List.mem_of_getElem? (i := 1282) (by decide +kernel), List.mem_of_getElem? (i := 1283) (by decide +kernel)⟩
theorem lw_p47 : lw_okq (⟨"MailArchive$Seeker", "readPhrase", "()V"⟩, 17) := ⟨⟨by decide +kernel, by decide +kernel⟩, List.mem_of_getElem? (i := 216) (by decide +kernel), List.mem_of_getElem? (i := 1289) (by decide +kernel), List.mem_of_getElem? (i := 1290) (by decide +kernel)⟩
def lw_privs_3 : List (MethodName × Nat) := [(⟨"java/util/ArrayList", "add", "(Ljava/lang/Object;[Ljava/lang/Object;I)V"⟩, 3), (⟨"java/util/ArrayList", "grow", "()[Ljava/lang/Object;"⟩, 3), (⟨"java/util/ArrayList", "grow", "(I)[Ljava/lang/Object;"⟩, 3), (⟨"java/util/ArrayList", "fastRemove", "([Ljava/lang/Object;I)V"⟩, 3), (⟨"MailArchive", "takeTape", "()V"⟩, 17), (⟨"MailArchive$Message", "tagPlace", "(I)I"⟩, 8), (⟨"MailArchive$Seeker", "startLevel", "(I)V"⟩, 17), (⟨"MailArchive$Seeker", "isLevel", "()Z"⟩, 17), (⟨"MailArchive$Lexer", "readPhrase", "(I)I"⟩, 9), (⟨"MailArchive$Lexer", "readWord", "()I"⟩, 9), (⟨"MailArchive$Lexer", "wordStop", "()I"⟩, 9), (⟨"MailArchive$Lexer", "readField", "()V"⟩, 9), (⟨"MailArchive$Lexer", "readDays", "()Z"⟩, 9), (⟨"MailArchive$Seeker", "canStand", "(IZZ)Z"⟩, 17), (⟨"MailArchive$Seeker", "termSet", "()J"⟩, 17), (⟨"MailArchive$Seeker", "readPhrase", "()V"⟩, 17)]
theorem lw_r3 : ∀ q ∈ lw_privs_3, lw_okq q := List.forall_mem_cons.mpr ⟨lw_p32, List.forall_mem_cons.mpr ⟨lw_p33, List.forall_mem_cons.mpr ⟨lw_p34, List.forall_mem_cons.mpr ⟨lw_p35, List.forall_mem_cons.mpr ⟨lw_p36, List.forall_mem_cons.mpr ⟨lw_p37, List.forall_mem_cons.mpr ⟨lw_p38, List.forall_mem_cons.mpr ⟨lw_p39, List.forall_mem_cons.mpr ⟨lw_p40, List.forall_mem_cons.mpr ⟨lw_p41, List.forall_mem_cons.mpr ⟨lw_p42, List.forall_mem_cons.mpr ⟨lw_p43, List.forall_mem_cons.mpr ⟨lw_p44, List.forall_mem_cons.mpr ⟨lw_p45, List.forall_mem_cons.mpr ⟨lw_p46, List.forall_mem_cons.mpr ⟨lw_p47, fun _ h => absurd h List.not_mem_nil⟩⟩⟩⟩⟩⟩⟩⟩⟩⟩⟩⟩⟩⟩⟩⟩
theorem lw_p48 : lw_okq (⟨"MailArchive$Seeker", "isMatch", "(LMailArchive$Message;II)Z"⟩, 17) := ⟨⟨by decide +kernel, by decide +kernel⟩, List.mem_of_getElem? (i := 216) (by decide +kernel), List.mem_of_getElem? (i := 1298) (by decide +kernel), List.mem_of_getElem? (i := 1299) (by decide +kernel)⟩
theorem lw_p49 : lw_okq (⟨"MailArchive$Seeker", "isInDays", "(I)Z"⟩, 17) := ⟨⟨by decide +kernel, by decide +kernel⟩, List.mem_of_getElem? (i := 216) (by decide +kernel), List.mem_of_getElem? (i := 1304) (by decide +kernel), List.mem_of_getElem? (i := 1305) (by decide +kernel)⟩
theorem lw_p50 : lw_okq (⟨"MailArchive$Seeker", "hasPhrase", "(LMailArchive$Message;I)Z"⟩, 17) := ⟨⟨by decide +kernel, by decide +kernel⟩, List.mem_of_getElem? (i := 216) (by decide +kernel), List.mem_of_getElem? (i := 1311) (by decide +kernel), List.mem_of_getElem? (i := 1312) (by decide +kernel)⟩
theorem lw_p51 : lw_okq (⟨"MailArchive$Seeker", "standsAt", "(LMailArchive$Message;II)Z"⟩, 17) := ⟨⟨by decide +kernel, by decide +kernel⟩, List.mem_of_getElem? (i := 216) (by decide +kernel), List.mem_of_getElem? (i := 1316) (by decide +kernel), List.mem_of_getElem? (i := 1317) (by decide +kernel)⟩
theorem lw_p52 : lw_okq (⟨"MailArchive$Seeker", "join", "(J)V"⟩, 17) := ⟨⟨by decide +kernel, by decide +kernel⟩, List.mem_of_getElem? (i := 216) (by decide +kernel), List.mem_of_getElem? (i := 1322) (by decide +kernel), List.mem_of_getElem? (i := 1323) (by decide +kernel)⟩
theorem lw_p53 : lw_okq (⟨"MailArchive$Seeker", "take", "(I)V"⟩, 17) := ⟨⟨by decide +kernel, by decide +kernel⟩, List.mem_of_getElem? (i := 216) (by decide +kernel), List.mem_of_getElem? (i := 1327) (by decide +kernel), List.mem_of_getElem? (i := 1328) (by decide +kernel)⟩
theorem lw_p54 : lw_okq (⟨"MailArchive$Seeker", "levelSet", "()J"⟩, 17) := ⟨⟨by decide +kernel, by decide +kernel⟩, List.mem_of_getElem? (i := 216) (by decide +kernel), List.mem_of_getElem? (i := 1331) (by decide +kernel), List.mem_of_getElem? (i := 1332) (by decide +kernel)⟩
theorem lw_p55 : lw_okq (⟨"MailArchive$Seeker", "startNextAll", "()V"⟩, 17) := ⟨⟨by decide +kernel, by decide +kernel⟩, List.mem_of_getElem? (i := 216) (by decide +kernel), List.mem_of_getElem? (i := 1335) (by decide +kernel), List.mem_of_getElem? (i := 1336) (by decide +kernel)⟩
theorem lw_p56 : lw_okq (⟨"MailArchive$Seeker", "turn", "()V"⟩, 17) := ⟨⟨by decide +kernel, by decide +kernel⟩, List.mem_of_getElem? (i := 216) (by decide +kernel), List.mem_of_getElem? (i := 1339) (by decide +kernel), List.mem_of_getElem? (i := 1340) (by decide +kernel)⟩
theorem lw_p57 : lw_okq (⟨"MailArchive", "keepFound", "(J)V"⟩, 17) := ⟨⟨by decide +kernel, by decide +kernel⟩, List.mem_of_getElem? (i := 33) (by decide +kernel), List.mem_of_getElem? (i := 1344) (by decide +kernel), List.mem_of_getElem? (i := 1345) (by decide +kernel)⟩
theorem lw_p58 : lw_okq (⟨"MailArchive", "insertFound", "(LMailArchive$Message;)V"⟩, 17) := ⟨⟨by decide +kernel, by decide +kernel⟩, List.mem_of_getElem? (i := 33) (by decide +kernel), List.mem_of_getElem? (i := 1348) (by decide +kernel), List.mem_of_getElem? (i := 1349) (by decide +kernel)⟩
theorem lw_p59 : lw_okq (⟨"MailArchiveModel", "take", "()I"⟩, 70) := ⟨⟨by decide +kernel, by decide +kernel⟩, List.mem_of_getElem? (i := 1352) (by decide +kernel), List.mem_of_getElem? (i := 1589) (by decide +kernel), List.mem_of_getElem? (i := 1590) (by decide +kernel)⟩
theorem lw_p60 : lw_okq (⟨"MailArchiveModel", "isThere", "(I)Z"⟩, 70) := ⟨⟨by decide +kernel, by decide +kernel⟩, List.mem_of_getElem? (i := 1352) (by decide +kernel), List.mem_of_getElem? (i := 1597) (by decide +kernel), List.mem_of_getElem? (i := 1598) (by decide +kernel)⟩
theorem lw_p61 : lw_okq (⟨"MailArchiveModel", "isTag", "(I)Z"⟩, 70) := ⟨⟨by decide +kernel, by decide +kernel⟩, List.mem_of_getElem? (i := 1352) (by decide +kernel), List.mem_of_getElem? (i := 1605) (by decide +kernel), List.mem_of_getElem? (i := 1606) (by decide +kernel)⟩
theorem lw_p62 : lw_okq (⟨"MailArchiveModel", "tagAt", "(I[BII)I"⟩, 70) := ⟨⟨by decide +kernel, by decide +kernel⟩, List.mem_of_getElem? (i := 1352) (by decide +kernel), List.mem_of_getElem? (i := 1612) (by decide +kernel), List.mem_of_getElem? (i := 1613) (by decide +kernel)⟩
theorem lw_p63 : lw_okq (⟨"MailArchiveModel", "moveTag", "(III)V"⟩, 70) := ⟨⟨by decide +kernel, by decide +kernel⟩, List.mem_of_getElem? (i := 1352) (by decide +kernel), List.mem_of_getElem? (i := 1616) (by decide +kernel), List.mem_of_getElem? (i := 1617) (by decide +kernel)⟩
def lw_privs_4 : List (MethodName × Nat) := [(⟨"MailArchive$Seeker", "isMatch", "(LMailArchive$Message;II)Z"⟩, 17), (⟨"MailArchive$Seeker", "isInDays", "(I)Z"⟩, 17), (⟨"MailArchive$Seeker", "hasPhrase", "(LMailArchive$Message;I)Z"⟩, 17), (⟨"MailArchive$Seeker", "standsAt", "(LMailArchive$Message;II)Z"⟩, 17), (⟨"MailArchive$Seeker", "join", "(J)V"⟩, 17), (⟨"MailArchive$Seeker", "take", "(I)V"⟩, 17), (⟨"MailArchive$Seeker", "levelSet", "()J"⟩, 17), (⟨"MailArchive$Seeker", "startNextAll", "()V"⟩, 17), (⟨"MailArchive$Seeker", "turn", "()V"⟩, 17), (⟨"MailArchive", "keepFound", "(J)V"⟩, 17), (⟨"MailArchive", "insertFound", "(LMailArchive$Message;)V"⟩, 17), (⟨"MailArchiveModel", "take", "()I"⟩, 70), (⟨"MailArchiveModel", "isThere", "(I)Z"⟩, 70), (⟨"MailArchiveModel", "isTag", "(I)Z"⟩, 70), (⟨"MailArchiveModel", "tagAt", "(I[BII)I"⟩, 70), (⟨"MailArchiveModel", "moveTag", "(III)V"⟩, 70)]
theorem lw_r4 : ∀ q ∈ lw_privs_4, lw_okq q := List.forall_mem_cons.mpr ⟨lw_p48, List.forall_mem_cons.mpr ⟨lw_p49, List.forall_mem_cons.mpr ⟨lw_p50, List.forall_mem_cons.mpr ⟨lw_p51, List.forall_mem_cons.mpr ⟨lw_p52, List.forall_mem_cons.mpr ⟨lw_p53, List.forall_mem_cons.mpr ⟨lw_p54, List.forall_mem_cons.mpr ⟨lw_p55, List.forall_mem_cons.mpr ⟨lw_p56, List.forall_mem_cons.mpr ⟨lw_p57, List.forall_mem_cons.mpr ⟨lw_p58, List.forall_mem_cons.mpr ⟨lw_p59, List.forall_mem_cons.mpr ⟨lw_p60, List.forall_mem_cons.mpr ⟨lw_p61, List.forall_mem_cons.mpr ⟨lw_p62, List.forall_mem_cons.mpr ⟨lw_p63, fun _ h => absurd h List.not_mem_nil⟩⟩⟩⟩⟩⟩⟩⟩⟩⟩⟩⟩⟩⟩⟩⟩
theorem lw_p64 : lw_okq (⟨"MailArchiveModel", "readQuery", "()Z"⟩, 70) := ⟨⟨by decide +kernel, by decide +kernel⟩, List.mem_of_getElem? (i := 1352) (by decide +kernel), List.mem_of_getElem? (i := 1624) (by decide +kernel), List.mem_of_getElem? (i := 1625) (by decide +kernel)⟩
theorem lw_p65 : lw_okq (⟨"MailArchiveModel", "wordEnd", "(I)I"⟩, 70) := ⟨⟨by decide +kernel, by decide +kernel⟩, List.mem_of_getElem? (i := 1352) (by decide +kernel), List.mem_of_getElem? (i := 1631) (by decide +kernel), List.mem_of_getElem? (i := 1632) (by decide +kernel)⟩
theorem lw_p66 : lw_okq (⟨"MailArchiveModel", "refuse", "(I)Z"⟩, 70) := ⟨⟨by decide +kernel, by decide +kernel⟩, List.mem_of_getElem? (i := 1352) (by decide +kernel), List.mem_of_getElem? (i := 1642) (by decide +kernel), List.mem_of_getElem? (i := 1643) (by decide +kernel)⟩
theorem lw_p67 : lw_okq (⟨"MailArchiveModel", "unwind", "(I)V"⟩, 70) := ⟨⟨by decide +kernel, by decide +kernel⟩, List.mem_of_getElem? (i := 1352) (by decide +kernel), List.mem_of_getElem? (i := 1646) (by decide +kernel), List.mem_of_getElem? (i := 1647) (by decide +kernel)⟩
theorem lw_p68 : lw_okq (⟨"MailArchiveModel", "done", "(I)V"⟩, 70) := ⟨⟨by decide +kernel, by decide +kernel⟩, List.mem_of_getElem? (i := 1352) (by decide +kernel), List.mem_of_getElem? (i := 1650) (by decide +kernel), List.mem_of_getElem? (i := 1651) (by decide +kernel)⟩
theorem lw_p69 : lw_okq (⟨"MailArchiveModel", "later", "(I)V"⟩, 70) := ⟨⟨by decide +kernel, by decide +kernel⟩, List.mem_of_getElem? (i := 1352) (by decide +kernel), List.mem_of_getElem? (i := 1654) (by decide +kernel), List.mem_of_getElem? (i := 1655) (by decide +kernel)⟩
theorem lw_p70 : lw_okq (⟨"MailArchiveModel", "one", "(II)I"⟩, 70) := ⟨⟨by decide +kernel, by decide +kernel⟩, List.mem_of_getElem? (i := 1352) (by decide +kernel), List.mem_of_getElem? (i := 1660) (by decide +kernel), List.mem_of_getElem? (i := 1661) (by decide +kernel)⟩
theorem lw_p71 : lw_okq (⟨"MailArchiveModel", "phraseEnd", "(I)I"⟩, 70) := ⟨⟨by decide +kernel, by decide +kernel⟩, List.mem_of_getElem? (i := 1352) (by decide +kernel), List.mem_of_getElem? (i := 1664) (by decide +kernel), List.mem_of_getElem? (i := 1665) (by decide +kernel)⟩
theorem lw_p72 : lw_okq (⟨"MailArchiveModel", "leaf", "(IIIZ)I"⟩, 70) := ⟨⟨by decide +kernel, by decide +kernel⟩, List.mem_of_getElem? (i := 1352) (by decide +kernel), List.mem_of_getElem? (i := 1668) (by decide +kernel), List.mem_of_getElem? (i := 1669) (by decide +kernel)⟩
theorem lw_p73 : lw_okq (⟨"MailArchiveModel", "fieldOf", "(II)I"⟩, 70) := ⟨⟨by decide +kernel, by decide +kernel⟩, List.mem_of_getElem? (i := 1352) (by decide +kernel), List.mem_of_getElem? (i := 1674) (by decide +kernel), List.mem_of_getElem? (i := 1675) (by decide +kernel)⟩
theorem lw_p74 : lw_okq (⟨"MailArchiveModel", "isNumber", "(II)Z"⟩, 70) := ⟨⟨by decide +kernel, by decide +kernel⟩, List.mem_of_getElem? (i := 1352) (by decide +kernel), List.mem_of_getElem? (i := 1682) (by decide +kernel), List.mem_of_getElem? (i := 1683) (by decide +kernel)⟩
theorem lw_p75 : lw_okq (⟨"MailArchiveModel", "isDate", "(III)Z"⟩, 70) := ⟨⟨by decide +kernel, by decide +kernel⟩, List.mem_of_getElem? (i := 1352) (by decide +kernel), List.mem_of_getElem? (i := 1686) (by decide +kernel), List.mem_of_getElem? (i := 1687) (by decide +kernel)⟩
theorem lw_p76 : lw_okq (⟨"MailArchiveModel", "day", "(I)J"⟩, 70) := ⟨⟨by decide +kernel, by decide +kernel⟩, List.mem_of_getElem? (i := 1352) (by decide +kernel), List.mem_of_getElem? (i := 1690) (by decide +kernel), List.mem_of_getElem? (i := 1691) (by decide +kernel)⟩
theorem lw_p77 : lw_okq (⟨"MailArchiveModel", "link", "()V"⟩, 70) := ⟨⟨by decide +kernel, by decide +kernel⟩, List.mem_of_getElem? (i := 1352) (by decide +kernel), List.mem_of_getElem? (i := 1706) (by decide +kernel), List.mem_of_getElem? (i := 1707) (by decide +kernel)⟩
theorem lw_p78 : lw_okq (⟨"MailArchiveModel", "hang", "(I)V"⟩, 70) := ⟨⟨by decide +kernel, by decide +kernel⟩, List.mem_of_getElem? (i := 1352) (by decide +kernel), List.mem_of_getElem? (i := 1710) (by decide +kernel), List.mem_of_getElem? (i := 1711) (by decide +kernel)⟩
theorem lw_p79 : lw_okq (⟨"MailArchiveModel", "read", "(I)V"⟩, 70) := ⟨⟨by decide +kernel, by decide +kernel⟩, List.mem_of_getElem? (i := 1352) (by decide +kernel), List.mem_of_getElem? (i := 1714) (by decide +kernel), List.mem_of_getElem? (i := 1715) (by decide +kernel)⟩
def lw_privs_5 : List (MethodName × Nat) := [(⟨"MailArchiveModel", "readQuery", "()Z"⟩, 70), (⟨"MailArchiveModel", "wordEnd", "(I)I"⟩, 70), (⟨"MailArchiveModel", "refuse", "(I)Z"⟩, 70), (⟨"MailArchiveModel", "unwind", "(I)V"⟩, 70), (⟨"MailArchiveModel", "done", "(I)V"⟩, 70), (⟨"MailArchiveModel", "later", "(I)V"⟩, 70), (⟨"MailArchiveModel", "one", "(II)I"⟩, 70), (⟨"MailArchiveModel", "phraseEnd", "(I)I"⟩, 70), (⟨"MailArchiveModel", "leaf", "(IIIZ)I"⟩, 70), (⟨"MailArchiveModel", "fieldOf", "(II)I"⟩, 70), (⟨"MailArchiveModel", "isNumber", "(II)Z"⟩, 70), (⟨"MailArchiveModel", "isDate", "(III)Z"⟩, 70), (⟨"MailArchiveModel", "day", "(I)J"⟩, 70), (⟨"MailArchiveModel", "link", "()V"⟩, 70), (⟨"MailArchiveModel", "hang", "(I)V"⟩, 70), (⟨"MailArchiveModel", "read", "(I)V"⟩, 70)]
theorem lw_r5 : ∀ q ∈ lw_privs_5, lw_okq q := List.forall_mem_cons.mpr ⟨lw_p64, List.forall_mem_cons.mpr ⟨lw_p65, List.forall_mem_cons.mpr ⟨lw_p66, List.forall_mem_cons.mpr ⟨lw_p67, List.forall_mem_cons.mpr ⟨lw_p68, List.forall_mem_cons.mpr ⟨lw_p69, List.forall_mem_cons.mpr ⟨lw_p70, List.forall_mem_cons.mpr ⟨lw_p71, List.forall_mem_cons.mpr ⟨lw_p72, List.forall_mem_cons.mpr ⟨lw_p73, List.forall_mem_cons.mpr ⟨lw_p74, List.forall_mem_cons.mpr ⟨lw_p75, List.forall_mem_cons.mpr ⟨lw_p76, List.forall_mem_cons.mpr ⟨lw_p77, List.forall_mem_cons.mpr ⟨lw_p78, List.forall_mem_cons.mpr ⟨lw_p79, fun _ h => absurd h List.not_mem_nil⟩⟩⟩⟩⟩⟩⟩⟩⟩⟩⟩⟩⟩⟩⟩⟩
theorem lw_p80 : lw_okq (⟨"MailArchiveModel", "readField", "(IIII)V"⟩, 70) := ⟨⟨by decide +kernel, by decide +kernel⟩, List.mem_of_getElem? (i := 1352) (by decide +kernel), List.mem_of_getElem? (i := 1718) (by decide +kernel), List.mem_of_getElem? (i := 1719) (by decide +kernel)⟩
theorem lw_p81 : lw_okq (⟨"MailArchiveModel", "field", "(III)Z"⟩, 70) := ⟨⟨by decide +kernel, by decide +kernel⟩, List.mem_of_getElem? (i := 1352) (by decide +kernel), List.mem_of_getElem? (i := 1722) (by decide +kernel), List.mem_of_getElem? (i := 1723) (by decide +kernel)⟩
theorem lw_p82 : lw_okq (⟨"MailArchiveModel", "addValue", "([BII)V"⟩, 70) := ⟨⟨by decide +kernel, by decide +kernel⟩, List.mem_of_getElem? (i := 1352) (by decide +kernel), List.mem_of_getElem? (i := 1732) (by decide +kernel), List.mem_of_getElem? (i := 1733) (by decide +kernel)⟩
theorem lw_p83 : lw_okq (⟨"MailArchiveModel", "trim", "()V"⟩, 70) := ⟨⟨by decide +kernel, by decide +kernel⟩, List.mem_of_getElem? (i := 1352) (by decide +kernel), List.mem_of_getElem? (i := 1752) (by decide +kernel), List.mem_of_getElem? (i := 1753) (by decide +kernel)⟩
theorem lw_p84 : lw_okq (⟨"MailArchiveModel", "readEncoded", "()V"⟩, 70) := ⟨⟨by decide +kernel, by decide +kernel⟩, List.mem_of_getElem? (i := 1352) (by decide +kernel), List.mem_of_getElem? (i := 1756) (by decide +kernel), List.mem_of_getElem? (i := 1757) (by decide +kernel)⟩
theorem lw_p85 : lw_okq (⟨"MailArchiveModel", "encodedEnd", "(I)I"⟩, 70) := ⟨⟨by decide +kernel, by decide +kernel⟩, List.mem_of_getElem? (i := 1352) (by decide +kernel), List.mem_of_getElem? (i := 1760) (by decide +kernel), List.mem_of_getElem? (i := 1761) (by decide +kernel)⟩
theorem lw_p86 : lw_okq (⟨"MailArchiveModel", "put", "(I)V"⟩, 70) := ⟨⟨by decide +kernel, by decide +kernel⟩, List.mem_of_getElem? (i := 1352) (by decide +kernel), List.mem_of_getElem? (i := 1768) (by decide +kernel), List.mem_of_getElem? (i := 1769) (by decide +kernel)⟩
theorem lw_p87 : lw_okq (⟨"MailArchiveModel", "base", "([BII)V"⟩, 70) := ⟨⟨by decide +kernel, by decide +kernel⟩, List.mem_of_getElem? (i := 1352) (by decide +kernel), List.mem_of_getElem? (i := 1772) (by decide +kernel), List.mem_of_getElem? (i := 1773) (by decide +kernel)⟩
theorem lw_p88 : lw_okq (⟨"MailArchiveModel", "digits", "([BIIZ)V"⟩, 70) := ⟨⟨by decide +kernel, by decide +kernel⟩, List.mem_of_getElem? (i := 1352) (by decide +kernel), List.mem_of_getElem? (i := 1779) (by decide +kernel), List.mem_of_getElem? (i := 1780) (by decide +kernel)⟩
theorem lw_p89 : lw_okq (⟨"MailArchiveModel", "readText", "(II)V"⟩, 70) := ⟨⟨by decide +kernel, by decide +kernel⟩, List.mem_of_getElem? (i := 1352) (by decide +kernel), List.mem_of_getElem? (i := 1792) (by decide +kernel), List.mem_of_getElem? (i := 1793) (by decide +kernel)⟩
theorem lw_p90 : lw_okq (⟨"MailArchiveModel", "push", "(III)V"⟩, 70) := ⟨⟨by decide +kernel, by decide +kernel⟩, List.mem_of_getElem? (i := 1352) (by decide +kernel), List.mem_of_getElem? (i := 1796) (by decide +kernel), List.mem_of_getElem? (i := 1797) (by decide +kernel)⟩
theorem lw_p91 : lw_okq (⟨"MailArchiveModel", "readBody", "(III)V"⟩, 70) := ⟨⟨by decide +kernel, by decide +kernel⟩, List.mem_of_getElem? (i := 1352) (by decide +kernel), List.mem_of_getElem? (i := 1800) (by decide +kernel), List.mem_of_getElem? (i := 1801) (by decide +kernel)⟩
theorem lw_p92 : lw_okq (⟨"MailArchiveModel", "isContent", "(I[IZ)Z"⟩, 70) := ⟨⟨by decide +kernel, by decide +kernel⟩, List.mem_of_getElem? (i := 1352) (by decide +kernel), List.mem_of_getElem? (i := 1806) (by decide +kernel), List.mem_of_getElem? (i := 1807) (by decide +kernel)⟩
theorem lw_p93 : lw_okq (⟨"MailArchiveModel", "findBoundary", "(I)V"⟩, 70) := ⟨⟨by decide +kernel, by decide +kernel⟩, List.mem_of_getElem? (i := 1352) (by decide +kernel), List.mem_of_getElem? (i := 1810) (by decide +kernel), List.mem_of_getElem? (i := 1811) (by decide +kernel)⟩
theorem lw_p94 : lw_okq (⟨"MailArchiveModel", "findParts", "(II)V"⟩, 70) := ⟨⟨by decide +kernel, by decide +kernel⟩, List.mem_of_getElem? (i := 1352) (by decide +kernel), List.mem_of_getElem? (i := 1816) (by decide +kernel), List.mem_of_getElem? (i := 1817) (by decide +kernel)⟩
theorem lw_p95 : lw_okq (⟨"MailArchiveModel", "mark", "(II)I"⟩, 70) := ⟨⟨by decide +kernel, by decide +kernel⟩, List.mem_of_getElem? (i := 1352) (by decide +kernel), List.mem_of_getElem? (i := 1820) (by decide +kernel), List.mem_of_getElem? (i := 1821) (by decide +kernel)⟩
def lw_privs_6 : List (MethodName × Nat) := [(⟨"MailArchiveModel", "readField", "(IIII)V"⟩, 70), (⟨"MailArchiveModel", "field", "(III)Z"⟩, 70), (⟨"MailArchiveModel", "addValue", "([BII)V"⟩, 70), (⟨"MailArchiveModel", "trim", "()V"⟩, 70), (⟨"MailArchiveModel", "readEncoded", "()V"⟩, 70), (⟨"MailArchiveModel", "encodedEnd", "(I)I"⟩, 70), (⟨"MailArchiveModel", "put", "(I)V"⟩, 70), (⟨"MailArchiveModel", "base", "([BII)V"⟩, 70), (⟨"MailArchiveModel", "digits", "([BIIZ)V"⟩, 70), (⟨"MailArchiveModel", "readText", "(II)V"⟩, 70), (⟨"MailArchiveModel", "push", "(III)V"⟩, 70), (⟨"MailArchiveModel", "readBody", "(III)V"⟩, 70), (⟨"MailArchiveModel", "isContent", "(I[IZ)Z"⟩, 70), (⟨"MailArchiveModel", "findBoundary", "(I)V"⟩, 70), (⟨"MailArchiveModel", "findParts", "(II)V"⟩, 70), (⟨"MailArchiveModel", "mark", "(II)I"⟩, 70)]
theorem lw_r6 : ∀ q ∈ lw_privs_6, lw_okq q := List.forall_mem_cons.mpr ⟨lw_p80, List.forall_mem_cons.mpr ⟨lw_p81, List.forall_mem_cons.mpr ⟨lw_p82, List.forall_mem_cons.mpr ⟨lw_p83, List.forall_mem_cons.mpr ⟨lw_p84, List.forall_mem_cons.mpr ⟨lw_p85, List.forall_mem_cons.mpr ⟨lw_p86, List.forall_mem_cons.mpr ⟨lw_p87, List.forall_mem_cons.mpr ⟨lw_p88, List.forall_mem_cons.mpr ⟨lw_p89, List.forall_mem_cons.mpr ⟨lw_p90, List.forall_mem_cons.mpr ⟨lw_p91, List.forall_mem_cons.mpr ⟨lw_p92, List.forall_mem_cons.mpr ⟨lw_p93, List.forall_mem_cons.mpr ⟨lw_p94, List.forall_mem_cons.mpr ⟨lw_p95, fun _ h => absurd h List.not_mem_nil⟩⟩⟩⟩⟩⟩⟩⟩⟩⟩⟩⟩⟩⟩⟩⟩
theorem lw_p96 : lw_okq (⟨"MailArchiveModel", "addPart", "(II)V"⟩, 70) := ⟨⟨by decide +kernel, by decide +kernel⟩, List.mem_of_getElem? (i := 1352) (by decide +kernel), List.mem_of_getElem? (i := 1824) (by decide +kernel), List.mem_of_getElem? (i := 1825) (by decide +kernel)⟩
theorem lw_p97 : lw_okq (⟨"MailArchiveModel", "quoted", "(II)V"⟩, 70) := ⟨⟨by decide +kernel, by decide +kernel⟩, List.mem_of_getElem? (i := 1352) (by decide +kernel), List.mem_of_getElem? (i := 1832) (by decide +kernel), List.mem_of_getElem? (i := 1833) (by decide +kernel)⟩
theorem lw_p98 : lw_okq (⟨"MailArchiveModel", "dateOf", "()J"⟩, 70) := ⟨⟨by decide +kernel, by decide +kernel⟩, List.mem_of_getElem? (i := 1352) (by decide +kernel), List.mem_of_getElem? (i := 1838) (by decide +kernel), List.mem_of_getElem? (i := 1839) (by decide +kernel)⟩
theorem lw_p99 : lw_okq (⟨"MailArchiveModel", "dateWord", "()I"⟩, 70) := ⟨⟨by decide +kernel, by decide +kernel⟩, List.mem_of_getElem? (i := 1352) (by decide +kernel), List.mem_of_getElem? (i := 1842) (by decide +kernel), List.mem_of_getElem? (i := 1843) (by decide +kernel)⟩
theorem lw_p100 : lw_okq (⟨"MailArchiveModel", "number", "(II)I"⟩, 70) := ⟨⟨by decide +kernel, by decide +kernel⟩, List.mem_of_getElem? (i := 1352) (by decide +kernel), List.mem_of_getElem? (i := 1846) (by decide +kernel), List.mem_of_getElem? (i := 1847) (by decide +kernel)⟩
theorem lw_p101 : lw_okq (⟨"MailArchiveModel", "month", "(II)I"⟩, 70) := ⟨⟨by decide +kernel, by decide +kernel⟩, List.mem_of_getElem? (i := 1352) (by decide +kernel), List.mem_of_getElem? (i := 1850) (by decide +kernel), List.mem_of_getElem? (i := 1851) (by decide +kernel)⟩
theorem lw_p102 : lw_okq (⟨"MailArchiveModel", "clock", "(II)I"⟩, 70) := ⟨⟨by decide +kernel, by decide +kernel⟩, List.mem_of_getElem? (i := 1352) (by decide +kernel), List.mem_of_getElem? (i := 1856) (by decide +kernel), List.mem_of_getElem? (i := 1857) (by decide +kernel)⟩
theorem lw_p103 : lw_okq (⟨"MailArchiveModel", "zone", "(II)I"⟩, 70) := ⟨⟨by decide +kernel, by decide +kernel⟩, List.mem_of_getElem? (i := 1352) (by decide +kernel), List.mem_of_getElem? (i := 1860) (by decide +kernel), List.mem_of_getElem? (i := 1861) (by decide +kernel)⟩
theorem lw_p104 : lw_okq (⟨"MailArchiveModel", "angle", "(I)I"⟩, 70) := ⟨⟨by decide +kernel, by decide +kernel⟩, List.mem_of_getElem? (i := 1352) (by decide +kernel), List.mem_of_getElem? (i := 1864) (by decide +kernel), List.mem_of_getElem? (i := 1865) (by decide +kernel)⟩
theorem lw_p105 : lw_okq (⟨"MailArchiveModel", "isId", "(II)Z"⟩, 70) := ⟨⟨by decide +kernel, by decide +kernel⟩, List.mem_of_getElem? (i := 1352) (by decide +kernel), List.mem_of_getElem? (i := 1868) (by decide +kernel), List.mem_of_getElem? (i := 1869) (by decide +kernel)⟩
theorem lw_p106 : lw_okq (⟨"MailArchiveModel", "readReferences", "(I)V"⟩, 70) := ⟨⟨by decide +kernel, by decide +kernel⟩, List.mem_of_getElem? (i := 1352) (by decide +kernel), List.mem_of_getElem? (i := 1872) (by decide +kernel), List.mem_of_getElem? (i := 1873) (by decide +kernel)⟩
theorem lw_p107 : lw_okq (⟨"MailArchiveModel", "refer", "(II)V"⟩, 70) := ⟨⟨by decide +kernel, by decide +kernel⟩, List.mem_of_getElem? (i := 1352) (by decide +kernel), List.mem_of_getElem? (i := 1876) (by decide +kernel), List.mem_of_getElem? (i := 1877) (by decide +kernel)⟩
theorem lw_p108 : lw_okq (⟨"MailArchiveModel", "node", "([BII)I"⟩, 70) := ⟨⟨by decide +kernel, by decide +kernel⟩, List.mem_of_getElem? (i := 1352) (by decide +kernel), List.mem_of_getElem? (i := 1880) (by decide +kernel), List.mem_of_getElem? (i := 1881) (by decide +kernel)⟩
theorem lw_p109 : lw_okq (⟨"MailArchiveModel", "isUnder", "(II)Z"⟩, 70) := ⟨⟨by decide +kernel, by decide +kernel⟩, List.mem_of_getElem? (i := 1352) (by decide +kernel), List.mem_of_getElem? (i := 1884) (by decide +kernel), List.mem_of_getElem? (i := 1885) (by decide +kernel)⟩
theorem lw_p110 : lw_okq (⟨"MailArchiveModel", "matches", "(I)Z"⟩, 70) := ⟨⟨by decide +kernel, by decide +kernel⟩, List.mem_of_getElem? (i := 1352) (by decide +kernel), List.mem_of_getElem? (i := 1888) (by decide +kernel), List.mem_of_getElem? (i := 1889) (by decide +kernel)⟩
theorem lw_p111 : lw_okq (⟨"MailArchiveModel", "isLeaf", "(II)Z"⟩, 70) := ⟨⟨by decide +kernel, by decide +kernel⟩, List.mem_of_getElem? (i := 1352) (by decide +kernel), List.mem_of_getElem? (i := 1892) (by decide +kernel), List.mem_of_getElem? (i := 1893) (by decide +kernel)⟩
def lw_privs_7 : List (MethodName × Nat) := [(⟨"MailArchiveModel", "addPart", "(II)V"⟩, 70), (⟨"MailArchiveModel", "quoted", "(II)V"⟩, 70), (⟨"MailArchiveModel", "dateOf", "()J"⟩, 70), (⟨"MailArchiveModel", "dateWord", "()I"⟩, 70), (⟨"MailArchiveModel", "number", "(II)I"⟩, 70), (⟨"MailArchiveModel", "month", "(II)I"⟩, 70), (⟨"MailArchiveModel", "clock", "(II)I"⟩, 70), (⟨"MailArchiveModel", "zone", "(II)I"⟩, 70), (⟨"MailArchiveModel", "angle", "(I)I"⟩, 70), (⟨"MailArchiveModel", "isId", "(II)Z"⟩, 70), (⟨"MailArchiveModel", "readReferences", "(I)V"⟩, 70), (⟨"MailArchiveModel", "refer", "(II)V"⟩, 70), (⟨"MailArchiveModel", "node", "([BII)I"⟩, 70), (⟨"MailArchiveModel", "isUnder", "(II)Z"⟩, 70), (⟨"MailArchiveModel", "matches", "(I)Z"⟩, 70), (⟨"MailArchiveModel", "isLeaf", "(II)Z"⟩, 70)]
theorem lw_r7 : ∀ q ∈ lw_privs_7, lw_okq q := List.forall_mem_cons.mpr ⟨lw_p96, List.forall_mem_cons.mpr ⟨lw_p97, List.forall_mem_cons.mpr ⟨lw_p98, List.forall_mem_cons.mpr ⟨lw_p99, List.forall_mem_cons.mpr ⟨lw_p100, List.forall_mem_cons.mpr ⟨lw_p101, List.forall_mem_cons.mpr ⟨lw_p102, List.forall_mem_cons.mpr ⟨lw_p103, List.forall_mem_cons.mpr ⟨lw_p104, List.forall_mem_cons.mpr ⟨lw_p105, List.forall_mem_cons.mpr ⟨lw_p106, List.forall_mem_cons.mpr ⟨lw_p107, List.forall_mem_cons.mpr ⟨lw_p108, List.forall_mem_cons.mpr ⟨lw_p109, List.forall_mem_cons.mpr ⟨lw_p110, List.forall_mem_cons.mpr ⟨lw_p111, fun _ h => absurd h List.not_mem_nil⟩⟩⟩⟩⟩⟩⟩⟩⟩⟩⟩⟩⟩⟩⟩⟩
theorem lw_p112 : lw_okq (⟨"MailArchiveModel", "hasTag", "(I[BII)Z"⟩, 70) := ⟨⟨by decide +kernel, by decide +kernel⟩, List.mem_of_getElem? (i := 1352) (by decide +kernel), List.mem_of_getElem? (i := 1896) (by decide +kernel), List.mem_of_getElem? (i := 1897) (by decide +kernel)⟩
theorem lw_p113 : lw_okq (⟨"MailArchiveModel", "threadOf", "(I)I"⟩, 70) := ⟨⟨by decide +kernel, by decide +kernel⟩, List.mem_of_getElem? (i := 1352) (by decide +kernel), List.mem_of_getElem? (i := 1900) (by decide +kernel), List.mem_of_getElem? (i := 1901) (by decide +kernel)⟩
theorem lw_p114 : lw_okq (⟨"MailArchiveModel", "root", "(I)I"⟩, 70) := ⟨⟨by decide +kernel, by decide +kernel⟩, List.mem_of_getElem? (i := 1352) (by decide +kernel), List.mem_of_getElem? (i := 1904) (by decide +kernel), List.mem_of_getElem? (i := 1905) (by decide +kernel)⟩
theorem lw_p115 : lw_okq (⟨"MailArchiveModel", "stands", "(IZ)Z"⟩, 70) := ⟨⟨by decide +kernel, by decide +kernel⟩, List.mem_of_getElem? (i := 1352) (by decide +kernel), List.mem_of_getElem? (i := 1908) (by decide +kernel), List.mem_of_getElem? (i := 1909) (by decide +kernel)⟩
theorem lw_p116 : lw_okq (⟨"MailArchiveModel", "isSameWord", "(IIZ)Z"⟩, 70) := ⟨⟨by decide +kernel, by decide +kernel⟩, List.mem_of_getElem? (i := 1352) (by decide +kernel), List.mem_of_getElem? (i := 1912) (by decide +kernel), List.mem_of_getElem? (i := 1913) (by decide +kernel)⟩
theorem lw_p117 : lw_okq (⟨"MailArchiveModel", "parentOf", "(I)I"⟩, 70) := ⟨⟨by decide +kernel, by decide +kernel⟩, List.mem_of_getElem? (i := 1352) (by decide +kernel), List.mem_of_getElem? (i := 1936) (by decide +kernel), List.mem_of_getElem? (i := 1937) (by decide +kernel)⟩
theorem lw_p118 : lw_okq (⟨"MailArchiveModel", "depth", "(I)I"⟩, 70) := ⟨⟨by decide +kernel, by decide +kernel⟩, List.mem_of_getElem? (i := 1352) (by decide +kernel), List.mem_of_getElem? (i := 1940) (by decide +kernel), List.mem_of_getElem? (i := 1941) (by decide +kernel)⟩
theorem lw_p119 : lw_okq (⟨"MailArchiveModel", "addDifferent", "([BII)V"⟩, 70) := ⟨⟨by decide +kernel, by decide +kernel⟩, List.mem_of_getElem? (i := 1352) (by decide +kernel), List.mem_of_getElem? (i := 1952) (by decide +kernel), List.mem_of_getElem? (i := 1953) (by decide +kernel)⟩
def lw_privs_8 : List (MethodName × Nat) := [(⟨"MailArchiveModel", "hasTag", "(I[BII)Z"⟩, 70), (⟨"MailArchiveModel", "threadOf", "(I)I"⟩, 70), (⟨"MailArchiveModel", "root", "(I)I"⟩, 70), (⟨"MailArchiveModel", "stands", "(IZ)Z"⟩, 70), (⟨"MailArchiveModel", "isSameWord", "(IIZ)Z"⟩, 70), (⟨"MailArchiveModel", "parentOf", "(I)I"⟩, 70), (⟨"MailArchiveModel", "depth", "(I)I"⟩, 70), (⟨"MailArchiveModel", "addDifferent", "([BII)V"⟩, 70)]
theorem lw_r8 : ∀ q ∈ lw_privs_8, lw_okq q := List.forall_mem_cons.mpr ⟨lw_p112, List.forall_mem_cons.mpr ⟨lw_p113, List.forall_mem_cons.mpr ⟨lw_p114, List.forall_mem_cons.mpr ⟨lw_p115, List.forall_mem_cons.mpr ⟨lw_p116, List.forall_mem_cons.mpr ⟨lw_p117, List.forall_mem_cons.mpr ⟨lw_p118, List.forall_mem_cons.mpr ⟨lw_p119, fun _ h => absurd h List.not_mem_nil⟩⟩⟩⟩⟩⟩⟩⟩
def lw_privs : List (MethodName × Nat) := lw_privs_1 ++ (lw_privs_2 ++ (lw_privs_3 ++ (lw_privs_4 ++ (lw_privs_5 ++ (lw_privs_6 ++ (lw_privs_7 ++ (lw_privs_8)))))))
def lw_tbl : List Cond := k2_sels lw_privs ++ tables_1
theorem lw_privs_ok : ∀ q ∈ lw_privs, lw_okq q := by
  show ∀ q ∈ lw_privs_1 ++ (lw_privs_2 ++ (lw_privs_3 ++ (lw_privs_4 ++ (lw_privs_5 ++ (lw_privs_6 ++ (lw_privs_7 ++ (lw_privs_8))))))), lw_okq q
  exact List.forall_mem_append.mpr ⟨lw_r1, List.forall_mem_append.mpr ⟨lw_r2, List.forall_mem_append.mpr ⟨lw_r3, List.forall_mem_append.mpr ⟨lw_r4, List.forall_mem_append.mpr ⟨lw_r5, List.forall_mem_append.mpr ⟨lw_r6, List.forall_mem_append.mpr ⟨lw_r7, lw_r8⟩⟩⟩⟩⟩⟩⟩
end
section
def RX0 : String := "MailArchive$Book"
def TX0 : u_T := fun k => match k with
  | 0 => ("MailArchive$Book", "heads", "[I", true)
  | 1 => ("MailArchive$Book", "nexts", "[I", false)
  | 2 => ("MailArchive$Book", "starts", "[I", false)
  | 3 => ("MailArchive$Book", "rounds", "[I", false)
  | 4 => ("MailArchive$Book", "row", "[B", false)
  | 5 => ("MailArchive$Book", "entries", "I", false)
  | _ => ("MailArchive$Book", "round", "I", false)
def tyX0 : Nat → FieldType := fun k => match k with
  | 0 => .array .int
  | 1 => .array .int
  | 2 => .array .int
  | 3 => .array .int
  | 4 => .array .byte
  | 5 => .int
  | _ => .int
theorem nmX0 : ∀ a, a < 7 → ∀ b, b < 7 → a ≠ b → (TX0 a).2.1 ≠ (TX0 b).2.1 := by decide +kernel
theorem tyX0_ok : ∀ k, k < 7 → parseFieldDescriptor (TX0 k).2.2.1 = some (tyX0 k) := by decide +kernel
abbrev cX0_init : ByteArray := prog_2_method_1_code
def yX0_init : MethodName := ⟨RX0, "<init>", "()V"⟩
abbrev cX0_entryCount : ByteArray := prog_2_method_2_code
def yX0_entryCount : MethodName := ⟨RX0, "entryCount", "()I"⟩
abbrev cX0_sizeOf : ByteArray := prog_2_method_3_code
def yX0_sizeOf : MethodName := ⟨RX0, "sizeOf", "(I)I"⟩
abbrev cX0_byteOf : ByteArray := prog_2_method_4_code
def yX0_byteOf : MethodName := ⟨RX0, "byteOf", "(II)I"⟩
abbrev cX0_find : ByteArray := prog_2_method_5_code
def yX0_find : MethodName := ⟨RX0, "find", "(LMailArchive$Bytes;II)I"⟩
abbrev cX0_enter : ByteArray := prog_2_method_6_code
def yX0_enter : MethodName := ⟨RX0, "enter", "(LMailArchive$Bytes;II)I"⟩
abbrev cX0_begins : ByteArray := prog_2_method_7_code
def yX0_begins : MethodName := ⟨RX0, "begins", "(ILMailArchive$Bytes;II)Z"⟩
abbrev cX0_isAhead : ByteArray := prog_2_method_8_code
def yX0_isAhead : MethodName := ⟨RX0, "isAhead", "(II)Z"⟩
abbrev cX0_startRound : ByteArray := prog_2_method_9_code
def yX0_startRound : MethodName := ⟨RX0, "startRound", "()V"⟩
abbrev cX0_isNewInRound : ByteArray := prog_2_method_10_code
def yX0_isNewInRound : MethodName := ⟨RX0, "isNewInRound", "(I)Z"⟩
abbrev cX0_slotOf : ByteArray := prog_2_method_11_code
def yX0_slotOf : MethodName := ⟨RX0, "slotOf", "(LMailArchive$Bytes;II)I"⟩
abbrev cX0_makeRoom : ByteArray := prog_2_method_12_code
def yX0_makeRoom : MethodName := ⟨RX0, "makeRoom", "(II)V"⟩
def RX1 : String := "MailArchive$Bytes"
def TX1 : u_T := fun k => match k with
  | 0 => ("MailArchive$Bytes", "row", "[B", true)
  | _ => ("MailArchive$Bytes", "length", "I", false)
def tyX1 : Nat → FieldType := fun k => match k with
  | 0 => .array .byte
  | _ => .int
theorem nmX1 : ∀ a, a < 2 → ∀ b, b < 2 → a ≠ b → (TX1 a).2.1 ≠ (TX1 b).2.1 := by decide +kernel
theorem tyX1_ok : ∀ k, k < 2 → parseFieldDescriptor (TX1 k).2.2.1 = some (tyX1 k) := by decide +kernel
abbrev cX1_init : ByteArray := prog_3_method_1_code
def yX1_init : MethodName := ⟨RX1, "<init>", "(I)V"⟩
abbrev cX1_size : ByteArray := prog_3_method_2_code
def yX1_size : MethodName := ⟨RX1, "size", "()I"⟩
abbrev cX1_byteAt : ByteArray := prog_3_method_3_code
def yX1_byteAt : MethodName := ⟨RX1, "byteAt", "(I)I"⟩
abbrev cX1_clear : ByteArray := prog_3_method_4_code
def yX1_clear : MethodName := ⟨RX1, "clear", "()V"⟩
abbrev cX1_put : ByteArray := prog_3_method_5_code
def yX1_put : MethodName := ⟨RX1, "put", "(I)V"⟩
abbrev cX1_putNumber : ByteArray := prog_3_method_6_code
def yX1_putNumber : MethodName := ⟨RX1, "putNumber", "(I)V"⟩
abbrev cX1_putAll : ByteArray := prog_3_method_7_code
def yX1_putAll : MethodName := ⟨RX1, "putAll", "(LMailArchive$Bytes;II)V"⟩
abbrev cX1_cutBlanksAtEnd : ByteArray := prog_3_method_8_code
def yX1_cutBlanksAtEnd : MethodName := ⟨RX1, "cutBlanksAtEnd", "()V"⟩
abbrev cX1_blanksBack : ByteArray := prog_3_method_9_code
def yX1_blanksBack : MethodName := ⟨RX1, "blanksBack", "(II)I"⟩
abbrev cX1_blanksOn : ByteArray := prog_3_method_10_code
def yX1_blanksOn : MethodName := ⟨RX1, "blanksOn", "(II)I"⟩
abbrev cX1_seek : ByteArray := prog_3_method_11_code
def yX1_seek : MethodName := ⟨RX1, "seek", "(III)I"⟩
abbrev cX1_lineStop : ByteArray := prog_3_method_12_code
def yX1_lineStop : MethodName := ⟨RX1, "lineStop", "(II)I"⟩
abbrev cX1_lineEnd : ByteArray := prog_3_method_13_code
def yX1_lineEnd : MethodName := ⟨RX1, "lineEnd", "(III)I"⟩
abbrev cX1_hasAt : ByteArray := prog_3_method_14_code
def yX1_hasAt : MethodName := ⟨RX1, "hasAt", "(ILjava/lang/String;Z)Z"⟩
abbrev cX1_is : ByteArray := prog_3_method_15_code
def yX1_is : MethodName := ⟨RX1, "is", "(IILjava/lang/String;Z)Z"⟩
abbrev cX1_numberIn : ByteArray := prog_3_method_16_code
def yX1_numberIn : MethodName := ⟨RX1, "numberIn", "(II)I"⟩
abbrev cX1_nextWord : ByteArray := prog_3_method_17_code
def yX1_nextWord : MethodName := ⟨RX1, "nextWord", "(IILMailArchive$Bytes;)I"⟩
def RX2 : String := "MailArchive$Codings"
def TX2 : u_T := fun k => match k with
  | _ => ("", "", "", false)
def tyX2 : Nat → FieldType := fun k => match k with
  | _ => .int
theorem nmX2 : ∀ a, a < 0 → ∀ b, b < 0 → a ≠ b → (TX2 a).2.1 ≠ (TX2 b).2.1 := by decide +kernel
theorem tyX2_ok : ∀ k, k < 0 → parseFieldDescriptor (TX2 k).2.2.1 = some (tyX2 k) := by decide +kernel
abbrev cX2_base64 : ByteArray := prog_4_method_2_code
def yX2_base64 : MethodName := ⟨RX2, "base64", "(LMailArchive$Bytes;IILMailArchive$Bytes;)V"⟩
abbrev cX2_quoted : ByteArray := prog_4_method_3_code
def yX2_quoted : MethodName := ⟨RX2, "quoted", "(LMailArchive$Bytes;IILMailArchive$Bytes;)V"⟩
abbrev cX2_encodedWords : ByteArray := prog_4_method_4_code
def yX2_encodedWords : MethodName := ⟨RX2, "encodedWords", "(LMailArchive$Bytes;LMailArchive$Bytes;)V"⟩
abbrev cX2_encodedStop : ByteArray := prog_4_method_5_code
def yX2_encodedStop : MethodName := ⟨RX2, "encodedStop", "(LMailArchive$Bytes;I)I"⟩
abbrev cX2_encoded : ByteArray := prog_4_method_6_code
def yX2_encoded : MethodName := ⟨RX2, "encoded", "(LMailArchive$Bytes;IILMailArchive$Bytes;)V"⟩
abbrev cX2_escaped : ByteArray := prog_4_method_7_code
def yX2_escaped : MethodName := ⟨RX2, "escaped", "(LMailArchive$Bytes;IIZLMailArchive$Bytes;)V"⟩
def RX3 : String := "MailArchive$Dates"
def TX3 : u_T := fun k => match k with
  | _ => ("", "", "", false)
def tyX3 : Nat → FieldType := fun k => match k with
  | _ => .int
theorem nmX3 : ∀ a, a < 0 → ∀ b, b < 0 → a ≠ b → (TX3 a).2.1 ≠ (TX3 b).2.1 := by decide +kernel
theorem tyX3_ok : ∀ k, k < 0 → parseFieldDescriptor (TX3 k).2.2.1 = some (tyX3 k) := by decide +kernel
abbrev cX3_dayNumber : ByteArray := prog_5_method_2_code
def yX3_dayNumber : MethodName := ⟨RX3, "dayNumber", "(III)I"⟩
abbrev cX3_dayAt : ByteArray := prog_5_method_3_code
def yX3_dayAt : MethodName := ⟨RX3, "dayAt", "(LMailArchive$Bytes;I)I"⟩
abbrev cX3_minutes : ByteArray := prog_5_method_4_code
def yX3_minutes : MethodName := ⟨RX3, "minutes", "(LMailArchive$Bytes;)I"⟩
abbrev cX3_daysIn : ByteArray := prog_5_method_5_code
def yX3_daysIn : MethodName := ⟨RX3, "daysIn", "(II)I"⟩
abbrev cX3_isBetween : ByteArray := prog_5_method_6_code
def yX3_isBetween : MethodName := ⟨RX3, "isBetween", "(I)Z"⟩
abbrev cX3_wordStart : ByteArray := prog_5_method_7_code
def yX3_wordStart : MethodName := ⟨RX3, "wordStart", "(LMailArchive$Bytes;I)I"⟩
abbrev cX3_wordStop : ByteArray := prog_5_method_8_code
def yX3_wordStop : MethodName := ⟨RX3, "wordStop", "(LMailArchive$Bytes;I)I"⟩
abbrev cX3_isOfLetters : ByteArray := prog_5_method_9_code
def yX3_isOfLetters : MethodName := ⟨RX3, "isOfLetters", "(LMailArchive$Bytes;II)Z"⟩
abbrev cX3_monthAt : ByteArray := prog_5_method_10_code
def yX3_monthAt : MethodName := ⟨RX3, "monthAt", "(LMailArchive$Bytes;I)I"⟩
abbrev cX3_isMonthAt : ByteArray := prog_5_method_11_code
def yX3_isMonthAt : MethodName := ⟨RX3, "isMonthAt", "(LMailArchive$Bytes;II)Z"⟩
abbrev cX3_yearIn : ByteArray := prog_5_method_12_code
def yX3_yearIn : MethodName := ⟨RX3, "yearIn", "(LMailArchive$Bytes;II)I"⟩
abbrev cX3_timeIn : ByteArray := prog_5_method_13_code
def yX3_timeIn : MethodName := ⟨RX3, "timeIn", "(LMailArchive$Bytes;II)I"⟩
abbrev cX3_zoneIn : ByteArray := prog_5_method_14_code
def yX3_zoneIn : MethodName := ⟨RX3, "zoneIn", "(LMailArchive$Bytes;II)I"⟩
abbrev cX3_hoursAndMinutes : ByteArray := prog_5_method_15_code
def yX3_hoursAndMinutes : MethodName := ⟨RX3, "hoursAndMinutes", "(LMailArchive$Bytes;II)I"⟩
abbrev cX3_isBelow : ByteArray := prog_5_method_16_code
def yX3_isBelow : MethodName := ⟨RX3, "isBelow", "(II)Z"⟩
def RX4 : String := "MailArchive$Header"
def TX4 : u_T := fun k => match k with
  | 0 => ("MailArchive$Header", "mail", "LMailArchive$Bytes;", true)
  | 1 => ("MailArchive$Header", "valueStarts", "[I", true)
  | 2 => ("MailArchive$Header", "valueStops", "[I", true)
  | 3 => ("MailArchive$Header", "body", "I", false)
  | _ => ("MailArchive$Header", "to", "I", false)
def tyX4 : Nat → FieldType := fun k => match k with
  | 0 => .object "MailArchive$Bytes"
  | 1 => .array .int
  | 2 => .array .int
  | 3 => .int
  | _ => .int
theorem nmX4 : ∀ a, a < 5 → ∀ b, b < 5 → a ≠ b → (TX4 a).2.1 ≠ (TX4 b).2.1 := by decide +kernel
theorem tyX4_ok : ∀ k, k < 5 → parseFieldDescriptor (TX4 k).2.2.1 = some (tyX4 k) := by decide +kernel
abbrev cX4_init : ByteArray := prog_6_method_1_code
def yX4_init : MethodName := ⟨RX4, "<init>", "(LMailArchive$Bytes;)V"⟩
abbrev cX4_readLines : ByteArray := prog_6_method_2_code
def yX4_readLines : MethodName := ⟨RX4, "readLines", "(II)V"⟩
abbrev cX4_writeValue : ByteArray := prog_6_method_3_code
def yX4_writeValue : MethodName := ⟨RX4, "writeValue", "(ILMailArchive$Bytes;)V"⟩
abbrev cX4_colonOf : ByteArray := prog_6_method_4_code
def yX4_colonOf : MethodName := ⟨RX4, "colonOf", "(II)I"⟩
abbrev cX4_nameOf : ByteArray := prog_6_method_5_code
def yX4_nameOf : MethodName := ⟨RX4, "nameOf", "(II)I"⟩
abbrev cX4_startValue : ByteArray := prog_6_method_6_code
def yX4_startValue : MethodName := ⟨RX4, "startValue", "(II)V"⟩
abbrev cX4_stopValue : ByteArray := prog_6_method_7_code
def yX4_stopValue : MethodName := ⟨RX4, "stopValue", "(II)V"⟩
abbrev cX4_nameText : ByteArray := prog_6_method_8_code
def yX4_nameText : MethodName := ⟨RX4, "nameText", "(I)Ljava/lang/String;"⟩
def RX5 : String := "MailArchive$Lexer"
def TX5 : u_T := fun k => match k with
  | 0 => ("MailArchive$Lexer", "query", "LMailArchive$Bytes;", true)
  | 1 => ("MailArchive$Lexer", "place", "I", false)
  | 2 => ("MailArchive$Lexer", "behind", "I", false)
  | 3 => ("MailArchive$Lexer", "field", "I", false)
  | 4 => ("MailArchive$Lexer", "from", "I", false)
  | 5 => ("MailArchive$Lexer", "to", "I", false)
  | 6 => ("MailArchive$Lexer", "inSigns", "Z", false)
  | 7 => ("MailArchive$Lexer", "firstDay", "I", false)
  | _ => ("MailArchive$Lexer", "lastDay", "I", false)
def tyX5 : Nat → FieldType := fun k => match k with
  | 0 => .object "MailArchive$Bytes"
  | 1 => .int
  | 2 => .int
  | 3 => .int
  | 4 => .int
  | 5 => .int
  | 6 => .boolean
  | 7 => .int
  | _ => .int
theorem nmX5 : ∀ a, a < 9 → ∀ b, b < 9 → a ≠ b → (TX5 a).2.1 ≠ (TX5 b).2.1 := by decide +kernel
theorem tyX5_ok : ∀ k, k < 9 → parseFieldDescriptor (TX5 k).2.2.1 = some (tyX5 k) := by decide +kernel
abbrev cX5_init : ByteArray := prog_7_method_1_code
def yX5_init : MethodName := ⟨RX5, "<init>", "(LMailArchive$Bytes;)V"⟩
abbrev cX5_restart : ByteArray := prog_7_method_2_code
def yX5_restart : MethodName := ⟨RX5, "restart", "()V"⟩
abbrev cX5_next : ByteArray := prog_7_method_3_code
def yX5_next : MethodName := ⟨RX5, "next", "()I"⟩
abbrev cX5_readPhrase : ByteArray := prog_7_method_4_code
def yX5_readPhrase : MethodName := ⟨RX5, "readPhrase", "(I)I"⟩
abbrev cX5_readWord : ByteArray := prog_7_method_5_code
def yX5_readWord : MethodName := ⟨RX5, "readWord", "()I"⟩
abbrev cX5_wordStop : ByteArray := prog_7_method_6_code
def yX5_wordStop : MethodName := ⟨RX5, "wordStop", "()I"⟩
abbrev cX5_isSign : ByteArray := prog_7_method_7_code
def yX5_isSign : MethodName := ⟨RX5, "isSign", "(I)Z"⟩
abbrev cX5_readField : ByteArray := prog_7_method_8_code
def yX5_readField : MethodName := ⟨RX5, "readField", "()V"⟩
abbrev cX5_readDays : ByteArray := prog_7_method_9_code
def yX5_readDays : MethodName := ⟨RX5, "readDays", "()Z"⟩
abbrev cX5_fieldText : ByteArray := prog_7_method_10_code
def yX5_fieldText : MethodName := ⟨RX5, "fieldText", "(I)Ljava/lang/String;"⟩
def RX6 : String := "MailArchive$Message"
def TX6 : u_T := fun k => match k with
  | 0 => ("MailArchive$Message", "number", "I", true)
  | 1 => ("MailArchive$Message", "words", "[I", true)
  | 2 => ("MailArchive$Message", "fieldStarts", "[I", true)
  | 3 => ("MailArchive$Message", "date", "I", true)
  | 4 => ("MailArchive$Message", "id", "I", true)
  | 5 => ("MailArchive$Message", "references", "[I", true)
  | 6 => ("MailArchive$Message", "tags", "[I", true)
  | _ => ("MailArchive$Message", "tagCount", "I", false)
def tyX6 : Nat → FieldType := fun k => match k with
  | 0 => .int
  | 1 => .array .int
  | 2 => .array .int
  | 3 => .int
  | 4 => .int
  | 5 => .array .int
  | 6 => .array .int
  | _ => .int
theorem nmX6 : ∀ a, a < 8 → ∀ b, b < 8 → a ≠ b → (TX6 a).2.1 ≠ (TX6 b).2.1 := by decide +kernel
theorem tyX6_ok : ∀ k, k < 8 → parseFieldDescriptor (TX6 k).2.2.1 = some (tyX6 k) := by decide +kernel
abbrev cX6_init : ByteArray := prog_8_method_1_code
def yX6_init : MethodName := ⟨RX6, "<init>", "(I[I[III[I)V"⟩
abbrev cX6_wordsIn : ByteArray := prog_8_method_2_code
def yX6_wordsIn : MethodName := ⟨RX6, "wordsIn", "(I)I"⟩
abbrev cX6_wordAt : ByteArray := prog_8_method_3_code
def yX6_wordAt : MethodName := ⟨RX6, "wordAt", "(II)I"⟩
abbrev cX6_referenceAt : ByteArray := prog_8_method_4_code
def yX6_referenceAt : MethodName := ⟨RX6, "referenceAt", "(I)I"⟩
abbrev cX6_tagAt : ByteArray := prog_8_method_5_code
def yX6_tagAt : MethodName := ⟨RX6, "tagAt", "(I)I"⟩
abbrev cX6_hasTag : ByteArray := prog_8_method_6_code
def yX6_hasTag : MethodName := ⟨RX6, "hasTag", "(I)Z"⟩
abbrev cX6_putTag : ByteArray := prog_8_method_7_code
def yX6_putTag : MethodName := ⟨RX6, "putTag", "(ILMailArchive$Book;)V"⟩
abbrev cX6_dropTag : ByteArray := prog_8_method_8_code
def yX6_dropTag : MethodName := ⟨RX6, "dropTag", "(I)V"⟩
abbrev cX6_tagPlace : ByteArray := prog_8_method_9_code
def yX6_tagPlace : MethodName := ⟨RX6, "tagPlace", "(I)I"⟩
def RX7 : String := "MailArchive$Reader"
def TX7 : u_T := fun k => match k with
  | 0 => ("MailArchive$Reader", "mail", "LMailArchive$Bytes;", true)
  | 1 => ("MailArchive$Reader", "words", "LMailArchive$Book;", true)
  | 2 => ("MailArchive$Reader", "ids", "LMailArchive$Book;", true)
  | 3 => ("MailArchive$Reader", "header", "LMailArchive$Header;", true)
  | 4 => ("MailArchive$Reader", "value", "LMailArchive$Bytes;", true)
  | 5 => ("MailArchive$Reader", "text", "LMailArchive$Bytes;", true)
  | 6 => ("MailArchive$Reader", "word", "LMailArchive$Bytes;", true)
  | 7 => ("MailArchive$Reader", "boundary", "LMailArchive$Bytes;", true)
  | 8 => ("MailArchive$Reader", "wordRow", "[I", true)
  | 9 => ("MailArchive$Reader", "referenceRow", "[I", true)
  | 10 => ("MailArchive$Reader", "partStarts", "[I", true)
  | 11 => ("MailArchive$Reader", "partStops", "[I", true)
  | 12 => ("MailArchive$Reader", "partLevels", "[I", true)
  | 13 => ("MailArchive$Reader", "wordCount", "I", false)
  | _ => ("MailArchive$Reader", "partCount", "I", false)
def tyX7 : Nat → FieldType := fun k => match k with
  | 0 => .object "MailArchive$Bytes"
  | 1 => .object "MailArchive$Book"
  | 2 => .object "MailArchive$Book"
  | 3 => .object "MailArchive$Header"
  | 4 => .object "MailArchive$Bytes"
  | 5 => .object "MailArchive$Bytes"
  | 6 => .object "MailArchive$Bytes"
  | 7 => .object "MailArchive$Bytes"
  | 8 => .array .int
  | 9 => .array .int
  | 10 => .array .int
  | 11 => .array .int
  | 12 => .array .int
  | 13 => .int
  | _ => .int
theorem nmX7 : ∀ a, a < 15 → ∀ b, b < 15 → a ≠ b → (TX7 a).2.1 ≠ (TX7 b).2.1 := by decide +kernel
theorem tyX7_ok : ∀ k, k < 15 → parseFieldDescriptor (TX7 k).2.2.1 = some (tyX7 k) := by decide +kernel
abbrev cX7_init : ByteArray := prog_9_method_1_code
def yX7_init : MethodName := ⟨RX7, "<init>", "(LMailArchive$Bytes;LMailArchive$Book;LMailArchive$Book;)V"⟩
abbrev cX7_read : ByteArray := prog_9_method_2_code
def yX7_read : MethodName := ⟨RX7, "read", "(I)LMailArchive$Message;"⟩
abbrev cX7_takeWords : ByteArray := prog_9_method_3_code
def yX7_takeWords : MethodName := ⟨RX7, "takeWords", "(I)V"⟩
abbrev cX7_writeText : ByteArray := prog_9_method_4_code
def yX7_writeText : MethodName := ⟨RX7, "writeText", "()V"⟩
abbrev cX7_putPart : ByteArray := prog_9_method_5_code
def yX7_putPart : MethodName := ⟨RX7, "putPart", "(III)V"⟩
abbrev cX7_writePart : ByteArray := prog_9_method_6_code
def yX7_writePart : MethodName := ⟨RX7, "writePart", "(I)V"⟩
abbrev cX7_writePlain : ByteArray := prog_9_method_7_code
def yX7_writePlain : MethodName := ⟨RX7, "writePlain", "()V"⟩
abbrev cX7_putParts : ByteArray := prog_9_method_8_code
def yX7_putParts : MethodName := ⟨RX7, "putParts", "(I)V"⟩
abbrev cX7_turnParts : ByteArray := prog_9_method_9_code
def yX7_turnParts : MethodName := ⟨RX7, "turnParts", "(I)V"⟩
abbrev cX7_behindBoundary : ByteArray := prog_9_method_10_code
def yX7_behindBoundary : MethodName := ⟨RX7, "behindBoundary", "(I)I"⟩
abbrev cX7_readBoundary : ByteArray := prog_9_method_11_code
def yX7_readBoundary : MethodName := ⟨RX7, "readBoundary", "(I)V"⟩
abbrev cX7_takeBoundary : ByteArray := prog_9_method_12_code
def yX7_takeBoundary : MethodName := ⟨RX7, "takeBoundary", "(II)V"⟩
abbrev cX7_readDate : ByteArray := prog_9_method_13_code
def yX7_readDate : MethodName := ⟨RX7, "readDate", "()I"⟩
abbrev cX7_readId : ByteArray := prog_9_method_14_code
def yX7_readId : MethodName := ⟨RX7, "readId", "()I"⟩
abbrev cX7_readReferences : ByteArray := prog_9_method_15_code
def yX7_readReferences : MethodName := ⟨RX7, "readReferences", "()[I"⟩
abbrev cX7_takeReferences : ByteArray := prog_9_method_16_code
def yX7_takeReferences : MethodName := ⟨RX7, "takeReferences", "(I)I"⟩
abbrev cX7_firstOf : ByteArray := prog_9_method_17_code
def yX7_firstOf : MethodName := ⟨RX7, "firstOf", "([II)[I"⟩
abbrev cX7_isId : ByteArray := prog_9_method_18_code
def yX7_isId : MethodName := ⟨RX7, "isId", "(II)Z"⟩
def RX8 : String := "MailArchive$Seeker"
def TX8 : u_T := fun k => match k with
  | 0 => ("MailArchive$Seeker", "query", "LMailArchive$Bytes;", true)
  | 1 => ("MailArchive$Seeker", "there", "Ljava/util/ArrayList;", true)
  | 2 => ("MailArchive$Seeker", "threads", "LMailArchive$Threads;", true)
  | 3 => ("MailArchive$Seeker", "words", "LMailArchive$Book;", true)
  | 4 => ("MailArchive$Seeker", "ids", "LMailArchive$Book;", true)
  | 5 => ("MailArchive$Seeker", "tags", "LMailArchive$Book;", true)
  | 6 => ("MailArchive$Seeker", "lexer", "LMailArchive$Lexer;", true)
  | 7 => ("MailArchive$Seeker", "anys", "[J", true)
  | 8 => ("MailArchive$Seeker", "alls", "[J", true)
  | 9 => ("MailArchive$Seeker", "turned", "[Z", true)
  | 10 => ("MailArchive$Seeker", "phrase", "[I", true)
  | 11 => ("MailArchive$Seeker", "word", "LMailArchive$Bytes;", true)
  | 12 => ("MailArchive$Seeker", "phraseCount", "I", false)
  | 13 => ("MailArchive$Seeker", "onlyBegins", "Z", false)
  | 14 => ("MailArchive$Seeker", "level", "I", false)
  | 15 => ("MailArchive$Seeker", "everything", "J", false)
  | _ => ("MailArchive$Seeker", "refusedAt", "I", false)
def tyX8 : Nat → FieldType := fun k => match k with
  | 0 => .object "MailArchive$Bytes"
  | 1 => .object "java/util/ArrayList"
  | 2 => .object "MailArchive$Threads"
  | 3 => .object "MailArchive$Book"
  | 4 => .object "MailArchive$Book"
  | 5 => .object "MailArchive$Book"
  | 6 => .object "MailArchive$Lexer"
  | 7 => .array .long
  | 8 => .array .long
  | 9 => .array .boolean
  | 10 => .array .int
  | 11 => .object "MailArchive$Bytes"
  | 12 => .int
  | 13 => .boolean
  | 14 => .int
  | 15 => .long
  | _ => .int
theorem nmX8 : ∀ a, a < 17 → ∀ b, b < 17 → a ≠ b → (TX8 a).2.1 ≠ (TX8 b).2.1 := by decide +kernel
theorem tyX8_ok : ∀ k, k < 17 → parseFieldDescriptor (TX8 k).2.2.1 = some (tyX8 k) := by decide +kernel
abbrev cX8_init : ByteArray := prog_10_method_1_code
def yX8_init : MethodName := ⟨RX8, "<init>", "(LMailArchive$Bytes;Ljava/util/ArrayList;LMailArchive$Threads;LMailArchive$Book;LMailArchive$Book;LMailArchive$Book;)V"⟩
abbrev cX8_matches : ByteArray := prog_10_method_2_code
def yX8_matches : MethodName := ⟨RX8, "matches", "()J"⟩
abbrev cX8_canStand : ByteArray := prog_10_method_3_code
def yX8_canStand : MethodName := ⟨RX8, "canStand", "(IZZ)Z"⟩
abbrev cX8_take : ByteArray := prog_10_method_4_code
def yX8_take : MethodName := ⟨RX8, "take", "(I)V"⟩
abbrev cX8_isLevel : ByteArray := prog_10_method_5_code
def yX8_isLevel : MethodName := ⟨RX8, "isLevel", "()Z"⟩
abbrev cX8_startLevel : ByteArray := prog_10_method_6_code
def yX8_startLevel : MethodName := ⟨RX8, "startLevel", "(I)V"⟩
abbrev cX8_levelSet : ByteArray := prog_10_method_7_code
def yX8_levelSet : MethodName := ⟨RX8, "levelSet", "()J"⟩
abbrev cX8_startNextAll : ByteArray := prog_10_method_8_code
def yX8_startNextAll : MethodName := ⟨RX8, "startNextAll", "()V"⟩
abbrev cX8_turn : ByteArray := prog_10_method_9_code
def yX8_turn : MethodName := ⟨RX8, "turn", "()V"⟩
abbrev cX8_join : ByteArray := prog_10_method_10_code
def yX8_join : MethodName := ⟨RX8, "join", "(J)V"⟩
abbrev cX8_termSet : ByteArray := prog_10_method_11_code
def yX8_termSet : MethodName := ⟨RX8, "termSet", "()J"⟩
abbrev cX8_isMatch : ByteArray := prog_10_method_12_code
def yX8_isMatch : MethodName := ⟨RX8, "isMatch", "(LMailArchive$Message;II)Z"⟩
abbrev cX8_isInDays : ByteArray := prog_10_method_13_code
def yX8_isInDays : MethodName := ⟨RX8, "isInDays", "(I)Z"⟩
abbrev cX8_readPhrase : ByteArray := prog_10_method_14_code
def yX8_readPhrase : MethodName := ⟨RX8, "readPhrase", "()V"⟩
abbrev cX8_hasPhrase : ByteArray := prog_10_method_15_code
def yX8_hasPhrase : MethodName := ⟨RX8, "hasPhrase", "(LMailArchive$Message;I)Z"⟩
abbrev cX8_standsAt : ByteArray := prog_10_method_16_code
def yX8_standsAt : MethodName := ⟨RX8, "standsAt", "(LMailArchive$Message;II)Z"⟩
def RX9 : String := "MailArchive$Signs"
def TX9 : u_T := fun k => match k with
  | _ => ("", "", "", false)
def tyX9 : Nat → FieldType := fun k => match k with
  | _ => .int
theorem nmX9 : ∀ a, a < 0 → ∀ b, b < 0 → a ≠ b → (TX9 a).2.1 ≠ (TX9 b).2.1 := by decide +kernel
theorem tyX9_ok : ∀ k, k < 0 → parseFieldDescriptor (TX9 k).2.2.1 = some (tyX9 k) := by decide +kernel
abbrev cX9_isBlank : ByteArray := prog_11_method_2_code
def yX9_isBlank : MethodName := ⟨RX9, "isBlank", "(I)Z"⟩
abbrev cX9_isDigit : ByteArray := prog_11_method_3_code
def yX9_isDigit : MethodName := ⟨RX9, "isDigit", "(I)Z"⟩
abbrev cX9_isLetter : ByteArray := prog_11_method_4_code
def yX9_isLetter : MethodName := ⟨RX9, "isLetter", "(I)Z"⟩
abbrev cX9_isOfWord : ByteArray := prog_11_method_5_code
def yX9_isOfWord : MethodName := ⟨RX9, "isOfWord", "(I)Z"⟩
abbrev cX9_isOfName : ByteArray := prog_11_method_6_code
def yX9_isOfName : MethodName := ⟨RX9, "isOfName", "(I)Z"⟩
abbrev cX9_small : ByteArray := prog_11_method_7_code
def yX9_small : MethodName := ⟨RX9, "small", "(I)I"⟩
abbrev cX9_hexDigit : ByteArray := prog_11_method_8_code
def yX9_hexDigit : MethodName := ⟨RX9, "hexDigit", "(I)I"⟩
abbrev cX9_base64Digit : ByteArray := prog_11_method_9_code
def yX9_base64Digit : MethodName := ⟨RX9, "base64Digit", "(I)I"⟩
def RX10 : String := "MailArchive$Threads"
def TX10 : u_T := fun k => match k with
  | 0 => ("MailArchive$Threads", "there", "Ljava/util/ArrayList;", true)
  | 1 => ("MailArchive$Threads", "ids", "LMailArchive$Book;", true)
  | 2 => ("MailArchive$Threads", "aboves", "[I", true)
  | 3 => ("MailArchive$Threads", "holders", "[I", true)
  | 4 => ("MailArchive$Threads", "leasts", "[I", true)
  | 5 => ("MailArchive$Threads", "nodes", "[I", true)
  | _ => ("MailArchive$Threads", "fresh", "Z", false)
def tyX10 : Nat → FieldType := fun k => match k with
  | 0 => .object "java/util/ArrayList"
  | 1 => .object "MailArchive$Book"
  | 2 => .array .int
  | 3 => .array .int
  | 4 => .array .int
  | 5 => .array .int
  | _ => .boolean
theorem nmX10 : ∀ a, a < 7 → ∀ b, b < 7 → a ≠ b → (TX10 a).2.1 ≠ (TX10 b).2.1 := by decide +kernel
theorem tyX10_ok : ∀ k, k < 7 → parseFieldDescriptor (TX10 k).2.2.1 = some (tyX10 k) := by decide +kernel
abbrev cX10_init : ByteArray := prog_12_method_1_code
def yX10_init : MethodName := ⟨RX10, "<init>", "(Ljava/util/ArrayList;LMailArchive$Book;)V"⟩
abbrev cX10_spoil : ByteArray := prog_12_method_2_code
def yX10_spoil : MethodName := ⟨RX10, "spoil", "()V"⟩
abbrev cX10_freshen : ByteArray := prog_12_method_3_code
def yX10_freshen : MethodName := ⟨RX10, "freshen", "()V"⟩
abbrev cX10_threadOf : ByteArray := prog_12_method_4_code
def yX10_threadOf : MethodName := ⟨RX10, "threadOf", "(I)I"⟩
abbrev cX10_parentOf : ByteArray := prog_12_method_5_code
def yX10_parentOf : MethodName := ⟨RX10, "parentOf", "(I)I"⟩
abbrev cX10_depthOf : ByteArray := prog_12_method_6_code
def yX10_depthOf : MethodName := ⟨RX10, "depthOf", "(I)I"⟩
abbrev cX10_nodeOf : ByteArray := prog_12_method_7_code
def yX10_nodeOf : MethodName := ⟨RX10, "nodeOf", "(LMailArchive$Message;I)I"⟩
abbrev cX10_hangMessage : ByteArray := prog_12_method_8_code
def yX10_hangMessage : MethodName := ⟨RX10, "hangMessage", "(LMailArchive$Message;I)V"⟩
abbrev cX10_hang : ByteArray := prog_12_method_9_code
def yX10_hang : MethodName := ⟨RX10, "hang", "(II)V"⟩
abbrev cX10_rootOf : ByteArray := prog_12_method_10_code
def yX10_rootOf : MethodName := ⟨RX10, "rootOf", "(I)I"⟩
abbrev cX10_nodeAt : ByteArray := prog_12_method_11_code
def yX10_nodeAt : MethodName := ⟨RX10, "nodeAt", "(I)I"⟩
abbrev cX10_aboveOf : ByteArray := prog_12_method_12_code
def yX10_aboveOf : MethodName := ⟨RX10, "aboveOf", "(I)I"⟩
abbrev cX10_isNode : ByteArray := prog_12_method_13_code
def yX10_isNode : MethodName := ⟨RX10, "isNode", "(I)Z"⟩
def RX11 : String := "MailArchive"
def TX11 : u_T := fun k => match k with
  | 0 => ("MailArchive", "ready", "LMailArchive$Bytes;", true)
  | 1 => ("MailArchive", "tape", "LMailArchive$Bytes;", true)
  | 2 => ("MailArchive", "given", "LMailArchive$Bytes;", true)
  | 3 => ("MailArchive", "words", "LMailArchive$Book;", true)
  | 4 => ("MailArchive", "ids", "LMailArchive$Book;", true)
  | 5 => ("MailArchive", "tags", "LMailArchive$Book;", true)
  | 6 => ("MailArchive", "there", "Ljava/util/ArrayList;", true)
  | 7 => ("MailArchive", "threads", "LMailArchive$Threads;", true)
  | 8 => ("MailArchive", "reader", "LMailArchive$Reader;", true)
  | 9 => ("MailArchive", "seeker", "LMailArchive$Seeker;", true)
  | 10 => ("MailArchive", "foundNumbers", "[I", true)
  | 11 => ("MailArchive", "foundDates", "[I", true)
  | 12 => ("MailArchive", "toldThreads", "[I", true)
  | 13 => ("MailArchive", "foundCount", "I", false)
  | 14 => ("MailArchive", "toldCount", "I", false)
  | 15 => ("MailArchive", "came", "I", false)
  | _ => ("MailArchive", "refusal", "I", false)
def tyX11 : Nat → FieldType := fun k => match k with
  | 0 => .object "MailArchive$Bytes"
  | 1 => .object "MailArchive$Bytes"
  | 2 => .object "MailArchive$Bytes"
  | 3 => .object "MailArchive$Book"
  | 4 => .object "MailArchive$Book"
  | 5 => .object "MailArchive$Book"
  | 6 => .object "java/util/ArrayList"
  | 7 => .object "MailArchive$Threads"
  | 8 => .object "MailArchive$Reader"
  | 9 => .object "MailArchive$Seeker"
  | 10 => .array .int
  | 11 => .array .int
  | 12 => .array .int
  | 13 => .int
  | 14 => .int
  | 15 => .int
  | _ => .int
theorem nmX11 : ∀ a, a < 17 → ∀ b, b < 17 → a ≠ b → (TX11 a).2.1 ≠ (TX11 b).2.1 := by decide +kernel
theorem tyX11_ok : ∀ k, k < 17 → parseFieldDescriptor (TX11 k).2.2.1 = some (tyX11 k) := by decide +kernel
abbrev cX11_init : ByteArray := prog_1_method_1_code
def yX11_init : MethodName := ⟨RX11, "<init>", "()V"⟩
abbrev cX11_feed : ByteArray := prog_1_method_2_code
def yX11_feed : MethodName := ⟨RX11, "feed", "(IIIII)V"⟩
abbrev cX11_end : ByteArray := prog_1_method_3_code
def yX11_end : MethodName := ⟨RX11, "end", "(I)I"⟩
abbrev cX11_add : ByteArray := prog_1_method_4_code
def yX11_add : MethodName := ⟨RX11, "add", "()I"⟩
abbrev cX11_remove : ByteArray := prog_1_method_5_code
def yX11_remove : MethodName := ⟨RX11, "remove", "(I)V"⟩
abbrev cX11_tag : ByteArray := prog_1_method_6_code
def yX11_tag : MethodName := ⟨RX11, "tag", "(IZ)Z"⟩
abbrev cX11_search : ByteArray := prog_1_method_7_code
def yX11_search : MethodName := ⟨RX11, "search", "()I"⟩
abbrev cX11_fault : ByteArray := prog_1_method_8_code
def yX11_fault : MethodName := ⟨RX11, "fault", "()I"⟩
abbrev cX11_found : ByteArray := prog_1_method_9_code
def yX11_found : MethodName := ⟨RX11, "found", "(I)I"⟩
abbrev cX11_conversations : ByteArray := prog_1_method_10_code
def yX11_conversations : MethodName := ⟨RX11, "conversations", "()I"⟩
abbrev cX11_thread : ByteArray := prog_1_method_11_code
def yX11_thread : MethodName := ⟨RX11, "thread", "(I)I"⟩
abbrev cX11_about : ByteArray := prog_1_method_12_code
def yX11_about : MethodName := ⟨RX11, "about", "(II)I"⟩
abbrev cX11_at : ByteArray := prog_1_method_13_code
def yX11_at : MethodName := ⟨RX11, "at", "(IIII)I"⟩
abbrev cX11_count : ByteArray := prog_1_method_14_code
def yX11_count : MethodName := ⟨RX11, "count", "(I)I"⟩
abbrev cX11_makeReady : ByteArray := prog_1_method_15_code
def yX11_makeReady : MethodName := ⟨RX11, "makeReady", "(IIIII)V"⟩
abbrev cX11_takeTape : ByteArray := prog_1_method_16_code
def yX11_takeTape : MethodName := ⟨RX11, "takeTape", "()V"⟩
abbrev cX11_placeOf : ByteArray := prog_1_method_17_code
def yX11_placeOf : MethodName := ⟨RX11, "placeOf", "(I)I"⟩
abbrev cX11_isTag : ByteArray := prog_1_method_18_code
def yX11_isTag : MethodName := ⟨RX11, "isTag", "(LMailArchive$Bytes;)Z"⟩
abbrev cX11_keepFound : ByteArray := prog_1_method_19_code
def yX11_keepFound : MethodName := ⟨RX11, "keepFound", "(J)V"⟩
abbrev cX11_insertFound : ByteArray := prog_1_method_20_code
def yX11_insertFound : MethodName := ⟨RX11, "insertFound", "(LMailArchive$Message;)V"⟩
abbrev cX11_tellThread : ByteArray := prog_1_method_21_code
def yX11_tellThread : MethodName := ⟨RX11, "tellThread", "(I)V"⟩
abbrev cX11_differentWords : ByteArray := prog_1_method_22_code
def yX11_differentWords : MethodName := ⟨RX11, "differentWords", "()I"⟩
abbrev cX11_differentTags : ByteArray := prog_1_method_23_code
def yX11_differentTags : MethodName := ⟨RX11, "differentTags", "()I"⟩
def RX12 : String := "MailArchiveModel"
def TX12 : u_T := fun k => match k with
  | 0 => ("MailArchiveModel", "thrown", "I", false)
  | 1 => ("MailArchiveModel", "ready", "[B", true)
  | 2 => ("MailArchiveModel", "tape", "[B", true)
  | 3 => ("MailArchiveModel", "taped", "I", false)
  | 4 => ("MailArchiveModel", "came", "I", false)
  | 5 => ("MailArchiveModel", "there", "I", false)
  | 6 => ("MailArchiveModel", "raw", "[B", true)
  | 7 => ("MailArchiveModel", "sizes", "[I", true)
  | 8 => ("MailArchiveModel", "is", "[Z", true)
  | 9 => ("MailArchiveModel", "tagBytes", "[B", true)
  | 10 => ("MailArchiveModel", "tagSizes", "[I", true)
  | 11 => ("MailArchiveModel", "tagged", "[I", true)
  | 12 => ("MailArchiveModel", "current", "I", false)
  | 13 => ("MailArchiveModel", "words", "[I", true)
  | 14 => ("MailArchiveModel", "wordBytes", "[B", true)
  | 15 => ("MailArchiveModel", "wordSizes", "[I", true)
  | 16 => ("MailArchiveModel", "date", "J", false)
  | 17 => ("MailArchiveModel", "idBytes", "[B", true)
  | 18 => ("MailArchiveModel", "idSize", "I", false)
  | 19 => ("MailArchiveModel", "references", "I", false)
  | 20 => ("MailArchiveModel", "referenceBytes", "[B", true)
  | 21 => ("MailArchiveModel", "referenceSizes", "[I", true)
  | 22 => ("MailArchiveModel", "value", "[B", true)
  | 23 => ("MailArchiveModel", "valueSize", "I", false)
  | 24 => ("MailArchiveModel", "out", "[B", true)
  | 25 => ("MailArchiveModel", "outSize", "I", false)
  | 26 => ("MailArchiveModel", "bodyBegin", "I", false)
  | 27 => ("MailArchiveModel", "boundary", "[B", true)
  | 28 => ("MailArchiveModel", "boundarySize", "I", false)
  | 29 => ("MailArchiveModel", "tasks", "I", false)
  | 30 => ("MailArchiveModel", "taskFrom", "[I", true)
  | 31 => ("MailArchiveModel", "taskTo", "[I", true)
  | 32 => ("MailArchiveModel", "taskDepth", "[I", true)
  | 33 => ("MailArchiveModel", "parts", "I", false)
  | 34 => ("MailArchiveModel", "partFrom", "[I", true)
  | 35 => ("MailArchiveModel", "partTo", "[I", true)
  | 36 => ("MailArchiveModel", "at", "I", false)
  | 37 => ("MailArchiveModel", "nodes", "I", false)
  | 38 => ("MailArchiveModel", "nodeBytes", "[B", true)
  | 39 => ("MailArchiveModel", "nodeSizes", "[I", true)
  | 40 => ("MailArchiveModel", "under", "[I", true)
  | 41 => ("MailArchiveModel", "owner", "[I", true)
  | 42 => ("MailArchiveModel", "nodeOf", "[I", true)
  | 43 => ("MailArchiveModel", "query", "[B", true)
  | 44 => ("MailArchiveModel", "querySize", "I", false)
  | 45 => ("MailArchiveModel", "leaves", "I", false)
  | 46 => ("MailArchiveModel", "steps", "I", false)
  | 47 => ("MailArchiveModel", "pile", "I", false)
  | 48 => ("MailArchiveModel", "fault", "I", false)
  | 49 => ("MailArchiveModel", "leafField", "[I", true)
  | 50 => ("MailArchiveModel", "leafFrom", "[I", true)
  | 51 => ("MailArchiveModel", "leafTo", "[I", true)
  | 52 => ("MailArchiveModel", "leafPhrase", "[Z", true)
  | 53 => ("MailArchiveModel", "leafLow", "[J", true)
  | 54 => ("MailArchiveModel", "leafHigh", "[J", true)
  | 55 => ("MailArchiveModel", "step", "[I", true)
  | 56 => ("MailArchiveModel", "signs", "[I", true)
  | 57 => ("MailArchiveModel", "truths", "[Z", true)
  | 58 => ("MailArchiveModel", "asked", "[B", true)
  | 59 => ("MailArchiveModel", "askedSizes", "[I", true)
  | 60 => ("MailArchiveModel", "askedWords", "I", false)
  | 61 => ("MailArchiveModel", "taken", "I", false)
  | 62 => ("MailArchiveModel", "found", "I", false)
  | 63 => ("MailArchiveModel", "threads", "I", false)
  | 64 => ("MailArchiveModel", "hits", "[I", true)
  | 65 => ("MailArchiveModel", "hitThreads", "[I", true)
  | 66 => ("MailArchiveModel", "dates", "[J", true)
  | 67 => ("MailArchiveModel", "different", "I", false)
  | 68 => ("MailArchiveModel", "differentBytes", "[B", true)
  | _ => ("MailArchiveModel", "differentSizes", "[I", true)
def tyX12 : Nat → FieldType := fun k => match k with
  | 0 => .int
  | 1 => .array .byte
  | 2 => .array .byte
  | 3 => .int
  | 4 => .int
  | 5 => .int
  | 6 => .array .byte
  | 7 => .array .int
  | 8 => .array .boolean
  | 9 => .array .byte
  | 10 => .array .int
  | 11 => .array .int
  | 12 => .int
  | 13 => .array .int
  | 14 => .array .byte
  | 15 => .array .int
  | 16 => .long
  | 17 => .array .byte
  | 18 => .int
  | 19 => .int
  | 20 => .array .byte
  | 21 => .array .int
  | 22 => .array .byte
  | 23 => .int
  | 24 => .array .byte
  | 25 => .int
  | 26 => .int
  | 27 => .array .byte
  | 28 => .int
  | 29 => .int
  | 30 => .array .int
  | 31 => .array .int
  | 32 => .array .int
  | 33 => .int
  | 34 => .array .int
  | 35 => .array .int
  | 36 => .int
  | 37 => .int
  | 38 => .array .byte
  | 39 => .array .int
  | 40 => .array .int
  | 41 => .array .int
  | 42 => .array .int
  | 43 => .array .byte
  | 44 => .int
  | 45 => .int
  | 46 => .int
  | 47 => .int
  | 48 => .int
  | 49 => .array .int
  | 50 => .array .int
  | 51 => .array .int
  | 52 => .array .boolean
  | 53 => .array .long
  | 54 => .array .long
  | 55 => .array .int
  | 56 => .array .int
  | 57 => .array .boolean
  | 58 => .array .byte
  | 59 => .array .int
  | 60 => .int
  | 61 => .int
  | 62 => .int
  | 63 => .int
  | 64 => .array .int
  | 65 => .array .int
  | 66 => .array .long
  | 67 => .int
  | 68 => .array .byte
  | _ => .array .int
theorem nmX12 : ∀ a, a < 70 → ∀ b, b < 70 → a ≠ b → (TX12 a).2.1 ≠ (TX12 b).2.1 := by decide +kernel
theorem tyX12_ok : ∀ k, k < 70 → parseFieldDescriptor (TX12 k).2.2.1 = some (tyX12 k) := by decide +kernel
abbrev cX12_init : ByteArray := prog_14_method_1_code
def yX12_init : MethodName := ⟨RX12, "<init>", "()V"⟩
abbrev cX12_thrown : ByteArray := prog_14_method_2_code
def yX12_thrown : MethodName := ⟨RX12, "thrown", "()I"⟩
abbrev cX12_isBlank : ByteArray := prog_14_method_3_code
def yX12_isBlank : MethodName := ⟨RX12, "isBlank", "(I)Z"⟩
abbrev cX12_isDigit : ByteArray := prog_14_method_4_code
def yX12_isDigit : MethodName := ⟨RX12, "isDigit", "(I)Z"⟩
abbrev cX12_small : ByteArray := prog_14_method_5_code
def yX12_small : MethodName := ⟨RX12, "small", "(I)I"⟩
abbrev cX12_isLetter : ByteArray := prog_14_method_6_code
def yX12_isLetter : MethodName := ⟨RX12, "isLetter", "(I)Z"⟩
abbrev cX12_hexadecimal : ByteArray := prog_14_method_7_code
def yX12_hexadecimal : MethodName := ⟨RX12, "hexadecimal", "(I)I"⟩
abbrev cX12_sixtyFour : ByteArray := prog_14_method_8_code
def yX12_sixtyFour : MethodName := ⟨RX12, "sixtyFour", "(I)I"⟩
abbrev cX12_put : ByteArray := prog_14_method_9_code
def yX12_put : MethodName := ⟨RX12, "put", "(I)V"⟩
abbrev cX12_same : ByteArray := prog_14_method_10_code
def yX12_same : MethodName := ⟨RX12, "same", "([BII[III)Z"⟩
abbrev cX12_lineEnd : ByteArray := prog_14_method_11_code
def yX12_lineEnd : MethodName := ⟨RX12, "lineEnd", "([BII)I"⟩
abbrev cX12_textEnd : ByteArray := prog_14_method_12_code
def yX12_textEnd : MethodName := ⟨RX12, "textEnd", "([BIII)I"⟩
abbrev cX12_nameEnd : ByteArray := prog_14_method_13_code
def yX12_nameEnd : MethodName := ⟨RX12, "nameEnd", "([BII)I"⟩
abbrev cX12_addValue : ByteArray := prog_14_method_14_code
def yX12_addValue : MethodName := ⟨RX12, "addValue", "([BII)V"⟩
abbrev cX12_field : ByteArray := prog_14_method_15_code
def yX12_field : MethodName := ⟨RX12, "field", "(III)Z"⟩
abbrev cX12_trim : ByteArray := prog_14_method_16_code
def yX12_trim : MethodName := ⟨RX12, "trim", "()V"⟩
abbrev cX12_base : ByteArray := prog_14_method_17_code
def yX12_base : MethodName := ⟨RX12, "base", "([BII)V"⟩
abbrev cX12_digits : ByteArray := prog_14_method_18_code
def yX12_digits : MethodName := ⟨RX12, "digits", "([BIIZ)V"⟩
abbrev cX12_quoted : ByteArray := prog_14_method_19_code
def yX12_quoted : MethodName := ⟨RX12, "quoted", "(II)V"⟩
abbrev cX12_encodedEnd : ByteArray := prog_14_method_20_code
def yX12_encodedEnd : MethodName := ⟨RX12, "encodedEnd", "(I)I"⟩
abbrev cX12_readEncoded : ByteArray := prog_14_method_21_code
def yX12_readEncoded : MethodName := ⟨RX12, "readEncoded", "()V"⟩
abbrev cX12_isContent : ByteArray := prog_14_method_22_code
def yX12_isContent : MethodName := ⟨RX12, "isContent", "(I[IZ)Z"⟩
abbrev cX12_findBoundary : ByteArray := prog_14_method_23_code
def yX12_findBoundary : MethodName := ⟨RX12, "findBoundary", "(I)V"⟩
abbrev cX12_mark : ByteArray := prog_14_method_24_code
def yX12_mark : MethodName := ⟨RX12, "mark", "(II)I"⟩
abbrev cX12_findParts : ByteArray := prog_14_method_25_code
def yX12_findParts : MethodName := ⟨RX12, "findParts", "(II)V"⟩
abbrev cX12_addPart : ByteArray := prog_14_method_26_code
def yX12_addPart : MethodName := ⟨RX12, "addPart", "(II)V"⟩
abbrev cX12_push : ByteArray := prog_14_method_27_code
def yX12_push : MethodName := ⟨RX12, "push", "(III)V"⟩
abbrev cX12_readBody : ByteArray := prog_14_method_28_code
def yX12_readBody : MethodName := ⟨RX12, "readBody", "(III)V"⟩
abbrev cX12_readText : ByteArray := prog_14_method_29_code
def yX12_readText : MethodName := ⟨RX12, "readText", "(II)V"⟩
abbrev cX12_isWord : ByteArray := prog_14_method_30_code
def yX12_isWord : MethodName := ⟨RX12, "isWord", "(I)Z"⟩
abbrev cX12_split : ByteArray := prog_14_method_31_code
def yX12_split : MethodName := ⟨RX12, "split", "([BIII[B[II)I"⟩
abbrev cX12_readField : ByteArray := prog_14_method_32_code
def yX12_readField : MethodName := ⟨RX12, "readField", "(IIII)V"⟩
abbrev cX12_isLeap : ByteArray := prog_14_method_33_code
def yX12_isLeap : MethodName := ⟨RX12, "isLeap", "(I)Z"⟩
abbrev cX12_monthDays : ByteArray := prog_14_method_34_code
def yX12_monthDays : MethodName := ⟨RX12, "monthDays", "(II)I"⟩
abbrev cX12_days : ByteArray := prog_14_method_35_code
def yX12_days : MethodName := ⟨RX12, "days", "(III)J"⟩
abbrev cX12_dateWord : ByteArray := prog_14_method_36_code
def yX12_dateWord : MethodName := ⟨RX12, "dateWord", "()I"⟩
abbrev cX12_number : ByteArray := prog_14_method_37_code
def yX12_number : MethodName := ⟨RX12, "number", "(II)I"⟩
abbrev cX12_month : ByteArray := prog_14_method_38_code
def yX12_month : MethodName := ⟨RX12, "month", "(II)I"⟩
abbrev cX12_clock : ByteArray := prog_14_method_39_code
def yX12_clock : MethodName := ⟨RX12, "clock", "(II)I"⟩
abbrev cX12_zone : ByteArray := prog_14_method_40_code
def yX12_zone : MethodName := ⟨RX12, "zone", "(II)I"⟩
abbrev cX12_dateOf : ByteArray := prog_14_method_41_code
def yX12_dateOf : MethodName := ⟨RX12, "dateOf", "()J"⟩
abbrev cX12_angle : ByteArray := prog_14_method_42_code
def yX12_angle : MethodName := ⟨RX12, "angle", "(I)I"⟩
abbrev cX12_isId : ByteArray := prog_14_method_43_code
def yX12_isId : MethodName := ⟨RX12, "isId", "(II)Z"⟩
abbrev cX12_refer : ByteArray := prog_14_method_44_code
def yX12_refer : MethodName := ⟨RX12, "refer", "(II)V"⟩
abbrev cX12_readReferences : ByteArray := prog_14_method_45_code
def yX12_readReferences : MethodName := ⟨RX12, "readReferences", "(I)V"⟩
abbrev cX12_read : ByteArray := prog_14_method_46_code
def yX12_read : MethodName := ⟨RX12, "read", "(I)V"⟩
abbrev cX12_node : ByteArray := prog_14_method_47_code
def yX12_node : MethodName := ⟨RX12, "node", "([BII)I"⟩
abbrev cX12_isUnder : ByteArray := prog_14_method_48_code
def yX12_isUnder : MethodName := ⟨RX12, "isUnder", "(II)Z"⟩
abbrev cX12_hang : ByteArray := prog_14_method_49_code
def yX12_hang : MethodName := ⟨RX12, "hang", "(I)V"⟩
abbrev cX12_link : ByteArray := prog_14_method_50_code
def yX12_link : MethodName := ⟨RX12, "link", "()V"⟩
abbrev cX12_root : ByteArray := prog_14_method_51_code
def yX12_root : MethodName := ⟨RX12, "root", "(I)I"⟩
abbrev cX12_threadOf : ByteArray := prog_14_method_52_code
def yX12_threadOf : MethodName := ⟨RX12, "threadOf", "(I)I"⟩
abbrev cX12_parentOf : ByteArray := prog_14_method_53_code
def yX12_parentOf : MethodName := ⟨RX12, "parentOf", "(I)I"⟩
abbrev cX12_refuse : ByteArray := prog_14_method_54_code
def yX12_refuse : MethodName := ⟨RX12, "refuse", "(I)Z"⟩
abbrev cX12_leaf : ByteArray := prog_14_method_55_code
def yX12_leaf : MethodName := ⟨RX12, "leaf", "(IIIZ)I"⟩
abbrev cX12_done : ByteArray := prog_14_method_56_code
def yX12_done : MethodName := ⟨RX12, "done", "(I)V"⟩
abbrev cX12_unwind : ByteArray := prog_14_method_57_code
def yX12_unwind : MethodName := ⟨RX12, "unwind", "(I)V"⟩
abbrev cX12_later : ByteArray := prog_14_method_58_code
def yX12_later : MethodName := ⟨RX12, "later", "(I)V"⟩
abbrev cX12_phraseEnd : ByteArray := prog_14_method_59_code
def yX12_phraseEnd : MethodName := ⟨RX12, "phraseEnd", "(I)I"⟩
abbrev cX12_fieldOf : ByteArray := prog_14_method_60_code
def yX12_fieldOf : MethodName := ⟨RX12, "fieldOf", "(II)I"⟩
abbrev cX12_day : ByteArray := prog_14_method_61_code
def yX12_day : MethodName := ⟨RX12, "day", "(I)J"⟩
abbrev cX12_isDate : ByteArray := prog_14_method_62_code
def yX12_isDate : MethodName := ⟨RX12, "isDate", "(III)Z"⟩
abbrev cX12_isNumber : ByteArray := prog_14_method_63_code
def yX12_isNumber : MethodName := ⟨RX12, "isNumber", "(II)Z"⟩
abbrev cX12_one : ByteArray := prog_14_method_64_code
def yX12_one : MethodName := ⟨RX12, "one", "(II)I"⟩
abbrev cX12_wordEnd : ByteArray := prog_14_method_65_code
def yX12_wordEnd : MethodName := ⟨RX12, "wordEnd", "(I)I"⟩
abbrev cX12_just : ByteArray := prog_14_method_66_code
def yX12_just : MethodName := ⟨RX12, "just", "([BII[I)Z"⟩
abbrev cX12_readQuery : ByteArray := prog_14_method_67_code
def yX12_readQuery : MethodName := ⟨RX12, "readQuery", "()Z"⟩
abbrev cX12_isSameWord : ByteArray := prog_14_method_68_code
def yX12_isSameWord : MethodName := ⟨RX12, "isSameWord", "(IIZ)Z"⟩
abbrev cX12_stands : ByteArray := prog_14_method_69_code
def yX12_stands : MethodName := ⟨RX12, "stands", "(IZ)Z"⟩
abbrev cX12_hasTag : ByteArray := prog_14_method_70_code
def yX12_hasTag : MethodName := ⟨RX12, "hasTag", "(I[BII)Z"⟩
abbrev cX12_isLeaf : ByteArray := prog_14_method_71_code
def yX12_isLeaf : MethodName := ⟨RX12, "isLeaf", "(II)Z"⟩
abbrev cX12_matches : ByteArray := prog_14_method_72_code
def yX12_matches : MethodName := ⟨RX12, "matches", "(I)Z"⟩
abbrev cX12_feed : ByteArray := prog_14_method_73_code
def yX12_feed : MethodName := ⟨RX12, "feed", "(IIIII)V"⟩
abbrev cX12_end : ByteArray := prog_14_method_74_code
def yX12_end : MethodName := ⟨RX12, "end", "(I)I"⟩
abbrev cX12_take : ByteArray := prog_14_method_75_code
def yX12_take : MethodName := ⟨RX12, "take", "()I"⟩
abbrev cX12_isThere : ByteArray := prog_14_method_76_code
def yX12_isThere : MethodName := ⟨RX12, "isThere", "(I)Z"⟩
abbrev cX12_add : ByteArray := prog_14_method_77_code
def yX12_add : MethodName := ⟨RX12, "add", "()I"⟩
abbrev cX12_remove : ByteArray := prog_14_method_78_code
def yX12_remove : MethodName := ⟨RX12, "remove", "(I)V"⟩
abbrev cX12_isTag : ByteArray := prog_14_method_79_code
def yX12_isTag : MethodName := ⟨RX12, "isTag", "(I)Z"⟩
abbrev cX12_tagAt : ByteArray := prog_14_method_80_code
def yX12_tagAt : MethodName := ⟨RX12, "tagAt", "(I[BII)I"⟩
abbrev cX12_moveTag : ByteArray := prog_14_method_81_code
def yX12_moveTag : MethodName := ⟨RX12, "moveTag", "(III)V"⟩
abbrev cX12_tag : ByteArray := prog_14_method_82_code
def yX12_tag : MethodName := ⟨RX12, "tag", "(IZ)Z"⟩
abbrev cX12_search : ByteArray := prog_14_method_83_code
def yX12_search : MethodName := ⟨RX12, "search", "()I"⟩
abbrev cX12_fault : ByteArray := prog_14_method_84_code
def yX12_fault : MethodName := ⟨RX12, "fault", "()I"⟩
abbrev cX12_found : ByteArray := prog_14_method_85_code
def yX12_found : MethodName := ⟨RX12, "found", "(I)I"⟩
abbrev cX12_conversations : ByteArray := prog_14_method_86_code
def yX12_conversations : MethodName := ⟨RX12, "conversations", "()I"⟩
abbrev cX12_thread : ByteArray := prog_14_method_87_code
def yX12_thread : MethodName := ⟨RX12, "thread", "(I)I"⟩
abbrev cX12_depth : ByteArray := prog_14_method_88_code
def yX12_depth : MethodName := ⟨RX12, "depth", "(I)I"⟩
abbrev cX12_about : ByteArray := prog_14_method_89_code
def yX12_about : MethodName := ⟨RX12, "about", "(II)I"⟩
abbrev cX12_at : ByteArray := prog_14_method_90_code
def yX12_at : MethodName := ⟨RX12, "at", "(IIII)I"⟩
abbrev cX12_addDifferent : ByteArray := prog_14_method_91_code
def yX12_addDifferent : MethodName := ⟨RX12, "addDifferent", "([BII)V"⟩
abbrev cX12_count : ByteArray := prog_14_method_92_code
def yX12_count : MethodName := ⟨RX12, "count", "(I)I"⟩
def RJx145de : String := "java/io/Serializable"
def TJx145de : u_T := fun k => match k with
  | _ => ("", "", "", false)
def tyJx145de : Nat → FieldType := fun k => match k with
  | _ => .int
theorem nmJx145de : ∀ a, a < 0 → ∀ b, b < 0 → a ≠ b → (TJx145de a).2.1 ≠ (TJx145de b).2.1 := by decide +kernel
theorem tyJx145de_ok : ∀ k, k < 0 → parseFieldDescriptor (TJx145de k).2.2.1 = some (tyJx145de k) := by decide +kernel
def RJx9f9b0 : String := "java/lang/CharSequence"
def TJx9f9b0 : u_T := fun k => match k with
  | _ => ("", "", "", false)
def tyJx9f9b0 : Nat → FieldType := fun k => match k with
  | _ => .int
theorem nmJx9f9b0 : ∀ a, a < 0 → ∀ b, b < 0 → a ≠ b → (TJx9f9b0 a).2.1 ≠ (TJx9f9b0 b).2.1 := by decide +kernel
theorem tyJx9f9b0_ok : ∀ k, k < 0 → parseFieldDescriptor (TJx9f9b0 k).2.2.1 = some (tyJx9f9b0 k) := by decide +kernel
def RJx8e188 : String := "java/lang/Cloneable"
def TJx8e188 : u_T := fun k => match k with
  | _ => ("", "", "", false)
def tyJx8e188 : Nat → FieldType := fun k => match k with
  | _ => .int
theorem nmJx8e188 : ∀ a, a < 0 → ∀ b, b < 0 → a ≠ b → (TJx8e188 a).2.1 ≠ (TJx8e188 b).2.1 := by decide +kernel
theorem tyJx8e188_ok : ∀ k, k < 0 → parseFieldDescriptor (TJx8e188 k).2.2.1 = some (tyJx8e188 k) := by decide +kernel
def RJxb160c : String := "java/lang/Comparable"
def TJxb160c : u_T := fun k => match k with
  | _ => ("", "", "", false)
def tyJxb160c : Nat → FieldType := fun k => match k with
  | _ => .int
theorem nmJxb160c : ∀ a, a < 0 → ∀ b, b < 0 → a ≠ b → (TJxb160c a).2.1 ≠ (TJxb160c b).2.1 := by decide +kernel
theorem tyJxb160c_ok : ∀ k, k < 0 → parseFieldDescriptor (TJxb160c k).2.2.1 = some (tyJxb160c k) := by decide +kernel
def RJxab1ab : String := "java/lang/Iterable"
def TJxab1ab : u_T := fun k => match k with
  | _ => ("", "", "", false)
def tyJxab1ab : Nat → FieldType := fun k => match k with
  | _ => .int
theorem nmJxab1ab : ∀ a, a < 0 → ∀ b, b < 0 → a ≠ b → (TJxab1ab a).2.1 ≠ (TJxab1ab b).2.1 := by decide +kernel
theorem tyJxab1ab_ok : ∀ k, k < 0 → parseFieldDescriptor (TJxab1ab k).2.2.1 = some (tyJxab1ab k) := by decide +kernel
def RJ9 : String := "java/lang/Math"
def TJ9 : u_T := fun k => match k with
  | _ => ("", "", "", false)
def tyJ9 : Nat → FieldType := fun k => match k with
  | _ => .int
theorem nmJ9 : ∀ a, a < 0 → ∀ b, b < 0 → a ≠ b → (TJ9 a).2.1 ≠ (TJ9 b).2.1 := by decide +kernel
theorem tyJ9_ok : ∀ k, k < 0 → parseFieldDescriptor (TJ9 k).2.2.1 = some (tyJ9 k) := by decide +kernel
abbrev cJ9_floorDiv_7cf53 : ByteArray := prog_24_method_47_code
def yJ9_floorDiv_7cf53 : MethodName := ⟨RJ9, "floorDiv", "(II)I"⟩
abbrev cJ9_max_7cf53 : ByteArray := prog_24_method_65_code
def yJ9_max_7cf53 : MethodName := ⟨RJ9, "max", "(II)I"⟩
abbrev cJ9_min_7cf53 : ByteArray := prog_24_method_69_code
def yJ9_min_7cf53 : MethodName := ⟨RJ9, "min", "(II)I"⟩
def RJ0 : String := "java/lang/String"
def TJ0 : u_T := fun k => match k with
  | _ => ("", "", "", false)
def tyJ0 : Nat → FieldType := fun k => match k with
  | _ => .int
theorem nmJ0 : ∀ a, a < 0 → ∀ b, b < 0 → a ≠ b → (TJ0 a).2.1 ≠ (TJ0 b).2.1 := by decide +kernel
theorem tyJ0_ok : ∀ k, k < 0 → parseFieldDescriptor (TJ0 k).2.2.1 = some (tyJ0 k) := by decide +kernel
abbrev cJ0_length_8abf5 : ByteArray := prog_26_method_54_code
def yJ0_length_8abf5 : MethodName := ⟨RJ0, "length", "()I"⟩
abbrev cJ0_charAt_5068e : ByteArray := prog_26_method_56_code
def yJ0_charAt_5068e : MethodName := ⟨RJ0, "charAt", "(I)C"⟩
abbrev cJ0_coder_7d493 : ByteArray := prog_26_method_152_code
def yJ0_coder_7d493 : MethodName := ⟨RJ0, "coder", "()B"⟩
abbrev cJ0_isLatin1_aae02 : ByteArray := prog_26_method_154_code
def yJ0_isLatin1_aae02 : MethodName := ⟨RJ0, "isLatin1", "()Z"⟩
abbrev cJ0_checkIndex_df160 : ByteArray := prog_26_method_155_code
def yJ0_checkIndex_df160 : MethodName := ⟨RJ0, "checkIndex", "(II)V"⟩
def RJ1 : String := "java/lang/StringLatin1"
def TJ1 : u_T := fun k => match k with
  | _ => ("", "", "", false)
def tyJ1 : Nat → FieldType := fun k => match k with
  | _ => .int
theorem nmJ1 : ∀ a, a < 0 → ∀ b, b < 0 → a ≠ b → (TJ1 a).2.1 ≠ (TJ1 b).2.1 := by decide +kernel
theorem tyJ1_ok : ∀ k, k < 0 → parseFieldDescriptor (TJ1 k).2.2.1 = some (tyJ1 k) := by decide +kernel
abbrev cJ1_charAt_3b067 : ByteArray := prog_27_method_2_code
def yJ1_charAt_3b067 : MethodName := ⟨RJ1, "charAt", "([BI)C"⟩
def RJ2 : String := "java/lang/StringUTF16"
def TJ2 : u_T := fun k => match k with
  | _ => ("", "", "", false)
def tyJ2 : Nat → FieldType := fun k => match k with
  | _ => .int
theorem nmJ2 : ∀ a, a < 0 → ∀ b, b < 0 → a ≠ b → (TJ2 a).2.1 ≠ (TJ2 b).2.1 := by decide +kernel
theorem tyJ2_ok : ∀ k, k < 0 → parseFieldDescriptor (TJ2 k).2.2.1 = some (tyJ2 k) := by decide +kernel
abbrev cJ2_getChar_3b067 : ByteArray := prog_28_method_5_code
def yJ2_getChar_3b067 : MethodName := ⟨RJ2, "getChar", "([BI)C"⟩
abbrev cJ2_length_9d52b : ByteArray := prog_28_method_6_code
def yJ2_length_9d52b : MethodName := ⟨RJ2, "length", "([B)I"⟩
abbrev cJ2_charAt_3b067 : ByteArray := prog_28_method_83_code
def yJ2_charAt_3b067 : MethodName := ⟨RJ2, "charAt", "([BI)C"⟩
abbrev cJ2_checkIndex_2214a : ByteArray := prog_28_method_91_code
def yJ2_checkIndex_2214a : MethodName := ⟨RJ2, "checkIndex", "(I[B)V"⟩
def RJ10 : String := "java/lang/System"
def TJ10 : u_T := fun k => match k with
  | _ => ("", "", "", false)
def tyJ10 : Nat → FieldType := fun k => match k with
  | _ => .int
theorem nmJ10 : ∀ a, a < 0 → ∀ b, b < 0 → a ≠ b → (TJ10 a).2.1 ≠ (TJ10 b).2.1 := by decide +kernel
theorem tyJ10_ok : ∀ k, k < 0 → parseFieldDescriptor (TJ10 k).2.2.1 = some (tyJ10 k) := by decide +kernel
def RJxfd54e : String := "java/lang/constant/Constable"
def TJxfd54e : u_T := fun k => match k with
  | _ => ("", "", "", false)
def tyJxfd54e : Nat → FieldType := fun k => match k with
  | _ => .int
theorem nmJxfd54e : ∀ a, a < 0 → ∀ b, b < 0 → a ≠ b → (TJxfd54e a).2.1 ≠ (TJxfd54e b).2.1 := by decide +kernel
theorem tyJxfd54e_ok : ∀ k, k < 0 → parseFieldDescriptor (TJxfd54e k).2.2.1 = some (tyJxfd54e k) := by decide +kernel
def RJx3cf43 : String := "java/lang/constant/ConstantDesc"
def TJx3cf43 : u_T := fun k => match k with
  | _ => ("", "", "", false)
def tyJx3cf43 : Nat → FieldType := fun k => match k with
  | _ => .int
theorem nmJx3cf43 : ∀ a, a < 0 → ∀ b, b < 0 → a ≠ b → (TJx3cf43 a).2.1 ≠ (TJx3cf43 b).2.1 := by decide +kernel
theorem tyJx3cf43_ok : ∀ k, k < 0 → parseFieldDescriptor (TJx3cf43 k).2.2.1 = some (tyJx3cf43 k) := by decide +kernel
def RJxa1e45 : String := "java/util/AbstractCollection"
def TJxa1e45 : u_T := fun k => match k with
  | _ => ("", "", "", false)
def tyJxa1e45 : Nat → FieldType := fun k => match k with
  | _ => .int
theorem nmJxa1e45 : ∀ a, a < 0 → ∀ b, b < 0 → a ≠ b → (TJxa1e45 a).2.1 ≠ (TJxa1e45 b).2.1 := by decide +kernel
theorem tyJxa1e45_ok : ∀ k, k < 0 → parseFieldDescriptor (TJxa1e45 k).2.2.1 = some (tyJxa1e45 k) := by decide +kernel
abbrev cJxa1e45_init_da8c8 : ByteArray := prog_33_method_1_code
def yJxa1e45_init_da8c8 : MethodName := ⟨RJxa1e45, "<init>", "()V"⟩
def RJxc12de : String := "java/util/AbstractList"
def TJxc12de : u_T := fun k => match k with
  | _ => ("", "", "", false)
def tyJxc12de : Nat → FieldType := fun k => match k with
  | _ => .int
theorem nmJxc12de : ∀ a, a < 0 → ∀ b, b < 0 → a ≠ b → (TJxc12de a).2.1 ≠ (TJxc12de b).2.1 := by decide +kernel
theorem tyJxc12de_ok : ∀ k, k < 0 → parseFieldDescriptor (TJxc12de k).2.2.1 = some (tyJxc12de k) := by decide +kernel
abbrev cJxc12de_init_da8c8 : ByteArray := prog_34_method_1_code
def yJxc12de_init_da8c8 : MethodName := ⟨RJxc12de, "<init>", "()V"⟩
def RJx4a65c : String := "java/util/ArrayList"
def TJx4a65c : u_T := fun k => match k with
  | 0 => ("java/util/AbstractList", "modCount", "I", false)
  | 1 => ("java/util/ArrayList", "elementData", "[Ljava/lang/Object;", false)
  | _ => ("java/util/ArrayList", "size", "I", false)
def tyJx4a65c : Nat → FieldType := fun k => match k with
  | 0 => .int
  | 1 => .array (.object "java/lang/Object")
  | _ => .int
theorem nmJx4a65c : ∀ a, a < 3 → ∀ b, b < 3 → a ≠ b → (TJx4a65c a).2.1 ≠ (TJx4a65c b).2.1 := by decide +kernel
theorem tyJx4a65c_ok : ∀ k, k < 3 → parseFieldDescriptor (TJx4a65c k).2.2.1 = some (tyJx4a65c k) := by decide +kernel
abbrev cJx4a65c_init_da8c8 : ByteArray := prog_35_method_2_code
def yJx4a65c_init_da8c8 : MethodName := ⟨RJx4a65c, "<init>", "()V"⟩
abbrev cJx4a65c_grow_92f84 : ByteArray := prog_35_method_6_code
def yJx4a65c_grow_92f84 : MethodName := ⟨RJx4a65c, "grow", "(I)[Ljava/lang/Object;"⟩
abbrev cJx4a65c_grow_d5877 : ByteArray := prog_35_method_7_code
def yJx4a65c_grow_d5877 : MethodName := ⟨RJx4a65c, "grow", "()[Ljava/lang/Object;"⟩
abbrev cJx4a65c_size_8abf5 : ByteArray := prog_35_method_8_code
def yJx4a65c_size_8abf5 : MethodName := ⟨RJx4a65c, "size", "()I"⟩
abbrev cJx4a65c_elementData_915e3 : ByteArray := prog_35_method_18_code
def yJx4a65c_elementData_915e3 : MethodName := ⟨RJx4a65c, "elementData", "(I)Ljava/lang/Object;"⟩
abbrev cJx4a65c_get_915e3 : ByteArray := prog_35_method_20_code
def yJx4a65c_get_915e3 : MethodName := ⟨RJx4a65c, "get", "(I)Ljava/lang/Object;"⟩
abbrev cJx4a65c_add_72be8 : ByteArray := prog_35_method_24_code
def yJx4a65c_add_72be8 : MethodName := ⟨RJx4a65c, "add", "(Ljava/lang/Object;[Ljava/lang/Object;I)V"⟩
abbrev cJx4a65c_add_9ea2d : ByteArray := prog_35_method_25_code
def yJx4a65c_add_9ea2d : MethodName := ⟨RJx4a65c, "add", "(Ljava/lang/Object;)Z"⟩
abbrev cJx4a65c_remove_915e3 : ByteArray := prog_35_method_29_code
def yJx4a65c_remove_915e3 : MethodName := ⟨RJx4a65c, "remove", "(I)Ljava/lang/Object;"⟩
abbrev cJx4a65c_fastRemove_b59b0 : ByteArray := prog_35_method_39_code
def yJx4a65c_fastRemove_b59b0 : MethodName := ⟨RJx4a65c, "fastRemove", "([Ljava/lang/Object;I)V"⟩
def RJ7 : String := "java/util/Arrays"
def TJ7 : u_T := fun k => match k with
  | _ => ("", "", "", false)
def tyJ7 : Nat → FieldType := fun k => match k with
  | _ => .int
theorem nmJ7 : ∀ a, a < 0 → ∀ b, b < 0 → a ≠ b → (TJ7 a).2.1 ≠ (TJ7 b).2.1 := by decide +kernel
theorem tyJ7_ok : ∀ k, k < 0 → parseFieldDescriptor (TJ7 k).2.2.1 = some (tyJ7 k) := by decide +kernel
abbrev cJ7_fill_53178 : ByteArray := prog_36_method_103_code
def yJ7_fill_53178 : MethodName := ⟨RJ7, "fill", "([II)V"⟩
abbrev cJ7_copyOf_1904c : ByteArray := prog_36_method_119_code
def yJ7_copyOf_1904c : MethodName := ⟨RJ7, "copyOf", "([Ljava/lang/Object;I)[Ljava/lang/Object;"⟩
abbrev cJ7_copyOf_6403c : ByteArray := prog_36_method_120_code
def yJ7_copyOf_6403c : MethodName := ⟨RJ7, "copyOf", "([Ljava/lang/Object;ILjava/lang/Class;)[Ljava/lang/Object;"⟩
abbrev cJ7_copyOf_9075b : ByteArray := prog_36_method_121_code
def yJ7_copyOf_9075b : MethodName := ⟨RJ7, "copyOf", "([BI)[B"⟩
abbrev cJ7_copyOf_59c91 : ByteArray := prog_36_method_123_code
def yJ7_copyOf_59c91 : MethodName := ⟨RJ7, "copyOf", "([II)[I"⟩
def RJx5ef63 : String := "java/util/Collection"
def TJx5ef63 : u_T := fun k => match k with
  | _ => ("", "", "", false)
def tyJx5ef63 : Nat → FieldType := fun k => match k with
  | _ => .int
theorem nmJx5ef63 : ∀ a, a < 0 → ∀ b, b < 0 → a ≠ b → (TJx5ef63 a).2.1 ≠ (TJx5ef63 b).2.1 := by decide +kernel
theorem tyJx5ef63_ok : ∀ k, k < 0 → parseFieldDescriptor (TJx5ef63 k).2.2.1 = some (tyJx5ef63 k) := by decide +kernel
def RJxbd725 : String := "java/util/List"
def TJxbd725 : u_T := fun k => match k with
  | _ => ("", "", "", false)
def tyJxbd725 : Nat → FieldType := fun k => match k with
  | _ => .int
theorem nmJxbd725 : ∀ a, a < 0 → ∀ b, b < 0 → a ≠ b → (TJxbd725 a).2.1 ≠ (TJxbd725 b).2.1 := by decide +kernel
theorem tyJxbd725_ok : ∀ k, k < 0 → parseFieldDescriptor (TJxbd725 k).2.2.1 = some (tyJxbd725 k) := by decide +kernel
def RJ15 : String := "java/util/Objects"
def TJ15 : u_T := fun k => match k with
  | _ => ("", "", "", false)
def tyJ15 : Nat → FieldType := fun k => match k with
  | _ => .int
theorem nmJ15 : ∀ a, a < 0 → ∀ b, b < 0 → a ≠ b → (TJ15 a).2.1 ≠ (TJ15 b).2.1 := by decide +kernel
theorem tyJ15_ok : ∀ k, k < 0 → parseFieldDescriptor (TJ15 k).2.2.1 = some (tyJ15 k) := by decide +kernel
abbrev cJ15_checkIndex_7cf53 : ByteArray := prog_39_method_17_code
def yJ15_checkIndex_7cf53 : MethodName := ⟨RJ15, "checkIndex", "(II)I"⟩
def RJxf0a74 : String := "java/util/RandomAccess"
def TJxf0a74 : u_T := fun k => match k with
  | _ => ("", "", "", false)
def tyJxf0a74 : Nat → FieldType := fun k => match k with
  | _ => .int
theorem nmJxf0a74 : ∀ a, a < 0 → ∀ b, b < 0 → a ≠ b → (TJxf0a74 a).2.1 ≠ (TJxf0a74 b).2.1 := by decide +kernel
theorem tyJxf0a74_ok : ∀ k, k < 0 → parseFieldDescriptor (TJxf0a74 k).2.2.1 = some (tyJxf0a74 k) := by decide +kernel
def RJxa66e6 : String := "java/util/SequencedCollection"
def TJxa66e6 : u_T := fun k => match k with
  | _ => ("", "", "", false)
def tyJxa66e6 : Nat → FieldType := fun k => match k with
  | _ => .int
theorem nmJxa66e6 : ∀ a, a < 0 → ∀ b, b < 0 → a ≠ b → (TJxa66e6 a).2.1 ≠ (TJxa66e6 b).2.1 := by decide +kernel
theorem tyJxa66e6_ok : ∀ k, k < 0 → parseFieldDescriptor (TJxa66e6 k).2.2.1 = some (tyJxa66e6 k) := by decide +kernel
def RJ8 : String := "jdk/internal/util/ArraysSupport"
def TJ8 : u_T := fun k => match k with
  | _ => ("", "", "", false)
def tyJ8 : Nat → FieldType := fun k => match k with
  | _ => .int
theorem nmJ8 : ∀ a, a < 0 → ∀ b, b < 0 → a ≠ b → (TJ8 a).2.1 ≠ (TJ8 b).2.1 := by decide +kernel
theorem tyJ8_ok : ∀ k, k < 0 → parseFieldDescriptor (TJ8 k).2.2.1 = some (tyJ8 k) := by decide +kernel
abbrev cJ8_newLength_cabcc : ByteArray := prog_42_method_27_code
def yJ8_newLength_cabcc : MethodName := ⟨RJ8, "newLength", "(III)I"⟩
abbrev cJ8_hugeLength_7cf53 : ByteArray := prog_42_method_28_code
def yJ8_hugeLength_7cf53 : MethodName := ⟨RJ8, "hugeLength", "(II)I"⟩
def RJ3 : String := "jdk/internal/util/Preconditions"
def TJ3 : u_T := fun k => match k with
  | _ => ("", "", "", false)
def tyJ3 : Nat → FieldType := fun k => match k with
  | _ => .int
theorem nmJ3 : ∀ a, a < 0 → ∀ b, b < 0 → a ≠ b → (TJ3 a).2.1 ≠ (TJ3 b).2.1 := by decide +kernel
theorem tyJ3_ok : ∀ k, k < 0 → parseFieldDescriptor (TJ3 k).2.2.1 = some (tyJ3 k) := by decide +kernel
abbrev cJ3_checkIndex_8e157 : ByteArray := prog_43_method_11_code
def yJ3_checkIndex_8e157 : MethodName := ⟨RJ3, "checkIndex", "(IILjava/util/function/BiFunction;)I"⟩
def RL : String := "MailArchiveLaw"
abbrev cL_add : ByteArray := method_3_code
def yL_add : MethodName := ⟨RL, "add", "(LMailArchive;[J)I"⟩
abbrev cL_remove : ByteArray := method_4_code
def yL_remove : MethodName := ⟨RL, "remove", "(LMailArchive;I)I"⟩
abbrev cL_tag : ByteArray := method_5_code
def yL_tag : MethodName := ⟨RL, "tag", "(LMailArchive;IZ[J)I"⟩
abbrev cL_search : ByteArray := method_6_code
def yL_search : MethodName := ⟨RL, "search", "(LMailArchive;[J)I"⟩
abbrev cL_law : ByteArray := code
def yL_law : MethodName := ⟨RL, "law", "([I)Z"⟩
abbrev vwCl : List vw_C := [(RJx4a65c, TJx4a65c, 3), (RX0, TX0, 7), (RX1, TX1, 2), (RX4, TX4, 5), (RX5, TX5, 9), (RX6, TX6, 8), (RX7, TX7, 15), (RX8, TX8, 17), (RX10, TX10, 7), (RX11, TX11, 17), (RX12, TX12, 70)]
end
section
/-! What was there before the walk: outside objects' fields (which object, declarer, name, descriptor, value), outside arrays (which, type, length, contents), statics, texts by their places, outside objects' classes. 0: ArrayList's empty array; then the texts, each with its bytes behind it. -/
def xOF : List (Nat × String × String × String × (Nat ⊕ Nat ⊕ Value)) := [(1, "java/lang/String", "value", "[B", .inr (.inr (.float 2))), (1, "java/lang/String", "coder", "B", .inl 0), (3, "java/lang/String", "value", "[B", .inr (.inr (.float 4))), (3, "java/lang/String", "coder", "B", .inl 0), (5, "java/lang/String", "value", "[B", .inr (.inr (.float 6))), (5, "java/lang/String", "coder", "B", .inl 0)]
def xT : List (Nat × FieldType × Nat × List Int32) := [(0, .object "java/lang/Object", 0, []), (2, .byte, 36, [106, 97, 110, 102, 101, 98, 109, 97, 114, 97, 112, 114, 109, 97, 121, 106, 117, 110, 106, 117, 108, 97, 117, 103, 115, 101, 112, 111, 99, 116, 110, 111, 118, 100, 101, 99]), (4, .byte, 16, [113, 117, 111, 116, 101, 100, 45, 112, 114, 105, 110, 116, 97, 98, 108, 101]), (6, .byte, 6, [98, 97, 115, 101, 54, 52])]
def xZ : List (String × String × String × (Nat ⊕ Nat ⊕ Value)) := [("java/util/ArrayList", "DEFAULTCAPACITY_EMPTY_ELEMENTDATA", "[Ljava/lang/Object;", .inr (.inr (.float 0))), ("java/lang/String", "COMPACT_STRINGS", "Z", .inl 1), ("jdk/internal/util/Preconditions", "SIOOBE_FORMATTER", "Ljava/util/function/BiFunction;", .inr (.inr (.retAddr 0)))]
def xR : List (String × Nat × String × Nat) := [("MailArchive$Dates", 77, "janfebmaraprmayjunjulaugsepoctnovdec", 1), ("MailArchive$Reader", 174, "quoted-printable", 3), ("MailArchive$Reader", 186, "base64", 5)]
def xO : List (Nat × String) := [(1, "java/lang/String"), (3, "java/lang/String"), (5, "java/lang/String")]
end
section
/-! THE WALK BY COMPUTING. A method's run on a heap that is known is computed by a function of our own ('run', part 06); that the machine does the same is shown once, instruction by instruction (PSnd, Snd). Here: values, cells, locals as that function sees them, and what they mean. -/
/-- a known int, a known long, or a value in the kit's words: .ref k is the k-th cell made since the ground, .float k the k-th cell that was there before -/
abbrev AV : Type := Nat ⊕ Nat ⊕ Value
/-- an array (which kind, how long, what it holds by places, 0 or null elsewhere), or an object (which class, its fields) -/
abbrev AE : Type := (Nat × Nat × List (Nat × AV)) ⊕ (Nat × List AV)
/-- the ground: the first new address, the outside cells, the classes' numbers, the array classes -/
abbrev GG : Type := Nat × (Nat → Nat) × va_G × (Nat → ClassId)
/-- an int that is not known: c % 10 tells which of the script's, c / 10 what was done to it (0 nothing; 1 .. 32 shifted right by 0 .. 31; 33 .. 64 so, then cut to a byte) -/
def gS (g : GG) (c : Nat) : Int32 := match c / 10 with
  | 0 => nI (g.2.1 (2000 + c % 10))
  | m + 1 => match Nat.ble m 31 with
    | true => nI (g.2.1 (2000 + c % 10)) >>> (nI m &&& 31)
    | false => (nI (g.2.1 (2000 + c % 10)) >>> (nI (m - 32) &&& 31)).toInt8.toInt32
/-- .retAddr k: below 10 a reference from outside that may be null, else the int of code k - 10 -/
def cV (g : GG) (a : AV) : Value := match a with
  | .inl n => .int (nI n)
  | .inr (.inl n) => .long (lN n)
  | .inr (.inr v) => match v with
    | .ref k => .ref (g.1 + k)
    | .float k => .ref (g.2.1 k.toNat)
    | .retAddr k => match Nat.ble 10 k with
      | true => .int (gS g (k - 10))
      | false => match g.2.1 (1000 + k) with
        | 0 => .null
        | q + 1 => .ref q
    | w => w
def isI (a : AV) : Bool := match a with
  | .inl _ => true
  | .inr (.inl _) => false
  | .inr (.inr v) => match v with
    | .retAddr k => Nat.ble 10 k
    | _ => false
def gI (g : GG) (a : AV) : Int32 := match a with
  | .inl n => nI n
  | .inr (.inl _) => 0
  | .inr (.inr v) => match v with
    | .retAddr k => gS g (k - 10)
    | _ => 0
def isL (a : AV) : Bool := match a with
  | .inl _ => false
  | .inr (.inl _) => true
  | .inr (.inr v) => match v with
    | .long _ => true
    | _ => false
def gL (a : AV) : Int64 := match a with
  | .inl _ => 0
  | .inr (.inl n) => lN n
  | .inr (.inr v) => match v with
    | .long x => x
    | _ => 0
def isR (a : AV) : Bool := match a with
  | .inl _ => false
  | .inr (.inl _) => false
  | .inr (.inr v) => match v with
    | .ref _ => true
    | .float _ => true
    | _ => false
def gR (g : GG) (a : AV) : Nat := match a with
  | .inl _ => 0
  | .inr (.inl _) => 0
  | .inr (.inr v) => match v with
    | .ref k => g.1 + k
    | .float k => g.2.1 k.toNat
    | _ => 0
def ct (a : AV) : Nat := match a with
  | .inl _ => 1
  | .inr (.inl _) => 2
  | .inr (.inr v) => v.category
theorem cV_I {g : GG} {a : AV} (h : isI a = true) : cV g a = .int (gI g a) := by
  rcases a with n | n | v
  · rfl
  · cases h
  · cases v <;> first | cases h | skip
    rename_i k
    have h : Nat.ble 10 k = true := h
    show (match Nat.ble 10 k with | true => Value.int (gS g (k - 10)) | false => match g.2.1 (1000 + k) with | 0 => Value.null | q + 1 => Value.ref q) = _
    rw [h]
    rfl
theorem cV_L {g : GG} {a : AV} (h : isL a = true) : cV g a = .long (gL a) := by
  rcases a with n | n | v
  · cases h
  · rfl
  · cases v <;> first | rfl | cases h
theorem cV_R {g : GG} {a : AV} (h : isR a = true) : cV g a = .ref (gR g a) := by
  rcases a with n | n | v
  · cases h
  · cases h
  · cases v <;> first | rfl | cases h
theorem cV_cat (g : GG) (a : AV) : (cV g a).category = ct a := by
  rcases a with n | n | v
  · rfl
  · rfl
  · cases v <;> first | rfl | skip
    rename_i k
    show (match Nat.ble 10 k with | true => Value.int (gS g (k - 10)) | false => match g.2.1 (1000 + k) with | 0 => Value.null | q + 1 => Value.ref q).category = 1
    cases Nat.ble 10 k
    · cases g.2.1 (1000 + k) <;> rfl
    · rfl
/-- a number, looked at at once -/
def fz {α : Type} (n : Nat) (k : Nat → α) : α := match n with
  | 0 => k 0
  | m + 1 => k (Nat.succ m)
theorem fz_eq {α : Type} (n : Nat) (k : Nat → α) : fz n k = k n := by cases n <;> rfl
def fzv {α : Type} (a : AV) (k : AV → α) : α := match a with
  | .inl n => fz n (fun n => k (.inl n))
  | .inr (.inl n) => fz n (fun n => k (.inr (.inl n)))
  | .inr (.inr v) => k (.inr (.inr v))
theorem fzv_eq {α : Type} (a : AV) (k : AV → α) : fzv a k = k a := by
  rcases a with n | n | v
  · exact fz_eq n (fun n => k (.inl n))
  · exact fz_eq n (fun n => k (.inr (.inl n)))
  · rfl
def fzs {α β : Type} (l : List α) (k : List α → β) : β := match l with
  | [] => k []
  | a :: t => fzs t (fun t' => k (a :: t'))
theorem fzs_eq {α β : Type} (l : List α) : ∀ (k : List α → β), fzs l k = k l := by
  induction l with
  | nil => intro k; rfl
  | cons a t ih => intro k; exact ih _
def toN (x : Int32) : Nat := x.toBitVec.toNat
theorem nI_toN (x : Int32) : nI (toN x) = x := by
  apply Int32.toBitVec_inj.mp
  show BitVec.ofNat 32 x.toBitVec.toNat = x.toBitVec
  simp
def toN64 (x : Int64) : Nat := x.toBitVec.toNat
theorem lN_toN (x : Int64) : lN (toN64 x) = x := by
  apply Int64.toBitVec_inj.mp
  show BitVec.ofNat 64 x.toBitVec.toNat = x.toBitVec
  simp
-- locals
def cL (g : GG) (L : List (Nat × AV)) : List (Nat × Value) := L.map (fun q => (q.1, cV g q.2))
def alk {α : Type} (L : List (Nat × α)) (i : Nat) : Option α := match L with
  | [] => none
  | q :: t => match Nat.beq q.1 i with
    | true => some q.2
    | false => alk t i
theorem alk_mem {α : Type} {L : List (Nat × α)} {i : Nat} {v : α} (h : alk L i = some v) : (i, v) ∈ L := by
  induction L with
  | nil => cases h
  | cons q t ih =>
    unfold alk at h
    cases hb : Nat.beq q.1 i with
    | true =>
      rw [hb] at h
      have h1 : q.1 = i := Nat.eq_of_beq_eq_true hb
      have h2 : q.2 = v := Option.some.inj h
      subst h1; subst h2
      exact List.mem_cons_self
    | false =>
      rw [hb] at h
      exact List.mem_cons_of_mem _ (ih h)
theorem alk_at {g : GG} {L : List (Nat × AV)} {i nL : Nat} {v : AV} {ls : Array Slot} (hl : lv_has ls nL (cL g L)) (h : alk L i = some v) : ls[i]? = some (.val (cV g v)) :=
  hl.2.2 (i, cV g v) (List.mem_map.mpr ⟨(i, v), alk_mem h, rfl⟩)
def up1 (i : Nat) (v : AV) (L : List (Nat × AV)) : List (Nat × AV) := (i, v) :: L.filter (fun q => !(q.1 == i) && !(q.1 + 1 == i && ct q.2 == 2))
def up2 (i : Nat) (v : AV) (L : List (Nat × AV)) : List (Nat × AV) := (i, v) :: L.filter (fun q => !(q.1 == i) && (!(q.1 == i + 1) && !(q.1 + 1 == i && ct q.2 == 2)))
theorem cL_up1 (g : GG) (i : Nat) (v : AV) (L : List (Nat × AV)) : (i, cV g v) :: (cL g L).filter (fun q => !(q.1 == i) && !(q.1 + 1 == i && q.2.category == 2)) = cL g (up1 i v L) := by
  unfold cL up1
  rw [List.filter_map, List.map_cons]
  congr 2
  apply List.filter_congr
  intro q _
  simp only [Function.comp, cV_cat]
theorem cL_up2 (g : GG) (i : Nat) (v : AV) (L : List (Nat × AV)) : (i, cV g v) :: (cL g L).filter (fun q => !(q.1 == i) && (!(q.1 == i + 1) && !(q.1 + 1 == i && q.2.category == 2))) = cL g (up2 i v L) := by
  unfold cL up2
  rw [List.filter_map, List.map_cons]
  congr 2
  apply List.filter_congr
  intro q _
  simp only [Function.comp, cV_cat]
-- numbers
def iop1 (f : Int32 → Int32) (a : AV) : Option AV := match a with
  | .inl x => some (.inl (toN (f (nI x))))
  | .inr _ => none
theorem iop1_ok {g : GG} {f : Int32 → Int32} {a r : AV} (h : iop1 f a = some r) : cV g a = .int (gI g a) ∧ cV g r = .int (f (gI g a)) ∧ gI g r = f (gI g a) := by
  rcases a with n | b
  · cases h
    have e : nI (toN (f (nI n))) = f (nI n) := nI_toN _
    exact ⟨rfl, by show Value.int (nI (toN _)) = _; rw [e]; rfl, e⟩
  · cases h
def iop2 (f : Int32 → Int32 → Int32) (a b : AV) : Option AV := match a, b with
  | .inl x, .inl y => some (.inl (toN (f (nI x) (nI y))))
  | _, _ => none
theorem iop2_ok {g : GG} {f : Int32 → Int32 → Int32} {a b r : AV} (h : iop2 f a b = some r) : cV g a = .int (gI g a) ∧ cV g b = .int (gI g b) ∧ cV g r = .int (f (gI g a) (gI g b)) := by
  rcases a with n | a <;> rcases b with k | b
  · cases h
    exact ⟨rfl, rfl, by show Value.int (nI (toN _)) = _; rw [nI_toN]; rfl⟩
  · cases h
  · cases h
  · cases h
def f_i2b (x : Int32) : Int32 := x.toInt8.toInt32
def f_shr (x y : Int32) : Int32 := x >>> (y &&& 31)
def shrA (a b : AV) : Option AV := match a, b with
  | .inl x, .inl y => some (.inl (toN (f_shr (nI x) (nI y))))
  | .inr (.inr (.retAddr k)), .inl y => match Nat.ble 10 k && (Nat.blt k 20 && Nat.blt y 32) with
    | true => fz (k + 10 * (y + 1)) (fun q => some (.inr (.inr (.retAddr q))))
    | false => none
  | _, _ => none
theorem shrA_ok {g : GG} {a b r : AV} (h : shrA a b = some r) : cV g a = .int (gI g a) ∧ cV g b = .int (gI g b) ∧ cV g r = .int (f_shr (gI g a) (gI g b)) := by
  rcases a with x | a
  · rcases b with y | b
    · cases h
      exact ⟨rfl, rfl, by show Value.int (nI (toN _)) = _; rw [nI_toN]; rfl⟩
    · cases h
  · rcases a with a | v
    · cases h
    · cases v <;> first | cases h | skip
      rename_i k
      rcases b with y | b
      · simp only [shrA] at h
        cases hb : Nat.ble 10 k && (Nat.blt k 20 && Nat.blt y 32) with
        | false => rw [hb] at h; cases h
        | true =>
          rw [hb] at h
          simp only [fz_eq] at h
          cases h
          rw [Bool.and_eq_true, Bool.and_eq_true] at hb
          have h1 : 10 ≤ k := Nat.ble_eq.mp hb.1
          have h2 : k < 20 := Nat.blt_eq.mp hb.2.1
          have h3 : y < 32 := Nat.blt_eq.mp hb.2.2
          have i2 : isI (.inr (.inr (.retAddr (k + 10 * (y + 1))))) = true := Nat.ble_eq.mpr (by omega)
          refine ⟨cV_I hb.1, rfl, ?_⟩
          rw [cV_I i2]
          show Value.int (gS g (k + 10 * (y + 1) - 10)) = .int (f_shr (gS g (k - 10)) (nI y))
          congr 1
          unfold gS f_shr
          have d1 : (k - 10) / 10 = 0 := by omega
          have d2 : (k + 10 * (y + 1) - 10) / 10 = y + 1 := by omega
          have d3 : (k + 10 * (y + 1) - 10) % 10 = (k - 10) % 10 := by omega
          have d4 : Nat.ble y 31 = true := Nat.ble_eq.mpr (by omega)
          rw [d1, d2, d3]
          simp only [d4]
      · cases h
theorem shr0 (x : Int32) : x >>> (nI 0 &&& 31) = x := by
  apply Int32.toInt_inj.mp
  rw [pk_shr x (nI 0 &&& 31) 0 (by decide +kernel)]
  simp
theorem i2b2 (x : Int32) : f_i2b (f_i2b x) = f_i2b x := by
  have h := pk_nb x
  exact Value.int.inj h
def i2bA (a : AV) : Option AV := match a with
  | .inl x => some (.inl (toN (f_i2b (nI x))))
  | .inr (.inr (.retAddr k)) => match Nat.ble 10 k with
    | false => none
    | true => match Nat.blt k 20 with
      | true => fz (k + 330) (fun q => some (.inr (.inr (.retAddr q))))
      | false => match Nat.blt k 340 with
        | true => fz (k + 320) (fun q => some (.inr (.inr (.retAddr q))))
        | false => some (.inr (.inr (.retAddr k)))
  | _ => none
theorem i2bA_ok {g : GG} {a r : AV} (h : i2bA a = some r) : cV g a = .int (gI g a) ∧ cV g r = .int (f_i2b (gI g a)) ∧ gI g r = f_i2b (gI g a) := by
  rcases a with x | a
  · cases h
    have e : nI (toN (f_i2b (nI x))) = f_i2b (nI x) := nI_toN _
    exact ⟨rfl, by show Value.int (nI (toN _)) = _; rw [e]; rfl, e⟩
  · rcases a with a | v
    · cases h
    · cases v <;> first | cases h | skip
      rename_i k
      simp only [i2bA] at h
      cases h1 : Nat.ble 10 k with
      | false => rw [h1] at h; cases h
      | true =>
        rw [h1] at h
        have g1 : 10 ≤ k := Nat.ble_eq.mp h1
        have key : ∀ q : Nat, 10 ≤ q → gS g (q - 10) = f_i2b (gS g (k - 10)) → cV g (.inr (.inr (.retAddr k))) = .int (gI g (.inr (.inr (.retAddr k)))) ∧ cV g (.inr (.inr (.retAddr q))) = .int (f_i2b (gI g (.inr (.inr (.retAddr k))))) ∧ gI g (.inr (.inr (.retAddr q))) = f_i2b (gI g (.inr (.inr (.retAddr k)))) := by
          intro q hq e
          have i2 : isI (.inr (.inr (.retAddr q))) = true := Nat.ble_eq.mpr hq
          exact ⟨cV_I h1, by rw [cV_I i2]; exact congrArg Value.int e, e⟩
        cases h2 : Nat.blt k 20 with
        | true =>
          rw [h2] at h
          simp only [fz_eq] at h
          cases h
          have g2 : k < 20 := Nat.blt_eq.mp h2
          refine key (k + 330) (by omega) ?_
          unfold gS
          have d1 : (k - 10) / 10 = 0 := by omega
          have d2 : (k + 330 - 10) / 10 = 32 + 1 := by omega
          have d3 : (k + 330 - 10) % 10 = (k - 10) % 10 := by omega
          rw [d1, d2, d3]
          show (nI (g.2.1 (2000 + (k - 10) % 10)) >>> (nI 0 &&& 31)).toInt8.toInt32 = _
          rw [shr0]
          rfl
        | false =>
          rw [h2] at h
          have g2 : 20 ≤ k := by
            rcases Nat.lt_or_ge k 20 with q | q
            · rw [Nat.blt_eq.mpr q] at h2; cases h2
            · exact q
          cases h3 : Nat.blt k 340 with
          | true =>
            rw [h3] at h
            simp only [fz_eq] at h
            cases h
            have g3 : k < 340 := Nat.blt_eq.mp h3
            refine key (k + 320) (by omega) ?_
            obtain ⟨m, hm⟩ : ∃ m, (k - 10) / 10 = m + 1 := ⟨(k - 10) / 10 - 1, by omega⟩
            unfold gS
            have d2 : (k + 320 - 10) / 10 = m + 32 + 1 := by omega
            have d3 : (k + 320 - 10) % 10 = (k - 10) % 10 := by omega
            have d4 : Nat.ble m 31 = true := Nat.ble_eq.mpr (by omega)
            have d5 : Nat.ble (m + 32) 31 = false := by
              cases hq : Nat.ble (m + 32) 31 with
              | false => rfl
              | true => exact absurd (Nat.ble_eq.mp hq) (by omega)
            have d6 : m + 32 - 32 = m := by omega
            rw [hm, d2, d3]
            simp only [d4, d5, d6]
            rfl
          | false =>
            rw [h3] at h
            cases h
            have g3 : 340 ≤ k := by
              rcases Nat.lt_or_ge k 340 with q | q
              · rw [Nat.blt_eq.mpr q] at h3; cases h3
              · exact q
            refine key k g1 ?_
            obtain ⟨m, hm⟩ : ∃ m, (k - 10) / 10 = m + 1 := ⟨(k - 10) / 10 - 1, by omega⟩
            unfold gS
            have d5 : Nat.ble m 31 = false := by
              cases hq : Nat.ble m 31 with
              | false => rfl
              | true => exact absurd (Nat.ble_eq.mp hq) (by omega)
            rw [hm]
            simp only [d5]
            exact (i2b2 _).symm
def lop2 (f : Int64 → Int64 → Int64) (a b : AV) : Option AV := match a, b with
  | .inr (.inl x), .inr (.inl y) => some (.inr (.inl (toN64 (f (lN x) (lN y)))))
  | a, b => match isL a && isL b with
    | true => some (.inr (.inr (.long (f (gL a) (gL b)))))
    | false => none
theorem lop2_ok {g : GG} {f : Int64 → Int64 → Int64} {a b r : AV} (h : lop2 f a b = some r) : cV g a = .long (gL a) ∧ cV g b = .long (gL b) ∧ cV g r = .long (f (gL a) (gL b)) := by
  have key : ∀ a b : AV, (match isL a && isL b with | true => some (.inr (.inr (.long (f (gL a) (gL b))))) | false => none) = some r → cV g a = .long (gL a) ∧ cV g b = .long (gL b) ∧ cV g r = .long (f (gL a) (gL b)) := by
    intro a b h
    cases hb : isL a && isL b with
    | false => rw [hb] at h; cases h
    | true =>
      rw [hb] at h
      cases h
      rw [Bool.and_eq_true] at hb
      exact ⟨cV_L hb.1, cV_L hb.2, rfl⟩
  rcases a with n | n | a <;> rcases b with k | k | b
  all_goals first | exact key _ _ h | skip
  cases h
  exact ⟨rfl, rfl, by show Value.long (lN (toN64 _)) = _; rw [lN_toN]; rfl⟩
/-- what was asked of numbers: which question, of what, and what was foretold -/
abbrev CSL : Type := List (Nat × AV × AV × Bool)
def cnd (c : Nat) (x y : Int32) : Bool := match c with
  | 0 => decide (x = y)
  | 1 => !decide (x = y)
  | 2 => decide (x < y)
  | 3 => decide (y ≤ x)
  | 4 => decide (y < x)
  | 5 => decide (x ≤ y)
  | _ => decide (x.toInt < 0) || decide (y.toInt < x.toInt)
def okc (g : GG) (cs : CSL) : Prop := ∀ q ∈ cs, cnd q.1 (gI g q.2.1) (gI g q.2.2.1) = q.2.2.2
end
section
/-! Steps that touch no cell. -/
section PU
variable {p : Program} {l : Launch} {e : Env} {R : Room} {s : State} {m : MethodId} {args : Array Value} {below : List Frame} {meth : Method} {c : Code} {H : Heap} {locs : List Loc} {cells slots : Nat} {Q : State → Prop}
abbrev LL : Type := List (Nat × AV)
abbrev PF : Type := LL → List AV → Option (Nat × LL × List AV)
/-- the machine does at pc what q computes -/
def PSnd (g : GG) (cc : ByteArray) (nL pc : Nat) (q : PF) : Prop :=
  ∀ (L : LL) (st : List AV) (pc' : Nat) (L' : LL) (st' : List AV), q L st = some (pc', L', st') →
    ∀ (p : Program) (l : Launch) (e : Env) (R : Room) (s : State) (m : MethodId) (args : Array Value) (below : List Frame) (meth : Method) (c : Code) (H : Heap) (locs : List Loc) (cells slots : Nat) (Q : State → Prop) (ls : Array Slot),
      p.tables.exec = Jvm.exec → c.code = cc → lv_has ls nL (cL g L) →
      (∀ ls' : Array Slot, lv_has ls' nL (cL g L') → W p l e R s m args below meth c H locs cells slots Q (F0 m pc' ls' (st'.map (cV g)))) →
      W p l e R s m args below meth c H locs cells slots Q (F0 m pc ls (st.map (cV g)))
variable {g : GG} {cc : ByteArray} {nL pc n : Nat}
-- constants
def q_push (v : AV) (n : Nat) : PF := fun L st => some (n, L, v :: st)
theorem p_iconst {i : Int} {v : Nat} (hd : decode cc pc = .ok (.iconst i, 1)) (hv : Int32.ofInt i = nI v) (hn : pc + 1 = n) : PSnd g cc nL pc (q_push (.inl v) n) := by
  intro L st pc' L' st' h p l e R s m args below meth c H locs cells slots Q ls hx hb hl k
  cases h
  subst hn
  exact lv_iconst hx hb hd hv (k ls hl)
theorem p_bipush {i : Int} {v : Nat} (hd : decode cc pc = .ok (.bipush i, 2)) (hv : (Int8.ofInt i).toInt32 = nI v) (hn : pc + 2 = n) : PSnd g cc nL pc (q_push (.inl v) n) := by
  intro L st pc' L' st' h p l e R s m args below meth c H locs cells slots Q ls hx hb hl k
  cases h
  subst hn
  exact lv_bipush hx hb hd hv (k ls hl)
theorem p_sipush {i : Int} {v : Nat} (hd : decode cc pc = .ok (.sipush i, 3)) (hv : (Int16.ofInt i).toInt32 = nI v) (hn : pc + 3 = n) : PSnd g cc nL pc (q_push (.inl v) n) := by
  intro L st pc' L' st' h p l e R s m args below meth c H locs cells slots Q ls hx hb hl k
  cases h
  subst hn
  exact lv_sipush hx hb hd hv (k ls hl)
theorem p_lconst {i : Fin 2} {v : Nat} (hd : decode cc pc = .ok (.lconst i, 1)) (hv : Int64.ofNat (i : Nat) = lN v) (hn : pc + 1 = n) : PSnd g cc nL pc (q_push (.inr (.inl v)) n) := by
  intro L st pc' L' st' h p l e R s m args below meth c H locs cells slots Q ls hx hb hl k
  cases h
  subst hn
  exact lv_lconst hx hb hd hv (k ls hl)
theorem p_null (hd : decode cc pc = .ok (.aconst_null, 1)) (hn : pc + 1 = n) : PSnd g cc nL pc (q_push (.inr (.inr .null)) n) := by
  intro L st pc' L' st' h p l e R s m args below meth c H locs cells slots Q ls hx hb hl k
  cases h
  subst hn
  exact lv_null hx hb hd (k ls hl)
-- locals
def q_load (t : AV → Bool) (i n : Nat) : PF := fun L st => match alk L i with
  | none => none
  | some v => match t v with
    | true => some (n, L, v :: st)
    | false => none
theorem q_load_ok {t : AV → Bool} {i n : Nat} {L : LL} {st : List AV} {r : Nat × LL × List AV} (h : q_load t i n L st = some r) : ∃ v, alk L i = some v ∧ t v = true ∧ r = (n, L, v :: st) := by
  simp only [q_load] at h
  cases ha : alk L i with
  | none => rw [ha] at h; cases h
  | some v =>
    rw [ha] at h
    simp only at h
    cases ht : t v with
    | false => rw [ht] at h; cases h
    | true => rw [ht] at h; cases h; exact ⟨v, rfl, ht, rfl⟩
theorem p_iload {i : Nat} (hd : decode cc pc = .ok (.iload i, 2)) (hn : pc + 2 = n) : PSnd g cc nL pc (q_load isI i n) := by
  intro L st pc' L' st' h p l e R s m args below meth c H locs cells slots Q ls hx hb hl k
  obtain ⟨v, ha, ht, e1⟩ := q_load_ok h
  cases e1
  subst hn
  have hk := k ls hl
  rw [List.map_cons, cV_I ht] at hk
  have h1 := alk_at hl ha
  rw [cV_I ht] at h1
  exact lv_iload hx hb hd h1 hk
theorem p_iload_n {i : Nat} {f : Fin 4} (hd : decode cc pc = .ok (.iload_n f, 1)) (hf : (f : Nat) = i) (hn : pc + 1 = n) : PSnd g cc nL pc (q_load isI i n) := by
  intro L st pc' L' st' h p l e R s m args below meth c H locs cells slots Q ls hx hb hl k
  obtain ⟨v, ha, ht, e1⟩ := q_load_ok h
  cases e1
  subst hn
  have hk := k ls hl
  rw [List.map_cons, cV_I ht] at hk
  have h1 := alk_at hl ha
  rw [cV_I ht] at h1
  exact lv_iload_n hx hb hd hf h1 hk
theorem p_lload {i : Nat} (hd : decode cc pc = .ok (.lload i, 2)) (hn : pc + 2 = n) : PSnd g cc nL pc (q_load isL i n) := by
  intro L st pc' L' st' h p l e R s m args below meth c H locs cells slots Q ls hx hb hl k
  obtain ⟨v, ha, ht, e1⟩ := q_load_ok h
  cases e1
  subst hn
  have hk := k ls hl
  rw [List.map_cons, cV_L ht] at hk
  have h1 := alk_at hl ha
  rw [cV_L ht] at h1
  exact lv_lload hx hb hd h1 hk
theorem p_lload_n {i : Nat} {f : Fin 4} (hd : decode cc pc = .ok (.lload_n f, 1)) (hf : (f : Nat) = i) (hn : pc + 1 = n) : PSnd g cc nL pc (q_load isL i n) := by
  intro L st pc' L' st' h p l e R s m args below meth c H locs cells slots Q ls hx hb hl k
  obtain ⟨v, ha, ht, e1⟩ := q_load_ok h
  cases e1
  subst hn
  have hk := k ls hl
  rw [List.map_cons, cV_L ht] at hk
  have h1 := alk_at hl ha
  rw [cV_L ht] at h1
  exact lv_lload_n hx hb hd hf h1 hk
theorem p_aload {i : Nat} (hd : decode cc pc = .ok (.aload i, 2)) (hn : pc + 2 = n) : PSnd g cc nL pc (q_load isR i n) := by
  intro L st pc' L' st' h p l e R s m args below meth c H locs cells slots Q ls hx hb hl k
  obtain ⟨v, ha, ht, e1⟩ := q_load_ok h
  cases e1
  subst hn
  have hk := k ls hl
  rw [List.map_cons, cV_R ht] at hk
  have h1 := alk_at hl ha
  rw [cV_R ht] at h1
  exact lv_aload hx hb hd h1 hk
theorem p_aload_n {i : Nat} {f : Fin 4} (hd : decode cc pc = .ok (.aload_n f, 1)) (hf : (f : Nat) = i) (hn : pc + 1 = n) : PSnd g cc nL pc (q_load isR i n) := by
  intro L st pc' L' st' h p l e R s m args below meth c H locs cells slots Q ls hx hb hl k
  obtain ⟨v, ha, ht, e1⟩ := q_load_ok h
  cases e1
  subst hn
  have hk := k ls hl
  rw [List.map_cons, cV_R ht] at hk
  have h1 := alk_at hl ha
  rw [cV_R ht] at h1
  exact lv_aload_n hx hb hd hf h1 hk
def q_store (t : AV → Bool) (up : Nat → AV → LL → LL) (w i nL n : Nat) : PF := fun L st => match st with
  | [] => none
  | v :: r => match t v && Nat.blt (i + w) nL with
    | true => fzs (up i v L) (fun L' => some (n, L', r))
    | false => none
theorem q_store_ok {t : AV → Bool} {up : Nat → AV → LL → LL} {w i nL n : Nat} {L : LL} {st : List AV} {x : Nat × LL × List AV} (h : q_store t up w i nL n L st = some x) : ∃ v r, st = v :: r ∧ t v = true ∧ i + w < nL ∧ x = (n, up i v L, r) := by
  rcases st with _ | ⟨v, r⟩
  · cases h
  · simp only [q_store] at h
    cases hb : t v && Nat.blt (i + w) nL with
    | false => rw [hb] at h; cases h
    | true =>
      rw [hb] at h
      simp only [fzs_eq] at h
      cases h
      rw [Bool.and_eq_true] at hb
      exact ⟨v, r, rfl, hb.1, Nat.blt_eq.mp hb.2, rfl⟩
theorem p_istore {i : Nat} (hd : decode cc pc = .ok (.istore i, 2)) (hn : pc + 2 = n) : PSnd g cc nL pc (q_store isI up1 0 i nL n) := by
  intro L st pc' L' st' h p l e R s m args below meth c H locs cells slots Q ls hx hb hl k
  obtain ⟨v, r, rfl, ht, hi, e1⟩ := q_store_ok h
  cases e1
  subst hn
  rw [List.map_cons, cV_I ht]
  exact lv_istore hx hb hd hl hi (by rw [← cL_up1, cV_I ht]) k
theorem p_istore_n {i : Nat} {f : Fin 4} (hd : decode cc pc = .ok (.istore_n f, 1)) (hf : (f : Nat) = i) (hn : pc + 1 = n) : PSnd g cc nL pc (q_store isI up1 0 i nL n) := by
  intro L st pc' L' st' h p l e R s m args below meth c H locs cells slots Q ls hx hb hl k
  obtain ⟨v, r, rfl, ht, hi, e1⟩ := q_store_ok h
  cases e1
  subst hn
  rw [List.map_cons, cV_I ht]
  exact lv_istore_n hx hb hd hf hl hi (by rw [← cL_up1, cV_I ht]) k
theorem p_astore {i : Nat} (hd : decode cc pc = .ok (.astore i, 2)) (hn : pc + 2 = n) : PSnd g cc nL pc (q_store isR up1 0 i nL n) := by
  intro L st pc' L' st' h p l e R s m args below meth c H locs cells slots Q ls hx hb hl k
  obtain ⟨v, r, rfl, ht, hi, e1⟩ := q_store_ok h
  cases e1
  subst hn
  rw [List.map_cons, cV_R ht]
  exact lv_astore hx hb hd hl hi (by rw [← cL_up1, cV_R ht]) k
theorem p_astore_n {i : Nat} {f : Fin 4} (hd : decode cc pc = .ok (.astore_n f, 1)) (hf : (f : Nat) = i) (hn : pc + 1 = n) : PSnd g cc nL pc (q_store isR up1 0 i nL n) := by
  intro L st pc' L' st' h p l e R s m args below meth c H locs cells slots Q ls hx hb hl k
  obtain ⟨v, r, rfl, ht, hi, e1⟩ := q_store_ok h
  cases e1
  subst hn
  rw [List.map_cons, cV_R ht]
  exact lv_astore_n hx hb hd hf hl hi (by rw [← cL_up1, cV_R ht]) k
theorem p_lstore {i : Nat} (hd : decode cc pc = .ok (.lstore i, 2)) (hn : pc + 2 = n) : PSnd g cc nL pc (q_store isL up2 1 i nL n) := by
  intro L st pc' L' st' h p l e R s m args below meth c H locs cells slots Q ls hx hb hl k
  obtain ⟨v, r, rfl, ht, hi, e1⟩ := q_store_ok h
  cases e1
  subst hn
  rw [List.map_cons, cV_L ht]
  exact lv_lstore hx hb hd hl hi (by rw [← cL_up2, cV_L ht]) k
theorem p_lstore_n {i : Nat} {f : Fin 4} (hd : decode cc pc = .ok (.lstore_n f, 1)) (hf : (f : Nat) = i) (hn : pc + 1 = n) : PSnd g cc nL pc (q_store isL up2 1 i nL n) := by
  intro L st pc' L' st' h p l e R s m args below meth c H locs cells slots Q ls hx hb hl k
  obtain ⟨v, r, rfl, ht, hi, e1⟩ := q_store_ok h
  cases e1
  subst hn
  rw [List.map_cons, cV_L ht]
  exact lv_lstore_n hx hb hd hf hl hi (by rw [← cL_up2, cV_L ht]) k
def q_iinc (i : Nat) (d : Int) (nL n : Nat) : PF := fun L st => match alk L i with
  | none => none
  | some v => match iop1 (fun x => x + Int32.ofInt d) v with
    | none => none
    | some w => match Nat.blt i nL with
      | true => fzv w (fun w => fzs (up1 i w L) (fun L' => some (n, L', st)))
      | false => none
theorem p_iinc {i : Nat} {d : Int} (hd : decode cc pc = .ok (.iinc i d, 3)) (hn : pc + 3 = n) : PSnd g cc nL pc (q_iinc i d nL n) := by
  intro L st pc' L' st' h p l e R s m args below meth c H locs cells slots Q ls hx hb hl k
  simp only [q_iinc] at h
  cases ha : alk L i with
  | none => rw [ha] at h; cases h
  | some v =>
    rw [ha] at h
    simp only at h
    cases hw : iop1 (fun x => x + Int32.ofInt d) v with
    | none => rw [hw] at h; cases h
    | some w =>
      rw [hw] at h
      simp only at h
      cases hi : Nat.blt i nL with
      | false => rw [hi] at h; cases h
      | true =>
        rw [hi] at h
        simp only [fzv_eq, fzs_eq] at h
        cases h
        subst hn
        obtain ⟨h1, h2, -⟩ := iop1_ok (g := g) hw
        have hm : (i, cV g v) ∈ cL g L := List.mem_map.mpr ⟨(i, v), alk_mem ha, rfl⟩
        obtain ⟨j, hj⟩ := List.getElem?_of_mem hm
        rw [h1] at hj
        exact lv_iinc hx hb hd hl hj rfl (Nat.blt_eq.mp hi) (by rw [← cL_up1, h2]) k
-- arithmetic
def q_bin (f : AV → AV → Option AV) (n : Nat) : PF := fun L st => match st with
  | y :: x :: r => match f x y with
    | none => none
    | some v => fzv v (fun v => some (n, L, v :: r))
  | _ => none
theorem q_bin_ok {f : AV → AV → Option AV} {n : Nat} {L : LL} {st : List AV} {z : Nat × LL × List AV} (h : q_bin f n L st = some z) : ∃ x y r v, st = y :: x :: r ∧ f x y = some v ∧ z = (n, L, v :: r) := by
  rcases st with _ | ⟨y, _ | ⟨x, r⟩⟩
  · cases h
  · cases h
  · simp only [q_bin] at h
    cases hf : f x y with
    | none => rw [hf] at h; cases h
    | some v =>
      rw [hf] at h
      simp only [fzv_eq] at h
      cases h
      exact ⟨x, y, r, v, rfl, hf, rfl⟩
def q_un (f : AV → Option AV) (n : Nat) : PF := fun L st => match st with
  | x :: r => match f x with
    | none => none
    | some v => fzv v (fun v => some (n, L, v :: r))
  | _ => none
theorem q_un_ok {f : AV → Option AV} {n : Nat} {L : LL} {st : List AV} {z : Nat × LL × List AV} (h : q_un f n L st = some z) : ∃ x r v, st = x :: r ∧ f x = some v ∧ z = (n, L, v :: r) := by
  rcases st with _ | ⟨x, r⟩
  · cases h
  · simp only [q_un] at h
    cases hf : f x with
    | none => rw [hf] at h; cases h
    | some v =>
      rw [hf] at h
      simp only [fzv_eq] at h
      cases h
      exact ⟨x, r, v, rfl, hf, rfl⟩
/-- a binary instruction on ints, by its row of the kit -/
theorem p_ibin {f : Int32 → Int32 → Int32} (hn : pc + 1 = n)
    (row : ∀ (p : Program) (l : Launch) (e : Env) (R : Room) (s : State) (m : MethodId) (args : Array Value) (below : List Frame) (meth : Method) (c : Code) (H : Heap) (locs : List Loc) (cells slots : Nat) (Q : State → Prop) (ls : Array Slot) (rest : List Value) (x y : Int32), p.tables.exec = Jvm.exec → c.code = cc → W p l e R s m args below meth c H locs cells slots Q (F0 m (pc + 1) ls (.int (f x y) :: rest)) → W p l e R s m args below meth c H locs cells slots Q (F0 m pc ls (.int y :: .int x :: rest))) : PSnd g cc nL pc (q_bin (iop2 f) n) := by
  intro L st pc' L' st' h p l e R s m args below meth c H locs cells slots Q ls hx hb hl k
  obtain ⟨x, y, r, v, rfl, hf, e1⟩ := q_bin_ok h
  cases e1
  subst hn
  obtain ⟨h1, h2, h3⟩ := iop2_ok (g := g) hf
  have hk := k ls hl
  rw [List.map_cons, h3] at hk
  rw [List.map_cons, List.map_cons, h1, h2]
  exact row _ _ _ _ _ _ _ _ _ _ _ _ _ _ _ _ _ _ _ hx hb hk
theorem p_lbin {f : Int64 → Int64 → Int64} (hn : pc + 1 = n)
    (row : ∀ (p : Program) (l : Launch) (e : Env) (R : Room) (s : State) (m : MethodId) (args : Array Value) (below : List Frame) (meth : Method) (c : Code) (H : Heap) (locs : List Loc) (cells slots : Nat) (Q : State → Prop) (ls : Array Slot) (rest : List Value) (x y : Int64), p.tables.exec = Jvm.exec → c.code = cc → W p l e R s m args below meth c H locs cells slots Q (F0 m (pc + 1) ls (.long (f x y) :: rest)) → W p l e R s m args below meth c H locs cells slots Q (F0 m pc ls (.long y :: .long x :: rest))) : PSnd g cc nL pc (q_bin (lop2 f) n) := by
  intro L st pc' L' st' h p l e R s m args below meth c H locs cells slots Q ls hx hb hl k
  obtain ⟨x, y, r, v, rfl, hf, e1⟩ := q_bin_ok h
  cases e1
  subst hn
  obtain ⟨h1, h2, h3⟩ := lop2_ok (g := g) hf
  have hk := k ls hl
  rw [List.map_cons, h3] at hk
  rw [List.map_cons, List.map_cons, h1, h2]
  exact row _ _ _ _ _ _ _ _ _ _ _ _ _ _ _ _ _ _ _ hx hb hk
theorem p_iun {f : Int32 → Int32} (hn : pc + 1 = n)
    (row : ∀ (p : Program) (l : Launch) (e : Env) (R : Room) (s : State) (m : MethodId) (args : Array Value) (below : List Frame) (meth : Method) (c : Code) (H : Heap) (locs : List Loc) (cells slots : Nat) (Q : State → Prop) (ls : Array Slot) (rest : List Value) (x : Int32), p.tables.exec = Jvm.exec → c.code = cc → W p l e R s m args below meth c H locs cells slots Q (F0 m (pc + 1) ls (.int (f x) :: rest)) → W p l e R s m args below meth c H locs cells slots Q (F0 m pc ls (.int x :: rest))) : PSnd g cc nL pc (q_un (iop1 f) n) := by
  intro L st pc' L' st' h p l e R s m args below meth c H locs cells slots Q ls hx hb hl k
  obtain ⟨x, r, v, rfl, hf, e1⟩ := q_un_ok h
  cases e1
  subst hn
  obtain ⟨h1, h3, -⟩ := iop1_ok (g := g) hf
  have hk := k ls hl
  rw [List.map_cons, h3] at hk
  rw [List.map_cons, h1]
  exact row _ _ _ _ _ _ _ _ _ _ _ _ _ _ _ _ _ _ hx hb hk
def f_shl (x y : Int32) : Int32 := x <<< (y &&& 31)
def f_ushr (x y : Int32) : Int32 := (x.toUInt32 >>> (y.toUInt32 &&& Int32.toUInt32 31)).toInt32
def f_i2c (x : Int32) : Int32 := (x.toUInt32 % 65536).toInt32
theorem p_iadd (hd : decode cc pc = .ok (.iadd, 1)) (hn : pc + 1 = n) : PSnd g cc nL pc (q_bin (iop2 (fun x y => x + y)) n) := p_ibin hn fun _ _ _ _ _ _ _ _ _ _ _ _ _ _ _ _ _ _ _ hx hb k => lv_iadd hx hb hd k
theorem p_isub (hd : decode cc pc = .ok (.isub, 1)) (hn : pc + 1 = n) : PSnd g cc nL pc (q_bin (iop2 (fun x y => x - y)) n) := p_ibin hn fun _ _ _ _ _ _ _ _ _ _ _ _ _ _ _ _ _ _ _ hx hb k => lv_isub hx hb hd k
theorem p_imul (hd : decode cc pc = .ok (.imul, 1)) (hn : pc + 1 = n) : PSnd g cc nL pc (q_bin (iop2 (fun x y => x * y)) n) := p_ibin hn fun _ _ _ _ _ _ _ _ _ _ _ _ _ _ _ _ _ _ _ hx hb k => lv_imul hx hb hd k
theorem p_iand (hd : decode cc pc = .ok (.iand, 1)) (hn : pc + 1 = n) : PSnd g cc nL pc (q_bin (iop2 (fun x y => x &&& y)) n) := p_ibin hn fun _ _ _ _ _ _ _ _ _ _ _ _ _ _ _ _ _ _ _ hx hb k => lv_iand hx hb hd k
theorem p_ior (hd : decode cc pc = .ok (.ior, 1)) (hn : pc + 1 = n) : PSnd g cc nL pc (q_bin (iop2 (fun x y => x ||| y)) n) := p_ibin hn fun _ _ _ _ _ _ _ _ _ _ _ _ _ _ _ _ _ _ _ hx hb k => lv_ior hx hb hd k
theorem p_ixor (hd : decode cc pc = .ok (.ixor, 1)) (hn : pc + 1 = n) : PSnd g cc nL pc (q_bin (iop2 (fun x y => x ^^^ y)) n) := p_ibin hn fun _ _ _ _ _ _ _ _ _ _ _ _ _ _ _ _ _ _ _ hx hb k => lv_ixor hx hb hd k
theorem p_ishl (hd : decode cc pc = .ok (.ishl, 1)) (hn : pc + 1 = n) : PSnd g cc nL pc (q_bin (iop2 f_shl) n) := p_ibin hn fun _ _ _ _ _ _ _ _ _ _ _ _ _ _ _ _ _ _ _ hx hb k => lv_ishl hx hb hd k
theorem p_ishr (hd : decode cc pc = .ok (.ishr, 1)) (hn : pc + 1 = n) : PSnd g cc nL pc (q_bin shrA n) := by
  intro L st pc' L' st' h p l e R s m args below meth c H locs cells slots Q ls hx hb hl k
  obtain ⟨x, y, r, v, rfl, hf, e1⟩ := q_bin_ok h
  cases e1
  subst hn
  obtain ⟨h1, h2, h3⟩ := shrA_ok (g := g) hf
  have hk := k ls hl
  rw [List.map_cons, h3] at hk
  rw [List.map_cons, List.map_cons, h1, h2]
  exact lv_ishr hx hb hd hk
theorem p_iushr (hd : decode cc pc = .ok (.iushr, 1)) (hn : pc + 1 = n) : PSnd g cc nL pc (q_bin (iop2 f_ushr) n) := p_ibin hn fun _ _ _ _ _ _ _ _ _ _ _ _ _ _ _ _ _ _ _ hx hb k => lv_iushr hx hb hd rfl k
theorem p_ineg (hd : decode cc pc = .ok (.ineg, 1)) (hn : pc + 1 = n) : PSnd g cc nL pc (q_un (iop1 (fun x => -x)) n) := p_iun hn fun _ _ _ _ _ _ _ _ _ _ _ _ _ _ _ _ _ _ hx hb k => lv_ineg hx hb hd k
theorem p_i2b (hd : decode cc pc = .ok (.i2b, 1)) (hn : pc + 1 = n) : PSnd g cc nL pc (q_un i2bA n) := by
  intro L st pc' L' st' h p l e R s m args below meth c H locs cells slots Q ls hx hb hl k
  obtain ⟨x, r, v, rfl, hf, e1⟩ := q_un_ok h
  cases e1
  subst hn
  obtain ⟨h1, h2, -⟩ := i2bA_ok (g := g) hf
  have hk := k ls hl
  rw [List.map_cons, h2] at hk
  rw [List.map_cons, h1]
  exact lv_i2b hx hb hd rfl hk
theorem p_i2c (hd : decode cc pc = .ok (.i2c, 1)) (hn : pc + 1 = n) : PSnd g cc nL pc (q_un (iop1 f_i2c) n) := p_iun hn fun _ _ _ _ _ _ _ _ _ _ _ _ _ _ _ _ _ _ hx hb k => lv_i2c hx hb hd rfl k
theorem p_ladd (hd : decode cc pc = .ok (.ladd, 1)) (hn : pc + 1 = n) : PSnd g cc nL pc (q_bin (lop2 (fun x y => x + y)) n) := p_lbin hn fun _ _ _ _ _ _ _ _ _ _ _ _ _ _ _ _ _ _ _ hx hb k => lv_ladd hx hb hd k
theorem p_lsub (hd : decode cc pc = .ok (.lsub, 1)) (hn : pc + 1 = n) : PSnd g cc nL pc (q_bin (lop2 (fun x y => x - y)) n) := p_lbin hn fun _ _ _ _ _ _ _ _ _ _ _ _ _ _ _ _ _ _ _ hx hb k => lv_lsub hx hb hd k
theorem p_land (hd : decode cc pc = .ok (.land, 1)) (hn : pc + 1 = n) : PSnd g cc nL pc (q_bin (lop2 (fun x y => x &&& y)) n) := p_lbin hn fun _ _ _ _ _ _ _ _ _ _ _ _ _ _ _ _ _ _ _ hx hb k => lv_land hx hb hd k
theorem p_lor (hd : decode cc pc = .ok (.lor, 1)) (hn : pc + 1 = n) : PSnd g cc nL pc (q_bin (lop2 (fun x y => x ||| y)) n) := p_lbin hn fun _ _ _ _ _ _ _ _ _ _ _ _ _ _ _ _ _ _ _ hx hb k => lv_lor hx hb hd k
/-- remainder and quotient, where the divisor is known and not 0 -/
def dop (f : Int32 → Int32 → Int32) (a b : AV) : Option AV := match b with
  | .inl 0 => none
  | .inl y => match decide (nI y = 0) with
    | true => none
    | false => iop2 f a (.inl y)
  | .inr _ => none
theorem dop_ok {g : GG} {f : Int32 → Int32 → Int32} {a b r : AV} (h : dop f a b = some r) : ¬ gI g b = 0 ∧ iop2 f a b = some r := by
  rcases b with y | b
  · cases y with
    | zero => cases h
    | succ y =>
      simp only [dop] at h
      cases hd : decide (nI (y + 1) = 0) with
      | true => rw [hd] at h; cases h
      | false => rw [hd] at h; exact ⟨of_decide_eq_false hd, h⟩
  · cases h
theorem p_irem (hd : decode cc pc = .ok (.irem, 1)) (hn : pc + 1 = n) : PSnd g cc nL pc (q_bin (dop (fun x y => x - x / y * y)) n) := by
  intro L st pc' L' st' h p l e R s m args below meth c H locs cells slots Q ls hx hb hl k
  obtain ⟨x, y, r, v, rfl, hf, e1⟩ := q_bin_ok h
  cases e1
  subst hn
  obtain ⟨h0, hf⟩ := dop_ok (g := g) hf
  obtain ⟨h1, h2, h3⟩ := iop2_ok (g := g) hf
  have hk := k ls hl
  rw [List.map_cons, h3] at hk
  rw [List.map_cons, List.map_cons, h1, h2]
  exact lv_irem hx hb hd h0 hk
theorem p_idiv (hd : decode cc pc = .ok (.idiv, 1)) (hn : pc + 1 = n) : PSnd g cc nL pc (q_bin (dop (fun x y => x / y)) n) := by
  intro L st pc' L' st' h p l e R s m args below meth c H locs cells slots Q ls hx hb hl k
  obtain ⟨x, y, r, v, rfl, hf, e1⟩ := q_bin_ok h
  cases e1
  subst hn
  obtain ⟨h0, hf⟩ := dop_ok (g := g) hf
  obtain ⟨h1, h2, h3⟩ := iop2_ok (g := g) hf
  have hk := k ls hl
  rw [List.map_cons, h3] at hk
  rw [List.map_cons, List.map_cons, h1, h2]
  exact lv_idiv hx hb hd h0 hk
def f_i2l (a : AV) : Option AV := match a with
  | .inl x => some (.inr (.inl (toN64 (nI x).toInt64)))
  | .inr _ => none
theorem p_i2l (hd : decode cc pc = .ok (.i2l, 1)) (hn : pc + 1 = n) : PSnd g cc nL pc (q_un f_i2l n) := by
  intro L st pc' L' st' h p l e R s m args below meth c H locs cells slots Q ls hx hb hl k
  obtain ⟨x, r, v, rfl, hf, e1⟩ := q_un_ok h
  cases e1
  subst hn
  have hk := k ls hl
  rw [List.map_cons] at hk ⊢
  rcases x with x | b
  · cases hf
    refine lv_i2l hx hb hd rfl ?_
    have : cV g (.inr (.inl (toN64 (nI x).toInt64))) = .long (nI x).toInt64 := by show Value.long (lN (toN64 _)) = _; rw [lN_toN]
    rw [this] at hk
    exact hk
  · cases hf
def f_lshl (a b : AV) : Option AV := match a, b with
  | .inr (.inl x), .inl y => some (.inr (.inl (toN64 (lN x <<< ((nI y).toInt64 &&& 63)))))
  | _, _ => none
theorem p_lshl (hd : decode cc pc = .ok (.lshl, 1)) (hn : pc + 1 = n) : PSnd g cc nL pc (q_bin f_lshl n) := by
  intro L st pc' L' st' h p l e R s m args below meth c H locs cells slots Q ls hx hb hl k
  obtain ⟨x, y, r, v, rfl, hf, e1⟩ := q_bin_ok h
  cases e1
  subst hn
  have hk := k ls hl
  rw [List.map_cons] at hk
  rw [List.map_cons, List.map_cons]
  rcases x with x | x | x <;> rcases y with y | y <;> first | cases hf | skip
  refine lv_lshl hx hb hd rfl ?_
  have : cV g (.inr (.inl (toN64 (lN x <<< ((nI y).toInt64 &&& 63))))) = .long (lN x <<< ((nI y).toInt64 &&& 63)) := by show Value.long (lN (toN64 _)) = _; rw [lN_toN]
  rw [this] at hk
  exact hk
def f_lcmp (a b : AV) : Option AV := match isL a && isL b with
  | true => match a, b with
    | .inr (.inl x), .inr (.inl y) => some (.inl (toN (lg_cmp (lN x) (lN y))))
    | a, b => some (.inr (.inr (.int (lg_cmp (gL a) (gL b)))))
  | false => none
theorem f_lcmp_ok {a b r : AV} (h : f_lcmp a b = some r) : cV g a = .long (gL a) ∧ cV g b = .long (gL b) ∧ cV g r = .int (lg_cmp (gL a) (gL b)) := by
  simp only [f_lcmp] at h
  cases hb : isL a && isL b with
  | false => rw [hb] at h; cases h
  | true =>
    rw [hb] at h
    rw [Bool.and_eq_true] at hb
    refine ⟨cV_L hb.1, cV_L hb.2, ?_⟩
    rcases a with x | x | x <;> rcases b with y | y | y <;> first | (cases h; rfl) | skip
    cases h
    show Value.int (nI (toN _)) = _
    rw [nI_toN]
    rfl
theorem p_lcmp (hd : decode cc pc = .ok (.lcmp, 1)) (hn : pc + 1 = n) : PSnd g cc nL pc (q_bin f_lcmp n) := by
  intro L st pc' L' st' h p l e R s m args below meth c H locs cells slots Q ls hx hb hl k
  obtain ⟨x, y, r, v, rfl, hf, e1⟩ := q_bin_ok h
  cases e1
  subst hn
  obtain ⟨h1, h2, h3⟩ := f_lcmp_ok (g := g) hf
  have hk := k ls hl
  rw [List.map_cons, h3] at hk
  rw [List.map_cons, List.map_cons, h1, h2]
  exact W.lcmp hx hb hd hk
-- the stack
def q_dup (n : Nat) : PF := fun L st => match st with
  | a :: r => match Nat.beq (ct a) 1 with
    | true => some (n, L, a :: a :: r)
    | false => none
  | _ => none
theorem p_dup (hd : decode cc pc = .ok (.dup, 1)) (hn : pc + 1 = n) : PSnd g cc nL pc (q_dup n) := by
  intro L st pc' L' st' h p l e R s m args below meth c H locs cells slots Q ls hx hb hl k
  rcases st with _ | ⟨a, r⟩
  · cases h
  · simp only [q_dup] at h
    cases hc : Nat.beq (ct a) 1 with
    | false => rw [hc] at h; cases h
    | true =>
      rw [hc] at h
      cases h
      subst hn
      exact lv_dup hx hb hd (by rw [cV_cat]; exact Nat.eq_of_beq_eq_true hc) (k ls hl)
def q_pop (n : Nat) : PF := fun L st => match st with
  | a :: r => match Nat.beq (ct a) 1 with
    | true => some (n, L, r)
    | false => none
  | _ => none
theorem p_pop (hd : decode cc pc = .ok (.pop, 1)) (hn : pc + 1 = n) : PSnd g cc nL pc (q_pop n) := by
  intro L st pc' L' st' h p l e R s m args below meth c H locs cells slots Q ls hx hb hl k
  rcases st with _ | ⟨a, r⟩
  · cases h
  · simp only [q_pop] at h
    cases hc : Nat.beq (ct a) 1 with
    | false => rw [hc] at h; cases h
    | true =>
      rw [hc] at h
      cases h
      subst hn
      exact lv_pop hx hb hd (by rw [cV_cat]; exact Nat.eq_of_beq_eq_true hc) (k ls hl)
def q_dupx1 (n : Nat) : PF := fun L st => match st with
  | a :: b :: r => match Nat.beq (ct a) 1 && Nat.beq (ct b) 1 with
    | true => some (n, L, a :: b :: a :: r)
    | false => none
  | _ => none
theorem p_dupx1 (hd : decode cc pc = .ok (.dup_x1, 1)) (hn : pc + 1 = n) : PSnd g cc nL pc (q_dupx1 n) := by
  intro L st pc' L' st' h p l e R s m args below meth c H locs cells slots Q ls hx hb hl k
  rcases st with _ | ⟨a, _ | ⟨b, r⟩⟩
  · cases h
  · cases h
  · simp only [q_dupx1] at h
    cases hc : Nat.beq (ct a) 1 && Nat.beq (ct b) 1 with
    | false => rw [hc] at h; cases h
    | true =>
      rw [hc] at h
      cases h
      subst hn
      rw [Bool.and_eq_true] at hc
      exact lv_dup_x1 hx hb hd (by rw [cV_cat]; exact Nat.eq_of_beq_eq_true hc.1) (by rw [cV_cat]; exact Nat.eq_of_beq_eq_true hc.2) (k ls hl)
def q_dup2 (n : Nat) : PF := fun L st => match st with
  | a :: b :: r => match Nat.beq (ct a) 1 && Nat.beq (ct b) 1 with
    | true => some (n, L, a :: b :: a :: b :: r)
    | false => none
  | _ => none
theorem p_dup2 (hd : decode cc pc = .ok (.dup2, 1)) (hn : pc + 1 = n) : PSnd g cc nL pc (q_dup2 n) := by
  intro L st pc' L' st' h p l e R s m args below meth c H locs cells slots Q ls hx hb hl k
  rcases st with _ | ⟨a, _ | ⟨b, r⟩⟩
  · cases h
  · cases h
  · simp only [q_dup2] at h
    cases hc : Nat.beq (ct a) 1 && Nat.beq (ct b) 1 with
    | false => rw [hc] at h; cases h
    | true =>
      rw [hc] at h
      cases h
      subst hn
      rw [Bool.and_eq_true] at hc
      exact lv_dup2_11 hx hb hd (by rw [cV_cat]; exact Nat.eq_of_beq_eq_true hc.1) (by rw [cV_cat]; exact Nat.eq_of_beq_eq_true hc.2) (k ls hl)
def q_goto (t : Nat) : PF := fun L st => some (t, L, st)
theorem p_goto {off : Int} {t : Nat} (hd : decode cc pc = .ok (.goto off, 3)) (ht : (pc : Int) + off = (t : Int)) : PSnd g cc nL pc (q_goto t) := by
  intro L st pc' L' st' h p l e R s m args below meth c H locs cells slots Q ls hx hb hl k
  cases h
  exact lv_goto hx hb hd ht (k ls hl)
def q_null (ifN ifR : Nat) : PF := fun L st => match st with
  | .inr (.inr .null) :: r => some (ifN, L, r)
  | a :: r => match isR a with
    | true => some (ifR, L, r)
    | false => none
  | _ => none
theorem p_ifnull {off : Int} {t : Nat} (hd : decode cc pc = .ok (.ifnull off, 3)) (ht : (pc : Int) + off = (t : Int)) (hn : pc + 3 = n) : PSnd g cc nL pc (q_null t n) := by
  intro L st pc' L' st' h p l e R s m args below meth c H locs cells slots Q ls hx hb hl k
  subst hn
  have key : ∀ (a : AV) (r : List AV), isR a = true → W p l e R s m args below meth c H locs cells slots Q (F0 m (pc + 3) ls (r.map (cV g))) → W p l e R s m args below meth c H locs cells slots Q (F0 m pc ls ((a :: r).map (cV g))) := fun a r hr hk => by
    rw [List.map_cons, cV_R hr]
    exact lv_ifnull hx hb hd hk
  rcases st with _ | ⟨a, r⟩
  · cases h
  · rcases a with a | a | v
    · cases h
    · cases h
    · cases v <;> cases h
      · exact key _ _ rfl (k ls hl)
      · exact lv_ifnullN hx hb hd ht (k ls hl)
      · exact key _ _ rfl (k ls hl)
theorem p_ifnonnull {off : Int} {t : Nat} (hd : decode cc pc = .ok (.ifnonnull off, 3)) (ht : (pc : Int) + off = (t : Int)) (hn : pc + 3 = n) : PSnd g cc nL pc (q_null n t) := by
  intro L st pc' L' st' h p l e R s m args below meth c H locs cells slots Q ls hx hb hl k
  subst hn
  have key : ∀ (a : AV) (r : List AV), isR a = true → W p l e R s m args below meth c H locs cells slots Q (F0 m t ls (r.map (cV g))) → W p l e R s m args below meth c H locs cells slots Q (F0 m pc ls ((a :: r).map (cV g))) := fun a r hr hk => by
    rw [List.map_cons, cV_R hr]
    exact lv_ifnonnull hx hb hd ht hk
  rcases st with _ | ⟨a, r⟩
  · cases h
  · rcases a with a | a | v
    · cases h
    · cases h
    · cases v <;> cases h
      · exact key _ _ rfl (k ls hl)
      · exact lv_ifnonnullN hx hb hd (k ls hl)
      · exact key _ _ rfl (k ls hl)
-- switches on a known int
def q_table (lo hi : Int) (d : Nat) (ts : List Nat) : PF := fun L st => match st with
  | .inl x :: r => match decide ((nI x).toInt < lo) || decide (hi < (nI x).toInt) with
    | true => some (d, L, r)
    | false => match ts[((nI x).toInt - lo).toNat]? with
      | some t => fz t (fun t => some (t, L, r))
      | none => none
  | _ => none
theorem p_table {lo hi dflt : Int} {offs : Array Int} {len d : Nat} {ts : List Nat} (hd : decode cc pc = .ok (.tableswitch dflt lo hi offs, len)) (hdf : (pc : Int) + dflt = (d : Int)) (hts : offs.toList.map (fun o => (pc : Int) + o) = ts.map (fun t : Nat => (t : Int))) : PSnd g cc nL pc (q_table lo hi d ts) := by
  intro L st pc' L' st' h p l e R s m args below meth c H locs cells slots Q ls hx hb hl k
  rcases st with _ | ⟨a, r⟩
  · cases h
  rcases a with x | a
  · simp only [q_table] at h
    cases hb1 : decide ((nI x).toInt < lo) || decide (hi < (nI x).toInt) with
    | true =>
      rw [hb1] at h
      cases h
      rw [Bool.or_eq_true, decide_eq_true_eq, decide_eq_true_eq] at hb1
      exact lv_tableOut (x := nI x) hx hb hd hb1 hdf (k ls hl)
    | false =>
      rw [hb1] at h
      simp only at h
      rw [Bool.or_eq_false_iff, decide_eq_false_iff_not, decide_eq_false_iff_not] at hb1
      cases ht : ts[((nI x).toInt - lo).toNat]? with
      | none => rw [ht] at h; cases h
      | some t =>
        rw [ht] at h
        simp only [fz_eq] at h
        cases h
        have h1 : (offs.toList.map (fun o => (pc : Int) + o))[((nI x).toInt - lo).toNat]? = some (pc' : Int) := by rw [hts, List.getElem?_map, ht]; rfl
        rw [List.getElem?_map] at h1
        cases ho : offs.toList[((nI x).toInt - lo).toNat]? with
        | none => rw [ho] at h1; cases h1
        | some o =>
          rw [ho] at h1
          have h2 : (pc : Int) + o = (pc' : Int) := Option.some.inj h1
          exact lv_tableIn (x := nI x) hx hb hd hb1.1 hb1.2 (by rw [← Array.getElem?_toList]; exact ho) h2 (k ls hl)
  · cases h
def q_look (d : Nat) (ps : List (Int × Nat)) : PF := fun L st => match st with
  | .inl x :: r => match ps.find? (fun q => decide (q.1 = (nI x).toInt)) with
    | some q => fz q.2 (fun t => some (t, L, r))
    | none => some (d, L, r)
  | _ => none
theorem off_find (ps : List (Int × Int)) (d x : Int) : Op.lookupswitch.offset ps d x = match ps.find? (fun q => decide (q.1 = x)) with | some q => q.2 | none => d := by
  induction ps with
  | nil => rfl
  | cons q t ih =>
    obtain ⟨a, o⟩ := q
    rw [Op.lookupswitch.offset_cons, List.find?_cons]
    by_cases h : a = x
    · subst h
      simp
    · rw [if_neg h, ih]
      simp [h]
theorem p_look {dflt : Int} {pr : Array (Int × Int)} {len d : Nat} {ps : List (Int × Nat)} (hd : decode cc pc = .ok (.lookupswitch dflt pr, len)) (hp : (pr.toList.zip (pr.toList.drop 1)).all (fun (a, next) => a.1 < next.1) = true) (hdf : (pc : Int) + dflt = (d : Int)) (hps : pr.toList.map (fun o => (o.1, (pc : Int) + o.2)) = ps.map (fun t : Int × Nat => (t.1, (t.2 : Int)))) : PSnd g cc nL pc (q_look d ps) := by
  intro L st pc' L' st' h p l e R s m args below meth c H locs cells slots Q ls hx hb hl k
  rcases st with _ | ⟨a, r⟩
  · cases h
  rcases a with x | a
  · simp only [q_look] at h
    have hg : (pc : Int) + Op.lookupswitch.offset pr.toList dflt (nI x).toInt = match ps.find? (fun q => decide (q.1 = (nI x).toInt)) with | some q => (q.2 : Int) | none => (d : Int) := by
      rw [off_find]
      generalize (nI x).toInt = z
      generalize pr.toList = pl at hps
      clear hp hd h
      induction pl generalizing ps with
      | nil =>
        cases ps with
        | nil => exact hdf
        | cons a b => cases hps
      | cons q t ih =>
        cases ps with
        | nil => cases hps
        | cons a b =>
          rw [List.map_cons, List.map_cons] at hps
          have e1 := (List.cons.inj hps).1
          have e2 := (List.cons.inj hps).2
          have e3 : q.1 = a.1 := congrArg Prod.fst e1
          have e4 : (pc : Int) + q.2 = (a.2 : Int) := congrArg Prod.snd e1
          rw [List.find?_cons, List.find?_cons, e3]
          cases hz : decide (a.1 = z) with
          | true => exact e4
          | false => exact ih e2
    cases hf : ps.find? (fun q => decide (q.1 = (nI x).toInt)) with
    | none =>
      rw [hf] at h hg
      cases h
      exact lv_lookup (x := nI x) hx hb hd hp rfl hg (k ls hl)
    | some q =>
      rw [hf] at h hg
      simp only [fz_eq] at h
      cases h
      exact lv_lookup (x := nI x) hx hb hd hp rfl hg (k ls hl)
  · cases h
end PU
end
section
/-! The cells, and what a step of a method is. -/
def wsG : List Cond := lw_tbl.filter goodWord
def isNest (w : Cond) : Bool := match w with
  | .fieldLinkNest _ _ _ _ _ _ => true
  | .methodLinkNest _ _ _ _ => true
  | _ => false
def nwL : List Cond := lw_tbl.filter isNest
def KN (U : State) : Prop := ∀ w ∈ nwL, va_Nw w U
def hiA (g : GG) : Nat → Prop := fun q => g.1 ≤ q
/-- what was there before: fields of outside objects, outside arrays, statics, texts by their places, outside objects' classes, the script (its cell 90, its length 91, its ints from 2000 on) -/
def KX (g : GG) (HB : Heap) (U : State) : Prop :=
  (∀ x ∈ xOF, va_OF x.2.1 x.2.2.1 x.2.2.2.1 (cV g x.2.2.2.2) (g.2.1 x.1) (hiA g) U HB) ∧
  (∀ x ∈ xT, va_T x.2.1 (g.2.1 x.1) x.2.2.1 (fun j => .int (x.2.2.2.getD j 0)) (hiA g) U HB) ∧
  (∀ x ∈ xZ, va_Z x.1 x.2.1 x.2.2.1 (cV g x.2.2.2) (hiA g) U HB) ∧
  (∀ x ∈ xR, vk_R x.1 x.2.1 x.2.2.1 (g.2.1 x.2.2.2) U) ∧
  (∀ x ∈ xO, va_O x.2 (g.2.1 x.1) (hiA g) U HB) ∧
  va_T .int (g.2.1 90) (g.2.1 91) (fun j => .int (nI (g.2.1 (2000 + j)))) (hiA g) U HB
def tysG (g : GG) : List (ClassId × FieldType) := [(g.2.2.2 0, .int), (g.2.2.2 1, .byte), (g.2.2.2 2, .boolean), (g.2.2.2 3, .long), (g.2.2.2 4, .object "java/lang/Object")]
def KA (g : GG) (HB : Heap) (U : State) : Prop := va_K g.2.2.1 vwCl (tysG g) U ∧ KN U ∧ KX g HB U
theorem KX.warm {g : GG} {HB : Heap} {s U : State} (hW : s.WarmedH U.vm) (h : KX g HB s) : KX g HB U :=
  ⟨fun x hx => va_OF.moved hW.alike (h.1 x hx), fun x hx => va_T.moved hW.alike (h.2.1 x hx), fun x hx => va_Z.moved hW.alike (h.2.2.1 x hx), fun x hx => vk_R.warm hW (h.2.2.2.1 x hx), fun x hx => va_O.moved hW.alike (h.2.2.2.2.1 x hx), va_T.moved hW.alike h.2.2.2.2.2⟩
theorem KX.same {g : GG} {HB : Heap} {s U : State} (hv : U.vm = s.vm) (h : KX g HB s) : KX g HB U := by
  have ha : s.vm.Alike U.vm := by rw [hv]; exact Vm.Alike.refl _
  exact ⟨fun x hx => va_OF.moved ha (h.1 x hx), fun x hx => va_T.moved ha (h.2.1 x hx), fun x hx => va_Z.moved ha (h.2.2.1 x hx), fun x hx => vk_R.same hv (h.2.2.2.1 x hx), fun x hx => va_O.moved ha (h.2.2.2.2.1 x hx), va_T.moved ha h.2.2.2.2.2⟩
theorem nest_tabs {w : Cond} (h : isNest w = true) : w.onTables = true := by
  cases w <;> first | rfl | cases h
theorem KN.warm {s U : State} (hW : s.WarmedH U.vm) (h : KN s) : KN U := by
  intro w hw
  have h1 := h w hw
  have h2 := (List.mem_filter.mp hw).2
  cases w <;> first | exact va_Nw.warmF hW h1 | exact va_Nw.warmM hW h1 | cases h2
theorem KN.same {s U : State} (hv : U.vm = s.vm) (h : KN s) : KN U := fun w hw => va_Nw.same (nest_tabs (List.mem_filter.mp hw).2) hv.symm (h w hw)
theorem KA.warm {g : GG} {HB : Heap} {s U : State} (hW : s.WarmedH U.vm) (h : KA g HB s) : KA g HB U := ⟨va_K.moved hW.alike h.1, h.2.1.warm hW, h.2.2.warm hW⟩
theorem KA.same {g : GG} {HB : Heap} {s U : State} (hv : U.vm = s.vm) (h : KA g HB s) : KA g HB U := ⟨va_K.moved (by rw [hv]; exact Vm.Alike.refl _) h.1, h.2.1.same hv, h.2.2.same hv⟩
-- cells
def gQ (g : GG) (v : AV) : Option Nat := match isR v with
  | true => some (gR g v)
  | false => none
def cI (g : GG) (u : List (Nat × AV)) (j : Nat) : Int32 := match alk u j with
  | some v => gI g v
  | none => 0
def cJ (u : List (Nat × AV)) (j : Nat) : Int64 := match alk u j with
  | some v => gL v
  | none => 0
def cQ (g : GG) (u : List (Nat × AV)) (j : Nat) : Option Nat := match alk u j with
  | some v => gQ g v
  | none => none
def cC (g : GG) (t n : Nat) (u : List (Nat × AV)) : vp_A := match t with
  | 0 => (n, .inl (cI g u))
  | 1 => (n, .inl (cI g u))
  | 2 => (n, .inl (cI g u))
  | 3 => (n, .inr (.inl (cJ u)))
  | _ => (n, .inr (.inr (.inr (.inr (cQ g u)))))
def cE (g : GG) (c : AE) : va_E := match c with
  | .inl x => .inl (g.2.2.2 x.1, cC g x.1 x.2.1 x.2.2)
  | .inr x => .inr (x.1, x.2.map (cV g))
def wsA (f : AE → va_E) (b : Nat) (h : List AE) : va_W := match h with
  | [] => []
  | c :: t => (b, f c) :: wsA f (b + 1) t
theorem wsA_get (f : AE → va_E) : ∀ (h : List AE) (b k : Nat), (wsA f b h)[k]? = (h[k]?).map (fun c => (b + k, f c))
  | [], _, _ => by simp [wsA]
  | c :: t, b, 0 => by simp [wsA]
  | c :: t, b, k + 1 => by
    rw [wsA, List.getElem?_cons_succ, List.getElem?_cons_succ, wsA_get f t (b + 1) k]
    cases t[k]? with
    | none => rfl
    | some c => simp only [Option.map_some]; rw [Nat.add_assoc, Nat.add_comm 1 k]
theorem wsA_len (f : AE → va_E) : ∀ (h : List AE) (b : Nat), (wsA f b h).length = h.length
  | [], _ => rfl
  | c :: t, b => by rw [wsA, List.length_cons, List.length_cons, wsA_len f t]
theorem wsA_set (f : AE → va_E) (h : List AE) (b k : Nat) (c : AE) : (wsA f b h).set k (b + k, f c) = wsA f b (h.set k c) := by
  apply List.ext_getElem?
  intro j
  rw [wsA_get, List.getElem?_set, List.getElem?_set, wsA_get, wsA_len]
  by_cases hj : k = j
  · subst hj
    by_cases hl : k < h.length
    · simp [hl]
    · simp [hl]
  · simp [hj]
theorem wsA_app (f : AE → va_E) (h : List AE) (b : Nat) (c : AE) : wsA f b (h ++ [c]) = wsA f b h ++ [(b + h.length, f c)] := by
  apply List.ext_getElem?
  intro j
  rw [wsA_get]
  by_cases hl : j < h.length
  · rw [List.getElem?_append_left hl, List.getElem?_append_left (by rw [wsA_len]; exact hl), wsA_get]
  · rw [List.getElem?_append_right (by omega), List.getElem?_append_right (by rw [wsA_len]; omega), wsA_len]
    by_cases hj : j = h.length
    · subst hj; simp
    · have h1 : [c][j - h.length]? = none := List.getElem?_eq_none (by simp; omega)
      have h2 : [(b + h.length, f c)][j - h.length]? = none := List.getElem?_eq_none (by simp; omega)
      rw [h1, h2]; rfl
/-- where the next cell comes is known as long as HB is of the ground's size (a throw makes a cell that nobody looks at) -/
def szG (g : GG) (HB : Heap) (h : List AE) (H : Heap) : Prop := g.1 + h.length ≤ H.size ∧ (HB.size = g.1 → H.size = g.1 + h.length)
/-- the heap is what was there, and the cells h behind it -/
def Rh (g : GG) (HB : Heap) (h : List AE) (H : Heap) (locs : List Loc) : Prop :=
  szG g HB h H ∧ (∀ q : Nat, q < g.1 → H[q]? = HB[q]?) ∧ va_P g.2.2.1 vwCl (wsA (cE g) g.1 h) H ∧ ∀ q ∈ locs, g.1 ≤ q.base
theorem Rh.get {g : GG} {HB H : Heap} {h : List AE} {locs : List Loc} (hR : Rh g HB h H locs) {k : Nat} {c : AE} (hk : h[k]? = some c) : va_at g.2.2.1 vwCl (g.1 + k, cE g c) H :=
  hR.2.2.1 k _ (by rw [wsA_get, hk]; rfl)
theorem Rh.ws {g : GG} {h : List AE} {k : Nat} {c : AE} (hk : h[k]? = some c) : (wsA (cE g) g.1 h)[k]? = some (g.1 + k, cE g c) := by rw [wsA_get, hk]; rfl
theorem Rh.D (g : GG) (h : List AE) : va_D (hiA g) (wsA (cE g) g.1 h) := by
  refine ⟨fun i j p q hi hj e => ?_, fun k q hk => ?_⟩
  · rw [wsA_get] at hi hj
    cases h1 : h[i]? with
    | none => rw [h1] at hi; cases hi
    | some a =>
      cases h2 : h[j]? with
      | none => rw [h2] at hj; cases hj
      | some b =>
        rw [h1] at hi; rw [h2] at hj
        cases hi; cases hj
        simp only at e
        omega
  · rw [wsA_get] at hk
    cases h1 : h[k]? with
    | none => rw [h1] at hk; cases hk
    | some a =>
      rw [h1] at hk
      cases hk
      exact Nat.le_add_right _ _
theorem Rh.out {g : GG} {HB H : Heap} {h : List AE} {locs : List Loc} (hR : Rh g HB h H locs) : ∀ a : Nat, a < HB.size → ¬ hiA g a → H[a]? = HB[a]? := fun a _ hn => hR.2.1 a (Nat.lt_of_not_le hn)
theorem Rh.set {g : GG} {HB H H1 : Heap} {h : List AE} {locs : List Loc} (hR : Rh g HB h H locs) {k i : Nat} {c0 c1 : AE} (hk : h[k]? = some c0) (he : va_at g.2.2.1 vwCl (g.1 + k, cE g c1) H1) (z : H1.size = H.size) (oq : ∀ q : Nat, q ≠ g.1 + k → H1[q]? = H[q]?) : Rh g HB (h.set k c1) H1 (locs ++ [⟨g.1 + k, i⟩]) := by
  refine ⟨by unfold szG; rw [z, List.length_set]; exact hR.1, fun q hq => by rw [oq q (by omega)]; exact hR.2.1 q hq, ?_, fun q hq => ?_⟩
  · rw [← wsA_set]
    exact hR.2.2.1.set (Rh.D g h) (Rh.ws hk) he oq
  · rcases List.mem_append.mp hq with h1 | h1
    · exact hR.2.2.2 q h1
    · rw [List.mem_singleton.mp h1]
      exact Nat.le_add_right _ _
theorem Rh.app {g : GG} {HB H H1 : Heap} {h : List AE} {locs : List Loc} (hR : Rh g HB h H locs) {c1 : AE} (he : va_at g.2.2.1 vwCl (g.1 + h.length, cE g c1) H1) (z : H1.size = H.size + 1) (oq : ∀ q : Nat, q < H.size → H1[q]? = H[q]?) : Rh g HB (h ++ [c1]) H1 locs := by
  have hz := hR.1.1
  refine ⟨⟨by rw [z, List.length_append, List.length_singleton]; omega, fun hx => by rw [z, List.length_append, List.length_singleton, hR.1.2 hx]; omega⟩, fun q hq => by rw [oq q (by omega)]; exact hR.2.1 q hq, ?_, hR.2.2.2⟩
  rw [wsA_app]
  refine (hR.2.2.1.kept (fun k q hq => oq _ ((hR.2.2.1 k q hq).lt))).app (fun k q hq => ?_)
  have hk : k < 1 := (List.getElem?_eq_some_iff.mp hq).1
  rw [show k = 0 by omega] at hq
  cases hq
  exact he
-- configurations and steps
/-- pc, locals, stack, cells, cells made, slots made, what is foretold of branches on unknown numbers, what was asked and told -/
abbrev Cfg : Type := Nat × LL × List AV × List AE × Nat × Nat × List Bool × CSL
abbrev CallF : Type := Nat → Nat → Nat → List AV → List AE → List Bool → CSL → Option (Option AV × List AE × Nat × Nat × List Bool × CSL)
abbrev FF : Type := CallF → Nat → Nat → Cfg → Option Cfg
def Cx (g : GG) (HB : Heap) (p : Program) (s : State) (m : MethodId) (args : Array Value) (meth : Method) (c : Code) (cc : ByteArray) (nL : Nat) (own nm : String) : Prop :=
  CallFix p m c cc nL s args wsG own ∧ KA g HB s ∧ meth.name = nm
/-- what the machine does from pc is what f computes -/
def Snd (g : GG) (HB : Heap) (l : Launch) (call : CallF) (cc : ByteArray) (nL : Nat) (own nm : String) (pc : Nat) (f : FF) : Prop :=
  ∀ (fr lo : Nat) (L : LL) (st : List AV) (h : List AE) (k z : Nat) (o : List Bool) (cs : CSL) (pc' : Nat) (L' : LL) (st' : List AV) (h' : List AE) (k' z' : Nat) (o' : List Bool) (cs' : CSL),
    f call fr lo (pc, L, st, h, k, z, o, cs) = some (pc', L', st', h', k', z', o', cs') →
    (cs <:+ cs' ∧ k ≤ k' ∧ z ≤ z') ∧
    (okc g cs' → ∀ (p : Program) (e : Env) (R : Room) (s : State) (m : MethodId) (args : Array Value) (below : List Frame) (meth : Method) (c : Code) (Q : State → Prop) (H : Heap) (locs : List Loc) (ls : Array Slot),
      Cx g HB p s m args meth c cc nL own nm → fr ≤ R.frames → lo ≤ R.locals → k' ≤ R.cells → z' ≤ R.slots → Rh g HB h H locs → lv_has ls nL (cL g L) →
      (∀ (H' : Heap) (locs' : List Loc) (ls' : Array Slot), Rh g HB h' H' locs' → lv_has ls' nL (cL g L') → W p l e R s m args below meth c H' locs' k' z' Q (F0 m pc' ls' (st'.map (cV g)))) →
      W p l e R s m args below meth c H locs k z Q (F0 m pc ls (st.map (cV g))))
def lf (q : PF) : FF := fun _ _ _ c => match c with
  | (_, L, st, h, k, z, o, cs) => match q L st with
    | none => none
    | some (pc', L', st') => some (pc', L', st', h, k, z, o, cs)
theorem lf_ok {g : GG} {HB : Heap} {l : Launch} {call : CallF} {cc : ByteArray} {nL : Nat} {own nm : String} {pc : Nat} {q : PF} (hq : PSnd g cc nL pc q) : Snd g HB l call cc nL own nm pc (lf q) := by
  intro fr lo L st h k z o cs pc' L' st' h' k' z' o' cs' hf
  simp only [lf] at hf
  cases hL : q L st with
  | none => rw [hL] at hf; cases hf
  | some r =>
    obtain ⟨p1, L1, s1⟩ := r
    rw [hL] at hf
    cases hf
    refine ⟨⟨List.suffix_refl _, Nat.le_refl _, Nat.le_refl _⟩, fun _ p e R s m args below meth c Q H locs ls hC _ _ _ _ hR hl kk => ?_⟩
    exact hq L st _ _ _ hL p l e R s m args below meth c H locs k z Q ls hC.1.1 hC.1.2.1 hl (fun ls' hl' => kk H locs ls' hR hl')
end
section
/-! Branches: on a known number they are computed, on another one they are foretold, and what was asked is kept. -/
def s_br1 (f t n : Nat) : FF := fun _ _ _ c => match c with
  | (_, L, st, h, k, z, o, cs) => match st with
    | [] => none
    | a :: r => match a with
      | .inl x => match cnd f (nI x) (nI 0) with
        | true => some (t, L, r, h, k, z, o, cs)
        | false => some (n, L, r, h, k, z, o, cs)
      | .inr b => match isI (.inr b) with
        | false => none
        | true => match o with
          | [] => none
          | true :: o' => some (t, L, r, h, k, z, o', (f, .inr b, .inl 0, true) :: cs)
          | false :: o' => some (n, L, r, h, k, z, o', (f, .inr b, .inl 0, false) :: cs)
theorem s_br1_ok {g : GG} {HB : Heap} {l : Launch} {call : CallF} {cc : ByteArray} {nL : Nat} {own nm : String} {pc t n : Nat} {f : Nat}
    (row : ∀ (p : Program) (l : Launch) (e : Env) (R : Room) (s : State) (m : MethodId) (args : Array Value) (below : List Frame) (meth : Method) (c : Code) (H : Heap) (locs : List Loc) (cells slots : Nat) (Q : State → Prop) (ls : Array Slot) (rest : List Value) (x : Int32), p.tables.exec = Jvm.exec → c.code = cc → (cnd f x 0 = true → W p l e R s m args below meth c H locs cells slots Q (F0 m t ls rest)) → (cnd f x 0 = false → W p l e R s m args below meth c H locs cells slots Q (F0 m n ls rest)) → W p l e R s m args below meth c H locs cells slots Q (F0 m pc ls (.int x :: rest))) :
    Snd g HB l call cc nL own nm pc (s_br1 f t n) := by
  have z0 : nI 0 = 0 := nI_0
  intro fr lo L st h k z o cs pc' L' st' h' k' z' o' cs' hf
  rcases st with _ | ⟨a, r⟩
  · cases hf
  rcases a with x | b
  · simp only [s_br1] at hf
    cases hb : cnd f (nI x) (nI 0) with
    | true =>
      rw [hb] at hf
      cases hf
      refine ⟨⟨List.suffix_refl _, Nat.le_refl _, Nat.le_refl _⟩, fun _ p e R s m args below meth c Q H locs ls hC _ _ _ _ hR hl kk => ?_⟩
      rw [z0] at hb
      exact row p l e R s m args below meth c H locs k z Q ls _ (nI x) hC.1.1 hC.1.2.1 (fun _ => kk H locs ls hR hl) (fun h => by rw [hb] at h; cases h)
    | false =>
      rw [hb] at hf
      cases hf
      refine ⟨⟨List.suffix_refl _, Nat.le_refl _, Nat.le_refl _⟩, fun _ p e R s m args below meth c Q H locs ls hC _ _ _ _ hR hl kk => ?_⟩
      rw [z0] at hb
      exact row p l e R s m args below meth c H locs k z Q ls _ (nI x) hC.1.1 hC.1.2.1 (fun h => by rw [hb] at h; cases h) (fun _ => kk H locs ls hR hl)
  · simp only [s_br1] at hf
    cases hi : isI (.inr b) with
    | false => rw [hi] at hf; cases hf
    | true =>
      rw [hi] at hf
      rcases o with _ | ⟨q, o1⟩
      · cases hf
      cases q with
      | true =>
        cases hf
        refine ⟨⟨List.suffix_cons _ _, Nat.le_refl _, Nat.le_refl _⟩, fun hk p e R s m args below meth c Q H locs ls hC _ _ _ _ hR hl kk => ?_⟩
        have hb : cnd f (gI g (.inr b)) (nI 0) = true := hk _ List.mem_cons_self
        rw [z0] at hb
        rw [List.map_cons, cV_I hi]
        exact row p l e R s m args below meth c H locs k z Q ls _ _ hC.1.1 hC.1.2.1 (fun _ => kk H locs ls hR hl) (fun h => by rw [hb] at h; cases h)
      | false =>
        cases hf
        refine ⟨⟨List.suffix_cons _ _, Nat.le_refl _, Nat.le_refl _⟩, fun hk p e R s m args below meth c Q H locs ls hC _ _ _ _ hR hl kk => ?_⟩
        have hb : cnd f (gI g (.inr b)) (nI 0) = false := hk _ List.mem_cons_self
        rw [z0] at hb
        rw [List.map_cons, cV_I hi]
        exact row p l e R s m args below meth c H locs k z Q ls _ _ hC.1.1 hC.1.2.1 (fun h => by rw [hb] at h; cases h) (fun _ => kk H locs ls hR hl)
def s_br2 (f t n : Nat) : FF := fun _ _ _ c => match c with
  | (_, L, st, h, k, z, o, cs) => match st with
    | b :: a :: r => match a, b with
      | .inl x, .inl y => match cnd f (nI x) (nI y) with
        | true => some (t, L, r, h, k, z, o, cs)
        | false => some (n, L, r, h, k, z, o, cs)
      | a, b => match isI a && isI b with
        | false => none
        | true => match o with
          | [] => none
          | true :: o' => some (t, L, r, h, k, z, o', (f, a, b, true) :: cs)
          | false :: o' => some (n, L, r, h, k, z, o', (f, a, b, false) :: cs)
    | _ => none
theorem s_br2_ok {g : GG} {HB : Heap} {l : Launch} {call : CallF} {cc : ByteArray} {nL : Nat} {own nm : String} {pc t n : Nat} {f : Nat}
    (row : ∀ (p : Program) (l : Launch) (e : Env) (R : Room) (s : State) (m : MethodId) (args : Array Value) (below : List Frame) (meth : Method) (c : Code) (H : Heap) (locs : List Loc) (cells slots : Nat) (Q : State → Prop) (ls : Array Slot) (rest : List Value) (x y : Int32), p.tables.exec = Jvm.exec → c.code = cc → (cnd f x y = true → W p l e R s m args below meth c H locs cells slots Q (F0 m t ls rest)) → (cnd f x y = false → W p l e R s m args below meth c H locs cells slots Q (F0 m n ls rest)) → W p l e R s m args below meth c H locs cells slots Q (F0 m pc ls (.int y :: .int x :: rest))) :
    Snd g HB l call cc nL own nm pc (s_br2 f t n) := by
  have sym : ∀ (a b : AV) (r : List AV) (fr lo : Nat) (L : LL) (h : List AE) (k z : Nat) (o : List Bool) (cs : CSL) (pc' : Nat) (L' : LL) (st' : List AV) (h' : List AE) (k' z' : Nat) (o' : List Bool) (cs' : CSL),
      (match isI a && isI b with
        | false => none
        | true => match o with
          | [] => none
          | true :: o' => some (t, L, r, h, k, z, o', (f, a, b, true) :: cs)
          | false :: o' => some (n, L, r, h, k, z, o', (f, a, b, false) :: cs)) = some (pc', L', st', h', k', z', o', cs') →
      (cs <:+ cs' ∧ k ≤ k' ∧ z ≤ z') ∧
      (okc g cs' → ∀ (p : Program) (e : Env) (R : Room) (s : State) (m : MethodId) (args : Array Value) (below : List Frame) (meth : Method) (c : Code) (Q : State → Prop) (H : Heap) (locs : List Loc) (ls : Array Slot),
        Cx g HB p s m args meth c cc nL own nm → fr ≤ R.frames → lo ≤ R.locals → k' ≤ R.cells → z' ≤ R.slots → Rh g HB h H locs → lv_has ls nL (cL g L) →
        (∀ (H' : Heap) (locs' : List Loc) (ls' : Array Slot), Rh g HB h' H' locs' → lv_has ls' nL (cL g L') → W p l e R s m args below meth c H' locs' k' z' Q (F0 m pc' ls' (st'.map (cV g)))) →
        W p l e R s m args below meth c H locs k z Q (F0 m pc ls ((b :: a :: r).map (cV g)))) := by
    intro a b r fr lo L h k z o cs pc' L' st' h' k' z' o' cs' hf
    cases hi : isI a && isI b with
    | false => rw [hi] at hf; cases hf
    | true =>
      rw [hi] at hf
      rw [Bool.and_eq_true] at hi
      rcases o with _ | ⟨q, o1⟩
      · cases hf
      cases q with
      | true =>
        cases hf
        refine ⟨⟨List.suffix_cons _ _, Nat.le_refl _, Nat.le_refl _⟩, fun hk p e R s m args below meth c Q H locs ls hC _ _ _ _ hR hl kk => ?_⟩
        have hb : cnd f (gI g a) (gI g b) = true := hk _ List.mem_cons_self
        rw [List.map_cons, List.map_cons, cV_I hi.1, cV_I hi.2]
        exact row p l e R s m args below meth c H locs k z Q ls _ _ _ hC.1.1 hC.1.2.1 (fun _ => kk H locs ls hR hl) (fun h => by rw [hb] at h; cases h)
      | false =>
        cases hf
        refine ⟨⟨List.suffix_cons _ _, Nat.le_refl _, Nat.le_refl _⟩, fun hk p e R s m args below meth c Q H locs ls hC _ _ _ _ hR hl kk => ?_⟩
        have hb : cnd f (gI g a) (gI g b) = false := hk _ List.mem_cons_self
        rw [List.map_cons, List.map_cons, cV_I hi.1, cV_I hi.2]
        exact row p l e R s m args below meth c H locs k z Q ls _ _ _ hC.1.1 hC.1.2.1 (fun h => by rw [hb] at h; cases h) (fun _ => kk H locs ls hR hl)
  intro fr lo L st h k z o cs pc' L' st' h' k' z' o' cs' hf
  rcases st with _ | ⟨b, _ | ⟨a, r⟩⟩
  · cases hf
  · cases hf
  rcases a with x | a
  · rcases b with y | b
    · simp only [s_br2] at hf
      cases hb : cnd f (nI x) (nI y) with
      | true =>
        rw [hb] at hf
        cases hf
        refine ⟨⟨List.suffix_refl _, Nat.le_refl _, Nat.le_refl _⟩, fun _ p e R s m args below meth c Q H locs ls hC _ _ _ _ hR hl kk => ?_⟩
        exact row p l e R s m args below meth c H locs k z Q ls _ (nI x) (nI y) hC.1.1 hC.1.2.1 (fun _ => kk H locs ls hR hl) (fun h => by rw [hb] at h; cases h)
      | false =>
        rw [hb] at hf
        cases hf
        refine ⟨⟨List.suffix_refl _, Nat.le_refl _, Nat.le_refl _⟩, fun _ p e R s m args below meth c Q H locs ls hC _ _ _ _ hR hl kk => ?_⟩
        exact row p l e R s m args below meth c H locs k z Q ls _ (nI x) (nI y) hC.1.1 hC.1.2.1 (fun h => by rw [hb] at h; cases h) (fun _ => kk H locs ls hR hl)
    · exact sym _ _ _ _ _ _ _ _ _ _ _ _ _ _ _ _ _ _ _ hf
  · exact sym _ _ _ _ _ _ _ _ _ _ _ _ _ _ _ _ _ _ _ hf
section BRS
variable {g : GG} {HB : Heap} {l : Launch} {call : CallF} {cc : ByteArray} {nL : Nat} {own nm : String} {pc t n : Nat} {off : Int}
theorem b_eq (hd : decode cc pc = .ok (.ifCond .eq off, 3)) (ht : (pc : Int) + off = (t : Int)) (hn : pc + 3 = n) : Snd g HB l call cc nL own nm pc (s_br1 0 t n) :=
  s_br1_ok fun _ _ _ _ _ _ _ _ _ _ _ _ _ _ _ _ _ _ hx hb k1 k2 => lv_if_eq hx hb hd ht (fun h => k1 (decide_eq_true h)) (fun h => by rw [hn]; exact k2 (decide_eq_false h))
theorem b_ne (hd : decode cc pc = .ok (.ifCond .ne off, 3)) (ht : (pc : Int) + off = (t : Int)) (hn : pc + 3 = n) : Snd g HB l call cc nL own nm pc (s_br1 1 t n) :=
  s_br1_ok fun _ _ _ _ _ _ _ _ _ _ _ _ _ _ _ _ _ _ hx hb k1 k2 => lv_if_ne hx hb hd ht (fun h => k1 (by show (!decide _) = true; rw [decide_eq_false h]; rfl)) (fun h => by rw [hn]; exact k2 (by show (!decide _) = false; rw [decide_eq_true h]; rfl))
theorem b_lt (hd : decode cc pc = .ok (.ifCond .lt off, 3)) (ht : (pc : Int) + off = (t : Int)) (hn : pc + 3 = n) : Snd g HB l call cc nL own nm pc (s_br1 2 t n) :=
  s_br1_ok fun _ _ _ _ _ _ _ _ _ _ _ _ _ _ _ _ _ _ hx hb k1 k2 => lv_if_lt hx hb hd ht (fun h => k1 (decide_eq_true h)) (fun h => by rw [hn]; exact k2 (decide_eq_false h))
theorem b_ge (hd : decode cc pc = .ok (.ifCond .ge off, 3)) (ht : (pc : Int) + off = (t : Int)) (hn : pc + 3 = n) : Snd g HB l call cc nL own nm pc (s_br1 3 t n) :=
  s_br1_ok fun _ _ _ _ _ _ _ _ _ _ _ _ _ _ _ _ _ _ hx hb k1 k2 => lv_if_ge hx hb hd ht (fun h => k1 (decide_eq_true h)) (fun h => by rw [hn]; exact k2 (decide_eq_false h))
theorem b_gt (hd : decode cc pc = .ok (.ifCond .gt off, 3)) (ht : (pc : Int) + off = (t : Int)) (hn : pc + 3 = n) : Snd g HB l call cc nL own nm pc (s_br1 4 t n) :=
  s_br1_ok fun _ _ _ _ _ _ _ _ _ _ _ _ _ _ _ _ _ _ hx hb k1 k2 => lv_if_gt hx hb hd ht (fun h => k1 (decide_eq_true h)) (fun h => by rw [hn]; exact k2 (decide_eq_false h))
theorem b_le (hd : decode cc pc = .ok (.ifCond .le off, 3)) (ht : (pc : Int) + off = (t : Int)) (hn : pc + 3 = n) : Snd g HB l call cc nL own nm pc (s_br1 5 t n) :=
  s_br1_ok fun _ _ _ _ _ _ _ _ _ _ _ _ _ _ _ _ _ _ hx hb k1 k2 => lv_if_le hx hb hd ht (fun h => k1 (decide_eq_true h)) (fun h => by rw [hn]; exact k2 (decide_eq_false h))
theorem b_ieq (hd : decode cc pc = .ok (.if_icmp .eq off, 3)) (ht : (pc : Int) + off = (t : Int)) (hn : pc + 3 = n) : Snd g HB l call cc nL own nm pc (s_br2 0 t n) :=
  s_br2_ok fun _ _ _ _ _ _ _ _ _ _ _ _ _ _ _ _ _ _ _ hx hb k1 k2 => lv_icmp_eq hx hb hd ht (fun h => k1 (decide_eq_true h)) (fun h => by rw [hn]; exact k2 (decide_eq_false h))
theorem b_ine (hd : decode cc pc = .ok (.if_icmp .ne off, 3)) (ht : (pc : Int) + off = (t : Int)) (hn : pc + 3 = n) : Snd g HB l call cc nL own nm pc (s_br2 1 t n) :=
  s_br2_ok fun _ _ _ _ _ _ _ _ _ _ _ _ _ _ _ _ _ _ _ hx hb k1 k2 => lv_icmp_ne hx hb hd ht (fun h => k1 (by show (!decide _) = true; rw [decide_eq_false h]; rfl)) (fun h => by rw [hn]; exact k2 (by show (!decide _) = false; rw [decide_eq_true h]; rfl))
theorem b_ilt (hd : decode cc pc = .ok (.if_icmp .lt off, 3)) (ht : (pc : Int) + off = (t : Int)) (hn : pc + 3 = n) : Snd g HB l call cc nL own nm pc (s_br2 2 t n) :=
  s_br2_ok fun _ _ _ _ _ _ _ _ _ _ _ _ _ _ _ _ _ _ _ hx hb k1 k2 => lv_icmp_lt hx hb hd ht (fun h => k1 (decide_eq_true h)) (fun h => by rw [hn]; exact k2 (decide_eq_false h))
theorem b_ige (hd : decode cc pc = .ok (.if_icmp .ge off, 3)) (ht : (pc : Int) + off = (t : Int)) (hn : pc + 3 = n) : Snd g HB l call cc nL own nm pc (s_br2 3 t n) :=
  s_br2_ok fun _ _ _ _ _ _ _ _ _ _ _ _ _ _ _ _ _ _ _ hx hb k1 k2 => lv_icmp_ge hx hb hd ht (fun h => k1 (decide_eq_true h)) (fun h => by rw [hn]; exact k2 (decide_eq_false h))
theorem b_igt (hd : decode cc pc = .ok (.if_icmp .gt off, 3)) (ht : (pc : Int) + off = (t : Int)) (hn : pc + 3 = n) : Snd g HB l call cc nL own nm pc (s_br2 4 t n) :=
  s_br2_ok fun _ _ _ _ _ _ _ _ _ _ _ _ _ _ _ _ _ _ _ hx hb k1 k2 => lv_icmp_gt hx hb hd ht (fun h => k1 (decide_eq_true h)) (fun h => by rw [hn]; exact k2 (decide_eq_false h))
theorem b_ile (hd : decode cc pc = .ok (.if_icmp .le off, 3)) (ht : (pc : Int) + off = (t : Int)) (hn : pc + 3 = n) : Snd g HB l call cc nL own nm pc (s_br2 5 t n) :=
  s_br2_ok fun _ _ _ _ _ _ _ _ _ _ _ _ _ _ _ _ _ _ _ hx hb k1 k2 => lv_icmp_le hx hb hd ht (fun h => k1 (decide_eq_true h)) (fun h => by rw [hn]; exact k2 (decide_eq_false h))
end BRS
/-- a switch on a number that is not known: foretold to be outside -/
def s_table (hi : Nat) (d : Nat) (ts : List Nat) : FF := fun cl fr lc c => match c with
  | (pc, L, .inr b :: r, h, k, z, true :: o, cs) => match isI (.inr b) with
    | true => some (d, L, r, h, k, z, o, (6, .inr b, .inl hi, true) :: cs)
    | false => none
  | c => lf (q_table 0 (hi : Int) d ts) cl fr lc c
theorem b_table {g : GG} {HB : Heap} {l : Launch} {call : CallF} {cc : ByteArray} {nL : Nat} {own nm : String} {pc hi : Nat} {dflt : Int} {offs : Array Int} {len d : Nat} {ts : List Nat} (hhi : hi < 2147483648) (hd : decode cc pc = .ok (.tableswitch dflt 0 (hi : Int) offs, len)) (hdf : (pc : Int) + dflt = (d : Int)) (hts : offs.toList.map (fun o => (pc : Int) + o) = ts.map (fun t : Nat => (t : Int))) : Snd g HB l call cc nL own nm pc (s_table hi d ts) := by
  intro fr lc L st h k z o cs pc' L' st' h' k' z' o' cs' hf
  have base := lf_ok (HB := HB) (l := l) (call := call) (own := own) (nm := nm) (p_table (g := g) (nL := nL) hd hdf hts) fr lc L st h k z o cs pc' L' st' h' k' z' o' cs'
  rcases st with _ | ⟨a, r⟩
  · exact base hf
  rcases a with x | b
  · exact base hf
  rcases o with _ | ⟨q, o1⟩
  · exact base hf
  cases q with
  | false => exact base hf
  | true =>
    simp only [s_table] at hf
    cases hq9 : isI (.inr b) with
    | false => rw [hq9] at hf; cases hf
    | true =>
      rw [hq9] at hf
      cases hf
      refine ⟨⟨List.suffix_cons _ _, Nat.le_refl _, Nat.le_refl _⟩, fun hk p e R s m args below meth c Q H locs ls hC _ _ _ _ hR hl kk => ?_⟩
      have hb : (decide ((gI g (.inr b)).toInt < 0) || decide ((nI hi).toInt < (gI g (.inr b)).toInt)) = true := hk _ List.mem_cons_self
      rw [nI_toInt (by omega)] at hb
      simp only [Bool.or_eq_true, decide_eq_true_eq] at hb
      rw [List.map_cons, cV_I hq9]
      exact lv_tableOut hC.1.1 hC.1.2.1 hd hb hdf (kk H locs ls hR hl)
/-- one and the same object beside itself -/
def s_acmp (same : Nat) : FF := fun _ _ _ c => match c with
  | (_, L, .inr (.inr (.float a)) :: .inr (.inr (.float b)) :: r, h, k, z, o, cs) => match Nat.beq a.toNat b.toNat with
    | true => some (same, L, r, h, k, z, o, cs)
    | false => none
  | _ => none
theorem b_acmp {g : GG} {HB : Heap} {l : Launch} {call : CallF} {cc : ByteArray} {nL : Nat} {own nm : String} {pc same : Nat}
    (row : ∀ (p : Program) (l : Launch) (e : Env) (R : Room) (s : State) (m : MethodId) (args : Array Value) (below : List Frame) (meth : Method) (c : Code) (H : Heap) (locs : List Loc) (cells slots : Nat) (Q : State → Prop) (ls : Array Slot) (rest : List Value) (x : Nat), p.tables.exec = Jvm.exec → c.code = cc → W p l e R s m args below meth c H locs cells slots Q (F0 m same ls rest) → W p l e R s m args below meth c H locs cells slots Q (F0 m pc ls (.ref x :: .ref x :: rest))) : Snd g HB l call cc nL own nm pc (s_acmp same) := by
  intro fr lo L st h k z o cs pc' L' st' h' k' z' o' cs' hf
  rcases st with _ | ⟨a, _ | ⟨b, r⟩⟩
  · cases hf
  · rcases a with a | a | v
    · cases hf
    · cases hf
    · cases v <;> cases hf
  · rcases a with a | a | v
    · cases hf
    · cases hf
    · cases v <;> first | cases hf | skip
      rename_i fa
      rcases b with b | b | w
      · cases hf
      · cases hf
      · cases w <;> first | cases hf | skip
        rename_i fb
        simp only [s_acmp] at hf
        cases hb : Nat.beq fa.toNat fb.toNat with
        | false => rw [hb] at hf; cases hf
        | true =>
          rw [hb] at hf
          cases hf
          have he := Nat.eq_of_beq_eq_true hb
          refine ⟨⟨List.suffix_refl _, Nat.le_refl _, Nat.le_refl _⟩, fun _ p e R s m args below meth c Q H locs ls hC _ _ _ _ hR hl kk => ?_⟩
          have h2 := row p l e R s m args below meth c H locs k z Q ls _ (g.2.1 fb.toNat) hC.1.1 hC.1.2.1 (kk H locs ls hR hl)
          show W p l e R s m args below meth c H locs k z Q (F0 m pc ls (Value.ref (g.2.1 fa.toNat) :: Value.ref (g.2.1 fb.toNat) :: _))
          rw [he]
          exact h2
theorem b_acmp_eq {g : GG} {HB : Heap} {l : Launch} {call : CallF} {cc : ByteArray} {nL : Nat} {own nm : String} {pc t : Nat} {off : Int} (hd : decode cc pc = .ok (.if_acmp .eq off, 3)) (ht : (pc : Int) + off = (t : Int)) : Snd g HB l call cc nL own nm pc (s_acmp t) :=
  b_acmp fun _ _ _ _ _ _ _ _ _ _ _ _ _ _ _ _ _ x hx hb k => lv_acmp_eq (rx := some x) (ry := some x) hx hb hd ht (fun _ => k) (fun h => absurd rfl h)
theorem b_acmp_ne {g : GG} {HB : Heap} {l : Launch} {call : CallF} {cc : ByteArray} {nL : Nat} {own nm : String} {pc t n : Nat} {off : Int} (hd : decode cc pc = .ok (.if_acmp .ne off, 3)) (ht : (pc : Int) + off = (t : Int)) (hn : pc + 3 = n) : Snd g HB l call cc nL own nm pc (s_acmp n) :=
  b_acmp fun _ _ _ _ _ _ _ _ _ _ _ _ _ _ _ _ _ x hx hb k => lv_acmp_ne (rx := some x) (ry := some x) hx hb hd ht (fun h => absurd rfl h) (fun _ => by rw [hn]; exact k)
end
section
/-! The tables' words by their places, and the classes' facts. -/
def tabL (j : Nat) : List Cond := match j with
  | 1 => tables_1_1
  | 2 => tables_1_2
  | 3 => tables_1_3
  | 4 => tables_1_4
  | 5 => tables_1_5
  | 6 => tables_1_6
  | 7 => tables_1_7
  | 8 => tables_1_8
  | _ => tables_1_9
theorem tabL_in {j : Nat} {w : Cond} (h : w ∈ tabL j) : w ∈ tables_1 := by
  have key : ∀ (a b : List Cond), w ∈ a ∨ w ∈ b → w ∈ a ++ b := fun a b h => List.mem_append.mpr h
  unfold tables_1
  rcases (show j = 1 ∨ j = 2 ∨ j = 3 ∨ j = 4 ∨ j = 5 ∨ j = 6 ∨ j = 7 ∨ j = 8 ∨ (j ≠ 1 ∧ j ≠ 2 ∧ j ≠ 3 ∧ j ≠ 4 ∧ j ≠ 5 ∧ j ≠ 6 ∧ j ≠ 7 ∧ j ≠ 8) by omega) with rfl | rfl | rfl | rfl | rfl | rfl | rfl | rfl | hj
  · exact key _ _ (Or.inl h)
  · exact key _ _ (Or.inr (key _ _ (Or.inl h)))
  · exact key _ _ (Or.inr (key _ _ (Or.inr (key _ _ (Or.inl h)))))
  · exact key _ _ (Or.inr (key _ _ (Or.inr (key _ _ (Or.inr (key _ _ (Or.inl h)))))))
  · exact key _ _ (Or.inr (key _ _ (Or.inr (key _ _ (Or.inr (key _ _ (Or.inr (key _ _ (Or.inl h)))))))))
  · exact key _ _ (Or.inr (key _ _ (Or.inr (key _ _ (Or.inr (key _ _ (Or.inr (key _ _ (Or.inr (key _ _ (Or.inl h)))))))))))
  · exact key _ _ (Or.inr (key _ _ (Or.inr (key _ _ (Or.inr (key _ _ (Or.inr (key _ _ (Or.inr (key _ _ (Or.inr (key _ _ (Or.inl h)))))))))))))
  · exact key _ _ (Or.inr (key _ _ (Or.inr (key _ _ (Or.inr (key _ _ (Or.inr (key _ _ (Or.inr (key _ _ (Or.inr (key _ _ (Or.inr (key _ _ (Or.inl h)))))))))))))))
  · have e : tabL j = tables_1_9 := by
      unfold tabL
      split <;> first | rfl | (exfalso; omega)
    rw [e] at h
    exact key _ _ (Or.inr (key _ _ (Or.inr (key _ _ (Or.inr (key _ _ (Or.inr (key _ _ (Or.inr (key _ _ (Or.inr (key _ _ (Or.inr (key _ _ (Or.inr h)))))))))))))))
/-- a word of the tables, by its place -/
theorem tin {w : Cond} (j i : Nat) (h : (tabL j)[i]? = some w) (hg : goodWord w = true) : w ∈ wsG := List.mem_filter.mpr ⟨List.mem_append_right _ (tabL_in (List.mem_of_getElem? h)), hg⟩
theorem tinN {w : Cond} (j i : Nat) (h : (tabL j)[i]? = some w) (hg : isNest w = true) : w ∈ nwL := List.mem_filter.mpr ⟨List.mem_append_right _ (tabL_in (List.mem_of_getElem? h)), hg⟩
/-- a private method's choice, by its place among the private methods -/
theorem tinP {y : MethodName} {n : Nat} (i : Nat) (h : lw_privs[i]? = some (y, n)) : Cond.selects y.cls y y ∈ wsG := List.mem_filter.mpr ⟨List.mem_append_left _ (List.mem_map.mpr ⟨(y, n), List.mem_of_getElem? h, rfl⟩), rfl⟩
theorem tin_ps {ws : List Cond} (ps : List (Nat × Nat)) (h : ws = ps.filterMap (fun q => (tabL q.1)[q.2]?)) (hg : ws.all goodWord = true) : ∀ w ∈ ws, w ∈ wsG := by
  intro w hw
  have hgw := List.all_eq_true.mp hg w hw
  rw [h] at hw
  obtain ⟨q, -, hq⟩ := List.mem_filterMap.mp hw
  exact tin q.1 q.2 hq hgw
def tyOf (T : u_T) (k : Nat) : FieldType := (parseFieldDescriptor (T k).2.2.1).getD .int
def ClOK (q : vw_C) : Prop := (∀ w ∈ u_ws q.1 q.2.1 q.2.2, w ∈ wsG) ∧ (∀ k, k < q.2.2 → parseFieldDescriptor (q.2.1 k).2.2.1 = some (tyOf q.2.1 k)) ∧ ∀ a, a < q.2.2 → ∀ b, b < q.2.2 → a ≠ b → (q.2.1 a).2.1 ≠ (q.2.1 b).2.1
theorem ty_of {T : u_T} {N : Nat} {ty : Nat → FieldType} (h : ∀ k, k < N → parseFieldDescriptor (T k).2.2.1 = some (ty k)) : ∀ k, k < N → parseFieldDescriptor (T k).2.2.1 = some (tyOf T k) := by
  intro k hk
  unfold tyOf
  rw [h k hk]
  rfl
set_option maxRecDepth 100000 in
theorem clok_Jx4a65c : ClOK (RJx4a65c, TJx4a65c, 3) := ⟨tin_ps [(1, 106), (1, 102), (1, 104)] (by decide +kernel) (by decide +kernel), ty_of tyJx4a65c_ok, nmJx4a65c⟩
set_option maxRecDepth 100000 in
theorem clok_X0 : ClOK (RX0, TX0, 7) := ⟨tin_ps [(1, 67), (1, 69), (1, 71), (1, 73), (1, 75), (1, 77), (1, 79)] (by decide +kernel) (by decide +kernel), ty_of tyX0_ok, nmX0⟩
set_option maxRecDepth 100000 in
theorem clok_X1 : ClOK (RX1, TX1, 2) := ⟨tin_ps [(1, 48), (1, 50)] (by decide +kernel) (by decide +kernel), ty_of tyX1_ok, nmX1⟩
set_option maxRecDepth 100000 in
theorem clok_X4 : ClOK (RX4, TX4, 5) := ⟨tin_ps [(1, 158), (1, 160), (1, 162), (1, 164), (1, 166)] (by decide +kernel) (by decide +kernel), ty_of tyX4_ok, nmX4⟩
set_option maxRecDepth 100000 in
theorem clok_X5 : ClOK (RX5, TX5, 9) := ⟨tin_ps [(2, 5), (2, 7), (2, 9), (2, 11), (2, 13), (2, 15), (2, 17), (2, 19), (2, 21)] (by decide +kernel) (by decide +kernel), ty_of tyX5_ok, nmX5⟩
set_option maxRecDepth 100000 in
theorem clok_X6 : ClOK (RX6, TX6, 8) := ⟨tin_ps [(5, 68), (5, 70), (5, 72), (5, 74), (5, 76), (5, 78), (5, 80), (5, 82)] (by decide +kernel) (by decide +kernel), ty_of tyX6_ok, nmX6⟩
set_option maxRecDepth 100000 in
theorem clok_X7 : ClOK (RX7, TX7, 15) := ⟨tin_ps [(1, 184), (1, 186), (1, 188), (1, 190), (1, 192), (1, 194), (1, 196), (1, 198), (1, 200), (1, 202), (1, 204), (1, 206), (1, 208), (1, 210), (1, 212)] (by decide +kernel) (by decide +kernel), ty_of tyX7_ok, nmX7⟩
set_option maxRecDepth 100000 in
theorem clok_X8 : ClOK (RX8, TX8, 17) := ⟨tin_ps [(2, 44), (2, 46), (2, 48), (2, 50), (2, 52), (2, 54), (2, 56), (2, 58), (2, 60), (2, 62), (2, 64), (2, 66), (2, 68), (2, 70), (2, 72), (2, 74), (2, 76)] (by decide +kernel) (by decide +kernel), ty_of tyX8_ok, nmX8⟩
set_option maxRecDepth 100000 in
theorem clok_X10 : ClOK (RX10, TX10, 7) := ⟨tin_ps [(1, 122), (1, 124), (1, 126), (1, 128), (1, 130), (1, 132), (1, 134)] (by decide +kernel) (by decide +kernel), ty_of tyX10_ok, nmX10⟩
set_option maxRecDepth 100000 in
theorem clok_X11 : ClOK (RX11, TX11, 17) := ⟨tin_ps [(2, 112), (2, 114), (2, 116), (2, 118), (2, 120), (2, 122), (2, 124), (2, 126), (2, 128), (2, 130), (2, 132), (2, 134), (2, 136), (2, 138), (2, 140), (2, 142), (2, 144)] (by decide +kernel) (by decide +kernel), ty_of tyX11_ok, nmX11⟩
set_option maxRecDepth 100000 in
theorem clok_X12 : ClOK (RX12, TX12, 70) := ⟨tin_ps [(6, 231), (6, 233), (6, 235), (6, 237), (6, 239), (7, 1), (7, 3), (7, 5), (7, 7), (7, 9), (7, 11), (7, 13), (7, 15), (7, 17), (7, 19), (7, 21), (7, 23), (7, 25), (7, 27), (7, 29), (7, 31), (7, 33), (7, 35), (7, 37), (7, 39), (7, 41), (7, 43), (7, 45), (7, 47), (7, 49), (7, 51), (7, 53), (7, 55), (7, 57), (7, 59), (7, 61), (7, 63), (7, 65), (7, 67), (7, 69), (7, 71), (7, 73), (7, 75), (7, 77), (7, 79), (7, 81), (7, 83), (7, 85), (7, 87), (7, 89), (7, 91), (7, 93), (7, 95), (7, 97), (7, 99), (7, 101), (7, 103), (7, 105), (7, 107), (7, 109), (7, 111), (7, 113), (7, 115), (7, 117), (7, 119), (7, 121), (7, 123), (7, 125), (7, 127), (7, 129)] (by decide +kernel) (by decide +kernel), ty_of tyX12_ok, nmX12⟩
theorem cl_all {ci : Nat} {q : vw_C} (h : vwCl[ci]? = some q) : ClOK q := by
  have hm := List.mem_of_getElem? h
  simp only [vwCl, List.mem_cons, List.not_mem_nil, or_false] at hm
  rcases hm with rfl | rfl | rfl | rfl | rfl | rfl | rfl | rfl | rfl | rfl | rfl
  · exact clok_Jx4a65c
  · exact clok_X0
  · exact clok_X1
  · exact clok_X4
  · exact clok_X5
  · exact clok_X6
  · exact clok_X7
  · exact clok_X8
  · exact clok_X10
  · exact clok_X11
  · exact clok_X12
section CLF
variable {ci : Nat} {C : String} {T : u_T} {N : Nat}
theorem cl_in (hc : vwCl[ci]? = some (C, T, N)) : ∀ w ∈ u_ws C T N, w ∈ wsG := (cl_all hc).1
theorem cl_ty (hc : vwCl[ci]? = some (C, T, N)) : ∀ k, k < N → parseFieldDescriptor (T k).2.2.1 = some (tyOf T k) := (cl_all hc).2.1
theorem cl_nm (hc : vwCl[ci]? = some (C, T, N)) : ∀ a, a < N → ∀ b, b < N → a ≠ b → (T a).2.1 ≠ (T b).2.1 := (cl_all hc).2.2
end CLF
end
section
/-! Fields. -/
def rOf (a : AV) : Option Nat := match a with
  | .inl _ => none
  | .inr (.inl _) => none
  | .inr (.inr v) => match v with
    | .ref k => some k
    | _ => none
theorem rOf_eq {a : AV} {k : Nat} (h : rOf a = some k) : a = .inr (.inr (.ref k)) := by
  rcases a with n | n | v
  · cases h
  · cases h
  · cases v <;> cases h
    rfl
section CEL
variable {g : GG} {HB : Heap} {l : Launch} {call : CallF} {cc : ByteArray} {nL : Nat} {own nm : String} {pc n : Nat} {ci : Nat} {C : String} {T : u_T} {N : Nat}
def s_get (ci k n : Nat) : FF := fun _ _ _ c => match c with
  | (_, L, st, h, kk, z, o, cs) => match st with
    | [] => none
    | a :: r => match rOf a with
      | none => none
      | some q => match h[q]? with
        | some (.inr (cj, fs)) => match Nat.beq ci cj with
          | true => match fs[k]? with
            | some v => some (n, L, v :: r, h, kk, z, o, cs)
            | none => none
          | false => none
        | _ => none
theorem s_get_ok {ci k n fr lo pc : Nat} {call : CallF} {L : LL} {st : List AV} {h : List AE} {kk z : Nat} {o : List Bool} {cs : CSL} {x : Cfg} (hf : s_get ci k n call fr lo (pc, L, st, h, kk, z, o, cs) = some x) : ∃ (q : Nat) (r : List AV) (fs : List AV) (v : AV), st = .inr (.inr (.ref q)) :: r ∧ h[q]? = some (.inr (ci, fs)) ∧ fs[k]? = some v ∧ x = (n, L, v :: r, h, kk, z, o, cs) := by
  rcases st with _ | ⟨a, r⟩
  · cases hf
  simp only [s_get] at hf
  cases ha : rOf a with
  | none => rw [ha] at hf; cases hf
  | some q =>
    rw [ha] at hf
    simp only at hf
    cases hq : h[q]? with
    | none => rw [hq] at hf; cases hf
    | some c =>
      rw [hq] at hf
      rcases c with c | ⟨cj, fs⟩
      · cases hf
      simp only at hf
      cases hb : Nat.beq ci cj with
      | false => rw [hb] at hf; cases hf
      | true =>
        rw [hb] at hf
        simp only at hf
        cases hv : fs[k]? with
        | none => rw [hv] at hf; cases hf
        | some v =>
          rw [hv] at hf
          cases hf
          have e := Nat.eq_of_beq_eq_true hb
          subst e
          exact ⟨q, r, fs, v, by rw [rOf_eq ha], hq, hv, rfl⟩
theorem h_get {k idx : Nat} (hc : vwCl[ci]? = some (C, T, N)) (hk : k < N) (hlink : Cond.fieldLink own idx (T k).1 (T k).2.1 (T k).2.2.1 ∈ wsG) (hd : decode cc pc = .ok (.getfield idx, 3)) (hn : pc + 3 = n) : Snd g HB l call cc nL own nm pc (s_get ci k n) := by
  intro fr lo L st h kk z o cs pc' L' st' h' k' z' o' cs' hf
  obtain ⟨q, r, fs, v, rfl, hq, hv, e⟩ := s_get_ok hf
  cases e
  subst hn
  refine ⟨⟨List.suffix_refl _, Nat.le_refl _, Nat.le_refl _⟩, fun _ p e R s m args below meth c Q H locs ls hC _ _ _ _ hR hl kk => ?_⟩
  obtain ⟨⟨hx, hb, hml, hown, hts⟩, hA, -⟩ := hC
  exact va_get hx hb hts (cl_in hc) hown hA.1 hR.2.2.1 q (Rh.ws hq) hc k hk (hts _ hlink) (fun _ h9 => h9) (by rw [List.getElem?_map, hv]; rfl) hd (kk H locs ls hR hl)
theorem h_getS {k idx : Nat} {ref : String} (hc : vwCl[ci]? = some (C, T, N)) (hk : k < N) (hlink : Cond.fieldLink own idx ref (T k).2.1 (T k).2.2.1 ∈ wsG) (hsame : Cond.sameField ref (T k).1 (T k).2.1 (T k).2.2.1 ∈ wsG) (hd : decode cc pc = .ok (.getfield idx, 3)) (hn : pc + 3 = n) : Snd g HB l call cc nL own nm pc (s_get ci k n) := by
  intro fr lo L st h kk z o cs pc' L' st' h' k' z' o' cs' hf
  obtain ⟨q, r, fs, v, rfl, hq, hv, e⟩ := s_get_ok hf
  cases e
  subst hn
  refine ⟨⟨List.suffix_refl _, Nat.le_refl _, Nat.le_refl _⟩, fun _ p e R s m args below meth c Q H locs ls hC _ _ _ _ hR hl kk => ?_⟩
  obtain ⟨⟨hx, hb, hml, hown, hts⟩, hA, -⟩ := hC
  exact va_get hx hb hts (cl_in hc) hown hA.1 hR.2.2.1 q (Rh.ws hq) hc k hk (hts _ hlink) (u_same (hts _ hsame)) (by rw [List.getElem?_map, hv]; rfl) hd (kk H locs ls hR hl)
theorem h_getN {k idx : Nat} {host : String} (hc : vwCl[ci]? = some (C, T, N)) (hk : k < N) (hlink : Cond.fieldLinkNest own idx (T k).1 (T k).2.1 (T k).2.2.1 host ∈ nwL) (hd : decode cc pc = .ok (.getfield idx, 3)) (hn : pc + 3 = n) : Snd g HB l call cc nL own nm pc (s_get ci k n) := by
  intro fr lo L st h kk z o cs pc' L' st' h' k' z' o' cs' hf
  obtain ⟨q, r, fs, v, rfl, hq, hv, e⟩ := s_get_ok hf
  cases e
  subst hn
  refine ⟨⟨List.suffix_refl _, Nat.le_refl _, Nat.le_refl _⟩, fun _ p e R s m args below meth c Q H locs ls hC _ _ _ _ hR hl kk => ?_⟩
  obtain ⟨⟨hx, hb, hml, hown, hts⟩, hA, -⟩ := hC
  exact va_getN hx hb hts (cl_in hc) hown hA.1 hR.2.2.1 q (Rh.ws hq) hc k hk (va_Nw.use rfl (hA.2.1 _ hlink)) (fun _ h9 => h9) (by rw [List.getElem?_map, hv]; rfl) hd (kk H locs ls hR hl)
-- fields written
def isN (v : AV) : Bool := match v with
  | .inl _ => false
  | .inr (.inl _) => false
  | .inr (.inr v) => match v with
    | .null => true
    | _ => false
def okV (kd : Nat) (v : AV) : Bool := match kd with
  | 0 => isI v
  | 1 => match v with
    | .inl n => Nat.blt n 2
    | .inr _ => false
  | 2 => isL v
  | _ => isR v || isN v
def kdOK (kd : Nat) (ty : FieldType) : Prop := match kd with
  | 0 => ty = .int
  | 1 => ty = .boolean
  | 2 => ty = .long
  | _ => (∃ n, ty = .object n) ∨ ∃ t, ty = .array t
theorem okV_ok {kd : Nat} {v : AV} {ty : FieldType} (h : okV kd v = true) (hk : kdOK kd ty) : narrow ty (cV g v) = cV g v ∧ fits ty (cV g v) = true := by
  have ref : (isR v || isN v) = true → ((∃ n, ty = .object n) ∨ ∃ t, ty = .array t) → narrow ty (cV g v) = cV g v ∧ fits ty (cV g v) = true := by
    intro h hk
    rw [Bool.or_eq_true] at h
    rcases h with h | h
    · rw [cV_R h]
      rcases hk with ⟨n, rfl⟩ | ⟨t, rfl⟩ <;> exact ⟨rfl, rfl⟩
    · rcases v with v | v | v
      · cases h
      · cases h
      · cases v <;> first | cases h | skip
        rcases hk with ⟨n, rfl⟩ | ⟨t, rfl⟩ <;> exact ⟨rfl, rfl⟩
  rcases kd with _ | _ | _ | kd
  · have hk : ty = .int := hk
    subst hk
    rw [cV_I h]
    exact ⟨rfl, rfl⟩
  · have hk : ty = .boolean := hk
    subst hk
    rcases v with v | v
    · have h : Nat.blt v 2 = true := h
      have h2 : v < 2 := Nat.blt_eq.mp h
      rcases (show v = 0 ∨ v = 1 by omega) with rfl | rfl
      · constructor
        · show narrow .boolean (.int (nI 0)) = .int (nI 0)
          decide +kernel
        · show fits .boolean (.int (nI 0)) = true
          decide +kernel
      · constructor
        · show narrow .boolean (.int (nI 1)) = .int (nI 1)
          decide +kernel
        · show fits .boolean (.int (nI 1)) = true
          decide +kernel
    · cases h
  · have hk : ty = .long := hk
    subst hk
    rw [cV_L h]
    exact ⟨rfl, rfl⟩
  · exact ref h hk
def s_put (ci k kd n : Nat) : FF := fun _ _ _ c => match c with
  | (_, L, st, h, kk, z, o, cs) => match st with
    | v :: a :: r => match rOf a with
      | none => none
      | some q => match h[q]? with
        | some (.inr (cj, fs)) => match Nat.beq ci cj && (okV kd v && Nat.blt k fs.length) with
          | true => fzs (fs.set k v) (fun fs' => fzs (h.set q (.inr (ci, fs'))) (fun h' => some (n, L, r, h', kk, z, o, cs)))
          | false => none
        | _ => none
    | _ => none
theorem s_put_ok {ci k kd n fr lo pc : Nat} {call : CallF} {L : LL} {st : List AV} {h : List AE} {kk z : Nat} {o : List Bool} {cs : CSL} {x : Cfg} (hf : s_put ci k kd n call fr lo (pc, L, st, h, kk, z, o, cs) = some x) : ∃ (q : Nat) (r : List AV) (fs : List AV) (v : AV), st = v :: .inr (.inr (.ref q)) :: r ∧ h[q]? = some (.inr (ci, fs)) ∧ okV kd v = true ∧ k < fs.length ∧ x = (n, L, r, h.set q (.inr (ci, fs.set k v)), kk, z, o, cs) := by
  rcases st with _ | ⟨v, _ | ⟨a, r⟩⟩
  · cases hf
  · cases hf
  simp only [s_put] at hf
  cases ha : rOf a with
  | none => rw [ha] at hf; cases hf
  | some q =>
    rw [ha] at hf
    simp only at hf
    cases hq : h[q]? with
    | none => rw [hq] at hf; cases hf
    | some c =>
      rw [hq] at hf
      rcases c with c | ⟨cj, fs⟩
      · cases hf
      simp only at hf
      cases hb : Nat.beq ci cj && (okV kd v && Nat.blt k fs.length) with
      | false => rw [hb] at hf; cases hf
      | true =>
        rw [hb] at hf
        simp only [fzs_eq] at hf
        cases hf
        rw [Bool.and_eq_true, Bool.and_eq_true] at hb
        have e := Nat.eq_of_beq_eq_true hb.1
        subst e
        exact ⟨q, r, fs, v, by rw [rOf_eq ha], hq, hb.2.1, Nat.blt_eq.mp hb.2.2, rfl⟩
theorem put_core {k q : Nat} {fs : List AV} {v : AV} {H : Heap} {h : List AE} {locs : List Loc} (hc : vwCl[ci]? = some (C, T, N)) (hk : k < N) (hR : Rh g HB h H locs) (hq : h[q]? = some (.inr (ci, fs))) (hl : k < fs.length) (hap : ∀ x y, x < N → y < N → x ≠ y → (g.2.2.1.2 ci) x ≠ (g.2.2.1.2 ci) y) :
    ∃ cell : Cell, H[g.1 + q]? = some cell ∧ cell.vm = .none ∧ cell.cls = g.2.2.1.1 ci ∧ (g.2.2.1.2 ci k) < cell.slots.size ∧
      ∀ H1 : Heap, H1[g.1 + q]? = some (cell.setSlot (g.2.2.1.2 ci k) (cV g v)) → H1.size = H.size → (∀ x : Nat, x ≠ g.1 + q → H1[x]? = H[x]?) → Rh g HB (h.set q (.inr (ci, fs.set k v))) H1 (locs ++ [⟨g.1 + q, g.2.2.1.2 ci k⟩]) := by
  obtain ⟨r, h1, cell, q1, q2, q3, q4⟩ := hR.get hq
  have hr : r = (C, T, N) := Option.some.inj (h1.symm.trans hc)
  subst hr
  refine ⟨cell, q1, q3, q2, k2_hasslot (q4 k hk), fun H1 e1 e2 e3 => hR.set hq ?_ e2 e3⟩
  refine ⟨_, hc, ?_⟩
  have h2 : k < (fs.map (cV g)).length := by rw [List.length_map]; exact hl
  have h3 := t_OB.to (V := updV (vp_V (fs.map (cV g))) k (cV g v)) (V' := vp_V ((fs.map (cV g)).set k (cV g v))) ⟨_, e1, q2, q3, t_set q4 hap hk (cV g v)⟩ (fun j _ => vp_updV_set h2 (cV g v) j)
  show t_OB (g.1 + q) (g.2.2.1.1 ci) N (g.2.2.1.2 ci) H1 (vp_V ((fs.set k v).map (cV g)))
  rw [List.map_set]
  exact h3
theorem h_put {k kd idx : Nat} (hc : vwCl[ci]? = some (C, T, N)) (hk : k < N) (hfin : (T k).2.2.2 = false) (hkd : kdOK kd (tyOf T k)) (hlink : Cond.fieldLink own idx (T k).1 (T k).2.1 (T k).2.2.1 ∈ wsG) (hd : decode cc pc = .ok (.putfield idx, 3)) (hn : pc + 3 = n) : Snd g HB l call cc nL own nm pc (s_put ci k kd n) := by
  intro fr lo L st h kk z o cs pc' L' st' h' k' z' o' cs' hf
  obtain ⟨q, r, fs, v, rfl, hq, hv, hlt, e⟩ := s_put_ok hf
  cases e
  subst hn
  refine ⟨⟨List.suffix_refl _, Nat.le_refl _, Nat.le_refl _⟩, fun _ p e R s m args below meth c Q H locs ls hC _ _ _ _ hR hl kk => ?_⟩
  obtain ⟨⟨hx, hb, hml, hown, hts⟩, hA, -⟩ := hC
  have hap := va_apart (own := own) hts (cl_in hc) (tyOf T) (cl_ty hc) (cl_nm hc) hA.1 hc
  obtain ⟨hS, hfc, kC, hkC, hkind⟩ := hA.1.1 ci _ hc
  obtain ⟨cf, kf, fi, f, hi, hsl⟩ := hS k hk
  have hlay := hts _ (cl_in hc _ (u_in_lay hk))
  unfold u_lay at hlay
  rw [if_neg (by rw [hfin]; decide)] at hlay
  have hst := (u_facts hfc hkC (u_lays hts (cl_in hc) hk) hi).1
  obtain ⟨hnv, hft⟩ := okV_ok (g := g) hv hkd
  have h6 := u_store hfc hkC hkind hlay hi (cl_ty hc k hk) hnv hft
  obtain ⟨cell, q1, q2, q3, q4, q5⟩ := put_core (v := v) hc hk hR hq hlt hap
  refine W.putK hx hb (f := f) ⟨hown, hts _ hlink, ⟨_, _, _, hi⟩, hst⟩ (by rw [q3]; exact h6) q1 q2 (by rw [hsl]; exact q4) rfl rfl hd fun H' e1 e2 e3 => ?_
  rw [hsl] at e1 ⊢
  exact kk H' _ ls (q5 H' e1 e2 e3) hl
theorem h_putS {k kd idx : Nat} {ref : String} (hc : vwCl[ci]? = some (C, T, N)) (hk : k < N) (hfin : (T k).2.2.2 = false) (hkd : kdOK kd (tyOf T k)) (hlink : Cond.fieldLink own idx ref (T k).2.1 (T k).2.2.1 ∈ wsG) (hsame : Cond.sameField ref (T k).1 (T k).2.1 (T k).2.2.1 ∈ wsG) (hd : decode cc pc = .ok (.putfield idx, 3)) (hn : pc + 3 = n) : Snd g HB l call cc nL own nm pc (s_put ci k kd n) := by
  intro fr lo L st h kk z o cs pc' L' st' h' k' z' o' cs' hf
  obtain ⟨q, r, fs, v, rfl, hq, hv, hlt, e⟩ := s_put_ok hf
  cases e
  subst hn
  refine ⟨⟨List.suffix_refl _, Nat.le_refl _, Nat.le_refl _⟩, fun _ p e R s m args below meth c Q H locs ls hC _ _ _ _ hR hl kk => ?_⟩
  obtain ⟨⟨hx, hb, hml, hown, hts⟩, hA, -⟩ := hC
  have hap := va_apart (own := own) hts (cl_in hc) (tyOf T) (cl_ty hc) (cl_nm hc) hA.1 hc
  obtain ⟨hS, hfc, kC, hkC, hkind⟩ := hA.1.1 ci _ hc
  obtain ⟨cf, kf, fi, f, hi, hsl⟩ := hS k hk
  have hlay := hts _ (cl_in hc _ (u_in_lay hk))
  unfold u_lay at hlay
  rw [if_neg (by rw [hfin]; decide)] at hlay
  have hst := (u_facts hfc hkC (u_lays hts (cl_in hc) hk) hi).1
  obtain ⟨hnv, hft⟩ := okV_ok (g := g) hv hkd
  have h6 := u_store hfc hkC hkind hlay hi (cl_ty hc k hk) hnv hft
  obtain ⟨cell, q1, q2, q3, q4, q5⟩ := put_core (v := v) hc hk hR hq hlt hap
  refine W.putK hx hb (f := f) ⟨hown, hts _ hlink, ⟨_, _, _, u_same (hts _ hsame) _ hi⟩, hst⟩ (by rw [q3]; exact h6) q1 q2 (by rw [hsl]; exact q4) rfl rfl hd fun H' e1 e2 e3 => ?_
  rw [hsl] at e1 ⊢
  exact kk H' _ ls (q5 H' e1 e2 e3) hl
theorem h_putN {k kd idx : Nat} {host : String} (hc : vwCl[ci]? = some (C, T, N)) (hk : k < N) (hfin : (T k).2.2.2 = false) (hkd : kdOK kd (tyOf T k)) (hlink : Cond.fieldLinkNest own idx (T k).1 (T k).2.1 (T k).2.2.1 host ∈ nwL) (hd : decode cc pc = .ok (.putfield idx, 3)) (hn : pc + 3 = n) : Snd g HB l call cc nL own nm pc (s_put ci k kd n) := by
  intro fr lo L st h kk z o cs pc' L' st' h' k' z' o' cs' hf
  obtain ⟨q, r, fs, v, rfl, hq, hv, hlt, e⟩ := s_put_ok hf
  cases e
  subst hn
  refine ⟨⟨List.suffix_refl _, Nat.le_refl _, Nat.le_refl _⟩, fun _ p e R s m args below meth c Q H locs ls hC _ _ _ _ hR hl kk => ?_⟩
  obtain ⟨⟨hx, hb, hml, hown, hts⟩, hA, -⟩ := hC
  have hap := va_apart (own := own) hts (cl_in hc) (tyOf T) (cl_ty hc) (cl_nm hc) hA.1 hc
  obtain ⟨hS, hfc, kC, hkC, hkind⟩ := hA.1.1 ci _ hc
  obtain ⟨cf, kf, fi, f, hi, hsl⟩ := hS k hk
  have hlay := hts _ (cl_in hc _ (u_in_lay hk))
  unfold u_lay at hlay
  rw [if_neg (by rw [hfin]; decide)] at hlay
  have hst := (u_facts hfc hkC (u_lays hts (cl_in hc) hk) hi).1
  obtain ⟨hnv, hft⟩ := okV_ok (g := g) hv hkd
  have h6 := u_store hfc hkC hkind hlay hi (cl_ty hc k hk) hnv hft
  obtain ⟨cell, q1, q2, q3, q4, q5⟩ := put_core (v := v) hc hk hR hq hlt hap
  refine va_WputK hx hb (f := f) hown (va_Nw.use rfl (hA.2.1 _ hlink)) hi hst (by rw [q3]; exact h6) q1 q2 (by rw [hsl]; exact q4) rfl rfl hd fun H' e1 e2 e3 => ?_
  rw [hsl] at e1 ⊢
  exact kk H' _ ls (q5 H' e1 e2 e3) hl
theorem h_putF {k kd idx : Nat} (hc : vwCl[ci]? = some (C, T, N)) (hk : k < N) (hfin : (T k).2.2.2 = true) (hnm : nm = "<init>") (hdecl : (T k).1 = own) (hkd : kdOK kd (tyOf T k)) (hlink : Cond.fieldLink own idx (T k).1 (T k).2.1 (T k).2.2.1 ∈ wsG) (hd : decode cc pc = .ok (.putfield idx, 3)) (hn : pc + 3 = n) : Snd g HB l call cc nL own nm pc (s_put ci k kd n) := by
  intro fr lo L st h kk z o cs pc' L' st' h' k' z' o' cs' hf
  obtain ⟨q, r, fs, v, rfl, hq, hv, hlt, e⟩ := s_put_ok hf
  cases e
  subst hn
  refine ⟨⟨List.suffix_refl _, Nat.le_refl _, Nat.le_refl _⟩, fun _ p e R s m args below meth c Q H locs ls hC _ _ _ _ hR hl kk => ?_⟩
  obtain ⟨⟨hx, hb, hml, hown, hts⟩, hA, hmn⟩ := hC
  have hap := va_apart (own := own) hts (cl_in hc) (tyOf T) (cl_ty hc) (cl_nm hc) hA.1 hc
  obtain ⟨hS, hfc, kC, hkC, hkind⟩ := hA.1.1 ci _ hc
  obtain ⟨cf, kf, fi, f, hi, hsl⟩ := hS k hk
  have hlay := hts _ (cl_in hc _ (u_in_lay hk))
  unfold u_lay at hlay
  rw [if_pos hfin] at hlay
  have hst := (u_facts hfc hkC (u_lays hts (cl_in hc) hk) hi).1
  have hcf : m.cls = cf := by
    obtain ⟨_, _, c', _, _, _, -, -, hf', -, -, -, hown2, -⟩ := Cond.laysFinal_spec hlay
    have e1 : c' = cf := by have := hi.symm.trans hf'; simp at this; exact this.1.symm
    rw [hdecl] at hown2
    rw [← e1]; exact Option.some.inj (hown.symm.trans hown2)
  obtain ⟨hnv, hft⟩ := okV_ok (g := g) hv hkd
  have h6 := u_fits hfc hkC hkind (Or.inr hlay) hi (cl_ty hc k hk) hnv hft
  obtain ⟨cell, q1, q2, q3, q4, q5⟩ := put_core (v := v) hc hk hR hq hlt hap
  refine W.putFinK hx hb hown (hts _ hlink) hi hst hcf (hmn.trans hnm) (by rw [q3]; exact h6) q1 q2 (by rw [hsl]; exact q4) rfl rfl hd fun H' e1 e2 e3 => ?_
  rw [hsl] at e1 ⊢
  exact kk H' _ ls (q5 H' e1 e2 e3) hl
end CEL
end
section
/-! Steps that make cells, and those that read and write arrays. -/
section MAK
variable {g : GG} {HB : Heap} {l : Launch} {call : CallF} {cc : ByteArray} {nL : Nat} {own nm : String} {pc n : Nat} {ci : Nat} {C : String} {T : u_T} {N : Nat}
def dfl (ty : FieldType) : AV := match ty with
  | .long => .inr (.inl 0)
  | .object _ => .inr (.inr .null)
  | .array _ => .inr (.inr .null)
  | _ => .inl 0
def dflOK (ty : FieldType) : Bool := match ty with
  | .float => false
  | .double => false
  | _ => true
theorem dfl_ok {ty : FieldType} (h : dflOK ty = true) : cV g (dfl ty) = defaultValue ty := by
  cases ty <;> first | rfl | cases h
def s_new (ci N : Nat) (fs : List AV) (n : Nat) : FF := fun _ _ _ c => match c with
  | (_, L, st, h, k, z, o, cs) => fz h.length (fun q => fzs (h ++ [.inr (ci, fs)]) (fun h' => some (n, L, .inr (.inr (.ref q)) :: st, h', k + 1, z + N, o, cs)))
theorem h_new {idx : Nat} {fs : List AV} (hex : HB.size = g.1) (hc : vwCl[ci]? = some (C, T, N)) (hfs : (List.range N).map (fun j => dfl (tyOf T j)) = fs) (hdf : (List.range N).all (fun j => dflOK (tyOf T j)) = true) (hcl : Cond.classLink own idx C ∈ wsG) (hinst : Cond.instantiable C N ∈ wsG) (hini : Cond.initialized C ∈ wsG) (hd : decode cc pc = .ok (.new idx, 3)) (hn : pc + 3 = n) : Snd g HB l call cc nL own nm pc (s_new ci N fs n) := by
  intro fr lo L st h kk z o cs pc' L' st' h' k' z' o' cs' hf
  simp only [s_new, fz_eq, fzs_eq] at hf
  cases hf
  subst hn
  refine ⟨⟨List.suffix_refl _, Nat.le_add_right _ _, Nat.le_add_right _ _⟩, fun _ p e R s m args below meth c Q H locs ls hC _ _ hcells hslots hR hl kk => ?_⟩
  obtain ⟨⟨hx, hb, hml, hown, hts⟩, hA, -⟩ := hC
  have hKn := hA.1.1 ci _ hc
  refine W.newcK hx hb hown (hts _ hcl) (hts _ hinst) (hts _ hini) rfl hd hcells hslots hKn.2.1 (hR.1.2 hex) fun H1 kC hkC e1 z1 o1 => ?_
  refine kk H1 locs ls (hR.app ?_ (by rw [z1, hR.1.2 hex]) (fun q hq => o1 q (by rw [← hR.1.2 hex]; exact hq))) hl
  refine ⟨_, hc, (u_born (tyOf T) hts (cl_in hc) hKn hkC e1 (cl_ty hc)).to (fun j hj => ?_)⟩
  have h1 := List.all_eq_true.mp hdf j (List.mem_range.mpr hj)
  rw [← dfl_ok (g := g) h1, ← hfs]
  unfold vp_V
  rw [List.getD_eq_getElem?_getD, List.map_map, List.getElem?_map, List.getElem?_range hj]
  rfl
-- arrays of numbers
def tyA (t : Nat) : FieldType := match t with
  | 0 => .int
  | 1 => .byte
  | 2 => .boolean
  | 3 => .long
  | _ => .object "java/lang/Object"
theorem tysG_at (g : GG) {t : Nat} (ht : t < 5) : (tysG g)[t]? = some (g.2.2.2 t, tyA t) := by
  rcases (show t = 0 ∨ t = 1 ∨ t = 2 ∨ t = 3 ∨ t = 4 by omega) with rfl | rfl | rfl | rfl | rfl <;> rfl
def s_newa (t n : Nat) : FF := fun _ _ _ c => match c with
  | (_, L, st, h, k, z, o, cs) => match st with
    | .inl x :: r => match Nat.ble x 67108864 with
      | true => fz h.length (fun q => fzs (h ++ [.inl (t, x, [])]) (fun h' => some (n, L, .inr (.inr (.ref q)) :: r, h', k + 1, z + x, o, cs)))
      | false => none
    | _ => none
theorem cC_new (g : GG) (t x : Nat) (cA : ClassId) (ht : t < 5) : vp_cell cA (cC g t x []) = arrV cA x (fun _ => defaultValue (tyA t)) := by
  rcases (show t = 0 ∨ t = 1 ∨ t = 2 ∨ t = 3 ∨ t = 4 by omega) with rfl | rfl | rfl | rfl | rfl <;> rfl
theorem h_newa {t : Nat} {at9 : ArrayType} (hex : HB.size = g.1) (ht : t < 4) (hty : newarray.typeOf at9 = tyA t) (harr : Cond.arrayClass (tyA t) ∈ wsG) (hd : decode cc pc = .ok (.newarray at9, 2)) (hn : pc + 2 = n) : Snd g HB l call cc nL own nm pc (s_newa t n) := by
  intro fr lo L st h kk z o cs pc' L' st' h' k' z' o' cs' hf
  rcases st with _ | ⟨a, r⟩
  · cases hf
  rcases a with x | a
  · simp only [s_newa] at hf
    cases hb0 : Nat.ble x 67108864 with
    | false => rw [hb0] at hf; cases hf
    | true =>
      rw [hb0] at hf
      simp only [fz_eq, fzs_eq] at hf
      cases hf
      subst hn
      have hx0 : x ≤ 67108864 := Nat.ble_eq.mp hb0
      refine ⟨⟨List.suffix_refl _, Nat.le_add_right _ _, Nat.le_add_right _ _⟩, fun _ p e R s m args below meth c Q H locs ls hC _ _ hcells hslots hR hl kk => ?_⟩
      obtain ⟨⟨hx, hb, hml, hown, hts⟩, hA, -⟩ := hC
      have hcb : x * componentBytes (newarray.typeOf at9) ≤ 536870912 := by
        rw [hty]
        rcases (show t = 0 ∨ t = 1 ∨ t = 2 ∨ t = 3 by omega) with rfl | rfl | rfl | rfl <;> (simp only [tyA, componentBytes]; omega)
      refine va_newaK hx hb (by rw [hty]; exact hts _ harr) (g := F0 m pc ls (Value.int (nI x) :: r.map (cV g))) rfl hd (n := nI x) rfl (nI_pos (by omega)) (nI_clamp (by omega)) hcb hcells hslots (hR.1.2 hex) fun H1 cA e1 z1 o1 hAr hNm => ?_
      refine kk H1 locs ls (hR.app ?_ (by rw [z1, hR.1.2 hex]) (fun q hq => o1 q (by rw [← hR.1.2 hex]; exact hq))) hl
      have hRA := (hA.1.2 t _ (tysG_at g (by omega))).2
      have hcA : g.2.2.2 t = cA := by
        have h3 : s.vm.findClass ("[" ++ (tyA t).toString) = some (g.2.2.2 t) := by
          rcases (show t = 0 ∨ t = 1 ∨ t = 2 ∨ t = 3 by omega) with rfl | rfl | rfl | rfl <;> exact hRA
        rw [hty] at hNm
        exact Option.some.inj (h3.symm.trans hNm)
      show H1[g.1 + h.length]? = some (vp_cell (g.2.2.2 t) (cC g t x []))
      rw [cC_new g t x _ (by omega), hcA, ← hty]
      exact e1
  · cases hf
def s_newq (n : Nat) : FF := fun _ _ _ c => match c with
  | (_, L, st, h, k, z, o, cs) => match st with
    | .inl x :: r => match Nat.ble x 67108864 with
      | true => fz h.length (fun q => fzs (h ++ [.inl (4, x, [])]) (fun h' => some (n, L, .inr (.inr (.ref q)) :: r, h', k + 1, z + x, o, cs)))
      | false => none
    | _ => none
theorem h_newq {idx : Nat} (hex : HB.size = g.1) (hcl : Cond.classLink own idx "java/lang/Object" ∈ wsG) (hover : Cond.arrayOver (.object "java/lang/Object") ∈ wsG) (hd : decode cc pc = .ok (.anewarray idx, 3)) (hn : pc + 3 = n) : Snd g HB l call cc nL own nm pc (s_newq n) := by
  intro fr lo L st h kk z o cs pc' L' st' h' k' z' o' cs' hf
  rcases st with _ | ⟨a, r⟩
  · cases hf
  rcases a with x | a
  · simp only [s_newq] at hf
    cases hb0 : Nat.ble x 67108864 with
    | false => rw [hb0] at hf; cases hf
    | true =>
      rw [hb0] at hf
      simp only [fz_eq, fzs_eq] at hf
      cases hf
      subst hn
      have hx0 : x ≤ 67108864 := Nat.ble_eq.mp hb0
      have hcl0 : (nI x).toNatClampNeg = x := nI_clamp (by omega)
      refine ⟨⟨List.suffix_refl _, Nat.le_add_right _ _, Nat.le_add_right _ _⟩, fun _ p e R s m args below meth c Q H locs ls hC _ _ hcells hslots hR hl kk => ?_⟩
      obtain ⟨⟨hx, hb, hml, hown, hts⟩, hA, -⟩ := hC
      refine W.anew hx hb hown (hts _ hcl) (hts _ hover) (g := F0 m pc ls (Value.int (nI x) :: r.map (cV g))) rfl hd (n := nI x) rfl (nI_pos (by omega)) (by rw [hcl0]; omega) hcells (by rw [hcl0]; exact hslots) fun cA kA comp f1 f2 f3 f4 => ?_
      rw [hcl0]
      obtain ⟨kA2, comp2, k1, k2, k3, k4⟩ := (hA.1.2 4 _ (tysG_at g (by omega))).2
      have hcA : g.2.2.2 4 = cA := Option.some.inj (k4.symm.trans f1)
      generalize hH1 : H.push ({ cls := cA, slots := Array.replicate x .null, vm := .none } : Cell) = H1
      have z1 : H1.size = H.size + 1 := by rw [← hH1, Array.size_push]
      have e1 : H1[H.size]? = some (arrV cA x (fun _ => .null)) := by rw [← hH1, Array.getElem?_push_size, ← arrV_new]
      have o1 : ∀ q : Nat, q < H.size → H1[q]? = H[q]? := fun q hq => by rw [← hH1, Array.getElem?_push, if_neg (Nat.ne_of_lt hq)]
      have hsz := hR.1.2 hex
      rw [hsz] at e1 ⊢
      refine kk H1 locs ls (hR.app ?_ z1 o1) hl
      show H1[g.1 + h.length]? = some (vp_cell (g.2.2.2 4) (cC g 4 x []))
      rw [cC_new g 4 x _ (by omega), hcA]
      exact e1
  · cases hf
-- lengths
def xTf (q : Nat) : Option (FieldType × Nat × List Int32) := alk xT q
theorem xTf_mem {q : Nat} {x : FieldType × Nat × List Int32} (h : xTf q = some x) : (q, x) ∈ xT := alk_mem h
def fOf (a : AV) : Option Nat := match a with
  | .inl _ => none
  | .inr (.inl _) => none
  | .inr (.inr v) => match v with
    | .float k => some k.toNat
    | _ => none
theorem fOf_eq {a : AV} {k : Nat} (h : fOf a = some k) : cV g a = .ref (g.2.1 k) := by
  rcases a with n | n | v
  · cases h
  · cases h
  · cases v <;> cases h
    rfl
def s_alen (n : Nat) : FF := fun _ _ _ c => match c with
  | (_, L, st, h, kk, z, o, cs) => match st with
    | [] => none
    | a :: r => match rOf a with
      | some q => match h[q]? with
        | some (.inl (t, m, _)) => match Nat.blt t 5 with
          | true => some (n, L, .inl m :: r, h, kk, z, o, cs)
          | false => none
        | _ => none
      | none => match fOf a with
        | none => none
        | some q => match xTf q with
          | none => none
          | some x => some (n, L, .inl x.2.1 :: r, h, kk, z, o, cs)
theorem h_alen (hd : decode cc pc = .ok (.arraylength, 1)) (hn : pc + 1 = n) : Snd g HB l call cc nL own nm pc (s_alen n) := by
  intro fr lo L st h kk z o cs pc' L' st' h' k' z' o' cs' hf
  subst hn
  rcases st with _ | ⟨a, r⟩
  · cases hf
  simp only [s_alen] at hf
  cases ha : rOf a with
  | some q =>
    rw [ha] at hf
    simp only at hf
    cases hq : h[q]? with
    | none => rw [hq] at hf; cases hf
    | some c =>
      rw [hq] at hf
      rcases c with ⟨t, m, u⟩ | c
      · simp only at hf
        cases ht : Nat.blt t 5 with
        | false => rw [ht] at hf; cases hf
        | true =>
          rw [ht] at hf
          cases hf
          refine ⟨⟨List.suffix_refl _, Nat.le_refl _, Nat.le_refl _⟩, fun _ p e R s m0 args below meth c Q H locs ls hC _ _ _ _ hR hl kk => ?_⟩
          obtain ⟨⟨hx, hb, hml, hown, hts⟩, hA, -⟩ := hC
          rw [rOf_eq ha]
          have ht5 : t < 5 := Nat.blt_eq.mp ht
          refine va_alen hx hb hA.1 hR.2.2.1 q t (Rh.ws hq) (tysG_at g ht5) (v := nI m) ?_ hd (kk H locs ls hR hl)
          rcases (show t = 0 ∨ t = 1 ∨ t = 2 ∨ t = 3 ∨ t = 4 by omega) with rfl | rfl | rfl | rfl | rfl <;> rfl
      · cases hf
  | none =>
    rw [ha] at hf
    simp only at hf
    cases hq : fOf a with
    | none => rw [hq] at hf; cases hf
    | some q =>
      rw [hq] at hf
      simp only at hf
      cases hxq : xTf q with
      | none => rw [hxq] at hf; cases hf
      | some x =>
        rw [hxq] at hf
        cases hf
        refine ⟨⟨List.suffix_refl _, Nat.le_refl _, Nat.le_refl _⟩, fun _ p e R s m0 args below meth c Q H locs ls hC _ _ _ _ hR hl kk => ?_⟩
        obtain ⟨⟨hx, hb, hml, hown, hts⟩, hA, -⟩ := hC
        obtain ⟨cell, c1, c2, c3, c4, c5, c6, c7⟩ := hA.2.2.2.1 _ (xTf_mem hxq)
        rw [List.map_cons, fOf_eq hq]
        exact W.alen hx hb (by rw [hR.2.1 _ (Nat.lt_of_not_le c7)]; exact c1) c2 c5 rfl rfl hd (kk H locs ls hR hl)
-- reading
def s_ald (ok : Nat → Bool) (test : AV → Bool) (d : AV) (n : Nat) : FF := fun _ _ _ c => match c with
  | (_, L, st, h, kk, z, o, cs) => match st with
    | .inl j :: a :: r => match rOf a with
      | some q => match h[q]? with
        | some (.inl (t, m, u)) => match ok t && (Nat.blt j m && Nat.blt j 2147483648) with
          | true => match (alk u j).getD d with
            | v => match test v with
              | true => some (n, L, v :: r, h, kk, z, o, cs)
              | false => none
          | false => none
        | _ => none
      | none => none
    | _ => none
theorem s_ald_ok {ok : Nat → Bool} {test : AV → Bool} {d : AV} {n fr lo pc : Nat} {call : CallF} {L : LL} {st : List AV} {h : List AE} {kk z : Nat} {o : List Bool} {cs : CSL} {x : Cfg} (hf : s_ald ok test d n call fr lo (pc, L, st, h, kk, z, o, cs) = some x) : ∃ (q j t m : Nat) (u : List (Nat × AV)) (r : List AV), st = .inl j :: .inr (.inr (.ref q)) :: r ∧ h[q]? = some (.inl (t, m, u)) ∧ ok t = true ∧ j < m ∧ j < 2147483648 ∧ test ((alk u j).getD d) = true ∧ x = (n, L, (alk u j).getD d :: r, h, kk, z, o, cs) := by
  rcases st with _ | ⟨i, _ | ⟨a, r⟩⟩
  · cases hf
  · rcases i with i | i <;> cases hf
  rcases i with j | i
  · simp only [s_ald] at hf
    cases ha : rOf a with
    | none => rw [ha] at hf; cases hf
    | some q =>
      rw [ha] at hf
      simp only at hf
      cases hq : h[q]? with
      | none => rw [hq] at hf; cases hf
      | some c =>
        rw [hq] at hf
        rcases c with ⟨t, m, u⟩ | c
        · simp only at hf
          cases hb : ok t && (Nat.blt j m && Nat.blt j 2147483648) with
          | false => rw [hb] at hf; cases hf
          | true =>
            rw [hb] at hf
            simp only at hf
            cases ht : test ((alk u j).getD d) with
            | false => rw [ht] at hf; cases hf
            | true =>
              rw [ht] at hf
              cases hf
              rw [Bool.and_eq_true, Bool.and_eq_true] at hb
              exact ⟨q, j, t, m, u, r, by rw [rOf_eq ha], hq, hb.1, Nat.blt_eq.mp hb.2.1, Nat.blt_eq.mp hb.2.2, ht, rfl⟩
        · cases hf
  · cases hf
theorem cI_of {u : List (Nat × AV)} {j : Nat} (h : isI ((alk u j).getD (.inl 0)) = true) : cV g ((alk u j).getD (.inl 0)) = .int (cI g u j) := by
  rw [cV_I h]
  unfold cI
  cases alk u j <;> rfl
theorem cJ_of {u : List (Nat × AV)} {j : Nat} (h : isL ((alk u j).getD (.inr (.inl 0))) = true) : cV g ((alk u j).getD (.inr (.inl 0))) = .long (cJ u j) := by
  rw [cV_L h]
  unfold cJ
  cases alk u j <;> rfl
theorem vp_in_lt {j m : Nat} (h : j < m) (h2 : j < 2147483648) : vp_in (nI j) m := by
  rintro (q | q)
  · exact nI_pos (by omega) q
  · rw [nI_clamp (by omega)] at q
    omega
theorem h_iald (hd : decode cc pc = .ok (.iaload, 1)) (hn : pc + 1 = n) : Snd g HB l call cc nL own nm pc (s_ald (fun t => Nat.beq t 0) isI (.inl 0) n) := by
  intro fr lo L st h kk z o cs pc' L' st' h' k' z' o' cs' hf
  obtain ⟨q, j, t, m, u, r, rfl, hq, ht, h1, h2, hi, e⟩ := s_ald_ok hf
  cases e
  subst hn
  have ht := Nat.eq_of_beq_eq_true ht
  subst ht
  refine ⟨⟨List.suffix_refl _, Nat.le_refl _, Nat.le_refl _⟩, fun _ p e R s m0 args below meth c Q H locs ls hC _ _ _ _ hR hl kk => ?_⟩
  obtain ⟨⟨hx, hb, hml, hown, hts⟩, hA, -⟩ := hC
  have hk := kk H locs ls hR hl
  rw [List.map_cons, cI_of hi, ← nI_clamp (n := j) (by omega)] at hk
  exact va_iald hx hb hA.1 hR.2.2.1 q 0 (Rh.ws hq) rfl (vp_in_lt h1 h2) hd hk
theorem h_bald (hd : decode cc pc = .ok (.baload, 1)) (hn : pc + 1 = n) : Snd g HB l call cc nL own nm pc (s_ald (fun t => Nat.beq t 1 || Nat.beq t 2) isI (.inl 0) n) := by
  intro fr lo L st h kk z o cs pc' L' st' h' k' z' o' cs' hf
  obtain ⟨q, j, t, m, u, r, rfl, hq, ht, h1, h2, hi, e⟩ := s_ald_ok hf
  cases e
  subst hn
  refine ⟨⟨List.suffix_refl _, Nat.le_refl _, Nat.le_refl _⟩, fun _ p e R s m0 args below meth c Q H locs ls hC _ _ _ _ hR hl kk => ?_⟩
  obtain ⟨⟨hx, hb, hml, hown, hts⟩, hA, -⟩ := hC
  have hk := kk H locs ls hR hl
  rw [List.map_cons, cI_of hi, ← nI_clamp (n := j) (by omega)] at hk
  rw [Bool.or_eq_true] at ht
  rcases ht with ht | ht
  · have ht := Nat.eq_of_beq_eq_true ht
    subst ht
    exact va_bald hx hb hA.1 hR.2.2.1 q 1 (Rh.ws hq) rfl (vp_in_lt h1 h2) hd hk
  · have ht := Nat.eq_of_beq_eq_true ht
    subst ht
    exact va_zald hx hb hA.1 hR.2.2.1 q 2 (Rh.ws hq) rfl (vp_in_lt h1 h2) hd hk
theorem h_lald (hd : decode cc pc = .ok (.laload, 1)) (hn : pc + 1 = n) : Snd g HB l call cc nL own nm pc (s_ald (fun t => Nat.beq t 3) isL (.inr (.inl 0)) n) := by
  intro fr lo L st h kk z o cs pc' L' st' h' k' z' o' cs' hf
  obtain ⟨q, j, t, m, u, r, rfl, hq, ht, h1, h2, hi, e⟩ := s_ald_ok hf
  cases e
  subst hn
  have ht := Nat.eq_of_beq_eq_true ht
  subst ht
  refine ⟨⟨List.suffix_refl _, Nat.le_refl _, Nat.le_refl _⟩, fun _ p e R s m0 args below meth c Q H locs ls hC _ _ _ _ hR hl kk => ?_⟩
  obtain ⟨⟨hx, hb, hml, hown, hts⟩, hA, -⟩ := hC
  have hk := kk H locs ls hR hl
  rw [List.map_cons, cJ_of hi, ← nI_clamp (n := j) (by omega)] at hk
  exact va_lald hx hb hA.1 hR.2.2.1 q 3 (Rh.ws hq) rfl (vp_in_lt h1 h2) hd hk
-- writing
def s_ast (ok : Nat → Bool) (cv : Nat → AV → Option AV) (n : Nat) : FF := fun _ _ _ c => match c with
  | (_, L, st, h, kk, z, o, cs) => match st with
    | w :: .inl j :: a :: r => match rOf a with
      | some q => match h[q]? with
        | some (.inl (t, m, u)) => match ok t && (Nat.blt j m && Nat.blt j 2147483648) with
          | true => match cv t w with
            | some v => fzv v (fun v => fzs (h.set q (.inl (t, m, (j, v) :: u))) (fun h' => some (n, L, r, h', kk, z, o, cs)))
            | none => none
          | false => none
        | _ => none
      | none => none
    | _ => none
theorem s_ast_ok {ok : Nat → Bool} {cv : Nat → AV → Option AV} {n fr lo pc : Nat} {call : CallF} {L : LL} {st : List AV} {h : List AE} {kk z : Nat} {o : List Bool} {cs : CSL} {x : Cfg} (hf : s_ast ok cv n call fr lo (pc, L, st, h, kk, z, o, cs) = some x) : ∃ (q j t m : Nat) (u : List (Nat × AV)) (w v : AV) (r : List AV), st = w :: .inl j :: .inr (.inr (.ref q)) :: r ∧ h[q]? = some (.inl (t, m, u)) ∧ ok t = true ∧ j < m ∧ j < 2147483648 ∧ cv t w = some v ∧ x = (n, L, r, h.set q (.inl (t, m, (j, v) :: u)), kk, z, o, cs) := by
  rcases st with _ | ⟨w, _ | ⟨i, _ | ⟨a, r⟩⟩⟩
  · cases hf
  · cases hf
  · rcases i with i | i <;> cases hf
  rcases i with j | i
  · simp only [s_ast] at hf
    cases ha : rOf a with
    | none => rw [ha] at hf; cases hf
    | some q =>
      rw [ha] at hf
      simp only at hf
      cases hq : h[q]? with
      | none => rw [hq] at hf; cases hf
      | some c =>
        rw [hq] at hf
        rcases c with ⟨t, m, u⟩ | c
        · simp only at hf
          cases hb : ok t && (Nat.blt j m && Nat.blt j 2147483648) with
          | false => rw [hb] at hf; cases hf
          | true =>
            rw [hb] at hf
            simp only at hf
            cases hv : cv t w with
            | none => rw [hv] at hf; cases hf
            | some v =>
              rw [hv] at hf
              simp only [fzv_eq, fzs_eq] at hf
              cases hf
              rw [Bool.and_eq_true, Bool.and_eq_true] at hb
              exact ⟨q, j, t, m, u, w, v, r, by rw [rOf_eq ha], hq, hb.1, Nat.blt_eq.mp hb.2.1, Nat.blt_eq.mp hb.2.2, hv, rfl⟩
        · cases hf
  · cases hf
theorem alk_cons {α : Type} (j : Nat) (v : α) (u : List (Nat × α)) (q : Nat) : alk ((j, v) :: u) q = if q = j then some v else alk u q := by
  rw [alk]
  by_cases h : q = j
  · subst h
    simp
  · rw [if_neg h]
    cases hb : Nat.beq (j, v).1 q with
    | false => rfl
    | true => exact absurd (Nat.eq_of_beq_eq_true hb).symm h
theorem av_set {cA : ClassId} {m j : Nat} {F F' : Nat → Value} {w : Value} (h : ∀ q, F' q = if q = j then w else F q) : (arrV cA m F).setSlot j w = arrV cA m F' := by
  rw [arrV_store]
  congr 1
  funext q
  rw [h q]
  rfl
theorem cI_cons {j q : Nat} {v : AV} {u : List (Nat × AV)} : Value.int (cI g ((j, v) :: u) q) = if q = j then .int (gI g v) else .int (cI g u q) := by
  unfold cI
  rw [alk_cons]
  by_cases h : q = j
  · rw [if_pos h, if_pos h]
  · rw [if_neg h, if_neg h]
theorem cJ_cons {j q : Nat} {v : AV} {u : List (Nat × AV)} : Value.long (cJ ((j, v) :: u) q) = if q = j then .long (gL v) else .long (cJ u q) := by
  unfold cJ
  rw [alk_cons]
  by_cases h : q = j
  · rw [if_pos h, if_pos h]
  · rw [if_neg h, if_neg h]
def cvI (_ : Nat) (w : AV) : Option AV := match isI w with
  | true => some w
  | false => none
theorem h_iast (hd : decode cc pc = .ok (.iastore, 1)) (hn : pc + 1 = n) : Snd g HB l call cc nL own nm pc (s_ast (fun t => Nat.beq t 0) cvI n) := by
  intro fr lo L st h kk z o cs pc' L' st' h' k' z' o' cs' hf
  obtain ⟨q, j, t, m, u, w, v, r, rfl, hq, ht, h1, h2, hv, e⟩ := s_ast_ok hf
  cases e
  subst hn
  have ht := Nat.eq_of_beq_eq_true ht
  subst ht
  simp only [cvI] at hv
  cases hw : isI w with
  | false => rw [hw] at hv; cases hv
  | true =>
    rw [hw] at hv
    cases hv
    refine ⟨⟨List.suffix_refl _, Nat.le_refl _, Nat.le_refl _⟩, fun _ p e R s m0 args below meth c Q H locs ls hC _ _ _ _ hR hl kk => ?_⟩
    obtain ⟨⟨hx, hb, hml, hown, hts⟩, hA, -⟩ := hC
    rw [List.map_cons, cV_I hw]
    refine W.iast (j := nI j) hx hb (hR.get hq) ((hA.1.2 0 _ rfl).1 m (fun j => .int (cI g u j))) (fun q => by cases q) (by show ¬ (nI j < 0 ∨ (arrV _ _ _).slots.size ≤ _); rw [arrV_size]; exact vp_in_lt h1 h2) rfl rfl hd fun H1 e zz oq => ?_
    rw [nI_clamp (by omega)] at e ⊢
    refine kk H1 _ ls (hR.set hq ?_ zz oq) hl
    show H1[g.1 + q]? = some (arrV (g.2.2.2 0) m (fun x => .int (cI g ((j, w) :: u) x)))
    rw [e]
    exact congrArg some (av_set fun x => cI_cons)
def cvL (_ : Nat) (w : AV) : Option AV := match isL w with
  | true => some w
  | false => none
theorem h_last (hd : decode cc pc = .ok (.lastore, 1)) (hn : pc + 1 = n) : Snd g HB l call cc nL own nm pc (s_ast (fun t => Nat.beq t 3) cvL n) := by
  intro fr lo L st h kk z o cs pc' L' st' h' k' z' o' cs' hf
  obtain ⟨q, j, t, m, u, w, v, r, rfl, hq, ht, h1, h2, hv, e⟩ := s_ast_ok hf
  cases e
  subst hn
  have ht := Nat.eq_of_beq_eq_true ht
  subst ht
  simp only [cvL] at hv
  cases hw : isL w with
  | false => rw [hw] at hv; cases hv
  | true =>
    rw [hw] at hv
    cases hv
    refine ⟨⟨List.suffix_refl _, Nat.le_refl _, Nat.le_refl _⟩, fun _ p e R s m0 args below meth c Q H locs ls hC _ _ _ _ hR hl kk => ?_⟩
    obtain ⟨⟨hx, hb, hml, hown, hts⟩, hA, -⟩ := hC
    rw [List.map_cons, cV_L hw]
    refine W.last (j := nI j) hx hb (hR.get hq) ((hA.1.2 3 _ rfl).1 m (fun j => .long (cJ u j))) (fun q => by cases q) (by show ¬ (nI j < 0 ∨ (arrV _ _ _).slots.size ≤ _); rw [arrV_size]; exact vp_in_lt h1 h2) rfl rfl hd fun H1 e zz oq => ?_
    rw [nI_clamp (by omega)] at e ⊢
    refine kk H1 _ ls (hR.set hq ?_ zz oq) hl
    show H1[g.1 + q]? = some (arrV (g.2.2.2 3) m (fun x => .long (cJ ((j, w) :: u) x)))
    rw [e]
    exact congrArg some (av_set fun x => cJ_cons)
def f_z (x : Int32) : Int32 := vp_nar .boolean x
def cvB (t : Nat) (w : AV) : Option AV := match t with
  | 1 => i2bA w
  | _ => iop1 f_z w
theorem h_bast (hd : decode cc pc = .ok (.bastore, 1)) (hn : pc + 1 = n) : Snd g HB l call cc nL own nm pc (s_ast (fun t => Nat.beq t 1 || Nat.beq t 2) cvB n) := by
  intro fr lo L st h kk z o cs pc' L' st' h' k' z' o' cs' hf
  obtain ⟨q, j, t, m, u, w, v, r, rfl, hq, ht, h1, h2, hv, e⟩ := s_ast_ok hf
  cases e
  subst hn
  refine ⟨⟨List.suffix_refl _, Nat.le_refl _, Nat.le_refl _⟩, fun _ p e R s m0 args below meth c Q H locs ls hC _ _ _ _ hR hl kk => ?_⟩
  obtain ⟨⟨hx, hb, hml, hown, hts⟩, hA, -⟩ := hC
  rw [Bool.or_eq_true] at ht
  rcases ht with ht | ht
  · have ht := Nat.eq_of_beq_eq_true ht
    subst ht
    obtain ⟨g1, g2, hgv⟩ := i2bA_ok (g := g) hv
    rw [List.map_cons, g1]
    refine W.bast (j := nI j) hx hb (hR.get hq) ((hA.1.2 1 _ rfl).1 m (fun j => .int (cI g u j))) (fun q => by cases q) (by show ¬ (nI j < 0 ∨ (arrV _ _ _).slots.size ≤ _); rw [arrV_size]; exact vp_in_lt h1 h2) rfl rfl hd fun H1 e zz oq => ?_
    rw [nI_clamp (by omega)] at e ⊢
    refine kk H1 _ ls (hR.set hq ?_ zz oq) hl
    show H1[g.1 + q]? = some (arrV (g.2.2.2 1) m (fun x => .int (cI g ((j, v) :: u) x)))
    rw [e]
    exact congrArg some (av_set fun x => by rw [cI_cons, hgv]; rfl)
  · have ht := Nat.eq_of_beq_eq_true ht
    subst ht
    obtain ⟨g1, g2, hgv⟩ := iop1_ok (g := g) hv
    rw [List.map_cons, g1]
    refine W.zast (j := nI j) hx hb (hR.get hq) ((hA.1.2 2 _ rfl).1 m (fun j => .int (cI g u j))) (fun q => by cases q) (by show ¬ (nI j < 0 ∨ (arrV _ _ _).slots.size ≤ _); rw [arrV_size]; exact vp_in_lt h1 h2) rfl rfl hd fun H1 e zz oq => ?_
    rw [nI_clamp (by omega)] at e ⊢
    refine kk H1 _ ls (hR.set hq ?_ zz oq) hl
    show H1[g.1 + q]? = some (arrV (g.2.2.2 2) m (fun x => .int (cI g ((j, v) :: u) x)))
    rw [e]
    exact congrArg some (av_set fun x => by rw [cI_cons, hgv]; rfl)
end MAK
end
section
/-! Calls, and a method's whole run. -/
/-- a method: its name, code, locals, answer; its steps by pc; its ends by pc (0 void, 1 int, 2 a small known number, 3 a reference or null, 4 long) -/
abbrev MD : Type := MethodName × ByteArray × Nat × Option FieldType × List (Nat × FF) × List (Nat × Nat)
def mdY (d : MD) : MethodName := d.1
def mdC (d : MD) : ByteArray := d.2.1
def mdL (d : MD) : Nat := d.2.2.1
def mdR (d : MD) : Option FieldType := d.2.2.2.1
def mdP (d : MD) : List (Nat × FF) := d.2.2.2.2.1
def mdE (d : MD) : List (Nat × Nat) := d.2.2.2.2.2
def mdW (d : MD) : List Cond := .code (mdY d) (mdC d) (mdL d) (mdR d) :: wsG
def argsA (i : Nat) (av : List AV) : LL := match av with
  | [] => []
  | v :: t => (i, v) :: argsA (match Nat.beq (ct v) 2 with | true => i + 2 | false => i + 1) t
def slen (av : List AV) : Nat := match av with
  | [] => 0
  | v :: t => ct v + slen t
theorem argsA_eq (g : GG) : ∀ (av : List AV) (i : Nat), cL g (argsA i av) = lv_args i (av.map (cV g))
  | [], _ => rfl
  | v :: t, i => by
    rw [argsA, List.map_cons, lv_args, cV_cat]
    show (i, cV g v) :: cL g _ = _
    rw [argsA_eq g t]
    by_cases h : ct v = 2
    · rw [if_pos h, h]
    · rw [if_neg h]
      cases hb : Nat.beq (ct v) 2 with
      | true => exact absurd (Nat.eq_of_beq_eq_true hb) h
      | false => rfl
theorem ct_12 (v : AV) : ct v = 1 ∨ ct v = 2 := by
  have h := lv_cat (cV (0, fun _ => 0, (fun _ => 0, fun _ _ => 0), fun _ => 0) v)
  rw [cV_cat] at h
  exact h
theorem slen_eq (g : GG) : ∀ (av : List AV), (lg_sl (av.map (cV g))).length = slen av
  | [] => rfl
  | v :: t => by
    have ih := slen_eq g t
    unfold lg_sl at ih ⊢
    rw [List.map_cons, List.flatMap_cons, List.length_append, ih, slen, cV_cat]
    rcases ct_12 v with h | h
    · rw [h]; rfl
    · rw [h]; rfl
def retv (ret : Option FieldType) (kd : Nat) (st : List AV) : Option (Option AV) := match st with
  | [] => match kd with
    | 0 => some none
    | _ => none
  | a :: r => match r with
    | [] => match kd with
      | 1 => match isI a with
        | true => some (some a)
        | false => none
      | 2 => match a, ret with
        | .inl x, some ty => match decide (narrow ty (.int (nI x)) = .int (nI x)) with
          | true => some (some a)
          | false => none
        | _, _ => none
      | 3 => match isR a || isN a with
        | true => some (some a)
        | false => none
      | 4 => match isL a with
        | true => some (some a)
        | false => none
      | _ => none
    | _ => none
abbrev RunF : Type := List (Nat × FF) → Nat → Nat → Cfg → Option Cfg
def cMth (M : Nat → Option MD) (rn : RunF) : CallF := fun id fr lo av h o cs => match M id with
  | none => none
  | some d => match Nat.ble (slen av) (mdL d) with
    | false => none
    | true => match rn (mdP d) fr lo (0, argsA 0 av, [], h, 0, 0, o, cs) with
      | none => none
      | some (pc, _, st, h', k, z, o', cs') => match alk (mdE d) pc with
        | none => none
        | some kd => match retv (mdR d) kd st with
          | none => none
          | some rv => some (rv, h', k, z, o', cs')
def run (M : Nat → Option MD) : Nat → RunF
  | 0 => fun _ _ _ _ => none
  | n + 1 => fun P fr lo c => match alk P c.1 with
    | none => some c
    | some f => match f (cMth M (run M n)) fr lo c with
      | none => none
      | some c' => run M n P fr lo c'
def QQ (g : GG) (HB : Heap) (rv : Option AV) (h' : List AE) : Array Value → State → Outcome → State → Prop := fun _ _ oc t => oc = .returned (rv.map (cV g)) ∧ Rh g HB h' t.heap []
def PP (g : GG) (HB : Heap) (av : List AV) (h : List AE) : Array Value → State → Prop := va_Pc (av.map (cV g)) (fun U => Rh g HB h U.heap [] ∧ KA g HB U)
/-- what is computed of a call is a contract -/
def SndC (g : GG) (HB : Heap) (l : Launch) (M : Nat → Option MD) (call : CallF) : Prop :=
  ∀ (id fr lo : Nat) (av : List AV) (h : List AE) (o : List Bool) (cs : CSL) (rv : Option AV) (h' : List AE) (mc ms : Nat) (o' : List Bool) (cs' : CSL),
    call id fr lo av h o cs = some (rv, h', mc, ms, o', cs') → ∃ d : MD, M id = some d ∧ cs <:+ cs' ∧
      (okc g cs' → Met l (mdY d) (mdW d) { frames := fr, cells := mc, slots := ms, locals := lo } (PP g HB av h) (QQ g HB rv h') mc ms (hiA g))
theorem PP.blind (g : GG) (HB : Heap) (av : List AV) (h : List AE) : FrameBlind (PP g HB av h) := by
  intro a U fr mk q
  obtain ⟨q0, qR, qK⟩ := q
  exact ⟨q0, qR, KA.same (s := U) (U := U.calling fr mk a) rfl qK⟩
theorem Rh.nolocs {g : GG} {HB H : Heap} {h : List AE} {locs : List Loc} (hR : Rh g HB h H locs) : Rh g HB h H [] := ⟨hR.1, hR.2.1, hR.2.2.1, fun q hq => by cases hq⟩
theorem wsG_good : GoodIn wsG wsG := fun w hw => ⟨hw, good_of_word (List.mem_filter.mp hw).2⟩
theorem mdW_good {d : MD} (h : Cond.code (mdY d) (mdC d) (mdL d) (mdR d) ∈ wsG) : GoodIn wsG (mdW d) := fun w hw => by
  rcases List.mem_cons.mp hw with rfl | hw
  · exact wsG_good _ h
  · exact wsG_good _ hw
section SIM
variable {p : Program} {l : Launch} {e : Env} {R : Room} {s : State} {m : MethodId} {args : Array Value} {below : List Frame} {meth : Method} {c : Code} {H : Heap} {locs : List Loc} {cells slots : Nat} {Q : State → Prop}
theorem sim_call {g : GG} {HB : Heap} {rv : Option AV} {h' : List AE} {mc ms pc : Nat} {ls : Array Slot} {st0 rest : List Value} {a : Array Value}
    (hr : va_Run p l e R s m args below meth c H locs cells slots mc ms (F0 m pc ls st0) rest (QQ g HB rv h' a) (hiA g)) (hL : ∀ q ∈ locs, g.1 ≤ q.base)
    (kk : ∀ (H1 : Heap) (locs1 : List Loc), Rh g HB h' H1 locs1 → W p l e R s m args below meth c H1 locs1 (cells + mc) (slots + ms) Q (F0 m (pc + 3) ls ((rv.map (cV g)).toList ++ rest))) : W p l e R s m args below meth c H locs cells slots Q (F0 m pc ls st0) := by
  intro T hT X
  obtain ⟨v, st₀, t, T', L, h0, X', hL2, e1, e2, ⟨hv, hR⟩, st⟩ := hr T hT X
  have hv : v = rv.map (cV g) := by cases hv; rfl
  subst hv
  obtain ⟨t2, a1, b1⟩ := kk T'.heap (locs ++ L) (by
    rw [e1]
    exact ⟨hR.1, hR.2.1, hR.2.2.1, fun q hq => by
      rcases List.mem_append.mp hq with h | h
      · exact hL q h
      · exact hL2 q h⟩) T' rfl X'
  exact ⟨t2, st t2 a1, b1⟩
end SIM
-- the arguments of a call
def popN (n : Nat) (st acc : List AV) : Option (List AV × List AV) := match n with
  | 0 => some (acc, st)
  | n + 1 => match st with
    | [] => none
    | v :: r => popN n r (v :: acc)
theorem popN_ok : ∀ (n : Nat) (st acc as r : List AV), popN n st acc = some (as, r) → ∃ tk : List AV, st = tk ++ r ∧ as = tk.reverse ++ acc ∧ tk.length = n
  | 0, st, acc, as, r, h => by
    cases h
    exact ⟨[], rfl, rfl, rfl⟩
  | n + 1, [], acc, as, r, h => by cases h
  | n + 1, v :: st, acc, as, r, h => by
    obtain ⟨tk, h1, h2, h3⟩ := popN_ok n st (v :: acc) as r h
    exact ⟨v :: tk, by rw [h1]; rfl, by rw [h2]; simp, by simp [h3]⟩
theorem popN_st {g : GG} {n : Nat} {st as r : List AV} (h : popN n st [] = some (as, r)) : st.map (cV g) = (as.map (cV g)).reverse ++ r.map (cV g) ∧ (as.map (cV g)).length = n := by
  obtain ⟨tk, h1, h2, h3⟩ := popN_ok n st [] as r h
  subst h1
  rw [h2, List.append_nil]
  constructor
  · rw [List.map_append, List.map_reverse, List.reverse_reverse]
  · rw [List.length_map, List.length_reverse, h3]
/-- the call itself: w is what it costs of the room for locals -/
def goC (call : CallF) (id fr lo w n : Nat) (L : LL) (av : List AV) (r : List AV) (h : List AE) (k z : Nat) (o : List Bool) (cs : CSL) : Option Cfg := match fr with
  | 0 => none
  | fr' + 1 => match Nat.ble w lo && Nat.ble (slen r) 8 with
    | false => none
    | true => match fz (lo - w) (fun lo' => call id fr' lo' av h o cs) with
      | none => none
      | some (rv, h', mc, ms, o', cs') => match rv with
        | some v => some (n, L, v :: r, h', k + mc, z + ms, o', cs')
        | none => some (n, L, r, h', k + mc, z + ms, o', cs')
theorem goC_ok {call : CallF} {id fr lo w n : Nat} {L : LL} {av r : List AV} {h : List AE} {k z : Nat} {o : List Bool} {cs : CSL} {pc' : Nat} {L' : LL} {st' : List AV} {h' : List AE} {k' z' : Nat} {o' : List Bool} {cs' : CSL} (hf : goC call id fr lo w n L av r h k z o cs = some (pc', L', st', h', k', z', o', cs')) :
    ∃ (fr' : Nat) (rv : Option AV) (mc ms : Nat), fr = fr' + 1 ∧ w ≤ lo ∧ slen r ≤ 8 ∧ call id fr' (lo - w) av h o cs = some (rv, h', mc, ms, o', cs') ∧ pc' = n ∧ L' = L ∧ st' = rv.toList ++ r ∧ k' = k + mc ∧ z' = z + ms := by
  rcases fr with _ | fr'
  · cases hf
  simp only [goC, fz_eq] at hf
  cases hb : Nat.ble w lo && Nat.ble (slen r) 8 with
  | false => rw [hb] at hf; cases hf
  | true =>
    rw [hb] at hf
    rw [Bool.and_eq_true] at hb
    simp only at hf
    cases hc : call id fr' (lo - w) av h o cs with
    | none => rw [hc] at hf; cases hf
    | some x =>
      obtain ⟨rv, h1, mc, ms, o1, cs1⟩ := x
      rw [hc] at hf
      cases rv with
      | none =>
        cases hf
        exact ⟨fr', none, mc, ms, rfl, Nat.ble_eq.mp hb.1, Nat.ble_eq.mp hb.2, hc, rfl, rfl, rfl, rfl, rfl⟩
      | some v =>
        cases hf
        exact ⟨fr', some v, mc, ms, rfl, Nat.ble_eq.mp hb.1, Nat.ble_eq.mp hb.2, hc, rfl, rfl, rfl, rfl, rfl⟩
theorem slen_sum (g : GG) : ∀ (r : List AV), ((r.map (cV g)).map fun v => v.category).sum = slen r
  | [] => rfl
  | v :: t => by
    have ih := slen_sum g t
    rw [List.map_cons, List.map_cons, List.sum_cons, ih, cV_cat, slen]
theorem room8 (g : GG) {m : MethodId} {pc : Nat} {ls : Array Slot} {st : List Value} {r : List AV} (h : slen r ≤ 8) : 2 * (F0 m pc ls st).monitorRoom + ((r.map (cV g)).map fun v => v.category).sum ≤ 8 := by
  rw [slen_sum]
  show 2 * 0 + slen r ≤ 8
  omega
/-- what a called method must be -/
def MOK (d : MD) (np : Nat) : Prop := Cond.code (mdY d) (mdC d) (mdL d) (mdR d) ∈ wsG ∧ (mdY d).cls ≠ "java/lang/invoke/MethodHandle" ∧ (mdY d).cls ≠ "java/lang/invoke/VarHandle" ∧ (parseMethodDescriptor (mdY d).desc).map (fun d => d.parameters.length) = some np
section CAL
variable {g : GG} {HB : Heap} {l : Launch} {M : Nat → Option MD} {call : CallF} {cc : ByteArray} {nL : Nat} {own nm : String} {pc n id w np idx : Nat} {d : MD} {ci : Nat} {C : String} {T : u_T} {N : Nat}
theorem pre_of {p : Program} {s : State} {H : Heap} {h : List AE} {locs : List Loc} {av : List AV} (hA : KA g HB s) (hR : Rh g HB h H locs) : ∀ U : State, U.heap = H → s.WarmedH U.vm → PP g HB av h (av.map (cV g)).toArray U :=
  fun U hU hW => ⟨rfl, by rw [hU]; exact hR.nolocs, hA.warm hW⟩
def s_cS (id np w n : Nat) : FF := fun call fr lo c => match c with
  | (_, L, st, h, k, z, o, cs) => match popN np st [] with
    | none => none
    | some (as, r) => goC call id fr lo w n L as r h k z o cs
theorem c_S (hC0 : SndC g HB l M call) (hM : M id = some d) (hd0 : MOK d np) (hw : w = mdL d + 19) (h1 : Cond.methodLink own idx (mdY d) ∈ wsG) (h2 : Cond.static (mdY d) ∈ wsG) (h3 : Cond.initialized (mdY d).cls ∈ wsG) (hd : decode cc pc = .ok (.invokestatic idx, 3)) (hn : pc + 3 = n) : Snd g HB l call cc nL own nm pc (s_cS id np w n) := by
  intro fr lo L st h k z o cs pc' L' st' h' k' z' o' cs' hf
  simp only [s_cS] at hf
  cases hp : popN np st [] with
  | none => rw [hp] at hf; cases hf
  | some x =>
    obtain ⟨as, r⟩ := x
    rw [hp] at hf
    obtain ⟨fr', rv, mc, ms, rfl, hlo, h8, hcall, rfl, rfl, rfl, rfl, rfl⟩ := goC_ok hf
    subst hn
    obtain ⟨d2, e2, hsuf, hmet⟩ := hC0 _ _ _ _ _ _ _ _ _ _ _ _ _ hcall
    cases hM.symm.trans e2
    refine ⟨⟨hsuf, Nat.le_add_right _ _, Nat.le_add_right _ _⟩, fun hok p e R s m args below meth c Q H locs ls hC hfr hlo2 hk hz hR hl kk => ?_⟩
    obtain ⟨⟨hx, hb, hml, hown, hts⟩, hA, -⟩ := hC
    obtain ⟨hst, hln⟩ := popN_st (g := g) hp
    have hG : GoodIn wsG (va_wsS own idx (mdY d) (mdW d)) := fun w hw => by
      unfold va_wsS at hw
      rcases List.mem_append.mp hw with hw | hw
      · simp only [List.mem_cons, List.not_mem_nil, or_false] at hw
        rcases hw with rfl | rfl | rfl
        · exact wsG_good _ h1
        · exact wsG_good _ h2
        · exact wsG_good _ h3
      · exact mdW_good hd0.1 w hw
    have cw := va_cwS (R := R) (mc := mc) (ms := ms) (maxL := mdL d) (ret := mdR d) (bytes := mdC d) (ws' := wsG) (rm := { frames := fr', cells := mc, slots := ms, locals := lo - w }) np hts hG rfl rfl rfl hd0.2 ⟨hfr, by show 8 + (mdL d + 11) + (lo - w) ≤ R.locals; omega⟩
    refine sim_call (va_runS (g := F0 m pc ls (st.map (cV g))) (As := as.map (cV g)) (rest := r.map (cV g)) ⟨hx, hb, hml, hown, hts⟩ (hmet hok) cw ⟨PP.blind _ _ _ _, pre_of (p := p) hA hR⟩ rfl hln hl.1 hst (room8 g h8) hd ⟨hk, hz⟩) hR.2.2.2 fun H1 locs1 hR1 => ?_
    have hkk := kk H1 locs1 ls hR1 hl
    rw [List.map_append] at hkk
    cases rv <;> exact hkk
/-- a constructor's call -/
def s_cI (id np w n : Nat) : FF := fun call fr lo c => match c with
  | (_, L, st, h, k, z, o, cs) => match popN np st [] with
    | none => none
    | some (as, r0) => match r0 with
      | [] => none
      | a :: r => match isR a with
        | true => goC call id fr lo w n L (a :: as) r h k z o cs
        | false => none
theorem c_I (hC0 : SndC g HB l M call) (hM : M id = some d) (hd0 : MOK d np) (hw : w = mdL d + 19) (hret : mdR d = none) (hin : (mdY d).name = "<init>") (h1 : Cond.methodLink own idx (mdY d) ∈ wsG) (h2 : Cond.instanceMethod (mdY d) ∈ wsG) (h3 : Cond.initialized (mdY d).cls ∈ wsG) (hd : decode cc pc = .ok (.invokespecial idx, 3)) (hn : pc + 3 = n) : Snd g HB l call cc nL own nm pc (s_cI id np w n) := by
  intro fr lo L st h k z o cs pc' L' st' h' k' z' o' cs' hf
  simp only [s_cI] at hf
  cases hp : popN np st [] with
  | none => rw [hp] at hf; cases hf
  | some x =>
    obtain ⟨as, r0⟩ := x
    rw [hp] at hf
    rcases r0 with _ | ⟨a, r⟩
    · cases hf
    simp only at hf
    cases ha : isR a with
    | false => rw [ha] at hf; cases hf
    | true =>
      rw [ha] at hf
      obtain ⟨fr', rv, mc, ms, rfl, hlo, h8, hcall, rfl, rfl, rfl, rfl, rfl⟩ := goC_ok hf
      subst hn
      obtain ⟨d2, e2, hsuf, hmet⟩ := hC0 _ _ _ _ _ _ _ _ _ _ _ _ _ hcall
      cases hM.symm.trans e2
      refine ⟨⟨hsuf, Nat.le_add_right _ _, Nat.le_add_right _ _⟩, fun hok p e R s m args below meth c Q H locs ls hC hfr hlo2 hk hz hR hl kk => ?_⟩
      obtain ⟨⟨hx, hb, hml, hown, hts⟩, hA, -⟩ := hC
      obtain ⟨hst, hln⟩ := popN_st (g := g) hp
      rw [List.map_cons, cV_R ha] at hst
      have hcode := hd0.1
      rw [hret] at hcode
      have cw := cwI (R := R) (mc := mc) (ms := ms) (maxL := mdL d) (bytes := mdC d) (ws := mdW d) (ws' := wsG) (rm := { frames := fr', cells := mc, slots := ms, locals := lo - w }) np hts (mdW_good hd0.1) (by unfold mdW; rw [hret]) rfl rfl (hts _ h3) (hts _ h1) (hts _ h2) hin hd0.2 ⟨hfr, by show 8 + (mdL d + 11) + (lo - w) ≤ R.locals; omega⟩
      have hpre := pre_of (p := p) (av := a :: as) hA hR
      rw [List.map_cons, cV_R ha] at hpre
      refine sim_call (va_runI (g := F0 m pc ls (st.map (cV g))) (b := gR g a) (As := as.map (cV g)) (rest := r.map (cV g)) ⟨hx, hb, hml, hown, hts⟩ (hmet hok) cw ⟨PP.blind _ _ _ _, hpre⟩ rfl hln hl.1 hst (room8 g h8) hd ⟨hk, hz⟩) hR.2.2.2 fun H1 locs1 hR1 => ?_
      have hkk := kk H1 locs1 ls hR1 hl
      rw [List.map_append] at hkk
      cases rv <;> exact hkk
theorem c_IN {host : String} (hC0 : SndC g HB l M call) (hM : M id = some d) (hd0 : MOK d np) (hw : w = mdL d + 19) (hret : mdR d = none) (hin : (mdY d).name = "<init>") (h1 : Cond.methodLinkNest own idx (mdY d) host ∈ nwL) (h2 : Cond.instanceMethod (mdY d) ∈ wsG) (h3 : Cond.initialized (mdY d).cls ∈ wsG) (hd : decode cc pc = .ok (.invokespecial idx, 3)) (hn : pc + 3 = n) : Snd g HB l call cc nL own nm pc (s_cI id np w n) := by
  intro fr lo L st h k z o cs pc' L' st' h' k' z' o' cs' hf
  simp only [s_cI] at hf
  cases hp : popN np st [] with
  | none => rw [hp] at hf; cases hf
  | some x =>
    obtain ⟨as, r0⟩ := x
    rw [hp] at hf
    rcases r0 with _ | ⟨a, r⟩
    · cases hf
    simp only at hf
    cases ha : isR a with
    | false => rw [ha] at hf; cases hf
    | true =>
      rw [ha] at hf
      obtain ⟨fr', rv, mc, ms, rfl, hlo, h8, hcall, rfl, rfl, rfl, rfl, rfl⟩ := goC_ok hf
      subst hn
      obtain ⟨d2, e2, hsuf, hmet⟩ := hC0 _ _ _ _ _ _ _ _ _ _ _ _ _ hcall
      cases hM.symm.trans e2
      refine ⟨⟨hsuf, Nat.le_add_right _ _, Nat.le_add_right _ _⟩, fun hok p e R s m args below meth c Q H locs ls hC hfr hlo2 hk hz hR hl kk => ?_⟩
      obtain ⟨⟨hx, hb, hml, hown, hts⟩, hA, -⟩ := hC
      obtain ⟨hst, hln⟩ := popN_st (g := g) hp
      rw [List.map_cons, cV_R ha] at hst
      have hcode := hd0.1
      rw [hret] at hcode
      have cw := va_cnB (R := R) (mc := mc) (ms := ms) (maxL := mdL d) (ret := none) (bytes := mdC d) (ws := mdW d) (ws' := wsG) (rm := { frames := fr', cells := mc, slots := ms, locals := lo - w }) np hts (mdW_good hd0.1) (by unfold mdW; rw [hret]) rfl rfl (hA.2.1 _ h1) (hts _ h3) hd0.2 ⟨hfr, by show 8 + (mdL d + 11) + (lo - w) ≤ R.locals; omega⟩
      have hpre := pre_of (p := p) (av := a :: as) hA hR
      rw [List.map_cons, cV_R ha] at hpre
      refine sim_call (va_runIN (g := F0 m pc ls (st.map (cV g))) (b := gR g a) (As := as.map (cV g)) (rest := r.map (cV g)) ⟨hx, hb, hml, hown, hts⟩ (hmet hok) ⟨cw, hin, hts _ h2⟩ ⟨PP.blind _ _ _ _, hpre⟩ rfl hln hl.1 hst (room8 g h8) hd ⟨hk, hz⟩) hR.2.2.2 fun H1 locs1 hR1 => ?_
      have hkk := kk H1 locs1 ls hR1 hl
      rw [List.map_append] at hkk
      cases rv <;> exact hkk
/-- a call of an object's method: the object is of class ci -/
def s_cV (ci id np w n : Nat) : FF := fun call fr lo c => match c with
  | (_, L, st, h, k, z, o, cs) => match popN np st [] with
    | none => none
    | some (as, r0) => match r0 with
      | [] => none
      | a :: r => match rOf a with
        | none => none
        | some q => match h[q]? with
          | some (.inr (cj, _)) => match Nat.beq ci cj with
            | true => goC call id fr lo w n L (a :: as) r h k z o cs
            | false => none
          | _ => none
theorem s_cV_ok {ci id np w n fr lo pc : Nat} {call : CallF} {L : LL} {st : List AV} {h : List AE} {k z : Nat} {o : List Bool} {cs : CSL} {x : Cfg} (hf : s_cV ci id np w n call fr lo (pc, L, st, h, k, z, o, cs) = some x) : ∃ (as r : List AV) (q : Nat) (fs : List AV), popN np st [] = some (as, .inr (.inr (.ref q)) :: r) ∧ h[q]? = some (.inr (ci, fs)) ∧ goC call id fr lo w n L (.inr (.inr (.ref q)) :: as) r h k z o cs = some x := by
  simp only [s_cV] at hf
  cases hp : popN np st [] with
  | none => rw [hp] at hf; cases hf
  | some x =>
    obtain ⟨as, r0⟩ := x
    rw [hp] at hf
    rcases r0 with _ | ⟨a, r⟩
    · cases hf
    simp only at hf
    cases ha : rOf a with
    | none => rw [ha] at hf; cases hf
    | some q =>
      rw [ha] at hf
      simp only at hf
      cases hq : h[q]? with
      | none => rw [hq] at hf; cases hf
      | some c =>
        rw [hq] at hf
        rcases c with c | ⟨cj, fs⟩
        · cases hf
        simp only at hf
        cases hb : Nat.beq ci cj with
        | false => rw [hb] at hf; cases hf
        | true =>
          rw [hb] at hf
          have e := Nat.eq_of_beq_eq_true hb
          subst e
          rw [rOf_eq ha] at hf ⊢
          exact ⟨as, r, q, fs, rfl, hq, hf⟩
theorem c_V (hc : vwCl[ci]? = some (C, T, N)) (hC0 : SndC g HB l M call) (hM : M id = some d) (hd0 : MOK d np) (hw : w = mdL d + 19) (hcls : (mdY d).cls = C) (h1 : Cond.methodLink own idx (mdY d) ∈ wsG) (h2 : Cond.instanceMethod (mdY d) ∈ wsG) (h3 : Cond.selects C (mdY d) (mdY d) ∈ wsG) (h4 : Cond.initialized C ∈ wsG) (hd : decode cc pc = .ok (.invokevirtual idx, 3)) (hn : pc + 3 = n) : Snd g HB l call cc nL own nm pc (s_cV ci id np w n) := by
  intro fr lo L st h k z o cs pc' L' st' h' k' z' o' cs' hf
  obtain ⟨as, r, q, fs, hp, hq, hgo⟩ := s_cV_ok hf
  obtain ⟨fr', rv, mc, ms, rfl, hlo, h8, hcall, rfl, rfl, rfl, rfl, rfl⟩ := goC_ok hgo
  subst hn
  obtain ⟨d2, e2, hsuf, hmet⟩ := hC0 _ _ _ _ _ _ _ _ _ _ _ _ _ hcall
  cases hM.symm.trans e2
  refine ⟨⟨hsuf, Nat.le_add_right _ _, Nat.le_add_right _ _⟩, fun hok p e R s m args below meth c Q H locs ls hC hfr hlo2 hk hz hR hl kk => ?_⟩
  obtain ⟨⟨hx, hb, hml, hown, hts⟩, hA, -⟩ := hC
  obtain ⟨hst, hln⟩ := popN_st (g := g) hp
  have hG : GoodIn wsG (wsV own idx C (mdY d) (mdW d)) := fun w hw => by
    unfold wsV at hw
    rcases List.mem_append.mp hw with hw | hw
    · simp only [List.mem_cons, List.not_mem_nil, or_false] at hw
      rcases hw with rfl | rfl | rfl | rfl
      · exact wsG_good _ h1
      · exact wsG_good _ h2
      · exact wsG_good _ h3
      · exact wsG_good _ h4
    · exact mdW_good hd0.1 w hw
  have cw := cwV (R := R) (mc := mc) (ms := ms) (maxL := mdL d) (ret := mdR d) (bytes := mdC d) (ws' := wsG) (rm := { frames := fr', cells := mc, slots := ms, locals := lo - w }) np hts hG rfl rfl rfl ⟨hcls, hd0.2⟩ ⟨hfr, by show 8 + (mdL d + 11) + (lo - w) ≤ R.locals; omega⟩
  refine sim_call (va_runV (g := F0 m pc ls (st.map (cV g))) (C := C) (b := g.1 + q) (As := as.map (cV g)) (rest := r.map (cV g)) ⟨hx, hb, hml, hown, hts⟩ (hmet hok) cw ⟨PP.blind _ _ _ _, va_recv hA.1 hR.2.2.1 hc (Rh.ws hq), pre_of (p := p) (av := .inr (.inr (.ref q)) :: as) hA hR⟩ rfl hln hl.1 hst (room8 g h8) hd ⟨hk, hz⟩) hR.2.2.2 fun H1 locs1 hR1 => ?_
  have hkk := kk H1 locs1 ls hR1 hl
  rw [List.map_append] at hkk
  cases rv <;> exact hkk
theorem c_VN {host : String} (hc : vwCl[ci]? = some (C, T, N)) (hC0 : SndC g HB l M call) (hM : M id = some d) (hd0 : MOK d np) (hw : w = mdL d + 19) (h1 : Cond.methodLinkNest own idx (mdY d) host ∈ nwL) (h2 : Cond.instanceMethod (mdY d) ∈ wsG) (h3 : Cond.selects C (mdY d) (mdY d) ∈ wsG) (h4 : Cond.initialized (mdY d).cls ∈ wsG) (hd : decode cc pc = .ok (.invokevirtual idx, 3)) (hn : pc + 3 = n) : Snd g HB l call cc nL own nm pc (s_cV ci id np w n) := by
  intro fr lo L st h k z o cs pc' L' st' h' k' z' o' cs' hf
  obtain ⟨as, r, q, fs, hp, hq, hgo⟩ := s_cV_ok hf
  obtain ⟨fr', rv, mc, ms, rfl, hlo, h8, hcall, rfl, rfl, rfl, rfl, rfl⟩ := goC_ok hgo
  subst hn
  obtain ⟨d2, e2, hsuf, hmet⟩ := hC0 _ _ _ _ _ _ _ _ _ _ _ _ _ hcall
  cases hM.symm.trans e2
  refine ⟨⟨hsuf, Nat.le_add_right _ _, Nat.le_add_right _ _⟩, fun hok p e R s m args below meth c Q H locs ls hC hfr hlo2 hk hz hR hl kk => ?_⟩
  obtain ⟨⟨hx, hb, hml, hown, hts⟩, hA, -⟩ := hC
  obtain ⟨hst, hln⟩ := popN_st (g := g) hp
  have cw := va_cnB (R := R) (mc := mc) (ms := ms) (maxL := mdL d) (ret := mdR d) (bytes := mdC d) (ws := mdW d) (ws' := wsG) (rm := { frames := fr', cells := mc, slots := ms, locals := lo - w }) np hts (mdW_good hd0.1) rfl rfl rfl (hA.2.1 _ h1) (hts _ h4) hd0.2 ⟨hfr, by show 8 + (mdL d + 11) + (lo - w) ≤ R.locals; omega⟩
  refine sim_call (va_runVN (g := F0 m pc ls (st.map (cV g))) (C := C) (b := g.1 + q) (As := as.map (cV g)) (rest := r.map (cV g)) ⟨hx, hb, hml, hown, hts⟩ (hmet hok) ⟨cw, hts _ h2, hts _ h3⟩ ⟨PP.blind _ _ _ _, va_recv hA.1 hR.2.2.1 hc (Rh.ws hq), pre_of (p := p) (av := .inr (.inr (.ref q)) :: as) hA hR⟩ rfl hln hl.1 hst (room8 g h8) hd ⟨hk, hz⟩) hR.2.2.2 fun H1 locs1 hR1 => ?_
  have hkk := kk H1 locs1 ls hR1 hl
  rw [List.map_append] at hkk
  cases rv <;> exact hkk
end CAL
end
section
/-! Further steps: Object's constructor, constants of the pool, statics, outside objects, an empty copy. -/
section MOR
variable {g : GG} {HB : Heap} {l : Launch} {M : Nat → Option MD} {call : CallF} {cc : ByteArray} {nL : Nat} {own nm : String} {pc n id w np idx : Nat} {d : MD}
def s_obj (n : Nat) : FF := fun _ fr lo c => match c with
  | (_, L, st, h, k, z, o, cs) => match st with
    | [] => none
    | a :: r => match isR a && (Nat.ble 1 fr && Nat.ble (slen r + 12) lo) with
      | true => some (n, L, r, h, k, z, o, cs)
      | false => none
theorem m_obj (h1 : Cond.methodLink own idx objectInit ∈ wsG) (h2 : Cond.instanceMethod objectInit ∈ wsG) (h3 : Cond.code objectInit ⟨#[0xb1]⟩ 1 none ∈ wsG) (hd : decode cc pc = .ok (.invokespecial idx, 3)) (hn : pc + 3 = n) : Snd g HB l call cc nL own nm pc (s_obj n) := by
  intro fr lo L st h k z o cs pc' L' st' h' k' z' o' cs' hf
  rcases st with _ | ⟨a, r⟩
  · cases hf
  simp only [s_obj] at hf
  cases hb0 : isR a && (Nat.ble 1 fr && Nat.ble (slen r + 12) lo) with
  | false => rw [hb0] at hf; cases hf
  | true =>
    rw [hb0] at hf
    cases hf
    subst hn
    rw [Bool.and_eq_true, Bool.and_eq_true] at hb0
    have e1 : 1 ≤ fr := Nat.ble_eq.mp hb0.2.1
    have e2 : slen st' + 12 ≤ lo := Nat.ble_eq.mp hb0.2.2
    refine ⟨⟨List.suffix_refl _, Nat.le_refl _, Nat.le_refl _⟩, fun _ p e R s m args below meth c Q H locs ls hC hfr hlo _ _ hR hl kk => ?_⟩
    obtain ⟨⟨hx, hb, hml, hown, hts⟩, hA, -⟩ := hC
    rw [List.map_cons, cV_R hb0.1]
    refine W.objInit hx hb hown (hts _ h1) (hts _ h2) (hts _ h3) (g := F0 m pc ls (.ref (gR g a) :: st'.map (cV g))) rfl (hl.1.trans hml.symm) rfl hd (by omega) (by rw [slen_sum]; show 2 * 0 + slen st' + 12 ≤ R.locals; omega) ?_
    exact kk H locs ls hR hl
/-- a value of the pool, or a static that nobody writes -/
def s_val (v : AV) (n : Nat) : FF := fun _ _ _ c => match c with
  | (_, L, st, h, k, z, o, cs) => some (n, L, v :: st, h, k, z, o, cs)
theorem m_ldc {v : Nat} {x : Int32} (h1 : Cond.constant own idx x ∈ wsG) (hv : x = nI v) (hd : decode cc pc = .ok (.ldc idx, 2)) (hn : pc + 2 = n) : Snd g HB l call cc nL own nm pc (s_val (.inl v) n) := by
  intro fr lo L st h k z o cs pc' L' st' h' k' z' o' cs' hf
  cases hf
  subst hn
  subst hv
  refine ⟨⟨List.suffix_refl _, Nat.le_refl _, Nat.le_refl _⟩, fun _ p e R s m args below meth c Q H locs ls hC hfr hlo _ _ hR hl kk => ?_⟩
  obtain ⟨⟨hx, hb, hml, hown, hts⟩, hA, -⟩ := hC
  exact lv_ldc hx hb hown (hts _ h1) hd (kk H locs ls hR hl)
theorem m_ldc2 {v : Nat} {x : Int64} (h1 : Cond.constantLong own idx x ∈ wsG) (hv : x = lN v) (hd : decode cc pc = .ok (.ldc2_w idx, 3)) (hn : pc + 3 = n) : Snd g HB l call cc nL own nm pc (s_val (.inr (.inl v)) n) := by
  intro fr lo L st h k z o cs pc' L' st' h' k' z' o' cs' hf
  cases hf
  subst hn
  subst hv
  refine ⟨⟨List.suffix_refl _, Nat.le_refl _, Nat.le_refl _⟩, fun _ p e R s m args below meth c Q H locs ls hC hfr hlo _ _ hR hl kk => ?_⟩
  obtain ⟨⟨hx, hb, hml, hown, hts⟩, hA, -⟩ := hC
  exact lv_ldc2 hx hb hown (hts _ h1) hd (kk H locs ls hR hl)
theorem m_ldcS {tx : String} {q : Nat} (h1 : (own, idx, tx, q) ∈ xR) (hq : (UInt32.ofNat q).toNat = q) (hd : decode cc pc = .ok (.ldc idx, 2)) (hn : pc + 2 = n) : Snd g HB l call cc nL own nm pc (s_val (.inr (.inr (.float (UInt32.ofNat q)))) n) := by
  intro fr lo L st h k z o cs pc' L' st' h' k' z' o' cs' hf
  cases hf
  subst hn
  refine ⟨⟨List.suffix_refl _, Nat.le_refl _, Nat.le_refl _⟩, fun _ p e R s m args below meth c Q H locs ls hC hfr hlo _ _ hR hl kk => ?_⟩
  obtain ⟨⟨hx, hb, hml, hown, hts⟩, hA, -⟩ := hC
  have hZ : vk_R own idx tx (g.2.1 q) s := hA.2.2.2.2.2.1 _ h1
  have hk := kk H locs ls hR hl
  rw [List.map_cons] at hk
  have e1 : cV g (.inr (.inr (.float (UInt32.ofNat q)))) = .ref (g.2.1 q) := by
    show Value.ref (g.2.1 (UInt32.ofNat q).toNat) = _
    rw [hq]
  rw [e1] at hk
  exact va_ldcS hx hb hown hZ hd hk
theorem m_gst {C f9 d9 : String} {v : AV} (h1 : (C, f9, d9, v) ∈ xZ) (hlink : Cond.fieldLink own idx C f9 d9 ∈ wsG) (hd : decode cc pc = .ok (.getstatic idx, 3)) (hn : pc + 3 = n) : Snd g HB l call cc nL own nm pc (s_val v n) := by
  intro fr lo L st h k z o cs pc' L' st' h' k' z' o' cs' hf
  cases hf
  subst hn
  refine ⟨⟨List.suffix_refl _, Nat.le_refl _, Nat.le_refl _⟩, fun _ p e R s m args below meth c Q H locs ls hC hfr hlo _ _ hR hl kk => ?_⟩
  obtain ⟨⟨hx, hb, hml, hown, hts⟩, hA, -⟩ := hC
  obtain ⟨cf, kf, fi, f, a, cell, h1, h2, h3, h4, h5, h6, h7, h8⟩ := hA.2.2.2.2.1 _ h1
  exact W.gets hx hb hown (hts _ hlink) h1 h2 h3 h4 (by rw [hR.2.1 a (Nat.lt_of_not_le h8)]; exact h5) (fun e => by rw [e] at h6; cases h6) h7 rfl hd (kk H locs ls hR hl)
/-- a field of an outside object: vs tells it by the object -/
def s_getX (vs : List (Nat × AV)) (n : Nat) : FF := fun _ _ _ c => match c with
  | (_, L, st, h, k, z, o, cs) => match st with
    | [] => none
    | a :: r => match fOf a with
      | none => none
      | some q => match alk vs q with
        | none => none
        | some v => some (n, L, v :: r, h, k, z, o, cs)
theorem m_getX {o9 f9 d9 : String} {vs : List (Nat × AV)} (hvs : ∀ x ∈ vs, (x.1, o9, f9, d9, x.2) ∈ xOF) (hlink : Cond.fieldLink own idx o9 f9 d9 ∈ wsG) (hd : decode cc pc = .ok (.getfield idx, 3)) (hn : pc + 3 = n) : Snd g HB l call cc nL own nm pc (s_getX vs n) := by
  intro fr lo L st h k z o cs pc' L' st' h' k' z' o' cs' hf
  rcases st with _ | ⟨a, r⟩
  · cases hf
  simp only [s_getX] at hf
  cases ha : fOf a with
  | none => rw [ha] at hf; cases hf
  | some q =>
    rw [ha] at hf
    simp only at hf
    cases hv : alk vs q with
    | none => rw [hv] at hf; cases hf
    | some v =>
      rw [hv] at hf
      cases hf
      subst hn
      refine ⟨⟨List.suffix_refl _, Nat.le_refl _, Nat.le_refl _⟩, fun _ p e R s m args below meth c Q H locs ls hC hfr hlo _ _ hR hl kk => ?_⟩
      obtain ⟨⟨hx, hb, hml, hown, hts⟩, hA, -⟩ := hC
      obtain ⟨cf, k9, fi, f, cell, h1, h2, h3, h4, h5, h6⟩ := hA.2.2.1 _ (hvs _ (alk_mem hv))
      rw [List.map_cons, fOf_eq ha]
      exact W.getf hx hb hown (hts _ hlink) h1 h2 (by rw [hR.2.1 _ (Nat.lt_of_not_le h6)]; exact h3) h4 h5 rfl rfl hd (kk H locs ls hR hl)
/-- a byte of an outside array -/
def s_baldX (n : Nat) : FF := fun cl fr lo c => match c with
  | (pc, L, st, h, k, z, o, cs) => match st with
    | .inl j :: a :: r => match fOf a with
      | none => s_ald (fun t => Nat.beq t 1 || Nat.beq t 2) isI (.inl 0) n cl fr lo (pc, L, .inl j :: a :: r, h, k, z, o, cs)
      | some q => match xTf q with
        | none => none
        | some x => match Nat.blt j x.2.1 && (Nat.blt j 2147483648 && decide (x.1 = .byte)) with
          | false => none
          | true => fz (toN (x.2.2.getD j 0)) (fun v => some (n, L, .inl v :: r, h, k, z, o, cs))
    | _ => none
theorem m_baldX (hd : decode cc pc = .ok (.baload, 1)) (hn : pc + 1 = n) : Snd g HB l call cc nL own nm pc (s_baldX n) := by
  intro fr lo L st h k z o cs pc' L' st' h' k' z' o' cs' hf
  rcases st with _ | ⟨i, _ | ⟨a, r⟩⟩
  · cases hf
  · rcases i with i | i <;> cases hf
  rcases i with j | i
  · simp only [s_baldX] at hf
    cases ha : fOf a with
    | none => rw [ha] at hf; exact h_bald hd hn fr lo L _ h k z o cs pc' L' st' h' k' z' o' cs' hf
    | some q =>
      rw [ha] at hf
      simp only at hf
      cases hv : xTf q with
      | none => rw [hv] at hf; cases hf
      | some x =>
        rw [hv] at hf
        simp only at hf
        cases hb0 : Nat.blt j x.2.1 && (Nat.blt j 2147483648 && decide (x.1 = .byte)) with
        | false => rw [hb0] at hf; cases hf
        | true =>
          rw [hb0] at hf
          simp only [fz_eq] at hf
          cases hf
          subst hn
          rw [Bool.and_eq_true, Bool.and_eq_true] at hb0
          have e1 : j < x.2.1 := Nat.blt_eq.mp hb0.1
          have e2 : j < 2147483648 := Nat.blt_eq.mp hb0.2.1
          have e3 : x.1 = .byte := of_decide_eq_true hb0.2.2
          refine ⟨⟨List.suffix_refl _, Nat.le_refl _, Nat.le_refl _⟩, fun _ p e R s m args below meth c Q H locs ls hC hfr hlo _ _ hR hl kk => ?_⟩
          obtain ⟨⟨hx, hb, hml, hown, hts⟩, hA, -⟩ := hC
          obtain ⟨cell, c1, c2, c3, c4, c5, c6, c7⟩ := hA.2.2.2.1 _ (xTf_mem hv)
          simp only at c1 c2 c4 c6
          rw [e3] at c2
          rw [List.map_cons, List.map_cons, fOf_eq ha]
          have hk := kk H locs ls hR hl
          rw [List.map_cons] at hk
          have e4 : cV g (.inl (toN (x.2.2.getD j 0))) = .int (x.2.2.getD j 0) := by show Value.int (nI (toN _)) = _; rw [nI_toN]
          rw [e4] at hk
          exact W.bald (j := nI j) hx hb (by rw [hR.2.1 _ (Nat.lt_of_not_le c7)]; exact c1) c2 c3 (by
            rintro (q | q)
            · exact nI_pos (by omega) q
            · rw [nI_clamp (by omega)] at q
              omega) (by rw [nI_clamp (by omega)]; exact c6 j e1) rfl rfl hd hk
  · cases hf
/-- a call of an outside object's method -/
def s_cVX (vs : List Nat) (id np w n : Nat) : FF := fun call fr lo c => match c with
  | (_, L, st, h, k, z, o, cs) => match popN np st [] with
    | none => none
    | some (as, r0) => match r0 with
      | [] => none
      | a :: r => match fOf a with
        | none => none
        | some q => match vs.any (fun y => Nat.beq y q) with
          | true => goC call id fr lo w n L (a :: as) r h k z o cs
          | false => none
theorem m_cVX {C : String} {vs : List Nat} (hvs : ∀ x ∈ vs, (x, C) ∈ xO) (hC0 : SndC g HB l M call) (hM : M id = some d) (hd0 : MOK d np) (hw : w = mdL d + 19) (hcls : (mdY d).cls = C) (h1 : Cond.methodLink own idx (mdY d) ∈ wsG) (h2 : Cond.instanceMethod (mdY d) ∈ wsG) (h3 : Cond.selects C (mdY d) (mdY d) ∈ wsG) (h4 : Cond.initialized C ∈ wsG) (hd : decode cc pc = .ok (.invokevirtual idx, 3)) (hn : pc + 3 = n) : Snd g HB l call cc nL own nm pc (s_cVX vs id np w n) := by
  intro fr lo L st h k z o cs pc' L' st' h' k' z' o' cs' hf
  simp only [s_cVX] at hf
  cases hp : popN np st [] with
  | none => rw [hp] at hf; cases hf
  | some x =>
    obtain ⟨as, r0⟩ := x
    rw [hp] at hf
    rcases r0 with _ | ⟨a, r⟩
    · cases hf
    simp only at hf
    cases ha : fOf a with
    | none => rw [ha] at hf; cases hf
    | some q =>
      rw [ha] at hf
      simp only at hf
      cases hq : vs.any (fun y => Nat.beq y q) with
      | false => rw [hq] at hf; cases hf
      | true =>
        rw [hq] at hf
        obtain ⟨fr', rv, mc, ms, rfl, hlo, h8, hcall, rfl, rfl, rfl, rfl, rfl⟩ := goC_ok hf
        subst hn
        obtain ⟨y, hy, hyq⟩ := List.any_eq_true.mp hq
        have hyq := Nat.eq_of_beq_eq_true hyq
        subst hyq
        obtain ⟨d2, e2, hsuf, hmet⟩ := hC0 _ _ _ _ _ _ _ _ _ _ _ _ _ hcall
        cases hM.symm.trans e2
        refine ⟨⟨hsuf, Nat.le_add_right _ _, Nat.le_add_right _ _⟩, fun hok p e R s m args below meth c Q H locs ls hC hfr hlo2 hk hz hR hl kk => ?_⟩
        obtain ⟨⟨hx, hb, hml, hown, hts⟩, hA, -⟩ := hC
        obtain ⟨hst, hln⟩ := popN_st (g := g) hp
        rw [List.map_cons, fOf_eq ha] at hst
        have hG : GoodIn wsG (wsV own idx C (mdY d) (mdW d)) := fun w hw => by
          unfold wsV at hw
          rcases List.mem_append.mp hw with hw | hw
          · simp only [List.mem_cons, List.not_mem_nil, or_false] at hw
            rcases hw with rfl | rfl | rfl | rfl
            · exact wsG_good _ h1
            · exact wsG_good _ h2
            · exact wsG_good _ h3
            · exact wsG_good _ h4
          · exact mdW_good hd0.1 w hw
        have cw := cwV (R := R) (mc := mc) (ms := ms) (maxL := mdL d) (ret := mdR d) (bytes := mdC d) (ws' := wsG) (rm := { frames := fr', cells := mc, slots := ms, locals := lo - w }) np hts hG rfl rfl rfl ⟨hcls, hd0.2⟩ ⟨hfr, by show 8 + (mdL d + 11) + (lo - w) ≤ R.locals; omega⟩
        have hpre := pre_of (p := p) (av := a :: as) hA hR
        rw [List.map_cons, fOf_eq ha] at hpre
        obtain ⟨cell, o1, o2, o3, o4⟩ := hA.2.2.2.2.2.2.1 _ (hvs _ hy)
        refine sim_call (va_runV (g := F0 m pc ls (st.map (cV g))) (C := C) (b := g.2.1 y) (As := as.map (cV g)) (rest := r.map (cV g)) ⟨hx, hb, hml, hown, hts⟩ (hmet hok) cw ⟨PP.blind _ _ _ _, ⟨cell, by rw [hR.2.1 _ (Nat.lt_of_not_le o4)]; exact o1, o2, o3⟩, hpre⟩ rfl hln hl.1 hst (room8 g h8) hd ⟨hk, hz⟩) hR.2.2.2 fun H1 locs1 hR1 => ?_
        have hkk := kk H1 locs1 ls hR1 hl
        rw [List.map_append] at hkk
        cases rv <;> exact hkk
/-- the script's length, where it is L -/
def s_slen (L0 n : Nat) : FF := fun _ _ _ c => match c with
  | (_, L, st, h, k, z, o, cs) => match st with
    | [] => none
    | a :: r => match fOf a with
      | none => none
      | some q => match Nat.beq q 90 with
        | true => some (n, L, .inl L0 :: r, h, k, z, o, cs)
        | false => none
theorem m_slen {L0 : Nat} (hL : g.2.1 91 = L0) (hd : decode cc pc = .ok (.arraylength, 1)) (hn : pc + 1 = n) : Snd g HB l call cc nL own nm pc (s_slen L0 n) := by
  intro fr lo L st h k z o cs pc' L' st' h' k' z' o' cs' hf
  subst hn
  subst hL
  rcases st with _ | ⟨a, r⟩
  · cases hf
  simp only [s_slen] at hf
  cases ha : fOf a with
  | none => rw [ha] at hf; cases hf
  | some q =>
    rw [ha] at hf
    simp only at hf
    cases hq : Nat.beq q 90 with
    | false => rw [hq] at hf; cases hf
    | true =>
      rw [hq] at hf
      cases hf
      have hq := Nat.eq_of_beq_eq_true hq
      subst hq
      refine ⟨⟨List.suffix_refl _, Nat.le_refl _, Nat.le_refl _⟩, fun _ p e R s m args below meth c Q H locs ls hC hfr hlo _ _ hR hl kk => ?_⟩
      obtain ⟨⟨hx, hb, hml, hown, hts⟩, hA, -⟩ := hC
      obtain ⟨cell, c1, c2, c3, c4, c5, c6, c7⟩ := hA.2.2.2.2.2.2.2
      rw [List.map_cons, fOf_eq ha]
      exact W.alen hx hb (by rw [hR.2.1 _ (Nat.lt_of_not_le c7)]; exact c1) c2 c5 rfl rfl hd (kk H locs ls hR hl)
/-- an int of the script, as sc tells it -/
def s_sld (L0 : Nat) (sc : Nat → AV) (n : Nat) : FF := fun _ _ _ c => match c with
  | (_, L, st, h, k, z, o, cs) => match st with
    | .inl j :: a :: r => match fOf a with
      | none => none
      | some q => match Nat.beq q 90 && (Nat.blt j L0 && Nat.blt j 2147483648) with
        | true => fzv (sc j) (fun v => some (n, L, v :: r, h, k, z, o, cs))
        | false => none
    | _ => none
theorem m_sld {L0 : Nat} {sc : Nat → AV} (hL : g.2.1 91 = L0) (hsc : ∀ j, j < L0 → cV g (sc j) = .int (nI (g.2.1 (2000 + j)))) (hd : decode cc pc = .ok (.iaload, 1)) (hn : pc + 1 = n) : Snd g HB l call cc nL own nm pc (s_sld L0 sc n) := by
  intro fr lo L st h k z o cs pc' L' st' h' k' z' o' cs' hf
  subst hn
  subst hL
  rcases st with _ | ⟨i, _ | ⟨a, r⟩⟩
  · cases hf
  · rcases i with i | i <;> cases hf
  rcases i with j | i
  · simp only [s_sld] at hf
    cases ha : fOf a with
    | none => rw [ha] at hf; cases hf
    | some q =>
      rw [ha] at hf
      simp only at hf
      cases hq : Nat.beq q 90 && (Nat.blt j (g.2.1 91) && Nat.blt j 2147483648) with
      | false => rw [hq] at hf; cases hf
      | true =>
        rw [hq] at hf
        simp only [fzv_eq] at hf
        cases hf
        rw [Bool.and_eq_true, Bool.and_eq_true] at hq
        have hq90 := Nat.eq_of_beq_eq_true hq.1
        subst hq90
        have e1 : j < g.2.1 91 := Nat.blt_eq.mp hq.2.1
        have e2 : j < 2147483648 := Nat.blt_eq.mp hq.2.2
        refine ⟨⟨List.suffix_refl _, Nat.le_refl _, Nat.le_refl _⟩, fun _ p e R s m args below meth c Q H locs ls hC hfr hlo _ _ hR hl kk => ?_⟩
        obtain ⟨⟨hx, hb, hml, hown, hts⟩, hA, -⟩ := hC
        obtain ⟨cell, c1, c2, c3, c4, c5, c6, c7⟩ := hA.2.2.2.2.2.2.2
        rw [List.map_cons, List.map_cons, fOf_eq ha]
        have hk := kk H locs ls hR hl
        rw [List.map_cons, hsc j e1] at hk
        exact W.iald (j := nI j) hx hb (by rw [hR.2.1 _ (Nat.lt_of_not_le c7)]; exact c1) c2 c3 (by
          rintro (q | q)
          · exact nI_pos (by omega) q
          · rw [nI_clamp (by omega)] at q
            omega) (by rw [nI_clamp (by omega)]; exact c6 j e1) rfl rfl hd hk
  · cases hf
end MOR
end
section
/-! A reference into an array of Objects; a copy of no ints. -/
section REF
variable {g : GG} {HB : Heap} {l : Launch} {M : Nat → Option MD} {call : CallF} {cc : ByteArray} {nL : Nat} {own nm : String} {pc n id w np idx : Nat} {d : MD} {ci : Nat} {C : String} {T : u_T} {N : Nat}
def s_aast (ci n : Nat) : FF := fun _ _ _ c => match c with
  | (_, L, st, h, kk, z, o, cs) => match st with
    | w :: .inl j :: a :: r => match rOf a, rOf w with
      | some q, some qw => match h[q]?, h[qw]? with
        | some (.inl (t, m, u)), some (.inr (cj, _)) => match Nat.beq t 4 && (Nat.blt j m && (Nat.blt j 2147483648 && Nat.beq ci cj)) with
          | true => fzs (h.set q (.inl (4, m, (j, w) :: u))) (fun h' => some (n, L, r, h', kk, z, o, cs))
          | false => none
        | _, _ => none
      | _, _ => none
    | _ => none
theorem cQ_cons {j q : Nat} {v : AV} {u : List (Nat × AV)} : va_rf (cQ g ((j, v) :: u) q) = if q = j then va_rf (gQ g v) else va_rf (cQ g u q) := by
  unfold cQ
  rw [alk_cons]
  by_cases h : q = j
  · rw [if_pos h, if_pos h]
  · rw [if_neg h, if_neg h]
theorem h_aast (hc : vwCl[ci]? = some (C, T, N)) (hca : Cond.castable C "java/lang/Object" ∈ wsG) (hd : decode cc pc = .ok (.aastore, 1)) (hn : pc + 1 = n) : Snd g HB l call cc nL own nm pc (s_aast ci n) := by
  intro fr lo L st h kk z o cs pc' L' st' h' k' z' o' cs' hf
  subst hn
  rcases st with _ | ⟨w, _ | ⟨i, _ | ⟨a, r⟩⟩⟩
  · cases hf
  · cases hf
  · rcases i with i | i <;> cases hf
  rcases i with j | i
  · simp only [s_aast] at hf
    cases ha : rOf a with
    | none => rw [ha] at hf; cases hf
    | some q =>
      cases hw : rOf w with
      | none => rw [ha, hw] at hf; cases hf
      | some qw =>
        rw [ha, hw] at hf
        simp only at hf
        cases hq : h[q]? with
        | none => rw [hq] at hf; cases hf
        | some c1 =>
          cases hqw : h[qw]? with
          | none => rw [hq, hqw] at hf; rcases c1 with ⟨t, m, u⟩ | c1 <;> cases hf
          | some c2 =>
            rw [hq, hqw] at hf
            rcases c1 with ⟨t, m, u⟩ | c1
            · rcases c2 with c2 | ⟨cj, fs⟩
              · cases hf
              · simp only at hf
                cases hb0 : Nat.beq t 4 && (Nat.blt j m && (Nat.blt j 2147483648 && Nat.beq ci cj)) with
                | false => rw [hb0] at hf; cases hf
                | true =>
                  rw [hb0] at hf
                  simp only [fzs_eq] at hf
                  rw [Bool.and_eq_true, Bool.and_eq_true, Bool.and_eq_true] at hb0
                  have e1 := Nat.eq_of_beq_eq_true hb0.1
                  have e4 := Nat.eq_of_beq_eq_true hb0.2.2.2
                  have h1 : j < m := Nat.blt_eq.mp hb0.2.1
                  have h2 : j < 2147483648 := Nat.blt_eq.mp hb0.2.2.1
                  subst e1
                  subst e4
                  rw [rOf_eq ha, rOf_eq hw] at *
                  cases hf
                  refine ⟨⟨List.suffix_refl _, Nat.le_refl _, Nat.le_refl _⟩, fun _ p e R s m0 args below meth c Q H locs ls hC _ _ _ _ hR hl kk => ?_⟩
                  obtain ⟨⟨hx, hb, hml, hown, hts⟩, hA, -⟩ := hC
                  obtain ⟨r', hr', cellV, g1, g2, g3, -⟩ := hR.get hqw
                  have hcls := (hA.1.1 ci _ hc).2
                  obtain ⟨kA, comp, k1, k2, k3, -⟩ := (hA.1.2 4 _ rfl).2
                  obtain ⟨kE, hkE, -⟩ := Vm.findClass_spec k3
                  obtain ⟨c0, t1, f1, f2, f3⟩ := Cond.castable_spec (hts _ hca)
                  cases hcls.1.symm.trans f1
                  cases k3.symm.trans f2
                  obtain ⟨kC, hkC, -⟩ := hcls.2
                  refine W.aast (j := nI j) hx hb (hR.get hq) (fun q h => by cases h) (fun h => by cases h) k1 k2 rfl hkE ⟨nI_pos (by omega), by show _ < (arrV _ _ _).slots.size; rw [arrV_size, nI_clamp (by omega)]; exact h1⟩ g1 (fun q h => by rw [g3] at h; cases h) (by rw [g2]; exact hkC) (by rw [g2]; exact f3) rfl rfl hd fun H1 e zz oq => ?_
                  rw [nI_clamp (by omega)] at e ⊢
                  refine kk H1 _ ls (hR.set hq ?_ zz oq) hl
                  show H1[g.1 + q]? = some (arrV (g.2.2.2 4) m (fun x => va_rf (cQ g ((j, .inr (.inr (.ref qw))) :: u) x)))
                  rw [e]
                  exact congrArg some (av_set fun x => by rw [cQ_cons]; rfl)
            · cases hf
  · cases hf
def mxF (x y : Int32) : Int32 := if x < y then y else x
def mnF (x y : Int32) : Int32 := if y < x then y else x
/-- Math.max, Math.min of known ints -/
def s_mm (f : Int32 → Int32 → Int32) (n : Nat) : FF := fun _ fr lo c => match c with
  | (_, L, st, h, kk, z, o, cs) => match st with
    | .inl y :: .inl x :: r => match Nat.ble 1 fr && Nat.ble (slen r + 13) lo with
      | true => fz (toN (f (nI x) (nI y))) (fun v => some (n, L, .inl v :: r, h, kk, z, o, cs))
      | false => none
    | _ => none
theorem s_mm_ok {f : Int32 → Int32 → Int32} (hn : pc + 3 = n)
    (row : ∀ (p : Program) (e : Env) (R : Room) (s : State) (m : MethodId) (args : Array Value) (below : List Frame) (meth : Method) (c : Code) (H : Heap) (locs : List Loc) (cells slots : Nat) (Q : State → Prop) (ls : Array Slot) (rest : List Value) (x y : Int32), p.tables.exec = Jvm.exec → c.code = cc → c.maxLocals = ls.size → s.vm.findClass own = some m.cls → (∀ w ∈ wsG, w.before args s = true) → 1 ≤ R.frames → (rest.map fun v => v.category).sum + 13 ≤ R.locals → cells ≤ R.cells → slots ≤ R.slots →
      W p l e R s m args below meth c H locs cells slots Q (F0 m (pc + 3) ls (.int (f x y) :: rest)) → W p l e R s m args below meth c H locs cells slots Q (F0 m pc ls (.int y :: .int x :: rest))) : Snd g HB l call cc nL own nm pc (s_mm f n) := by
  intro fr lo L st h kk z o cs pc' L' st' h' k' z' o' cs' hf
  subst hn
  rcases st with _ | ⟨b, _ | ⟨a, r⟩⟩
  · cases hf
  · rcases b with b | b <;> cases hf
  rcases b with y | b
  · rcases a with x | a
    · simp only [s_mm] at hf
      cases hb0 : Nat.ble 1 fr && Nat.ble (slen r + 13) lo with
      | false => rw [hb0] at hf; cases hf
      | true =>
        rw [hb0] at hf
        simp only [fz_eq] at hf
        rw [Bool.and_eq_true] at hb0
        have e1 : 1 ≤ fr := Nat.ble_eq.mp hb0.1
        have e2 : slen r + 13 ≤ lo := Nat.ble_eq.mp hb0.2
        cases hf
        refine ⟨⟨List.suffix_refl _, Nat.le_refl _, Nat.le_refl _⟩, fun _ p e R s m0 args below meth c Q H locs ls hC hfr hlo hk hz hR hl kk => ?_⟩
        obtain ⟨⟨hx, hb, hml, hown, hts⟩, hA, -⟩ := hC
        have h9 := kk H locs ls hR hl
        rw [List.map_cons] at h9
        have e4 : cV g (.inl (toN (f (nI x) (nI y)))) = .int (f (nI x) (nI y)) := by show Value.int (nI (toN _)) = _; rw [nI_toN]
        rw [e4] at h9
        exact row p e R s m0 args below meth c H locs _ _ Q ls _ (nI x) (nI y) hx hb (hml.trans hl.1.symm) hown hts (by omega) (by rw [slen_sum]; omega) hk hz h9
    · cases hf
  · cases hf
theorem m_mmax (h1 : Cond.methodLink own idx Lib.Math.max.name ∈ wsG) (h2 : Cond.static Lib.Math.max.name ∈ wsG) (h3 : Cond.initialized "java/lang/Math" ∈ wsG) (h4 : Cond.code Lib.Math.max.name Lib.Math.max.code 2 (some .int) ∈ wsG) (hd : decode cc pc = .ok (.invokestatic idx, 3)) (hn : pc + 3 = n) : Snd g HB l call cc nL own nm pc (s_mm mxF n) :=
  s_mm_ok hn fun _ _ _ _ _ _ _ _ _ _ _ _ _ _ _ _ _ _ hx hb hml hown hts hf hl hc hs k => va_mmax hx hb hml hown (hts _ h1) (hts _ h2) (hts _ h3) (hts _ h4) hf hl hc hs hd k
theorem m_mmin (h1 : Cond.methodLink own idx Lib.Math.min.name ∈ wsG) (h2 : Cond.static Lib.Math.min.name ∈ wsG) (h3 : Cond.initialized "java/lang/Math" ∈ wsG) (h4 : Cond.code Lib.Math.min.name Lib.Math.min.code 2 (some .int) ∈ wsG) (hd : decode cc pc = .ok (.invokestatic idx, 3)) (hn : pc + 3 = n) : Snd g HB l call cc nL own nm pc (s_mm mnF n) :=
  s_mm_ok hn fun _ _ _ _ _ _ _ _ _ _ _ _ _ _ _ _ _ _ hx hb hml hown hts hf hl hc hs k => va_mmin hx hb hml hown (hts _ h1) (hts _ h2) (hts _ h3) (hts _ h4) hf hl hc hs hd k
/-- System.arraycopy of no ints -/
def s_copy0 (n : Nat) : FF := fun _ fr lo c => match c with
  | (_, L, st, h, kk, z, o, cs) => match st with
    | .inl 0 :: .inl 0 :: a :: .inl 0 :: b :: r => match rOf a, rOf b with
      | some q, some qb => match h[q]?, h[qb]? with
        | some (.inl (0, _, _)), some (.inl (0, _, _)) => match Nat.ble 1 fr && Nat.ble (slen r + (nativeFrameWords "java/lang/System" "arraycopy" 5 + 11)) lo with
          | true => some (n, L, r, h, kk, z, o, cs)
          | false => none
        | _, _ => none
      | _, _ => none
    | _ => none
theorem m_copy0 (h1 : Cond.methodLink own idx arraycopyName ∈ wsG) (h2 : Cond.native arraycopyName ∈ wsG) (h3 : Cond.static arraycopyName ∈ wsG) (h4 : Cond.initialized "java/lang/System" ∈ wsG) (hd : decode cc pc = .ok (.invokestatic idx, 3)) (hn : pc + 3 = n) : Snd g HB l call cc nL own nm pc (s_copy0 n) := by
  intro fr lo L st h kk z o cs pc' L' st' h' k' z' o' cs' hf
  subst hn
  have key : ∃ (a b : AV) (r : List AV) (q qb m mb : Nat) (u ub : List (Nat × AV)), st = .inl 0 :: .inl 0 :: a :: .inl 0 :: b :: r ∧ rOf a = some q ∧ rOf b = some qb ∧ h[q]? = some (.inl (0, m, u)) ∧ h[qb]? = some (.inl (0, mb, ub)) ∧ 1 ≤ fr ∧ slen r + (nativeFrameWords "java/lang/System" "arraycopy" 5 + 11) ≤ lo ∧ some (pc + 3, L, r, h, kk, z, o, cs) = some (pc', L', st', h', k', z', o', cs') := by
    simp only [s_copy0] at hf
    split at hf
    · rename_i a b r
      split at hf
      · rename_i q qb ha hb
        split at hf
        · rename_i m u mb ub hq hqb
          split at hf
          · rename_i hb0
            rw [Bool.and_eq_true] at hb0
            exact ⟨a, b, r, q, qb, m, mb, u, ub, rfl, ha, hb, hq, hqb, Nat.ble_eq.mp hb0.1, Nat.ble_eq.mp hb0.2, hf⟩
          · cases hf
        · cases hf
      · cases hf
    · cases hf
  obtain ⟨a, b, r, q, qb, m, mb, u, ub, rfl, ha, hb9, hq, hqb, hfr1, hlo1, e0⟩ := key
  cases e0
  refine ⟨⟨List.suffix_refl _, Nat.le_refl _, Nat.le_refl _⟩, fun _ p e R s m0 args below meth c Q H locs ls hC hfr hlo _ _ hR hl kk => ?_⟩
  obtain ⟨⟨hx, hb, hml, hown, hts⟩, hA, -⟩ := hC
  rw [rOf_eq ha, rOf_eq hb9]
  intro T hT X
  have hc1 : H[g.1 + q]? = some (arrV (g.2.2.2 0) m (fun x => .int (cI g u x))) := hR.get hq
  have hc0 : H[g.1 + qb]? = some (arrV (g.2.2.2 0) mb (fun x => .int (cI g ub x))) := hR.get hqb
  obtain ⟨-, k0, hk0, cm0, hkk0⟩ := (hA.1.2 0 _ rfl).1 mb (fun j => .int (cI g ub j))
  obtain ⟨-, k1, hk1, cm1, hkk1⟩ := (hA.1.2 0 _ rfl).1 m (fun j => .int (cI g u j))
  have n0 : (nI 0).toInt = 0 := nI_toInt (n := 0) (by omega)
  have n1 : (nI 0).toNatClampNeg = 0 := nI_clamp (n := 0) (by omega)
  have n2 : ¬ nI 0 < 0 := nI_pos (n := 0) (by omega)
  obtain ⟨vm', X', step⟩ := X.arraycopy hx hown (hts _ h1) (hts _ h2) (hts _ h3) (hts _ h4) (src := g.1 + qb) (dst := g.1 + q) (cs := arrV (g.2.2.2 0) mb (fun x => .int (cI g ub x))) (cd := arrV (g.2.2.2 0) m (fun x => .int (cI g u x))) (srcPos := nI 0) (destPos := nI 0) (n := nI 0) (by rw [hT]; exact hc0) (by rw [hT]; exact hc1)
    (fun _ h => by cases h) (fun _ h => by cases h) (fun h => by cases h) (fun h => by cases h) hk0 hk1 hkk0 hkk1 rfl n2 n2 n2
    (by rw [n0]; show ¬ _ > ((arrV _ mb _).slots.size : Int); rw [arrV_size]; omega)
    (by rw [n0]; show ¬ _ > ((arrV _ m _).slots.size : Int); rw [arrV_size]; omega)
    (fun vm₁ _ i hi => by rw [n1] at hi; omega)
    (g := F0 m0 pc ls (.int (nI 0) :: .int (nI 0) :: .ref (g.1 + q) :: .int (nI 0) :: .ref (g.1 + qb) :: st'.map (cV g))) rfl (hl.1.trans hml.symm) (rest := st'.map (cV g)) rfl (by rw [hb]; exact hd) (by omega) (by rw [slen_sum]; show 2 * 0 + _ + _ ≤ _; omega)
  have e1 : copied (arrV (g.2.2.2 0) mb (fun x => .int (cI g ub x))) (arrV (g.2.2.2 0) m (fun x => .int (cI g u x))) (nI 0) (nI 0) (nI 0) = arrV (g.2.2.2 0) m (fun x => .int (cI g u x)) := by
    have e2 := va_copied (fun z => Value.int z) (g.2.2.2 0) (g.2.2.2 0) (n0 := mb) (n1 := m) (sp := 0) (dp := 0) (n := 0) (cI g ub) (cI g u) (by omega)
    have e3 : va_cpy (cI g ub) (cI g u) 0 0 0 = cI g u := by
      funext x
      unfold va_cpy
      rw [if_neg (by omega)]
    rw [e3] at e2
    unfold copied
    rw [n1]
    exact e2
  rw [e1] at X' step
  have hheap : ((T.setVm vm').setCell (g.1 + q) (arrV (g.2.2.2 0) m (fun x => .int (cI g u x)))).heap = H := by
    have e4 : ((T.setVm vm').setCell (g.1 + q) (arrV (g.2.2.2 0) m (fun x => .int (cI g u x)))).heap = H.setIfInBounds (g.1 + q) (arrV (g.2.2.2 0) m (fun x => .int (cI g u x))) := by rw [← hT]; rfl
    rw [e4]
    apply Array.ext_getElem?
    intro i
    by_cases hi : g.1 + q = i
    · subst hi
      have hlt := (Array.getElem?_eq_some_iff.mp hc1).1
      rw [hc1]
      simp [Array.getElem?_setIfInBounds, hlt]
    · simp [Array.getElem?_setIfInBounds, hi]
  obtain ⟨t, a1, b1⟩ := kk H _ ls (by
    refine ⟨hR.1, hR.2.1, hR.2.2.1, fun x hx9 => ?_⟩
    rcases List.mem_append.mp hx9 with h | h
    · exact hR.2.2.2 x h
    · obtain ⟨y, -, hy⟩ := List.mem_map.mp h
      rw [← hy]
      exact Nat.le_add_right _ _) hl _ hheap X'
  exact ⟨t, step t a1, b1⟩
end REF
end
section
/-! A method's run, computed, is what the machine does. -/
/-- an end of a method, in its code -/
def endOK (cc : ByteArray) (ret : Option FieldType) (pc kd : Nat) : Prop := match kd with
  | 0 => ret = none ∧ decode cc pc = .ok (.return_, 1)
  | 1 => ret = some .int ∧ decode cc pc = .ok (.ireturn, 1)
  | 2 => decode cc pc = .ok (.ireturn, 1)
  | 3 => (∃ rt, ret = some rt ∧ ((∃ n, rt = .object n) ∨ ∃ t, rt = .array t)) ∧ decode cc pc = .ok (.areturn, 1)
  | 4 => ret = some .long ∧ decode cc pc = .ok (.lreturn, 1)
  | _ => False
/-- a method whose steps and ends are the machine's -/
def MSnd (g : GG) (HB : Heap) (l : Launch) (M : Nat → Option MD) (d : MD) : Prop :=
  plainName (mdY d).cls = true ∧
  (∀ call, SndC g HB l M call → ∀ x ∈ mdP d, Snd g HB l call (mdC d) (mdL d) (mdY d).cls (mdY d).name x.1 x.2) ∧
  ∀ x ∈ mdE d, endOK (mdC d) (mdR d) x.1 x.2
theorem okc_suffix {g : GG} {a b : CSL} (h : a <:+ b) (hb : okc g b) : okc g a := fun q hq => hb q (h.subset hq)
theorem run_step {g : GG} {HB : Heap} {l : Launch} {M : Nat → Option MD} {n : Nat} (hcall : SndC g HB l M (cMth M (run M n)))
    (ih : ∀ (P : List (Nat × FF)) (cc : ByteArray) (nL : Nat) (own nm : String), (∀ call, SndC g HB l M call → ∀ x ∈ P, Snd g HB l call cc nL own nm x.1 x.2) → ∀ (pc : Nat), Snd g HB l (cMth M (run M n)) cc nL own nm pc (fun _ fr lo c => run M n P fr lo c))
    (P : List (Nat × FF)) (cc : ByteArray) (nL : Nat) (own nm : String) (hP : ∀ call, SndC g HB l M call → ∀ x ∈ P, Snd g HB l call cc nL own nm x.1 x.2) (pc : Nat) : Snd g HB l (cMth M (run M n)) cc nL own nm pc (fun _ fr lo c => run M (n + 1) P fr lo c) := by
  intro fr lo L st h k z o cs pc' L' st' h' k' z' o' cs' hf
  simp only [run] at hf
  cases hp : alk P pc with
  | none =>
    rw [hp] at hf
    cases hf
    exact ⟨⟨List.suffix_refl _, Nat.le_refl _, Nat.le_refl _⟩, fun _ p e R s m args below meth c Q H locs ls hC _ _ _ _ hR hl kk => kk H locs ls hR hl⟩
  | some f =>
    rw [hp] at hf
    simp only at hf
    cases h1 : f (cMth M (run M n)) fr lo (pc, L, st, h, k, z, o, cs) with
    | none => rw [h1] at hf; cases hf
    | some c1 =>
      obtain ⟨pc1, L1, st1, h1', k1, z1, o1, cs1⟩ := c1
      rw [h1] at hf
      have hs := hP _ hcall _ (alk_mem hp) fr lo L st h k z o cs pc1 L1 st1 h1' k1 z1 o1 cs1 h1
      have hr := ih P cc nL own nm hP pc1 fr lo L1 st1 h1' k1 z1 o1 cs1 pc' L' st' h' k' z' o' cs' hf
      refine ⟨⟨hs.1.1.trans hr.1.1, Nat.le_trans hs.1.2.1 hr.1.2.1, Nat.le_trans hs.1.2.2 hr.1.2.2⟩, fun hok p e R s m args below meth c Q H locs ls hC hfr hlo hk hz hR hl kk => ?_⟩
      refine hs.2 (okc_suffix hr.1.1 hok) p e R s m args below meth c Q H locs ls hC hfr hlo (Nat.le_trans hr.1.2.1 hk) (Nat.le_trans hr.1.2.2 hz) hR hl (fun H1 locs1 ls1 hR1 hl1 => ?_)
      exact hr.2 hok p e R s m args below meth c Q H1 locs1 ls1 hC hfr hlo hk hz hR1 hl1 kk
theorem run_call {g : GG} {HB : Heap} {l : Launch} {M : Nat → Option MD} {n : Nat} (hM : ∀ id d, M id = some d → MSnd g HB l M d)
    (hrun : ∀ (P : List (Nat × FF)) (cc : ByteArray) (nL : Nat) (own nm : String), (∀ call, SndC g HB l M call → ∀ x ∈ P, Snd g HB l call cc nL own nm x.1 x.2) → ∀ (pc : Nat), Snd g HB l (cMth M (run M n)) cc nL own nm pc (fun _ fr lo c => run M n P fr lo c)) :
    SndC g HB l M (cMth M (run M n)) := by
  intro id fr lo av h o cs rv h' mc ms o' cs' hf
  simp only [cMth] at hf
  cases hd : M id with
  | none => rw [hd] at hf; cases hf
  | some d =>
    rw [hd] at hf
    simp only at hf
    cases hb0 : Nat.ble (slen av) (mdL d) with
    | false => rw [hb0] at hf; cases hf
    | true =>
      rw [hb0] at hf
      simp only at hf
      cases hr : run M n (mdP d) fr lo (0, argsA 0 av, [], h, 0, 0, o, cs) with
      | none => rw [hr] at hf; cases hf
      | some c1 =>
        obtain ⟨pc1, L1, st1, h1, k1, z1, o1, cs1⟩ := c1
        rw [hr] at hf
        simp only at hf
        cases he : alk (mdE d) pc1 with
        | none => rw [he] at hf; cases hf
        | some kd =>
          rw [he] at hf
          simp only at hf
          cases hrv : retv (mdR d) kd st1 with
          | none => rw [hrv] at hf; cases hf
          | some rv1 =>
            rw [hrv] at hf
            cases hf
            obtain ⟨hpl, hP, hE⟩ := hM id d hd
            have hs := hrun (mdP d) (mdC d) (mdL d) (mdY d).cls (mdY d).name hP 0 fr lo (argsA 0 av) [] h 0 0 o cs pc1 L1 st1 h' mc ms o' cs' hr
            refine ⟨d, rfl, hs.1.1, fun hok => ?_⟩
            refine Met.ofW (cc := mdC d) (maxL := mdL d) (ret := mdR d) hpl rfl ?_
            intro p e s m args below meth c s₁ B hml hv
            obtain ⟨rfl, hR0, hKA⟩ := hv
            have hts0 := atoms_spec (ws := mdW d) B.pre
            have hC : Cx g HB p s m (av.map (cV g)).toArray meth c (mdC d) (mdL d) (mdY d).cls (mdY d).name :=
              ⟨⟨B.exec, B.bytes, hml, findClass_of_methodNamed B.named, fun w hw => hts0 w (List.mem_cons_of_mem _ hw)⟩, hKA, (name_of_methodNamed B.named B.method).1⟩
            have hle : (lg_sl (av.map (cV g))).length ≤ mdL d := by rw [slen_eq]; exact Nat.ble_eq.mp hb0
            have hl := lv_entry (av.map (cV g)) hle
            rw [lg_entry_eq]
            generalize (lg_sl (av.map (cV g)) ++ List.replicate (mdL d - (lg_sl (av.map (cV g))).length) Slot.unset).toArray = ls at hl ⊢
            rw [← argsA_eq] at hl
            refine hs.2 hok p e _ s m _ below meth c _ s.heap [] ls hC (Nat.le_refl fr) (Nat.le_refl lo) (Nat.le_refl mc) (Nat.le_refl ms) hR0 hl (fun H1 locs1 ls1 hR1 hl1 => ?_)
            have hq : ∀ v : Option Value, rv.map (cV g) = v → ∀ t : State, t.heap = H1 → s.WarmedH t.vm → QQ g HB rv h' (av.map (cV g)).toArray s (.returned v) t := fun v hv t ht _ => ⟨by rw [hv], by rw [ht]; exact hR1.nolocs⟩
            have hE1 := hE _ (alk_mem he)
            have hx := B.exec
            have hb := B.bytes
            have hret := B.returns
            have hlocks := B.notSynchronized
            rcases st1 with _ | ⟨a, _ | ⟨a2, r⟩⟩
            · rcases kd with _ | kd
              · cases hrv
                exact W.vret hx hb (hret.trans hE1.1) (hq none rfl) hR1.2.2.2 hE1.2 hlocks
              · cases hrv
            · rcases kd with _ | _ | _ | _ | _ | kd
              · cases hrv
              · simp only [retv] at hrv
                cases hi : isI a with
                | false => rw [hi] at hrv; cases hrv
                | true =>
                  rw [hi] at hrv
                  cases hrv
                  rw [List.map_cons, cV_I hi]
                  exact W.iret hx hb (hret.trans hE1.1) (hq _ (congrArg some (cV_I hi))) hR1.2.2.2 hE1.2 hlocks
              · rcases a with x | a
                · simp only [retv] at hrv
                  cases hty : mdR d with
                  | none => rw [hty] at hrv; cases hrv
                  | some ty =>
                    rw [hty] at hrv
                    simp only at hrv
                    cases hn : decide (narrow ty (.int (nI x)) = .int (nI x)) with
                    | false => rw [hn] at hrv; cases hrv
                    | true =>
                      rw [hn] at hrv
                      cases hrv
                      exact W.zret (v := nI x) hx hb (hret.trans hty) (of_decide_eq_true hn) (hq _ rfl) hR1.2.2.2 hE1 hlocks
                · cases hrv
              · simp only [retv] at hrv
                cases hi : isR a || isN a with
                | false => rw [hi] at hrv; cases hrv
                | true =>
                  rw [hi] at hrv
                  cases hrv
                  obtain ⟨⟨rt, hrt, hrt2⟩, hdg⟩ := hE1
                  have hv : cV g a = .null ∨ ∃ q, cV g a = .ref q := by
                    rw [Bool.or_eq_true] at hi
                    rcases hi with hi | hi
                    · exact Or.inr ⟨_, cV_R hi⟩
                    · rcases a with a | a | v
                      · cases hi
                      · cases hi
                      · cases v <;> first | cases hi | skip
                        exact Or.inl rfl
                  exact W.aret hx hb (hret.trans hrt) hrt2 hv (hq _ rfl) hR1.2.2.2 hdg hlocks
              · simp only [retv] at hrv
                cases hi : isL a with
                | false => rw [hi] at hrv; cases hrv
                | true =>
                  rw [hi] at hrv
                  cases hrv
                  rw [List.map_cons, cV_L hi]
                  exact W.lret hx hb (hret.trans hE1.1) (hq _ (congrArg some (cV_L hi))) hR1.2.2.2 hE1.2 hlocks
              · cases hrv
            · cases hrv
theorem run_ok {g : GG} {HB : Heap} {l : Launch} {M : Nat → Option MD} (hM : ∀ id d, M id = some d → MSnd g HB l M d) : ∀ (n : Nat) (P : List (Nat × FF)) (cc : ByteArray) (nL : Nat) (own nm : String), (∀ call, SndC g HB l M call → ∀ x ∈ P, Snd g HB l call cc nL own nm x.1 x.2) → ∀ (pc : Nat), Snd g HB l (cMth M (run M n)) cc nL own nm pc (fun _ fr lo c => run M n P fr lo c) := by
  intro n
  induction n with
  | zero =>
    intro P cc nL own nm hP pc fr lo L st h k z o cs pc' L' st' h' k' z' o' cs' hf
    cases hf
  | succ n ih =>
    intro P cc nL own nm hP pc fr lo L st h k z o cs pc' L' st' h' k' z' o' cs' hf
    exact run_step (run_call hM ih) ih P cc nL own nm hP pc fr lo L st h k z o cs pc' L' st' h' k' z' o' cs' hf
theorem call_ok {g : GG} {HB : Heap} {l : Launch} {M : Nat → Option MD} (hM : ∀ id d, M id = some d → MSnd g HB l M d) (n : Nat) : SndC g HB l M (cMth M (run M n)) := run_call hM (run_ok hM n)
end
section
/-! ===== BEGIN words of one list among another's, by their places ===== -/
theorem goodIn_r {big : List Cond} (ws : List Cond) (ps : List Nat) (hp : ws = ps.filterMap (fun i => big[i]?)) (h : ws.all goodWord = true) : GoodIn big ws := by
  intro w hw
  have h1 := List.all_eq_true.mp h w hw
  rw [hp] at hw
  obtain ⟨i, -, hi⟩ := List.mem_filterMap.mp hw
  have hm : w ∈ big := by first | exact List.mem_of_getElem? hi | exact List.getElem?_mem hi
  exact ⟨hm, good_of_word h1⟩
theorem goodIn_app {big a b : List Cond} (ha : GoodIn big a) (hb : GoodIn big b) : GoodIn big (a ++ b) := fun w h => (List.mem_append.mp h).elim (ha w) (hb w)
theorem goodIn_ca {big a b : List Cond} {c : Cond} (ha : GoodIn big (c :: a)) (hb : GoodIn big b) : GoodIn big (c :: (a ++ b)) := fun w h => (List.mem_cons.mp h).elim (fun e => ha w (List.mem_cons.mpr (Or.inl e))) (fun h => (List.mem_append.mp h).elim (fun h => ha w (List.mem_cons.mpr (Or.inr h))) (hb w))
theorem goodIn_sub {big ws : List Cond} (hm : ∀ w ∈ ws, w ∈ big) (h : ws.all goodWord = true) : GoodIn big ws := fun w hw => ⟨hm w hw, good_of_word (List.all_eq_true.mp h w hw)⟩
/-! ===== END ===== -/

/-! ===== BEGIN exceptions that leave a method, and their catching by the caller (launches without stack traces) ===== -/
section VXA
/-! The laws vx_back, vx_callV, vx_callS, vx_callSW, vx_throw0, vx_throwS follow proofs of the library, with one case more: JvmDerived/Free/Laws.lean (Back.of_free), Shelf42/LK1.lean (callV, callS), Shelf/KitTraced.lean (throwNew0V, throwNewS). -/
/-- where a method has thrown q: the class by its name, the cell, what was written, the world -/
def vx_T (XC : String → State → State → Prop) (st : State) (q : Addr) (t : State) (mc ms : Nat) (free : Addr → Prop) : Prop :=
  ∃ (E : String) (ce : Cell) (L : List Loc), XC E st t ∧ t.heap[q]? = some ce ∧ ce.vm = .none ∧ st.vm.findClass E = some ce.cls ∧ st.WarmedH t.vm ∧ st.sameButNew ({ t with vm := st.vm } : State) L mc ms ∧ ∀ z ∈ L, free z.base
def vx_Q (Qc : Array Value → State → Outcome → State → Prop) (XC : String → State → State → Prop) (mc ms : Nat) (free : Addr → Prop) : Array Value → State → Outcome → State → Prop := fun a st o t =>
  (Qc a st o t ∧ ∃ L, FrameEnd st o t L mc ms ∧ ∀ q ∈ L, free q.base) ∨ ∃ q, o = .threw q ∧ vx_T XC st q t mc ms free
/-- a callee that returns or throws -/
def vx_Met (l : Launch) (y : MethodName) (ws : List Cond) (rm : Room) (Pc : Array Value → State → Prop) (Qc : Array Value → State → Outcome → State → Prop) (XC : String → State → State → Prop) (mc ms : Nat) (free : Addr → Prop) : Prop :=
  MetFree l y (headSpec ws rm) Pc (fun _ _ _ _ _ => True) (vx_Q Qc XC mc ms free)
def vx_Post (XC : String → State → State → Prop) (mc ms : Nat) (free : Addr → Prop) : Pt → Array Value → Addr → Pt → Prop := fun A a q B =>
  ∃ (g : JFrame) (mk : MethodId) (t : State) (L : List Loc) (E : String) (ce : Cell), B.U.heap = t.heap ∧ B.U.vm = t.vm ∧ XC E (A.U.calling g mk a) t ∧ t.heap[q]? = some ce ∧ ce.vm = .none ∧ A.U.vm.findClass E = some ce.cls ∧ B.locs = A.locs ++ L ∧ (∀ z ∈ L, free z.base) ∧ B.cells = A.cells + mc ∧ B.slots = A.slots + ms
def vx_Back (l : Launch) (R : Room) (p : Program) (e : Env) (below : List Frame) (s : State) (sargs : Array Value) (y : MethodName) (len W9 : Nat)
    (Pre : Pt → Array Value → Prop) (Post : Pt → Array Value → Option Value → Pt → Prop) (PostX : Pt → Array Value → Addr → Pt → Prop) : Prop :=
  ∀ (m : MethodId) (meth : Method) (c : Code) (A : Pt) (g : JFrame) (ig : Instr) (mk : MethodId) (a : Array Value),
    Stand p l e R s m sargs below meth c A.U A.locs A.cells A.slots → g.method = m → g.locals.size = c.maxLocals → decode c.code g.pc = .ok (ig, len) →
    2 * g.monitorRoom + (g.stack.map fun v => v.category).sum ≤ W9 → A.U.methodNamed? y = some mk → Pre A a →
    (∃ (v : Option Value) (B : Pt), Stand p l e R s m sargs below meth c B.U B.locs B.cells B.slots ∧ Post A a v B ∧
      Steps p.tables e below (doInvoke e (A.U.setTop g) [] mk a).1 (B.U.setTop { g with pc := g.pc + len, stack := v.toList ++ g.stack })) ∨
    (∃ (q : Addr) (B : Pt), Stand p l e R s m sargs below meth c B.U B.locs B.cells B.slots ∧ PostX A a q B ∧
      Steps p.tables e below (doInvoke e (A.U.setTop g) [] mk a).1 ((B.U.setTop g).pushFrame (.throwing q)))
section Payer
variable {l : Launch} {R : Room} {p : Program} {e : Env} {below : List Frame} {s : State} {sargs : Array Value} {y : MethodName} {len W9 : Nat}
theorem vx_back {ws : List Cond} {rm : Room} {Pc : Array Value → State → Prop} {Qc : Array Value → State → Outcome → State → Prop} {XC : String → State → State → Prop} {mc ms : Nat} {free : Addr → Prop} {bytes : ByteArray} {maxL : Nat} {ret : Option FieldType}
    (hM : vx_Met l y ws rm Pc Qc XC mc ms free) (hblind : FrameBlind Pc) (hrc : rm.cells = mc) (hrs : rm.slots = ms)
    (hframes : rm.frames + 1 ≤ R.frames) (hlocals : W9 + (maxL + 11) + rm.locals ≤ R.locals)
    (hws : ∀ w ∈ ws, ∀ a' U, s.WarmedH U.vm → w.before a' U = true) (hcode : Cond.code y bytes maxL ret ∈ ws) (hinit : ∀ a' U, s.WarmedH U.vm → (Cond.initialized y.cls).before a' U = true) :
    vx_Back l R p e below s sargs y len W9 (PreOf R mc ms Pc) (PostOf Qc mc ms free) (vx_Post XC mc ms free) := by
  intro m meth c A g ig mk a X hg hsize hdg hW hn hp
  have h1 : (headSpec ws rm).pre.before a A.U = true := atoms_intro fun w hw => hws w hw _ _ X.warmed
  have h2 : (Cond.code y bytes maxL ret).before a A.U = true := hws _ hcode _ _ X.warmed
  have h3 : (Cond.initialized y.cls).before a A.U = true := hinit _ _ X.warmed
  have h4 : A.cells + (headSpec ws rm).room.cells ≤ R.cells := by rw [show (headSpec ws rm).room.cells = mc from hrc]; exact hp.1
  have h5 : A.slots + (headSpec ws rm).room.slots ≤ R.slots := by rw [show (headSpec ws rm).room.slots = ms from hrs]; exact hp.2.1
  have hPc : Pc a (A.U.calling g mk a) := hblind _ _ _ _ hp.2.2
  obtain ⟨U, Ls, c0, s0⟩ := A
  dsimp only [Pt.U, Pt.locs, Pt.cells, Pt.slots] at h1 h2 h3 h4 h5 X hn hPc ⊢
  obtain ⟨methY, cY, hmY, hcY, -, hlY, -, -, -, -⟩ := Cond.code_spec hn h2
  obtain ⟨kY, hkY, -⟩ := className_of_methodNamed hn
  have hinitY : kY.init = .initialized := Cond.initialized_spec (findClass_of_methodNamed hn) hkY h3
  have h : At U g.method c below := by rw [hg]; exact X.here
  have hlocals9 : W9 + (maxL + 11) + (headSpec ws rm).room.locals ≤ R.locals := hlocals
  have happ : (headSpec ws rm).appliesLoose y e.platform (U.calling g mk a) = true :=
    Spec.appliesLoose_calling (g := g) h hdg hn hkY hinitY
      (X.room_calling (g := g) (R' := (headSpec ws rm).room) hsize hmY hcY hframes (by rw [hlY]; omega) h4 h5) h1
  obtain ⟨mid, hmid⟩ := h.above
  have hfr : (U.setTop g).frames = (.java g :: mid) ++ below := by rw [State.frames_setTop' g h.top, hmid]; rfl
  obtain ⟨o, s₂, hsteps, -, hend, hq⟩ := Steps.callFree hM p X.admits X.cas X.clock (acts := []) hfr happ hPc trivial
  have hq' : vx_Q Qc XC mc ms free a (U.calling g mk a) o s₂ := hq
  rw [State.frames_setTop' g h.top] at hend
  obtain ⟨g₀, hg0⟩ := Option.isSome_iff_exists.mp h.top
  obtain ⟨r, hr⟩ := State.topJava?_eq_some.mp hg0
  have hr' : (({ U with heap := s₂.heap, slotsUsed := s₂.slotsUsed } : State).setVm s₂.vm).frames = .java g₀ :: r := hr
  rcases hq' with ⟨hqc, L, hfe, hL⟩ | ⟨q, rfl, E, ce, L, hx, hce, hcv, hcl, hW₂, hsm, hL⟩
  · obtain ⟨⟨v, rfl⟩, hW₂, e2, q2, q3, q4, q5, q6⟩ := id hfe
    have e3 : s₂ = ({ (U.calling g mk a).setFrames s₂.frames with heap := s₂.heap, slotsUsed := s₂.slotsUsed } : State).setVm s₂.vm := by
      have : s₂ = ({ s₂ with vm := (U.calling g mk a).vm } : State).setVm s₂.vm := rfl
      rw [e2] at this
      exact this
    obtain ⟨c₂, i₂, len₂, hc₂, hd₂, hf₂⟩ := hend
    have hW' : U.WarmedH s₂.vm := hW₂
    have hcc : c₂ = c := by
      have h1 : s₂.code? g.method = U.code? g.method := by
        rw [State.code?_eq, State.code?_eq, hW'.alike.method?]
      exact Option.some.inj (hc₂.symm.trans (h1.trans h.code))
    subst hcc
    have hlen : len₂ = len := by rw [hdg] at hd₂; cases hd₂; rfl
    subst hlen
    have hs₂ : s₂ = (({ U with heap := s₂.heap, slotsUsed := s₂.slotsUsed } : State).setVm s₂.vm).setTop { g with pc := g.pc + len₂, stack := v.toList ++ g.stack } := by
      refine e3.trans ?_
      rw [hf₂, State.calling_eq h.top, State.setFrames_setFrames, State.setTop_of_frames _ hr', hr]
      rfl
    have hsame : U.sameButNew ({ U with heap := s₂.heap, slotsUsed := s₂.slotsUsed } : State) L mc ms := by
      refine ⟨?_, q2, q3, q4, q5, q6⟩
      obtain ⟨t, ht, -⟩ := State.frames_cons hr
      show ({ U with heap := s₂.heap, slotsUsed := s₂.slotsUsed } : State) = { U.setFrames U.frames with heap := s₂.heap, slotsUsed := s₂.slotsUsed }
      rw [State.setFrames_self ht]
    subst hg
    refine Or.inl ⟨v, ⟨(({ U with heap := s₂.heap, slotsUsed := s₂.slotsUsed } : State).setVm s₂.vm), Ls ++ L, c0 + mc, s0 + ms⟩,
      ⟨X.admits, X.cas, X.clock, X.frames, X.room, X.hears, X.method, X.code, (X.here.setHeapUsed s₂.heap s₂.slotsUsed).setVm hW'.alike, X.tail, State.WarmedH.trans X.warmed hW', X.limits, X.bytes, X.same.trans (hsame.setVm s.vm)⟩,
      ⟨g, mk, s₂, L, rfl, rfl, hqc, rfl, hL, rfl, rfl⟩, ?_⟩
    show Steps p.tables e below _ ((({ U with heap := s₂.heap, slotsUsed := s₂.slotsUsed } : State).setVm s₂.vm).setTop { g with pc := g.pc + len₂, stack := v.toList ++ g.stack })
    rw [← hs₂]
    exact hsteps
  · obtain ⟨e2, q2, q3, q4, q5, q6⟩ := id hsm
    have e3 : s₂ = ({ (U.calling g mk a).setFrames s₂.frames with heap := s₂.heap, slotsUsed := s₂.slotsUsed } : State).setVm s₂.vm := by
      have : s₂ = ({ s₂ with vm := (U.calling g mk a).vm } : State).setVm s₂.vm := rfl
      rw [e2] at this
      exact this
    have hf₂ : s₂.frames = .throwing q :: .java g :: U.frames.tail := hend
    have hW' : U.WarmedH s₂.vm := hW₂
    have hs₂ : s₂ = ((({ U with heap := s₂.heap, slotsUsed := s₂.slotsUsed } : State).setVm s₂.vm).setTop g).pushFrame (.throwing q) := by
      refine e3.trans ?_
      rw [hf₂, State.calling_eq h.top, State.setFrames_setFrames, State.pushFrame, State.frames_setTop _ hr', State.setTop_of_frames _ hr', State.setFrames_setFrames, hr]
      rfl
    have hsame : U.sameButNew ({ U with heap := s₂.heap, slotsUsed := s₂.slotsUsed } : State) L mc ms := by
      refine ⟨?_, q2, q3, q4, q5, q6⟩
      obtain ⟨t, ht, -⟩ := State.frames_cons hr
      show ({ U with heap := s₂.heap, slotsUsed := s₂.slotsUsed } : State) = { U.setFrames U.frames with heap := s₂.heap, slotsUsed := s₂.slotsUsed }
      rw [State.setFrames_self ht]
    subst hg
    refine Or.inr ⟨q, ⟨(({ U with heap := s₂.heap, slotsUsed := s₂.slotsUsed } : State).setVm s₂.vm), Ls ++ L, c0 + mc, s0 + ms⟩,
      ⟨X.admits, X.cas, X.clock, X.frames, X.room, X.hears, X.method, X.code, (X.here.setHeapUsed s₂.heap s₂.slotsUsed).setVm hW'.alike, X.tail, State.WarmedH.trans X.warmed hW', X.limits, X.bytes, X.same.trans (hsame.setVm s.vm)⟩,
      ⟨g, mk, s₂, L, E, ce, rfl, rfl, hx, hce, hcv, hcl, rfl, hL, rfl, rfl⟩, ?_⟩
    show Steps p.tables e below _ (((({ U with heap := s₂.heap, slotsUsed := s₂.slotsUsed } : State).setVm s₂.vm).setTop g).pushFrame (.throwing q))
    rw [← hs₂]
    exact hsteps
end Payer
section Calls
variable {p : Program} {l : Launch} {e : Env} {R : Room} {s : State} {m : MethodId} {args : Array Value} {below : List Frame} {meth : Method} {c : Code} {T : State} {locs : List Loc} {cells slots : Nat}
theorem vx_callV (X : Stand p l e R s m args below meth c T locs cells slots) (hexec : p.tables.exec = Jvm.exec) {own C : String} {index : Nat} {y : MethodName} {bytes : ByteArray} {maxL : Nat} {ret : Option FieldType}
    (hown : s.vm.findClass own = some m.cls) (hlink : (Cond.methodLink own index y).before args s = true) (hinst : (Cond.instanceMethod y).before args s = true) (hsel : (Cond.selects C y y).before args s = true)
    (hcode : (Cond.code y bytes maxL ret).before args s = true) (hy : y.cls ≠ "java/lang/invoke/MethodHandle" ∧ y.cls ≠ "java/lang/invoke/VarHandle")
    {W9 : Nat} {Pre : Pt → Array Value → Prop} {Post : Pt → Array Value → Option Value → Pt → Prop} {PostX : Pt → Array Value → Addr → Pt → Prop} (hK : vx_Back l R p e below s args y 3 W9 Pre Post PostX)
    {b : Addr} {cellB : Cell} (hcell : T.heap[b]? = some cellB) (hobj : cellB.vm.isStatics = false) (hcls : s.vm.findClass C = some cellB.cls)
    {g : JFrame} (hg : g.method = m) (hsize : g.locals.size = c.maxLocals) {argsL rest : List Value} (hlen : ∀ sig, parseMethodDescriptor y.desc = some sig → argsL.length = sig.parameters.length)
    (hstack : g.stack = argsL.reverse ++ .ref b :: rest) (hW : 2 * g.monitorRoom + (rest.map fun v => v.category).sum ≤ W9) (hdg : decode c.code g.pc = .ok (.invokevirtual index, 3))
    (hpre : ∀ vm₁, s.WarmedH vm₁ → Pre ⟨T.setVm vm₁, locs, cells, slots⟩ (Value.ref b :: argsL).toArray) :
    (∃ (v : Option Value) (vm₁ : Vm) (B : Pt), s.WarmedH vm₁ ∧ Stand p l e R s m args below meth c B.U B.locs B.cells B.slots ∧ Post ⟨T.setVm vm₁, locs, cells, slots⟩ (Value.ref b :: argsL).toArray v B ∧
      ∀ target, Steps p.tables e below (B.U.setTop { g with pc := g.pc + 3, stack := v.toList ++ rest }) target → Steps p.tables e below (T.setTop g) target) ∨
    (∃ (q : Addr) (vm₁ : Vm) (B : Pt), s.WarmedH vm₁ ∧ Stand p l e R s m args below meth c B.U B.locs B.cells B.slots ∧ PostX ⟨T.setVm vm₁, locs, cells, slots⟩ (Value.ref b :: argsL).toArray q B ∧
      Steps p.tables e below (T.setTop g) ((B.U.setTop { g with stack := rest }).pushFrame (.throwing q))) := by
  obtain ⟨mk, methM, hnamed, hmethM, hstM, habM⟩ := Cond.instanceMethod_spec hinst
  obtain ⟨methM', cM, hmethM', -, -, -, -, -, -, hsigM⟩ := Cond.code_spec hnamed hcode
  cases hmethM.symm.trans hmethM'
  obtain ⟨c2, r2, m2, q1, q2, q3, q4, kP, hkP, hkPi⟩ := Cond.selects_spec hsel
  cases hcls.symm.trans q1
  cases (State.methodFound?_of_named hnamed hy).symm.trans q2
  cases hnamed.symm.trans q3
  have hselP : selectMethod e.platform s.vm cellB.cls mk = .method mk := by rw [Launch.admits_selectMethod X.admits]; exact q4
  obtain ⟨vm₁, X₁, hstep₁⟩ := X.invokevirtual hexec hown hlink hnamed hmethM hstM hkP hkPi hy (a := b) (cell := cellB) hcell
    (fun z h => by rw [h] at hobj; cases hobj) hselP hmethM habM hkP hkPi (g := g) hg (argsL := argsL) (rest := rest) (hlen _ hsigM) hstack hdg
  rcases hK m meth c ⟨T.setVm vm₁, locs, cells, slots⟩ { g with stack := rest } (.invokevirtual index) mk (Value.ref b :: argsL).toArray X₁ hg hsize hdg hW (X₁.named hnamed) (hpre vm₁ X₁.warmed) with ⟨v, B, X', hpost, hsteps⟩ | ⟨q, B, X', hpost, hsteps⟩
  · exact Or.inl ⟨v, vm₁, B, X₁.warmed, X', hpost, fun target h => hstep₁ _ fun acts => by rw [doInvoke_state]; exact hsteps.trans h⟩
  · exact Or.inr ⟨q, vm₁, B, X₁.warmed, X', hpost, hstep₁ _ fun acts => by rw [doInvoke_state]; exact hsteps⟩
theorem vx_callS (X : Stand p l e R s m args below meth c T locs cells slots) (hexec : p.tables.exec = Jvm.exec) {own : String} {index : Nat} {y : MethodName} {bytes : ByteArray} {maxL : Nat} {ret : Option FieldType}
    (hown : s.vm.findClass own = some m.cls) (hlink : (Cond.methodLink own index y).before args s = true) (hstat : (Cond.static y).before args s = true) (hinit : (Cond.initialized y.cls).before args s = true)
    (hcode : (Cond.code y bytes maxL ret).before args s = true) (hy : y.cls ≠ "java/lang/invoke/MethodHandle" ∧ y.cls ≠ "java/lang/invoke/VarHandle")
    {W9 : Nat} {Pre : Pt → Array Value → Prop} {Post : Pt → Array Value → Option Value → Pt → Prop} {PostX : Pt → Array Value → Addr → Pt → Prop} (hK : vx_Back l R p e below s args y 3 W9 Pre Post PostX)
    {g : JFrame} (hg : g.method = m) (hsize : g.locals.size = c.maxLocals) {argsL rest : List Value} (hlen : ∀ sig, parseMethodDescriptor y.desc = some sig → argsL.length = sig.parameters.length)
    (hstack : g.stack = argsL.reverse ++ rest) (hW : 2 * g.monitorRoom + (rest.map fun v => v.category).sum ≤ W9) (hdg : decode c.code g.pc = .ok (.invokestatic index, 3))
    (hpre : ∀ vm₁, s.WarmedH vm₁ → Pre ⟨T.setVm vm₁, locs, cells, slots⟩ argsL.toArray) :
    (∃ (v : Option Value) (vm₁ : Vm) (B : Pt), s.WarmedH vm₁ ∧ Stand p l e R s m args below meth c B.U B.locs B.cells B.slots ∧ Post ⟨T.setVm vm₁, locs, cells, slots⟩ argsL.toArray v B ∧
      ∀ target, Steps p.tables e below (B.U.setTop { g with pc := g.pc + 3, stack := v.toList ++ rest }) target → Steps p.tables e below (T.setTop g) target) ∨
    (∃ (q : Addr) (vm₁ : Vm) (B : Pt), s.WarmedH vm₁ ∧ Stand p l e R s m args below meth c B.U B.locs B.cells B.slots ∧ PostX ⟨T.setVm vm₁, locs, cells, slots⟩ argsL.toArray q B ∧
      Steps p.tables e below (T.setTop g) ((B.U.setTop { g with stack := rest }).pushFrame (.throwing q))) := by
  obtain ⟨mk, hnamed⟩ := Cond.code_named hcode
  obtain ⟨methM, cM, hmethM, -, -, -, -, -, -, hsigM⟩ := Cond.code_spec hnamed hcode
  have hstatic : methM.isStatic = true := Cond.static_spec hnamed hmethM hstat
  obtain ⟨kP, hkP, -⟩ := className_of_methodNamed hnamed
  have hinitP : kP.init = .initialized := Cond.initialized_spec (findClass_of_methodNamed hnamed) hkP hinit
  obtain ⟨vm₁, X₁, hstep₁⟩ := X.invokestatic hexec hown hlink hnamed hmethM hstatic hkP hinitP hy (g := g) hg (argsL := argsL) (rest := rest) (hlen _ hsigM) hstack hdg
  rcases hK m meth c ⟨T.setVm vm₁, locs, cells, slots⟩ { g with stack := rest } (.invokestatic index) mk argsL.toArray X₁ hg hsize hdg hW (X₁.named hnamed) (hpre vm₁ X₁.warmed) with ⟨v, B, X', hpost, hsteps⟩ | ⟨q, B, X', hpost, hsteps⟩
  · exact Or.inl ⟨v, vm₁, B, X₁.warmed, X', hpost, fun target h => hstep₁ _ fun acts => by rw [doInvoke_state]; exact hsteps.trans h⟩
  · exact Or.inr ⟨q, vm₁, B, X₁.warmed, X', hpost, hstep₁ _ fun acts => by rw [doInvoke_state]; exact hsteps⟩
end Calls
theorem vx_cls {s : State} {T : State} {vm₁ : Vm} {E : String} {k : ClassId} (hW : s.WarmedH vm₁) (h : (T.setVm vm₁).vm.findClass E = some k) : s.vm.findClass E = some k := by
  have h1 : vm₁.findClass E = some k := h
  rw [hW.alike.findClass] at h1
  exact h1
/-- the method's frame g, with q thrown over it -/
def vx_W (p : Program) (l : Launch) (e : Env) (R : Room) (s : State) (m : MethodId) (args : Array Value) (below : List Frame) (meth : Method) (c : Code) (H : Heap) (locs : List Loc) (cells slots : Nat) (Q : State → Prop) (g : JFrame) (q : Addr) : Prop :=
  ∀ T : State, T.heap = H → Stand p l e R s m args below meth c T locs cells slots → ∃ t, Steps p.tables e below ((T.setTop g).pushFrame (.throwing q)) t ∧ Q t
def vx_Run (p : Program) (l : Launch) (e : Env) (R : Room) (s : State) (m : MethodId) (args : Array Value) (below : List Frame) (meth : Method) (c : Code) (H : Heap) (locs : List Loc) (cells slots mc ms : Nat) (g : JFrame) (rest : List Value) (Qa : State → Outcome → State → Prop) (XC : String → State → State → Prop) (free : Addr → Prop) : Prop :=
  ∀ T : State, T.heap = H → Stand p l e R s m args below meth c T locs cells slots →
    (∃ (v : Option Value) (st₀ t T' : State) (L : List Loc), st₀.heap = H ∧ Stand p l e R s m args below meth c T' (locs ++ L) (cells + mc) (slots + ms) ∧ (∀ q ∈ L, free q.base) ∧ T'.heap = t.heap ∧ T'.vm = t.vm ∧ Qa st₀ (.returned v) t ∧
      Goes p e below T g T' { g with pc := g.pc + 3, stack := v.toList ++ rest }) ∨
    (∃ (q : Addr) (st₀ t T' : State) (L : List Loc) (E : String) (ce : Cell), st₀.heap = H ∧ Stand p l e R s m args below meth c T' (locs ++ L) (cells + mc) (slots + ms) ∧ (∀ z ∈ L, free z.base) ∧ T'.heap = t.heap ∧ T'.vm = t.vm ∧ XC E st₀ t ∧ t.heap[q]? = some ce ∧ ce.vm = .none ∧ s.vm.findClass E = some ce.cls ∧
      Steps p.tables e below (T.setTop g) ((T'.setTop { g with stack := rest }).pushFrame (.throwing q)))
def vx_X {S : Type} (px : S → Prop) (B : String → S → State → Prop) (A : Nat → Prop) : String → State → State → Prop := fun E st t => ∃ u : S, px u ∧ B E u t ∧ va_F A st t
section Runs
variable {p : Program} {l : Launch} {e : Env} {R : Room} {s : State} {m : MethodId} {args : Array Value} {below : List Frame} {meth : Method} {c : Code} {H : Heap} {locs : List Loc} {cells slots : Nat}
variable {y : MethodName} {bytes cc : ByteArray} {maxL nL mc ms n index : Nat} {ret : Option FieldType} {ws : List Cond} {rm : Room} {Pc : Array Value → State → Prop} {Qc : Array Value → State → Outcome → State → Prop} {XC : String → State → State → Prop} {free : Addr → Prop} {Ts : List Cond} {own C : String} {b : Addr} {As rest : List Value} {g : JFrame}
theorem vx_callBack (cb : CallB R s args own index y bytes maxL ret ws rm mc ms n) (hM : vx_Met l y ws rm Pc Qc XC mc ms free) (hbl : FrameBlind Pc) : vx_Back l R p e below s args y 3 8 (PreOf R mc ms Pc) (PostOf Qc mc ms free) (vx_Post XC mc ms free) := by
  obtain ⟨hrc, hrs, hfr, hlo, hws, hcw, -, hini, -⟩ := cb
  exact vx_back (bytes := bytes) (maxL := maxL) (ret := ret) hM hbl hrc hrs hfr hlo hws hcw (fun a' U hW => word_at hW (Or.inl (by first | rfl | simp [Cond.onTables, Cond.keeps, Cond.steady])) hini)
theorem vx_runV (S : CallFix p m c cc nL s args Ts own) (hM : vx_Met l y ws rm Pc Qc XC mc ms free) (cw : CallW R s args own C index y bytes maxL ret ws rm mc ms n) (hp : PreV s H C b Pc As)
    (hg : g.method = m) (hn : As.length = n) (hsize : g.locals.size = nL) (hstack : g.stack = As.reverse ++ .ref b :: rest) (hW : 2 * g.monitorRoom + (rest.map fun v => v.category).sum ≤ 8) (hdg : decode cc g.pc = .ok (.invokevirtual index, 3)) (hf : cells + mc ≤ R.cells ∧ slots + ms ≤ R.slots) :
    vx_Run p l e R s m args below meth c H locs cells slots mc ms g rest (Qc (Value.ref b :: As).toArray) XC free := by
  have hK : vx_Back l R p e below s args y 3 8 (PreOf R mc ms Pc) (PostOf Qc mc ms free) (vx_Post XC mc ms free) := vx_callBack cw.1 hM hp.1
  obtain ⟨⟨-, -, -, -, -, -, hcode, -, hy, hlen, hl⟩, hin, hse⟩ := cw
  obtain ⟨hx, hb, hml, ho, -⟩ := S
  obtain ⟨-, ⟨cellB, hcB, hoB, hclB⟩, hPc⟩ := hp
  intro T hT X
  rcases vx_callV X hx (C := C) (bytes := bytes) (maxL := maxL) (ret := ret) ho hl hin hse hcode hy hK (by rw [hT]; exact hcB) hoB hclB hg (hsize.trans hml.symm) (argsL := As) (rest := rest) (fun sig h => hn.trans (hlen sig h)) hstack hW (by rw [hb]; exact hdg)
    (fun vm₁ hW₁ => ⟨hf.1, hf.2, hPc (T.setVm vm₁) hT hW₁⟩) with ⟨v, vm₁, ⟨U', l2, c2, s2⟩, hW₁, X', ⟨g', mk, t, L, e1, e2, hq, h1, hL, h2, h3⟩, st⟩ | ⟨q, vm₁, ⟨U', l2, c2, s2⟩, hW₁, X', ⟨g', mk, t, L, E, ce, e1, e2, hq, hce, hcv, hcl, h1, hL, h2, h3⟩, st⟩
  · dsimp only [Pt.U, Pt.locs, Pt.cells, Pt.slots] at X' e1 e2 h1 h2 h3 st
    subst h1; subst h2; subst h3
    exact Or.inl ⟨v, (T.setVm vm₁).calling g' mk (Value.ref b :: As).toArray, t, U', L, hT, X', hL, e1, e2, hq, st⟩
  · dsimp only [Pt.U, Pt.locs, Pt.cells, Pt.slots] at X' e1 e2 h1 h2 h3 st hcl
    subst h1; subst h2; subst h3
    exact Or.inr ⟨q, (T.setVm vm₁).calling g' mk (Value.ref b :: As).toArray, t, U', L, E, ce, hT, X', hL, e1, e2, hq, hce, hcv, vx_cls hW₁ hcl, st⟩
theorem vx_runS (S : CallFix p m c cc nL s args Ts own) (hM : vx_Met l y ws rm Pc Qc XC mc ms free) (cw : CallB R s args own index y bytes maxL ret ws rm mc ms n ∧ (Cond.static y).before args s = true) (hp : PreS s H Pc As)
    (hg : g.method = m) (hn : As.length = n) (hsize : g.locals.size = nL) (hstack : g.stack = As.reverse ++ rest) (hW : 2 * g.monitorRoom + (rest.map fun v => v.category).sum ≤ 8) (hdg : decode cc g.pc = .ok (.invokestatic index, 3)) (hf : cells + mc ≤ R.cells ∧ slots + ms ≤ R.slots) :
    vx_Run p l e R s m args below meth c H locs cells slots mc ms g rest (Qc As.toArray) XC free := by
  have hK : vx_Back l R p e below s args y 3 8 (PreOf R mc ms Pc) (PostOf Qc mc ms free) (vx_Post XC mc ms free) := vx_callBack cw.1 hM hp.1
  obtain ⟨⟨-, -, -, -, -, -, hcode, hini, hy, hlen, hl⟩, hstt⟩ := cw
  obtain ⟨hx, hb, hml, ho, -⟩ := S
  intro T hT X
  rcases vx_callS X hx (bytes := bytes) (maxL := maxL) (ret := ret) ho hl hstt hini hcode hy hK hg (hsize.trans hml.symm) (argsL := As) (rest := rest) (fun sig h => hn.trans (hlen sig h)) hstack hW (by rw [hb]; exact hdg)
    (fun vm₁ hW₁ => ⟨hf.1, hf.2, hp.2 (T.setVm vm₁) hT hW₁⟩) with ⟨v, vm₁, ⟨U', l2, c2, s2⟩, hW₁, X', ⟨g', mk, t, L, e1, e2, hq, h1, hL, h2, h3⟩, st⟩ | ⟨q, vm₁, ⟨U', l2, c2, s2⟩, hW₁, X', ⟨g', mk, t, L, E, ce, e1, e2, hq, hce, hcv, hcl, h1, hL, h2, h3⟩, st⟩
  · dsimp only [Pt.U, Pt.locs, Pt.cells, Pt.slots] at X' e1 e2 h1 h2 h3 st
    subst h1; subst h2; subst h3
    exact Or.inl ⟨v, (T.setVm vm₁).calling g' mk As.toArray, t, U', L, hT, X', hL, e1, e2, hq, st⟩
  · dsimp only [Pt.U, Pt.locs, Pt.cells, Pt.slots] at X' e1 e2 h1 h2 h3 st hcl
    subst h1; subst h2; subst h3
    exact Or.inr ⟨q, (T.setVm vm₁).calling g' mk As.toArray, t, U', L, E, ce, hT, X', hL, e1, e2, hq, hce, hcv, vx_cls hW₁ hcl, st⟩
end Runs
section Rows
variable {p : Program} {l : Launch} {e : Env} {R : Room} {s : State} {m : MethodId} {args : Array Value} {below : List Frame} {meth : Method} {c : Code} {H : Heap} {locs : List Loc} {cells slots : Nat} {Q : State → Prop}
variable {mc ms : Nat} {free : Addr → Prop} {A0 A1 : Nat → Prop} {H0 : Heap} {a : Array Value} {pc : Nat} {ls : Array Slot} {st0 rest : List Value}
theorem vx_keep {st₀ t T' : State} {L : List Loc} (h0 : st₀.heap = H) (e1 : T'.heap = t.heap) (hS : va_S A0 H0 H locs) (hA : ∀ q, q < H.size → A1 q → A0 q) (hf : ∀ q, free q → A0 q) (hL : ∀ q ∈ L, free q.base) (hF : va_F A1 st₀ t) :
    H.size ≤ T'.heap.size ∧ (∀ q : Nat, q < H.size → ¬ A1 q → T'.heap[q]? = H[q]?) ∧ va_S A0 H0 T'.heap (locs ++ L) := by
  obtain ⟨hz, hk⟩ := hF
  rw [h0] at hz hk
  exact ⟨by rw [e1]; exact hz, fun q h1 h2 => by rw [e1]; exact hk q h1 h2,
    ⟨Nat.le_trans hS.1 (by rw [e1]; exact hz), fun q h1 h2 => by rw [e1, hk q (Nat.lt_of_lt_of_le h1 hS.1) (fun z => h2 (hA q (Nat.lt_of_lt_of_le h1 hS.1) z))]; exact hS.2.1 q h1 h2, fun q hq => by
      rcases List.mem_append.mp hq with h | h
      · exact hS.2.2 q h
      · exact hf _ (hL q h)⟩⟩
theorem vx_calli {S SX : Type} {post : Int32 → S → Prop} {px : SX → Prop} {B : S → State → Prop} {BX : String → SX → State → Prop} {AX : Nat → Prop} (hr : vx_Run p l e R s m args below meth c H locs cells slots mc ms (F0 m pc ls st0) rest (va_Qi post B A1 a) (vx_X px BX AX) free) (hS : va_S A0 H0 H locs) (hA : ∀ q, q < H.size → A1 q → A0 q) (hf : ∀ q, free q → A0 q) (hAX : ∀ q, q < H.size → AX q → A0 q)
    (kx : ∀ (E : String) (ce : Cell) (q9 : Addr) (u : SX) (t : State) (H1 : Heap) (locs1 : List Loc), t.heap = H1 → s.vm.Alike t.vm → px u → BX E u t → H.size ≤ H1.size → (∀ q : Nat, q < H.size → ¬ AX q → H1[q]? = H[q]?) → va_S A0 H0 H1 locs1 → H1[q9]? = some ce → ce.vm = .none → s.vm.findClass E = some ce.cls → vx_W p l e R s m args below meth c H1 locs1 (cells + mc) (slots + ms) Q (F0 m pc ls rest) q9)
    (kk : ∀ (r : Int32) (u : S) (t : State) (H1 : Heap) (locs1 : List Loc), t.heap = H1 → s.vm.Alike t.vm → post r u → B u t → H.size ≤ H1.size → (∀ q : Nat, q < H.size → ¬ A1 q → H1[q]? = H[q]?) → va_S A0 H0 H1 locs1 → W p l e R s m args below meth c H1 locs1 (cells + mc) (slots + ms) Q (F0 m (pc + 3) ls (.int r :: rest))) : W p l e R s m args below meth c H locs cells slots Q (F0 m pc ls st0) := by
  intro T hT X
  rcases hr T hT X with ⟨v, st₀, t, T', L, h0, X', hL, e1, e2, ⟨⟨r, u, hv, hp, hb⟩, hF⟩, st⟩ | ⟨q, st₀, t, T', L, E, ce, h0, X', hL, e1, e2, ⟨u, hp, hb, hF⟩, hce, hcv, hcl, st⟩
  · cases hv
    obtain ⟨k1, k2, k3⟩ := vx_keep h0 e1 hS hA hf hL hF
    obtain ⟨t2, a1, b1⟩ := kk r u t T'.heap (locs ++ L) e1.symm (by rw [← e2]; exact X'.warmed.alike) hp hb k1 k2 k3 T' rfl X'
    exact ⟨t2, st t2 a1, b1⟩
  · obtain ⟨k1, k2, k3⟩ := vx_keep h0 e1 hS hAX hf hL hF
    obtain ⟨t2, a1, b1⟩ := kx E ce q u t T'.heap (locs ++ L) e1.symm (by rw [← e2]; exact X'.warmed.alike) hp hb k1 k2 k3 (by rw [e1]; exact hce) hcv hcl T' rfl X'
    exact ⟨t2, st.trans a1, b1⟩
theorem vx_calll {S SX : Type} {post : Int64 → S → Prop} {px : SX → Prop} {B : S → State → Prop} {BX : String → SX → State → Prop} {AX : Nat → Prop} (hr : vx_Run p l e R s m args below meth c H locs cells slots mc ms (F0 m pc ls st0) rest (va_Ql post B A1 a) (vx_X px BX AX) free) (hS : va_S A0 H0 H locs) (hA : ∀ q, q < H.size → A1 q → A0 q) (hf : ∀ q, free q → A0 q) (hAX : ∀ q, q < H.size → AX q → A0 q)
    (kx : ∀ (E : String) (ce : Cell) (q9 : Addr) (u : SX) (t : State) (H1 : Heap) (locs1 : List Loc), t.heap = H1 → s.vm.Alike t.vm → px u → BX E u t → H.size ≤ H1.size → (∀ q : Nat, q < H.size → ¬ AX q → H1[q]? = H[q]?) → va_S A0 H0 H1 locs1 → H1[q9]? = some ce → ce.vm = .none → s.vm.findClass E = some ce.cls → vx_W p l e R s m args below meth c H1 locs1 (cells + mc) (slots + ms) Q (F0 m pc ls rest) q9)
    (kk : ∀ (r : Int64) (u : S) (t : State) (H1 : Heap) (locs1 : List Loc), t.heap = H1 → s.vm.Alike t.vm → post r u → B u t → H.size ≤ H1.size → (∀ q : Nat, q < H.size → ¬ A1 q → H1[q]? = H[q]?) → va_S A0 H0 H1 locs1 → W p l e R s m args below meth c H1 locs1 (cells + mc) (slots + ms) Q (F0 m (pc + 3) ls (.long r :: rest))) : W p l e R s m args below meth c H locs cells slots Q (F0 m pc ls st0) := by
  intro T hT X
  rcases hr T hT X with ⟨v, st₀, t, T', L, h0, X', hL, e1, e2, ⟨⟨r, u, hv, hp, hb⟩, hF⟩, st⟩ | ⟨q, st₀, t, T', L, E, ce, h0, X', hL, e1, e2, ⟨u, hp, hb, hF⟩, hce, hcv, hcl, st⟩
  · cases hv
    obtain ⟨k1, k2, k3⟩ := vx_keep h0 e1 hS hA hf hL hF
    obtain ⟨t2, a1, b1⟩ := kk r u t T'.heap (locs ++ L) e1.symm (by rw [← e2]; exact X'.warmed.alike) hp hb k1 k2 k3 T' rfl X'
    exact ⟨t2, st t2 a1, b1⟩
  · obtain ⟨k1, k2, k3⟩ := vx_keep h0 e1 hS hAX hf hL hF
    obtain ⟨t2, a1, b1⟩ := kx E ce q u t T'.heap (locs ++ L) e1.symm (by rw [← e2]; exact X'.warmed.alike) hp hb k1 k2 k3 (by rw [e1]; exact hce) hcv hcl T' rfl X'
    exact ⟨t2, st.trans a1, b1⟩
theorem vx_callf {S SX : Type} {post : UInt32 → S → Prop} {px : SX → Prop} {B : S → State → Prop} {BX : String → SX → State → Prop} {AX : Nat → Prop} (hr : vx_Run p l e R s m args below meth c H locs cells slots mc ms (F0 m pc ls st0) rest (va_Qf post B A1 a) (vx_X px BX AX) free) (hS : va_S A0 H0 H locs) (hA : ∀ q, q < H.size → A1 q → A0 q) (hf : ∀ q, free q → A0 q) (hAX : ∀ q, q < H.size → AX q → A0 q)
    (kx : ∀ (E : String) (ce : Cell) (q9 : Addr) (u : SX) (t : State) (H1 : Heap) (locs1 : List Loc), t.heap = H1 → s.vm.Alike t.vm → px u → BX E u t → H.size ≤ H1.size → (∀ q : Nat, q < H.size → ¬ AX q → H1[q]? = H[q]?) → va_S A0 H0 H1 locs1 → H1[q9]? = some ce → ce.vm = .none → s.vm.findClass E = some ce.cls → vx_W p l e R s m args below meth c H1 locs1 (cells + mc) (slots + ms) Q (F0 m pc ls rest) q9)
    (kk : ∀ (r : UInt32) (u : S) (t : State) (H1 : Heap) (locs1 : List Loc), t.heap = H1 → s.vm.Alike t.vm → post r u → B u t → H.size ≤ H1.size → (∀ q : Nat, q < H.size → ¬ A1 q → H1[q]? = H[q]?) → va_S A0 H0 H1 locs1 → W p l e R s m args below meth c H1 locs1 (cells + mc) (slots + ms) Q (F0 m (pc + 3) ls (.float r :: rest))) : W p l e R s m args below meth c H locs cells slots Q (F0 m pc ls st0) := by
  intro T hT X
  rcases hr T hT X with ⟨v, st₀, t, T', L, h0, X', hL, e1, e2, ⟨⟨r, u, hv, hp, hb⟩, hF⟩, st⟩ | ⟨q, st₀, t, T', L, E, ce, h0, X', hL, e1, e2, ⟨u, hp, hb, hF⟩, hce, hcv, hcl, st⟩
  · cases hv
    obtain ⟨k1, k2, k3⟩ := vx_keep h0 e1 hS hA hf hL hF
    obtain ⟨t2, a1, b1⟩ := kk r u t T'.heap (locs ++ L) e1.symm (by rw [← e2]; exact X'.warmed.alike) hp hb k1 k2 k3 T' rfl X'
    exact ⟨t2, st t2 a1, b1⟩
  · obtain ⟨k1, k2, k3⟩ := vx_keep h0 e1 hS hAX hf hL hF
    obtain ⟨t2, a1, b1⟩ := kx E ce q u t T'.heap (locs ++ L) e1.symm (by rw [← e2]; exact X'.warmed.alike) hp hb k1 k2 k3 (by rw [e1]; exact hce) hcv hcl T' rfl X'
    exact ⟨t2, st.trans a1, b1⟩
theorem vx_calld {S SX : Type} {post : UInt64 → S → Prop} {px : SX → Prop} {B : S → State → Prop} {BX : String → SX → State → Prop} {AX : Nat → Prop} (hr : vx_Run p l e R s m args below meth c H locs cells slots mc ms (F0 m pc ls st0) rest (va_Qd post B A1 a) (vx_X px BX AX) free) (hS : va_S A0 H0 H locs) (hA : ∀ q, q < H.size → A1 q → A0 q) (hf : ∀ q, free q → A0 q) (hAX : ∀ q, q < H.size → AX q → A0 q)
    (kx : ∀ (E : String) (ce : Cell) (q9 : Addr) (u : SX) (t : State) (H1 : Heap) (locs1 : List Loc), t.heap = H1 → s.vm.Alike t.vm → px u → BX E u t → H.size ≤ H1.size → (∀ q : Nat, q < H.size → ¬ AX q → H1[q]? = H[q]?) → va_S A0 H0 H1 locs1 → H1[q9]? = some ce → ce.vm = .none → s.vm.findClass E = some ce.cls → vx_W p l e R s m args below meth c H1 locs1 (cells + mc) (slots + ms) Q (F0 m pc ls rest) q9)
    (kk : ∀ (r : UInt64) (u : S) (t : State) (H1 : Heap) (locs1 : List Loc), t.heap = H1 → s.vm.Alike t.vm → post r u → B u t → H.size ≤ H1.size → (∀ q : Nat, q < H.size → ¬ A1 q → H1[q]? = H[q]?) → va_S A0 H0 H1 locs1 → W p l e R s m args below meth c H1 locs1 (cells + mc) (slots + ms) Q (F0 m (pc + 3) ls (.double r :: rest))) : W p l e R s m args below meth c H locs cells slots Q (F0 m pc ls st0) := by
  intro T hT X
  rcases hr T hT X with ⟨v, st₀, t, T', L, h0, X', hL, e1, e2, ⟨⟨r, u, hv, hp, hb⟩, hF⟩, st⟩ | ⟨q, st₀, t, T', L, E, ce, h0, X', hL, e1, e2, ⟨u, hp, hb, hF⟩, hce, hcv, hcl, st⟩
  · cases hv
    obtain ⟨k1, k2, k3⟩ := vx_keep h0 e1 hS hA hf hL hF
    obtain ⟨t2, a1, b1⟩ := kk r u t T'.heap (locs ++ L) e1.symm (by rw [← e2]; exact X'.warmed.alike) hp hb k1 k2 k3 T' rfl X'
    exact ⟨t2, st t2 a1, b1⟩
  · obtain ⟨k1, k2, k3⟩ := vx_keep h0 e1 hS hAX hf hL hF
    obtain ⟨t2, a1, b1⟩ := kx E ce q u t T'.heap (locs ++ L) e1.symm (by rw [← e2]; exact X'.warmed.alike) hp hb k1 k2 k3 (by rw [e1]; exact hce) hcv hcl T' rfl X'
    exact ⟨t2, st.trans a1, b1⟩
theorem vx_callv {S SX : Type} {post : S → Prop} {px : SX → Prop} {B : S → State → Prop} {BX : String → SX → State → Prop} {AX : Nat → Prop} (hr : vx_Run p l e R s m args below meth c H locs cells slots mc ms (F0 m pc ls st0) rest (va_Qv post B A1 a) (vx_X px BX AX) free) (hS : va_S A0 H0 H locs) (hA : ∀ q, q < H.size → A1 q → A0 q) (hf : ∀ q, free q → A0 q) (hAX : ∀ q, q < H.size → AX q → A0 q)
    (kx : ∀ (E : String) (ce : Cell) (q9 : Addr) (u : SX) (t : State) (H1 : Heap) (locs1 : List Loc), t.heap = H1 → s.vm.Alike t.vm → px u → BX E u t → H.size ≤ H1.size → (∀ q : Nat, q < H.size → ¬ AX q → H1[q]? = H[q]?) → va_S A0 H0 H1 locs1 → H1[q9]? = some ce → ce.vm = .none → s.vm.findClass E = some ce.cls → vx_W p l e R s m args below meth c H1 locs1 (cells + mc) (slots + ms) Q (F0 m pc ls rest) q9)
    (kk : ∀ (u : S) (t : State) (H1 : Heap) (locs1 : List Loc), t.heap = H1 → s.vm.Alike t.vm → post u → B u t → H.size ≤ H1.size → (∀ q : Nat, q < H.size → ¬ A1 q → H1[q]? = H[q]?) → va_S A0 H0 H1 locs1 → W p l e R s m args below meth c H1 locs1 (cells + mc) (slots + ms) Q (F0 m (pc + 3) ls (rest))) : W p l e R s m args below meth c H locs cells slots Q (F0 m pc ls st0) := by
  intro T hT X
  rcases hr T hT X with ⟨v, st₀, t, T', L, h0, X', hL, e1, e2, ⟨⟨u, hv, hp, hb⟩, hF⟩, st⟩ | ⟨q, st₀, t, T', L, E, ce, h0, X', hL, e1, e2, ⟨u, hp, hb, hF⟩, hce, hcv, hcl, st⟩
  · cases hv
    obtain ⟨k1, k2, k3⟩ := vx_keep h0 e1 hS hA hf hL hF
    obtain ⟨t2, a1, b1⟩ := kk u t T'.heap (locs ++ L) e1.symm (by rw [← e2]; exact X'.warmed.alike) hp hb k1 k2 k3 T' rfl X'
    exact ⟨t2, st t2 a1, b1⟩
  · obtain ⟨k1, k2, k3⟩ := vx_keep h0 e1 hS hAX hf hL hF
    obtain ⟨t2, a1, b1⟩ := kx E ce q u t T'.heap (locs ++ L) e1.symm (by rw [← e2]; exact X'.warmed.alike) hp hb k1 k2 k3 (by rw [e1]; exact hce) hcv hcl T' rfl X'
    exact ⟨t2, st.trans a1, b1⟩
/-- caught by the row x of this method's table; the rows ahead don't take it -/
theorem vx_catch {own name : String} {E : String} {ce : Cell} {q : Addr} (hown : s.vm.findClass own = some m.cls) (pre : List ExceptionTableEntry) (x : ExceptionTableEntry) (suf : List ExceptionTableEntry) (hsplit : c.exceptionTable.toList = pre ++ x :: suf)
    (hpass : ∀ z ∈ pre, covers z pc = false ∨ (z.catchType ≠ 0 ∧ ∃ nm : String, (Cond.classLink own z.catchType nm).before args s = true ∧ va_Nc E nm s)) (hx : covers x pc = true) (h0 : x.catchType ≠ 0)
    (hlink : (Cond.classLink own x.catchType name).before args s = true) (hcast : (Cond.castable E name).before args s = true) (hcell : H[q]? = some ce) (hv : ce.vm = .none) (hcl : s.vm.findClass E = some ce.cls)
    (kk : W p l e R s m args below meth c H locs cells slots Q (F0 m x.handlerPc ls [.ref q])) : vx_W p l e R s m args below meth c H locs cells slots Q (F0 m pc ls rest) q := by
  intro T hT X
  have hpl : e.platform.magicAccessors = ({} : Platform).magicAccessors := by rw [X.admits.platform]
  obtain ⟨c3, c4, hc3, hc4, hasg⟩ := Cond.castable_spec hcast
  cases Option.some.inj (hc3.symm.trans hcl)
  obtain ⟨c5, hc5, hcl5⟩ := Cond.classLink_spec hown hlink e.platform hpl
  cases Option.some.inj (hc4.symm.trans hc5)
  obtain ⟨vm', X', st⟩ := X.thenCaughtThrough q (g := F0 m pc ls rest) rfl (Steps.refl _) (by rw [hT]; exact hcell) (by rw [hv]; rfl) (by obtain ⟨k9, h9, -⟩ := Vm.findClass_spec hcl; exact ⟨k9, h9⟩) pre x suf hsplit
    (fun z hz => by
      rcases hpass z hz with h | ⟨hz0, nm, hl1, hn1⟩
      · exact Or.inl h
      · obtain ⟨c6, hc6, hcl6⟩ := Cond.classLink_spec hown hl1 e.platform hpl
        obtain ⟨a8, b8, h1, h2, h3⟩ := hn1
        cases Option.some.inj (h1.symm.trans hcl)
        cases Option.some.inj (h2.symm.trans hc6)
        exact Or.inr ⟨hz0, _, hcl6, h3⟩) hx (Or.inr ⟨h0, c4, hcl5, hasg⟩)
  obtain ⟨t, a1, b1⟩ := kk (T.setVm vm') hT X'
  exact ⟨t, st.trans a1, b1⟩
end Rows
section Ends
variable {p : Program} {l : Launch} {e : Env} {R : Room} {s : State} {m : MethodId} {args : Array Value} {below : List Frame} {meth : Method} {c : Code} {H : Heap} {locs : List Loc} {cells slots : Nat} {Q : State → Prop}
variable {mc ms : Nat} {free : Addr → Prop} {A0 A1 : Nat → Prop} {H0 : Heap} {a : Array Value} {ls : Array Slot} {st0 rest : List Value}
variable {Qc : Array Value → State → Outcome → State → Prop} {XC : String → State → State → Prop}
/-- what a body that may throw owes at its end -/
def vx_MQ (below : List Frame) (Qc : Array Value → State → Outcome → State → Prop) (XC : String → State → State → Prop) (a : Array Value) (s : State) (mc ms : Nat) (free : Addr → Prop) : State → Prop := fun t =>
  ∃ o, t.status = .running ∧ Ended t below o ∧ vx_Q Qc XC mc ms free a s o t
theorem vx_ret {g : JFrame} {mc ms : Nat} (k : W p l e R s m args below meth c H locs cells slots (MQ below Qc args s mc ms free) g) : W p l e R s m args below meth c H locs cells slots (vx_MQ below Qc XC args s mc ms free) g := by
  intro T hT X
  obtain ⟨t, a1, o, b1, b2, b3, b4⟩ := k T hT X
  exact ⟨t, a1, o, b1, b2, Or.inl ⟨b3, b4⟩⟩
/-- not caught here: it goes on to the caller -/
theorem vx_widen {g : JFrame} {q : Addr} {k n : Nat} (h1 : cells ≤ k) (h2 : slots ≤ n) (kk : vx_W p l e R s m args below meth c H locs k n Q g q) : vx_W p l e R s m args below meth c H locs cells slots Q g q := fun T hT X => kk T hT (stand_widen X h1 h2)
theorem vx_out {pc : Nat} {E : String} {ce : Cell} {q : Addr} {mc ms : Nat} (hout : ∀ x ∈ c.exceptionTable.toList, covers x pc = false) (hlocks : meth.locks = false) (hcell : H[q]? = some ce) (hv : ce.vm = .none) (hcl : s.vm.findClass E = some ce.cls)
    (hx : ∀ t : State, t.heap = H → s.vm.Alike t.vm → XC E s t) (hf : ∀ z ∈ locs, free z.base) (hc : cells ≤ mc) (hs : slots ≤ ms) :
    vx_W p l e R s m args below meth c H locs cells slots (vx_MQ below Qc XC args s mc ms free) (F0 m pc ls rest) q := by
  intro T hT X
  obtain ⟨st1, hrun, hend, hW, hsm⟩ := X.leaveThrown q (g := F0 m pc ls rest) rfl rfl rfl hout hlocks
  have hcell9 : (T.setFrames (.throwing q :: below)).heap[q]? = some ce := by
    show T.heap[q]? = some ce
    rw [hT]; exact hcell
  exact ⟨_, st1, .threw q, hrun, hend, Or.inr ⟨q, rfl, E, ce, locs, hx _ hT hW.alike, hcell9, hv, hcl, hW, hsm.mono hc hs, hf⟩⟩
theorem vx_frame {U : State} {k n : Nat} (h : s.sameButNew ({ U with vm := s.vm } : State) locs k n) : s.heap.size ≤ U.heap.size ∧ ∀ q : Nat, q < s.heap.size → (∀ z ∈ locs, z.base ≠ q) → U.heap[q]? = s.heap[q]? := by
  obtain ⟨-, h2, -, -, -, h6⟩ := h
  refine ⟨h2, fun q hq hz => ?_⟩
  obtain ⟨c9, e1, e2, e3, e4⟩ := h6 q _ (Array.getElem?_eq_getElem hq)
  have hs : c9.slots = (s.heap[q]).slots := Array.ext_getElem? fun i => e4 i fun hm => hz _ hm rfl
  have h9 : c9 = s.heap[q] := by
    rw [hs] at e2
    exact e2
  have e5 : U.heap[q]? = some c9 := e1
  rw [e5, h9, Array.getElem?_eq_getElem hq]
/-- the words of a throw but the four that speak of the heap -/
def vx_no (w : Cond) : Bool := decide (w ≠ .isRef (.static Bundle.tN "UNASSIGNED_STACK" Bundle.steD)) && decide (w ≠ .isRef (.static Bundle.tN "SUPPRESSED_SENTINEL" Bundle.listD)) && decide (w ≠ .laysStatic Bundle.tN "UNASSIGNED_STACK" Bundle.steD) && decide (w ≠ .laysStatic Bundle.tN "SUPPRESSED_SENTINEL" Bundle.listD)
def vx_at0 (own : String) (ic : Nat) (X : String) (names : List String) : List Cond := (Bundle.ownAtoms0 own ic X names).filter vx_no
def vx_atS (own : String) (ic : Nat) (X : String) (names : List String) : List Cond := (Bundle.ownAtoms own ic X names).filter vx_no
/-- a word that the tables alone decide, or a good one -/
def vx_ot (w : Cond) : Bool := w.onTables || goodWord w
theorem vx_ot_at {args a' : Array Value} {s U : State} {w : Cond} (hW : s.WarmedH U.vm) (hvm : s.vm = U.vm) (hg : vx_ot w = true) (h : w.before args s = true) : w.before a' U = true := by
  simp only [vx_ot, Bool.or_eq_true] at hg
  rcases hg with hg | hg
  · exact va_tabs hg hvm h
  · exact word_at hW (good_of_word hg) h
/-- a list's words: the good ones out of the method's own list, the others by premises of their own -/
theorem vx_hat {args : Array Value} {s : State} {L B : List Cond} (h1 : ∀ w ∈ L.filter goodWord, w.before args s = true) (h2 : ∀ w ∈ L.filter (fun w => !goodWord w), w ∈ B) (h3 : ∀ w ∈ B, w.before args s = true) : ∀ w ∈ L, w.before args s = true := by
  intro w hw
  by_cases g : goodWord w = true
  · exact h1 w (List.mem_filter.mpr ⟨hw, g⟩)
  · refine h3 w (h2 w (List.mem_filter.mpr ⟨hw, ?_⟩))
    show (!goodWord w) = true
    cases hgw : goodWord w
    · rfl
    · exact absurd hgw g
theorem vx_c {args : Array Value} {s : State} {w : Cond} {B : List Cond} (h : w.before args s = true) (t : ∀ w ∈ B, w.before args s = true) : ∀ w' ∈ w :: B, w'.before args s = true := fun w' h' => (List.mem_cons.mp h').elim (fun e => by rw [e]; exact h) (t w')
theorem vx_n {args : Array Value} {s : State} : ∀ w ∈ ([] : List Cond), w.before args s = true := fun _ h => nomatch h
theorem vx_own {args : Array Value} {s : State} {L : List Cond} (h1 : ∀ w ∈ L.filter vx_no, w.before args s = true)
    (hU : (Cond.isRef (.static Bundle.tN "UNASSIGNED_STACK" Bundle.steD)).before args s = true) (hN : (Cond.isRef (.static Bundle.tN "SUPPRESSED_SENTINEL" Bundle.listD)).before args s = true)
    (lU : (Cond.laysStatic Bundle.tN "UNASSIGNED_STACK" Bundle.steD).before args s = true) (lN : (Cond.laysStatic Bundle.tN "SUPPRESSED_SENTINEL" Bundle.listD).before args s = true) : ∀ w ∈ L, w.before args s = true := by
  intro w hw
  by_cases e1 : w = .isRef (.static Bundle.tN "UNASSIGNED_STACK" Bundle.steD)
  · rw [e1]; exact hU
  · by_cases e2 : w = .isRef (.static Bundle.tN "SUPPRESSED_SENTINEL" Bundle.listD)
    · rw [e2]; exact hN
    · by_cases e3 : w = .laysStatic Bundle.tN "UNASSIGNED_STACK" Bundle.steD
      · rw [e3]; exact lU
      · by_cases e4 : w = .laysStatic Bundle.tN "SUPPRESSED_SENTINEL" Bundle.listD
        · rw [e4]; exact lN
        · exact h1 w (List.mem_filter.mpr ⟨hw, by unfold vx_no; rw [decide_eq_true e1, decide_eq_true e2, decide_eq_true e3, decide_eq_true e4]; rfl⟩)
/-- where a static field lies, its class's statics cell in H -/
def vx_L (C n d : String) (A : Nat → Prop) (U : State) (H : Heap) : Prop := ∃ (c : ClassId) (k : Class) (i : Nat) (f : Field) (a : Nat) (cell : Cell), U.vm.findClass C = some c ∧ U.fieldFound? C n d = some (c, k, i, f) ∧ f.isStatic = true ∧ k.statics = some a ∧ H[a]? = some cell ∧ cell.vm.isStatics = true ∧ cell.cls = c ∧ f.slot < cell.slots.size ∧ k.staticTypes[f.slot]? = some f.type ∧ ¬ A a
theorem vx_L.moved {C n d : String} {A : Nat → Prop} {u U : State} {H : Heap} (hvm : u.vm.Alike U.vm) (h : vx_L C n d A u H) : vx_L C n d A U H := by
  obtain ⟨c, k, i, f, a, cell, h1, h2, h3, h4, h5, h6, h7, h8, h9, h10⟩ := h
  obtain ⟨k', hi', he⟩ := State.fieldFound?_setVm hvm h2
  exact ⟨c, k', i, f, a, cell, by rw [hvm.findClass]; exact h1, hi', h3, by rw [he]; exact h4, h5, h6, h7, h8, by rw [he]; exact h9, h10⟩
theorem vx_L.kept {C n d : String} {A : Nat → Prop} {U : State} {H H1 : Heap} (h : vx_L C n d A U H) (hq : ∀ a : Nat, a < H.size → ¬ A a → H1[a]? = H[a]?) : vx_L C n d A U H1 := by
  obtain ⟨c, k, i, f, a, cell, h1, h2, h3, h4, h5, h6, h7, h8, h9, h10⟩ := h
  exact ⟨c, k, i, f, a, cell, h1, h2, h3, h4, by rw [hq a (Array.getElem?_eq_some_iff.mp h5).1 h10]; exact h5, h6, h7, h8, h9, h10⟩
theorem vx_L.narrow {C n d : String} {A B : Nat → Prop} {U : State} {H : Heap} (h : vx_L C n d A U H) (hAB : ∀ q, B q → A q) : vx_L C n d B U H := by
  obtain ⟨c, k, i, f, a, cell, h1, h2, h3, h4, h5, h6, h7, h8, h9, h10⟩ := h
  exact ⟨c, k, i, f, a, cell, h1, h2, h3, h4, h5, h6, h7, h8, h9, fun z => h10 (hAB _ z)⟩
theorem vx_L.word {C n d : String} {A : Nat → Prop} {s : State} {args : Array Value} (h : vx_L C n d A s s.heap) : (Cond.laysStatic C n d).before args s = true := by
  obtain ⟨c, k, i, f, a, cell, h1, h2, h3, h4, h5, h6, h7, h8, h9, -⟩ := h
  show (Cond.laysStatic C n d).holds args s none s [] = true
  exact Cond.laysStatic_of h1 h2 h3 h4 h5 h6 h7 h8 h9
/-- .. and what it holds: null or some reference -/
def vx_Zq (C n d : String) (A : Nat → Prop) (U : State) (H : Heap) : Prop := va_Zq C n d A U H ∧ vx_L C n d A U H
theorem vx_Zq.moved {C n d : String} {A : Nat → Prop} {u U : State} {H : Heap} (hvm : u.vm.Alike U.vm) (h : vx_Zq C n d A u H) : vx_Zq C n d A U H := ⟨va_Zq.moved hvm h.1, vx_L.moved hvm h.2⟩
theorem vx_Zq.kept {C n d : String} {A : Nat → Prop} {U : State} {H H1 : Heap} (h : vx_Zq C n d A U H) (hq : ∀ a : Nat, a < H.size → ¬ A a → H1[a]? = H[a]?) : vx_Zq C n d A U H1 := ⟨va_Zq.kept h.1 hq, vx_L.kept h.2 hq⟩
theorem vx_Zq.narrow {C n d : String} {A B : Nat → Prop} {U : State} {H : Heap} (h : vx_Zq C n d A U H) (hAB : ∀ q, B q → A q) : vx_Zq C n d B U H := ⟨va_Zq.narrow h.1 hAB, vx_L.narrow h.2 hAB⟩
theorem vx_Zqof {args : Array Value} {s : State} {C n d : String} {A : Nat → Prop} (hl : (Cond.laysStatic C n d).before args s = true) (hini : (Cond.initialized C).before args s = true) (h : (Cond.isRef (.static C n d)).before args s = true) (hA : ∀ a : Nat, a < s.heap.size → ¬ A a) : vx_Zq C n d A s s.heap := by
  refine ⟨va_Zqof hl hini h hA, ?_⟩
  obtain ⟨c, k, i, f, a, cell, h1, h2, h3, h4, h5, h6, h7, h8, h9⟩ := Cond.laysStatic_spec hl
  exact ⟨c, k, i, f, a, cell, h1, h2, h3, h4, h5, h6, h7, h8, h9, hA a (Array.getElem?_eq_some_iff.mp h5).1⟩
theorem vx_isRef {C n d : String} {v : Value} {A : Nat → Prop} {s : State} {args : Array Value} (h : va_Z C n d v A s s.heap) (hv : v.isRef = true) : (Cond.isRef (.static C n d)).before args s = true := by
  obtain ⟨cf, kf, fi, f, a, cell, h1, h2, h3, h4, h5, h6, h7, -⟩ := h
  have he : (Term.static C n d).eval args s none [] s = some v := by
    simp [Term.eval, State.fieldNamed?, h1, h2, h4, h5, h6, h7]
  simp only [Cond.before, Cond.holds, Cond.value, he]
  cases v <;> simp_all [Value.isRef]
theorem vx_isRefq {C n d : String} {A : Nat → Prop} {s : State} {args : Array Value} (h : va_Zq C n d A s s.heap) : (Cond.isRef (.static C n d)).before args s = true := by
  rcases h with h | ⟨t, h⟩
  · exact vx_isRef h rfl
  · exact vx_isRef h rfl
/-- the same frame, seen from here: as if the method were called anew in this heap -/
theorem vx_rebase {T : State} (X : Stand p l e R s m args below meth c T locs cells slots) {R' : Room} (hf : R'.frames ≤ R.frames) (hl : R'.locals ≤ R.locals) (hc : cells + R'.cells ≤ R.cells) (hs : slots + R'.slots ≤ R.slots) :
    Stand p l e R' ((T.setVm s.vm).setFrames (.invoking m args :: below)) m args below meth c T [] 0 0 := by
  have htop : (T.setVm s.vm).topJava?.isSome := X.here.top
  have hF : ((T.setVm s.vm).setFrames (.invoking m args :: below)).frames = .invoking m args :: below := State.frames_setFrames _ (State.cur_lt_of_top htop)
  obtain ⟨g₀, hg0⟩ := Option.isSome_iff_exists.mp htop
  obtain ⟨r, hr⟩ := State.topJava?_eq_some.mp hg0
  have hl9 : e.platform.stackLimits (T.setVm s.vm).me = e.platform.stackLimits s.me := X.limits
  have hb9 : (T.setVm s.vm).me.stackBytes = s.me.stackBytes := X.bytes
  refine ⟨X.admits, X.cas, X.clock, hF, ?_, X.hears, X.method, X.code, X.here, X.tail, X.warmed, ?_, ?_, ?_⟩
  · have h := X.room
    have hU : ((T.setVm s.vm).setFrames (.invoking m args :: below)).localsInUse = s.localsInUse := by
      rw [State.localsInUse_invoking hF (meth := meth) (c := c) X.method X.code, State.localsInUse_invoking X.frames X.method X.code]
    simp only [State.hasRoom, Bool.and_eq_true, decide_eq_true_eq] at h ⊢
    obtain ⟨⟨⟨⟨h1, h2, h3, h4, h5, h6⟩, h7⟩, h8⟩, h9⟩ := h
    rw [X.frames, List.length_cons] at h2 h3
    have q1 := X.heapSize
    have q2 := X.used
    simp only [hF, hU, List.length_cons, State.stackLimits_setFrames, State.stackBytes_setFrames, hl9, hb9]
    refine ⟨⟨⟨⟨by omega, by omega, by omega, by omega, by omega, h6⟩, ?_⟩, ?_⟩, X.book⟩
    · show T.heap.size + R'.cells ≤ e.platform.maxCells
      omega
    · show T.slotsUsed + R'.slots ≤ e.platform.maxSlots
      omega
  · rw [State.stackLimits_setFrames]; rfl
  · rw [State.stackBytes_setFrames]; rfl
  · refine ⟨?_, Nat.le_refl _, Nat.le_refl _, ?_, ?_, fun a c9 h9 => ⟨c9, h9, rfl, rfl, fun _ _ => rfl⟩⟩
    · obtain ⟨t, ht, -⟩ := State.frames_cons hr
      show T.setVm s.vm = { ((T.setVm s.vm).setFrames (.invoking m args :: below)).setFrames (T.setVm s.vm).frames with heap := T.heap, slotsUsed := T.slotsUsed }
      rw [State.setFrames_setFrames, State.setFrames_self ht]
      rfl
    · show T.slotsUsed = T.slotsUsed + ((T.heap.toList.drop T.heap.size).map (·.slots.size)).sum
      rw [List.drop_eq_nil_of_le (Nat.le_of_eq Array.length_toList)]
      rfl
    · show ((T.heap.toList.drop T.heap.size).map (·.slots.size)).sum ≤ 0
      rw [List.drop_eq_nil_of_le (Nat.le_of_eq Array.length_toList)]
      exact Nat.le_refl _
/-- 'throw new E()': new; dup; invokespecial; athrow -/
theorem vx_throw0 {cc : ByteArray} {pc : Nat} (hexec : p.tables.exec = Jvm.exec) (hb : c.code = cc) (hl : l.stackTraces = false) {own cls : String} {names : List String} {ik ic mc ms : Nat} {A : Nat → Prop}
    (hown : s.vm.findClass own = some m.cls) (hcls : Bundle.fit cls = true) (hnames : ∀ n ∈ names, Bundle.fit n = true)
    (hk : (Cond.classLink own ik cls).before args s = true) (hini : (Cond.initialized cls).before args s = true) (hat : ∀ w ∈ vx_at0 own ic cls names, w.before args s = true)
    (hgood : ∀ w ∈ Cond.classLink own ik cls :: Cond.initialized cls :: vx_at0 own ic cls names, vx_ot w = true)
    (hU : vx_Zq Bundle.tN "UNASSIGNED_STACK" Bundle.steD A s s.heap) (hN : vx_Zq Bundle.tN "SUPPRESSED_SENTINEL" Bundle.listD A s s.heap) (hS : va_S A s.heap H locs) (hsize : ls.size = c.maxLocals)
    (d0 : decode cc pc = .ok (.new ik, 3)) (d3 : decode cc (pc + 3) = .ok (.dup, 1)) (d4 : decode cc (pc + 4) = .ok (.invokespecial ic, 3)) (d7 : decode cc (pc + 7) = .ok (.athrow, 1))
    (hout : ∀ x ∈ c.exceptionTable.toList, covers x (pc + 7) = false)
    (hRframes : names.length + 3 < R.frames) (hRlocals : (rest.map fun v => v.category).sum + (13 * (names.length + 1) + 42) ≤ R.locals) (hRcells : cells + 1 ≤ R.cells) (hRslots : slots + 6 ≤ R.slots) (hlocks : meth.locks = false)
    (hx : ∀ t : State, s.vm.Alike t.vm → H.size ≤ t.heap.size → (∀ q : Nat, q < H.size → t.heap[q]? = H[q]?) → XC cls s t)
    (hf : ∀ z ∈ locs, free z.base) (hc : cells + 1 ≤ mc) (hs : slots + 6 ≤ ms) :
    W p l e R s m args below meth c H locs cells slots (vx_MQ below Qc XC args s mc ms free) (F0 m pc ls rest) := by
  intro T hT X
  have htr : e.platform.stackTraces = false := (show e.platform.stackTraces = l.stackTraces by rw [X.admits.platform]).trans hl
  have Y := vx_rebase X (R' := { frames := R.frames, locals := R.locals, cells := 1, slots := 6 }) (Nat.le_refl _) (Nat.le_refl _) hRcells hRslots
  obtain ⟨s', hA⟩ : ∃ z, z = (T.setVm s.vm).setFrames (.invoking m args :: below) := ⟨_, rfl⟩
  rw [← hA] at Y
  have hvm : s'.vm = s.vm := by rw [hA]; rfl
  have hhp : s'.heap = H := by rw [hA]; exact hT
  have hW0 : s.WarmedH s'.vm := by rw [hvm]; exact State.WarmedH.refl s
  have hat' : ∀ w ∈ vx_at0 own ic cls names, w.before args s' = true := fun w hw => vx_ot_at hW0 hvm.symm (hgood w (List.mem_cons_of_mem _ (List.mem_cons_of_mem _ hw))) (hat w hw)
  have hk' : (Cond.classLink own ik cls).before args s' = true := vx_ot_at hW0 hvm.symm (hgood _ List.mem_cons_self) hk
  have hini' : (Cond.initialized cls).before args s' = true := vx_ot_at hW0 hvm.symm (hgood _ (List.mem_cons_of_mem _ List.mem_cons_self)) hini
  have hU' : vx_Zq Bundle.tN "UNASSIGNED_STACK" Bundle.steD A s' s'.heap := by rw [hhp]; exact vx_Zq.moved hW0.alike (hU.kept hS.2.1)
  have hN' : vx_Zq Bundle.tN "SUPPRESSED_SENTINEL" Bundle.listD A s' s'.heap := by rw [hhp]; exact vx_Zq.moved hW0.alike (hN.kept hS.2.1)
  have h : ∀ w ∈ Bundle.ownAtoms0 own ic cls names, w.before args s' = true := vx_own hat' (vx_isRefq hU'.1) (vx_isRefq hN'.1) hU'.2.word hN'.2.word
  have hown' : s'.vm.findClass own = some m.cls := by rw [hvm]; exact hown
  have hins : (Cond.instantiable cls 6).before args s' = true := h _ (by simp [Bundle.ownAtoms0])
  obtain ⟨vm₁, cX, kX, hfX, hkX, -, -, X₁, st1⟩ := Y.newCold hexec (own := own) (C := cls) (index := ik) (n := 6) hown' hk' hins hini'
    (g := F0 m pc ls rest) rfl (by rw [hb]; exact d0) (Nat.le_refl _) (Nat.le_refl _)
  generalize hT1 : (T.setVm vm₁).pushCell { cls := cX, slots := kX.instanceTypes.map defaultValue, vm := .none } = T1 at X₁ st1
  have hcat : (Value.ref T.heap.size).category = 1 := rfl
  have hcellA : T1.heap[T.heap.size]? = some (freshCell cX kX) := by rw [← hT1]; exact State.heap_pushCell_size _ _
  have d3' : decode c.code (pc + 3) = .ok (.dup, 1) := by rw [hb]; exact d3
  obtain ⟨U, hsteps, hrun, hend, hW, hsame, ce, hce, hO⟩ := X₁.ctorThrow0 hexec htr (own := own) (cls := cls) (names := names) (ic := ic) hown' hcls hnames h (fun x hx => nomatch hx) hfX hkX hcellA (by rw [hhp, hT]; exact Nat.le_refl _)
    (g := { method := m, pc := pc + 4, locals := ls, stack := .ref T.heap.size :: .ref T.heap.size :: rest, locked := none }) rfl hsize rfl rfl (rest := rest) rfl
    (by rw [hb]; exact d4) (by rw [hb]; exact d7) hout hRframes (by simp only [List.map_cons, List.sum_cons, hcat]; omega) hlocks
  obtain ⟨f1, f2⟩ := vx_frame hsame
  rw [hhp] at f1 f2
  have hWs : s.WarmedH U.vm := State.WarmedH.trans hW0 hW
  have hcl : s.vm.findClass cls = some ce.cls := by
    have h9 := hO.cls
    rw [hvm] at h9
    exact h9
  have hall : s.sameButNew ({ U with vm := s.vm } : State) locs mc ms := by
    subst hA
    obtain ⟨e1, e2⟩ := hsame
    rw [State.setFrames_setFrames] at e1
    have h2 : (T.setVm s.vm).sameButNew ({ U with vm := s.vm } : State) [] (0 + 1) (0 + 6) := ⟨e1, e2⟩
    have h3 := X.same.trans h2
    rw [List.append_nil] at h3
    exact h3.mono hc hs
  refine ⟨U, ?_, .threw T.heap.size, hrun, hend, Or.inr ⟨T.heap.size, rfl, cls, ce, locs, hx U hWs.alike f1 (fun q hq => f2 q hq (fun z hz => nomatch hz)), hce, hO.vm, hcl, hWs, hall, hf⟩⟩
  refine st1 _ ?_
  show Steps p.tables e below (T1.setTop { method := m, pc := pc + 3, locals := ls, stack := .ref T.heap.size :: rest, locked := none }) _
  jvm_step X₁.here [X₁.here.top, hexec, d3', Value.category]
  exact hsteps
/-- 'throw new E("text")': new; dup; ldc; invokespecial; athrow -/
theorem vx_throwS {cc : ByteArray} {pc : Nat} (hexec : p.tables.exec = Jvm.exec) (hb : c.code = cc) (hl : l.stackTraces = false) {own cls text : String} {names : List String} {ik is ic mc ms sa : Nat} {A : Nat → Prop}
    (hown : s.vm.findClass own = some m.cls) (hcls : Bundle.fit cls = true) (hnames : ∀ n ∈ names, Bundle.fit n = true)
    (hk : (Cond.classLink own ik cls).before args s = true) (hini : (Cond.initialized cls).before args s = true) (hstr : vk_R own is text sa s) (hat : ∀ w ∈ vx_atS own ic cls names, w.before args s = true)
    (hgood : ∀ w ∈ Cond.classLink own ik cls :: Cond.initialized cls :: vx_atS own ic cls names, vx_ot w = true)
    (hU : vx_Zq Bundle.tN "UNASSIGNED_STACK" Bundle.steD A s s.heap) (hN : vx_Zq Bundle.tN "SUPPRESSED_SENTINEL" Bundle.listD A s s.heap) (hS : va_S A s.heap H locs) (hsize : ls.size = c.maxLocals)
    (d0 : decode cc pc = .ok (.new ik, 3)) (d3 : decode cc (pc + 3) = .ok (.dup, 1)) (d4 : decode cc (pc + 4) = .ok (.ldc is, 2)) (d6 : decode cc (pc + 6) = .ok (.invokespecial ic, 3)) (d9 : decode cc (pc + 9) = .ok (.athrow, 1))
    (hout : ∀ x ∈ c.exceptionTable.toList, covers x (pc + 9) = false)
    (hRframes : names.length + 3 < R.frames) (hRlocals : (rest.map fun v => v.category).sum + (13 * (names.length + 1) + 43) ≤ R.locals) (hRcells : cells + 1 ≤ R.cells) (hRslots : slots + 6 ≤ R.slots) (hlocks : meth.locks = false)
    (hx : ∀ t : State, s.vm.Alike t.vm → H.size ≤ t.heap.size → (∀ q : Nat, q < H.size → t.heap[q]? = H[q]?) → XC cls s t)
    (hf : ∀ z ∈ locs, free z.base) (hc : cells + 1 ≤ mc) (hs : slots + 6 ≤ ms) :
    W p l e R s m args below meth c H locs cells slots (vx_MQ below Qc XC args s mc ms free) (F0 m pc ls rest) := by
  intro T hT X
  have htr : e.platform.stackTraces = false := (show e.platform.stackTraces = l.stackTraces by rw [X.admits.platform]).trans hl
  have Y := vx_rebase X (R' := { frames := R.frames, locals := R.locals, cells := 1, slots := 6 }) (Nat.le_refl _) (Nat.le_refl _) hRcells hRslots
  obtain ⟨s', hA⟩ : ∃ z, z = (T.setVm s.vm).setFrames (.invoking m args :: below) := ⟨_, rfl⟩
  rw [← hA] at Y
  have hvm : s'.vm = s.vm := by rw [hA]; rfl
  have hhp : s'.heap = H := by rw [hA]; exact hT
  have hW0 : s.WarmedH s'.vm := by rw [hvm]; exact State.WarmedH.refl s
  have hat' : ∀ w ∈ vx_atS own ic cls names, w.before args s' = true := fun w hw => vx_ot_at hW0 hvm.symm (hgood w (List.mem_cons_of_mem _ (List.mem_cons_of_mem _ hw))) (hat w hw)
  have hk' : (Cond.classLink own ik cls).before args s' = true := vx_ot_at hW0 hvm.symm (hgood _ List.mem_cons_self) hk
  have hini' : (Cond.initialized cls).before args s' = true := vx_ot_at hW0 hvm.symm (hgood _ (List.mem_cons_of_mem _ List.mem_cons_self)) hini
  have hU' : vx_Zq Bundle.tN "UNASSIGNED_STACK" Bundle.steD A s' s'.heap := by rw [hhp]; exact vx_Zq.moved hW0.alike (hU.kept hS.2.1)
  have hN' : vx_Zq Bundle.tN "SUPPRESSED_SENTINEL" Bundle.listD A s' s'.heap := by rw [hhp]; exact vx_Zq.moved hW0.alike (hN.kept hS.2.1)
  have h : ∀ w ∈ Bundle.ownAtoms own ic cls names, w.before args s' = true := vx_own hat' (vx_isRefq hU'.1) (vx_isRefq hN'.1) hU'.2.word hN'.2.word
  have hown' : s'.vm.findClass own = some m.cls := by rw [hvm]; exact hown
  have hins : (Cond.instantiable cls 6).before args s' = true := h _ (by simp [Bundle.ownAtoms])
  obtain ⟨vm₁, cX, kX, hfX, hkX, -, -, X₁, st1⟩ := Y.newCold hexec (own := own) (C := cls) (index := ik) (n := 6) hown' hk' hins hini'
    (g := F0 m pc ls rest) rfl (by rw [hb]; exact d0) (Nat.le_refl _) (Nat.le_refl _)
  generalize hT1 : (T.setVm vm₁).pushCell { cls := cX, slots := kX.instanceTypes.map defaultValue, vm := .none } = T1 at X₁ st1
  have hcat : (Value.ref T.heap.size).category = 1 := rfl
  have hcellA : T1.heap[T.heap.size]? = some (freshCell cX kX) := by rw [← hT1]; exact State.heap_pushCell_size _ _
  have d3' : decode c.code (pc + 3) = .ok (.dup, 1) := by rw [hb]; exact d3
  have d4' : decode c.code (pc + 4) = .ok (.ldc is, 2) := by rw [hb]; exact d4
  have hstr' : vk_R own is text sa s' := vk_R.warm hW0 hstr
  obtain ⟨U, hsteps, hrun, hend, hW, hsame, ce, hce, hO⟩ := X₁.ctorThrowS hexec htr (own := own) (cls := cls) (names := names) (ic := ic) hown' hcls hnames h (fun x hx => nomatch hx) hfX hkX hcellA (by rw [hhp, hT]; exact Nat.le_refl _) (msg := .ref sa) rfl
    (g := { method := m, pc := pc + 6, locals := ls, stack := .ref sa :: .ref T.heap.size :: .ref T.heap.size :: rest, locked := none }) rfl hsize rfl rfl (rest := rest) rfl
    (by rw [hb]; exact d6) (by rw [hb]; exact d9) hout hRframes (by simp only [List.map_cons, List.sum_cons, hcat]; omega) hlocks
  obtain ⟨f1, f2⟩ := vx_frame hsame
  rw [hhp] at f1 f2
  have hWs : s.WarmedH U.vm := State.WarmedH.trans hW0 hW
  have hcl : s.vm.findClass cls = some ce.cls := by
    have h9 := hO.cls
    rw [hvm] at h9
    exact h9
  have hall : s.sameButNew ({ U with vm := s.vm } : State) locs mc ms := by
    subst hA
    obtain ⟨e1, e2⟩ := hsame
    rw [State.setFrames_setFrames] at e1
    have h2 : (T.setVm s.vm).sameButNew ({ U with vm := s.vm } : State) [] (0 + 1) (0 + 6) := ⟨e1, e2⟩
    have h3 := X.same.trans h2
    rw [List.append_nil] at h3
    exact h3.mono hc hs
  refine ⟨U, ?_, .threw T.heap.size, hrun, hend, Or.inr ⟨T.heap.size, rfl, cls, ce, locs, hx U hWs.alike f1 (fun q hq => f2 q hq (fun z hz => nomatch hz)), hce, hO.vm, hcl, hWs, hall, hf⟩⟩
  refine st1 _ ?_
  show Steps p.tables e below (T1.setTop { method := m, pc := pc + 3, locals := ls, stack := .ref T.heap.size :: rest, locked := none }) _
  jvm_step X₁.here [X₁.here.top, hexec, d3', Value.category]
  exact X₁.ldcString hexec (own := own) (text := text) (index := is) (a := sa) hown' hstr'.1 hstr'.2
    (g := { method := m, pc := pc + 4, locals := ls, stack := .ref T.heap.size :: .ref T.heap.size :: rest, locked := none }) rfl d4' _ hsteps
/-- 'throw new E("text")', the text by a wide index -/
theorem vx_throwSW {cc : ByteArray} {pc : Nat} (hexec : p.tables.exec = Jvm.exec) (hb : c.code = cc) (hl : l.stackTraces = false) {own cls text : String} {names : List String} {ik is ic mc ms sa : Nat} {A : Nat → Prop}
    (hown : s.vm.findClass own = some m.cls) (hcls : Bundle.fit cls = true) (hnames : ∀ n ∈ names, Bundle.fit n = true)
    (hk : (Cond.classLink own ik cls).before args s = true) (hini : (Cond.initialized cls).before args s = true) (hstr : vk_R own is text sa s) (hat : ∀ w ∈ vx_atS own ic cls names, w.before args s = true)
    (hgood : ∀ w ∈ Cond.classLink own ik cls :: Cond.initialized cls :: vx_atS own ic cls names, vx_ot w = true)
    (hU : vx_Zq Bundle.tN "UNASSIGNED_STACK" Bundle.steD A s s.heap) (hN : vx_Zq Bundle.tN "SUPPRESSED_SENTINEL" Bundle.listD A s s.heap) (hS : va_S A s.heap H locs) (hsize : ls.size = c.maxLocals)
    (d0 : decode cc pc = .ok (.new ik, 3)) (d3 : decode cc (pc + 3) = .ok (.dup, 1)) (d4 : decode cc (pc + 4) = .ok (.ldc_w is, 3)) (d7 : decode cc (pc + 7) = .ok (.invokespecial ic, 3)) (d10 : decode cc (pc + 10) = .ok (.athrow, 1))
    (hout : ∀ x ∈ c.exceptionTable.toList, covers x (pc + 10) = false)
    (hRframes : names.length + 3 < R.frames) (hRlocals : (rest.map fun v => v.category).sum + (13 * (names.length + 1) + 43) ≤ R.locals) (hRcells : cells + 1 ≤ R.cells) (hRslots : slots + 6 ≤ R.slots) (hlocks : meth.locks = false)
    (hx : ∀ t : State, s.vm.Alike t.vm → H.size ≤ t.heap.size → (∀ q : Nat, q < H.size → t.heap[q]? = H[q]?) → XC cls s t)
    (hf : ∀ z ∈ locs, free z.base) (hc : cells + 1 ≤ mc) (hs : slots + 6 ≤ ms) :
    W p l e R s m args below meth c H locs cells slots (vx_MQ below Qc XC args s mc ms free) (F0 m pc ls rest) := by
  intro T hT X
  have htr : e.platform.stackTraces = false := (show e.platform.stackTraces = l.stackTraces by rw [X.admits.platform]).trans hl
  have Y := vx_rebase X (R' := { frames := R.frames, locals := R.locals, cells := 1, slots := 6 }) (Nat.le_refl _) (Nat.le_refl _) hRcells hRslots
  obtain ⟨s', hA⟩ : ∃ z, z = (T.setVm s.vm).setFrames (.invoking m args :: below) := ⟨_, rfl⟩
  rw [← hA] at Y
  have hvm : s'.vm = s.vm := by rw [hA]; rfl
  have hhp : s'.heap = H := by rw [hA]; exact hT
  have hW0 : s.WarmedH s'.vm := by rw [hvm]; exact State.WarmedH.refl s
  have hat' : ∀ w ∈ vx_atS own ic cls names, w.before args s' = true := fun w hw => vx_ot_at hW0 hvm.symm (hgood w (List.mem_cons_of_mem _ (List.mem_cons_of_mem _ hw))) (hat w hw)
  have hk' : (Cond.classLink own ik cls).before args s' = true := vx_ot_at hW0 hvm.symm (hgood _ List.mem_cons_self) hk
  have hini' : (Cond.initialized cls).before args s' = true := vx_ot_at hW0 hvm.symm (hgood _ (List.mem_cons_of_mem _ List.mem_cons_self)) hini
  have hU' : vx_Zq Bundle.tN "UNASSIGNED_STACK" Bundle.steD A s' s'.heap := by rw [hhp]; exact vx_Zq.moved hW0.alike (hU.kept hS.2.1)
  have hN' : vx_Zq Bundle.tN "SUPPRESSED_SENTINEL" Bundle.listD A s' s'.heap := by rw [hhp]; exact vx_Zq.moved hW0.alike (hN.kept hS.2.1)
  have h : ∀ w ∈ Bundle.ownAtoms own ic cls names, w.before args s' = true := vx_own hat' (vx_isRefq hU'.1) (vx_isRefq hN'.1) hU'.2.word hN'.2.word
  have hown' : s'.vm.findClass own = some m.cls := by rw [hvm]; exact hown
  have hins : (Cond.instantiable cls 6).before args s' = true := h _ (by simp [Bundle.ownAtoms])
  obtain ⟨vm₁, cX, kX, hfX, hkX, -, -, X₁, st1⟩ := Y.newCold hexec (own := own) (C := cls) (index := ik) (n := 6) hown' hk' hins hini'
    (g := F0 m pc ls rest) rfl (by rw [hb]; exact d0) (Nat.le_refl _) (Nat.le_refl _)
  generalize hT1 : (T.setVm vm₁).pushCell { cls := cX, slots := kX.instanceTypes.map defaultValue, vm := .none } = T1 at X₁ st1
  have hcat : (Value.ref T.heap.size).category = 1 := rfl
  have hcellA : T1.heap[T.heap.size]? = some (freshCell cX kX) := by rw [← hT1]; exact State.heap_pushCell_size _ _
  have d3' : decode c.code (pc + 3) = .ok (.dup, 1) := by rw [hb]; exact d3
  have d4' : decode c.code (pc + 4) = .ok (.ldc_w is, 3) := by rw [hb]; exact d4
  have hstr' : vk_R own is text sa s' := vk_R.warm hW0 hstr
  obtain ⟨U, hsteps, hrun, hend, hW, hsame, ce, hce, hO⟩ := X₁.ctorThrowS hexec htr (own := own) (cls := cls) (names := names) (ic := ic) hown' hcls hnames h (fun x hx => nomatch hx) hfX hkX hcellA (by rw [hhp, hT]; exact Nat.le_refl _) (msg := .ref sa) rfl
    (g := { method := m, pc := pc + 7, locals := ls, stack := .ref sa :: .ref T.heap.size :: .ref T.heap.size :: rest, locked := none }) rfl hsize rfl rfl (rest := rest) rfl
    (by rw [hb]; exact d7) (by rw [hb]; exact d10) hout hRframes (by simp only [List.map_cons, List.sum_cons, hcat]; omega) hlocks
  obtain ⟨f1, f2⟩ := vx_frame hsame
  rw [hhp] at f1 f2
  have hWs : s.WarmedH U.vm := State.WarmedH.trans hW0 hW
  have hcl : s.vm.findClass cls = some ce.cls := by
    have h9 := hO.cls
    rw [hvm] at h9
    exact h9
  have hall : s.sameButNew ({ U with vm := s.vm } : State) locs mc ms := by
    subst hA
    obtain ⟨e1, e2⟩ := hsame
    rw [State.setFrames_setFrames] at e1
    have h2 : (T.setVm s.vm).sameButNew ({ U with vm := s.vm } : State) [] (0 + 1) (0 + 6) := ⟨e1, e2⟩
    have h3 := X.same.trans h2
    rw [List.append_nil] at h3
    exact h3.mono hc hs
  refine ⟨U, ?_, .threw T.heap.size, hrun, hend, Or.inr ⟨T.heap.size, rfl, cls, ce, locs, hx U hWs.alike f1 (fun q hq => f2 q hq (fun z hz => nomatch hz)), hce, hO.vm, hcl, hWs, hall, hf⟩⟩
  refine st1 _ ?_
  show Steps p.tables e below (T1.setTop { method := m, pc := pc + 3, locals := ls, stack := .ref T.heap.size :: rest, locked := none }) _
  jvm_step X₁.here [X₁.here.top, hexec, d3', Value.category]
  exact X₁.ldcStringW hexec (own := own) (text := text) (index := is) (a := sa) hown' hstr'.1 hstr'.2
    (g := { method := m, pc := pc + 4, locals := ls, stack := .ref T.heap.size :: .ref T.heap.size :: rest, locked := none }) rfl d4' _ hsteps
end Ends
section Bodies
variable {l : Launch}
theorem vx_ofW {y : MethodName} {ws ws' : List Cond} {rm : Room} {Pc : Array Value → State → Prop} {Qc : Array Value → State → Outcome → State → Prop} {XC : String → State → State → Prop} {mc ms : Nat} {free : Addr → Prop} {cc : ByteArray} {maxL : Nat} {ret : Option FieldType}
    (hy : plainName y.cls = true) (hw : ws = Cond.code y cc maxL ret :: ws')
    (body : ∀ p e s m args below meth c s₁, BodyLoose p l y (headSpec ws rm) cc maxL ret e s m args below meth c s₁ → c.maxLocals = maxL → (∀ x ∈ c.exceptionTable.toList, False) → Pc args s →
      W p l e (headSpec ws rm).room s m args below meth c s.heap [] 0 0 (vx_MQ below Qc XC args s mc ms free) (entryFrame m args maxL)) : vx_Met l y ws rm Pc Qc XC mc ms free := by
  refine MetFree.of_bodyS (code := cc) (maxLocals := maxL) (ret := ret) hy ?_ ?_
  · intro args s m h hn
    obtain ⟨meth, c, h1, h2, h3, h4, h5, h6, -, -⟩ := Cond.code_spec hn (atoms_spec (ws := ws) h _ (by rw [hw]; exact List.mem_cons_self))
    exact ⟨meth, c, h1, h2, h3, h4, h5, h6⟩
  · intro p e s m args below meth c s₁ B hml hP _
    have hh0 : s₁.heap = s.heap := by rw [B.state]; rfl
    have ht : ∀ x ∈ c.exceptionTable.toList, False := by
      obtain ⟨meth9, c9, h1, h2, -, -, -, -, h7, -⟩ := Cond.code_spec B.named (atoms_spec (ws := ws) B.pre _ (by rw [hw]; exact List.mem_cons_self))
      cases Option.some.inj (h1.symm.trans B.method)
      cases Option.some.inj (h2.symm.trans (Stand.of_body B).code)
      intro x hx
      rw [Array.isEmpty_iff.mp h7] at hx
      cases hx
    obtain ⟨t, a1, o, b1, b2, b3⟩ := body p e s m args below meth c s₁ B hml ht hP s₁ hh0 (Stand.of_body B)
    exact ⟨t, o, a1, b1, b2, b3⟩
/-- the table of a body with handlers -/
theorem vx_table {p : Program} {x y : MethodName} {S : Spec} {cc bytes : ByteArray} {maxL maxL' : Nat} {ret ret' : Option FieldType} {e : Env} {s s₁ : State} {m : MethodId} {args : Array Value} {below : List Frame} {meth : Method} {c : Code} {hh : List (Nat × Nat × Nat × Nat)}
    (B : BodyLoose p l y S cc maxL ret e s m args below meth c s₁) (h : (Cond.codeWith y bytes maxL' ret' hh).before args s = true) : c.exceptionTable.toList = tableOf hh := by
  obtain ⟨m9, meth9, c9, hn9, h1, h2, -, -, h6, -⟩ := Cond.codeWith_spec h
  cases Option.some.inj (hn9.symm.trans B.named)
  cases Option.some.inj (h1.symm.trans B.method)
  cases Option.some.inj (h2.symm.trans (Stand.of_body B).code)
  rw [← h6, table_eq]
end Bodies
end VXA
/-! ===== END ===== -/
/-! ===== BEGIN a static call of a method with an exception table ===== -/
section VXS
variable {p : Program} {l : Launch} {e : Env} {R : Room} {s : State} {m : MethodId} {args : Array Value} {below : List Frame} {meth : Method} {c : Code} {T : State} {H : Heap} {locs : List Loc} {cells slots : Nat}
abbrev vx_CSW (R : Room) (s : State) (args : Array Value) (own : String) (index : Nat) (y : MethodName) (bytes : ByteArray) (maxL : Nat) (ret : Option FieldType) (hh : List (Nat × Nat × Nat × Nat)) (ws : List Cond) (rm : Room) (mc ms n : Nat) : Prop :=
  (rm.cells = mc ∧ rm.slots = ms ∧ rm.frames + 1 ≤ R.frames ∧ 8 + (maxL + 11) + rm.locals ≤ R.locals ∧ (∀ w ∈ ws, ∀ (a' : Array Value) (U : State), s.WarmedH U.vm → w.before a' U = true) ∧ Cond.codeWith y bytes maxL ret hh ∈ ws) ∧
  (Cond.codeWith y bytes maxL ret hh).before args s = true ∧ (Cond.initialized y.cls).before args s = true ∧ (y.cls ≠ "java/lang/invoke/MethodHandle" ∧ y.cls ≠ "java/lang/invoke/VarHandle") ∧
  (∀ sig, parseMethodDescriptor y.desc = some sig → n = sig.parameters.length) ∧ (Cond.methodLink own index y).before args s = true ∧ (Cond.static y).before args s = true
theorem vx_cwSW {own : String} {index maxL mc ms : Nat} {y : MethodName} {bytes : ByteArray} {ret : Option FieldType} {hh : List (Nat × Nat × Nat × Nat)} {Ts ws ws' : List Cond} {rm : Room} (n : Nat) (ht : ∀ w ∈ Ts, w.before args s = true) (hT : GoodIn Ts (va_wsS own index y ws)) (hw : ws = Cond.codeWith y bytes maxL ret hh :: ws') (hrc : rm.cells = mc) (hrs : rm.slots = ms)
    (hd : y.cls ≠ "java/lang/invoke/MethodHandle" ∧ y.cls ≠ "java/lang/invoke/VarHandle" ∧ (parseMethodDescriptor y.desc).map (fun d => d.parameters.length) = some n) (hR : rm.frames + 1 ≤ R.frames ∧ 8 + (maxL + 11) + rm.locals ≤ R.locals) :
    vx_CSW R s args own index y bytes maxL ret hh ws rm mc ms n := by
  have ok : ∀ w ∈ va_wsS own index y ws, w.before args s = true := fun w h => ht w (hT w h).1
  have hG : GoodIn Ts ws := fun w h => hT w (by unfold va_wsS; exact List.mem_append_right _ h)
  have hc : Cond.codeWith y bytes maxL ret hh ∈ ws := by rw [hw]; exact List.mem_cons_self
  refine ⟨⟨hrc, hrs, hR.1, hR.2, pay_in ht hG, hc⟩, ht _ (hG _ hc).1, ok _ (by simp [va_wsS]), ⟨hd.1, hd.2.1⟩, fun sig h => ?_, ok _ (by simp [va_wsS]), ok _ (by simp [va_wsS])⟩
  have h2 := hd.2.2
  rw [h] at h2
  exact (Option.some.inj h2).symm
theorem vx_callSW (X : Stand p l e R s m args below meth c T locs cells slots) (hexec : p.tables.exec = Jvm.exec) {own : String} {index : Nat} {y : MethodName} {bytes : ByteArray} {maxL : Nat} {ret : Option FieldType} {hh : List (Nat × Nat × Nat × Nat)}
    (hown : s.vm.findClass own = some m.cls) (hlink : (Cond.methodLink own index y).before args s = true) (hstat : (Cond.static y).before args s = true) (hinit : (Cond.initialized y.cls).before args s = true)
    (hcode : (Cond.codeWith y bytes maxL ret hh).before args s = true) (hy : y.cls ≠ "java/lang/invoke/MethodHandle" ∧ y.cls ≠ "java/lang/invoke/VarHandle")
    {W9 : Nat} {Pre : Pt → Array Value → Prop} {Post : Pt → Array Value → Option Value → Pt → Prop} (hK : Back l R p e below s args y 3 W9 Pre Post)
    {g : JFrame} (hg : g.method = m) (hsize : g.locals.size = c.maxLocals) {argsL rest : List Value} (hlen : ∀ sig, parseMethodDescriptor y.desc = some sig → argsL.length = sig.parameters.length)
    (hstack : g.stack = argsL.reverse ++ rest) (hW : 2 * g.monitorRoom + (rest.map fun v => v.category).sum ≤ W9) (hdg : decode c.code g.pc = .ok (.invokestatic index, 3))
    (hpre : ∀ vm₁, s.WarmedH vm₁ → Pre ⟨T.setVm vm₁, locs, cells, slots⟩ argsL.toArray) :
    ∃ (v : Option Value) (vm₁ : Vm) (B : Pt), s.WarmedH vm₁ ∧ Stand p l e R s m args below meth c B.U B.locs B.cells B.slots ∧ Post ⟨T.setVm vm₁, locs, cells, slots⟩ argsL.toArray v B ∧
      ∀ target, Steps p.tables e below (B.U.setTop { g with pc := g.pc + 3, stack := v.toList ++ rest }) target → Steps p.tables e below (T.setTop g) target := by
  obtain ⟨mk, methM, cM, hnamed, hmethM, -, -, -, -, -, -, hsigM⟩ := Cond.codeWith_spec hcode
  have hstatic : methM.isStatic = true := Cond.static_spec hnamed hmethM hstat
  obtain ⟨kP, hkP, -⟩ := className_of_methodNamed hnamed
  have hinitP : kP.init = .initialized := Cond.initialized_spec (findClass_of_methodNamed hnamed) hkP hinit
  obtain ⟨vm₁, X₁, hstep₁⟩ := X.invokestatic hexec hown hlink hnamed hmethM hstatic hkP hinitP hy (g := g) hg (argsL := argsL) (rest := rest) (hlen _ hsigM) hstack hdg
  obtain ⟨v, B, X', hpost, hsteps⟩ := hK m meth c ⟨T.setVm vm₁, locs, cells, slots⟩ { g with stack := rest } (.invokestatic index) mk argsL.toArray X₁ hg hsize hdg hW (X₁.named hnamed) (hpre vm₁ X₁.warmed)
  exact ⟨v, vm₁, B, X₁.warmed, X', hpost, fun target h => hstep₁ _ fun acts => by rw [doInvoke_state]; exact hsteps.trans h⟩
theorem vx_runSW {y : MethodName} {bytes cc : ByteArray} {maxL nL mc ms n index : Nat} {ret : Option FieldType} {hh : List (Nat × Nat × Nat × Nat)} {ws : List Cond} {rm : Room} {Pc : Array Value → State → Prop} {Qc : Array Value → State → Outcome → State → Prop} {free : Addr → Prop} {Ts : List Cond} {own : String} {As rest : List Value} {g : JFrame}
    (S : CallFix p m c cc nL s args Ts own) (hM : Met l y ws rm Pc Qc mc ms free) (cw : vx_CSW R s args own index y bytes maxL ret hh ws rm mc ms n) (hp : PreS s H Pc As)
    (hg : g.method = m) (hn : As.length = n) (hsize : g.locals.size = nL) (hstack : g.stack = As.reverse ++ rest) (hW : 2 * g.monitorRoom + (rest.map fun v => v.category).sum ≤ 8) (hdg : decode cc g.pc = .ok (.invokestatic index, 3)) (hf : cells + mc ≤ R.cells ∧ slots + ms ≤ R.slots) :
    va_Run p l e R s m args below meth c H locs cells slots mc ms g rest (Qc As.toArray) (free) := by
  obtain ⟨⟨hrc, hrs, hfr, hlo, hws, hcw⟩, hcode, hini, hy, hlen, hl, hstt⟩ := cw
  have hK : Back l R p e below s args y 3 8 (PreOf R mc ms Pc) (PostOf Qc mc ms free) := va_backW (hh := hh) (bytes := bytes) (maxL := maxL) (ret := ret) hM hp.1 hrc hrs hfr hlo hws hcw (fun a' U hW => word_at hW (Or.inl (by first | rfl | simp [Cond.onTables, Cond.keeps, Cond.steady])) hini)
  obtain ⟨hx, hb, hml, ho, -⟩ := S
  intro T hT X
  obtain ⟨v, vm₁, ⟨U', l2, c2, s2⟩, hW₁, X', ⟨g', mk, t, L, e1, e2, hq, h1, hL, h2, h3⟩, st⟩ := vx_callSW X hx (hh := hh) (bytes := bytes) (maxL := maxL) (ret := ret) ho hl hstt hini hcode hy hK hg (hsize.trans hml.symm) (argsL := As) (rest := rest) (fun sig h => hn.trans (hlen sig h)) hstack hW (by rw [hb]; exact hdg)
    (fun vm₁ hW₁ => ⟨hf.1, hf.2, hp.2 (T.setVm vm₁) hT hW₁⟩)
  dsimp only [Pt.U, Pt.locs, Pt.cells, Pt.slots] at X' e1 e2 h1 h2 h3 st
  subst h1; subst h2; subst h3
  exact ⟨v, (T.setVm vm₁).calling g' mk As.toArray, t, U', L, hT, X', hL, e1, e2, hq, st⟩
/-- not caught here, past rows that name other classes: it goes on to the caller -/
theorem vx_outP {p : Program} {l : Launch} {e : Env} {R : Room} {s : State} {m : MethodId} {args : Array Value} {below : List Frame} {meth : Method} {c : Code} {H : Heap} {locs : List Loc} {cells slots : Nat} {free : Addr → Prop} {ls : Array Slot} {rest : List Value} {Qc : Array Value → State → Outcome → State → Prop} {XC : String → State → State → Prop}
    {pc : Nat} {own E : String} {ce : Cell} {q : Addr} {mc ms : Nat} (hown : s.vm.findClass own = some m.cls) (hlocks : meth.locks = false)
    (hpass : ∀ z ∈ c.exceptionTable.toList, covers z pc = false ∨ (z.catchType ≠ 0 ∧ ∃ nm : String, (Cond.classLink own z.catchType nm).before args s = true ∧ va_Nc E nm s)) (hcell : H[q]? = some ce) (hv : ce.vm = .none) (hcl : s.vm.findClass E = some ce.cls)
    (hx : ∀ t : State, t.heap = H → s.vm.Alike t.vm → XC E s t) (hf : ∀ z ∈ locs, free z.base) (hc : cells ≤ mc) (hs : slots ≤ ms) :
    vx_W p l e R s m args below meth c H locs cells slots (vx_MQ below Qc XC args s mc ms free) (F0 m pc ls rest) q := by
  intro T hT X
  have hpl : e.platform.magicAccessors = ({} : Platform).magicAccessors := by rw [X.admits.platform]
  obtain ⟨vm', hW', X', st⟩ := X.outThrough hlocks q (g := F0 m pc ls rest) rfl rfl rfl (cell := ce) (by rw [hT]; exact hcell) (by rw [hv]; rfl)
    (by obtain ⟨k9, h9, -⟩ := Vm.findClass_spec hcl; exact ⟨k9, h9⟩) (fun z hz => by
      rcases hpass z hz with h | ⟨hz0, nm, hl1, hn1⟩
      · exact Or.inl h
      · obtain ⟨c6, hc6, hcl6⟩ := Cond.classLink_spec hown hl1 e.platform hpl
        obtain ⟨a8, b8, h1, h2, h3⟩ := hn1
        cases Option.some.inj (h1.symm.trans hcl)
        cases Option.some.inj (h2.symm.trans hc6)
        exact Or.inr ⟨hz0, _, hcl6, h3⟩)
  obtain ⟨g₀, hfr⟩ := X'.frames_eq
  have hcell9 : ((T.setVm vm').setFrames (.throwing q :: below)).heap[q]? = some ce := by
    show T.heap[q]? = some ce
    rw [hT]; exact hcell
  have hend : Ended ((T.setVm vm').setFrames (.throwing q :: below)) below (.threw q) := State.frames_setFrames _ (State.cur_lt_of_frames hfr)
  refine ⟨(T.setVm vm').setFrames (.throwing q :: below), ?_, .threw q, X'.here.running, hend, Or.inr ⟨q, rfl, E, ce, locs, hx _ hT (X'.ends _).1.alike, hcell9, hv, hcl, (X'.ends _).1, (X'.ends _).2.mono hc hs, hf⟩⟩
  rw [X.pushThrowing_eq]
  exact st
/-- a thing of a world lies in the heap -/
theorem vx_lt {D : va_G} {cl : List vw_C} {ws : va_W} {H1 : Heap} (h : va_P D cl ws H1) {k : Nat} {q : Nat × va_E} (hk : ws[k]? = some q) : q.1 < H1.size := (h k q hk).lt
end VXS
/-! ===== END ===== -/
/-! ===== BEGIN methods with a table of their own: called by a name, returning or throwing ===== -/
section VXH
/-! vx_backW, vx_callVX, vx_callSX, vx_callVW, vx_runVW, vx_runVX, vx_runSX, vx_ofWH follow the same proofs as their sisters above (Free/Laws.lean, Shelf42/LK1.lean); vx_outP calls Shelf42/NT130.lean (outThrough). -/
section
variable {l : Launch} {R : Room} {p : Program} {e : Env} {below : List Frame} {s : State} {sargs : Array Value} {y : MethodName} {len W9 : Nat}
theorem vx_backW {ws : List Cond} {rm : Room} {Pc : Array Value → State → Prop} {Qc : Array Value → State → Outcome → State → Prop} {XC : String → State → State → Prop} {mc ms : Nat} {free : Addr → Prop} {bytes : ByteArray} {maxL : Nat} {ret : Option FieldType} {hh : List (Nat × Nat × Nat × Nat)}
    (hM : vx_Met l y ws rm Pc Qc XC mc ms free) (hblind : FrameBlind Pc) (hrc : rm.cells = mc) (hrs : rm.slots = ms)
    (hframes : rm.frames + 1 ≤ R.frames) (hlocals : W9 + (maxL + 11) + rm.locals ≤ R.locals)
    (hws : ∀ w ∈ ws, ∀ a' U, s.WarmedH U.vm → w.before a' U = true) (hcode : Cond.codeWith y bytes maxL ret hh ∈ ws) (hinit : ∀ a' U, s.WarmedH U.vm → (Cond.initialized y.cls).before a' U = true) :
    vx_Back l R p e below s sargs y len W9 (PreOf R mc ms Pc) (PostOf Qc mc ms free) (vx_Post XC mc ms free) := by
  intro m meth c A g ig mk a X hg hsize hdg hW hn hp
  have h1 : (headSpec ws rm).pre.before a A.U = true := atoms_intro fun w hw => hws w hw _ _ X.warmed
  have h2 : (Cond.codeWith y bytes maxL ret hh).before a A.U = true := hws _ hcode _ _ X.warmed
  have h3 : (Cond.initialized y.cls).before a A.U = true := hinit _ _ X.warmed
  have h4 : A.cells + (headSpec ws rm).room.cells ≤ R.cells := by rw [show (headSpec ws rm).room.cells = mc from hrc]; exact hp.1
  have h5 : A.slots + (headSpec ws rm).room.slots ≤ R.slots := by rw [show (headSpec ws rm).room.slots = ms from hrs]; exact hp.2.1
  have hPc : Pc a (A.U.calling g mk a) := hblind _ _ _ _ hp.2.2
  obtain ⟨U, Ls, c0, s0⟩ := A
  dsimp only [Pt.U, Pt.locs, Pt.cells, Pt.slots] at h1 h2 h3 h4 h5 X hn hPc ⊢
  obtain ⟨m9, methY, cY, hn9, hmY, hcY, -, hlY, -⟩ := Cond.codeWith_spec h2
  cases Option.some.inj (hn9.symm.trans hn)
  obtain ⟨kY, hkY, -⟩ := className_of_methodNamed hn
  have hinitY : kY.init = .initialized := Cond.initialized_spec (findClass_of_methodNamed hn) hkY h3
  have h : At U g.method c below := by rw [hg]; exact X.here
  have hlocals9 : W9 + (maxL + 11) + (headSpec ws rm).room.locals ≤ R.locals := hlocals
  have happ : (headSpec ws rm).appliesLoose y e.platform (U.calling g mk a) = true :=
    Spec.appliesLoose_calling (g := g) h hdg hn hkY hinitY
      (X.room_calling (g := g) (R' := (headSpec ws rm).room) hsize hmY hcY hframes (by rw [hlY]; omega) h4 h5) h1
  obtain ⟨mid, hmid⟩ := h.above
  have hfr : (U.setTop g).frames = (.java g :: mid) ++ below := by rw [State.frames_setTop' g h.top, hmid]; rfl
  obtain ⟨o, s₂, hsteps, -, hend, hq⟩ := Steps.callFree hM p X.admits X.cas X.clock (acts := []) hfr happ hPc trivial
  have hq' : vx_Q Qc XC mc ms free a (U.calling g mk a) o s₂ := hq
  rw [State.frames_setTop' g h.top] at hend
  obtain ⟨g₀, hg0⟩ := Option.isSome_iff_exists.mp h.top
  obtain ⟨r, hr⟩ := State.topJava?_eq_some.mp hg0
  have hr' : (({ U with heap := s₂.heap, slotsUsed := s₂.slotsUsed } : State).setVm s₂.vm).frames = .java g₀ :: r := hr
  rcases hq' with ⟨hqc, L, hfe, hL⟩ | ⟨q, rfl, E, ce, L, hx, hce, hcv, hcl, hW₂, hsm, hL⟩
  · obtain ⟨⟨v, rfl⟩, hW₂, e2, q2, q3, q4, q5, q6⟩ := id hfe
    have e3 : s₂ = ({ (U.calling g mk a).setFrames s₂.frames with heap := s₂.heap, slotsUsed := s₂.slotsUsed } : State).setVm s₂.vm := by
      have : s₂ = ({ s₂ with vm := (U.calling g mk a).vm } : State).setVm s₂.vm := rfl
      rw [e2] at this
      exact this
    obtain ⟨c₂, i₂, len₂, hc₂, hd₂, hf₂⟩ := hend
    have hW' : U.WarmedH s₂.vm := hW₂
    have hcc : c₂ = c := by
      have h1 : s₂.code? g.method = U.code? g.method := by
        rw [State.code?_eq, State.code?_eq, hW'.alike.method?]
      exact Option.some.inj (hc₂.symm.trans (h1.trans h.code))
    subst hcc
    have hlen : len₂ = len := by rw [hdg] at hd₂; cases hd₂; rfl
    subst hlen
    have hs₂ : s₂ = (({ U with heap := s₂.heap, slotsUsed := s₂.slotsUsed } : State).setVm s₂.vm).setTop { g with pc := g.pc + len₂, stack := v.toList ++ g.stack } := by
      refine e3.trans ?_
      rw [hf₂, State.calling_eq h.top, State.setFrames_setFrames, State.setTop_of_frames _ hr', hr]
      rfl
    have hsame : U.sameButNew ({ U with heap := s₂.heap, slotsUsed := s₂.slotsUsed } : State) L mc ms := by
      refine ⟨?_, q2, q3, q4, q5, q6⟩
      obtain ⟨t, ht, -⟩ := State.frames_cons hr
      show ({ U with heap := s₂.heap, slotsUsed := s₂.slotsUsed } : State) = { U.setFrames U.frames with heap := s₂.heap, slotsUsed := s₂.slotsUsed }
      rw [State.setFrames_self ht]
    subst hg
    refine Or.inl ⟨v, ⟨(({ U with heap := s₂.heap, slotsUsed := s₂.slotsUsed } : State).setVm s₂.vm), Ls ++ L, c0 + mc, s0 + ms⟩,
      ⟨X.admits, X.cas, X.clock, X.frames, X.room, X.hears, X.method, X.code, (X.here.setHeapUsed s₂.heap s₂.slotsUsed).setVm hW'.alike, X.tail, State.WarmedH.trans X.warmed hW', X.limits, X.bytes, X.same.trans (hsame.setVm s.vm)⟩,
      ⟨g, mk, s₂, L, rfl, rfl, hqc, rfl, hL, rfl, rfl⟩, ?_⟩
    show Steps p.tables e below _ ((({ U with heap := s₂.heap, slotsUsed := s₂.slotsUsed } : State).setVm s₂.vm).setTop { g with pc := g.pc + len₂, stack := v.toList ++ g.stack })
    rw [← hs₂]
    exact hsteps
  · obtain ⟨e2, q2, q3, q4, q5, q6⟩ := id hsm
    have e3 : s₂ = ({ (U.calling g mk a).setFrames s₂.frames with heap := s₂.heap, slotsUsed := s₂.slotsUsed } : State).setVm s₂.vm := by
      have : s₂ = ({ s₂ with vm := (U.calling g mk a).vm } : State).setVm s₂.vm := rfl
      rw [e2] at this
      exact this
    have hf₂ : s₂.frames = .throwing q :: .java g :: U.frames.tail := hend
    have hW' : U.WarmedH s₂.vm := hW₂
    have hs₂ : s₂ = ((({ U with heap := s₂.heap, slotsUsed := s₂.slotsUsed } : State).setVm s₂.vm).setTop g).pushFrame (.throwing q) := by
      refine e3.trans ?_
      rw [hf₂, State.calling_eq h.top, State.setFrames_setFrames, State.pushFrame, State.frames_setTop _ hr', State.setTop_of_frames _ hr', State.setFrames_setFrames, hr]
      rfl
    have hsame : U.sameButNew ({ U with heap := s₂.heap, slotsUsed := s₂.slotsUsed } : State) L mc ms := by
      refine ⟨?_, q2, q3, q4, q5, q6⟩
      obtain ⟨t, ht, -⟩ := State.frames_cons hr
      show ({ U with heap := s₂.heap, slotsUsed := s₂.slotsUsed } : State) = { U.setFrames U.frames with heap := s₂.heap, slotsUsed := s₂.slotsUsed }
      rw [State.setFrames_self ht]
    subst hg
    refine Or.inr ⟨q, ⟨(({ U with heap := s₂.heap, slotsUsed := s₂.slotsUsed } : State).setVm s₂.vm), Ls ++ L, c0 + mc, s0 + ms⟩,
      ⟨X.admits, X.cas, X.clock, X.frames, X.room, X.hears, X.method, X.code, (X.here.setHeapUsed s₂.heap s₂.slotsUsed).setVm hW'.alike, X.tail, State.WarmedH.trans X.warmed hW', X.limits, X.bytes, X.same.trans (hsame.setVm s.vm)⟩,
      ⟨g, mk, s₂, L, E, ce, rfl, rfl, hx, hce, hcv, hcl, rfl, hL, rfl, rfl⟩, ?_⟩
    show Steps p.tables e below _ (((({ U with heap := s₂.heap, slotsUsed := s₂.slotsUsed } : State).setVm s₂.vm).setTop g).pushFrame (.throwing q))
    rw [← hs₂]
    exact hsteps
end
variable {p : Program} {l : Launch} {e : Env} {R : Room} {s : State} {m : MethodId} {args : Array Value} {below : List Frame} {meth : Method} {c : Code} {T : State} {H : Heap} {locs : List Loc} {cells slots : Nat}
theorem vx_callVX (X : Stand p l e R s m args below meth c T locs cells slots) (hexec : p.tables.exec = Jvm.exec) {own C : String} {index : Nat} {y : MethodName} {bytes : ByteArray} {maxL : Nat} {ret : Option FieldType} {hh : List (Nat × Nat × Nat × Nat)}
    (hown : s.vm.findClass own = some m.cls) (hlink : (Cond.methodLink own index y).before args s = true) (hinst : (Cond.instanceMethod y).before args s = true) (hsel : (Cond.selects C y y).before args s = true)
    (hcode : (Cond.codeWith y bytes maxL ret hh).before args s = true) (hy : y.cls ≠ "java/lang/invoke/MethodHandle" ∧ y.cls ≠ "java/lang/invoke/VarHandle")
    {W9 : Nat} {Pre : Pt → Array Value → Prop} {Post : Pt → Array Value → Option Value → Pt → Prop} {PostX : Pt → Array Value → Addr → Pt → Prop} (hK : vx_Back l R p e below s args y 3 W9 Pre Post PostX)
    {b : Addr} {cellB : Cell} (hcell : T.heap[b]? = some cellB) (hobj : cellB.vm.isStatics = false) (hcls : s.vm.findClass C = some cellB.cls)
    {g : JFrame} (hg : g.method = m) (hsize : g.locals.size = c.maxLocals) {argsL rest : List Value} (hlen : ∀ sig, parseMethodDescriptor y.desc = some sig → argsL.length = sig.parameters.length)
    (hstack : g.stack = argsL.reverse ++ .ref b :: rest) (hW : 2 * g.monitorRoom + (rest.map fun v => v.category).sum ≤ W9) (hdg : decode c.code g.pc = .ok (.invokevirtual index, 3))
    (hpre : ∀ vm₁, s.WarmedH vm₁ → Pre ⟨T.setVm vm₁, locs, cells, slots⟩ (Value.ref b :: argsL).toArray) :
    (∃ (v : Option Value) (vm₁ : Vm) (B : Pt), s.WarmedH vm₁ ∧ Stand p l e R s m args below meth c B.U B.locs B.cells B.slots ∧ Post ⟨T.setVm vm₁, locs, cells, slots⟩ (Value.ref b :: argsL).toArray v B ∧
      ∀ target, Steps p.tables e below (B.U.setTop { g with pc := g.pc + 3, stack := v.toList ++ rest }) target → Steps p.tables e below (T.setTop g) target) ∨
    (∃ (q : Addr) (vm₁ : Vm) (B : Pt), s.WarmedH vm₁ ∧ Stand p l e R s m args below meth c B.U B.locs B.cells B.slots ∧ PostX ⟨T.setVm vm₁, locs, cells, slots⟩ (Value.ref b :: argsL).toArray q B ∧
      Steps p.tables e below (T.setTop g) ((B.U.setTop { g with stack := rest }).pushFrame (.throwing q))) := by
  obtain ⟨mk, methM, hnamed, hmethM, hstM, habM⟩ := Cond.instanceMethod_spec hinst
  obtain ⟨m8, methM', cM, hn8, hmethM', -, -, -, -, -, -, hsigM⟩ := Cond.codeWith_spec hcode
  cases Option.some.inj (hn8.symm.trans hnamed)
  cases hmethM.symm.trans hmethM'
  obtain ⟨c2, r2, m2, q1, q2, q3, q4, kP, hkP, hkPi⟩ := Cond.selects_spec hsel
  cases hcls.symm.trans q1
  cases (State.methodFound?_of_named hnamed hy).symm.trans q2
  cases hnamed.symm.trans q3
  have hselP : selectMethod e.platform s.vm cellB.cls mk = .method mk := by rw [Launch.admits_selectMethod X.admits]; exact q4
  obtain ⟨vm₁, X₁, hstep₁⟩ := X.invokevirtual hexec hown hlink hnamed hmethM hstM hkP hkPi hy (a := b) (cell := cellB) hcell
    (fun z h => by rw [h] at hobj; cases hobj) hselP hmethM habM hkP hkPi (g := g) hg (argsL := argsL) (rest := rest) (hlen _ hsigM) hstack hdg
  rcases hK m meth c ⟨T.setVm vm₁, locs, cells, slots⟩ { g with stack := rest } (.invokevirtual index) mk (Value.ref b :: argsL).toArray X₁ hg hsize hdg hW (X₁.named hnamed) (hpre vm₁ X₁.warmed) with ⟨v, B, X', hpost, hsteps⟩ | ⟨q, B, X', hpost, hsteps⟩
  · exact Or.inl ⟨v, vm₁, B, X₁.warmed, X', hpost, fun target h => hstep₁ _ fun acts => by rw [doInvoke_state]; exact hsteps.trans h⟩
  · exact Or.inr ⟨q, vm₁, B, X₁.warmed, X', hpost, hstep₁ _ fun acts => by rw [doInvoke_state]; exact hsteps⟩
theorem vx_callSX (X : Stand p l e R s m args below meth c T locs cells slots) (hexec : p.tables.exec = Jvm.exec) {own : String} {index : Nat} {y : MethodName} {bytes : ByteArray} {maxL : Nat} {ret : Option FieldType} {hh : List (Nat × Nat × Nat × Nat)}
    (hown : s.vm.findClass own = some m.cls) (hlink : (Cond.methodLink own index y).before args s = true) (hstat : (Cond.static y).before args s = true) (hinit : (Cond.initialized y.cls).before args s = true)
    (hcode : (Cond.codeWith y bytes maxL ret hh).before args s = true) (hy : y.cls ≠ "java/lang/invoke/MethodHandle" ∧ y.cls ≠ "java/lang/invoke/VarHandle")
    {W9 : Nat} {Pre : Pt → Array Value → Prop} {Post : Pt → Array Value → Option Value → Pt → Prop} {PostX : Pt → Array Value → Addr → Pt → Prop} (hK : vx_Back l R p e below s args y 3 W9 Pre Post PostX)
    {g : JFrame} (hg : g.method = m) (hsize : g.locals.size = c.maxLocals) {argsL rest : List Value} (hlen : ∀ sig, parseMethodDescriptor y.desc = some sig → argsL.length = sig.parameters.length)
    (hstack : g.stack = argsL.reverse ++ rest) (hW : 2 * g.monitorRoom + (rest.map fun v => v.category).sum ≤ W9) (hdg : decode c.code g.pc = .ok (.invokestatic index, 3))
    (hpre : ∀ vm₁, s.WarmedH vm₁ → Pre ⟨T.setVm vm₁, locs, cells, slots⟩ argsL.toArray) :
    (∃ (v : Option Value) (vm₁ : Vm) (B : Pt), s.WarmedH vm₁ ∧ Stand p l e R s m args below meth c B.U B.locs B.cells B.slots ∧ Post ⟨T.setVm vm₁, locs, cells, slots⟩ argsL.toArray v B ∧
      ∀ target, Steps p.tables e below (B.U.setTop { g with pc := g.pc + 3, stack := v.toList ++ rest }) target → Steps p.tables e below (T.setTop g) target) ∨
    (∃ (q : Addr) (vm₁ : Vm) (B : Pt), s.WarmedH vm₁ ∧ Stand p l e R s m args below meth c B.U B.locs B.cells B.slots ∧ PostX ⟨T.setVm vm₁, locs, cells, slots⟩ argsL.toArray q B ∧
      Steps p.tables e below (T.setTop g) ((B.U.setTop { g with stack := rest }).pushFrame (.throwing q))) := by
  obtain ⟨mk, methM, cM, hnamed, hmethM, -, -, -, -, -, -, hsigM⟩ := Cond.codeWith_spec hcode
  have hstatic : methM.isStatic = true := Cond.static_spec hnamed hmethM hstat
  obtain ⟨kP, hkP, -⟩ := className_of_methodNamed hnamed
  have hinitP : kP.init = .initialized := Cond.initialized_spec (findClass_of_methodNamed hnamed) hkP hinit
  obtain ⟨vm₁, X₁, hstep₁⟩ := X.invokestatic hexec hown hlink hnamed hmethM hstatic hkP hinitP hy (g := g) hg (argsL := argsL) (rest := rest) (hlen _ hsigM) hstack hdg
  rcases hK m meth c ⟨T.setVm vm₁, locs, cells, slots⟩ { g with stack := rest } (.invokestatic index) mk argsL.toArray X₁ hg hsize hdg hW (X₁.named hnamed) (hpre vm₁ X₁.warmed) with ⟨v, B, X', hpost, hsteps⟩ | ⟨q, B, X', hpost, hsteps⟩
  · exact Or.inl ⟨v, vm₁, B, X₁.warmed, X', hpost, fun target h => hstep₁ _ fun acts => by rw [doInvoke_state]; exact hsteps.trans h⟩
  · exact Or.inr ⟨q, vm₁, B, X₁.warmed, X', hpost, hstep₁ _ fun acts => by rw [doInvoke_state]; exact hsteps⟩
theorem vx_callVW (X : Stand p l e R s m args below meth c T locs cells slots) (hexec : p.tables.exec = Jvm.exec) {own C : String} {index : Nat} {y : MethodName} {bytes : ByteArray} {maxL : Nat} {ret : Option FieldType} {hh : List (Nat × Nat × Nat × Nat)}
    (hown : s.vm.findClass own = some m.cls) (hlink : (Cond.methodLink own index y).before args s = true) (hinst : (Cond.instanceMethod y).before args s = true) (hsel : (Cond.selects C y y).before args s = true)
    (hcode : (Cond.codeWith y bytes maxL ret hh).before args s = true) (hy : y.cls ≠ "java/lang/invoke/MethodHandle" ∧ y.cls ≠ "java/lang/invoke/VarHandle")
    {W9 : Nat} {Pre : Pt → Array Value → Prop} {Post : Pt → Array Value → Option Value → Pt → Prop} (hK : Back l R p e below s args y 3 W9 Pre Post)
    {b : Addr} {cellB : Cell} (hcell : T.heap[b]? = some cellB) (hobj : cellB.vm.isStatics = false) (hcls : s.vm.findClass C = some cellB.cls)
    {g : JFrame} (hg : g.method = m) (hsize : g.locals.size = c.maxLocals) {argsL rest : List Value} (hlen : ∀ sig, parseMethodDescriptor y.desc = some sig → argsL.length = sig.parameters.length)
    (hstack : g.stack = argsL.reverse ++ .ref b :: rest) (hW : 2 * g.monitorRoom + (rest.map fun v => v.category).sum ≤ W9) (hdg : decode c.code g.pc = .ok (.invokevirtual index, 3))
    (hpre : ∀ vm₁, s.WarmedH vm₁ → Pre ⟨T.setVm vm₁, locs, cells, slots⟩ (Value.ref b :: argsL).toArray) :
    ∃ (v : Option Value) (vm₁ : Vm) (B : Pt), s.WarmedH vm₁ ∧ Stand p l e R s m args below meth c B.U B.locs B.cells B.slots ∧ Post ⟨T.setVm vm₁, locs, cells, slots⟩ (Value.ref b :: argsL).toArray v B ∧
      ∀ target, Steps p.tables e below (B.U.setTop { g with pc := g.pc + 3, stack := v.toList ++ rest }) target → Steps p.tables e below (T.setTop g) target := by
  obtain ⟨mk, methM, hnamed, hmethM, hstM, habM⟩ := Cond.instanceMethod_spec hinst
  obtain ⟨m8, methM', cM, hn8, hmethM', -, -, -, -, -, -, hsigM⟩ := Cond.codeWith_spec hcode
  cases Option.some.inj (hn8.symm.trans hnamed)
  cases hmethM.symm.trans hmethM'
  obtain ⟨c2, r2, m2, q1, q2, q3, q4, kP, hkP, hkPi⟩ := Cond.selects_spec hsel
  cases hcls.symm.trans q1
  cases (State.methodFound?_of_named hnamed hy).symm.trans q2
  cases hnamed.symm.trans q3
  have hselP : selectMethod e.platform s.vm cellB.cls mk = .method mk := by rw [Launch.admits_selectMethod X.admits]; exact q4
  obtain ⟨vm₁, X₁, hstep₁⟩ := X.invokevirtual hexec hown hlink hnamed hmethM hstM hkP hkPi hy (a := b) (cell := cellB) hcell
    (fun z h => by rw [h] at hobj; cases hobj) hselP hmethM habM hkP hkPi (g := g) hg (argsL := argsL) (rest := rest) (hlen _ hsigM) hstack hdg
  obtain ⟨v, B, X', hpost, hsteps⟩ := hK m meth c ⟨T.setVm vm₁, locs, cells, slots⟩ { g with stack := rest } (.invokevirtual index) mk (Value.ref b :: argsL).toArray X₁ hg hsize hdg hW (X₁.named hnamed) (hpre vm₁ X₁.warmed)
  exact ⟨v, vm₁, B, X₁.warmed, X', hpost, fun target h => hstep₁ _ fun acts => by rw [doInvoke_state]; exact hsteps.trans h⟩
abbrev vx_CVW (R : Room) (s : State) (args : Array Value) (own C : String) (index : Nat) (y : MethodName) (bytes : ByteArray) (maxL : Nat) (ret : Option FieldType) (hh : List (Nat × Nat × Nat × Nat)) (ws : List Cond) (rm : Room) (mc ms n : Nat) : Prop :=
  (rm.cells = mc ∧ rm.slots = ms ∧ rm.frames + 1 ≤ R.frames ∧ 8 + (maxL + 11) + rm.locals ≤ R.locals ∧ (∀ w ∈ ws, ∀ (a' : Array Value) (U : State), s.WarmedH U.vm → w.before a' U = true) ∧ Cond.codeWith y bytes maxL ret hh ∈ ws) ∧
  (Cond.codeWith y bytes maxL ret hh).before args s = true ∧ (Cond.initialized y.cls).before args s = true ∧ (y.cls ≠ "java/lang/invoke/MethodHandle" ∧ y.cls ≠ "java/lang/invoke/VarHandle") ∧
  (∀ sig, parseMethodDescriptor y.desc = some sig → n = sig.parameters.length) ∧ (Cond.methodLink own index y).before args s = true ∧ (Cond.instanceMethod y).before args s = true ∧ (Cond.selects C y y).before args s = true
theorem vx_cwVW {own C : String} {index maxL mc ms : Nat} {y : MethodName} {bytes : ByteArray} {ret : Option FieldType} {hh : List (Nat × Nat × Nat × Nat)} {Ts ws ws' : List Cond} {rm : Room} (n : Nat) (ht : ∀ w ∈ Ts, w.before args s = true) (hT : GoodIn Ts (wsV own index C y ws)) (hw : ws = Cond.codeWith y bytes maxL ret hh :: ws') (hrc : rm.cells = mc) (hrs : rm.slots = ms)
    (hd : y.cls = C ∧ y.cls ≠ "java/lang/invoke/MethodHandle" ∧ y.cls ≠ "java/lang/invoke/VarHandle" ∧ (parseMethodDescriptor y.desc).map (fun d => d.parameters.length) = some n) (hR : rm.frames + 1 ≤ R.frames ∧ 8 + (maxL + 11) + rm.locals ≤ R.locals) :
    vx_CVW R s args own C index y bytes maxL ret hh ws rm mc ms n := by
  obtain ⟨hC, hd⟩ := hd
  subst hC
  have ok : ∀ w ∈ wsV own index y.cls y ws, w.before args s = true := fun w h => ht w (hT w h).1
  have hG : GoodIn Ts ws := fun w h => hT w (by unfold wsV; exact List.mem_append_right _ h)
  have hc : Cond.codeWith y bytes maxL ret hh ∈ ws := by rw [hw]; exact List.mem_cons_self
  refine ⟨⟨hrc, hrs, hR.1, hR.2, pay_in ht hG, hc⟩, ht _ (hG _ hc).1, ok _ (by simp [wsV]), ⟨hd.1, hd.2.1⟩, fun sig h => ?_, ok _ (by simp [wsV]), ok _ (by simp [wsV]), ok _ (by simp [wsV])⟩
  have h2 := hd.2.2
  rw [h] at h2
  exact (Option.some.inj h2).symm
theorem vx_runVW {y : MethodName} {bytes cc : ByteArray} {maxL nL mc ms n index : Nat} {ret : Option FieldType} {hh : List (Nat × Nat × Nat × Nat)} {ws : List Cond} {rm : Room} {Pc : Array Value → State → Prop} {Qc : Array Value → State → Outcome → State → Prop} {free : Addr → Prop} {Ts : List Cond} {own C : String} {b : Addr} {As rest : List Value} {g : JFrame}
    (S : CallFix p m c cc nL s args Ts own) (hM : Met l y ws rm Pc Qc mc ms free) (cw : vx_CVW R s args own C index y bytes maxL ret hh ws rm mc ms n) (hp : PreV s H C b Pc As)
    (hg : g.method = m) (hn : As.length = n) (hsize : g.locals.size = nL) (hstack : g.stack = As.reverse ++ .ref b :: rest) (hW : 2 * g.monitorRoom + (rest.map fun v => v.category).sum ≤ 8) (hdg : decode cc g.pc = .ok (.invokevirtual index, 3)) (hf : cells + mc ≤ R.cells ∧ slots + ms ≤ R.slots) :
    va_Run p l e R s m args below meth c H locs cells slots mc ms g rest (Qc (Value.ref b :: As).toArray) free := by
  obtain ⟨⟨hrc, hrs, hfr, hlo, hws, hcw⟩, hcode, hini, hy, hlen, hl, hin, hse⟩ := cw
  have hK : Back l R p e below s args y 3 8 (PreOf R mc ms Pc) (PostOf Qc mc ms free) := va_backW (hh := hh) (bytes := bytes) (maxL := maxL) (ret := ret) hM hp.1 hrc hrs hfr hlo hws hcw (fun a' U hW => word_at hW (Or.inl (by first | rfl | simp [Cond.onTables, Cond.keeps, Cond.steady])) hini)
  obtain ⟨hx, hb, hml, ho, -⟩ := S
  obtain ⟨-, ⟨cellB, hcB, hoB, hclB⟩, hPc⟩ := hp
  intro T hT X
  obtain ⟨v, vm₁, ⟨U', l2, c2, s2⟩, hW₁, X', ⟨g', mk, t, L, e1, e2, hq, h1, hL, h2, h3⟩, st⟩ := vx_callVW X hx (C := C) (hh := hh) (bytes := bytes) (maxL := maxL) (ret := ret) ho hl hin hse hcode hy hK (by rw [hT]; exact hcB) hoB hclB hg (hsize.trans hml.symm) (argsL := As) (rest := rest) (fun sig h => hn.trans (hlen sig h)) hstack hW (by rw [hb]; exact hdg)
    (fun vm₁ hW₁ => ⟨hf.1, hf.2, hPc (T.setVm vm₁) hT hW₁⟩)
  dsimp only [Pt.U, Pt.locs, Pt.cells, Pt.slots] at X' e1 e2 h1 h2 h3 st
  subst h1; subst h2; subst h3
  exact ⟨v, (T.setVm vm₁).calling g' mk (Value.ref b :: As).toArray, t, U', L, hT, X', hL, e1, e2, hq, st⟩
section
variable {y : MethodName} {bytes cc : ByteArray} {maxL nL mc ms n index : Nat} {ret : Option FieldType} {ws : List Cond} {rm : Room} {Pc : Array Value → State → Prop} {Qc : Array Value → State → Outcome → State → Prop} {XC : String → State → State → Prop} {free : Addr → Prop} {Ts : List Cond} {own C : String} {b : Addr} {As rest : List Value} {g : JFrame}
theorem vx_runVX {hh : List (Nat × Nat × Nat × Nat)} (S : CallFix p m c cc nL s args Ts own) (hM : vx_Met l y ws rm Pc Qc XC mc ms free) (cw : vx_CVW R s args own C index y bytes maxL ret hh ws rm mc ms n) (hp : PreV s H C b Pc As)
    (hg : g.method = m) (hn : As.length = n) (hsize : g.locals.size = nL) (hstack : g.stack = As.reverse ++ .ref b :: rest) (hW : 2 * g.monitorRoom + (rest.map fun v => v.category).sum ≤ 8) (hdg : decode cc g.pc = .ok (.invokevirtual index, 3)) (hf : cells + mc ≤ R.cells ∧ slots + ms ≤ R.slots) :
    vx_Run p l e R s m args below meth c H locs cells slots mc ms g rest (Qc (Value.ref b :: As).toArray) XC free := by
  obtain ⟨⟨hrc, hrs, hfr, hlo, hws, hcw⟩, hcode, hini, hy, hlen, hl, hin, hse⟩ := cw
  have hK : vx_Back l R p e below s args y 3 8 (PreOf R mc ms Pc) (PostOf Qc mc ms free) (vx_Post XC mc ms free) := vx_backW (hh := hh) (bytes := bytes) (maxL := maxL) (ret := ret) hM hp.1 hrc hrs hfr hlo hws hcw (fun a' U hW => word_at hW (Or.inl (by first | rfl | simp [Cond.onTables, Cond.keeps, Cond.steady])) hini)
  obtain ⟨hx, hb, hml, ho, -⟩ := S
  obtain ⟨-, ⟨cellB, hcB, hoB, hclB⟩, hPc⟩ := hp
  intro T hT X
  rcases vx_callVX X hx (C := C) (hh := hh) (bytes := bytes) (maxL := maxL) (ret := ret) ho hl hin hse hcode hy hK (by rw [hT]; exact hcB) hoB hclB hg (hsize.trans hml.symm) (argsL := As) (rest := rest) (fun sig h => hn.trans (hlen sig h)) hstack hW (by rw [hb]; exact hdg)
    (fun vm₁ hW₁ => ⟨hf.1, hf.2, hPc (T.setVm vm₁) hT hW₁⟩) with ⟨v, vm₁, ⟨U', l2, c2, s2⟩, hW₁, X', ⟨g', mk, t, L, e1, e2, hq, h1, hL, h2, h3⟩, st⟩ | ⟨q, vm₁, ⟨U', l2, c2, s2⟩, hW₁, X', ⟨g', mk, t, L, E, ce, e1, e2, hq, hce, hcv, hcl, h1, hL, h2, h3⟩, st⟩
  · dsimp only [Pt.U, Pt.locs, Pt.cells, Pt.slots] at X' e1 e2 h1 h2 h3 st
    subst h1; subst h2; subst h3
    exact Or.inl ⟨v, (T.setVm vm₁).calling g' mk (Value.ref b :: As).toArray, t, U', L, hT, X', hL, e1, e2, hq, st⟩
  · dsimp only [Pt.U, Pt.locs, Pt.cells, Pt.slots] at X' e1 e2 h1 h2 h3 st hcl
    subst h1; subst h2; subst h3
    exact Or.inr ⟨q, (T.setVm vm₁).calling g' mk (Value.ref b :: As).toArray, t, U', L, E, ce, hT, X', hL, e1, e2, hq, hce, hcv, vx_cls hW₁ hcl, st⟩
theorem vx_runSX {hh : List (Nat × Nat × Nat × Nat)} (S : CallFix p m c cc nL s args Ts own) (hM : vx_Met l y ws rm Pc Qc XC mc ms free) (cw : vx_CSW R s args own index y bytes maxL ret hh ws rm mc ms n) (hp : PreS s H Pc As)
    (hg : g.method = m) (hn : As.length = n) (hsize : g.locals.size = nL) (hstack : g.stack = As.reverse ++ rest) (hW : 2 * g.monitorRoom + (rest.map fun v => v.category).sum ≤ 8) (hdg : decode cc g.pc = .ok (.invokestatic index, 3)) (hf : cells + mc ≤ R.cells ∧ slots + ms ≤ R.slots) :
    vx_Run p l e R s m args below meth c H locs cells slots mc ms g rest (Qc As.toArray) XC free := by
  obtain ⟨⟨hrc, hrs, hfr, hlo, hws, hcw⟩, hcode, hini, hy, hlen, hl, hstt⟩ := cw
  have hK : vx_Back l R p e below s args y 3 8 (PreOf R mc ms Pc) (PostOf Qc mc ms free) (vx_Post XC mc ms free) := vx_backW (hh := hh) (bytes := bytes) (maxL := maxL) (ret := ret) hM hp.1 hrc hrs hfr hlo hws hcw (fun a' U hW => word_at hW (Or.inl (by first | rfl | simp [Cond.onTables, Cond.keeps, Cond.steady])) hini)
  obtain ⟨hx, hb, hml, ho, -⟩ := S
  intro T hT X
  rcases vx_callSX X hx (hh := hh) (bytes := bytes) (maxL := maxL) (ret := ret) ho hl hstt hini hcode hy hK hg (hsize.trans hml.symm) (argsL := As) (rest := rest) (fun sig h => hn.trans (hlen sig h)) hstack hW (by rw [hb]; exact hdg)
    (fun vm₁ hW₁ => ⟨hf.1, hf.2, hp.2 (T.setVm vm₁) hT hW₁⟩) with ⟨v, vm₁, ⟨U', l2, c2, s2⟩, hW₁, X', ⟨g', mk, t, L, e1, e2, hq, h1, hL, h2, h3⟩, st⟩ | ⟨q, vm₁, ⟨U', l2, c2, s2⟩, hW₁, X', ⟨g', mk, t, L, E, ce, e1, e2, hq, hce, hcv, hcl, h1, hL, h2, h3⟩, st⟩
  · dsimp only [Pt.U, Pt.locs, Pt.cells, Pt.slots] at X' e1 e2 h1 h2 h3 st
    subst h1; subst h2; subst h3
    exact Or.inl ⟨v, (T.setVm vm₁).calling g' mk As.toArray, t, U', L, hT, X', hL, e1, e2, hq, st⟩
  · dsimp only [Pt.U, Pt.locs, Pt.cells, Pt.slots] at X' e1 e2 h1 h2 h3 st hcl
    subst h1; subst h2; subst h3
    exact Or.inr ⟨q, (T.setVm vm₁).calling g' mk As.toArray, t, U', L, E, ce, hT, X', hL, e1, e2, hq, hce, hcv, vx_cls hW₁ hcl, st⟩
end
end VXH
theorem vx_ofWH {l : Launch} {y : MethodName} {ws ws' : List Cond} {rm : Room} {Pc : Array Value → State → Prop} {Qc : Array Value → State → Outcome → State → Prop} {XC : String → State → State → Prop} {mc ms : Nat} {free : Addr → Prop} {cc : ByteArray} {maxL : Nat} {ret : Option FieldType} {hh : List (Nat × Nat × Nat × Nat)}
    (hy : plainName y.cls = true) (hw : ws = Cond.codeWith y cc maxL ret hh :: ws')
    (body : ∀ p e s m args below meth c s₁, BodyLoose p l y (headSpec ws rm) cc maxL ret e s m args below meth c s₁ → c.maxLocals = maxL → Pc args s →
      W p l e (headSpec ws rm).room s m args below meth c s.heap [] 0 0 (vx_MQ below Qc XC args s mc ms free) (entryFrame m args maxL)) : vx_Met l y ws rm Pc Qc XC mc ms free := by
  refine MetFree.of_bodyS (code := cc) (maxLocals := maxL) (ret := ret) hy ?_ ?_
  · intro args s m h hn
    obtain ⟨m9, meth, c, hn9, h1, h2, h3, h4, -, h5, h6, -⟩ := Cond.codeWith_spec (atoms_spec (ws := ws) h _ (by rw [hw]; exact List.mem_cons_self))
    cases hn.symm.trans hn9
    exact ⟨meth, c, h1, h2, h3, h4, h5, h6⟩
  · intro p e s m args below meth c s₁ B hml hP _
    have hh0 : s₁.heap = s.heap := by rw [B.state]; rfl
    obtain ⟨t, a1, o, b1, b2, b3⟩ := body p e s m args below meth c s₁ B hml hP s₁ hh0 (Stand.of_body B)
    exact ⟨t, o, a1, b1, b2, b3⟩
/-! ===== END ===== -/
end
section
/-! The methods as the computing walk sees them: the instructions that are reached, by program. -/
def P_0 : List (Nat × FF) := [(0, lf (q_load isR 0 1)),
  (1, s_obj 4),
  (4, lf (q_load isR 0 5)),
  (5, s_new 2 2 [.inr (.inr .null), .inl 0] 8),
  (8, lf (q_dup 9)),
  (9, lf (q_push (.inl 20) 11)),
  (11, s_cI 1 1 21 14),
  (14, s_put 9 0 3 17),
  (17, lf (q_load isR 0 18)),
  (18, s_new 2 2 [.inr (.inr .null), .inl 0] 21),
  (21, lf (q_dup 22)),
  (22, lf (q_push (.inl 1200) 25)),
  (25, s_cI 1 1 21 28),
  (28, s_put 9 1 3 31),
  (31, lf (q_load isR 0 32)),
  (32, s_new 2 2 [.inr (.inr .null), .inl 0] 35),
  (35, lf (q_dup 36)),
  (36, lf (q_push (.inl 1200) 39)),
  (39, s_cI 1 1 21 42),
  (42, s_put 9 2 3 45),
  (45, lf (q_load isR 0 46)),
  (46, s_new 1 7 [.inr (.inr .null), .inr (.inr .null), .inr (.inr .null), .inr (.inr .null), .inr (.inr .null), .inl 0, .inl 0] 49),
  (49, lf (q_dup 50)),
  (50, s_cI 2 0 20 53),
  (53, s_put 9 3 3 56),
  (56, lf (q_load isR 0 57)),
  (57, s_new 1 7 [.inr (.inr .null), .inr (.inr .null), .inr (.inr .null), .inr (.inr .null), .inr (.inr .null), .inl 0, .inl 0] 60),
  (60, lf (q_dup 61)),
  (61, s_cI 2 0 20 64),
  (64, s_put 9 4 3 67),
  (67, lf (q_load isR 0 68)),
  (68, s_new 1 7 [.inr (.inr .null), .inr (.inr .null), .inr (.inr .null), .inr (.inr .null), .inr (.inr .null), .inl 0, .inl 0] 71),
  (71, lf (q_dup 72)),
  (72, s_cI 2 0 20 75),
  (75, s_put 9 5 3 78),
  (78, lf (q_load isR 0 79)),
  (79, s_new 0 3 [.inl 0, .inr (.inr .null), .inl 0] 82),
  (82, lf (q_dup 83)),
  (83, s_cI 3 0 20 86),
  (86, s_put 9 6 3 89),
  (89, lf (q_load isR 0 90)),
  (90, s_new 8 7 [.inr (.inr .null), .inr (.inr .null), .inr (.inr .null), .inr (.inr .null), .inr (.inr .null), .inr (.inr .null), .inl 0] 93),
  (93, lf (q_dup 94)),
  (94, lf (q_load isR 0 95)),
  (95, s_get 9 6 98),
  (98, lf (q_load isR 0 99)),
  (99, s_get 9 4 102),
  (102, s_cI 6 2 22 105),
  (105, s_put 9 7 3 108),
  (108, lf (q_load isR 0 109)),
  (109, s_new 6 15 [.inr (.inr .null), .inr (.inr .null), .inr (.inr .null), .inr (.inr .null), .inr (.inr .null), .inr (.inr .null), .inr (.inr .null), .inr (.inr .null), .inr (.inr .null), .inr (.inr .null), .inr (.inr .null), .inr (.inr .null), .inr (.inr .null), .inl 0, .inl 0] 112),
  (112, lf (q_dup 113)),
  (113, lf (q_load isR 0 114)),
  (114, s_get 9 1 117),
  (117, lf (q_load isR 0 118)),
  (118, s_get 9 3 121),
  (121, lf (q_load isR 0 122)),
  (122, s_get 9 4 125),
  (125, s_cI 7 3 23 128),
  (128, s_put 9 8 3 131),
  (131, lf (q_load isR 0 132)),
  (132, s_new 7 17 [.inr (.inr .null), .inr (.inr .null), .inr (.inr .null), .inr (.inr .null), .inr (.inr .null), .inr (.inr .null), .inr (.inr .null), .inr (.inr .null), .inr (.inr .null), .inr (.inr .null), .inr (.inr .null), .inr (.inr .null), .inl 0, .inl 0, .inl 0, .inr (.inl 0), .inl 0] 135),
  (135, lf (q_dup 136)),
  (136, lf (q_load isR 0 137)),
  (137, s_get 9 2 140),
  (140, lf (q_load isR 0 141)),
  (141, s_get 9 6 144),
  (144, lf (q_load isR 0 145)),
  (145, s_get 9 7 148),
  (148, lf (q_load isR 0 149)),
  (149, s_get 9 3 152),
  (152, lf (q_load isR 0 153)),
  (153, s_get 9 4 156),
  (156, lf (q_load isR 0 157)),
  (157, s_get 9 5 160),
  (160, s_cI 9 6 26 163),
  (163, s_put 9 9 3 166),
  (166, lf (q_load isR 0 167)),
  (167, lf (q_push (.inl 60) 169)),
  (169, s_newa 0 171),
  (171, s_put 9 10 3 174),
  (174, lf (q_load isR 0 175)),
  (175, lf (q_push (.inl 60) 177)),
  (177, s_newa 0 179),
  (179, s_put 9 11 3 182),
  (182, lf (q_load isR 0 183)),
  (183, lf (q_push (.inl 60) 185)),
  (185, s_newa 0 187),
  (187, s_put 9 12 3 190),
  (190, lf (q_load isR 0 191)),
  (191, lf (q_push (.inl 0) 192)),
  (192, lf (q_push (.inl 0) 193)),
  (193, lf (q_push (.inl 0) 194)),
  (194, lf (q_push (.inl 0) 195)),
  (195, lf (q_push (.inl 0) 196)),
  (196, s_cV 9 11 5 25 199)]
def D_0 : MD := (yX11_init, cX11_init, 1, none, P_0, [(199, 0)])
def P_1 : List (Nat × FF) := [(0, lf (q_load isR 0 1)),
  (1, s_obj 4),
  (4, lf (q_load isR 0 5)),
  (5, lf (q_load isI 1 6)),
  (6, s_br1 5 13 9),
  (9, lf (q_load isI 1 10)),
  (10, lf (q_goto 14)),
  (14, s_newa 1 16),
  (16, s_put 2 0 3 19)]
def D_1 : MD := (yX1_init, cX1_init, 2, none, P_1, [(19, 0)])
def P_2 : List (Nat × FF) := [(0, lf (q_load isR 0 1)),
  (1, s_obj 4),
  (4, lf (q_load isR 0 5)),
  (5, lf (q_push (.inl 1024) 8)),
  (8, s_newa 0 10),
  (10, s_put 1 0 3 13),
  (13, lf (q_load isR 0 14)),
  (14, lf (q_push (.inl 64) 16)),
  (16, s_newa 0 18),
  (18, s_put 1 1 3 21),
  (21, lf (q_load isR 0 22)),
  (22, lf (q_push (.inl 65) 24)),
  (24, s_newa 0 26),
  (26, s_put 1 2 3 29),
  (29, lf (q_load isR 0 30)),
  (30, lf (q_push (.inl 64) 32)),
  (32, s_newa 0 34),
  (34, s_put 1 3 3 37),
  (37, lf (q_load isR 0 38)),
  (38, lf (q_push (.inl 512) 41)),
  (41, s_newa 1 43),
  (43, s_put 1 4 3 46)]
def D_2 : MD := (yX0_init, cX0_init, 1, none, P_2, [(46, 0)])
def P_3 : List (Nat × FF) := [(0, lf (q_load isR 0 1)),
  (1, s_cI 4 0 20 4),
  (4, lf (q_load isR 0 5)),
  (5, s_val (.inr (.inr (.float 0))) 8),
  (8, s_put 0 1 3 11)]
def D_3 : MD := (yJx4a65c_init_da8c8, cJx4a65c_init_da8c8, 1, none, P_3, [(11, 0)])
def P_4 : List (Nat × FF) := [(0, lf (q_load isR 0 1)),
  (1, s_cI 5 0 20 4),
  (4, lf (q_load isR 0 5)),
  (5, lf (q_push (.inl 0) 6)),
  (6, s_put 0 0 0 9)]
def D_4 : MD := (yJxc12de_init_da8c8, cJxc12de_init_da8c8, 1, none, P_4, [(9, 0)])
def P_5 : List (Nat × FF) := [(0, lf (q_load isR 0 1)),
  (1, s_obj 4)]
def D_5 : MD := (yJxa1e45_init_da8c8, cJxa1e45_init_da8c8, 1, none, P_5, [(4, 0)])
def P_6 : List (Nat × FF) := [(0, lf (q_load isR 0 1)),
  (1, s_obj 4),
  (4, lf (q_load isR 0 5)),
  (5, lf (q_push (.inl 3460) 8)),
  (8, s_newa 0 10),
  (10, s_put 8 2 3 13),
  (13, lf (q_load isR 0 14)),
  (14, lf (q_push (.inl 3460) 17)),
  (17, s_newa 0 19),
  (19, s_put 8 3 3 22),
  (22, lf (q_load isR 0 23)),
  (23, lf (q_push (.inl 3460) 26)),
  (26, s_newa 0 28),
  (28, s_put 8 4 3 31),
  (31, lf (q_load isR 0 32)),
  (32, lf (q_push (.inl 60) 34)),
  (34, s_newa 0 36),
  (36, s_put 8 5 3 39),
  (39, lf (q_load isR 0 40)),
  (40, lf (q_load isR 1 41)),
  (41, s_put 8 0 3 44),
  (44, lf (q_load isR 0 45)),
  (45, lf (q_load isR 2 46)),
  (46, s_put 8 1 3 49)]
def D_6 : MD := (yX10_init, cX10_init, 3, none, P_6, [(49, 0)])
def P_7 : List (Nat × FF) := [(0, lf (q_load isR 0 1)),
  (1, s_obj 4),
  (4, lf (q_load isR 0 5)),
  (5, s_new 2 2 [.inr (.inr .null), .inl 0] 8),
  (8, lf (q_dup 9)),
  (9, lf (q_push (.inl 1200) 12)),
  (12, s_cI 1 1 21 15),
  (15, s_put 6 4 3 18),
  (18, lf (q_load isR 0 19)),
  (19, s_new 2 2 [.inr (.inr .null), .inl 0] 22),
  (22, lf (q_dup 23)),
  (23, lf (q_push (.inl 1200) 26)),
  (26, s_cI 1 1 21 29),
  (29, s_put 6 5 3 32),
  (32, lf (q_load isR 0 33)),
  (33, s_new 2 2 [.inr (.inr .null), .inl 0] 36),
  (36, lf (q_dup 37)),
  (37, lf (q_push (.inl 16) 39)),
  (39, s_cI 1 1 21 42),
  (42, s_put 6 6 3 45),
  (45, lf (q_load isR 0 46)),
  (46, s_new 2 2 [.inr (.inr .null), .inl 0] 49),
  (49, lf (q_dup 50)),
  (50, lf (q_push (.inl 41) 52)),
  (52, s_cI 1 1 21 55),
  (55, s_put 6 7 3 58),
  (58, lf (q_load isR 0 59)),
  (59, lf (q_push (.inl 1200) 62)),
  (62, s_newa 0 64),
  (64, s_put 6 8 3 67),
  (67, lf (q_load isR 0 68)),
  (68, lf (q_push (.inl 16) 70)),
  (70, s_newa 0 72),
  (72, s_put 6 9 3 75),
  (75, lf (q_load isR 0 76)),
  (76, lf (q_push (.inl 401) 79)),
  (79, s_newa 0 81),
  (81, s_put 6 10 3 84),
  (84, lf (q_load isR 0 85)),
  (85, lf (q_push (.inl 401) 88)),
  (88, s_newa 0 90),
  (90, s_put 6 11 3 93),
  (93, lf (q_load isR 0 94)),
  (94, lf (q_push (.inl 401) 97)),
  (97, s_newa 0 99),
  (99, s_put 6 12 3 102),
  (102, lf (q_load isR 0 103)),
  (103, lf (q_load isR 1 104)),
  (104, s_put 6 0 3 107),
  (107, lf (q_load isR 0 108)),
  (108, lf (q_load isR 2 109)),
  (109, s_put 6 1 3 112),
  (112, lf (q_load isR 0 113)),
  (113, lf (q_load isR 3 114)),
  (114, s_put 6 2 3 117),
  (117, lf (q_load isR 0 118)),
  (118, s_new 3 5 [.inr (.inr .null), .inr (.inr .null), .inr (.inr .null), .inl 0, .inl 0] 121),
  (121, lf (q_dup 122)),
  (122, lf (q_load isR 1 123)),
  (123, s_cI 8 1 21 126),
  (126, s_put 6 3 3 129)]
def D_7 : MD := (yX7_init, cX7_init, 4, none, P_7, [(129, 0)])
def P_8 : List (Nat × FF) := [(0, lf (q_load isR 0 1)),
  (1, s_obj 4),
  (4, lf (q_load isR 0 5)),
  (5, lf (q_push (.inl 9) 7)),
  (7, s_newa 0 9),
  (9, s_put 3 1 3 12),
  (12, lf (q_load isR 0 13)),
  (13, lf (q_push (.inl 9) 15)),
  (15, s_newa 0 17),
  (17, s_put 3 2 3 20),
  (20, lf (q_load isR 0 21)),
  (21, lf (q_load isR 1 22)),
  (22, s_put 3 0 3 25)]
def D_8 : MD := (yX4_init, cX4_init, 2, none, P_8, [(25, 0)])
def P_9 : List (Nat × FF) := [(0, lf (q_load isR 0 1)),
  (1, s_obj 4),
  (4, lf (q_load isR 0 5)),
  (5, lf (q_push (.inl 21) 7)),
  (7, s_newa 3 9),
  (9, s_put 7 7 3 12),
  (12, lf (q_load isR 0 13)),
  (13, lf (q_push (.inl 21) 15)),
  (15, s_newa 3 17),
  (17, s_put 7 8 3 20),
  (20, lf (q_load isR 0 21)),
  (21, lf (q_push (.inl 21) 23)),
  (23, s_newa 2 25),
  (25, s_put 7 9 3 28),
  (28, lf (q_load isR 0 29)),
  (29, lf (q_push (.inl 1200) 32)),
  (32, s_newa 0 34),
  (34, s_put 7 10 3 37),
  (37, lf (q_load isR 0 38)),
  (38, s_new 2 2 [.inr (.inr .null), .inl 0] 41),
  (41, lf (q_dup 42)),
  (42, lf (q_push (.inl 16) 44)),
  (44, s_cI 1 1 21 47),
  (47, s_put 7 11 3 50),
  (50, lf (q_load isR 0 51)),
  (51, lf (q_load isR 1 52)),
  (52, s_put 7 0 3 55),
  (55, lf (q_load isR 0 56)),
  (56, lf (q_load isR 2 57)),
  (57, s_put 7 1 3 60),
  (60, lf (q_load isR 0 61)),
  (61, lf (q_load isR 3 62)),
  (62, s_put 7 2 3 65),
  (65, lf (q_load isR 0 66)),
  (66, lf (q_load isR 4 68)),
  (68, s_put 7 3 3 71),
  (71, lf (q_load isR 0 72)),
  (72, lf (q_load isR 5 74)),
  (74, s_put 7 4 3 77),
  (77, lf (q_load isR 0 78)),
  (78, lf (q_load isR 6 80)),
  (80, s_put 7 5 3 83),
  (83, lf (q_load isR 0 84)),
  (84, s_new 4 9 [.inr (.inr .null), .inl 0, .inl 0, .inl 0, .inl 0, .inl 0, .inl 0, .inl 0, .inl 0] 87),
  (87, lf (q_dup 88)),
  (88, lf (q_load isR 1 89)),
  (89, s_cI 10 1 21 92),
  (92, s_put 7 6 3 95)]
def D_9 : MD := (yX8_init, cX8_init, 7, none, P_9, [(95, 0)])
def P_10 : List (Nat × FF) := [(0, lf (q_load isR 0 1)),
  (1, s_obj 4),
  (4, lf (q_load isR 0 5)),
  (5, lf (q_load isR 1 6)),
  (6, s_put 4 0 3 9)]
def D_10 : MD := (yX5_init, cX5_init, 2, none, P_10, [(9, 0)])
def P_11 : List (Nat × FF) := [(0, lf (q_load isR 0 1)),
  (1, s_get 9 0 4),
  (4, s_cV 2 12 0 20 7),
  (7, lf (q_load isR 0 8)),
  (8, s_get 9 0 11),
  (11, lf (q_load isI 1 12)),
  (12, s_cV 2 13 1 21 15),
  (15, lf (q_load isR 0 16)),
  (16, s_get 9 0 19),
  (19, lf (q_load isI 2 20)),
  (20, s_cV 2 13 1 21 23),
  (23, lf (q_load isR 0 24)),
  (24, s_get 9 0 27),
  (27, lf (q_load isI 3 28)),
  (28, s_cV 2 13 1 21 31),
  (31, lf (q_load isR 0 32)),
  (32, s_get 9 0 35),
  (35, lf (q_load isI 4 37)),
  (37, s_cV 2 13 1 21 40),
  (40, lf (q_load isR 0 41)),
  (41, s_get 9 0 44),
  (44, lf (q_load isI 5 46)),
  (46, s_cV 2 13 1 21 49)]
def D_11 : MD := (yX11_makeReady, cX11_makeReady, 6, none, P_11, [(49, 0)])
def P_12 : List (Nat × FF) := [(0, lf (q_load isR 0 1)),
  (1, lf (q_push (.inl 0) 2)),
  (2, s_put 2 1 0 5)]
def D_12 : MD := (yX1_clear, cX1_clear, 1, none, P_12, [(5, 0)])
def P_13 : List (Nat × FF) := [(0, lf (q_load isR 0 1)),
  (1, lf (q_load isI 1 2)),
  (2, lf (q_push (.inl 24) 4)),
  (4, lf (q_bin shrA 5)),
  (5, s_cV 2 14 1 21 8),
  (8, lf (q_load isR 0 9)),
  (9, lf (q_load isI 1 10)),
  (10, lf (q_push (.inl 16) 12)),
  (12, lf (q_bin shrA 13)),
  (13, s_cV 2 14 1 21 16),
  (16, lf (q_load isR 0 17)),
  (17, lf (q_load isI 1 18)),
  (18, lf (q_push (.inl 8) 20)),
  (20, lf (q_bin shrA 21)),
  (21, s_cV 2 14 1 21 24),
  (24, lf (q_load isR 0 25)),
  (25, lf (q_load isI 1 26)),
  (26, s_cV 2 14 1 21 29)]
def D_13 : MD := (yX1_putNumber, cX1_putNumber, 2, none, P_13, [(29, 0)])
def P_14 : List (Nat × FF) := [(0, lf (q_load isR 0 1)),
  (1, s_get 2 1 4),
  (4, s_br1 2 40 7),
  (7, lf (q_load isR 0 8)),
  (8, s_get 2 1 11),
  (11, lf (q_load isR 0 12)),
  (12, s_get 2 0 15),
  (15, s_alen 16),
  (16, s_br2 3 40 19),
  (19, lf (q_load isR 0 20)),
  (20, s_get 2 0 23),
  (23, lf (q_load isR 0 24)),
  (24, s_get 2 1 27),
  (27, lf (q_load isI 1 28)),
  (28, lf (q_un i2bA 29)),
  (29, s_ast (fun t => Nat.beq t 1 || Nat.beq t 2) cvB 30),
  (30, lf (q_load isR 0 31)),
  (31, lf (q_dup 32)),
  (32, s_get 2 1 35),
  (35, lf (q_push (.inl 1) 36)),
  (36, lf (q_bin (iop2 (fun x y => x + y)) 37)),
  (37, s_put 2 1 0 40)]
def D_14 : MD := (yX1_put, cX1_put, 2, none, P_14, [(40, 0)])
def P_15 : List (Nat × FF) := [(0, lf (q_load isR 0 1)),
  (1, s_obj 4),
  (4, lf (q_load isR 0 5)),
  (5, lf (q_push (.inl 20) 7)),
  (7, s_newa 1 9),
  (9, s_put 10 1 3 12),
  (12, lf (q_load isR 0 13)),
  (13, lf (q_push (.inl 1200) 16)),
  (16, s_newa 1 18),
  (18, s_put 10 2 3 21),
  (21, lf (q_load isR 0 22)),
  (22, s_val (.inl 240000) 24),
  (24, s_newa 1 26),
  (26, s_put 10 6 3 29),
  (29, lf (q_load isR 0 30)),
  (30, lf (q_push (.inl 200) 33)),
  (33, s_newa 0 35),
  (35, s_put 10 7 3 38),
  (38, lf (q_load isR 0 39)),
  (39, lf (q_push (.inl 200) 42)),
  (42, s_newa 2 44),
  (44, s_put 10 8 3 47),
  (47, lf (q_load isR 0 48)),
  (48, lf (q_push (.inl 19200) 51)),
  (51, s_newa 1 53),
  (53, s_put 10 9 3 56),
  (56, lf (q_load isR 0 57)),
  (57, lf (q_push (.inl 1600) 60)),
  (60, s_newa 0 62),
  (62, s_put 10 10 3 65),
  (65, lf (q_load isR 0 66)),
  (66, lf (q_push (.inl 200) 69)),
  (69, s_newa 0 71),
  (71, s_put 10 11 3 74),
  (74, lf (q_load isR 0 75)),
  (75, lf (q_push (.inl 4294967295) 76)),
  (76, s_put 10 12 0 79),
  (79, lf (q_load isR 0 80)),
  (80, lf (q_push (.inl 4) 81)),
  (81, s_newa 0 83),
  (83, s_put 10 13 3 86),
  (86, lf (q_load isR 0 87)),
  (87, s_val (.inl 40960) 89),
  (89, s_newa 1 91),
  (91, s_put 10 14 3 94),
  (94, lf (q_load isR 0 95)),
  (95, lf (q_push (.inl 2560) 98)),
  (98, s_newa 0 100),
  (100, s_put 10 15 3 103),
  (103, lf (q_load isR 0 104)),
  (104, lf (q_push (.inl 60) 106)),
  (106, s_newa 1 108),
  (108, s_put 10 17 3 111),
  (111, lf (q_load isR 0 112)),
  (112, lf (q_push (.inl 960) 115)),
  (115, s_newa 1 117),
  (117, s_put 10 20 3 120),
  (120, lf (q_load isR 0 121)),
  (121, lf (q_push (.inl 16) 123)),
  (123, s_newa 0 125),
  (125, s_put 10 21 3 128),
  (128, lf (q_load isR 0 129)),
  (129, lf (q_push (.inl 1300) 132)),
  (132, s_newa 1 134),
  (134, s_put 10 22 3 137),
  (137, lf (q_load isR 0 138)),
  (138, lf (q_push (.inl 4000) 141)),
  (141, s_newa 1 143),
  (143, s_put 10 24 3 146),
  (146, lf (q_load isR 0 147)),
  (147, lf (q_push (.inl 1300) 150)),
  (150, s_newa 1 152),
  (152, s_put 10 27 3 155),
  (155, lf (q_load isR 0 156)),
  (156, lf (q_push (.inl 4000) 159)),
  (159, s_newa 0 161),
  (161, s_put 10 30 3 164),
  (164, lf (q_load isR 0 165)),
  (165, lf (q_push (.inl 4000) 168)),
  (168, s_newa 0 170),
  (170, s_put 10 31 3 173),
  (173, lf (q_load isR 0 174)),
  (174, lf (q_push (.inl 4000) 177)),
  (177, s_newa 0 179),
  (179, s_put 10 32 3 182),
  (182, lf (q_load isR 0 183)),
  (183, lf (q_push (.inl 1300) 186)),
  (186, s_newa 0 188),
  (188, s_put 10 34 3 191),
  (191, lf (q_load isR 0 192)),
  (192, lf (q_push (.inl 1300) 195)),
  (195, s_newa 0 197),
  (197, s_put 10 35 3 200),
  (200, lf (q_load isR 0 201)),
  (201, s_val (.inl 72000) 203),
  (203, s_newa 1 205),
  (205, s_put 10 38 3 208),
  (208, lf (q_load isR 0 209)),
  (209, lf (q_push (.inl 1200) 212)),
  (212, s_newa 0 214),
  (214, s_put 10 39 3 217),
  (217, lf (q_load isR 0 218)),
  (218, lf (q_push (.inl 1200) 221)),
  (221, s_newa 0 223),
  (223, s_put 10 40 3 226),
  (226, lf (q_load isR 0 227)),
  (227, lf (q_push (.inl 1200) 230)),
  (230, s_newa 0 232),
  (232, s_put 10 41 3 235),
  (235, lf (q_load isR 0 236)),
  (236, lf (q_push (.inl 200) 239)),
  (239, s_newa 0 241),
  (241, s_put 10 42 3 244),
  (244, lf (q_load isR 0 245)),
  (245, lf (q_push (.inl 1200) 248)),
  (248, s_newa 1 250),
  (250, s_put 10 43 3 253),
  (253, lf (q_load isR 0 254)),
  (254, lf (q_push (.inl 810) 257)),
  (257, s_newa 0 259),
  (259, s_put 10 49 3 262),
  (262, lf (q_load isR 0 263)),
  (263, lf (q_push (.inl 810) 266)),
  (266, s_newa 0 268),
  (268, s_put 10 50 3 271),
  (271, lf (q_load isR 0 272)),
  (272, lf (q_push (.inl 810) 275)),
  (275, s_newa 0 277),
  (277, s_put 10 51 3 280),
  (280, lf (q_load isR 0 281)),
  (281, lf (q_push (.inl 810) 284)),
  (284, s_newa 2 286),
  (286, s_put 10 52 3 289),
  (289, lf (q_load isR 0 290)),
  (290, lf (q_push (.inl 810) 293)),
  (293, s_newa 3 295),
  (295, s_put 10 53 3 298),
  (298, lf (q_load isR 0 299)),
  (299, lf (q_push (.inl 810) 302)),
  (302, s_newa 3 304),
  (304, s_put 10 54 3 307),
  (307, lf (q_load isR 0 308)),
  (308, lf (q_push (.inl 3000) 311)),
  (311, s_newa 0 313),
  (313, s_put 10 55 3 316),
  (316, lf (q_load isR 0 317)),
  (317, lf (q_push (.inl 1300) 320)),
  (320, s_newa 0 322),
  (322, s_put 10 56 3 325),
  (325, lf (q_load isR 0 326)),
  (326, lf (q_push (.inl 1300) 329)),
  (329, s_newa 2 331),
  (331, s_put 10 57 3 334),
  (334, lf (q_load isR 0 335)),
  (335, lf (q_push (.inl 10240) 338)),
  (338, s_newa 1 340),
  (340, s_put 10 58 3 343),
  (343, lf (q_load isR 0 344)),
  (344, lf (q_push (.inl 640) 347)),
  (347, s_newa 0 349),
  (349, s_put 10 59 3 352),
  (352, lf (q_load isR 0 353)),
  (353, lf (q_push (.inl 200) 356)),
  (356, s_newa 0 358),
  (358, s_put 10 64 3 361),
  (361, lf (q_load isR 0 362)),
  (362, lf (q_push (.inl 200) 365)),
  (365, s_newa 0 367),
  (367, s_put 10 65 3 370),
  (370, lf (q_load isR 0 371)),
  (371, lf (q_push (.inl 200) 374)),
  (374, s_newa 3 376),
  (376, s_put 10 66 3 379),
  (379, lf (q_load isR 0 380)),
  (380, s_val (.inl 640000) 382),
  (382, s_newa 1 384),
  (384, s_put 10 68 3 387),
  (387, lf (q_load isR 0 388)),
  (388, s_val (.inl 40000) 390),
  (390, s_newa 0 392),
  (392, s_put 10 69 3 395)]
def D_15 : MD := (yX12_init, cX12_init, 1, none, P_15, [(395, 0)])
def P_16 : List (Nat × FF) := [(0, lf (q_load isR 0 1)),
  (1, lf (q_load isI 1 2)),
  (2, lf (q_load isI 2 3)),
  (3, lf (q_load isI 3 4)),
  (4, lf (q_load isI 4 6)),
  (6, lf (q_load isI 5 8)),
  (8, s_cV 9 11 5 25 11)]
def D_16 : MD := (yX11_feed, cX11_feed, 6, none, P_16, [(11, 0)])
def P_17 : List (Nat × FF) := [(0, lf (q_load isI 1 1)),
  (1, s_br1 2 25 4),
  (4, lf (q_load isI 1 5)),
  (5, lf (q_push (.inl 20) 7)),
  (7, s_br2 4 25 10),
  (10, lf (q_load isR 0 11)),
  (11, s_get 9 1 14),
  (14, s_cV 2 18 0 20 17),
  (17, lf (q_load isI 1 18)),
  (18, lf (q_bin (iop2 (fun x y => x + y)) 19)),
  (19, lf (q_push (.inl 1200) 22)),
  (22, s_br2 5 27 25),
  (25, lf (q_push (.inl 4294967295) 26)),
  (27, lf (q_load isR 0 28)),
  (28, s_get 9 1 31),
  (31, lf (q_load isR 0 32)),
  (32, s_get 9 0 35),
  (35, lf (q_push (.inl 0) 36)),
  (36, lf (q_load isI 1 37)),
  (37, s_cV 2 19 3 24 40),
  (40, lf (q_load isR 0 41)),
  (41, lf (q_push (.inl 0) 42)),
  (42, lf (q_push (.inl 0) 43)),
  (43, lf (q_push (.inl 0) 44)),
  (44, lf (q_push (.inl 0) 45)),
  (45, lf (q_push (.inl 0) 46)),
  (46, s_cV 9 11 5 25 49),
  (49, lf (q_load isR 0 50)),
  (50, s_get 9 1 53),
  (53, s_cV 2 18 0 20 56)]
def D_17 : MD := (yX11_end, cX11_end, 2, (some .int), P_17, [(26, 1), (56, 1)])
def P_18 : List (Nat × FF) := [(0, lf (q_load isR 0 1)),
  (1, s_get 2 1 4)]
def D_18 : MD := (yX1_size, cX1_size, 1, (some .int), P_18, [(4, 1)])
def P_19 : List (Nat × FF) := [(0, lf (q_load isI 2 1)),
  (1, lf (q_store isI up1 0 4 5 3)),
  (3, lf (q_load isI 4 5)),
  (5, lf (q_load isI 3 6)),
  (6, s_br2 3 25 9),
  (9, lf (q_load isR 0 10)),
  (10, lf (q_load isR 1 11)),
  (11, lf (q_load isI 4 13)),
  (13, s_cV 2 20 1 21 16),
  (16, s_cV 2 14 1 21 19),
  (19, lf (q_iinc 4 1 5 22)),
  (22, lf (q_goto 3))]
def D_19 : MD := (yX1_putAll, cX1_putAll, 5, none, P_19, [(25, 0)])
def P_20 : List (Nat × FF) := [(0, lf (q_load isI 1 1)),
  (1, s_br1 2 34 4),
  (4, lf (q_load isI 1 5)),
  (5, lf (q_load isR 0 6)),
  (6, s_get 2 1 9),
  (9, s_br2 3 34 12),
  (12, lf (q_load isI 1 13)),
  (13, lf (q_load isR 0 14)),
  (14, s_get 2 0 17),
  (17, s_alen 18),
  (18, s_br2 3 34 21),
  (21, lf (q_load isR 0 22)),
  (22, s_get 2 0 25),
  (25, lf (q_load isI 1 26)),
  (26, s_ald (fun t => Nat.beq t 1 || Nat.beq t 2) isI (.inl 0) 27),
  (27, lf (q_push (.inl 255) 30)),
  (30, lf (q_bin (iop2 (fun x y => x &&& y)) 31)),
  (31, lf (q_goto 35)),
  (34, lf (q_push (.inl 4294967295) 35))]
def D_20 : MD := (yX1_byteAt, cX1_byteAt, 2, (some .int), P_20, [(35, 1)])
def P_21 : List (Nat × FF) := [(0, lf (q_load isR 0 1)),
  (1, s_get 9 6 4),
  (4, s_cV 0 22 0 20 7),
  (7, lf (q_push (.inl 60) 9)),
  (9, s_br2 3 22 12),
  (12, lf (q_load isR 0 13)),
  (13, s_get 9 15 16),
  (16, lf (q_push (.inl 200) 19)),
  (19, s_br2 2 32 22),
  (32, lf (q_load isR 0 33)),
  (33, s_get 9 6 36),
  (36, lf (q_load isR 0 37)),
  (37, s_get 9 8 40),
  (40, lf (q_load isR 0 41)),
  (41, s_get 9 15 44),
  (44, s_cV 6 23 1 26 47),
  (47, s_cV 0 66 1 21 50),
  (50, lf (q_pop 51)),
  (51, lf (q_load isR 0 52)),
  (52, s_get 9 1 55),
  (55, s_cV 2 12 0 20 58),
  (58, lf (q_load isR 0 59)),
  (59, s_get 9 7 62),
  (62, s_cV 8 70 0 20 65),
  (65, lf (q_load isR 0 66)),
  (66, lf (q_dup 67)),
  (67, s_get 9 15 70),
  (70, lf (q_push (.inl 1) 71)),
  (71, lf (q_bin (iop2 (fun x y => x + y)) 72)),
  (72, s_put 9 15 0 75),
  (75, lf (q_load isR 0 76)),
  (76, s_get 9 15 79),
  (79, lf (q_push (.inl 1) 80)),
  (80, lf (q_bin (iop2 (fun x y => x - y)) 81))]
def D_21 : MD := (yX11_add, cX11_add, 1, (some .int), P_21, [(81, 1)])
def P_22 : List (Nat × FF) := [(0, lf (q_load isR 0 1)),
  (1, s_get 0 2 4)]
def D_22 : MD := (yJx4a65c_size_8abf5, cJx4a65c_size_8abf5, 1, (some .int), P_22, [(4, 1)])
def P_23 : List (Nat × FF) := [(0, lf (q_load isR 0 1)),
  (1, s_get 6 3 4),
  (4, lf (q_push (.inl 0) 5)),
  (5, lf (q_load isR 0 6)),
  (6, s_get 6 0 9),
  (9, s_cV 2 18 0 20 12),
  (12, s_cV 3 24 2 29 15),
  (15, lf (q_load isR 0 16)),
  (16, s_cV 6 26 0 20 19),
  (19, lf (q_store isI up1 0 2 7 20)),
  (20, lf (q_load isR 0 21)),
  (21, s_cV 6 47 0 22 24),
  (24, lf (q_store isI up1 0 3 7 25)),
  (25, lf (q_load isR 0 26)),
  (26, s_cV 6 50 0 21 29),
  (29, lf (q_store isR up1 0 4 7 31)),
  (31, lf (q_push (.inl 5) 32)),
  (32, s_newa 0 34),
  (34, lf (q_store isR up1 0 5 7 36)),
  (36, lf (q_load isR 0 37)),
  (37, lf (q_push (.inl 0) 38)),
  (38, s_put 6 13 0 41),
  (41, lf (q_push (.inl 0) 42)),
  (42, lf (q_store isI up1 0 6 7 44)),
  (44, lf (q_load isI 6 46)),
  (46, lf (q_push (.inl 2) 47)),
  (47, s_br2 4 105 50),
  (50, lf (q_load isR 0 51)),
  (51, s_get 6 3 54),
  (54, lf (q_load isI 6 56)),
  (56, lf (q_load isR 0 57)),
  (57, s_get 6 4 60),
  (60, s_cV 3 27 2 25 63),
  (63, lf (q_load isR 0 64)),
  (64, s_get 6 5 67),
  (67, s_cV 2 12 0 20 70),
  (70, lf (q_load isR 0 71)),
  (71, s_get 6 4 74),
  (74, lf (q_load isR 0 75)),
  (75, s_get 6 5 78),
  (78, s_cS 54 2 25 81),
  (81, lf (q_load isR 0 82)),
  (82, lf (q_push (.inl 1200) 85)),
  (85, s_cV 6 55 1 23 88),
  (88, lf (q_load isR 5 90)),
  (90, lf (q_load isI 6 92)),
  (92, lf (q_push (.inl 1) 93)),
  (93, lf (q_bin (iop2 (fun x y => x + y)) 94)),
  (94, lf (q_load isR 0 95)),
  (95, s_get 6 13 98),
  (98, s_ast (fun t => Nat.beq t 0) cvI 99),
  (99, lf (q_iinc 6 1 7 102)),
  (102, lf (q_goto 44)),
  (105, lf (q_load isR 0 106)),
  (106, s_cV 6 57 0 21 109),
  (109, lf (q_load isR 0 110)),
  (110, lf (q_push (.inl 200) 113)),
  (113, s_cV 6 55 1 23 116),
  (116, lf (q_load isR 5 118)),
  (118, lf (q_push (.inl 4) 119)),
  (119, lf (q_load isR 0 120)),
  (120, s_get 6 13 123),
  (123, s_ast (fun t => Nat.beq t 0) cvI 124),
  (124, s_new 5 8 [.inl 0, .inr (.inr .null), .inr (.inr .null), .inl 0, .inl 0, .inr (.inr .null), .inr (.inr .null), .inl 0] 127),
  (127, lf (q_dup 128)),
  (128, lf (q_load isI 1 129)),
  (129, lf (q_load isR 0 130)),
  (130, s_get 6 8 133),
  (133, lf (q_load isR 0 134)),
  (134, s_get 6 13 137),
  (137, s_cS 52 2 21 140),
  (140, lf (q_load isR 5 142)),
  (142, lf (q_load isI 2 143)),
  (143, lf (q_load isI 3 144)),
  (144, lf (q_load isR 4 146)),
  (146, s_cI 65 6 26 149)]
def D_23 : MD := (yX7_read, cX7_read, 7, (some (.object "MailArchive$Message")), P_23, [(149, 3)])
def P_24 : List (Nat × FF) := [(0, lf (q_load isR 0 1)),
  (1, lf (q_load isI 2 2)),
  (2, s_put 3 4 0 5),
  (5, lf (q_load isR 0 6)),
  (6, s_get 3 1 9),
  (9, lf (q_push (.inl 0) 10)),
  (10, s_cS 25 2 23 13),
  (13, lf (q_load isR 0 14)),
  (14, s_get 3 2 17),
  (17, lf (q_push (.inl 0) 18)),
  (18, s_cS 25 2 23 21),
  (21, lf (q_load isR 0 22)),
  (22, lf (q_load isI 1 23)),
  (23, s_put 3 3 0 26),
  (26, lf (q_push (.inl 4294967295) 27)),
  (27, lf (q_store isI up1 0 3 10 28)),
  (28, lf (q_push (.inl 0) 29)),
  (29, lf (q_store isI up1 0 4 10 31)),
  (31, lf (q_load isI 1 32)),
  (32, lf (q_store isI up1 0 5 10 34)),
  (34, lf (q_load isI 5 36)),
  (36, lf (q_load isR 0 37)),
  (37, s_get 3 4 40),
  (40, s_br2 3 205 43)]
def D_24 : MD := (yX4_readLines, cX4_readLines, 10, none, P_24, [(205, 0)])
def P_25 : List (Nat × FF) := [(0, lf (q_push (.inl 0) 1)),
  (1, lf (q_store isI up1 0 2 4 2)),
  (2, lf (q_load isR 0 3)),
  (3, s_alen 4),
  (4, lf (q_store isI up1 0 3 4 5)),
  (5, lf (q_load isI 2 6)),
  (6, lf (q_load isI 3 7)),
  (7, s_br2 3 20 10),
  (10, lf (q_load isR 0 11)),
  (11, lf (q_load isI 2 12)),
  (12, lf (q_load isI 1 13)),
  (13, s_ast (fun t => Nat.beq t 0) cvI 14),
  (14, lf (q_iinc 2 1 4 17)),
  (17, lf (q_goto 5))]
def D_25 : MD := (yJ7_fill_53178, cJ7_fill_53178, 4, none, P_25, [(20, 0)])
def P_26 : List (Nat × FF) := [(0, lf (q_load isR 0 1)),
  (1, s_get 6 3 4),
  (4, lf (q_push (.inl 3) 5)),
  (5, lf (q_load isR 0 6)),
  (6, s_get 6 4 9),
  (9, s_cV 3 27 2 25 12),
  (12, lf (q_load isR 0 13)),
  (13, s_get 6 4 16),
  (16, s_cS 29 1 27 19)]
def D_26 : MD := (yX7_readDate, cX7_readDate, 1, (some .int), P_26, [(19, 1)])
def P_27 : List (Nat × FF) := [(0, lf (q_load isR 2 1)),
  (1, s_cV 2 12 0 20 4),
  (4, lf (q_load isI 1 5)),
  (5, s_br1 2 14 8),
  (8, lf (q_load isI 1 9)),
  (9, lf (q_push (.inl 9) 11)),
  (11, s_br2 2 15 14),
  (15, lf (q_push (.inl 1) 16)),
  (16, lf (q_store isI up1 0 3 6 17)),
  (17, lf (q_load isR 0 18)),
  (18, s_get 3 1 21),
  (21, lf (q_load isI 1 22)),
  (22, s_ald (fun t => Nat.beq t 0) isI (.inl 0) 23),
  (23, lf (q_store isI up1 0 4 6 25)),
  (25, lf (q_load isI 4 27)),
  (27, lf (q_load isR 0 28)),
  (28, s_get 3 2 31),
  (31, lf (q_load isI 1 32)),
  (32, s_ald (fun t => Nat.beq t 0) isI (.inl 0) 33),
  (33, s_br2 3 121 36),
  (121, lf (q_load isR 2 122)),
  (122, s_cV 2 28 0 20 125)]
def D_27 : MD := (yX4_writeValue, cX4_writeValue, 6, none, P_27, [(125, 0)])
def P_28 : List (Nat × FF) := [(0, lf (q_load isR 0 1)),
  (1, s_get 2 1 4),
  (4, s_br1 5 36 7)]
def D_28 : MD := (yX1_cutBlanksAtEnd, cX1_cutBlanksAtEnd, 1, none, P_28, [(36, 0)])
def P_29 : List (Nat × FF) := [(0, lf (q_load isR 0 1)),
  (1, lf (q_push (.inl 0) 2)),
  (2, s_cS 30 2 22 5),
  (5, lf (q_store isI up1 0 1 8 6)),
  (6, lf (q_load isR 0 7)),
  (7, lf (q_load isI 1 8)),
  (8, s_cS 31 2 22 11),
  (11, lf (q_store isI up1 0 2 8 12)),
  (12, lf (q_load isR 0 13)),
  (13, lf (q_load isI 1 14)),
  (14, lf (q_load isI 2 15)),
  (15, s_cS 32 3 23 18),
  (18, s_br1 0 33 21),
  (33, lf (q_load isI 2 34)),
  (34, lf (q_load isI 1 35)),
  (35, lf (q_bin (iop2 (fun x y => x - y)) 36)),
  (36, lf (q_push (.inl 2) 37)),
  (37, s_br2 4 49 40),
  (40, lf (q_load isR 0 41)),
  (41, lf (q_load isI 1 42)),
  (42, lf (q_load isI 2 43)),
  (43, s_cV 2 33 2 24 46),
  (46, lf (q_goto 50)),
  (50, lf (q_store isI up1 0 3 8 51)),
  (51, lf (q_load isR 0 52)),
  (52, lf (q_load isI 2 53)),
  (53, s_cS 30 2 22 56),
  (56, lf (q_store isI up1 0 1 8 57)),
  (57, lf (q_load isR 0 58)),
  (58, lf (q_load isI 1 59)),
  (59, s_cS 31 2 22 62),
  (62, lf (q_store isI up1 0 2 8 63)),
  (63, lf (q_load isR 0 64)),
  (64, lf (q_load isI 1 65)),
  (65, s_cS 34 2 22 68),
  (68, lf (q_store isI up1 0 4 8 70)),
  (70, lf (q_load isR 0 71)),
  (71, lf (q_load isI 2 72)),
  (72, s_cS 30 2 22 75),
  (75, lf (q_store isI up1 0 1 8 76)),
  (76, lf (q_load isR 0 77)),
  (77, lf (q_load isI 1 78)),
  (78, s_cS 31 2 22 81),
  (81, lf (q_store isI up1 0 2 8 82)),
  (82, lf (q_load isR 0 83)),
  (83, lf (q_load isI 1 84)),
  (84, lf (q_load isI 2 85)),
  (85, s_cS 44 3 23 88),
  (88, lf (q_store isI up1 0 5 8 90)),
  (90, lf (q_load isR 0 91)),
  (91, lf (q_load isI 2 92)),
  (92, s_cS 30 2 22 95),
  (95, lf (q_store isI up1 0 1 8 96)),
  (96, lf (q_load isR 0 97)),
  (97, lf (q_load isI 1 98)),
  (98, s_cS 31 2 22 101),
  (101, lf (q_store isI up1 0 2 8 102)),
  (102, lf (q_load isR 0 103)),
  (103, lf (q_load isI 1 104)),
  (104, lf (q_load isI 2 105)),
  (105, s_cS 45 3 23 108),
  (108, lf (q_store isI up1 0 6 8 110)),
  (110, lf (q_load isR 0 111)),
  (111, lf (q_load isI 2 112)),
  (112, s_cS 30 2 22 115),
  (115, lf (q_store isI up1 0 1 8 116)),
  (116, lf (q_load isR 0 117)),
  (117, lf (q_load isI 1 118)),
  (118, s_cS 31 2 22 121),
  (121, lf (q_store isI up1 0 2 8 122)),
  (122, lf (q_load isI 5 124)),
  (124, lf (q_load isI 4 126)),
  (126, lf (q_load isI 3 127)),
  (127, s_cS 46 3 25 130),
  (130, lf (q_store isI up1 0 7 8 132)),
  (132, lf (q_load isI 7 134)),
  (134, s_val (.inl 4293967296) 136),
  (136, s_br2 0 161 139),
  (161, lf (q_push (.inl 0) 162))]
def D_29 : MD := (yX3_minutes, cX3_minutes, 8, (some .int), P_29, [(162, 1)])
def P_30 : List (Nat × FF) := [(0, lf (q_load isI 1 1)),
  (1, lf (q_store isI up1 0 2 3 2)),
  (2, lf (q_load isI 2 3)),
  (3, lf (q_load isR 0 4)),
  (4, s_cV 2 18 0 20 7),
  (7, s_br2 3 27 10),
  (27, lf (q_load isI 2 28))]
def D_30 : MD := (yX3_wordStart, cX3_wordStart, 3, (some .int), P_30, [(28, 1)])
def P_31 : List (Nat × FF) := [(0, lf (q_load isI 1 1)),
  (1, lf (q_store isI up1 0 2 3 2)),
  (2, lf (q_load isI 2 3)),
  (3, lf (q_load isR 0 4)),
  (4, s_cV 2 18 0 20 7),
  (7, s_br2 3 27 10),
  (27, lf (q_load isI 2 28))]
def D_31 : MD := (yX3_wordStop, cX3_wordStop, 3, (some .int), P_31, [(28, 1)])
def P_32 : List (Nat × FF) := [(0, lf (q_load isI 1 1)),
  (1, lf (q_store isI up1 0 3 4 2)),
  (2, lf (q_load isI 3 3)),
  (3, lf (q_load isI 2 4)),
  (4, s_br2 3 26 7),
  (26, lf (q_load isI 2 27)),
  (27, lf (q_load isI 1 28)),
  (28, s_br2 5 35 31),
  (35, lf (q_push (.inl 0) 36))]
def D_32 : MD := (yX3_isOfLetters, cX3_isOfLetters, 4, (some .boolean), P_32, [(36, 2)])
def P_33 : List (Nat × FF) := [(0, lf (q_load isI 2 1)),
  (1, lf (q_load isI 1 2)),
  (2, lf (q_bin (iop2 (fun x y => x - y)) 3)),
  (3, lf (q_push (.inl 1) 4)),
  (4, s_br2 2 15 7),
  (15, lf (q_push (.inl 4294967295) 16))]
def D_33 : MD := (yX1_numberIn, cX1_numberIn, 5, (some .int), P_33, [(16, 1)])
def P_34 : List (Nat × FF) := [(0, lf (q_push (.inl 0) 1)),
  (1, lf (q_store isI up1 0 2 3 2)),
  (2, lf (q_load isI 2 3)),
  (3, lf (q_push (.inl 12) 5)),
  (5, s_br2 3 29 8),
  (8, lf (q_load isR 0 9)),
  (9, lf (q_load isI 1 10)),
  (10, lf (q_load isI 2 11)),
  (11, lf (q_push (.inl 3) 12)),
  (12, lf (q_bin (iop2 (fun x y => x * y)) 13)),
  (13, s_cS 35 3 23 16),
  (16, s_br1 0 23 19),
  (23, lf (q_iinc 2 1 3 26)),
  (26, lf (q_goto 2)),
  (29, lf (q_push (.inl 4294967295) 30))]
def D_34 : MD := (yX3_monthAt, cX3_monthAt, 3, (some .int), P_34, [(30, 1)])
def P_35 : List (Nat × FF) := [(0, lf (q_push (.inl 0) 1)),
  (1, lf (q_store isI up1 0 3 4 2)),
  (2, lf (q_load isI 3 3)),
  (3, lf (q_push (.inl 3) 4)),
  (4, s_br2 3 47 7),
  (7, lf (q_load isI 2 8)),
  (8, lf (q_load isI 3 9)),
  (9, lf (q_bin (iop2 (fun x y => x + y)) 10)),
  (10, s_val (.inr (.inr (.float (UInt32.ofNat 1)))) 12),
  (12, s_cVX [1, 3, 5] 36 0 20 15),
  (15, s_br2 3 47 18),
  (18, lf (q_load isR 0 19)),
  (19, lf (q_load isI 1 20)),
  (20, lf (q_load isI 3 21)),
  (21, lf (q_bin (iop2 (fun x y => x + y)) 22)),
  (22, s_cV 2 20 1 21 25),
  (25, s_cS 38 1 20 28),
  (28, s_val (.inr (.inr (.float (UInt32.ofNat 1)))) 30),
  (30, lf (q_load isI 2 31)),
  (31, lf (q_load isI 3 32)),
  (32, lf (q_bin (iop2 (fun x y => x + y)) 33)),
  (33, s_cVX [1, 3, 5] 39 1 21 36),
  (36, s_br2 0 41 39),
  (39, lf (q_push (.inl 0) 40))]
def D_35 : MD := (yX3_isMonthAt, cX3_isMonthAt, 4, (some .boolean), P_35, [(40, 2)])
def P_36 : List (Nat × FF) := [(0, lf (q_load isR 0 1)),
  (1, s_getX [(1, .inr (.inr (.float 2))), (3, .inr (.inr (.float 4))), (5, .inr (.inr (.float 6)))] 4),
  (4, s_alen 5),
  (5, lf (q_load isR 0 6)),
  (6, s_cVX [1, 3, 5] 37 0 20 9),
  (9, lf (q_bin shrA 10))]
def D_36 : MD := (yJ0_length_8abf5, cJ0_length_8abf5, 1, (some .int), P_36, [(10, 1)])
def P_37 : List (Nat × FF) := [(0, s_val (.inl 1) 3),
  (3, s_br1 0 13 6),
  (6, lf (q_load isR 0 7)),
  (7, s_getX [(1, .inl 0), (3, .inl 0), (5, .inl 0)] 10),
  (10, lf (q_goto 14))]
def D_37 : MD := (yJ0_coder_7d493, cJ0_coder_7d493, 1, (some .byte), P_37, [(14, 2)])
def P_38 : List (Nat × FF) := [(0, lf (q_load isI 0 1)),
  (1, lf (q_push (.inl 65) 3)),
  (3, s_br2 2 19 6),
  (19, lf (q_load isI 0 20))]
def D_38 : MD := (yX9_small, cX9_small, 1, (some .int), P_38, [(20, 1)])
def P_39 : List (Nat × FF) := [(0, lf (q_load isR 0 1)),
  (1, s_cVX [1, 3, 5] 40 0 20 4),
  (4, s_br1 0 16 7),
  (7, lf (q_load isR 0 8)),
  (8, s_getX [(1, .inr (.inr (.float 2))), (3, .inr (.inr (.float 4))), (5, .inr (.inr (.float 6)))] 11),
  (11, lf (q_load isI 1 12)),
  (12, s_cS 41 2 21 15)]
def D_39 : MD := (yJ0_charAt_5068e, cJ0_charAt_5068e, 2, (some .char), P_39, [(15, 2)])
def P_40 : List (Nat × FF) := [(0, s_val (.inl 1) 3),
  (3, s_br1 0 17 6),
  (6, lf (q_load isR 0 7)),
  (7, s_getX [(1, .inl 0), (3, .inl 0), (5, .inl 0)] 10),
  (10, s_br1 1 17 13),
  (13, lf (q_push (.inl 1) 14)),
  (14, lf (q_goto 18))]
def D_40 : MD := (yJ0_isLatin1_aae02, cJ0_isLatin1_aae02, 1, (some .boolean), P_40, [(18, 2)])
def P_41 : List (Nat × FF) := [(0, lf (q_load isI 1 1)),
  (1, lf (q_load isR 0 2)),
  (2, s_alen 3),
  (3, s_cS 42 2 21 6),
  (6, lf (q_load isR 0 7)),
  (7, lf (q_load isI 1 8)),
  (8, s_baldX 9),
  (9, lf (q_push (.inl 255) 12)),
  (12, lf (q_bin (iop2 (fun x y => x &&& y)) 13)),
  (13, lf (q_un (iop1 f_i2c) 14))]
def D_41 : MD := (yJ1_charAt_3b067, cJ1_charAt_3b067, 2, (some .char), P_41, [(14, 2)])
def P_42 : List (Nat × FF) := [(0, lf (q_load isI 0 1)),
  (1, lf (q_load isI 1 2)),
  (2, s_val (.inr (.inr (.retAddr 0))) 5),
  (5, s_cS 43 3 22 8),
  (8, lf (q_pop 9))]
def D_42 : MD := (yJ0_checkIndex_df160, cJ0_checkIndex_df160, 2, none, P_42, [(9, 0)])
def P_43 : List (Nat × FF) := [(0, lf (q_load isI 0 1)),
  (1, s_br1 2 9 4),
  (4, lf (q_load isI 0 5)),
  (5, lf (q_load isI 1 6)),
  (6, s_br2 2 16 9),
  (16, lf (q_load isI 0 17))]
def D_43 : MD := (yJ3_checkIndex_8e157, cJ3_checkIndex_8e157, 3, (some .int), P_43, [(17, 1)])
def P_44 : List (Nat × FF) := [(0, lf (q_load isR 0 1)),
  (1, lf (q_load isI 1 2)),
  (2, lf (q_load isI 2 3)),
  (3, s_cV 2 33 2 24 6),
  (6, lf (q_store isI up1 0 3 4 7)),
  (7, lf (q_load isI 2 8)),
  (8, lf (q_load isI 1 9)),
  (9, lf (q_bin (iop2 (fun x y => x - y)) 10)),
  (10, lf (q_push (.inl 4) 11)),
  (11, s_br2 0 19 14),
  (14, lf (q_load isI 3 15)),
  (15, lf (q_push (.inl 4294967295) 16)),
  (16, s_br2 1 21 19),
  (19, lf (q_load isI 3 20))]
def D_44 : MD := (yX3_yearIn, cX3_yearIn, 4, (some .int), P_44, [(20, 1)])
def P_45 : List (Nat × FF) := [(0, lf (q_load isI 2 1)),
  (1, lf (q_load isI 1 2)),
  (2, lf (q_bin (iop2 (fun x y => x - y)) 3)),
  (3, lf (q_store isI up1 0 3 4 4)),
  (4, lf (q_load isI 3 5)),
  (5, lf (q_push (.inl 5) 6)),
  (6, s_br2 0 15 9),
  (9, lf (q_load isI 3 10)),
  (10, lf (q_push (.inl 8) 12)),
  (12, s_br2 1 27 15),
  (27, lf (q_push (.inl 4294967295) 28))]
def D_45 : MD := (yX3_timeIn, cX3_timeIn, 4, (some .int), P_45, [(28, 1)])
def P_46 : List (Nat × FF) := [(0, lf (q_load isI 0 1)),
  (1, s_br1 2 25 4),
  (25, s_val (.inl 4293967296) 27)]
def D_46 : MD := (yX3_dayNumber, cX3_dayNumber, 6, (some .int), P_46, [(27, 1)])
def P_47 : List (Nat × FF) := [(0, lf (q_load isR 0 1)),
  (1, s_get 6 3 4),
  (4, lf (q_push (.inl 4) 5)),
  (5, lf (q_load isR 0 6)),
  (6, s_get 6 4 9),
  (9, s_cV 3 27 2 25 12),
  (12, lf (q_load isR 0 13)),
  (13, s_get 6 4 16),
  (16, lf (q_push (.inl 60) 18)),
  (18, lf (q_push (.inl 0) 19)),
  (19, lf (q_load isR 0 20)),
  (20, s_get 6 4 23),
  (23, s_cV 2 18 0 20 26),
  (26, s_cV 2 48 3 24 29),
  (29, lf (q_store isI up1 0 1 3 30)),
  (30, lf (q_load isI 1 31)),
  (31, lf (q_push (.inl 4294967295) 32)),
  (32, s_br2 1 39 35),
  (35, lf (q_push (.inl 4294967295) 36)),
  (36, lf (q_goto 56)),
  (56, lf (q_store isI up1 0 2 3 57)),
  (57, lf (q_load isR 0 58)),
  (58, lf (q_load isI 1 59)),
  (59, lf (q_load isI 2 60)),
  (60, s_cV 6 49 2 23 63),
  (63, s_br1 0 84 66),
  (84, lf (q_push (.inl 4294967295) 85))]
def D_47 : MD := (yX7_readId, cX7_readId, 3, (some .int), P_47, [(85, 1)])
def P_48 : List (Nat × FF) := [(0, lf (q_load isI 2 1)),
  (1, lf (q_store isI up1 0 4 5 3)),
  (3, lf (q_load isI 4 5)),
  (5, lf (q_load isI 3 6)),
  (6, s_br2 3 28 9),
  (28, lf (q_push (.inl 4294967295) 29))]
def D_48 : MD := (yX1_seek, cX1_seek, 5, (some .int), P_48, [(29, 1)])
def P_49 : List (Nat × FF) := [(0, lf (q_load isI 1 1)),
  (1, lf (q_push (.inl 4294967295) 2)),
  (2, s_br2 0 25 5),
  (25, lf (q_push (.inl 0) 26))]
def D_49 : MD := (yX7_isId, cX7_isId, 4, (some .boolean), P_49, [(26, 2)])
def P_50 : List (Nat × FF) := [(0, lf (q_load isR 0 1)),
  (1, s_get 6 3 4),
  (4, lf (q_push (.inl 5) 5)),
  (5, lf (q_load isR 0 6)),
  (6, s_get 6 4 9),
  (9, s_cV 3 27 2 25 12),
  (12, lf (q_load isR 0 13)),
  (13, lf (q_push (.inl 16) 15)),
  (15, s_cV 6 51 1 26 18),
  (18, lf (q_store isI up1 0 1 2 19)),
  (19, lf (q_load isI 1 20)),
  (20, s_br1 1 42 23),
  (23, lf (q_load isR 0 24)),
  (24, s_get 6 3 27),
  (27, lf (q_push (.inl 6) 29)),
  (29, lf (q_load isR 0 30)),
  (30, s_get 6 4 33),
  (33, s_cV 3 27 2 25 36),
  (36, lf (q_load isR 0 37)),
  (37, lf (q_push (.inl 1) 38)),
  (38, s_cV 6 51 1 26 41),
  (41, lf (q_store isI up1 0 1 2 42)),
  (42, lf (q_load isR 0 43)),
  (43, s_get 6 9 46),
  (46, lf (q_load isI 1 47)),
  (47, s_cS 52 2 21 50)]
def D_50 : MD := (yX7_readReferences, cX7_readReferences, 2, (some (.array .int)), P_50, [(50, 3)])
def P_51 : List (Nat × FF) := [(0, lf (q_push (.inl 0) 1)),
  (1, lf (q_store isI up1 0 2 7 2)),
  (2, lf (q_push (.inl 0) 3)),
  (3, lf (q_store isI up1 0 3 7 4)),
  (4, lf (q_push (.inl 0) 5)),
  (5, lf (q_store isI up1 0 4 7 7)),
  (7, lf (q_load isI 4 9)),
  (9, lf (q_load isR 0 10)),
  (10, s_get 6 4 13),
  (13, s_cV 2 18 0 20 16),
  (16, s_br2 3 138 19),
  (138, lf (q_load isI 2 139))]
def D_51 : MD := (yX7_takeReferences, cX7_takeReferences, 7, (some .int), P_51, [(139, 1)])
def P_52 : List (Nat × FF) := [(0, lf (q_load isR 0 1)),
  (1, lf (q_load isI 1 2)),
  (2, s_br1 2 15 5),
  (5, lf (q_load isI 1 6)),
  (6, lf (q_load isR 0 7)),
  (7, s_alen 8),
  (8, s_br2 4 15 11),
  (11, lf (q_load isI 1 12)),
  (12, lf (q_goto 16)),
  (16, s_cS 53 2 22 19)]
def D_52 : MD := (yX7_firstOf, cX7_firstOf, 2, (some (.array .int)), P_52, [(19, 3)])
def P_53 : List (Nat × FF) := [(0, lf (q_load isI 1 1)),
  (1, lf (q_load isR 0 2)),
  (2, s_alen 3),
  (3, s_br2 1 14 6),
  (14, lf (q_load isI 1 15)),
  (15, s_newa 0 17),
  (17, lf (q_store isR up1 0 2 3 18)),
  (18, lf (q_load isR 0 19)),
  (19, lf (q_push (.inl 0) 20)),
  (20, lf (q_load isR 2 21)),
  (21, lf (q_push (.inl 0) 22)),
  (22, lf (q_load isR 0 23)),
  (23, s_alen 24),
  (24, lf (q_load isI 1 25)),
  (25, s_mm mnF 28),
  (28, s_copy0 31),
  (31, lf (q_load isR 2 32))]
def D_53 : MD := (yJ7_copyOf_59c91, cJ7_copyOf_59c91, 3, (some (.array .int)), P_53, [(32, 3)])
def P_54 : List (Nat × FF) := [(0, lf (q_push (.inl 0) 1)),
  (1, lf (q_store isI up1 0 2 6 2)),
  (2, lf (q_push (.inl 0) 3)),
  (3, lf (q_store isI up1 0 3 6 4)),
  (4, lf (q_load isI 3 5)),
  (5, lf (q_load isR 0 6)),
  (6, s_cV 2 18 0 20 9),
  (9, s_br2 3 92 12)]
def D_54 : MD := (yX2_encodedWords, cX2_encodedWords, 6, none, P_54, [(92, 0)])
def P_55 : List (Nat × FF) := [(0, lf (q_push (.inl 0) 1)),
  (1, lf (q_store isI up1 0 2 4 2)),
  (2, lf (q_push (.inl 0) 3)),
  (3, lf (q_store isI up1 0 3 4 4)),
  (4, lf (q_load isI 3 5)),
  (5, lf (q_load isI 1 6)),
  (6, s_br2 3 96 9),
  (9, lf (q_load isR 0 10)),
  (10, s_get 6 13 13),
  (13, lf (q_load isR 0 14)),
  (14, s_get 6 8 17),
  (17, s_alen 18),
  (18, s_br2 3 96 21),
  (21, lf (q_load isR 0 22)),
  (22, s_get 6 5 25),
  (25, lf (q_load isI 2 26)),
  (26, lf (q_load isR 0 27)),
  (27, s_get 6 5 30),
  (30, s_cV 2 18 0 20 33),
  (33, lf (q_load isR 0 34)),
  (34, s_get 6 6 37),
  (37, s_cV 2 56 3 24 40),
  (40, lf (q_store isI up1 0 2 4 41)),
  (41, lf (q_load isR 0 42)),
  (42, s_get 6 6 45),
  (45, s_cV 2 18 0 20 48),
  (48, s_br1 1 52 51)]
def D_55 : MD := (yX7_takeWords, cX7_takeWords, 4, none, P_55, [(51, 0)])
def P_56 : List (Nat × FF) := [(0, lf (q_load isR 3 1)),
  (1, s_cV 2 12 0 20 4),
  (4, lf (q_load isI 1 5)),
  (5, lf (q_store isI up1 0 4 5 7)),
  (7, lf (q_load isI 4 9)),
  (9, lf (q_load isI 2 10)),
  (10, s_br2 3 31 13),
  (13, lf (q_load isR 0 14)),
  (14, lf (q_load isI 4 16)),
  (16, s_cV 2 20 1 21 19),
  (19, s_cS 62 1 20 22),
  (22, s_br1 1 31 25),
  (25, lf (q_iinc 4 1 5 28)),
  (28, lf (q_goto 7)),
  (31, lf (q_load isI 4 33)),
  (33, lf (q_load isI 2 34)),
  (34, s_br2 3 68 37),
  (68, lf (q_load isI 4 70))]
def D_56 : MD := (yX1_nextWord, cX1_nextWord, 5, (some .int), P_56, [(70, 1)])
def P_57 : List (Nat × FF) := [(0, lf (q_load isR 0 1)),
  (1, s_get 6 5 4),
  (4, s_cV 2 12 0 20 7),
  (7, lf (q_load isR 0 8)),
  (8, lf (q_push (.inl 0) 9)),
  (9, s_put 6 14 0 12),
  (12, lf (q_load isR 0 13)),
  (13, lf (q_push (.inl 0) 14)),
  (14, lf (q_load isR 0 15)),
  (15, s_get 6 0 18),
  (18, s_cV 2 18 0 20 21),
  (21, lf (q_push (.inl 1) 22)),
  (22, s_cV 6 58 3 23 25),
  (25, lf (q_push (.inl 0) 26)),
  (26, lf (q_store isI up1 0 1 2 27)),
  (27, lf (q_load isI 1 28)),
  (28, lf (q_push (.inl 401) 31)),
  (31, s_br2 3 114 34),
  (34, lf (q_load isR 0 35)),
  (35, s_get 6 14 38),
  (38, s_br1 5 114 41),
  (41, lf (q_load isR 0 42)),
  (42, s_get 6 14 45),
  (45, lf (q_push (.inl 401) 48)),
  (48, s_br2 4 114 51),
  (51, lf (q_load isR 0 52)),
  (52, lf (q_dup 53)),
  (53, s_get 6 14 56),
  (56, lf (q_push (.inl 1) 57)),
  (57, lf (q_bin (iop2 (fun x y => x - y)) 58)),
  (58, s_put 6 14 0 61),
  (61, lf (q_load isR 0 62)),
  (62, s_get 6 3 65),
  (65, lf (q_load isR 0 66)),
  (66, s_get 6 10 69),
  (69, lf (q_load isR 0 70)),
  (70, s_get 6 14 73),
  (73, s_ald (fun t => Nat.beq t 0) isI (.inl 0) 74),
  (74, lf (q_load isR 0 75)),
  (75, s_get 6 11 78),
  (78, lf (q_load isR 0 79)),
  (79, s_get 6 14 82),
  (82, s_ald (fun t => Nat.beq t 0) isI (.inl 0) 83),
  (83, s_cV 3 24 2 29 86),
  (86, lf (q_load isR 0 87)),
  (87, lf (q_load isR 0 88)),
  (88, s_get 6 12 91),
  (91, lf (q_load isR 0 92)),
  (92, s_get 6 14 95),
  (95, s_ald (fun t => Nat.beq t 0) isI (.inl 0) 96),
  (96, s_cV 6 59 1 24 99),
  (99, lf (q_load isR 0 100)),
  (100, s_get 6 5 103),
  (103, lf (q_push (.inl 10) 105)),
  (105, s_cV 2 14 1 21 108),
  (108, lf (q_iinc 1 1 2 111)),
  (111, lf (q_goto 27))]
def D_57 : MD := (yX7_writeText, cX7_writeText, 2, none, P_57, [(114, 0)])
def P_58 : List (Nat × FF) := [(0, lf (q_load isI 1 1)),
  (1, lf (q_push (.inl 4294967295) 2)),
  (2, s_br2 0 71 5),
  (5, lf (q_load isR 0 6)),
  (6, s_get 6 14 9),
  (9, s_br1 2 71 12),
  (12, lf (q_load isR 0 13)),
  (13, s_get 6 14 16),
  (16, lf (q_push (.inl 401) 19)),
  (19, s_br2 3 71 22),
  (22, lf (q_load isI 3 23)),
  (23, lf (q_push (.inl 4) 24)),
  (24, s_br2 4 71 27),
  (27, lf (q_load isR 0 28)),
  (28, s_get 6 10 31),
  (31, lf (q_load isR 0 32)),
  (32, s_get 6 14 35),
  (35, lf (q_load isI 1 36)),
  (36, lf (q_load isI 2 37)),
  (37, s_mm mnF 40),
  (40, s_ast (fun t => Nat.beq t 0) cvI 41),
  (41, lf (q_load isR 0 42)),
  (42, s_get 6 11 45),
  (45, lf (q_load isR 0 46)),
  (46, s_get 6 14 49),
  (49, lf (q_load isI 2 50)),
  (50, s_ast (fun t => Nat.beq t 0) cvI 51),
  (51, lf (q_load isR 0 52)),
  (52, s_get 6 12 55),
  (55, lf (q_load isR 0 56)),
  (56, s_get 6 14 59),
  (59, lf (q_load isI 3 60)),
  (60, s_ast (fun t => Nat.beq t 0) cvI 61),
  (61, lf (q_load isR 0 62)),
  (62, lf (q_dup 63)),
  (63, s_get 6 14 66),
  (66, lf (q_push (.inl 1) 67)),
  (67, lf (q_bin (iop2 (fun x y => x + y)) 68)),
  (68, s_put 6 14 0 71)]
def D_58 : MD := (yX7_putPart, cX7_putPart, 4, none, P_58, [(71, 0)])
def P_59 : List (Nat × FF) := [(0, lf (q_load isR 0 1)),
  (1, s_get 6 3 4),
  (4, lf (q_push (.inl 7) 6)),
  (6, lf (q_load isR 0 7)),
  (7, s_get 6 4 10),
  (10, s_cV 3 27 2 25 13),
  (13, lf (q_load isR 0 14)),
  (14, s_get 6 4 17),
  (17, lf (q_push (.inl 59) 19)),
  (19, lf (q_push (.inl 0) 20)),
  (20, lf (q_load isR 0 21)),
  (21, s_get 6 4 24),
  (24, s_cV 2 18 0 20 27),
  (27, s_cV 2 48 3 24 30),
  (30, lf (q_store isI up1 0 2 5 31)),
  (31, lf (q_load isI 2 32)),
  (32, lf (q_push (.inl 4294967295) 33)),
  (33, s_br2 1 46 36),
  (36, lf (q_load isR 0 37)),
  (37, s_get 6 4 40),
  (40, s_cV 2 18 0 20 43),
  (43, lf (q_goto 47)),
  (47, lf (q_store isI up1 0 3 5 48)),
  (48, lf (q_load isR 0 49)),
  (49, s_get 6 4 52),
  (52, s_cV 2 18 0 20 55),
  (55, s_br1 0 81 58),
  (81, lf (q_load isR 0 82)),
  (82, s_cV 6 60 0 20 85),
  (85, lf (q_goto 155))]
def D_59 : MD := (yX7_writePart, cX7_writePart, 5, none, P_59, [(155, 0)])
def P_60 : List (Nat × FF) := [(0, lf (q_load isR 0 1)),
  (1, s_get 6 3 4),
  (4, lf (q_push (.inl 8) 6)),
  (6, lf (q_load isR 0 7)),
  (7, s_get 6 4 10),
  (10, s_cV 3 27 2 25 13),
  (13, lf (q_load isR 0 14)),
  (14, s_get 6 4 17),
  (17, lf (q_push (.inl 0) 18)),
  (18, lf (q_load isR 0 19)),
  (19, s_get 6 4 22),
  (22, s_cV 2 18 0 20 25),
  (25, s_val (.inr (.inr (.float (UInt32.ofNat 3)))) 27),
  (27, lf (q_push (.inl 1) 28)),
  (28, s_cV 2 61 4 24 31),
  (31, s_br1 0 62 34),
  (62, lf (q_load isR 0 63)),
  (63, s_get 6 4 66),
  (66, lf (q_push (.inl 0) 67)),
  (67, lf (q_load isR 0 68)),
  (68, s_get 6 4 71),
  (71, s_cV 2 18 0 20 74),
  (74, s_val (.inr (.inr (.float (UInt32.ofNat 5)))) 76),
  (76, lf (q_push (.inl 1) 77)),
  (77, s_cV 2 61 4 24 80),
  (80, s_br1 0 111 83),
  (111, lf (q_load isR 0 112)),
  (112, s_get 6 5 115),
  (115, lf (q_load isR 0 116)),
  (116, s_get 6 0 119),
  (119, lf (q_load isR 0 120)),
  (120, s_get 6 3 123),
  (123, s_get 3 3 126),
  (126, lf (q_load isR 0 127)),
  (127, s_get 6 3 130),
  (130, s_get 3 4 133),
  (133, s_cV 2 19 3 24 136)]
def D_60 : MD := (yX7_writePlain, cX7_writePlain, 1, none, P_60, [(136, 0)])
def P_61 : List (Nat × FF) := [(0, lf (q_load isI 2 1)),
  (1, lf (q_load isI 1 2)),
  (2, lf (q_bin (iop2 (fun x y => x - y)) 3)),
  (3, lf (q_load isR 3 4)),
  (4, s_cVX [1, 3, 5] 36 0 20 7),
  (7, s_br2 1 25 10),
  (25, lf (q_push (.inl 0) 26))]
def D_61 : MD := (yX1_is, cX1_is, 5, (some .boolean), P_61, [(26, 2)])
def P_62 : List (Nat × FF) := [(0, lf (q_load isI 0 1)),
  (1, s_cS 63 1 20 4),
  (4, s_br1 1 21 7),
  (7, lf (q_load isI 0 8)),
  (8, s_cS 64 1 20 11),
  (11, s_br1 1 21 14),
  (14, lf (q_load isI 0 15)),
  (15, lf (q_push (.inl 128) 18)),
  (18, s_br2 2 25 21),
  (25, lf (q_push (.inl 0) 26))]
def D_62 : MD := (yX9_isOfWord, cX9_isOfWord, 1, (some .boolean), P_62, [(26, 2)])
def P_63 : List (Nat × FF) := [(0, lf (q_load isI 0 1)),
  (1, lf (q_push (.inl 97) 3)),
  (3, s_br2 2 12 6),
  (12, lf (q_load isI 0 13)),
  (13, lf (q_push (.inl 65) 15)),
  (15, s_br2 2 28 18),
  (28, lf (q_push (.inl 0) 29))]
def D_63 : MD := (yX9_isLetter, cX9_isLetter, 1, (some .boolean), P_63, [(29, 2)])
def P_64 : List (Nat × FF) := [(0, lf (q_load isI 0 1)),
  (1, lf (q_push (.inl 48) 3)),
  (3, s_br2 2 16 6),
  (16, lf (q_push (.inl 0) 17))]
def D_64 : MD := (yX9_isDigit, cX9_isDigit, 1, (some .boolean), P_64, [(17, 2)])
def P_65 : List (Nat × FF) := [(0, lf (q_load isR 0 1)),
  (1, s_obj 4),
  (4, lf (q_load isR 0 5)),
  (5, lf (q_push (.inl 8) 7)),
  (7, s_newa 0 9),
  (9, s_put 5 6 3 12),
  (12, lf (q_load isR 0 13)),
  (13, lf (q_load isI 1 14)),
  (14, s_put 5 0 0 17),
  (17, lf (q_load isR 0 18)),
  (18, lf (q_load isR 2 19)),
  (19, s_put 5 1 3 22),
  (22, lf (q_load isR 0 23)),
  (23, lf (q_load isR 3 24)),
  (24, s_put 5 2 3 27),
  (27, lf (q_load isR 0 28)),
  (28, lf (q_load isI 4 30)),
  (30, s_put 5 3 0 33),
  (33, lf (q_load isR 0 34)),
  (34, lf (q_load isI 5 36)),
  (36, s_put 5 4 0 39),
  (39, lf (q_load isR 0 40)),
  (40, lf (q_load isR 6 42)),
  (42, s_put 5 5 3 45)]
def D_65 : MD := (yX6_init, cX6_init, 7, none, P_65, [(45, 0)])
def P_66 : List (Nat × FF) := [(0, lf (q_load isR 0 1)),
  (1, lf (q_dup 2)),
  (2, s_get 0 0 5),
  (5, lf (q_push (.inl 1) 6)),
  (6, lf (q_bin (iop2 (fun x y => x + y)) 7)),
  (7, s_put 0 0 0 10),
  (10, lf (q_load isR 0 11)),
  (11, lf (q_load isR 1 12)),
  (12, lf (q_load isR 0 13)),
  (13, s_get 0 1 16),
  (16, lf (q_load isR 0 17)),
  (17, s_get 0 2 20),
  (20, s_cV 0 67 3 23 23),
  (23, lf (q_push (.inl 1) 24))]
def D_66 : MD := (yJx4a65c_add_9ea2d, cJx4a65c_add_9ea2d, 2, (some .boolean), P_66, [(24, 2)])
def P_67 : List (Nat × FF) := [(0, lf (q_load isI 3 1)),
  (1, lf (q_load isR 2 2)),
  (2, s_alen 3),
  (3, s_br2 1 11 6),
  (6, lf (q_load isR 0 7)),
  (7, s_cV 0 68 0 20 10),
  (10, lf (q_store isR up1 0 2 4 11)),
  (11, lf (q_load isR 2 12)),
  (12, lf (q_load isI 3 13)),
  (13, lf (q_load isR 1 14)),
  (14, s_aast 5 15),
  (15, lf (q_load isR 0 16)),
  (16, lf (q_load isI 3 17)),
  (17, lf (q_push (.inl 1) 18)),
  (18, lf (q_bin (iop2 (fun x y => x + y)) 19)),
  (19, s_put 0 2 0 22)]
def D_67 : MD := (yJx4a65c_add_72be8, cJx4a65c_add_72be8, 4, none, P_67, [(22, 0)])
def P_68 : List (Nat × FF) := [(0, lf (q_load isR 0 1)),
  (1, lf (q_load isR 0 2)),
  (2, s_get 0 2 5),
  (5, lf (q_push (.inl 1) 6)),
  (6, lf (q_bin (iop2 (fun x y => x + y)) 7)),
  (7, s_cV 0 69 1 23 10)]
def D_68 : MD := (yJx4a65c_grow_d5877, cJx4a65c_grow_d5877, 1, (some (.array (.object "java/lang/Object"))), P_68, [(10, 3)])
def P_69 : List (Nat × FF) := [(0, lf (q_load isR 0 1)),
  (1, s_get 0 1 4),
  (4, s_alen 5),
  (5, lf (q_store isI up1 0 2 4 6)),
  (6, lf (q_load isI 2 7)),
  (7, s_br1 4 20 10),
  (10, lf (q_load isR 0 11)),
  (11, s_get 0 1 14),
  (14, s_val (.inr (.inr (.float 0))) 17),
  (17, s_acmp 45),
  (45, lf (q_load isR 0 46)),
  (46, lf (q_push (.inl 10) 48)),
  (48, lf (q_load isI 1 49)),
  (49, s_mm mxF 52),
  (52, s_newq 55),
  (55, lf (q_dupx1 56)),
  (56, s_put 0 1 3 59)]
def D_69 : MD := (yJx4a65c_grow_92f84, cJx4a65c_grow_92f84, 4, (some (.array (.object "java/lang/Object"))), P_69, [(59, 3)])
def P_70 : List (Nat × FF) := [(0, lf (q_load isR 0 1)),
  (1, lf (q_push (.inl 0) 2)),
  (2, s_put 8 6 1 5)]
def D_70 : MD := (yX10_spoil, cX10_spoil, 1, none, P_70, [(5, 0)])
def P_71 : List (Nat × FF) := [(0, lf (q_load isR 0 1)),
  (1, lf (q_load isI 1 2)),
  (2, s_cV 9 72 1 22 5),
  (5, lf (q_store isI up1 0 2 3 6)),
  (6, lf (q_load isI 2 7)),
  (7, s_br1 2 21 10)]
def D_71 : MD := (yX11_remove, cX11_remove, 3, none, P_71, [])
def P_72 : List (Nat × FF) := [(0, lf (q_push (.inl 0) 1)),
  (1, lf (q_store isI up1 0 2 3 2)),
  (2, lf (q_load isI 2 3)),
  (3, lf (q_load isR 0 4)),
  (4, s_get 9 6 7),
  (7, s_cV 0 22 0 20 10),
  (10, s_br2 3 39 13),
  (39, lf (q_push (.inl 4294967295) 40))]
def D_72 : MD := (yX11_placeOf, cX11_placeOf, 3, (some .int), P_72, [(40, 1)])
def P_73 : List (Nat × FF) := [(0, lf (q_load isR 0 1)),
  (1, s_cV 9 74 0 20 4),
  (4, lf (q_load isR 0 5)),
  (5, lf (q_load isI 1 6)),
  (6, s_cV 9 72 1 22 9),
  (9, lf (q_store isI up1 0 3 6 10)),
  (10, lf (q_load isI 3 11)),
  (11, s_br1 2 25 14)]
def D_73 : MD := (yX11_tag, cX11_tag, 6, (some .boolean), P_73, [])
def P_74 : List (Nat × FF) := [(0, lf (q_load isR 0 1)),
  (1, s_get 9 2 4),
  (4, s_cV 2 12 0 20 7),
  (7, lf (q_load isR 0 8)),
  (8, s_get 9 2 11),
  (11, lf (q_load isR 0 12)),
  (12, s_get 9 1 15),
  (15, lf (q_push (.inl 0) 16)),
  (16, lf (q_load isR 0 17)),
  (17, s_get 9 1 20),
  (20, s_cV 2 18 0 20 23),
  (23, s_cV 2 19 3 24 26),
  (26, lf (q_load isR 0 27)),
  (27, s_get 9 1 30),
  (30, s_cV 2 12 0 20 33)]
def D_74 : MD := (yX11_takeTape, cX11_takeTape, 1, none, P_74, [(33, 0)])
def P_75 : List (Nat × FF) := [(0, lf (q_load isR 0 1)),
  (1, s_cV 9 74 0 20 4),
  (4, lf (q_load isR 0 5)),
  (5, s_get 9 9 8),
  (8, s_cV 7 76 0 23 11),
  (11, lf (q_store isL up2 1 1 3 12)),
  (12, lf (q_load isR 0 13)),
  (13, lf (q_load isR 0 14)),
  (14, s_get 9 9 17),
  (17, s_get 7 16 20),
  (20, lf (q_push (.inl 1) 21)),
  (21, lf (q_bin (iop2 (fun x y => x + y)) 22)),
  (22, s_put 9 16 0 25),
  (25, lf (q_load isR 0 26)),
  (26, s_get 9 16 29),
  (29, s_br1 5 42 32),
  (42, lf (q_load isR 0 43)),
  (43, lf (q_load isL 1 44)),
  (44, s_cV 9 83 1 23 47),
  (47, lf (q_load isR 0 48)),
  (48, s_get 9 13 51)]
def D_75 : MD := (yX11_search, cX11_search, 3, (some .int), P_75, [(51, 1)])
def P_76 : List (Nat × FF) := [(0, lf (q_load isR 0 1)),
  (1, lf (q_push (.inr (.inl 1)) 2)),
  (2, lf (q_load isR 0 3)),
  (3, s_get 7 1 6),
  (6, s_cV 0 22 0 20 9),
  (9, lf (q_bin f_lshl 10)),
  (10, lf (q_push (.inr (.inl 1)) 11)),
  (11, lf (q_bin (lop2 (fun x y => x - y)) 12)),
  (12, s_put 7 15 2 15),
  (15, lf (q_load isR 0 16)),
  (16, lf (q_push (.inl 4294967295) 17)),
  (17, s_put 7 16 0 20),
  (20, lf (q_load isR 0 21)),
  (21, s_get 7 6 24),
  (24, s_cV 4 77 0 20 27),
  (27, lf (q_load isR 0 28)),
  (28, lf (q_push (.inl 0) 29)),
  (29, s_cV 7 78 1 21 32),
  (32, lf (q_push (.inl 0) 33)),
  (33, lf (q_store isI up1 0 1 4 34)),
  (34, lf (q_push (.inl 0) 35)),
  (35, lf (q_store isI up1 0 2 4 36)),
  (36, lf (q_load isI 2 37)),
  (37, lf (q_load isR 0 38)),
  (38, s_get 7 0 41),
  (41, s_cV 2 18 0 20 44),
  (44, s_br2 4 138 47),
  (47, lf (q_load isR 0 48)),
  (48, s_get 7 6 51),
  (51, s_cV 4 80 0 21 54),
  (54, lf (q_store isI up1 0 3 4 55)),
  (55, lf (q_load isR 0 56)),
  (56, lf (q_load isI 3 57)),
  (57, lf (q_load isI 1 58)),
  (58, lf (q_load isI 2 59)),
  (59, s_br1 1 66 62),
  (62, lf (q_push (.inl 1) 63)),
  (63, lf (q_goto 67)),
  (67, s_cV 7 82 3 23 70),
  (70, s_br1 1 86 73),
  (86, lf (q_load isI 3 87)),
  (87, s_br1 1 93 90),
  (90, lf (q_goto 138)),
  (138, lf (q_load isR 0 139)),
  (139, s_get 7 7 142),
  (142, lf (q_push (.inl 0) 143)),
  (143, s_ald (fun t => Nat.beq t 3) isL (.inr (.inl 0)) 144),
  (144, lf (q_load isR 0 145)),
  (145, s_get 7 8 148),
  (148, lf (q_push (.inl 0) 149)),
  (149, s_ald (fun t => Nat.beq t 3) isL (.inr (.inl 0)) 150),
  (150, lf (q_bin (lop2 (fun x y => x ||| y)) 151))]
def D_76 : MD := (yX8_matches, cX8_matches, 4, (some .long), P_76, [(151, 4)])
def P_77 : List (Nat × FF) := [(0, lf (q_load isR 0 1)),
  (1, lf (q_push (.inl 0) 2)),
  (2, s_put 4 2 0 5)]
def D_77 : MD := (yX5_restart, cX5_restart, 1, none, P_77, [(5, 0)])
def P_78 : List (Nat × FF) := [(0, lf (q_load isR 0 1)),
  (1, lf (q_load isI 1 2)),
  (2, s_put 7 14 0 5),
  (5, lf (q_load isR 0 6)),
  (6, s_cV 7 79 0 20 9),
  (9, s_br1 0 45 12),
  (12, lf (q_load isR 0 13)),
  (13, s_get 7 7 16),
  (16, lf (q_load isR 0 17)),
  (17, s_get 7 14 20),
  (20, lf (q_push (.inr (.inl 0)) 21)),
  (21, s_ast (fun t => Nat.beq t 3) cvL 22),
  (22, lf (q_load isR 0 23)),
  (23, s_get 7 8 26),
  (26, lf (q_load isR 0 27)),
  (27, s_get 7 14 30),
  (30, lf (q_load isR 0 31)),
  (31, s_get 7 15 34),
  (34, s_ast (fun t => Nat.beq t 3) cvL 35),
  (35, lf (q_load isR 0 36)),
  (36, s_get 7 9 39),
  (39, lf (q_load isR 0 40)),
  (40, s_get 7 14 43),
  (43, lf (q_push (.inl 0) 44)),
  (44, s_ast (fun t => Nat.beq t 1 || Nat.beq t 2) cvB 45)]
def D_78 : MD := (yX8_startLevel, cX8_startLevel, 2, none, P_78, [(45, 0)])
def P_79 : List (Nat × FF) := [(0, lf (q_load isR 0 1)),
  (1, s_get 7 14 4),
  (4, s_br1 2 47 7),
  (7, lf (q_load isR 0 8)),
  (8, s_get 7 14 11),
  (11, lf (q_load isR 0 12)),
  (12, s_get 7 7 15),
  (15, s_alen 16),
  (16, s_br2 3 47 19),
  (19, lf (q_load isR 0 20)),
  (20, s_get 7 14 23),
  (23, lf (q_load isR 0 24)),
  (24, s_get 7 8 27),
  (27, s_alen 28),
  (28, s_br2 3 47 31),
  (31, lf (q_load isR 0 32)),
  (32, s_get 7 14 35),
  (35, lf (q_load isR 0 36)),
  (36, s_get 7 9 39),
  (39, s_alen 40),
  (40, s_br2 3 47 43),
  (43, lf (q_push (.inl 1) 44)),
  (44, lf (q_goto 48))]
def D_79 : MD := (yX8_isLevel, cX8_isLevel, 1, (some .boolean), P_79, [(48, 2)])
def P_80 : List (Nat × FF) := [(0, lf (q_load isR 0 1)),
  (1, lf (q_load isR 0 2)),
  (2, s_get 4 0 5),
  (5, lf (q_load isR 0 6)),
  (6, s_get 4 2 9),
  (9, lf (q_load isR 0 10)),
  (10, s_get 4 0 13),
  (13, s_cV 2 18 0 20 16),
  (16, s_cV 2 81 2 23 19),
  (19, s_put 4 1 0 22),
  (22, lf (q_load isR 0 23)),
  (23, s_get 4 0 26),
  (26, lf (q_load isR 0 27)),
  (27, s_get 4 1 30),
  (30, s_cV 2 20 1 21 33),
  (33, lf (q_store isI up1 0 1 2 34)),
  (34, lf (q_load isR 0 35)),
  (35, lf (q_load isR 0 36)),
  (36, s_get 4 1 39),
  (39, lf (q_push (.inl 1) 40)),
  (40, lf (q_bin (iop2 (fun x y => x + y)) 41)),
  (41, s_put 4 2 0 44),
  (44, lf (q_load isR 0 45)),
  (45, lf (q_push (.inl 8) 47)),
  (47, s_put 4 3 0 50),
  (50, lf (q_load isR 0 51)),
  (51, lf (q_push (.inl 0) 52)),
  (52, s_put 4 6 1 55),
  (55, lf (q_load isI 1 56)),
  (56, lf (q_look 115 [(-1, 100), (34, 106), (40, 102), (41, 104)])),
  (100, lf (q_push (.inl 0) 101))]
def D_80 : MD := (yX5_next, cX5_next, 2, (some .int), P_80, [(101, 1)])
def P_81 : List (Nat × FF) := [(0, lf (q_load isI 1 1)),
  (1, lf (q_store isI up1 0 3 4 2)),
  (2, lf (q_load isI 3 3)),
  (3, lf (q_load isI 2 4)),
  (4, s_br2 3 24 7),
  (24, lf (q_load isI 3 25))]
def D_81 : MD := (yX1_blanksOn, cX1_blanksOn, 4, (some .int), P_81, [(25, 1)])
def P_82 : List (Nat × FF) := [(0, lf (q_load isI 1 1)),
  (1, s_table 7 113 [48, 65, 80, 97, 97, 113, 113, 111]),
  (48, lf (q_load isI 2 49)),
  (49, s_br1 1 63 52),
  (52, lf (q_load isR 0 53)),
  (53, s_get 7 14 56),
  (56, s_br1 1 63 59),
  (59, lf (q_push (.inl 1) 60)),
  (60, lf (q_goto 64))]
def D_82 : MD := (yX8_canStand, cX8_canStand, 4, (some .boolean), P_82, [(64, 2)])
def P_83 : List (Nat × FF) := [(0, lf (q_load isR 0 1)),
  (1, lf (q_push (.inl 0) 2)),
  (2, s_put 9 13 0 5),
  (5, lf (q_load isR 0 6)),
  (6, s_get 9 6 9),
  (9, s_cV 0 22 0 20 12),
  (12, lf (q_push (.inl 1) 13)),
  (13, lf (q_bin (iop2 (fun x y => x - y)) 14)),
  (14, lf (q_store isI up1 0 3 4 15)),
  (15, lf (q_load isI 3 16)),
  (16, s_br1 2 50 19)]
def D_83 : MD := (yX11_keepFound, cX11_keepFound, 4, none, P_83, [(50, 0)])
def P_84 : List (Nat × FF) := [(0, lf (q_load isR 0 1)),
  (1, s_get 9 16 4)]
def D_84 : MD := (yX11_fault, cX11_fault, 1, (some .int), P_84, [(4, 1)])
def P_85 : List (Nat × FF) := [(0, lf (q_load isI 1 1)),
  (1, s_br1 2 30 4),
  (4, lf (q_load isI 1 5)),
  (5, lf (q_load isR 0 6)),
  (6, s_get 9 13 9),
  (9, s_br2 3 30 12),
  (30, lf (q_push (.inl 4294967295) 31))]
def D_85 : MD := (yX11_found, cX11_found, 2, (some .int), P_85, [(31, 1)])
def P_86 : List (Nat × FF) := [(0, lf (q_load isI 1 1)),
  (1, s_br1 2 30 4),
  (4, lf (q_load isI 1 5)),
  (5, lf (q_load isR 0 6)),
  (6, s_get 9 14 9),
  (9, s_br2 3 30 12),
  (30, lf (q_push (.inl 4294967295) 31))]
def D_86 : MD := (yX11_thread, cX11_thread, 2, (some .int), P_86, [(31, 1)])
def P_87 : List (Nat × FF) := [(0, lf (q_load isR 0 1)),
  (1, s_get 9 7 4),
  (4, s_cV 8 88 0 22 7),
  (7, lf (q_load isR 0 8)),
  (8, lf (q_push (.inl 0) 9)),
  (9, s_put 9 14 0 12),
  (12, lf (q_push (.inl 0) 13)),
  (13, lf (q_store isI up1 0 1 3 14)),
  (14, lf (q_load isI 1 15)),
  (15, lf (q_load isR 0 16)),
  (16, s_get 9 13 19),
  (19, s_br2 3 65 22),
  (65, lf (q_load isR 0 66)),
  (66, s_get 9 14 69)]
def D_87 : MD := (yX11_conversations, cX11_conversations, 3, (some .int), P_87, [(69, 1)])
def P_88 : List (Nat × FF) := [(0, lf (q_load isR 0 1)),
  (1, s_get 8 6 4),
  (4, s_br1 0 8 7),
  (8, lf (q_push (.inl 0) 9)),
  (9, lf (q_store isI up1 0 1 3 10)),
  (10, lf (q_load isI 1 11)),
  (11, lf (q_push (.inl 3460) 14)),
  (14, s_br2 3 58 17),
  (17, lf (q_load isI 1 18)),
  (18, lf (q_load isR 0 19)),
  (19, s_get 8 1 22),
  (22, s_cV 1 89 0 20 25),
  (25, lf (q_push (.inl 60) 27)),
  (27, lf (q_bin (iop2 (fun x y => x + y)) 28)),
  (28, s_br2 3 58 31),
  (31, lf (q_load isR 0 32)),
  (32, s_get 8 2 35),
  (35, lf (q_load isI 1 36)),
  (36, lf (q_push (.inl 4294967295) 37)),
  (37, s_ast (fun t => Nat.beq t 0) cvI 38),
  (38, lf (q_load isR 0 39)),
  (39, s_get 8 3 42),
  (42, lf (q_load isI 1 43)),
  (43, lf (q_push (.inl 4294967295) 44)),
  (44, s_ast (fun t => Nat.beq t 0) cvI 45),
  (45, lf (q_load isR 0 46)),
  (46, s_get 8 4 49),
  (49, lf (q_load isI 1 50)),
  (50, lf (q_push (.inl 4294967295) 51)),
  (51, s_ast (fun t => Nat.beq t 0) cvI 52),
  (52, lf (q_iinc 1 1 3 55)),
  (55, lf (q_goto 10)),
  (58, lf (q_push (.inl 0) 59)),
  (59, lf (q_store isI up1 0 1 3 60)),
  (60, lf (q_load isI 1 61)),
  (61, lf (q_load isR 0 62)),
  (62, s_get 8 0 65),
  (65, s_cV 0 22 0 20 68),
  (68, s_br2 3 126 71),
  (126, lf (q_push (.inl 0) 127)),
  (127, lf (q_store isI up1 0 1 3 128)),
  (128, lf (q_load isI 1 129)),
  (129, lf (q_load isR 0 130)),
  (130, s_get 8 0 133),
  (133, s_cV 0 22 0 20 136),
  (136, s_br2 3 199 139),
  (199, lf (q_load isR 0 200)),
  (200, lf (q_push (.inl 1) 201)),
  (201, s_put 8 6 1 204)]
def D_88 : MD := (yX10_freshen, cX10_freshen, 3, none, P_88, [(204, 0)])
def P_89 : List (Nat × FF) := [(0, lf (q_load isR 0 1)),
  (1, s_get 1 5 4)]
def D_89 : MD := (yX0_entryCount, cX0_entryCount, 1, (some .int), P_89, [(4, 1)])
def P_90 : List (Nat × FF) := [(0, lf (q_load isR 0 1)),
  (1, lf (q_load isI 1 2)),
  (2, s_cV 9 72 1 22 5),
  (5, lf (q_store isI up1 0 3 5 6)),
  (6, lf (q_load isI 3 7)),
  (7, s_br1 2 21 10),
  (21, lf (q_push (.inl 4294967295) 22))]
def D_90 : MD := (yX11_about, cX11_about, 5, (some .int), P_90, [(22, 1)])
def P_91 : List (Nat × FF) := [(0, lf (q_load isR 0 1)),
  (1, lf (q_load isI 1 2)),
  (2, s_cV 9 72 1 22 5),
  (5, lf (q_store isI up1 0 5 7 7)),
  (7, lf (q_load isI 5 9)),
  (9, s_br1 2 24 12),
  (24, lf (q_push (.inl 4294967295) 25))]
def D_91 : MD := (yX11_at, cX11_at, 7, (some .int), P_91, [(25, 1)])
def P_92 : List (Nat × FF) := [(0, lf (q_load isI 1 1)),
  (1, s_table 5 76 [40, 48, 53, 58, 63, 68]),
  (40, lf (q_load isR 0 41)),
  (41, s_get 9 6 44),
  (44, s_cV 0 22 0 20 47),
  (48, lf (q_load isR 0 49)),
  (49, s_get 9 15 52),
  (53, lf (q_load isR 0 54)),
  (54, s_get 9 13 57),
  (58, lf (q_load isR 0 59)),
  (59, s_cV 9 93 0 24 62),
  (63, lf (q_load isR 0 64)),
  (64, s_cV 9 95 0 24 67),
  (68, lf (q_load isR 0 69)),
  (69, s_get 9 1 72),
  (72, s_cV 2 18 0 20 75),
  (76, lf (q_push (.inl 4294967295) 77))]
def D_92 : MD := (yX11_count, cX11_count, 2, (some .int), P_92, [(47, 1), (52, 1), (57, 1), (62, 1), (67, 1), (75, 1), (77, 1)])
def P_93 : List (Nat × FF) := [(0, lf (q_push (.inl 0) 1)),
  (1, lf (q_store isI up1 0 1 5 2)),
  (2, lf (q_load isR 0 3)),
  (3, s_get 9 3 6),
  (6, s_cV 1 94 0 20 9),
  (9, lf (q_push (.inl 0) 10)),
  (10, lf (q_store isI up1 0 2 5 11)),
  (11, lf (q_load isI 2 12)),
  (12, lf (q_load isR 0 13)),
  (13, s_get 9 6 16),
  (16, s_cV 0 22 0 20 19),
  (19, s_br2 3 81 22),
  (81, lf (q_load isI 1 82))]
def D_93 : MD := (yX11_differentWords, cX11_differentWords, 5, (some .int), P_93, [(82, 1)])
def P_94 : List (Nat × FF) := [(0, lf (q_load isR 0 1)),
  (1, lf (q_dup 2)),
  (2, s_get 1 6 5),
  (5, lf (q_push (.inl 1) 6)),
  (6, lf (q_bin (iop2 (fun x y => x + y)) 7)),
  (7, s_put 1 6 0 10)]
def D_94 : MD := (yX0_startRound, cX0_startRound, 1, none, P_94, [(10, 0)])
def P_95 : List (Nat × FF) := [(0, lf (q_push (.inl 0) 1)),
  (1, lf (q_store isI up1 0 1 5 2)),
  (2, lf (q_load isR 0 3)),
  (3, s_get 9 5 6),
  (6, s_cV 1 94 0 20 9),
  (9, lf (q_push (.inl 0) 10)),
  (10, lf (q_store isI up1 0 2 5 11)),
  (11, lf (q_load isI 2 12)),
  (12, lf (q_load isR 0 13)),
  (13, s_get 9 6 16),
  (16, s_cV 0 22 0 20 19),
  (19, s_br2 3 82 22),
  (82, lf (q_load isI 1 83))]
def D_95 : MD := (yX11_differentTags, cX11_differentTags, 5, (some .int), P_95, [(83, 1)])
def P_96 : List (Nat × FF) := [(0, lf (q_load isR 0 1)),
  (1, lf (q_push (.inl 0) 2)),
  (2, s_put 10 0 0 5),
  (5, lf (q_push (.inl 0) 6)),
  (6, lf (q_store isI up1 0 6 8 8)),
  (8, lf (q_load isI 6 10)),
  (10, lf (q_push (.inl 20) 12)),
  (12, s_br2 3 90 15),
  (15, lf (q_load isI 6 17)),
  (17, lf (q_push (.inl 4) 18)),
  (18, s_br2 3 25 21),
  (21, lf (q_load isI 1 22)),
  (22, lf (q_goto 61)),
  (25, lf (q_load isI 6 27)),
  (27, lf (q_push (.inl 8) 29)),
  (29, s_br2 3 36 32),
  (32, lf (q_load isI 2 33)),
  (33, lf (q_goto 61)),
  (36, lf (q_load isI 6 38)),
  (38, lf (q_push (.inl 12) 40)),
  (40, s_br2 3 47 43),
  (43, lf (q_load isI 3 44)),
  (44, lf (q_goto 61)),
  (47, lf (q_load isI 6 49)),
  (49, lf (q_push (.inl 16) 51)),
  (51, s_br2 3 59 54),
  (54, lf (q_load isI 4 56)),
  (56, lf (q_goto 61)),
  (59, lf (q_load isI 5 61)),
  (61, lf (q_store isI up1 0 7 8 63)),
  (63, lf (q_load isR 0 64)),
  (64, s_get 10 1 67),
  (67, lf (q_load isI 6 69)),
  (69, lf (q_load isI 7 71)),
  (71, lf (q_push (.inl 24) 73)),
  (73, lf (q_push (.inl 8) 75)),
  (75, lf (q_load isI 6 77)),
  (77, lf (q_push (.inl 4) 78)),
  (78, lf (q_bin (dop (fun x y => x - x / y * y)) 79)),
  (79, lf (q_bin (iop2 (fun x y => x * y)) 80)),
  (80, lf (q_bin (iop2 (fun x y => x - y)) 81)),
  (81, lf (q_bin shrA 82)),
  (82, lf (q_un i2bA 83)),
  (83, s_ast (fun t => Nat.beq t 1 || Nat.beq t 2) cvB 84),
  (84, lf (q_iinc 6 1 8 87)),
  (87, lf (q_goto 8))]
def D_96 : MD := (yX12_feed, cX12_feed, 8, none, P_96, [(90, 0)])
def P_97 : List (Nat × FF) := [(0, lf (q_load isR 0 1)),
  (1, lf (q_push (.inl 0) 2)),
  (2, s_put 10 0 0 5),
  (5, lf (q_load isI 1 6)),
  (6, s_br1 2 27 9),
  (9, lf (q_load isI 1 10)),
  (10, lf (q_push (.inl 20) 12)),
  (12, s_br2 4 27 15),
  (15, lf (q_load isR 0 16)),
  (16, s_get 10 3 19),
  (19, lf (q_load isI 1 20)),
  (20, lf (q_bin (iop2 (fun x y => x + y)) 21)),
  (21, lf (q_push (.inl 1200) 24)),
  (24, s_br2 5 29 27),
  (27, lf (q_push (.inl 4294967295) 28)),
  (29, lf (q_push (.inl 0) 30)),
  (30, lf (q_store isI up1 0 2 3 31)),
  (31, lf (q_load isI 2 32)),
  (32, lf (q_load isI 1 33)),
  (33, s_br2 3 59 36),
  (36, lf (q_load isR 0 37)),
  (37, s_get 10 2 40),
  (40, lf (q_load isR 0 41)),
  (41, s_get 10 3 44),
  (44, lf (q_load isI 2 45)),
  (45, lf (q_bin (iop2 (fun x y => x + y)) 46)),
  (46, lf (q_load isR 0 47)),
  (47, s_get 10 1 50),
  (50, lf (q_load isI 2 51)),
  (51, s_ald (fun t => Nat.beq t 1 || Nat.beq t 2) isI (.inl 0) 52),
  (52, s_ast (fun t => Nat.beq t 1 || Nat.beq t 2) cvB 53),
  (53, lf (q_iinc 2 1 3 56)),
  (56, lf (q_goto 31)),
  (59, lf (q_load isR 0 60)),
  (60, lf (q_dup 61)),
  (61, s_get 10 3 64),
  (64, lf (q_load isI 1 65)),
  (65, lf (q_bin (iop2 (fun x y => x + y)) 66)),
  (66, s_put 10 3 0 69),
  (69, lf (q_push (.inl 0) 70)),
  (70, lf (q_store isI up1 0 2 3 71)),
  (71, lf (q_load isI 2 72)),
  (72, lf (q_push (.inl 20) 74)),
  (74, s_br2 3 90 77),
  (77, lf (q_load isR 0 78)),
  (78, s_get 10 1 81),
  (81, lf (q_load isI 2 82)),
  (82, lf (q_push (.inl 0) 83)),
  (83, s_ast (fun t => Nat.beq t 1 || Nat.beq t 2) cvB 84),
  (84, lf (q_iinc 2 1 3 87)),
  (87, lf (q_goto 71)),
  (90, lf (q_load isR 0 91)),
  (91, s_get 10 3 94)]
def D_97 : MD := (yX12_end, cX12_end, 3, (some .int), P_97, [(28, 1), (94, 1)])
def P_98 : List (Nat × FF) := [(0, lf (q_load isR 0 1)),
  (1, lf (q_load isR 0 2)),
  (2, s_get 10 5 5),
  (5, lf (q_push (.inl 60) 7)),
  (7, s_br2 0 20 10),
  (10, lf (q_load isR 0 11)),
  (11, s_get 10 4 14),
  (14, lf (q_push (.inl 200) 17)),
  (17, s_br2 1 24 20),
  (24, lf (q_push (.inl 0) 25)),
  (25, s_put 10 0 0 28),
  (28, lf (q_load isR 0 29)),
  (29, s_get 10 0 32),
  (32, s_br1 5 37 35),
  (37, lf (q_load isR 0 38)),
  (38, s_cV 10 99 0 21 41),
  (41, lf (q_store isI up1 0 1 3 42)),
  (42, lf (q_push (.inl 0) 43)),
  (43, lf (q_store isI up1 0 2 3 44)),
  (44, lf (q_load isI 2 45)),
  (45, lf (q_load isI 1 46)),
  (46, s_br2 3 76 49),
  (76, lf (q_load isR 0 77)),
  (77, s_get 10 7 80),
  (80, lf (q_load isR 0 81)),
  (81, s_get 10 4 84),
  (84, lf (q_load isI 1 85)),
  (85, s_ast (fun t => Nat.beq t 0) cvI 86),
  (86, lf (q_load isR 0 87)),
  (87, s_get 10 8 90),
  (90, lf (q_load isR 0 91)),
  (91, s_get 10 4 94),
  (94, lf (q_push (.inl 1) 95)),
  (95, s_ast (fun t => Nat.beq t 1 || Nat.beq t 2) cvB 96),
  (96, lf (q_load isR 0 97)),
  (97, s_get 10 11 100),
  (100, lf (q_load isR 0 101)),
  (101, s_get 10 4 104),
  (104, lf (q_push (.inl 0) 105)),
  (105, s_ast (fun t => Nat.beq t 0) cvI 106),
  (106, lf (q_load isR 0 107)),
  (107, lf (q_dup 108)),
  (108, s_get 10 4 111),
  (111, lf (q_push (.inl 1) 112)),
  (112, lf (q_bin (iop2 (fun x y => x + y)) 113)),
  (113, s_put 10 4 0 116),
  (116, lf (q_load isR 0 117)),
  (117, lf (q_dup 118)),
  (118, s_get 10 5 121),
  (121, lf (q_push (.inl 1) 122)),
  (122, lf (q_bin (iop2 (fun x y => x + y)) 123)),
  (123, s_put 10 5 0 126),
  (126, lf (q_load isR 0 127)),
  (127, s_get 10 4 130),
  (130, lf (q_push (.inl 1) 131)),
  (131, lf (q_bin (iop2 (fun x y => x - y)) 132))]
def D_98 : MD := (yX12_add, cX12_add, 3, (some .int), P_98, [(132, 1)])
def P_99 : List (Nat × FF) := [(0, lf (q_load isR 0 1)),
  (1, s_get 10 3 4),
  (4, lf (q_store isI up1 0 1 2 5)),
  (5, lf (q_load isR 0 6)),
  (6, lf (q_push (.inl 0) 7)),
  (7, s_put 10 3 0 10),
  (10, lf (q_load isI 1 11))]
def D_99 : MD := (yX12_take, cX12_take, 2, (some .int), P_99, [(11, 1)])
def P_100 : List (Nat × FF) := [(0, lf (q_load isR 0 1)),
  (1, lf (q_load isR 0 2)),
  (2, lf (q_load isI 1 3)),
  (3, s_cV 10 101 1 21 6),
  (6, s_br1 0 13 9),
  (13, lf (q_push (.inl 1) 14)),
  (14, s_put 10 0 0 17),
  (17, lf (q_load isR 0 18)),
  (18, s_get 10 0 21),
  (21, s_br1 5 25 24)]
def D_100 : MD := (yX12_remove, cX12_remove, 2, none, P_100, [(24, 0)])
def P_101 : List (Nat × FF) := [(0, lf (q_load isI 1 1)),
  (1, s_br1 2 25 4),
  (4, lf (q_load isI 1 5)),
  (5, lf (q_load isR 0 6)),
  (6, s_get 10 4 9),
  (9, s_br2 3 25 12),
  (25, lf (q_push (.inl 0) 26))]
def D_101 : MD := (yX12_isThere, cX12_isThere, 2, (some .boolean), P_101, [(26, 2)])
def P_102 : List (Nat × FF) := [(0, lf (q_load isR 0 1)),
  (1, s_cV 10 99 0 21 4),
  (4, lf (q_store isI up1 0 3 7 5)),
  (5, lf (q_load isI 1 6)),
  (6, lf (q_store isI up1 0 4 7 8)),
  (8, lf (q_load isR 0 9)),
  (9, lf (q_load isI 4 11)),
  (11, s_cV 10 101 1 21 14),
  (14, s_br1 0 40 17),
  (40, lf (q_push (.inl 0) 41)),
  (41, lf (q_store isI up1 0 5 7 43)),
  (43, lf (q_load isR 0 44)),
  (44, lf (q_load isR 0 45)),
  (45, lf (q_load isI 4 47)),
  (47, s_cV 10 101 1 21 50),
  (50, s_br1 1 57 53),
  (53, lf (q_push (.inl 1) 54)),
  (54, lf (q_goto 95)),
  (95, s_put 10 0 0 98),
  (98, lf (q_load isR 0 99)),
  (99, s_get 10 0 102),
  (102, s_br1 4 119 105),
  (119, lf (q_push (.inl 0) 120))]
def D_102 : MD := (yX12_tag, cX12_tag, 7, (some .boolean), P_102, [(120, 2)])
def P_103 : List (Nat × FF) := [(0, lf (q_load isR 0 1)),
  (1, lf (q_load isR 0 2)),
  (2, s_cV 10 99 0 21 5),
  (5, s_put 10 44 0 8),
  (8, lf (q_push (.inl 0) 9)),
  (9, lf (q_store isI up1 0 1 3 10)),
  (10, lf (q_load isI 1 11)),
  (11, lf (q_load isR 0 12)),
  (12, s_get 10 44 15),
  (15, s_br2 3 36 18),
  (36, lf (q_load isR 0 37)),
  (37, lf (q_load isR 0 38)),
  (38, s_cV 10 104 0 29 41),
  (41, s_br1 0 48 44),
  (44, lf (q_push (.inl 0) 45)),
  (45, lf (q_goto 49)),
  (49, s_put 10 0 0 52),
  (52, lf (q_load isR 0 53)),
  (53, s_get 10 0 56),
  (56, s_br1 5 61 59),
  (61, lf (q_load isR 0 62)),
  (62, s_cV 10 106 0 21 65),
  (65, lf (q_load isR 0 66)),
  (66, lf (q_push (.inl 0) 67)),
  (67, s_put 10 62 0 70),
  (70, lf (q_push (.inl 0) 71)),
  (71, lf (q_store isI up1 0 1 3 72)),
  (72, lf (q_load isI 1 73)),
  (73, lf (q_load isR 0 74)),
  (74, s_get 10 4 77),
  (77, s_br2 3 193 80),
  (193, lf (q_load isR 0 194)),
  (194, s_get 10 62 197)]
def D_103 : MD := (yX12_search, cX12_search, 3, (some .int), P_103, [(197, 1)])
def P_104 : List (Nat × FF) := [(0, lf (q_load isR 0 1)),
  (1, lf (q_push (.inl 0) 2)),
  (2, s_put 10 45 0 5),
  (5, lf (q_load isR 0 6)),
  (6, lf (q_push (.inl 0) 7)),
  (7, s_put 10 46 0 10),
  (10, lf (q_load isR 0 11)),
  (11, lf (q_push (.inl 0) 12)),
  (12, s_put 10 47 0 15),
  (15, lf (q_load isR 0 16)),
  (16, lf (q_push (.inl 0) 17)),
  (17, s_put 10 48 0 20),
  (20, lf (q_push (.inl 0) 21)),
  (21, lf (q_store isI up1 0 1 10 22)),
  (22, lf (q_push (.inl 0) 23)),
  (23, lf (q_store isI up1 0 2 10 24)),
  (24, lf (q_push (.inl 0) 25)),
  (25, lf (q_store isI up1 0 3 10 26)),
  (26, lf (q_push (.inl 0) 27)),
  (27, lf (q_store isI up1 0 4 10 29)),
  (29, lf (q_load isI 4 31)),
  (31, lf (q_load isR 0 32)),
  (32, s_get 10 44 35),
  (35, s_br2 3 362 38),
  (362, lf (q_load isI 3 363)),
  (363, s_br1 0 383 366),
  (383, lf (q_load isR 0 384)),
  (384, lf (q_push (.inl 3) 385)),
  (385, s_cV 10 105 1 21 388),
  (388, lf (q_push (.inl 1) 389))]
def D_104 : MD := (yX12_readQuery, cX12_readQuery, 10, (some .boolean), P_104, [(389, 2)])
def P_105 : List (Nat × FF) := [(0, lf (q_load isR 0 1)),
  (1, s_get 10 47 4),
  (4, s_br1 5 64 7)]
def D_105 : MD := (yX12_unwind, cX12_unwind, 2, none, P_105, [(64, 0)])
def P_106 : List (Nat × FF) := [(0, lf (q_load isR 0 1)),
  (1, lf (q_push (.inl 0) 2)),
  (2, s_put 10 37 0 5),
  (5, lf (q_push (.inl 0) 6)),
  (6, lf (q_store isI up1 0 1 2 7)),
  (7, lf (q_load isI 1 8)),
  (8, lf (q_load isR 0 9)),
  (9, s_get 10 4 12),
  (12, s_br2 3 35 15)]
def D_106 : MD := (yX12_link, cX12_link, 2, none, P_106, [(35, 0)])
def P_107 : List (Nat × FF) := [(0, lf (q_load isR 0 1)),
  (1, lf (q_push (.inl 0) 2)),
  (2, s_put 10 0 0 5),
  (5, lf (q_load isR 0 6)),
  (6, s_get 10 48 9)]
def D_107 : MD := (yX12_fault, cX12_fault, 1, (some .int), P_107, [(9, 1)])
def P_108 : List (Nat × FF) := [(0, lf (q_load isR 0 1)),
  (1, lf (q_push (.inl 0) 2)),
  (2, s_put 10 0 0 5),
  (5, lf (q_load isI 1 6)),
  (6, s_br1 2 26 9),
  (9, lf (q_load isI 1 10)),
  (10, lf (q_load isR 0 11)),
  (11, s_get 10 62 14),
  (14, s_br2 3 26 17),
  (26, lf (q_push (.inl 4294967295) 27))]
def D_108 : MD := (yX12_found, cX12_found, 2, (some .int), P_108, [(27, 1)])
def P_109 : List (Nat × FF) := [(0, lf (q_load isR 0 1)),
  (1, lf (q_push (.inl 0) 2)),
  (2, s_put 10 0 0 5),
  (5, lf (q_load isI 1 6)),
  (6, s_br1 2 26 9),
  (9, lf (q_load isI 1 10)),
  (10, lf (q_load isR 0 11)),
  (11, s_get 10 63 14),
  (14, s_br2 3 26 17),
  (26, lf (q_push (.inl 4294967295) 27))]
def D_109 : MD := (yX12_thread, cX12_thread, 2, (some .int), P_109, [(27, 1)])
def P_110 : List (Nat × FF) := [(0, lf (q_load isR 0 1)),
  (1, lf (q_push (.inl 0) 2)),
  (2, s_put 10 0 0 5),
  (5, lf (q_load isR 0 6)),
  (6, s_cV 10 106 0 21 9),
  (9, lf (q_load isR 0 10)),
  (10, lf (q_push (.inl 0) 11)),
  (11, s_put 10 63 0 14),
  (14, lf (q_push (.inl 0) 15)),
  (15, lf (q_store isI up1 0 1 5 16)),
  (16, lf (q_load isI 1 17)),
  (17, lf (q_load isR 0 18)),
  (18, s_get 10 62 21),
  (21, s_br2 3 126 24),
  (126, lf (q_load isR 0 127)),
  (127, s_get 10 63 130)]
def D_110 : MD := (yX12_conversations, cX12_conversations, 5, (some .int), P_110, [(130, 1)])
def P_111 : List (Nat × FF) := [(0, lf (q_load isR 0 1)),
  (1, lf (q_push (.inl 0) 2)),
  (2, s_put 10 0 0 5),
  (5, lf (q_load isR 0 6)),
  (6, lf (q_load isI 1 7)),
  (7, s_cV 10 101 1 21 10),
  (10, s_br1 0 23 13),
  (23, lf (q_push (.inl 4294967295) 24))]
def D_111 : MD := (yX12_about, cX12_about, 3, (some .int), P_111, [(24, 1)])
def P_112 : List (Nat × FF) := [(0, lf (q_load isR 0 1)),
  (1, lf (q_push (.inl 0) 2)),
  (2, s_put 10 0 0 5),
  (5, lf (q_load isR 0 6)),
  (6, lf (q_load isI 1 7)),
  (7, s_cV 10 101 1 21 10),
  (10, s_br1 0 32 13),
  (32, lf (q_push (.inl 4294967295) 33))]
def D_112 : MD := (yX12_at, cX12_at, 5, (some .int), P_112, [(33, 1)])
def P_113 : List (Nat × FF) := [(0, lf (q_load isR 0 1)),
  (1, lf (q_push (.inl 0) 2)),
  (2, s_put 10 0 0 5),
  (5, lf (q_load isR 0 6)),
  (6, lf (q_push (.inl 0) 7)),
  (7, s_put 10 67 0 10),
  (10, lf (q_push (.inl 0) 11)),
  (11, lf (q_store isI up1 0 2 5 12)),
  (12, lf (q_load isI 2 13)),
  (13, lf (q_load isR 0 14)),
  (14, s_get 10 4 17),
  (17, s_br2 3 179 20),
  (179, lf (q_load isI 1 180)),
  (180, s_table 5 245 [220, 225, 230, 235, 235, 240]),
  (220, lf (q_load isR 0 221)),
  (221, s_get 10 5 224),
  (225, lf (q_load isR 0 226)),
  (226, s_get 10 4 229),
  (230, lf (q_load isR 0 231)),
  (231, s_get 10 62 234),
  (235, lf (q_load isR 0 236)),
  (236, s_get 10 67 239),
  (240, lf (q_load isR 0 241)),
  (241, s_get 10 3 244),
  (245, lf (q_push (.inl 4294967295) 246))]
def D_113 : MD := (yX12_count, cX12_count, 5, (some .int), P_113, [(224, 1), (229, 1), (234, 1), (239, 1), (244, 1), (246, 1)])
def MMl : List MD := [D_0, D_1, D_2, D_3, D_4, D_5, D_6, D_7, D_8, D_9, D_10, D_11, D_12, D_13, D_14, D_15, D_16, D_17, D_18, D_19, D_20, D_21, D_22, D_23, D_24, D_25, D_26, D_27, D_28, D_29, D_30, D_31, D_32, D_33, D_34, D_35, D_36, D_37, D_38, D_39, D_40, D_41, D_42, D_43, D_44, D_45, D_46, D_47, D_48, D_49, D_50, D_51, D_52, D_53, D_54, D_55, D_56, D_57, D_58, D_59, D_60, D_61, D_62, D_63, D_64, D_65, D_66, D_67, D_68, D_69, D_70, D_71, D_72, D_73, D_74, D_75, D_76, D_77, D_78, D_79, D_80, D_81, D_82, D_83, D_84, D_85, D_86, D_87, D_88, D_89, D_90, D_91, D_92, D_93, D_94, D_95, D_96, D_97, D_98, D_99, D_100, D_101, D_102, D_103, D_104, D_105, D_106, D_107, D_108, D_109, D_110, D_111, D_112, D_113]
def MM (i : Nat) : Option MD := MMl[i]?
end
section
/-! Their code and names are the tables'. -/
theorem vsv_ok : ∀ x ∈ ([(1, .inr (.inr (.float 2))), (3, .inr (.inr (.float 4))), (5, .inr (.inr (.float 6)))] : List (Nat × AV)), (x.1, "java/lang/String", "value", "[B", x.2) ∈ xOF := by
  intro x hx
  simp only [List.mem_cons, List.not_mem_nil, or_false] at hx
  rcases hx with rfl | rfl | rfl
  · exact List.mem_of_getElem? (i := 0) rfl
  · exact List.mem_of_getElem? (i := 2) rfl
  · exact List.mem_of_getElem? (i := 4) rfl
theorem vsc_ok : ∀ x ∈ ([(1, .inl 0), (3, .inl 0), (5, .inl 0)] : List (Nat × AV)), (x.1, "java/lang/String", "coder", "B", x.2) ∈ xOF := by
  intro x hx
  simp only [List.mem_cons, List.not_mem_nil, or_false] at hx
  rcases hx with rfl | rfl | rfl
  · exact List.mem_of_getElem? (i := 1) rfl
  · exact List.mem_of_getElem? (i := 3) rfl
  · exact List.mem_of_getElem? (i := 5) rfl
theorem vso_ok : ∀ x ∈ ([1, 3, 5] : List Nat), (x, "java/lang/String") ∈ xO := by
  intro x hx
  simp only [List.mem_cons, List.not_mem_nil, or_false] at hx
  rcases hx with rfl | rfl | rfl
  · exact List.mem_of_getElem? (i := 0) rfl
  · exact List.mem_of_getElem? (i := 1) rfl
  · exact List.mem_of_getElem? (i := 2) rfl
set_option maxRecDepth 100000 in
theorem mok_0 : MOK D_0 0 := ⟨tin 1 36 (by decide +kernel) rfl, by decide +kernel, by decide +kernel, by decide +kernel⟩
set_option maxRecDepth 100000 in
theorem mok_1 : MOK D_1 1 := ⟨tin 1 44 (by decide +kernel) rfl, by decide +kernel, by decide +kernel, by decide +kernel⟩
set_option maxRecDepth 100000 in
theorem mok_2 : MOK D_2 0 := ⟨tin 1 58 (by decide +kernel) rfl, by decide +kernel, by decide +kernel, by decide +kernel⟩
set_option maxRecDepth 100000 in
theorem mok_3 : MOK D_3 0 := ⟨tin 1 87 (by decide +kernel) rfl, by decide +kernel, by decide +kernel, by decide +kernel⟩
set_option maxRecDepth 100000 in
theorem mok_4 : MOK D_4 0 := ⟨tin 1 90 (by decide +kernel) rfl, by decide +kernel, by decide +kernel, by decide +kernel⟩
set_option maxRecDepth 100000 in
theorem mok_5 : MOK D_5 0 := ⟨tin 1 93 (by decide +kernel) rfl, by decide +kernel, by decide +kernel, by decide +kernel⟩
set_option maxRecDepth 100000 in
theorem mok_6 : MOK D_6 2 := ⟨tin 1 113 (by decide +kernel) rfl, by decide +kernel, by decide +kernel, by decide +kernel⟩
set_option maxRecDepth 100000 in
theorem mok_7 : MOK D_7 3 := ⟨tin 1 141 (by decide +kernel) rfl, by decide +kernel, by decide +kernel, by decide +kernel⟩
set_option maxRecDepth 100000 in
theorem mok_8 : MOK D_8 1 := ⟨tin 1 149 (by decide +kernel) rfl, by decide +kernel, by decide +kernel, by decide +kernel⟩
set_option maxRecDepth 100000 in
theorem mok_9 : MOK D_9 6 := ⟨tin 1 219 (by decide +kernel) rfl, by decide +kernel, by decide +kernel, by decide +kernel⟩
set_option maxRecDepth 100000 in
theorem mok_10 : MOK D_10 1 := ⟨tin 1 227 (by decide +kernel) rfl, by decide +kernel, by decide +kernel, by decide +kernel⟩
set_option maxRecDepth 100000 in
theorem mok_11 : MOK D_11 5 := ⟨tin 2 82 (by decide +kernel) rfl, by decide +kernel, by decide +kernel, by decide +kernel⟩
set_option maxRecDepth 100000 in
theorem mok_12 : MOK D_12 0 := ⟨tin 2 86 (by decide +kernel) rfl, by decide +kernel, by decide +kernel, by decide +kernel⟩
set_option maxRecDepth 100000 in
theorem mok_13 : MOK D_13 1 := ⟨tin 2 90 (by decide +kernel) rfl, by decide +kernel, by decide +kernel, by decide +kernel⟩
set_option maxRecDepth 100000 in
theorem mok_14 : MOK D_14 1 := ⟨tin 2 94 (by decide +kernel) rfl, by decide +kernel, by decide +kernel, by decide +kernel⟩
set_option maxRecDepth 100000 in
theorem mok_15 : MOK D_15 0 := ⟨tin 6 155 (by decide +kernel) rfl, by decide +kernel, by decide +kernel, by decide +kernel⟩
set_option maxRecDepth 100000 in
theorem mok_16 : MOK D_16 5 := ⟨tin 2 150 (by decide +kernel) rfl, by decide +kernel, by decide +kernel, by decide +kernel⟩
set_option maxRecDepth 100000 in
theorem mok_17 : MOK D_17 1 := ⟨tin 2 154 (by decide +kernel) rfl, by decide +kernel, by decide +kernel, by decide +kernel⟩
set_option maxRecDepth 100000 in
theorem mok_18 : MOK D_18 0 := ⟨tin 2 158 (by decide +kernel) rfl, by decide +kernel, by decide +kernel, by decide +kernel⟩
set_option maxRecDepth 100000 in
theorem mok_19 : MOK D_19 3 := ⟨tin 2 162 (by decide +kernel) rfl, by decide +kernel, by decide +kernel, by decide +kernel⟩
set_option maxRecDepth 100000 in
theorem mok_20 : MOK D_20 1 := ⟨tin 2 166 (by decide +kernel) rfl, by decide +kernel, by decide +kernel, by decide +kernel⟩
set_option maxRecDepth 100000 in
theorem mok_21 : MOK D_21 0 := ⟨tin 3 81 (by decide +kernel) rfl, by decide +kernel, by decide +kernel, by decide +kernel⟩
set_option maxRecDepth 100000 in
theorem mok_22 : MOK D_22 0 := ⟨tin 2 190 (by decide +kernel) rfl, by decide +kernel, by decide +kernel, by decide +kernel⟩
set_option maxRecDepth 100000 in
theorem mok_23 : MOK D_23 1 := ⟨tin 3 152 (by decide +kernel) rfl, by decide +kernel, by decide +kernel, by decide +kernel⟩
set_option maxRecDepth 100000 in
theorem mok_24 : MOK D_24 2 := ⟨tin 3 157 (by decide +kernel) rfl, by decide +kernel, by decide +kernel, by decide +kernel⟩
set_option maxRecDepth 100000 in
theorem mok_25 : MOK D_25 2 := ⟨tin 3 160 (by decide +kernel) rfl, by decide +kernel, by decide +kernel, by decide +kernel⟩
set_option maxRecDepth 100000 in
theorem mok_26 : MOK D_26 0 := ⟨tin 4 30 (by decide +kernel) rfl, by decide +kernel, by decide +kernel, by decide +kernel⟩
set_option maxRecDepth 100000 in
theorem mok_27 : MOK D_27 2 := ⟨tin 4 34 (by decide +kernel) rfl, by decide +kernel, by decide +kernel, by decide +kernel⟩
set_option maxRecDepth 100000 in
theorem mok_28 : MOK D_28 0 := ⟨tin 4 41 (by decide +kernel) rfl, by decide +kernel, by decide +kernel, by decide +kernel⟩
set_option maxRecDepth 100000 in
theorem mok_29 : MOK D_29 1 := ⟨tin 4 45 (by decide +kernel) rfl, by decide +kernel, by decide +kernel, by decide +kernel⟩
set_option maxRecDepth 100000 in
theorem mok_30 : MOK D_30 2 := ⟨tin 4 48 (by decide +kernel) rfl, by decide +kernel, by decide +kernel, by decide +kernel⟩
set_option maxRecDepth 100000 in
theorem mok_31 : MOK D_31 2 := ⟨tin 4 57 (by decide +kernel) rfl, by decide +kernel, by decide +kernel, by decide +kernel⟩
set_option maxRecDepth 100000 in
theorem mok_32 : MOK D_32 3 := ⟨tin 4 60 (by decide +kernel) rfl, by decide +kernel, by decide +kernel, by decide +kernel⟩
set_option maxRecDepth 100000 in
theorem mok_33 : MOK D_33 2 := ⟨tin 4 65 (by decide +kernel) rfl, by decide +kernel, by decide +kernel, by decide +kernel⟩
set_option maxRecDepth 100000 in
theorem mok_34 : MOK D_34 2 := ⟨tin 4 69 (by decide +kernel) rfl, by decide +kernel, by decide +kernel, by decide +kernel⟩
set_option maxRecDepth 100000 in
theorem mok_35 : MOK D_35 3 := ⟨tin 4 72 (by decide +kernel) rfl, by decide +kernel, by decide +kernel, by decide +kernel⟩
set_option maxRecDepth 100000 in
theorem mok_36 : MOK D_36 0 := ⟨tin 3 205 (by decide +kernel) rfl, by decide +kernel, by decide +kernel, by decide +kernel⟩
set_option maxRecDepth 100000 in
theorem mok_37 : MOK D_37 0 := ⟨tin 3 209 (by decide +kernel) rfl, by decide +kernel, by decide +kernel, by decide +kernel⟩
set_option maxRecDepth 100000 in
theorem mok_38 : MOK D_38 1 := ⟨tin 3 219 (by decide +kernel) rfl, by decide +kernel, by decide +kernel, by decide +kernel⟩
set_option maxRecDepth 100000 in
theorem mok_39 : MOK D_39 1 := ⟨tin 3 223 (by decide +kernel) rfl, by decide +kernel, by decide +kernel, by decide +kernel⟩
set_option maxRecDepth 100000 in
theorem mok_40 : MOK D_40 0 := ⟨tin 3 227 (by decide +kernel) rfl, by decide +kernel, by decide +kernel, by decide +kernel⟩
set_option maxRecDepth 100000 in
theorem mok_41 : MOK D_41 2 := ⟨tin 3 230 (by decide +kernel) rfl, by decide +kernel, by decide +kernel, by decide +kernel⟩
set_option maxRecDepth 100000 in
theorem mok_42 : MOK D_42 2 := ⟨tin 3 233 (by decide +kernel) rfl, by decide +kernel, by decide +kernel, by decide +kernel⟩
set_option maxRecDepth 100000 in
theorem mok_43 : MOK D_43 3 := ⟨tin 2 200 (by decide +kernel) rfl, by decide +kernel, by decide +kernel, by decide +kernel⟩
set_option maxRecDepth 100000 in
theorem mok_44 : MOK D_44 3 := ⟨tin 4 79 (by decide +kernel) rfl, by decide +kernel, by decide +kernel, by decide +kernel⟩
set_option maxRecDepth 100000 in
theorem mok_45 : MOK D_45 3 := ⟨tin 4 82 (by decide +kernel) rfl, by decide +kernel, by decide +kernel, by decide +kernel⟩
set_option maxRecDepth 100000 in
theorem mok_46 : MOK D_46 3 := ⟨tin 4 91 (by decide +kernel) rfl, by decide +kernel, by decide +kernel, by decide +kernel⟩
set_option maxRecDepth 100000 in
theorem mok_47 : MOK D_47 0 := ⟨tin 4 105 (by decide +kernel) rfl, by decide +kernel, by decide +kernel, by decide +kernel⟩
set_option maxRecDepth 100000 in
theorem mok_48 : MOK D_48 3 := ⟨tin 4 109 (by decide +kernel) rfl, by decide +kernel, by decide +kernel, by decide +kernel⟩
set_option maxRecDepth 100000 in
theorem mok_49 : MOK D_49 2 := ⟨tin 4 113 (by decide +kernel) rfl, by decide +kernel, by decide +kernel, by decide +kernel⟩
set_option maxRecDepth 100000 in
theorem mok_50 : MOK D_50 0 := ⟨tin 4 161 (by decide +kernel) rfl, by decide +kernel, by decide +kernel, by decide +kernel⟩
set_option maxRecDepth 100000 in
theorem mok_51 : MOK D_51 1 := ⟨tin 4 165 (by decide +kernel) rfl, by decide +kernel, by decide +kernel, by decide +kernel⟩
set_option maxRecDepth 100000 in
theorem mok_52 : MOK D_52 2 := ⟨tin 4 168 (by decide +kernel) rfl, by decide +kernel, by decide +kernel, by decide +kernel⟩
set_option maxRecDepth 100000 in
theorem mok_53 : MOK D_53 2 := ⟨tin 4 152 (by decide +kernel) rfl, by decide +kernel, by decide +kernel, by decide +kernel⟩
set_option maxRecDepth 100000 in
theorem mok_54 : MOK D_54 2 := ⟨tin 4 173 (by decide +kernel) rfl, by decide +kernel, by decide +kernel, by decide +kernel⟩
set_option maxRecDepth 100000 in
theorem mok_55 : MOK D_55 1 := ⟨tin 4 209 (by decide +kernel) rfl, by decide +kernel, by decide +kernel, by decide +kernel⟩
set_option maxRecDepth 100000 in
theorem mok_56 : MOK D_56 3 := ⟨tin 4 213 (by decide +kernel) rfl, by decide +kernel, by decide +kernel, by decide +kernel⟩
set_option maxRecDepth 100000 in
theorem mok_57 : MOK D_57 0 := ⟨tin 4 221 (by decide +kernel) rfl, by decide +kernel, by decide +kernel, by decide +kernel⟩
set_option maxRecDepth 100000 in
theorem mok_58 : MOK D_58 3 := ⟨tin 4 225 (by decide +kernel) rfl, by decide +kernel, by decide +kernel, by decide +kernel⟩
set_option maxRecDepth 100000 in
theorem mok_59 : MOK D_59 1 := ⟨tin 4 230 (by decide +kernel) rfl, by decide +kernel, by decide +kernel, by decide +kernel⟩
set_option maxRecDepth 100000 in
theorem mok_60 : MOK D_60 0 := ⟨tin 5 4 (by decide +kernel) rfl, by decide +kernel, by decide +kernel, by decide +kernel⟩
set_option maxRecDepth 100000 in
theorem mok_61 : MOK D_61 4 := ⟨tin 4 239 (by decide +kernel) rfl, by decide +kernel, by decide +kernel, by decide +kernel⟩
set_option maxRecDepth 100000 in
theorem mok_62 : MOK D_62 1 := ⟨tin 4 217 (by decide +kernel) rfl, by decide +kernel, by decide +kernel, by decide +kernel⟩
set_option maxRecDepth 100000 in
theorem mok_63 : MOK D_63 1 := ⟨tin 3 182 (by decide +kernel) rfl, by decide +kernel, by decide +kernel, by decide +kernel⟩
set_option maxRecDepth 100000 in
theorem mok_64 : MOK D_64 1 := ⟨tin 3 185 (by decide +kernel) rfl, by decide +kernel, by decide +kernel, by decide +kernel⟩
set_option maxRecDepth 100000 in
theorem mok_65 : MOK D_65 6 := ⟨tin 5 47 (by decide +kernel) rfl, by decide +kernel, by decide +kernel, by decide +kernel⟩
set_option maxRecDepth 100000 in
theorem mok_66 : MOK D_66 1 := ⟨tin 5 88 (by decide +kernel) rfl, by decide +kernel, by decide +kernel, by decide +kernel⟩
set_option maxRecDepth 100000 in
theorem mok_67 : MOK D_67 3 := ⟨tin 5 92 (by decide +kernel) rfl, by decide +kernel, by decide +kernel, by decide +kernel⟩
set_option maxRecDepth 100000 in
theorem mok_68 : MOK D_68 0 := ⟨tin 5 96 (by decide +kernel) rfl, by decide +kernel, by decide +kernel, by decide +kernel⟩
set_option maxRecDepth 100000 in
theorem mok_69 : MOK D_69 1 := ⟨tin 5 100 (by decide +kernel) rfl, by decide +kernel, by decide +kernel, by decide +kernel⟩
set_option maxRecDepth 100000 in
theorem mok_70 : MOK D_70 0 := ⟨tin 5 143 (by decide +kernel) rfl, by decide +kernel, by decide +kernel, by decide +kernel⟩
set_option maxRecDepth 100000 in
theorem mok_71 : MOK D_71 1 := ⟨tin 5 151 (by decide +kernel) rfl, by decide +kernel, by decide +kernel, by decide +kernel⟩
set_option maxRecDepth 100000 in
theorem mok_72 : MOK D_72 1 := ⟨tin 2 232 (by decide +kernel) rfl, by decide +kernel, by decide +kernel, by decide +kernel⟩
set_option maxRecDepth 100000 in
theorem mok_73 : MOK D_73 2 := ⟨tin 5 184 (by decide +kernel) rfl, by decide +kernel, by decide +kernel, by decide +kernel⟩
set_option maxRecDepth 100000 in
theorem mok_74 : MOK D_74 0 := ⟨tin 5 188 (by decide +kernel) rfl, by decide +kernel, by decide +kernel, by decide +kernel⟩
set_option maxRecDepth 100000 in
theorem mok_75 : MOK D_75 0 := ⟨tin 6 1 (by decide +kernel) rfl, by decide +kernel, by decide +kernel, by decide +kernel⟩
set_option maxRecDepth 100000 in
theorem mok_76 : MOK D_76 0 := ⟨tin 6 5 (by decide +kernel) rfl, by decide +kernel, by decide +kernel, by decide +kernel⟩
set_option maxRecDepth 100000 in
theorem mok_77 : MOK D_77 0 := ⟨tin 6 10 (by decide +kernel) rfl, by decide +kernel, by decide +kernel, by decide +kernel⟩
set_option maxRecDepth 100000 in
theorem mok_78 : MOK D_78 1 := ⟨tin 6 14 (by decide +kernel) rfl, by decide +kernel, by decide +kernel, by decide +kernel⟩
set_option maxRecDepth 100000 in
theorem mok_79 : MOK D_79 0 := ⟨tin 6 18 (by decide +kernel) rfl, by decide +kernel, by decide +kernel, by decide +kernel⟩
set_option maxRecDepth 100000 in
theorem mok_80 : MOK D_80 0 := ⟨tin 6 23 (by decide +kernel) rfl, by decide +kernel, by decide +kernel, by decide +kernel⟩
set_option maxRecDepth 100000 in
theorem mok_81 : MOK D_81 2 := ⟨tin 4 205 (by decide +kernel) rfl, by decide +kernel, by decide +kernel, by decide +kernel⟩
set_option maxRecDepth 100000 in
theorem mok_82 : MOK D_82 3 := ⟨tin 6 80 (by decide +kernel) rfl, by decide +kernel, by decide +kernel, by decide +kernel⟩
set_option maxRecDepth 100000 in
theorem mok_83 : MOK D_83 1 := ⟨tin 6 146 (by decide +kernel) rfl, by decide +kernel, by decide +kernel, by decide +kernel⟩
set_option maxRecDepth 100000 in
theorem mok_84 : MOK D_84 0 := ⟨tin 2 170 (by decide +kernel) rfl, by decide +kernel, by decide +kernel, by decide +kernel⟩
set_option maxRecDepth 100000 in
theorem mok_85 : MOK D_85 1 := ⟨tin 2 174 (by decide +kernel) rfl, by decide +kernel, by decide +kernel, by decide +kernel⟩
set_option maxRecDepth 100000 in
theorem mok_86 : MOK D_86 1 := ⟨tin 3 11 (by decide +kernel) rfl, by decide +kernel, by decide +kernel, by decide +kernel⟩
set_option maxRecDepth 100000 in
theorem mok_87 : MOK D_87 0 := ⟨tin 2 178 (by decide +kernel) rfl, by decide +kernel, by decide +kernel, by decide +kernel⟩
set_option maxRecDepth 100000 in
theorem mok_88 : MOK D_88 0 := ⟨tin 2 182 (by decide +kernel) rfl, by decide +kernel, by decide +kernel, by decide +kernel⟩
set_option maxRecDepth 100000 in
theorem mok_89 : MOK D_89 0 := ⟨tin 2 186 (by decide +kernel) rfl, by decide +kernel, by decide +kernel, by decide +kernel⟩
set_option maxRecDepth 100000 in
theorem mok_90 : MOK D_90 2 := ⟨tin 3 15 (by decide +kernel) rfl, by decide +kernel, by decide +kernel, by decide +kernel⟩
set_option maxRecDepth 100000 in
theorem mok_91 : MOK D_91 4 := ⟨tin 3 35 (by decide +kernel) rfl, by decide +kernel, by decide +kernel, by decide +kernel⟩
set_option maxRecDepth 100000 in
theorem mok_92 : MOK D_92 1 := ⟨tin 3 57 (by decide +kernel) rfl, by decide +kernel, by decide +kernel, by decide +kernel⟩
set_option maxRecDepth 100000 in
theorem mok_93 : MOK D_93 0 := ⟨tin 3 61 (by decide +kernel) rfl, by decide +kernel, by decide +kernel, by decide +kernel⟩
set_option maxRecDepth 100000 in
theorem mok_94 : MOK D_94 0 := ⟨tin 3 65 (by decide +kernel) rfl, by decide +kernel, by decide +kernel, by decide +kernel⟩
set_option maxRecDepth 100000 in
theorem mok_95 : MOK D_95 0 := ⟨tin 3 73 (by decide +kernel) rfl, by decide +kernel, by decide +kernel, by decide +kernel⟩
set_option maxRecDepth 100000 in
theorem mok_96 : MOK D_96 5 := ⟨tin 7 139 (by decide +kernel) rfl, by decide +kernel, by decide +kernel, by decide +kernel⟩
set_option maxRecDepth 100000 in
theorem mok_97 : MOK D_97 1 := ⟨tin 7 143 (by decide +kernel) rfl, by decide +kernel, by decide +kernel, by decide +kernel⟩
set_option maxRecDepth 100000 in
theorem mok_98 : MOK D_98 0 := ⟨tin 7 147 (by decide +kernel) rfl, by decide +kernel, by decide +kernel, by decide +kernel⟩
set_option maxRecDepth 100000 in
theorem mok_99 : MOK D_99 0 := ⟨tin 7 151 (by decide +kernel) rfl, by decide +kernel, by decide +kernel, by decide +kernel⟩
set_option maxRecDepth 100000 in
theorem mok_100 : MOK D_100 1 := ⟨tin 7 155 (by decide +kernel) rfl, by decide +kernel, by decide +kernel, by decide +kernel⟩
set_option maxRecDepth 100000 in
theorem mok_101 : MOK D_101 1 := ⟨tin 7 159 (by decide +kernel) rfl, by decide +kernel, by decide +kernel, by decide +kernel⟩
set_option maxRecDepth 100000 in
theorem mok_102 : MOK D_102 2 := ⟨tin 7 163 (by decide +kernel) rfl, by decide +kernel, by decide +kernel, by decide +kernel⟩
set_option maxRecDepth 100000 in
theorem mok_103 : MOK D_103 0 := ⟨tin 7 182 (by decide +kernel) rfl, by decide +kernel, by decide +kernel, by decide +kernel⟩
set_option maxRecDepth 100000 in
theorem mok_104 : MOK D_104 0 := ⟨tin 7 186 (by decide +kernel) rfl, by decide +kernel, by decide +kernel, by decide +kernel⟩
set_option maxRecDepth 100000 in
theorem mok_105 : MOK D_105 1 := ⟨tin 7 208 (by decide +kernel) rfl, by decide +kernel, by decide +kernel, by decide +kernel⟩
set_option maxRecDepth 100000 in
theorem mok_106 : MOK D_106 0 := ⟨tin 8 28 (by decide +kernel) rfl, by decide +kernel, by decide +kernel, by decide +kernel⟩
set_option maxRecDepth 100000 in
theorem mok_107 : MOK D_107 0 := ⟨tin 8 238 (by decide +kernel) rfl, by decide +kernel, by decide +kernel, by decide +kernel⟩
set_option maxRecDepth 100000 in
theorem mok_108 : MOK D_108 1 := ⟨tin 9 2 (by decide +kernel) rfl, by decide +kernel, by decide +kernel, by decide +kernel⟩
set_option maxRecDepth 100000 in
theorem mok_109 : MOK D_109 1 := ⟨tin 9 10 (by decide +kernel) rfl, by decide +kernel, by decide +kernel, by decide +kernel⟩
set_option maxRecDepth 100000 in
theorem mok_110 : MOK D_110 0 := ⟨tin 9 6 (by decide +kernel) rfl, by decide +kernel, by decide +kernel, by decide +kernel⟩
set_option maxRecDepth 100000 in
theorem mok_111 : MOK D_111 2 := ⟨tin 9 14 (by decide +kernel) rfl, by decide +kernel, by decide +kernel, by decide +kernel⟩
set_option maxRecDepth 100000 in
theorem mok_112 : MOK D_112 4 := ⟨tin 9 26 (by decide +kernel) rfl, by decide +kernel, by decide +kernel, by decide +kernel⟩
set_option maxRecDepth 100000 in
theorem mok_113 : MOK D_113 1 := ⟨tin 9 30 (by decide +kernel) rfl, by decide +kernel, by decide +kernel, by decide +kernel⟩
end
