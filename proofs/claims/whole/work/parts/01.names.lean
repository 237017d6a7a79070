-- ===== PART A: goes FIRST, ahead of the names: the tables' words, and 'selects' of the private methods out of them =====
/-- a private method of a class that the tables say can be made, by its rows of tables_1 -/
def lw_okq (q : MethodName × Nat) : Prop := (q.1.cls ≠ "java/lang/invoke/MethodHandle" ∧ q.1.cls ≠ "java/lang/invoke/VarHandle") ∧ Cond.instantiable q.1.cls q.2 ∈ tables_1 ∧ Cond.privateMethod q.1 ∈ tables_1 ∧ Cond.instanceMethod q.1 ∈ tables_1
theorem lw_p0 : lw_okq (⟨"CardLoom$LawReader", "term", "(I)I"⟩, 4) := ⟨⟨by decide +kernel, by decide +kernel⟩, List.mem_of_getElem? (i := 130) (by decide +kernel), List.mem_of_getElem? (i := 328) (by decide +kernel), List.mem_of_getElem? (i := 329) (by decide +kernel)⟩
theorem lw_p1 : lw_okq (⟨"CardLoom$LawReader", "next", "()I"⟩, 4) := ⟨⟨by decide +kernel, by decide +kernel⟩, List.mem_of_getElem? (i := 130) (by decide +kernel), List.mem_of_getElem? (i := 332) (by decide +kernel), List.mem_of_getElem? (i := 333) (by decide +kernel)⟩
theorem lw_p2 : lw_okq (⟨"CardLoom$LawReader", "fail", "(I)V"⟩, 4) := ⟨⟨by decide +kernel, by decide +kernel⟩, List.mem_of_getElem? (i := 130) (by decide +kernel), List.mem_of_getElem? (i := 357) (by decide +kernel), List.mem_of_getElem? (i := 358) (by decide +kernel)⟩
theorem lw_p3 : lw_okq (⟨"CardLoom$LawReader", "number", "(C)I"⟩, 4) := ⟨⟨by decide +kernel, by decide +kernel⟩, List.mem_of_getElem? (i := 130) (by decide +kernel), List.mem_of_getElem? (i := 361) (by decide +kernel), List.mem_of_getElem? (i := 362) (by decide +kernel)⟩
theorem lw_p4 : lw_okq (⟨"CardLoom$LawReader", "expect", "(C)V"⟩, 4) := ⟨⟨by decide +kernel, by decide +kernel⟩, List.mem_of_getElem? (i := 130) (by decide +kernel), List.mem_of_getElem? (i := 366) (by decide +kernel), List.mem_of_getElem? (i := 367) (by decide +kernel)⟩
theorem lw_p5 : lw_okq (⟨"CardLoom$Law", "valueOf", "(IIIII)I"⟩, 6) := ⟨⟨by decide +kernel, by decide +kernel⟩, List.mem_of_getElem? (i := 70) (by decide +kernel), List.mem_of_getElem? (i := 448) (by decide +kernel), List.mem_of_getElem? (i := 449) (by decide +kernel)⟩
theorem lw_p6 : lw_okq (⟨"CardLoom", "turnSet", "(II)I"⟩, 10) := ⟨⟨by decide +kernel, by decide +kernel⟩, List.mem_of_getElem? (i := 17) (by decide +kernel), List.mem_of_getElem? (i := 492) (by decide +kernel), List.mem_of_getElem? (i := 493) (by decide +kernel)⟩
theorem lw_p7 : lw_okq (⟨"CardLoom$Loom", "pick", "()Z"⟩, 5) := ⟨⟨by decide +kernel, by decide +kernel⟩, List.mem_of_getElem? (i := 39) (by decide +kernel), List.mem_of_getElem? (i := 504) (by decide +kernel), List.mem_of_getElem? (i := 505) (by decide +kernel)⟩
theorem lw_p8 : lw_okq (⟨"CardLoom$Loom", "jams", "()Z"⟩, 5) := ⟨⟨by decide +kernel, by decide +kernel⟩, List.mem_of_getElem? (i := 39) (by decide +kernel), List.mem_of_getElem? (i := 509) (by decide +kernel), List.mem_of_getElem? (i := 510) (by decide +kernel)⟩
theorem lw_p9 : lw_okq (⟨"CardLoom$Loom", "weaveCard", "(ILCardLoom$Card;I)V"⟩, 5) := ⟨⟨by decide +kernel, by decide +kernel⟩, List.mem_of_getElem? (i := 39) (by decide +kernel), List.mem_of_getElem? (i := 523) (by decide +kernel), List.mem_of_getElem? (i := 524) (by decide +kernel)⟩
theorem lw_p10 : lw_okq (⟨"CardLoom$Loom", "takeLastRow", "()V"⟩, 5) := ⟨⟨by decide +kernel, by decide +kernel⟩, List.mem_of_getElem? (i := 39) (by decide +kernel), List.mem_of_getElem? (i := 580) (by decide +kernel), List.mem_of_getElem? (i := 581) (by decide +kernel)⟩
theorem lw_p11 : lw_okq (⟨"CardLoom$Mind", "begin", "(LCardLoom$Loom;)V"⟩, 3) := ⟨⟨by decide +kernel, by decide +kernel⟩, List.mem_of_getElem? (i := 151) (by decide +kernel), List.mem_of_getElem? (i := 614) (by decide +kernel), List.mem_of_getElem? (i := 615) (by decide +kernel)⟩
theorem lw_p12 : lw_okq (⟨"CardLoom$Mind", "pick", "(LCardLoom$Loom;I)Z"⟩, 3) := ⟨⟨by decide +kernel, by decide +kernel⟩, List.mem_of_getElem? (i := 151) (by decide +kernel), List.mem_of_getElem? (i := 625) (by decide +kernel), List.mem_of_getElem? (i := 626) (by decide +kernel)⟩
theorem lw_p13 : lw_okq (⟨"CardLoom$Mind", "allPlacesAsNow", "()Z"⟩, 3) := ⟨⟨by decide +kernel, by decide +kernel⟩, List.mem_of_getElem? (i := 151) (by decide +kernel), List.mem_of_getElem? (i := 632) (by decide +kernel), List.mem_of_getElem? (i := 633) (by decide +kernel)⟩
theorem lw_p14 : lw_okq (⟨"CardLoom$Mind", "nothingTwisted", "()Z"⟩, 3) := ⟨⟨by decide +kernel, by decide +kernel⟩, List.mem_of_getElem? (i := 151) (by decide +kernel), List.mem_of_getElem? (i := 645) (by decide +kernel), List.mem_of_getElem? (i := 646) (by decide +kernel)⟩
theorem lw_p15 : lw_okq (⟨"CardLoom$Drafter", "setCost", "(III)V"⟩, 3) := ⟨⟨by decide +kernel, by decide +kernel⟩, List.mem_of_getElem? (i := 180) (by decide +kernel), List.mem_of_getElem? (i := 710) (by decide +kernel), List.mem_of_getElem? (i := 711) (by decide +kernel)⟩
def lw_privs_1 : List (MethodName × Nat) := [(⟨"CardLoom$LawReader", "term", "(I)I"⟩, 4), (⟨"CardLoom$LawReader", "next", "()I"⟩, 4), (⟨"CardLoom$LawReader", "fail", "(I)V"⟩, 4), (⟨"CardLoom$LawReader", "number", "(C)I"⟩, 4), (⟨"CardLoom$LawReader", "expect", "(C)V"⟩, 4), (⟨"CardLoom$Law", "valueOf", "(IIIII)I"⟩, 6), (⟨"CardLoom", "turnSet", "(II)I"⟩, 10), (⟨"CardLoom$Loom", "pick", "()Z"⟩, 5), (⟨"CardLoom$Loom", "jams", "()Z"⟩, 5), (⟨"CardLoom$Loom", "weaveCard", "(ILCardLoom$Card;I)V"⟩, 5), (⟨"CardLoom$Loom", "takeLastRow", "()V"⟩, 5), (⟨"CardLoom$Mind", "begin", "(LCardLoom$Loom;)V"⟩, 3), (⟨"CardLoom$Mind", "pick", "(LCardLoom$Loom;I)Z"⟩, 3), (⟨"CardLoom$Mind", "allPlacesAsNow", "()Z"⟩, 3), (⟨"CardLoom$Mind", "nothingTwisted", "()Z"⟩, 3), (⟨"CardLoom$Drafter", "setCost", "(III)V"⟩, 3)]
theorem lw_r1 : ∀ q ∈ lw_privs_1, lw_okq q := List.forall_mem_cons.mpr ⟨lw_p0, List.forall_mem_cons.mpr ⟨lw_p1, List.forall_mem_cons.mpr ⟨lw_p2, List.forall_mem_cons.mpr ⟨lw_p3, List.forall_mem_cons.mpr ⟨lw_p4, List.forall_mem_cons.mpr ⟨lw_p5, List.forall_mem_cons.mpr ⟨lw_p6, List.forall_mem_cons.mpr ⟨lw_p7, List.forall_mem_cons.mpr ⟨lw_p8, List.forall_mem_cons.mpr ⟨lw_p9, List.forall_mem_cons.mpr ⟨lw_p10, List.forall_mem_cons.mpr ⟨lw_p11, List.forall_mem_cons.mpr ⟨lw_p12, List.forall_mem_cons.mpr ⟨lw_p13, List.forall_mem_cons.mpr ⟨lw_p14, List.forall_mem_cons.mpr ⟨lw_p15, fun _ h => absurd h List.not_mem_nil⟩⟩⟩⟩⟩⟩⟩⟩⟩⟩⟩⟩⟩⟩⟩⟩
theorem lw_p16 : lw_okq (⟨"CardLoom$Drafter", "leastCost", "(LCardLoom$Card;III)I"⟩, 3) := ⟨⟨by decide +kernel, by decide +kernel⟩, List.mem_of_getElem? (i := 180) (by decide +kernel), List.mem_of_getElem? (i := 715) (by decide +kernel), List.mem_of_getElem? (i := 716) (by decide +kernel)⟩
theorem lw_p17 : lw_okq (⟨"CardLoom$Drafter", "costBy", "(ILCardLoom$Card;III)I"⟩, 3) := ⟨⟨by decide +kernel, by decide +kernel⟩, List.mem_of_getElem? (i := 180) (by decide +kernel), List.mem_of_getElem? (i := 722) (by decide +kernel), List.mem_of_getElem? (i := 723) (by decide +kernel)⟩
theorem lw_p18 : lw_okq (⟨"CardLoom$Drafter", "cost", "(II)I"⟩, 3) := ⟨⟨by decide +kernel, by decide +kernel⟩, List.mem_of_getElem? (i := 180) (by decide +kernel), List.mem_of_getElem? (i := 729) (by decide +kernel), List.mem_of_getElem? (i := 730) (by decide +kernel)⟩
theorem lw_p19 : lw_okq (⟨"CardLoom$Drafter", "follow", "(LCardLoom$Card;LCardLoom$Picture;II)V"⟩, 3) := ⟨⟨by decide +kernel, by decide +kernel⟩, List.mem_of_getElem? (i := 180) (by decide +kernel), List.mem_of_getElem? (i := 734) (by decide +kernel), List.mem_of_getElem? (i := 735) (by decide +kernel)⟩
theorem lw_p20 : lw_okq (⟨"CardLoom$Drafter", "firstBest", "(LCardLoom$Card;III)I"⟩, 3) := ⟨⟨by decide +kernel, by decide +kernel⟩, List.mem_of_getElem? (i := 180) (by decide +kernel), List.mem_of_getElem? (i := 738) (by decide +kernel), List.mem_of_getElem? (i := 739) (by decide +kernel)⟩
theorem lw_p21 : lw_okq (⟨"CardLoom", "fewestOfAll", "()I"⟩, 10) := ⟨⟨by decide +kernel, by decide +kernel⟩, List.mem_of_getElem? (i := 17) (by decide +kernel), List.mem_of_getElem? (i := 750) (by decide +kernel), List.mem_of_getElem? (i := 751) (by decide +kernel)⟩
theorem lw_p22 : lw_okq (⟨"CardLoom$Cloth", "repeatsBy", "(I)Z"⟩, 5) := ⟨⟨by decide +kernel, by decide +kernel⟩, List.mem_of_getElem? (i := 47) (by decide +kernel), List.mem_of_getElem? (i := 795) (by decide +kernel), List.mem_of_getElem? (i := 796) (by decide +kernel)⟩
theorem lw_p23 : lw_okq (⟨"CardLoom$Cloth", "isMirror", "(I)Z"⟩, 5) := ⟨⟨by decide +kernel, by decide +kernel⟩, List.mem_of_getElem? (i := 47) (by decide +kernel), List.mem_of_getElem? (i := 811) (by decide +kernel), List.mem_of_getElem? (i := 812) (by decide +kernel)⟩
theorem lw_p24 : lw_okq (⟨"CardLoom$Cloth", "rankOf", "(I)I"⟩, 5) := ⟨⟨by decide +kernel, by decide +kernel⟩, List.mem_of_getElem? (i := 47) (by decide +kernel), List.mem_of_getElem? (i := 842) (by decide +kernel), List.mem_of_getElem? (i := 843) (by decide +kernel)⟩
theorem lw_p25 : lw_okq (⟨"CardLoom$Cloth", "isAhead", "(II)Z"⟩, 5) := ⟨⟨by decide +kernel, by decide +kernel⟩, List.mem_of_getElem? (i := 47) (by decide +kernel), List.mem_of_getElem? (i := 846) (by decide +kernel), List.mem_of_getElem? (i := 847) (by decide +kernel)⟩
theorem lw_p26 : lw_okq (⟨"CardLoomModel", "readLaw", "()I"⟩, 41) := ⟨⟨by decide +kernel, by decide +kernel⟩, List.mem_of_getElem? (i := 976) (by decide +kernel), List.mem_of_getElem? (i := 1121) (by decide +kernel), List.mem_of_getElem? (i := 1122) (by decide +kernel)⟩
theorem lw_p27 : lw_okq (⟨"CardLoomModel", "here", "()I"⟩, 41) := ⟨⟨by decide +kernel, by decide +kernel⟩, List.mem_of_getElem? (i := 976) (by decide +kernel), List.mem_of_getElem? (i := 1125) (by decide +kernel), List.mem_of_getElem? (i := 1126) (by decide +kernel)⟩
theorem lw_p28 : lw_okq (⟨"CardLoomModel", "wrong", "(I)V"⟩, 41) := ⟨⟨by decide +kernel, by decide +kernel⟩, List.mem_of_getElem? (i := 976) (by decide +kernel), List.mem_of_getElem? (i := 1129) (by decide +kernel), List.mem_of_getElem? (i := 1130) (by decide +kernel)⟩
theorem lw_p29 : lw_okq (⟨"CardLoomModel", "readNumber", "(I)I"⟩, 41) := ⟨⟨by decide +kernel, by decide +kernel⟩, List.mem_of_getElem? (i := 976) (by decide +kernel), List.mem_of_getElem? (i := 1133) (by decide +kernel), List.mem_of_getElem? (i := 1134) (by decide +kernel)⟩
theorem lw_p30 : lw_okq (⟨"CardLoomModel", "expect", "(I)V"⟩, 41) := ⟨⟨by decide +kernel, by decide +kernel⟩, List.mem_of_getElem? (i := 976) (by decide +kernel), List.mem_of_getElem? (i := 1137) (by decide +kernel), List.mem_of_getElem? (i := 1138) (by decide +kernel)⟩
theorem lw_p31 : lw_okq (⟨"CardLoomModel", "readCard", "(I)V"⟩, 41) := ⟨⟨by decide +kernel, by decide +kernel⟩, List.mem_of_getElem? (i := 976) (by decide +kernel), List.mem_of_getElem? (i := 1145) (by decide +kernel), List.mem_of_getElem? (i := 1146) (by decide +kernel)⟩
def lw_privs_2 : List (MethodName × Nat) := [(⟨"CardLoom$Drafter", "leastCost", "(LCardLoom$Card;III)I"⟩, 3), (⟨"CardLoom$Drafter", "costBy", "(ILCardLoom$Card;III)I"⟩, 3), (⟨"CardLoom$Drafter", "cost", "(II)I"⟩, 3), (⟨"CardLoom$Drafter", "follow", "(LCardLoom$Card;LCardLoom$Picture;II)V"⟩, 3), (⟨"CardLoom$Drafter", "firstBest", "(LCardLoom$Card;III)I"⟩, 3), (⟨"CardLoom", "fewestOfAll", "()I"⟩, 10), (⟨"CardLoom$Cloth", "repeatsBy", "(I)Z"⟩, 5), (⟨"CardLoom$Cloth", "isMirror", "(I)Z"⟩, 5), (⟨"CardLoom$Cloth", "rankOf", "(I)I"⟩, 5), (⟨"CardLoom$Cloth", "isAhead", "(II)Z"⟩, 5), (⟨"CardLoomModel", "readLaw", "()I"⟩, 41), (⟨"CardLoomModel", "here", "()I"⟩, 41), (⟨"CardLoomModel", "wrong", "(I)V"⟩, 41), (⟨"CardLoomModel", "readNumber", "(I)I"⟩, 41), (⟨"CardLoomModel", "expect", "(I)V"⟩, 41), (⟨"CardLoomModel", "readCard", "(I)V"⟩, 41)]
theorem lw_r2 : ∀ q ∈ lw_privs_2, lw_okq q := List.forall_mem_cons.mpr ⟨lw_p16, List.forall_mem_cons.mpr ⟨lw_p17, List.forall_mem_cons.mpr ⟨lw_p18, List.forall_mem_cons.mpr ⟨lw_p19, List.forall_mem_cons.mpr ⟨lw_p20, List.forall_mem_cons.mpr ⟨lw_p21, List.forall_mem_cons.mpr ⟨lw_p22, List.forall_mem_cons.mpr ⟨lw_p23, List.forall_mem_cons.mpr ⟨lw_p24, List.forall_mem_cons.mpr ⟨lw_p25, List.forall_mem_cons.mpr ⟨lw_p26, List.forall_mem_cons.mpr ⟨lw_p27, List.forall_mem_cons.mpr ⟨lw_p28, List.forall_mem_cons.mpr ⟨lw_p29, List.forall_mem_cons.mpr ⟨lw_p30, List.forall_mem_cons.mpr ⟨lw_p31, fun _ h => absurd h List.not_mem_nil⟩⟩⟩⟩⟩⟩⟩⟩⟩⟩⟩⟩⟩⟩⟩⟩
theorem lw_p32 : lw_okq (⟨"CardLoomModel", "isCard", "(I)Z"⟩, 41) := ⟨⟨by decide +kernel, by decide +kernel⟩, List.mem_of_getElem? (i := 976) (by decide +kernel), List.mem_of_getElem? (i := 1153) (by decide +kernel), List.mem_of_getElem? (i := 1154) (by decide +kernel)⟩
theorem lw_p33 : lw_okq (⟨"CardLoomModel", "floatOf", "(I)I"⟩, 41) := ⟨⟨by decide +kernel, by decide +kernel⟩, List.mem_of_getElem? (i := 976) (by decide +kernel), List.mem_of_getElem? (i := 1157) (by decide +kernel), List.mem_of_getElem? (i := 1158) (by decide +kernel)⟩
theorem lw_p34 : lw_okq (⟨"CardLoomModel", "lawOf", "(III)I"⟩, 41) := ⟨⟨by decide +kernel, by decide +kernel⟩, List.mem_of_getElem? (i := 976) (by decide +kernel), List.mem_of_getElem? (i := 1162) (by decide +kernel), List.mem_of_getElem? (i := 1163) (by decide +kernel)⟩
theorem lw_p35 : lw_okq (⟨"CardLoomModel", "picked", "(II)I"⟩, 41) := ⟨⟨by decide +kernel, by decide +kernel⟩, List.mem_of_getElem? (i := 976) (by decide +kernel), List.mem_of_getElem? (i := 1185) (by decide +kernel), List.mem_of_getElem? (i := 1186) (by decide +kernel)⟩
theorem lw_p36 : lw_okq (⟨"CardLoomModel", "pick", "()I"⟩, 41) := ⟨⟨by decide +kernel, by decide +kernel⟩, List.mem_of_getElem? (i := 976) (by decide +kernel), List.mem_of_getElem? (i := 1189) (by decide +kernel), List.mem_of_getElem? (i := 1190) (by decide +kernel)⟩
theorem lw_p37 : lw_okq (⟨"CardLoomModel", "jams", "()Z"⟩, 41) := ⟨⟨by decide +kernel, by decide +kernel⟩, List.mem_of_getElem? (i := 976) (by decide +kernel), List.mem_of_getElem? (i := 1193) (by decide +kernel), List.mem_of_getElem? (i := 1194) (by decide +kernel)⟩
theorem lw_p38 : lw_okq (⟨"CardLoomModel", "weavePick", "()V"⟩, 41) := ⟨⟨by decide +kernel, by decide +kernel⟩, List.mem_of_getElem? (i := 976) (by decide +kernel), List.mem_of_getElem? (i := 1200) (by decide +kernel), List.mem_of_getElem? (i := 1201) (by decide +kernel)⟩
theorem lw_p39 : lw_okq (⟨"CardLoomModel", "layLaw", "(I)V"⟩, 41) := ⟨⟨by decide +kernel, by decide +kernel⟩, List.mem_of_getElem? (i := 976) (by decide +kernel), List.mem_of_getElem? (i := 1215) (by decide +kernel), List.mem_of_getElem? (i := 1216) (by decide +kernel)⟩
theorem lw_p40 : lw_okq (⟨"CardLoomModel", "asked", "([III)I"⟩, 41) := ⟨⟨by decide +kernel, by decide +kernel⟩, List.mem_of_getElem? (i := 976) (by decide +kernel), List.mem_of_getElem? (i := 1227) (by decide +kernel), List.mem_of_getElem? (i := 1228) (by decide +kernel)⟩
theorem lw_p41 : lw_okq (⟨"CardLoomModel", "isRow", "(I)Z"⟩, 41) := ⟨⟨by decide +kernel, by decide +kernel⟩, List.mem_of_getElem? (i := 976) (by decide +kernel), List.mem_of_getElem? (i := 1231) (by decide +kernel), List.mem_of_getElem? (i := 1232) (by decide +kernel)⟩
theorem lw_p42 : lw_okq (⟨"CardLoomModel", "begins", "()V"⟩, 41) := ⟨⟨by decide +kernel, by decide +kernel⟩, List.mem_of_getElem? (i := 976) (by decide +kernel), List.mem_of_getElem? (i := 1251) (by decide +kernel), List.mem_of_getElem? (i := 1252) (by decide +kernel)⟩
theorem lw_p43 : lw_okq (⟨"CardLoomModel", "mind", "(I)Z"⟩, 41) := ⟨⟨by decide +kernel, by decide +kernel⟩, List.mem_of_getElem? (i := 976) (by decide +kernel), List.mem_of_getElem? (i := 1255) (by decide +kernel), List.mem_of_getElem? (i := 1256) (by decide +kernel)⟩
theorem lw_p44 : lw_okq (⟨"CardLoomModel", "areAsNow", "()Z"⟩, 41) := ⟨⟨by decide +kernel, by decide +kernel⟩, List.mem_of_getElem? (i := 976) (by decide +kernel), List.mem_of_getElem? (i := 1259) (by decide +kernel), List.mem_of_getElem? (i := 1260) (by decide +kernel)⟩
theorem lw_p45 : lw_okq (⟨"CardLoomModel", "areFlat", "()Z"⟩, 41) := ⟨⟨by decide +kernel, by decide +kernel⟩, List.mem_of_getElem? (i := 976) (by decide +kernel), List.mem_of_getElem? (i := 1267) (by decide +kernel), List.mem_of_getElem? (i := 1268) (by decide +kernel)⟩
theorem lw_p46 : lw_okq (⟨"CardLoomModel", "greatest", "(I)I"⟩, 41) := ⟨⟨by decide +kernel, by decide +kernel⟩, List.mem_of_getElem? (i := 976) (by decide +kernel), List.mem_of_getElem? (i := 1279) (by decide +kernel), List.mem_of_getElem? (i := 1280) (by decide +kernel)⟩
theorem lw_p47 : lw_okq (⟨"CardLoomModel", "draftOf", "(II)I"⟩, 41) := ⟨⟨by decide +kernel, by decide +kernel⟩, List.mem_of_getElem? (i := 976) (by decide +kernel), List.mem_of_getElem? (i := 1295) (by decide +kernel), List.mem_of_getElem? (i := 1296) (by decide +kernel)⟩
def lw_privs_3 : List (MethodName × Nat) := [(⟨"CardLoomModel", "isCard", "(I)Z"⟩, 41), (⟨"CardLoomModel", "floatOf", "(I)I"⟩, 41), (⟨"CardLoomModel", "lawOf", "(III)I"⟩, 41), (⟨"CardLoomModel", "picked", "(II)I"⟩, 41), (⟨"CardLoomModel", "pick", "()I"⟩, 41), (⟨"CardLoomModel", "jams", "()Z"⟩, 41), (⟨"CardLoomModel", "weavePick", "()V"⟩, 41), (⟨"CardLoomModel", "layLaw", "(I)V"⟩, 41), (⟨"CardLoomModel", "asked", "([III)I"⟩, 41), (⟨"CardLoomModel", "isRow", "(I)Z"⟩, 41), (⟨"CardLoomModel", "begins", "()V"⟩, 41), (⟨"CardLoomModel", "mind", "(I)Z"⟩, 41), (⟨"CardLoomModel", "areAsNow", "()Z"⟩, 41), (⟨"CardLoomModel", "areFlat", "()Z"⟩, 41), (⟨"CardLoomModel", "greatest", "(I)I"⟩, 41), (⟨"CardLoomModel", "draftOf", "(II)I"⟩, 41)]
theorem lw_r3 : ∀ q ∈ lw_privs_3, lw_okq q := List.forall_mem_cons.mpr ⟨lw_p32, List.forall_mem_cons.mpr ⟨lw_p33, List.forall_mem_cons.mpr ⟨lw_p34, List.forall_mem_cons.mpr ⟨lw_p35, List.forall_mem_cons.mpr ⟨lw_p36, List.forall_mem_cons.mpr ⟨lw_p37, List.forall_mem_cons.mpr ⟨lw_p38, List.forall_mem_cons.mpr ⟨lw_p39, List.forall_mem_cons.mpr ⟨lw_p40, List.forall_mem_cons.mpr ⟨lw_p41, List.forall_mem_cons.mpr ⟨lw_p42, List.forall_mem_cons.mpr ⟨lw_p43, List.forall_mem_cons.mpr ⟨lw_p44, List.forall_mem_cons.mpr ⟨lw_p45, List.forall_mem_cons.mpr ⟨lw_p46, List.forall_mem_cons.mpr ⟨lw_p47, fun _ h => absurd h List.not_mem_nil⟩⟩⟩⟩⟩⟩⟩⟩⟩⟩⟩⟩⟩⟩⟩⟩
theorem lw_p48 : lw_okq (⟨"CardLoomModel", "fewestFrom", "(III)I"⟩, 41) := ⟨⟨by decide +kernel, by decide +kernel⟩, List.mem_of_getElem? (i := 976) (by decide +kernel), List.mem_of_getElem? (i := 1299) (by decide +kernel), List.mem_of_getElem? (i := 1300) (by decide +kernel)⟩
theorem lw_p49 : lw_okq (⟨"CardLoomModel", "mayBe", "(IIIII)Z"⟩, 41) := ⟨⟨by decide +kernel, by decide +kernel⟩, List.mem_of_getElem? (i := 976) (by decide +kernel), List.mem_of_getElem? (i := 1304) (by decide +kernel), List.mem_of_getElem? (i := 1305) (by decide +kernel)⟩
theorem lw_p50 : lw_okq (⟨"CardLoomModel", "alikeIn", "(II)I"⟩, 41) := ⟨⟨by decide +kernel, by decide +kernel⟩, List.mem_of_getElem? (i := 976) (by decide +kernel), List.mem_of_getElem? (i := 1326) (by decide +kernel), List.mem_of_getElem? (i := 1327) (by decide +kernel)⟩
theorem lw_p51 : lw_okq (⟨"CardLoomModel", "countOf", "(I[I)I"⟩, 41) := ⟨⟨by decide +kernel, by decide +kernel⟩, List.mem_of_getElem? (i := 976) (by decide +kernel), List.mem_of_getElem? (i := 1342) (by decide +kernel), List.mem_of_getElem? (i := 1343) (by decide +kernel)⟩
theorem lw_p52 : lw_okq (⟨"CardLoomModel", "isAhead", "(II)Z"⟩, 41) := ⟨⟨by decide +kernel, by decide +kernel⟩, List.mem_of_getElem? (i := 976) (by decide +kernel), List.mem_of_getElem? (i := 1350) (by decide +kernel), List.mem_of_getElem? (i := 1351) (by decide +kernel)⟩
theorem lw_p53 : lw_okq (⟨"CardLoomModel", "copyAll", "(Z)V"⟩, 41) := ⟨⟨by decide +kernel, by decide +kernel⟩, List.mem_of_getElem? (i := 976) (by decide +kernel), List.mem_of_getElem? (i := 1403) (by decide +kernel), List.mem_of_getElem? (i := 1404) (by decide +kernel)⟩
def lw_privs_4 : List (MethodName × Nat) := [(⟨"CardLoomModel", "fewestFrom", "(III)I"⟩, 41), (⟨"CardLoomModel", "mayBe", "(IIIII)Z"⟩, 41), (⟨"CardLoomModel", "alikeIn", "(II)I"⟩, 41), (⟨"CardLoomModel", "countOf", "(I[I)I"⟩, 41), (⟨"CardLoomModel", "isAhead", "(II)Z"⟩, 41), (⟨"CardLoomModel", "copyAll", "(Z)V"⟩, 41)]
theorem lw_r4 : ∀ q ∈ lw_privs_4, lw_okq q := List.forall_mem_cons.mpr ⟨lw_p48, List.forall_mem_cons.mpr ⟨lw_p49, List.forall_mem_cons.mpr ⟨lw_p50, List.forall_mem_cons.mpr ⟨lw_p51, List.forall_mem_cons.mpr ⟨lw_p52, List.forall_mem_cons.mpr ⟨lw_p53, fun _ h => absurd h List.not_mem_nil⟩⟩⟩⟩⟩⟩
def lw_privs : List (MethodName × Nat) := lw_privs_1 ++ (lw_privs_2 ++ (lw_privs_3 ++ (lw_privs_4)))
def lw_tbl : List Cond := k2_sels lw_privs ++ tables_1
theorem lw_privs_ok : ∀ q ∈ lw_privs, lw_okq q := by
  show ∀ q ∈ lw_privs_1 ++ (lw_privs_2 ++ (lw_privs_3 ++ (lw_privs_4))), lw_okq q
  exact List.forall_mem_append.mpr ⟨lw_r1, List.forall_mem_append.mpr ⟨lw_r2, List.forall_mem_append.mpr ⟨lw_r3, lw_r4⟩⟩⟩

-- names, as the place printed them
def RX0 : String := "CardLoom$Card"
def TX0 : u_T := fun k => match k with
  | 0 => ("CardLoom$Card", "holes", "[I", true)
  | 1 => ("CardLoom$Card", "zSlant", "I", false)
  | 2 => ("CardLoom$Card", "top", "I", false)
  | _ => ("CardLoom$Card", "twist", "I", false)
def tyX0 : Nat → FieldType := fun k => match k with
  | 0 => .array .int
  | 1 => .int
  | 2 => .int
  | _ => .int
abbrev wsX00 : List Cond := u_ws RX0 TX0 4
theorem nmX0 : ∀ a, a < 4 → ∀ b, b < 4 → a ≠ b → (TX0 a).2.1 ≠ (TX0 b).2.1 := by decide +kernel
theorem tyX0_ok : ∀ k, k < 4 → parseFieldDescriptor (TX0 k).2.2.1 = some (tyX0 k) := by decide +kernel
abbrev cX0_init : ByteArray := prog_2_method_1_code
def yX0_init : MethodName := ⟨RX0, "<init>", "()V"⟩
abbrev cX0_colourIn : ByteArray := prog_2_method_2_code
def yX0_colourIn : MethodName := ⟨RX0, "colourIn", "(I)I"⟩
abbrev cX0_dye : ByteArray := prog_2_method_3_code
def yX0_dye : MethodName := ⟨RX0, "dye", "(II)I"⟩
abbrev cX0_leansToZ : ByteArray := prog_2_method_4_code
def yX0_leansToZ : MethodName := ⟨RX0, "leansToZ", "()I"⟩
abbrev cX0_flip : ByteArray := prog_2_method_5_code
def yX0_flip : MethodName := ⟨RX0, "flip", "()I"⟩
abbrev cX0_onTop : ByteArray := prog_2_method_6_code
def yX0_onTop : MethodName := ⟨RX0, "onTop", "()I"⟩
abbrev cX0_putOnTop : ByteArray := prog_2_method_7_code
def yX0_putOnTop : MethodName := ⟨RX0, "putOnTop", "(I)I"⟩
abbrev cX0_twists : ByteArray := prog_2_method_8_code
def yX0_twists : MethodName := ⟨RX0, "twists", "()I"⟩
abbrev cX0_beginAnew : ByteArray := prog_2_method_9_code
def yX0_beginAnew : MethodName := ⟨RX0, "beginAnew", "(I)V"⟩
abbrev cX0_jamsBy : ByteArray := prog_2_method_10_code
def yX0_jamsBy : MethodName := ⟨RX0, "jamsBy", "(I)Z"⟩
abbrev cX0_twistBy : ByteArray := prog_2_method_11_code
def yX0_twistBy : MethodName := ⟨RX0, "twistBy", "(I)V"⟩
abbrev cX0_frontColour : ByteArray := prog_2_method_12_code
def yX0_frontColour : MethodName := ⟨RX0, "frontColour", "()I"⟩
abbrev cX0_backColour : ByteArray := prog_2_method_13_code
def yX0_backColour : MethodName := ⟨RX0, "backColour", "()I"⟩
abbrev cX0_leanBy : ByteArray := prog_2_method_14_code
def yX0_leanBy : MethodName := ⟨RX0, "leanBy", "(I)I"⟩
abbrev cX0_copyFrom : ByteArray := prog_2_method_15_code
def yX0_copyFrom : MethodName := ⟨RX0, "copyFrom", "(LCardLoom$Card;)V"⟩
def RX1 : String := "CardLoom$Cloth"
def TX1 : u_T := fun k => match k with
  | 0 => ("CardLoom$Cloth", "cells", "[I", true)
  | 1 => ("CardLoom$Cloth", "frontCounts", "[I", true)
  | 2 => ("CardLoom$Cloth", "backCounts", "[I", true)
  | 3 => ("CardLoom$Cloth", "rows", "I", false)
  | _ => ("CardLoom$Cloth", "width", "I", false)
def tyX1 : Nat → FieldType := fun k => match k with
  | 0 => .array .int
  | 1 => .array .int
  | 2 => .array .int
  | 3 => .int
  | _ => .int
abbrev wsX10 : List Cond := u_ws RX1 TX1 5
theorem nmX1 : ∀ a, a < 5 → ∀ b, b < 5 → a ≠ b → (TX1 a).2.1 ≠ (TX1 b).2.1 := by decide +kernel
theorem tyX1_ok : ∀ k, k < 5 → parseFieldDescriptor (TX1 k).2.2.1 = some (tyX1 k) := by decide +kernel
abbrev cX1_init : ByteArray := prog_3_method_1_code
def yX1_init : MethodName := ⟨RX1, "<init>", "()V"⟩
abbrev cX1_beginAnew : ByteArray := prog_3_method_2_code
def yX1_beginAnew : MethodName := ⟨RX1, "beginAnew", "(I)V"⟩
abbrev cX1_rows : ByteArray := prog_3_method_3_code
def yX1_rows : MethodName := ⟨RX1, "rows", "()I"⟩
abbrev cX1_width : ByteArray := prog_3_method_4_code
def yX1_width : MethodName := ⟨RX1, "width", "()I"⟩
abbrev cX1_room : ByteArray := prog_3_method_5_code
def yX1_room : MethodName := ⟨RX1, "room", "()I"⟩
abbrev cX1_hasRow : ByteArray := prog_3_method_6_code
def yX1_hasRow : MethodName := ⟨RX1, "hasRow", "(I)Z"⟩
abbrev cX1_cell : ByteArray := prog_3_method_7_code
def yX1_cell : MethodName := ⟨RX1, "cell", "(III)I"⟩
abbrev cX1_put : ByteArray := prog_3_method_8_code
def yX1_put : MethodName := ⟨RX1, "put", "(III)V"⟩
abbrev cX1_addRow : ByteArray := prog_3_method_9_code
def yX1_addRow : MethodName := ⟨RX1, "addRow", "()V"⟩
abbrev cX1_dropRow : ByteArray := prog_3_method_10_code
def yX1_dropRow : MethodName := ⟨RX1, "dropRow", "()V"⟩
abbrev cX1_longest : ByteArray := prog_3_method_11_code
def yX1_longest : MethodName := ⟨RX1, "longest", "(III)I"⟩
abbrev cX1_count : ByteArray := prog_3_method_12_code
def yX1_count : MethodName := ⟨RX1, "count", "(II)I"⟩
abbrev cX1_colourRanked : ByteArray := prog_3_method_13_code
def yX1_colourRanked : MethodName := ⟨RX1, "colourRanked", "(I)I"⟩
abbrev cX1_rankOf : ByteArray := prog_3_method_14_code
def yX1_rankOf : MethodName := ⟨RX1, "rankOf", "(I)I"⟩
abbrev cX1_isAhead : ByteArray := prog_3_method_15_code
def yX1_isAhead : MethodName := ⟨RX1, "isAhead", "(II)Z"⟩
abbrev cX1_sameFronts : ByteArray := prog_3_method_16_code
def yX1_sameFronts : MethodName := ⟨RX1, "sameFronts", "(II)I"⟩
abbrev cX1_sameFaces : ByteArray := prog_3_method_17_code
def yX1_sameFaces : MethodName := ⟨RX1, "sameFaces", "(I)I"⟩
abbrev cX1_leastPeriod : ByteArray := prog_3_method_18_code
def yX1_leastPeriod : MethodName := ⟨RX1, "leastPeriod", "()I"⟩
abbrev cX1_repeatsBy : ByteArray := prog_3_method_19_code
def yX1_repeatsBy : MethodName := ⟨RX1, "repeatsBy", "(I)Z"⟩
abbrev cX1_mirrorRows : ByteArray := prog_3_method_20_code
def yX1_mirrorRows : MethodName := ⟨RX1, "mirrorRows", "()I"⟩
abbrev cX1_isMirror : ByteArray := prog_3_method_21_code
def yX1_isMirror : MethodName := ⟨RX1, "isMirror", "(I)Z"⟩
abbrev cX1_copyFrom : ByteArray := prog_3_method_22_code
def yX1_copyFrom : MethodName := ⟨RX1, "copyFrom", "(LCardLoom$Cloth;)V"⟩
def RX2 : String := "CardLoom$Drafter"
def TX2 : u_T := fun k => match k with
  | 0 => ("CardLoom$Drafter", "costs", "[I", true)
  | 1 => ("CardLoom$Drafter", "turnings", "[I", true)
  | _ => ("CardLoom$Drafter", "all", "[I", true)
def tyX2 : Nat → FieldType := fun k => match k with
  | 0 => .array .int
  | 1 => .array .int
  | _ => .array .int
abbrev wsX20 : List Cond := u_ws RX2 TX2 3
theorem nmX2 : ∀ a, a < 3 → ∀ b, b < 3 → a ≠ b → (TX2 a).2.1 ≠ (TX2 b).2.1 := by decide +kernel
theorem tyX2_ok : ∀ k, k < 3 → parseFieldDescriptor (TX2 k).2.2.1 = some (tyX2 k) := by decide +kernel
abbrev cX2_init : ByteArray := prog_4_method_1_code
def yX2_init : MethodName := ⟨RX2, "<init>", "()V"⟩
abbrev cX2_plan : ByteArray := prog_4_method_2_code
def yX2_plan : MethodName := ⟨RX2, "plan", "(LCardLoom$Card;LCardLoom$Picture;I)I"⟩
abbrev cX2_follow : ByteArray := prog_4_method_3_code
def yX2_follow : MethodName := ⟨RX2, "follow", "(LCardLoom$Card;LCardLoom$Picture;II)V"⟩
abbrev cX2_leastCost : ByteArray := prog_4_method_4_code
def yX2_leastCost : MethodName := ⟨RX2, "leastCost", "(LCardLoom$Card;III)I"⟩
abbrev cX2_firstBest : ByteArray := prog_4_method_5_code
def yX2_firstBest : MethodName := ⟨RX2, "firstBest", "(LCardLoom$Card;III)I"⟩
abbrev cX2_costBy : ByteArray := prog_4_method_6_code
def yX2_costBy : MethodName := ⟨RX2, "costBy", "(ILCardLoom$Card;III)I"⟩
abbrev cX2_wayTurning : ByteArray := prog_4_method_7_code
def yX2_wayTurning : MethodName := ⟨RX2, "wayTurning", "(I)I"⟩
abbrev cX2_cost : ByteArray := prog_4_method_8_code
def yX2_cost : MethodName := ⟨RX2, "cost", "(II)I"⟩
abbrev cX2_setCost : ByteArray := prog_4_method_9_code
def yX2_setCost : MethodName := ⟨RX2, "setCost", "(III)V"⟩
abbrev cX2_turningFor : ByteArray := prog_4_method_10_code
def yX2_turningFor : MethodName := ⟨RX2, "turningFor", "(I)I"⟩
abbrev cX2_planAll : ByteArray := prog_4_method_11_code
def yX2_planAll : MethodName := ⟨RX2, "planAll", "(LCardLoom$Loom;LCardLoom$Picture;)V"⟩
abbrev cX2_turningOf : ByteArray := prog_4_method_12_code
def yX2_turningOf : MethodName := ⟨RX2, "turningOf", "(II)I"⟩
def RX3 : String := "CardLoom$Law"
def TX3 : u_T := fun k => match k with
  | 0 => ("CardLoom$Law", "kinds", "[C", true)
  | 1 => ("CardLoom$Law", "numbers", "[I", true)
  | 2 => ("CardLoom$Law", "firsts", "[I", true)
  | 3 => ("CardLoom$Law", "seconds", "[I", true)
  | 4 => ("CardLoom$Law", "nodes", "I", false)
  | _ => ("CardLoom$Law", "leaves", "I", false)
def tyX3 : Nat → FieldType := fun k => match k with
  | 0 => .array .char
  | 1 => .array .int
  | 2 => .array .int
  | 3 => .array .int
  | 4 => .int
  | _ => .int
abbrev wsX30 : List Cond := u_ws RX3 TX3 6
theorem nmX3 : ∀ a, a < 6 → ∀ b, b < 6 → a ≠ b → (TX3 a).2.1 ≠ (TX3 b).2.1 := by decide +kernel
theorem tyX3_ok : ∀ k, k < 6 → parseFieldDescriptor (TX3 k).2.2.1 = some (tyX3 k) := by decide +kernel
abbrev cX3_init : ByteArray := prog_5_method_1_code
def yX3_init : MethodName := ⟨RX3, "<init>", "()V"⟩
abbrev cX3_leaves : ByteArray := prog_5_method_2_code
def yX3_leaves : MethodName := ⟨RX3, "leaves", "()I"⟩
abbrev cX3_wipe : ByteArray := prog_5_method_3_code
def yX3_wipe : MethodName := ⟨RX3, "wipe", "()V"⟩
abbrev cX3_add : ByteArray := prog_5_method_4_code
def yX3_add : MethodName := ⟨RX3, "add", "(CI)I"⟩
abbrev cX3_addLeaf : ByteArray := prog_5_method_5_code
def yX3_addLeaf : MethodName := ⟨RX3, "addLeaf", "(C)I"⟩
abbrev cX3_join : ByteArray := prog_5_method_6_code
def yX3_join : MethodName := ⟨RX3, "join", "(III)V"⟩
abbrev cX3_turningFor : ByteArray := prog_5_method_7_code
def yX3_turningFor : MethodName := ⟨RX3, "turningFor", "(III)I"⟩
abbrev cX3_valueOf : ByteArray := prog_5_method_8_code
def yX3_valueOf : MethodName := ⟨RX3, "valueOf", "(IIIII)I"⟩
abbrev cX3_isOddPart : ByteArray := prog_5_method_9_code
def yX3_isOddPart : MethodName := ⟨RX3, "isOddPart", "(II)Z"⟩
abbrev cX3_isDivided : ByteArray := prog_5_method_10_code
def yX3_isDivided : MethodName := ⟨RX3, "isDivided", "(II)Z"⟩
abbrev cX3_reversed : ByteArray := prog_5_method_11_code
def yX3_reversed : MethodName := ⟨RX3, "reversed", "(I)I"⟩
abbrev cX3_copyFrom : ByteArray := prog_5_method_12_code
def yX3_copyFrom : MethodName := ⟨RX3, "copyFrom", "(LCardLoom$Law;)V"⟩
def RX4 : String := "CardLoom$LawReader"
def TX4 : u_T := fun k => match k with
  | 0 => ("CardLoom$LawReader", "law", "LCardLoom$Law;", true)
  | 1 => ("CardLoom$LawReader", "text", "LCardLoom$Text;", false)
  | 2 => ("CardLoom$LawReader", "at", "I", false)
  | _ => ("CardLoom$LawReader", "fault", "I", false)
def tyX4 : Nat → FieldType := fun k => match k with
  | 0 => .object "CardLoom$Law"
  | 1 => .object "CardLoom$Text"
  | 2 => .int
  | _ => .int
abbrev wsX40 : List Cond := u_ws RX4 TX4 4
theorem nmX4 : ∀ a, a < 4 → ∀ b, b < 4 → a ≠ b → (TX4 a).2.1 ≠ (TX4 b).2.1 := by decide +kernel
theorem tyX4_ok : ∀ k, k < 4 → parseFieldDescriptor (TX4 k).2.2.1 = some (tyX4 k) := by decide +kernel
abbrev cX4_init : ByteArray := prog_6_method_1_code
def yX4_init : MethodName := ⟨RX4, "<init>", "()V"⟩
abbrev cX4_result : ByteArray := prog_6_method_2_code
def yX4_result : MethodName := ⟨RX4, "result", "()LCardLoom$Law;"⟩
abbrev cX4_read : ByteArray := prog_6_method_3_code
def yX4_read : MethodName := ⟨RX4, "read", "(LCardLoom$Text;)I"⟩
abbrev cX4_term : ByteArray := prog_6_method_4_code
def yX4_term : MethodName := ⟨RX4, "term", "(I)I"⟩
abbrev cX4_number : ByteArray := prog_6_method_5_code
def yX4_number : MethodName := ⟨RX4, "number", "(C)I"⟩
abbrev cX4_expect : ByteArray := prog_6_method_6_code
def yX4_expect : MethodName := ⟨RX4, "expect", "(C)V"⟩
abbrev cX4_fail : ByteArray := prog_6_method_7_code
def yX4_fail : MethodName := ⟨RX4, "fail", "(I)V"⟩
abbrev cX4_next : ByteArray := prog_6_method_8_code
def yX4_next : MethodName := ⟨RX4, "next", "()I"⟩
abbrev cX4_isLeaf : ByteArray := prog_6_method_9_code
def yX4_isLeaf : MethodName := ⟨RX4, "isLeaf", "(C)Z"⟩
abbrev cX4_hasNumber : ByteArray := prog_6_method_10_code
def yX4_hasNumber : MethodName := ⟨RX4, "hasNumber", "(C)Z"⟩
abbrev cX4_isOpener : ByteArray := prog_6_method_11_code
def yX4_isOpener : MethodName := ⟨RX4, "isOpener", "(C)Z"⟩
abbrev cX4_isPair : ByteArray := prog_6_method_12_code
def yX4_isPair : MethodName := ⟨RX4, "isPair", "(C)Z"⟩
def RX5 : String := "CardLoom$Lists"
def TX5 : u_T := fun k => match k with
  | 0 => ("CardLoom$Lists", "values", "[I", true)
  | _ => ("CardLoom$Lists", "sizes", "[I", true)
def tyX5 : Nat → FieldType := fun k => match k with
  | 0 => .array .int
  | _ => .array .int
abbrev wsX50 : List Cond := u_ws RX5 TX5 2
theorem nmX5 : ∀ a, a < 2 → ∀ b, b < 2 → a ≠ b → (TX5 a).2.1 ≠ (TX5 b).2.1 := by decide +kernel
theorem tyX5_ok : ∀ k, k < 2 → parseFieldDescriptor (TX5 k).2.2.1 = some (tyX5 k) := by decide +kernel
abbrev cX5_init : ByteArray := prog_7_method_1_code
def yX5_init : MethodName := ⟨RX5, "<init>", "()V"⟩
abbrev cX5_has : ByteArray := prog_7_method_2_code
def yX5_has : MethodName := ⟨RX5, "has", "(I)Z"⟩
abbrev cX5_isNothing : ByteArray := prog_7_method_3_code
def yX5_isNothing : MethodName := ⟨RX5, "isNothing", "(I)Z"⟩
abbrev cX5_hasPlace : ByteArray := prog_7_method_4_code
def yX5_hasPlace : MethodName := ⟨RX5, "hasPlace", "(II)Z"⟩
abbrev cX5_hasPlaceBehind : ByteArray := prog_7_method_5_code
def yX5_hasPlaceBehind : MethodName := ⟨RX5, "hasPlaceBehind", "(III)Z"⟩
abbrev cX5_renew : ByteArray := prog_7_method_6_code
def yX5_renew : MethodName := ⟨RX5, "renew", "(II)V"⟩
abbrev cX5_read : ByteArray := prog_7_method_7_code
def yX5_read : MethodName := ⟨RX5, "read", "(II)I"⟩
abbrev cX5_write : ByteArray := prog_7_method_8_code
def yX5_write : MethodName := ⟨RX5, "write", "(III)V"⟩
def RX6 : String := "CardLoom$Loom"
def TX6 : u_T := fun k => match k with
  | 0 => ("CardLoom$Loom", "cards", "[LCardLoom$Card;", true)
  | 1 => ("CardLoom$Loom", "turnings", "[I", true)
  | 2 => ("CardLoom$Loom", "cloth", "LCardLoom$Cloth;", true)
  | 3 => ("CardLoom$Loom", "law", "LCardLoom$Law;", true)
  | _ => ("CardLoom$Loom", "threaded", "I", false)
def tyX6 : Nat → FieldType := fun k => match k with
  | 0 => .array (.object "CardLoom$Card")
  | 1 => .array .int
  | 2 => .object "CardLoom$Cloth"
  | 3 => .object "CardLoom$Law"
  | _ => .int
abbrev wsX60 : List Cond := u_ws RX6 TX6 5
theorem nmX6 : ∀ a, a < 5 → ∀ b, b < 5 → a ≠ b → (TX6 a).2.1 ≠ (TX6 b).2.1 := by decide +kernel
theorem tyX6_ok : ∀ k, k < 5 → parseFieldDescriptor (TX6 k).2.2.1 = some (tyX6 k) := by decide +kernel
abbrev cX6_init : ByteArray := prog_8_method_1_code
def yX6_init : MethodName := ⟨RX6, "<init>", "()V"⟩
abbrev cX6_threaded : ByteArray := prog_8_method_2_code
def yX6_threaded : MethodName := ⟨RX6, "threaded", "()I"⟩
abbrev cX6_cloth : ByteArray := prog_8_method_3_code
def yX6_cloth : MethodName := ⟨RX6, "cloth", "()LCardLoom$Cloth;"⟩
abbrev cX6_picks : ByteArray := prog_8_method_4_code
def yX6_picks : MethodName := ⟨RX6, "picks", "()I"⟩
abbrev cX6_cardAt : ByteArray := prog_8_method_5_code
def yX6_cardAt : MethodName := ⟨RX6, "cardAt", "(I)LCardLoom$Card;"⟩
abbrev cX6_threadBy : ByteArray := prog_8_method_6_code
def yX6_threadBy : MethodName := ⟨RX6, "threadBy", "(LCardLoom$Text;)V"⟩
abbrev cX6_spellOn : ByteArray := prog_8_method_7_code
def yX6_spellOn : MethodName := ⟨RX6, "spellOn", "(LCardLoom$Text;)V"⟩
abbrev cX6_obey : ByteArray := prog_8_method_8_code
def yX6_obey : MethodName := ⟨RX6, "obey", "(LCardLoom$Law;)V"⟩
abbrev cX6_nextTurning : ByteArray := prog_8_method_9_code
def yX6_nextTurning : MethodName := ⟨RX6, "nextTurning", "(II)I"⟩
abbrev cX6_pickSet : ByteArray := prog_8_method_10_code
def yX6_pickSet : MethodName := ⟨RX6, "pickSet", "(II)Z"⟩
abbrev cX6_pickByLaw : ByteArray := prog_8_method_11_code
def yX6_pickByLaw : MethodName := ⟨RX6, "pickByLaw", "()Z"⟩
abbrev cX6_pickDrafted : ByteArray := prog_8_method_12_code
def yX6_pickDrafted : MethodName := ⟨RX6, "pickDrafted", "(LCardLoom$Drafter;I)Z"⟩
abbrev cX6_pick : ByteArray := prog_8_method_13_code
def yX6_pick : MethodName := ⟨RX6, "pick", "()Z"⟩
abbrev cX6_jams : ByteArray := prog_8_method_14_code
def yX6_jams : MethodName := ⟨RX6, "jams", "()Z"⟩
abbrev cX6_weaveCard : ByteArray := prog_8_method_15_code
def yX6_weaveCard : MethodName := ⟨RX6, "weaveCard", "(ILCardLoom$Card;I)V"⟩
abbrev cX6_takeBack : ByteArray := prog_8_method_16_code
def yX6_takeBack : MethodName := ⟨RX6, "takeBack", "(I)I"⟩
abbrev cX6_takeLastRow : ByteArray := prog_8_method_17_code
def yX6_takeLastRow : MethodName := ⟨RX6, "takeLastRow", "()V"⟩
abbrev cX6_greatestTwist : ByteArray := prog_8_method_18_code
def yX6_greatestTwist : MethodName := ⟨RX6, "greatestTwist", "(I)I"⟩
abbrev cX6_twistedBeyond : ByteArray := prog_8_method_19_code
def yX6_twistedBeyond : MethodName := ⟨RX6, "twistedBeyond", "(II)I"⟩
abbrev cX6_twistAt : ByteArray := prog_8_method_20_code
def yX6_twistAt : MethodName := ⟨RX6, "twistAt", "(I)I"⟩
abbrev cX6_sumOfTwists : ByteArray := prog_8_method_21_code
def yX6_sumOfTwists : MethodName := ⟨RX6, "sumOfTwists", "()I"⟩
abbrev cX6_greatestFloat : ByteArray := prog_8_method_22_code
def yX6_greatestFloat : MethodName := ⟨RX6, "greatestFloat", "()I"⟩
abbrev cX6_holesOf : ByteArray := prog_8_method_23_code
def yX6_holesOf : MethodName := ⟨RX6, "holesOf", "(I)I"⟩
abbrev cX6_copyFrom : ByteArray := prog_8_method_24_code
def yX6_copyFrom : MethodName := ⟨RX6, "copyFrom", "(LCardLoom$Loom;)V"⟩
def RX7 : String := "CardLoom$Mind"
def TX7 : u_T := fun k => match k with
  | 0 => ("CardLoom$Mind", "more", "[I", true)
  | 1 => ("CardLoom$Mind", "twists", "[I", true)
  | _ => ("CardLoom$Mind", "cards", "I", false)
def tyX7 : Nat → FieldType := fun k => match k with
  | 0 => .array .int
  | 1 => .array .int
  | _ => .int
abbrev wsX70 : List Cond := u_ws RX7 TX7 3
theorem nmX7 : ∀ a, a < 3 → ∀ b, b < 3 → a ≠ b → (TX7 a).2.1 ≠ (TX7 b).2.1 := by decide +kernel
theorem tyX7_ok : ∀ k, k < 3 → parseFieldDescriptor (TX7 k).2.2.1 = some (tyX7 k) := by decide +kernel
abbrev cX7_init : ByteArray := prog_9_method_1_code
def yX7_init : MethodName := ⟨RX7, "<init>", "()V"⟩
abbrev cX7_picksToReturn : ByteArray := prog_9_method_2_code
def yX7_picksToReturn : MethodName := ⟨RX7, "picksToReturn", "(LCardLoom$Loom;)I"⟩
abbrev cX7_picksToFlat : ByteArray := prog_9_method_3_code
def yX7_picksToFlat : MethodName := ⟨RX7, "picksToFlat", "(LCardLoom$Loom;)I"⟩
abbrev cX7_picksToJam : ByteArray := prog_9_method_4_code
def yX7_picksToJam : MethodName := ⟨RX7, "picksToJam", "(LCardLoom$Loom;)I"⟩
abbrev cX7_begin : ByteArray := prog_9_method_5_code
def yX7_begin : MethodName := ⟨RX7, "begin", "(LCardLoom$Loom;)V"⟩
abbrev cX7_pick : ByteArray := prog_9_method_6_code
def yX7_pick : MethodName := ⟨RX7, "pick", "(LCardLoom$Loom;I)Z"⟩
abbrev cX7_allPlacesAsNow : ByteArray := prog_9_method_7_code
def yX7_allPlacesAsNow : MethodName := ⟨RX7, "allPlacesAsNow", "()Z"⟩
abbrev cX7_nothingTwisted : ByteArray := prog_9_method_8_code
def yX7_nothingTwisted : MethodName := ⟨RX7, "nothingTwisted", "()Z"⟩
def RX8 : String := "CardLoom$Picture"
def TX8 : u_T := fun k => match k with
  | 0 => ("CardLoom$Picture", "colours", "[I", true)
  | _ => ("CardLoom$Picture", "height", "I", false)
def tyX8 : Nat → FieldType := fun k => match k with
  | 0 => .array .int
  | _ => .int
abbrev wsX80 : List Cond := u_ws RX8 TX8 2
theorem nmX8 : ∀ a, a < 2 → ∀ b, b < 2 → a ≠ b → (TX8 a).2.1 ≠ (TX8 b).2.1 := by decide +kernel
theorem tyX8_ok : ∀ k, k < 2 → parseFieldDescriptor (TX8 k).2.2.1 = some (tyX8 k) := by decide +kernel
abbrev cX8_init : ByteArray := prog_10_method_1_code
def yX8_init : MethodName := ⟨RX8, "<init>", "()V"⟩
abbrev cX8_height : ByteArray := prog_10_method_2_code
def yX8_height : MethodName := ⟨RX8, "height", "()I"⟩
abbrev cX8_has : ByteArray := prog_10_method_3_code
def yX8_has : MethodName := ⟨RX8, "has", "(II)Z"⟩
abbrev cX8_at : ByteArray := prog_10_method_4_code
def yX8_at : MethodName := ⟨RX8, "at", "(II)I"⟩
abbrev cX8_put : ByteArray := prog_10_method_5_code
def yX8_put : MethodName := ⟨RX8, "put", "(III)I"⟩
abbrev cX8_resize : ByteArray := prog_10_method_6_code
def yX8_resize : MethodName := ⟨RX8, "resize", "(I)I"⟩
abbrev cX8_matchesFrom : ByteArray := prog_10_method_7_code
def yX8_matchesFrom : MethodName := ⟨RX8, "matchesFrom", "(LCardLoom$Cloth;I)I"⟩
def RX9 : String := "CardLoom$Text"
def TX9 : u_T := fun k => match k with
  | 0 => ("CardLoom$Text", "bytes", "[B", true)
  | _ => ("CardLoom$Text", "size", "I", false)
def tyX9 : Nat → FieldType := fun k => match k with
  | 0 => .array .byte
  | _ => .int
abbrev wsX90 : List Cond := u_ws RX9 TX9 2
theorem nmX9 : ∀ a, a < 2 → ∀ b, b < 2 → a ≠ b → (TX9 a).2.1 ≠ (TX9 b).2.1 := by decide +kernel
theorem tyX9_ok : ∀ k, k < 2 → parseFieldDescriptor (TX9 k).2.2.1 = some (tyX9 k) := by decide +kernel
abbrev cX9_init : ByteArray := prog_11_method_1_code
def yX9_init : MethodName := ⟨RX9, "<init>", "()V"⟩
abbrev cX9_size : ByteArray := prog_11_method_2_code
def yX9_size : MethodName := ⟨RX9, "size", "()I"⟩
abbrev cX9_isFull : ByteArray := prog_11_method_3_code
def yX9_isFull : MethodName := ⟨RX9, "isFull", "()Z"⟩
abbrev cX9_append : ByteArray := prog_11_method_4_code
def yX9_append : MethodName := ⟨RX9, "append", "(I)V"⟩
abbrev cX9_wipe : ByteArray := prog_11_method_5_code
def yX9_wipe : MethodName := ⟨RX9, "wipe", "()V"⟩
abbrev cX9_byteAt : ByteArray := prog_11_method_6_code
def yX9_byteAt : MethodName := ⟨RX9, "byteAt", "(I)I"⟩
def RX10 : String := "CardLoom$Threading"
def TX10 : u_T := fun k => match k with
  | _ => ("", "", "", false)
def tyX10 : Nat → FieldType := fun k => match k with
  | _ => .int
abbrev wsX100 : List Cond := u_ws RX10 TX10 0
theorem nmX10 : ∀ a, a < 0 → ∀ b, b < 0 → a ≠ b → (TX10 a).2.1 ≠ (TX10 b).2.1 := by decide +kernel
theorem tyX10_ok : ∀ k, k < 0 → parseFieldDescriptor (TX10 k).2.2.1 = some (tyX10 k) := by decide +kernel
abbrev cX10_faultOf : ByteArray := prog_12_method_2_code
def yX10_faultOf : MethodName := ⟨RX10, "faultOf", "(LCardLoom$Text;)I"⟩
abbrev cX10_fits : ByteArray := prog_12_method_3_code
def yX10_fits : MethodName := ⟨RX10, "fits", "(II)Z"⟩
abbrev cX10_cardsOf : ByteArray := prog_12_method_4_code
def yX10_cardsOf : MethodName := ⟨RX10, "cardsOf", "(LCardLoom$Text;)I"⟩
abbrev cX10_readCard : ByteArray := prog_12_method_5_code
def yX10_readCard : MethodName := ⟨RX10, "readCard", "(LCardLoom$Text;ILCardLoom$Card;)V"⟩
abbrev cX10_writeCard : ByteArray := prog_12_method_6_code
def yX10_writeCard : MethodName := ⟨RX10, "writeCard", "(LCardLoom$Card;LCardLoom$Text;)V"⟩
def RX11 : String := "CardLoom"
def TX11 : u_T := fun k => match k with
  | 0 => ("CardLoom", "tape", "LCardLoom$Text;", true)
  | 1 => ("CardLoom", "sheet", "LCardLoom$Text;", true)
  | 2 => ("CardLoom", "loom", "LCardLoom$Loom;", true)
  | 3 => ("CardLoom", "kept", "LCardLoom$Loom;", true)
  | 4 => ("CardLoom", "reader", "LCardLoom$LawReader;", true)
  | 5 => ("CardLoom", "mind", "LCardLoom$Mind;", true)
  | 6 => ("CardLoom", "picture", "LCardLoom$Picture;", true)
  | 7 => ("CardLoom", "drafter", "LCardLoom$Drafter;", true)
  | 8 => ("CardLoom", "lists", "LCardLoom$Lists;", true)
  | _ => ("CardLoom", "isKept", "Z", false)
def tyX11 : Nat → FieldType := fun k => match k with
  | 0 => .object "CardLoom$Text"
  | 1 => .object "CardLoom$Text"
  | 2 => .object "CardLoom$Loom"
  | 3 => .object "CardLoom$Loom"
  | 4 => .object "CardLoom$LawReader"
  | 5 => .object "CardLoom$Mind"
  | 6 => .object "CardLoom$Picture"
  | 7 => .object "CardLoom$Drafter"
  | 8 => .object "CardLoom$Lists"
  | _ => .boolean
abbrev wsX110 : List Cond := u_ws RX11 TX11 10
theorem nmX11 : ∀ a, a < 10 → ∀ b, b < 10 → a ≠ b → (TX11 a).2.1 ≠ (TX11 b).2.1 := by decide +kernel
theorem tyX11_ok : ∀ k, k < 10 → parseFieldDescriptor (TX11 k).2.2.1 = some (tyX11 k) := by decide +kernel
abbrev cX11_init : ByteArray := prog_1_method_1_code
def yX11_init : MethodName := ⟨RX11, "<init>", "()V"⟩
abbrev cX11_feed : ByteArray := prog_1_method_2_code
def yX11_feed : MethodName := ⟨RX11, "feed", "(I)I"⟩
abbrev cX11_clear : ByteArray := prog_1_method_3_code
def yX11_clear : MethodName := ⟨RX11, "clear", "()I"⟩
abbrev cX11_thread : ByteArray := prog_1_method_4_code
def yX11_thread : MethodName := ⟨RX11, "thread", "()I"⟩
abbrev cX11_law : ByteArray := prog_1_method_5_code
def yX11_law : MethodName := ⟨RX11, "law", "()I"⟩
abbrev cX11_card : ByteArray := prog_1_method_6_code
def yX11_card : MethodName := ⟨RX11, "card", "(II)I"⟩
abbrev cX11_slant : ByteArray := prog_1_method_7_code
def yX11_slant : MethodName := ⟨RX11, "slant", "(I)I"⟩
abbrev cX11_place : ByteArray := prog_1_method_8_code
def yX11_place : MethodName := ⟨RX11, "place", "(II)I"⟩
abbrev cX11_recolour : ByteArray := prog_1_method_9_code
def yX11_recolour : MethodName := ⟨RX11, "recolour", "(III)I"⟩
abbrev cX11_turn : ByteArray := prog_1_method_10_code
def yX11_turn : MethodName := ⟨RX11, "turn", "(II)I"⟩
abbrev cX11_pack : ByteArray := prog_1_method_11_code
def yX11_pack : MethodName := ⟨RX11, "pack", "(II)I"⟩
abbrev cX11_turnSet : ByteArray := prog_1_method_12_code
def yX11_turnSet : MethodName := ⟨RX11, "turnSet", "(II)I"⟩
abbrev cX11_weave : ByteArray := prog_1_method_13_code
def yX11_weave : MethodName := ⟨RX11, "weave", "(I)I"⟩
abbrev cX11_unweave : ByteArray := prog_1_method_14_code
def yX11_unweave : MethodName := ⟨RX11, "unweave", "(I)I"⟩
abbrev cX11_front : ByteArray := prog_1_method_15_code
def yX11_front : MethodName := ⟨RX11, "front", "(II)I"⟩
abbrev cX11_back : ByteArray := prog_1_method_16_code
def yX11_back : MethodName := ⟨RX11, "back", "(II)I"⟩
abbrev cX11_lean : ByteArray := prog_1_method_17_code
def yX11_lean : MethodName := ⟨RX11, "lean", "(II)I"⟩
abbrev cX11_turning : ByteArray := prog_1_method_18_code
def yX11_turning : MethodName := ⟨RX11, "turning", "(II)I"⟩
abbrev cX11_returns : ByteArray := prog_1_method_19_code
def yX11_returns : MethodName := ⟨RX11, "returns", "()I"⟩
abbrev cX11_flat : ByteArray := prog_1_method_20_code
def yX11_flat : MethodName := ⟨RX11, "flat", "()I"⟩
abbrev cX11_jam : ByteArray := prog_1_method_21_code
def yX11_jam : MethodName := ⟨RX11, "jam", "()I"⟩
abbrev cX11_undoing : ByteArray := prog_1_method_22_code
def yX11_undoing : MethodName := ⟨RX11, "undoing", "(II)I"⟩
abbrev cX11_paint : ByteArray := prog_1_method_23_code
def yX11_paint : MethodName := ⟨RX11, "paint", "(III)I"⟩
abbrev cX11_lines : ByteArray := prog_1_method_24_code
def yX11_lines : MethodName := ⟨RX11, "lines", "(I)I"⟩
abbrev cX11_draft : ByteArray := prog_1_method_25_code
def yX11_draft : MethodName := ⟨RX11, "draft", "(II)I"⟩
abbrev cX11_fewest : ByteArray := prog_1_method_26_code
def yX11_fewest : MethodName := ⟨RX11, "fewest", "(I)I"⟩
abbrev cX11_fewestOfAll : ByteArray := prog_1_method_27_code
def yX11_fewestOfAll : MethodName := ⟨RX11, "fewestOfAll", "()I"⟩
abbrev cX11_weaveDraft : ByteArray := prog_1_method_28_code
def yX11_weaveDraft : MethodName := ⟨RX11, "weaveDraft", "()I"⟩
abbrev cX11_matches : ByteArray := prog_1_method_29_code
def yX11_matches : MethodName := ⟨RX11, "matches", "(I)I"⟩
abbrev cX11_period : ByteArray := prog_1_method_30_code
def yX11_period : MethodName := ⟨RX11, "period", "()I"⟩
abbrev cX11_mirrors : ByteArray := prog_1_method_31_code
def yX11_mirrors : MethodName := ⟨RX11, "mirrors", "()I"⟩
abbrev cX11_run : ByteArray := prog_1_method_32_code
def yX11_run : MethodName := ⟨RX11, "run", "(I)I"⟩
abbrev cX11_colours : ByteArray := prog_1_method_33_code
def yX11_colours : MethodName := ⟨RX11, "colours", "(II)I"⟩
abbrev cX11_ranked : ByteArray := prog_1_method_34_code
def yX11_ranked : MethodName := ⟨RX11, "ranked", "(I)I"⟩
abbrev cX11_alike : ByteArray := prog_1_method_35_code
def yX11_alike : MethodName := ⟨RX11, "alike", "(II)I"⟩
abbrev cX11_faces : ByteArray := prog_1_method_36_code
def yX11_faces : MethodName := ⟨RX11, "faces", "(I)I"⟩
abbrev cX11_spell : ByteArray := prog_1_method_37_code
def yX11_spell : MethodName := ⟨RX11, "spell", "()I"⟩
abbrev cX11_paper : ByteArray := prog_1_method_38_code
def yX11_paper : MethodName := ⟨RX11, "paper", "(I)I"⟩
abbrev cX11_told : ByteArray := prog_1_method_39_code
def yX11_told : MethodName := ⟨RX11, "told", "(I)I"⟩
abbrev cX11_list : ByteArray := prog_1_method_40_code
def yX11_list : MethodName := ⟨RX11, "list", "(II)I"⟩
abbrev cX11_set : ByteArray := prog_1_method_41_code
def yX11_set : MethodName := ⟨RX11, "set", "(III)I"⟩
abbrev cX11_get : ByteArray := prog_1_method_42_code
def yX11_get : MethodName := ⟨RX11, "get", "(II)I"⟩
abbrev cX11_lay : ByteArray := prog_1_method_43_code
def yX11_lay : MethodName := ⟨RX11, "lay", "(III)I"⟩
abbrev cX11_judge : ByteArray := prog_1_method_44_code
def yX11_judge : MethodName := ⟨RX11, "judge", "(III)I"⟩
abbrev cX11_image : ByteArray := prog_1_method_45_code
def yX11_image : MethodName := ⟨RX11, "image", "()I"⟩
abbrev cX11_undo : ByteArray := prog_1_method_46_code
def yX11_undo : MethodName := ⟨RX11, "undo", "()I"⟩
abbrev cX11_isColour : ByteArray := prog_1_method_47_code
def yX11_isColour : MethodName := ⟨RX11, "isColour", "(I)Z"⟩
abbrev cX11_isTurning : ByteArray := prog_1_method_48_code
def yX11_isTurning : MethodName := ⟨RX11, "isTurning", "(I)Z"⟩
abbrev cX11_twistOf : ByteArray := prog_1_method_49_code
def yX11_twistOf : MethodName := ⟨RX11, "twistOf", "(I)I"⟩
abbrev cX11_placeBehind : ByteArray := prog_1_method_50_code
def yX11_placeBehind : MethodName := ⟨RX11, "placeBehind", "(II)I"⟩
abbrev cX11_isTooTwisted : ByteArray := prog_1_method_51_code
def yX11_isTooTwisted : MethodName := ⟨RX11, "isTooTwisted", "(I)Z"⟩
def RX12 : String := "CardLoomModel"
def TX12 : u_T := fun k => match k with
  | 0 => ("CardLoomModel", "code", "I", false)
  | 1 => ("CardLoomModel", "many", "[I", true)
  | 2 => ("CardLoomModel", "rows", "[I", true)
  | 3 => ("CardLoomModel", "hole", "[I", true)
  | 4 => ("CardLoomModel", "slant", "[I", true)
  | 5 => ("CardLoomModel", "place", "[I", true)
  | 6 => ("CardLoomModel", "twist", "[I", true)
  | 7 => ("CardLoomModel", "fronts", "[I", true)
  | 8 => ("CardLoomModel", "backs", "[I", true)
  | 9 => ("CardLoomModel", "leans", "[I", true)
  | 10 => ("CardLoomModel", "turns", "[I", true)
  | 11 => ("CardLoomModel", "hasImage", "Z", false)
  | 12 => ("CardLoomModel", "letter", "[I", true)
  | 13 => ("CardLoomModel", "number", "[I", true)
  | 14 => ("CardLoomModel", "left", "[I", true)
  | 15 => ("CardLoomModel", "right", "[I", true)
  | 16 => ("CardLoomModel", "tape", "[I", true)
  | 17 => ("CardLoomModel", "taped", "I", false)
  | 18 => ("CardLoomModel", "at", "I", false)
  | 19 => ("CardLoomModel", "fault", "I", false)
  | 20 => ("CardLoomModel", "open", "I", false)
  | 21 => ("CardLoomModel", "nodes", "I", false)
  | 22 => ("CardLoomModel", "named", "I", false)
  | 23 => ("CardLoomModel", "newLetter", "[I", true)
  | 24 => ("CardLoomModel", "newNumber", "[I", true)
  | 25 => ("CardLoomModel", "newLeft", "[I", true)
  | 26 => ("CardLoomModel", "newRight", "[I", true)
  | 27 => ("CardLoomModel", "newHole", "[I", true)
  | 28 => ("CardLoomModel", "newSlant", "[I", true)
  | 29 => ("CardLoomModel", "next", "[I", true)
  | 30 => ("CardLoomModel", "minded", "[I", true)
  | 31 => ("CardLoomModel", "mindedTwist", "[I", true)
  | 32 => ("CardLoomModel", "lines", "I", false)
  | 33 => ("CardLoomModel", "picture", "[I", true)
  | 34 => ("CardLoomModel", "least", "[I", true)
  | 35 => ("CardLoomModel", "drafted", "[I", true)
  | 36 => ("CardLoomModel", "paper", "[I", true)
  | 37 => ("CardLoomModel", "papered", "I", false)
  | 38 => ("CardLoomModel", "holds", "[Z", true)
  | 39 => ("CardLoomModel", "size", "[I", true)
  | _ => ("CardLoomModel", "element", "[I", true)
def tyX12 : Nat → FieldType := fun k => match k with
  | 0 => .int
  | 1 => .array .int
  | 2 => .array .int
  | 3 => .array .int
  | 4 => .array .int
  | 5 => .array .int
  | 6 => .array .int
  | 7 => .array .int
  | 8 => .array .int
  | 9 => .array .int
  | 10 => .array .int
  | 11 => .boolean
  | 12 => .array .int
  | 13 => .array .int
  | 14 => .array .int
  | 15 => .array .int
  | 16 => .array .int
  | 17 => .int
  | 18 => .int
  | 19 => .int
  | 20 => .int
  | 21 => .int
  | 22 => .int
  | 23 => .array .int
  | 24 => .array .int
  | 25 => .array .int
  | 26 => .array .int
  | 27 => .array .int
  | 28 => .array .int
  | 29 => .array .int
  | 30 => .array .int
  | 31 => .array .int
  | 32 => .int
  | 33 => .array .int
  | 34 => .array .int
  | 35 => .array .int
  | 36 => .array .int
  | 37 => .int
  | 38 => .array .boolean
  | 39 => .array .int
  | _ => .array .int
abbrev wsX120 : List Cond := u_ws RX12 TX12 41
theorem nmX12 : ∀ a, a < 41 → ∀ b, b < 41 → a ≠ b → (TX12 a).2.1 ≠ (TX12 b).2.1 := by decide +kernel
theorem tyX12_ok : ∀ k, k < 41 → parseFieldDescriptor (TX12 k).2.2.1 = some (tyX12 k) := by decide +kernel
abbrev cX12_in : ByteArray := prog_14_method_2_code
def yX12_in : MethodName := ⟨RX12, "in", "(III)Z"⟩
abbrev cX12_init : ByteArray := prog_14_method_3_code
def yX12_init : MethodName := ⟨RX12, "<init>", "()V"⟩
abbrev cX12_isCard : ByteArray := prog_14_method_4_code
def yX12_isCard : MethodName := ⟨RX12, "isCard", "(I)Z"⟩
abbrev cX12_isRow : ByteArray := prog_14_method_5_code
def yX12_isRow : MethodName := ⟨RX12, "isRow", "(I)Z"⟩
abbrev cX12_isColour : ByteArray := prog_14_method_6_code
def yX12_isColour : MethodName := ⟨RX12, "isColour", "(I)Z"⟩
abbrev cX12_feed : ByteArray := prog_14_method_7_code
def yX12_feed : MethodName := ⟨RX12, "feed", "(I)I"⟩
abbrev cX12_clear : ByteArray := prog_14_method_8_code
def yX12_clear : MethodName := ⟨RX12, "clear", "()I"⟩
abbrev cX12_here : ByteArray := prog_14_method_9_code
def yX12_here : MethodName := ⟨RX12, "here", "()I"⟩
abbrev cX12_wrong : ByteArray := prog_14_method_10_code
def yX12_wrong : MethodName := ⟨RX12, "wrong", "(I)V"⟩
abbrev cX12_expect : ByteArray := prog_14_method_11_code
def yX12_expect : MethodName := ⟨RX12, "expect", "(I)V"⟩
abbrev cX12_readNumber : ByteArray := prog_14_method_12_code
def yX12_readNumber : MethodName := ⟨RX12, "readNumber", "(I)I"⟩
abbrev cX12_readLaw : ByteArray := prog_14_method_13_code
def yX12_readLaw : MethodName := ⟨RX12, "readLaw", "()I"⟩
abbrev cX12_law : ByteArray := prog_14_method_14_code
def yX12_law : MethodName := ⟨RX12, "law", "()I"⟩
abbrev cX12_lawOf : ByteArray := prog_14_method_15_code
def yX12_lawOf : MethodName := ⟨RX12, "lawOf", "(III)I"⟩
abbrev cX12_readCard : ByteArray := prog_14_method_16_code
def yX12_readCard : MethodName := ⟨RX12, "readCard", "(I)V"⟩
abbrev cX12_thread : ByteArray := prog_14_method_17_code
def yX12_thread : MethodName := ⟨RX12, "thread", "()I"⟩
abbrev cX12_floatOf : ByteArray := prog_14_method_18_code
def yX12_floatOf : MethodName := ⟨RX12, "floatOf", "(I)I"⟩
abbrev cX12_card : ByteArray := prog_14_method_19_code
def yX12_card : MethodName := ⟨RX12, "card", "(II)I"⟩
abbrev cX12_slant : ByteArray := prog_14_method_20_code
def yX12_slant : MethodName := ⟨RX12, "slant", "(I)I"⟩
abbrev cX12_place : ByteArray := prog_14_method_21_code
def yX12_place : MethodName := ⟨RX12, "place", "(II)I"⟩
abbrev cX12_recolour : ByteArray := prog_14_method_22_code
def yX12_recolour : MethodName := ⟨RX12, "recolour", "(III)I"⟩
abbrev cX12_moved : ByteArray := prog_14_method_23_code
def yX12_moved : MethodName := ⟨RX12, "moved", "(I)I"⟩
abbrev cX12_grown : ByteArray := prog_14_method_24_code
def yX12_grown : MethodName := ⟨RX12, "grown", "(I)I"⟩
abbrev cX12_jams : ByteArray := prog_14_method_25_code
def yX12_jams : MethodName := ⟨RX12, "jams", "()Z"⟩
abbrev cX12_weavePick : ByteArray := prog_14_method_26_code
def yX12_weavePick : MethodName := ⟨RX12, "weavePick", "()V"⟩
abbrev cX12_pick : ByteArray := prog_14_method_27_code
def yX12_pick : MethodName := ⟨RX12, "pick", "()I"⟩
abbrev cX12_picked : ByteArray := prog_14_method_28_code
def yX12_picked : MethodName := ⟨RX12, "picked", "(II)I"⟩
abbrev cX12_turn : ByteArray := prog_14_method_29_code
def yX12_turn : MethodName := ⟨RX12, "turn", "(II)I"⟩
abbrev cX12_pack : ByteArray := prog_14_method_30_code
def yX12_pack : MethodName := ⟨RX12, "pack", "(II)I"⟩
abbrev cX12_layLaw : ByteArray := prog_14_method_31_code
def yX12_layLaw : MethodName := ⟨RX12, "layLaw", "(I)V"⟩
abbrev cX12_weave : ByteArray := prog_14_method_32_code
def yX12_weave : MethodName := ⟨RX12, "weave", "(I)I"⟩
abbrev cX12_unweave : ByteArray := prog_14_method_33_code
def yX12_unweave : MethodName := ⟨RX12, "unweave", "(I)I"⟩
abbrev cX12_asked : ByteArray := prog_14_method_34_code
def yX12_asked : MethodName := ⟨RX12, "asked", "([III)I"⟩
abbrev cX12_front : ByteArray := prog_14_method_35_code
def yX12_front : MethodName := ⟨RX12, "front", "(II)I"⟩
abbrev cX12_back : ByteArray := prog_14_method_36_code
def yX12_back : MethodName := ⟨RX12, "back", "(II)I"⟩
abbrev cX12_lean : ByteArray := prog_14_method_37_code
def yX12_lean : MethodName := ⟨RX12, "lean", "(II)I"⟩
abbrev cX12_turning : ByteArray := prog_14_method_38_code
def yX12_turning : MethodName := ⟨RX12, "turning", "(II)I"⟩
abbrev cX12_begins : ByteArray := prog_14_method_39_code
def yX12_begins : MethodName := ⟨RX12, "begins", "()V"⟩
abbrev cX12_mind : ByteArray := prog_14_method_40_code
def yX12_mind : MethodName := ⟨RX12, "mind", "(I)Z"⟩
abbrev cX12_areAsNow : ByteArray := prog_14_method_41_code
def yX12_areAsNow : MethodName := ⟨RX12, "areAsNow", "()Z"⟩
abbrev cX12_areFlat : ByteArray := prog_14_method_42_code
def yX12_areFlat : MethodName := ⟨RX12, "areFlat", "()Z"⟩
abbrev cX12_returns : ByteArray := prog_14_method_43_code
def yX12_returns : MethodName := ⟨RX12, "returns", "()I"⟩
abbrev cX12_flat : ByteArray := prog_14_method_44_code
def yX12_flat : MethodName := ⟨RX12, "flat", "()I"⟩
abbrev cX12_jam : ByteArray := prog_14_method_45_code
def yX12_jam : MethodName := ⟨RX12, "jam", "()I"⟩
abbrev cX12_greatest : ByteArray := prog_14_method_46_code
def yX12_greatest : MethodName := ⟨RX12, "greatest", "(I)I"⟩
abbrev cX12_undoing : ByteArray := prog_14_method_47_code
def yX12_undoing : MethodName := ⟨RX12, "undoing", "(II)I"⟩
abbrev cX12_paint : ByteArray := prog_14_method_48_code
def yX12_paint : MethodName := ⟨RX12, "paint", "(III)I"⟩
abbrev cX12_lines : ByteArray := prog_14_method_49_code
def yX12_lines : MethodName := ⟨RX12, "lines", "(I)I"⟩
abbrev cX12_fewestFrom : ByteArray := prog_14_method_50_code
def yX12_fewestFrom : MethodName := ⟨RX12, "fewestFrom", "(III)I"⟩
abbrev cX12_draftOf : ByteArray := prog_14_method_51_code
def yX12_draftOf : MethodName := ⟨RX12, "draftOf", "(II)I"⟩
abbrev cX12_mayBe : ByteArray := prog_14_method_52_code
def yX12_mayBe : MethodName := ⟨RX12, "mayBe", "(IIIII)Z"⟩
abbrev cX12_draft : ByteArray := prog_14_method_53_code
def yX12_draft : MethodName := ⟨RX12, "draft", "(II)I"⟩
abbrev cX12_fewest : ByteArray := prog_14_method_54_code
def yX12_fewest : MethodName := ⟨RX12, "fewest", "(I)I"⟩
abbrev cX12_weaveDraft : ByteArray := prog_14_method_55_code
def yX12_weaveDraft : MethodName := ⟨RX12, "weaveDraft", "()I"⟩
abbrev cX12_matches : ByteArray := prog_14_method_56_code
def yX12_matches : MethodName := ⟨RX12, "matches", "(I)I"⟩
abbrev cX12_alikeIn : ByteArray := prog_14_method_57_code
def yX12_alikeIn : MethodName := ⟨RX12, "alikeIn", "(II)I"⟩
abbrev cX12_period : ByteArray := prog_14_method_58_code
def yX12_period : MethodName := ⟨RX12, "period", "()I"⟩
abbrev cX12_mirrors : ByteArray := prog_14_method_59_code
def yX12_mirrors : MethodName := ⟨RX12, "mirrors", "()I"⟩
abbrev cX12_run : ByteArray := prog_14_method_60_code
def yX12_run : MethodName := ⟨RX12, "run", "(I)I"⟩
abbrev cX12_countOf : ByteArray := prog_14_method_61_code
def yX12_countOf : MethodName := ⟨RX12, "countOf", "(I[I)I"⟩
abbrev cX12_colours : ByteArray := prog_14_method_62_code
def yX12_colours : MethodName := ⟨RX12, "colours", "(II)I"⟩
abbrev cX12_isAhead : ByteArray := prog_14_method_63_code
def yX12_isAhead : MethodName := ⟨RX12, "isAhead", "(II)Z"⟩
abbrev cX12_ranked : ByteArray := prog_14_method_64_code
def yX12_ranked : MethodName := ⟨RX12, "ranked", "(I)I"⟩
abbrev cX12_alike : ByteArray := prog_14_method_65_code
def yX12_alike : MethodName := ⟨RX12, "alike", "(II)I"⟩
abbrev cX12_faces : ByteArray := prog_14_method_66_code
def yX12_faces : MethodName := ⟨RX12, "faces", "(I)I"⟩
abbrev cX12_spell : ByteArray := prog_14_method_67_code
def yX12_spell : MethodName := ⟨RX12, "spell", "()I"⟩
abbrev cX12_paper : ByteArray := prog_14_method_68_code
def yX12_paper : MethodName := ⟨RX12, "paper", "(I)I"⟩
abbrev cX12_told : ByteArray := prog_14_method_69_code
def yX12_told : MethodName := ⟨RX12, "told", "(I)I"⟩
abbrev cX12_isList : ByteArray := prog_14_method_70_code
def yX12_isList : MethodName := ⟨RX12, "isList", "(I)Z"⟩
abbrev cX12_list : ByteArray := prog_14_method_71_code
def yX12_list : MethodName := ⟨RX12, "list", "(II)I"⟩
abbrev cX12_set : ByteArray := prog_14_method_72_code
def yX12_set : MethodName := ⟨RX12, "set", "(III)I"⟩
abbrev cX12_get : ByteArray := prog_14_method_73_code
def yX12_get : MethodName := ⟨RX12, "get", "(II)I"⟩
abbrev cX12_lay : ByteArray := prog_14_method_74_code
def yX12_lay : MethodName := ⟨RX12, "lay", "(III)I"⟩
abbrev cX12_judge : ByteArray := prog_14_method_75_code
def yX12_judge : MethodName := ⟨RX12, "judge", "(III)I"⟩
abbrev cX12_copy : ByteArray := prog_14_method_76_code
def yX12_copy : MethodName := ⟨RX12, "copy", "([IZ)V"⟩
abbrev cX12_copyAll : ByteArray := prog_14_method_77_code
def yX12_copyAll : MethodName := ⟨RX12, "copyAll", "(Z)V"⟩
abbrev cX12_image : ByteArray := prog_14_method_78_code
def yX12_image : MethodName := ⟨RX12, "image", "()I"⟩
abbrev cX12_undo : ByteArray := prog_14_method_79_code
def yX12_undo : MethodName := ⟨RX12, "undo", "()I"⟩
def RJ9 : String := "java/lang/Math"
def TJ9 : u_T := fun k => match k with
  | _ => ("", "", "", false)
def tyJ9 : Nat → FieldType := fun k => match k with
  | _ => .int
abbrev wsJ90 : List Cond := u_ws RJ9 TJ9 0
theorem nmJ9 : ∀ a, a < 0 → ∀ b, b < 0 → a ≠ b → (TJ9 a).2.1 ≠ (TJ9 b).2.1 := by decide +kernel
theorem tyJ9_ok : ∀ k, k < 0 → parseFieldDescriptor (TJ9 k).2.2.1 = some (tyJ9 k) := by decide +kernel
abbrev cJ9_floorMod_7cf53 : ByteArray := prog_15_method_50_code
def yJ9_floorMod_7cf53 : MethodName := ⟨RJ9, "floorMod", "(II)I"⟩
abbrev cJ9_abs_0f7a4 : ByteArray := prog_15_method_59_code
def yJ9_abs_0f7a4 : MethodName := ⟨RJ9, "abs", "(I)I"⟩
abbrev cJ9_max_7cf53 : ByteArray := prog_15_method_65_code
def yJ9_max_7cf53 : MethodName := ⟨RJ9, "max", "(II)I"⟩
abbrev cJ9_min_7cf53 : ByteArray := prog_15_method_69_code
def yJ9_min_7cf53 : MethodName := ⟨RJ9, "min", "(II)I"⟩
def RJ10 : String := "java/lang/System"
def TJ10 : u_T := fun k => match k with
  | _ => ("", "", "", false)
def tyJ10 : Nat → FieldType := fun k => match k with
  | _ => .int
abbrev wsJ100 : List Cond := u_ws RJ10 TJ10 0
theorem nmJ10 : ∀ a, a < 0 → ∀ b, b < 0 → a ≠ b → (TJ10 a).2.1 ≠ (TJ10 b).2.1 := by decide +kernel
theorem tyJ10_ok : ∀ k, k < 0 → parseFieldDescriptor (TJ10 k).2.2.1 = some (tyJ10 k) := by decide +kernel
def RL : String := "CardLoomLaw"
abbrev cL_law : ByteArray := code
def yL_law : MethodName := ⟨RL, "law", "([I)Z"⟩
abbrev vwCl : List vw_C := [(RX0, TX0, 4), (RX1, TX1, 5), (RX2, TX2, 3), (RX3, TX3, 6), (RX4, TX4, 4), (RX5, TX5, 2), (RX6, TX6, 5), (RX7, TX7, 3), (RX8, TX8, 2), (RX9, TX9, 2), (RX11, TX11, 10), (RX12, TX12, 41)]
