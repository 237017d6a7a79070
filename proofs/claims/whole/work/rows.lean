section
-- ===== PART A: goes FIRST, ahead of the names: the tables' words, and 'selects' of the private methods out of them =====
/-- a private method of a class that the tables say can be made, by its rows of tables_1 -/
def lw_okq (q : MethodName × Nat) : Prop := (q.1.cls ≠ "java/lang/invoke/MethodHandle" ∧ q.1.cls ≠ "java/lang/invoke/VarHandle") ∧ Cond.instantiable q.1.cls q.2 ∈ tables_1 ∧ Cond.privateMethod q.1 ∈ tables_1 ∧ Cond.instanceMethod q.1 ∈ tables_1
theorem lw_p0 : lw_okq (⟨"CardLoom$LawReader", "term", "(I)I"⟩, 4) := ⟨⟨by decide +kernel, by decide +kernel⟩, List.mem_of_getElem? (i := 130) (by decide +kernel), List.mem_of_getElem? (i := 328) (by decide +kernel), List.mem_of_getElem? (i := 329) (by decide +kernel)⟩
theorem lw_p1 : lw_okq (⟨"CardLoom$LawReader", "next", "()I"⟩, 4) := ⟨⟨by decide +kernel, by decide +kernel⟩, List.mem_of_getElem? (i := 130) (by decide +kernel), List.mem_of_getElem? (i := 332) (by decide +kernel), List.mem_of_getElem? (i := 333) (by decide +kernel)⟩
theorem lw_p2 : lw_okq (⟨"CardLoom$LawReader", "fail", "(I)V"⟩, 4) := ⟨⟨by decide +kernel, by decide +kernel⟩, List.mem_of_getElem? (i := 130) (by decide +kernel), List.mem_of_getElem? (i := 357) (by decide +kernel), List.mem_of_getElem? (i := 358) (by decide +kernel)⟩
theorem lw_p3 : lw_okq (⟨"CardLoom$LawReader", "number", "(C)I"⟩, 4) := ⟨⟨by decide +kernel, by decide +kernel⟩, List.mem_of_getElem? (i := 130) (by decide +kernel), List.mem_of_getElem? (i := 361) (by decide +kernel), List.mem_of_getElem? (i := 362) (by decide +kernel)⟩
theorem lw_p4 : lw_okq (⟨"CardLoom$LawReader", "expect", "(C)V"⟩, 4) := ⟨⟨by decide +kernel, by decide +kernel⟩, List.mem_of_getElem? (i := 130) (by decide +kernel), List.mem_of_getElem? (i := 366) (by decide +kernel), List.mem_of_getElem? (i := 367) (by decide +kernel)⟩
theorem lw_p5 : lw_okq (⟨"CardLoom$Law", "valueOf", "(IIIII)I"⟩, 6) := ⟨⟨by decide +kernel, by decide +kernel⟩, List.mem_of_getElem? (i := 70) (by decide +kernel), List.mem_of_getElem? (i := 448) (by decide +kernel), List.mem_of_getElem? (i := 449) (by decide +kernel)⟩
theorem lw_p6 : lw_okq (⟨"CardLoom", "turnSet", "(II)I"⟩, 10) := ⟨⟨by decide +kernel, by decide +kernel⟩, List.mem_of_getElem? (i := 17) (by decide +kernel), List.mem_of_getElem? (i := 492) (by decide +kernel), List.mem_of_getElem? (i := 493) (by decide +kernel)⟩
theorem lw_p7 : lw_okq (⟨"CardLoom$Loom", "pick", "()Z"⟩, 5) := ⟨⟨by decide +kernel, by decide +kernel⟩, List.mem_of_getElem? (i := 39) (by decide +kernel), List.mem_of_getElem? (i := 504) (by decide +kernel), List.mem_of_getElem? (i := 505) (by decide +kernel)⟩
theorem lw_p8 : lw_okq (⟨"CardLoom$Loom", "jams", "()Z"⟩, 5) := ⟨⟨by decide +kernel, by decide +kernel⟩, List.mem_of_getElem? (i := 39) (by decide +kernel), List.mem_of_getElem? (i := 509) (by decide +kernel), List.mem_of_getElem? (i := 510) (by decide +kernel)⟩
theorem lw_p9 : lw_okq (⟨"CardLoom$Loom", "weaveCard", "(ILCardLoom$Card;I)V"⟩, 5) := ⟨⟨by decide +kernel, by decide +kernel⟩, List.mem_of_getElem? (i := 39) (by decide +kernel), List.mem_of_getElem? (i := 523) (by decide +kernel), List.mem_of_getElem? (i := 524) (by decide +kernel)⟩
theorem lw_p10 : lw_okq (⟨"CardLoom$Loom", "takeLastRow", "()V"⟩, 5) := ⟨⟨by decide +kernel, by decide +kernel⟩, List.mem_of_getElem? (i := 39) (by decide +kernel), List.mem_of_getElem? (i := 580) (by decide +kernel), List.mem_of_getElem? (i := 581) (by decide +kernel)⟩
theorem lw_p11 : lw_okq (⟨"CardLoom$Mind", "begin", "(LCardLoom$Loom;)V"⟩, 3) := ⟨⟨by decide +kernel, by decide +kernel⟩, List.mem_of_getElem? (i := 151) (by decide +kernel), List.mem_of_getElem? (i := 614) (by decide +kernel), List.mem_of_getElem? (i := 615) (by decide +kernel)⟩
theorem lw_p12 : lw_okq (⟨"CardLoom$Mind", "pick", "(LCardLoom$Loom;I)Z"⟩, 3) := ⟨⟨by decide +kernel, by decide +kernel⟩, List.mem_of_getElem? (i := 151) (by decide +kernel), List.mem_of_getElem? (i := 625) (by decide +kernel), List.mem_of_getElem? (i := 626) (by decide +kernel)⟩
theorem lw_p13 : lw_okq (⟨"CardLoom$Mind", "allPlacesAsNow", "()Z"⟩, 3) := ⟨⟨by decide +kernel, by decide +kernel⟩, List.mem_of_getElem? (i := 151) (by decide +kernel), List.mem_of_getElem? (i := 632) (by decide +kernel), List.mem_of_getElem? (i := 633) (by decide +kernel)⟩
theorem lw_p14 : lw_okq (⟨"CardLoom$Mind", "nothingTwisted", "()Z"⟩, 3) := ⟨⟨by decide +kernel, by decide +kernel⟩, List.mem_of_getElem? (i := 151) (by decide +kernel), List.mem_of_getElem? (i := 645) (by decide +kernel), List.mem_of_getElem? (i := 646) (by decide +kernel)⟩
theorem lw_p15 : lw_okq (⟨"CardLoom$Drafter", "setCost", "(III)V"⟩, 3) := ⟨⟨by decide +kernel, by decide +kernel⟩, List.mem_of_getElem? (i := 180) (by decide +kernel), List.mem_of_getElem? (i := 710) (by decide +kernel), List.mem_of_getElem? (i := 711) (by decide +kernel)⟩
def lw_privs_1 : List (MethodName × Nat) := [(⟨"CardLoom$LawReader", "term", "(I)I"⟩, 4), (⟨"CardLoom$LawReader", "next", "()I"⟩, 4), (⟨"CardLoom$LawReader", "fail", "(I)V"⟩, 4), (⟨"CardLoom$LawReader", "number", "(C)I"⟩, 4), (⟨"CardLoom$LawReader", "expect", "(C)V"⟩, 4), (⟨"CardLoom$Law", "valueOf", "(IIIII)I"⟩, 6), (⟨"CardLoom", "turnSet", "(II)I"⟩, 10), (⟨"CardLoom$Loom", "pick", "()Z"⟩, 5), (⟨"CardLoom$Loom", "jams", "()Z"⟩, 5), (⟨"CardLoom$Loom", "weaveCard", "(ILCardLoom$Card;I)V"⟩, 5), (⟨"CardLoom$Loom", "takeLastRow", "()V"⟩, 5), (⟨"CardLoom$Mind", "begin", "(LCardLoom$Loom;)V"⟩, 3), (⟨"CardLoom$Mind", "pick", "(LCardLoom$Loom;I)Z"⟩, 3), (⟨"CardLoom$Mind", "allPlacesAsNow", "()Z"⟩, 3), (⟨"CardLoom$Mind", "nothingTwisted", "()Z"⟩, 3), (⟨"CardLoom$Drafter", "setCost", "(III)V"⟩, 3)]
theorem lw_r1 : ∀ q ∈ lw_privs_1, lw_okq q := List.forall_mem_cons.mpr ⟨lw_p0, List.forall_mem_cons.mpr ⟨lw_p1, List.forall_mem_cons.mpr ⟨lw_p2, List.forall_mem_cons.mpr ⟨lw_p3, List.forall_mem_cons.mpr ⟨lw_p4, List.forall_mem_cons.mpr ⟨lw_p5, List.forall_mem_cons.mpr ⟨lw_p6, List.forall_mem_cons.mpr ⟨lw_p7, List.forall_mem_cons.mpr ⟨lw_p8, List.forall_mem_cons.mpr ⟨lw_p9, List.forall_mem_cons.mpr ⟨lw_p10, List.forall_mem_cons.mpr ⟨lw_p11, List.forall_mem_cons.mpr ⟨lw_p12, List.forall_mem_cons.mpr ⟨lw_p13, List.forall_mem_cons.mpr ⟨lw_p14, List.forall_mem_cons.mpr ⟨lw_p15, fun _ h => absurd h List.not_mem_nil⟩⟩⟩⟩⟩⟩⟩⟩⟩⟩⟩⟩⟩⟩⟩⟩
theorem lw_p16 : lw_okq (⟨"CardLoom$Drafter", "leastCost", "(LCardLoom$Card;III)I"⟩, 3) := ⟨⟨by decide +kernel, by decide +kernel⟩, List.mem_of_getElem? (i := 180) (by decide +kernel), List.mem_of_getElem? (i := 715) (by decide +kernel), List.mem_of_getElem? (i := 716) (by decide +kernel)⟩
theorem lw_p17 : lw_okq (⟨"CardLoom$Drafter", "costBy", "(ILCardLoom$Card;III)I"⟩, 3) := ⟨⟨by decide +kernel, by decide +kernel⟩, List.mem_of_getElem? (i := 180) (by decide +kernel), List.mem_of_getElem? (i := 722) (by decide +kernel), List.mem_of_getElem? (i := 723) (by decide +kernel)⟩
theorem lw_p18 : lw_okq (⟨"CardLoom$Drafter", "cost", "(II)I"⟩, 3) := ⟨⟨by decide +kernel, by decide +kernel⟩, List.mem_of_getElem? (i := 180) (by decide +kernel), List.mem_of_getElem? (i := 729) (by decide +kernel), List.mem_of_getElem? (i := 730) (by decide +kernel)⟩
theorem lw_p19 : lw_okq (⟨"CardLoom$Drafter", "follow", "(LCardLoom$Card;LCardLoom$Picture;II)V"⟩, 3) := ⟨⟨by decide +kernel, by decide +kernel⟩, List.mem_of_getElem? (i := 180) (by decide +kernel), List.mem_of_getElem? (i := 734) (by decide +kernel), List.mem_of_getElem? (i := 735) (by decide +kernel)⟩
theorem lw_p20 : lw_okq (⟨"CardLoom$Drafter", "firstBest", "(LCardLoom$Card;III)I"⟩, 3) := ⟨⟨by decide +kernel, by decide +kernel⟩, List.mem_of_getElem? (i := 180) (by decide +kernel), List.mem_of_getElem? (i := 738) (by decide +kernel), List.mem_of_getElem? (i := 739) (by decide +kernel)⟩
theorem lw_p21 : lw_okq (⟨"CardLoom", "fewestOfAll", "()I"⟩, 10) := ⟨⟨by decide +kernel, by decide +kernel⟩, List.mem_of_getElem? (i := 17) (by decide +kernel), List.mem_of_getElem? (i := 750) (by decide +kernel), List.mem_of_getElem? (i := 751) (by decide +kernel)⟩
theorem lw_p22 : lw_okq (⟨"CardLoom$Cloth", "repeatsBy", "(I)Z"⟩, 5) := ⟨⟨by decide +kernel, by decide +kernel⟩, List.mem_of_getElem? (i := 47) (by decide +kernel), List.mem_of_getElem? (i := 795) (by decide +kernel), List.mem_of_getElem? (i := 796) (by decide +kernel)⟩
theorem lw_p23 : lw_okq (⟨"CardLoom$Cloth", "isMirror", "(I)Z"⟩, 5) := ⟨⟨by decide +kernel, by decide +kernel⟩, List.mem_of_getElem? (i := 47) (by decide +kernel), List.mem_of_getElem? (i := 811) (by decide +kernel), List.mem_of_getElem? (i := 812) (by decide +kernel)⟩
theorem lw_p24 : lw_okq (⟨"CardLoom$Cloth", "rankOf", "(I)I"⟩, 5) := ⟨⟨by decide +kernel, by decide +kernel⟩, List.mem_of_getElem? (i := 47) (by decide +kernel), List.mem_of_getElem? (i := 842) (by decide +kernel), List.mem_of_getElem? (i := 843) (by decide +kernel)⟩
theorem lw_p25 : lw_okq (⟨"CardLoom$Cloth", "isAhead", "(II)Z"⟩, 5) := ⟨⟨by decide +kernel, by decide +kernel⟩, List.mem_of_getElem? (i := 47) (by decide +kernel), List.mem_of_getElem? (i := 846) (by decide +kernel), List.mem_of_getElem? (i := 847) (by decide +kernel)⟩
theorem lw_p26 : lw_okq (⟨"CardLoomModel", "readLaw", "()I"⟩, 41) := ⟨⟨by decide +kernel, by decide +kernel⟩, List.mem_of_getElem? (i := 976) (by decide +kernel), List.mem_of_getElem? (i := 1121) (by decide +kernel), List.mem_of_getElem? (i := 1122) (by decide +kernel)⟩
theorem lw_p27 : lw_okq (⟨"CardLoomModel", "here", "()I"⟩, 41) := ⟨⟨by decide +kernel, by decide +kernel⟩, List.mem_of_getElem? (i := 976) (by decide +kernel), List.mem_of_getElem? (i := 1125) (by decide +kernel), List.mem_of_getElem? (i := 1126) (by decide +kernel)⟩
theorem lw_p28 : lw_okq (⟨"CardLoomModel", "wrong", "(I)V"⟩, 41) := ⟨⟨by decide +kernel, by decide +kernel⟩, List.mem_of_getElem? (i := 976) (by decide +kernel), List.mem_of_getElem? (i := 1129) (by decide +kernel), List.mem_of_getElem? (i := 1130) (by decide +kernel)⟩
theorem lw_p29 : lw_okq (⟨"CardLoomModel", "readNumber", "(I)I"⟩, 41) := ⟨⟨by decide +kernel, by decide +kernel⟩, List.mem_of_getElem? (i := 976) (by decide +kernel), List.mem_of_getElem? (i := 1133) (by decide +kernel), List.mem_of_getElem? (i := 1134) (by decide +kernel)⟩
theorem lw_p30 : lw_okq (⟨"CardLoomModel", "expect", "(I)V"⟩, 41) := ⟨⟨by decide +kernel, by decide +kernel⟩, List.mem_of_getElem? (i := 976) (by decide +kernel), List.mem_of_getElem? (i := 1137) (by decide +kernel), List.mem_of_getElem? (i := 1138) (by decide +kernel)⟩
theorem lw_p31 : lw_okq (⟨"CardLoomModel", "readCard", "(I)V"⟩, 41) := ⟨⟨by decide +kernel, by decide +kernel⟩, List.mem_of_getElem? (i := 976) (by decide +kernel), List.mem_of_getElem? (i := 1145) (by decide +kernel), List.mem_of_getElem? (i := 1146) (by decide +kernel)⟩
def lw_privs_2 : List (MethodName × Nat) := [(⟨"CardLoom$Drafter", "leastCost", "(LCardLoom$Card;III)I"⟩, 3), (⟨"CardLoom$Drafter", "costBy", "(ILCardLoom$Card;III)I"⟩, 3), (⟨"CardLoom$Drafter", "cost", "(II)I"⟩, 3), (⟨"CardLoom$Drafter", "follow", "(LCardLoom$Card;LCardLoom$Picture;II)V"⟩, 3), (⟨"CardLoom$Drafter", "firstBest", "(LCardLoom$Card;III)I"⟩, 3), (⟨"CardLoom", "fewestOfAll", "()I"⟩, 10), (⟨"CardLoom$Cloth", "repeatsBy", "(I)Z"⟩, 5), (⟨"CardLoom$Cloth", "isMirror", "(I)Z"⟩, 5), (⟨"CardLoom$Cloth", "rankOf", "(I)I"⟩, 5), (⟨"CardLoom$Cloth", "isAhead", "(II)Z"⟩, 5), (⟨"CardLoomModel", "readLaw", "()I"⟩, 41), (⟨"CardLoomModel", "here", "()I"⟩, 41), (⟨"CardLoomModel", "wrong", "(I)V"⟩, 41), (⟨"CardLoomModel", "readNumber", "(I)I"⟩, 41), (⟨"CardLoomModel", "expect", "(I)V"⟩, 41), (⟨"CardLoomModel", "readCard", "(I)V"⟩, 41)]
theorem lw_r2 : ∀ q ∈ lw_privs_2, lw_okq q := List.forall_mem_cons.mpr ⟨lw_p16, List.forall_mem_cons.mpr ⟨lw_p17, List.forall_mem_cons.mpr ⟨lw_p18, List.forall_mem_cons.mpr ⟨lw_p19, List.forall_mem_cons.mpr ⟨lw_p20, List.forall_mem_cons.mpr ⟨lw_p21, List.forall_mem_cons.mpr ⟨lw_p22, List.forall_mem_cons.mpr ⟨lw_p23, List.forall_mem_cons.mpr ⟨lw_p24, List.forall_mem_cons.mpr ⟨lw_p25, List.forall_mem_cons.mpr ⟨lw_p26, List.forall_mem_cons.mpr ⟨lw_p27, List.forall_mem_cons.mpr ⟨lw_p28, List.forall_mem_cons.mpr ⟨lw_p29, List.forall_mem_cons.mpr ⟨lw_p30, List.forall_mem_cons.mpr ⟨lw_p31, fun _ h => absurd h List.not_mem_nil⟩⟩⟩⟩⟩⟩⟩⟩⟩⟩⟩⟩⟩⟩⟩⟩
theorem lw_p32 : lw_okq (⟨"CardLoomModel", "isCard", "(I)Z"⟩, 41) := ⟨⟨by decide +kernel, by decide +kernel⟩, List.mem_of_getElem? (i := 976) (by decide +kernel), List.mem_of_getElem? (i := 1153) (by decide +kernel), List.mem_of_getElem? (i := 1154) (by decide +kernel)⟩
theorem lw_p33 : lw_okq (⟨"CardLoomModel", "floatOf", "(I)I"⟩, 41) := ⟨⟨by decide +kernel, by decide +kernel⟩, List.mem_of_getElem? (i := 976) (by decide +kernel), List.mem_of_getElem? (i := 1157) (by decide +kernel), List.mem_of_getElem? (i := 1158) (by decide +kernel)⟩
theorem lw_p34 : lw_okq (⟨"CardLoomModel", "lawOf", "(III)I"⟩, 41) := ⟨⟨by decide +kernel, by decide +kernel⟩, List.mem_of_getElem? (i := 976) (by decide +kernel), List.mem_of_getElem? (i := 1162) (by decide +kernel), List.mem_of_getElem? (i := 1163) (by decide +kernel)⟩
theorem lw_p35 : lw_okq (⟨"CardLoomModel", "picked", "(II)I"⟩, 41) := ⟨⟨by decide +kernel, by decide +kernel⟩, List.mem_of_getElem? (i := 976) (by decide +kernel), List.mem_of_getElem? (i := 1185) (by decide +kernel), List.mem_of_getElem? (i := 1186) (by decide +kernel)⟩
theorem lw_p36 : lw_okq (⟨"CardLoomModel", "pick", "()I"⟩, 41) := ⟨⟨by decide +kernel, by decide +kernel⟩, List.mem_of_getElem? (i := 976) (by decide +kernel), List.mem_of_getElem? (i := 1189) (by decide +kernel), List.mem_of_getElem? (i := 1190) (by decide +kernel)⟩
theorem lw_p37 : lw_okq (⟨"CardLoomModel", "jams", "()Z"⟩, 41) := ⟨⟨by decide +kernel, by decide +kernel⟩, List.mem_of_getElem? (i := 976) (by decide +kernel), List.mem_of_getElem? (i := 1193) (by decide +kernel), List.mem_of_getElem? (i := 1194) (by decide +kernel)⟩
theorem lw_p38 : lw_okq (⟨"CardLoomModel", "weavePick", "()V"⟩, 41) := ⟨⟨by decide +kernel, by decide +kernel⟩, List.mem_of_getElem? (i := 976) (by decide +kernel), List.mem_of_getElem? (i := 1200) (by decide +kernel), List.mem_of_getElem? (i := 1201) (by decide +kernel)⟩
theorem lw_p39 : lw_okq (⟨"CardLoomModel", "layLaw", "(I)V"⟩, 41) := ⟨⟨by decide +kernel, by decide +kernel⟩, List.mem_of_getElem? (i := 976) (by decide +kernel), List.mem_of_getElem? (i := 1215) (by decide +kernel), List.mem_of_getElem? (i := 1216) (by decide +kernel)⟩
theorem lw_p40 : lw_okq (⟨"CardLoomModel", "asked", "([III)I"⟩, 41) := ⟨⟨by decide +kernel, by decide +kernel⟩, List.mem_of_getElem? (i := 976) (by decide +kernel), List.mem_of_getElem? (i := 1227) (by decide +kernel), List.mem_of_getElem? (i := 1228) (by decide +kernel)⟩
theorem lw_p41 : lw_okq (⟨"CardLoomModel", "isRow", "(I)Z"⟩, 41) := ⟨⟨by decide +kernel, by decide +kernel⟩, List.mem_of_getElem? (i := 976) (by decide +kernel), List.mem_of_getElem? (i := 1231) (by decide +kernel), List.mem_of_getElem? (i := 1232) (by decide +kernel)⟩
theorem lw_p42 : lw_okq (⟨"CardLoomModel", "begins", "()V"⟩, 41) := ⟨⟨by decide +kernel, by decide +kernel⟩, List.mem_of_getElem? (i := 976) (by decide +kernel), List.mem_of_getElem? (i := 1251) (by decide +kernel), List.mem_of_getElem? (i := 1252) (by decide +kernel)⟩
theorem lw_p43 : lw_okq (⟨"CardLoomModel", "mind", "(I)Z"⟩, 41) := ⟨⟨by decide +kernel, by decide +kernel⟩, List.mem_of_getElem? (i := 976) (by decide +kernel), List.mem_of_getElem? (i := 1255) (by decide +kernel), List.mem_of_getElem? (i := 1256) (by decide +kernel)⟩
theorem lw_p44 : lw_okq (⟨"CardLoomModel", "areAsNow", "()Z"⟩, 41) := ⟨⟨by decide +kernel, by decide +kernel⟩, List.mem_of_getElem? (i := 976) (by decide +kernel), List.mem_of_getElem? (i := 1259) (by decide +kernel), List.mem_of_getElem? (i := 1260) (by decide +kernel)⟩
theorem lw_p45 : lw_okq (⟨"CardLoomModel", "areFlat", "()Z"⟩, 41) := ⟨⟨by decide +kernel, by decide +kernel⟩, List.mem_of_getElem? (i := 976) (by decide +kernel), List.mem_of_getElem? (i := 1267) (by decide +kernel), List.mem_of_getElem? (i := 1268) (by decide +kernel)⟩
theorem lw_p46 : lw_okq (⟨"CardLoomModel", "greatest", "(I)I"⟩, 41) := ⟨⟨by decide +kernel, by decide +kernel⟩, List.mem_of_getElem? (i := 976) (by decide +kernel), List.mem_of_getElem? (i := 1279) (by decide +kernel), List.mem_of_getElem? (i := 1280) (by decide +kernel)⟩
theorem lw_p47 : lw_okq (⟨"CardLoomModel", "draftOf", "(II)I"⟩, 41) := ⟨⟨by decide +kernel, by decide +kernel⟩, List.mem_of_getElem? (i := 976) (by decide +kernel), List.mem_of_getElem? (i := 1295) (by decide +kernel), List.mem_of_getElem? (i := 1296) (by decide +kernel)⟩
def lw_privs_3 : List (MethodName × Nat) := [(⟨"CardLoomModel", "isCard", "(I)Z"⟩, 41), (⟨"CardLoomModel", "floatOf", "(I)I"⟩, 41), (⟨"CardLoomModel", "lawOf", "(III)I"⟩, 41), (⟨"CardLoomModel", "picked", "(II)I"⟩, 41), (⟨"CardLoomModel", "pick", "()I"⟩, 41), (⟨"CardLoomModel", "jams", "()Z"⟩, 41), (⟨"CardLoomModel", "weavePick", "()V"⟩, 41), (⟨"CardLoomModel", "layLaw", "(I)V"⟩, 41), (⟨"CardLoomModel", "asked", "([III)I"⟩, 41), (⟨"CardLoomModel", "isRow", "(I)Z"⟩, 41), (⟨"CardLoomModel", "begins", "()V"⟩, 41), (⟨"CardLoomModel", "mind", "(I)Z"⟩, 41), (⟨"CardLoomModel", "areAsNow", "()Z"⟩, 41), (⟨"CardLoomModel", "areFlat", "()Z"⟩, 41), (⟨"CardLoomModel", "greatest", "(I)I"⟩, 41), (⟨"CardLoomModel", "draftOf", "(II)I"⟩, 41)]
theorem lw_r3 : ∀ q ∈ lw_privs_3, lw_okq q := List.forall_mem_cons.mpr ⟨lw_p32, List.forall_mem_cons.mpr ⟨lw_p33, List.forall_mem_cons.mpr ⟨lw_p34, List.forall_mem_cons.mpr ⟨lw_p35, List.forall_mem_cons.mpr ⟨lw_p36, List.forall_mem_cons.mpr ⟨lw_p37, List.forall_mem_cons.mpr ⟨lw_p38, List.forall_mem_cons.mpr ⟨lw_p39, List.forall_mem_cons.mpr ⟨lw_p40, List.forall_mem_cons.mpr ⟨lw_p41, List.forall_mem_cons.mpr ⟨lw_p42, List.forall_mem_cons.mpr ⟨lw_p43, List.forall_mem_cons.mpr ⟨lw_p44, List.forall_mem_cons.mpr ⟨lw_p45, List.forall_mem_cons.mpr ⟨lw_p46, List.forall_mem_cons.mpr ⟨lw_p47, fun _ h => absurd h List.not_mem_nil⟩⟩⟩⟩⟩⟩⟩⟩⟩⟩⟩⟩⟩⟩⟩⟩
theorem lw_p48 : lw_okq (⟨"CardLoomModel", "fewestFrom", "(III)I"⟩, 41) := ⟨⟨by decide +kernel, by decide +kernel⟩, List.mem_of_getElem? (i := 976) (by decide +kernel), List.mem_of_getElem? (i := 1299) (by decide +kernel), List.mem_of_getElem? (i := 1300) (by decide +kernel)⟩
theorem lw_p49 : lw_okq (⟨"CardLoomModel", "mayBe", "(IIIII)Z"⟩, 41) := ⟨⟨by decide +kernel, by decide +kernel⟩, List.mem_of_getElem? (i := 976) (by decide +kernel), List.mem_of_getElem? (i := 1304) (by decide +kernel), List.mem_of_getElem? (i := 1305) (by decide +kernel)⟩
theorem lw_p50 : lw_okq (⟨"CardLoomModel", "alikeIn", "(II)I"⟩, 41) := ⟨⟨by decide +kernel, by decide +kernel⟩, List.mem_of_getElem? (i := 976) (by decide +kernel), List.mem_of_getElem? (i := 1326) (by decide +kernel), List.mem_of_getElem? (i := 1327) (by decide +kernel)⟩
theorem lw_p51 : lw_okq (⟨"CardLoomModel", "countOf", "(I[I)I"⟩, 41) := ⟨⟨by decide +kernel, by decide +kernel⟩, List.mem_of_getElem? (i := 976) (by decide +kernel), List.mem_of_getElem? (i := 1342) (by decide +kernel), List.mem_of_getElem? (i := 1343) (by decide +kernel)⟩
theorem lw_p52 : lw_okq (⟨"CardLoomModel", "isAhead", "(II)Z"⟩, 41) := ⟨⟨by decide +kernel, by decide +kernel⟩, List.mem_of_getElem? (i := 976) (by decide +kernel), List.mem_of_getElem? (i := 1350) (by decide +kernel), List.mem_of_getElem? (i := 1351) (by decide +kernel)⟩
theorem lw_p53 : lw_okq (⟨"CardLoomModel", "copyAll", "(Z)V"⟩, 41) := ⟨⟨by decide +kernel, by decide +kernel⟩, List.mem_of_getElem? (i := 976) (by decide +kernel), List.mem_of_getElem? (i := 1403) (by decide +kernel), List.mem_of_getElem? (i := 1404) (by decide +kernel)⟩
def lw_privs_4 : List (MethodName × Nat) := [(⟨"CardLoomModel", "fewestFrom", "(III)I"⟩, 41), (⟨"CardLoomModel", "mayBe", "(IIIII)Z"⟩, 41), (⟨"CardLoomModel", "alikeIn", "(II)I"⟩, 41), (⟨"CardLoomModel", "countOf", "(I[I)I"⟩, 41), (⟨"CardLoomModel", "isAhead", "(II)Z"⟩, 41), (⟨"CardLoomModel", "copyAll", "(Z)V"⟩, 41)]
theorem lw_r4 : ∀ q ∈ lw_privs_4, lw_okq q := List.forall_mem_cons.mpr ⟨lw_p48, List.forall_mem_cons.mpr ⟨lw_p49, List.forall_mem_cons.mpr ⟨lw_p50, List.forall_mem_cons.mpr ⟨lw_p51, List.forall_mem_cons.mpr ⟨lw_p52, List.forall_mem_cons.mpr ⟨lw_p53, fun _ h => absurd h List.not_mem_nil⟩⟩⟩⟩⟩⟩
def lw_privs : List (MethodName × Nat) := lw_privs_1 ++ (lw_privs_2 ++ (lw_privs_3 ++ (lw_privs_4)))
def lw_tbl : List Cond := k2_sels lw_privs ++ tables_1
theorem lw_privs_ok : ∀ q ∈ lw_privs, lw_okq q := by
  show ∀ q ∈ lw_privs_1 ++ (lw_privs_2 ++ (lw_privs_3 ++ (lw_privs_4))), lw_okq q
  exact List.forall_mem_append.mpr ⟨lw_r1, List.forall_mem_append.mpr ⟨lw_r2, List.forall_mem_append.mpr ⟨lw_r3, lw_r4⟩⟩⟩

-- names, as the place printed them
def RX0 : String := "CardLoom$Card"
def TX0 : u_T := fun k => match k with
  | 0 => ("CardLoom$Card", "holes", "[I", true)
  | 1 => ("CardLoom$Card", "zSlant", "I", false)
  | 2 => ("CardLoom$Card", "top", "I", false)
  | _ => ("CardLoom$Card", "twist", "I", false)
def tyX0 : Nat → FieldType := fun k => match k with
  | 0 => .array .int
  | 1 => .int
  | 2 => .int
  | _ => .int
abbrev wsX00 : List Cond := u_ws RX0 TX0 4
theorem nmX0 : ∀ a, a < 4 → ∀ b, b < 4 → a ≠ b → (TX0 a).2.1 ≠ (TX0 b).2.1 := by decide +kernel
theorem tyX0_ok : ∀ k, k < 4 → parseFieldDescriptor (TX0 k).2.2.1 = some (tyX0 k) := by decide +kernel
abbrev cX0_init : ByteArray := prog_2_method_1_code
def yX0_init : MethodName := ⟨RX0, "<init>", "()V"⟩
abbrev cX0_colourIn : ByteArray := prog_2_method_2_code
def yX0_colourIn : MethodName := ⟨RX0, "colourIn", "(I)I"⟩
abbrev cX0_dye : ByteArray := prog_2_method_3_code
def yX0_dye : MethodName := ⟨RX0, "dye", "(II)I"⟩
abbrev cX0_leansToZ : ByteArray := prog_2_method_4_code
def yX0_leansToZ : MethodName := ⟨RX0, "leansToZ", "()I"⟩
abbrev cX0_flip : ByteArray := prog_2_method_5_code
def yX0_flip : MethodName := ⟨RX0, "flip", "()I"⟩
abbrev cX0_onTop : ByteArray := prog_2_method_6_code
def yX0_onTop : MethodName := ⟨RX0, "onTop", "()I"⟩
abbrev cX0_putOnTop : ByteArray := prog_2_method_7_code
def yX0_putOnTop : MethodName := ⟨RX0, "putOnTop", "(I)I"⟩
abbrev cX0_twists : ByteArray := prog_2_method_8_code
def yX0_twists : MethodName := ⟨RX0, "twists", "()I"⟩
abbrev cX0_beginAnew : ByteArray := prog_2_method_9_code
def yX0_beginAnew : MethodName := ⟨RX0, "beginAnew", "(I)V"⟩
abbrev cX0_jamsBy : ByteArray := prog_2_method_10_code
def yX0_jamsBy : MethodName := ⟨RX0, "jamsBy", "(I)Z"⟩
abbrev cX0_twistBy : ByteArray := prog_2_method_11_code
def yX0_twistBy : MethodName := ⟨RX0, "twistBy", "(I)V"⟩
abbrev cX0_frontColour : ByteArray := prog_2_method_12_code
def yX0_frontColour : MethodName := ⟨RX0, "frontColour", "()I"⟩
abbrev cX0_backColour : ByteArray := prog_2_method_13_code
def yX0_backColour : MethodName := ⟨RX0, "backColour", "()I"⟩
abbrev cX0_leanBy : ByteArray := prog_2_method_14_code
def yX0_leanBy : MethodName := ⟨RX0, "leanBy", "(I)I"⟩
abbrev cX0_copyFrom : ByteArray := prog_2_method_15_code
def yX0_copyFrom : MethodName := ⟨RX0, "copyFrom", "(LCardLoom$Card;)V"⟩
def RX1 : String := "CardLoom$Cloth"
def TX1 : u_T := fun k => match k with
  | 0 => ("CardLoom$Cloth", "cells", "[I", true)
  | 1 => ("CardLoom$Cloth", "frontCounts", "[I", true)
  | 2 => ("CardLoom$Cloth", "backCounts", "[I", true)
  | 3 => ("CardLoom$Cloth", "rows", "I", false)
  | _ => ("CardLoom$Cloth", "width", "I", false)
def tyX1 : Nat → FieldType := fun k => match k with
  | 0 => .array .int
  | 1 => .array .int
  | 2 => .array .int
  | 3 => .int
  | _ => .int
abbrev wsX10 : List Cond := u_ws RX1 TX1 5
theorem nmX1 : ∀ a, a < 5 → ∀ b, b < 5 → a ≠ b → (TX1 a).2.1 ≠ (TX1 b).2.1 := by decide +kernel
theorem tyX1_ok : ∀ k, k < 5 → parseFieldDescriptor (TX1 k).2.2.1 = some (tyX1 k) := by decide +kernel
abbrev cX1_init : ByteArray := prog_3_method_1_code
def yX1_init : MethodName := ⟨RX1, "<init>", "()V"⟩
abbrev cX1_beginAnew : ByteArray := prog_3_method_2_code
def yX1_beginAnew : MethodName := ⟨RX1, "beginAnew", "(I)V"⟩
abbrev cX1_rows : ByteArray := prog_3_method_3_code
def yX1_rows : MethodName := ⟨RX1, "rows", "()I"⟩
abbrev cX1_width : ByteArray := prog_3_method_4_code
def yX1_width : MethodName := ⟨RX1, "width", "()I"⟩
abbrev cX1_room : ByteArray := prog_3_method_5_code
def yX1_room : MethodName := ⟨RX1, "room", "()I"⟩
abbrev cX1_hasRow : ByteArray := prog_3_method_6_code
def yX1_hasRow : MethodName := ⟨RX1, "hasRow", "(I)Z"⟩
abbrev cX1_cell : ByteArray := prog_3_method_7_code
def yX1_cell : MethodName := ⟨RX1, "cell", "(III)I"⟩
abbrev cX1_put : ByteArray := prog_3_method_8_code
def yX1_put : MethodName := ⟨RX1, "put", "(III)V"⟩
abbrev cX1_addRow : ByteArray := prog_3_method_9_code
def yX1_addRow : MethodName := ⟨RX1, "addRow", "()V"⟩
abbrev cX1_dropRow : ByteArray := prog_3_method_10_code
def yX1_dropRow : MethodName := ⟨RX1, "dropRow", "()V"⟩
abbrev cX1_longest : ByteArray := prog_3_method_11_code
def yX1_longest : MethodName := ⟨RX1, "longest", "(III)I"⟩
abbrev cX1_count : ByteArray := prog_3_method_12_code
def yX1_count : MethodName := ⟨RX1, "count", "(II)I"⟩
abbrev cX1_colourRanked : ByteArray := prog_3_method_13_code
def yX1_colourRanked : MethodName := ⟨RX1, "colourRanked", "(I)I"⟩
abbrev cX1_rankOf : ByteArray := prog_3_method_14_code
def yX1_rankOf : MethodName := ⟨RX1, "rankOf", "(I)I"⟩
abbrev cX1_isAhead : ByteArray := prog_3_method_15_code
def yX1_isAhead : MethodName := ⟨RX1, "isAhead", "(II)Z"⟩
abbrev cX1_sameFronts : ByteArray := prog_3_method_16_code
def yX1_sameFronts : MethodName := ⟨RX1, "sameFronts", "(II)I"⟩
abbrev cX1_sameFaces : ByteArray := prog_3_method_17_code
def yX1_sameFaces : MethodName := ⟨RX1, "sameFaces", "(I)I"⟩
abbrev cX1_leastPeriod : ByteArray := prog_3_method_18_code
def yX1_leastPeriod : MethodName := ⟨RX1, "leastPeriod", "()I"⟩
abbrev cX1_repeatsBy : ByteArray := prog_3_method_19_code
def yX1_repeatsBy : MethodName := ⟨RX1, "repeatsBy", "(I)Z"⟩
abbrev cX1_mirrorRows : ByteArray := prog_3_method_20_code
def yX1_mirrorRows : MethodName := ⟨RX1, "mirrorRows", "()I"⟩
abbrev cX1_isMirror : ByteArray := prog_3_method_21_code
def yX1_isMirror : MethodName := ⟨RX1, "isMirror", "(I)Z"⟩
abbrev cX1_copyFrom : ByteArray := prog_3_method_22_code
def yX1_copyFrom : MethodName := ⟨RX1, "copyFrom", "(LCardLoom$Cloth;)V"⟩
def RX2 : String := "CardLoom$Drafter"
def TX2 : u_T := fun k => match k with
  | 0 => ("CardLoom$Drafter", "costs", "[I", true)
  | 1 => ("CardLoom$Drafter", "turnings", "[I", true)
  | _ => ("CardLoom$Drafter", "all", "[I", true)
def tyX2 : Nat → FieldType := fun k => match k with
  | 0 => .array .int
  | 1 => .array .int
  | _ => .array .int
abbrev wsX20 : List Cond := u_ws RX2 TX2 3
theorem nmX2 : ∀ a, a < 3 → ∀ b, b < 3 → a ≠ b → (TX2 a).2.1 ≠ (TX2 b).2.1 := by decide +kernel
theorem tyX2_ok : ∀ k, k < 3 → parseFieldDescriptor (TX2 k).2.2.1 = some (tyX2 k) := by decide +kernel
abbrev cX2_init : ByteArray := prog_4_method_1_code
def yX2_init : MethodName := ⟨RX2, "<init>", "()V"⟩
abbrev cX2_plan : ByteArray := prog_4_method_2_code
def yX2_plan : MethodName := ⟨RX2, "plan", "(LCardLoom$Card;LCardLoom$Picture;I)I"⟩
abbrev cX2_follow : ByteArray := prog_4_method_3_code
def yX2_follow : MethodName := ⟨RX2, "follow", "(LCardLoom$Card;LCardLoom$Picture;II)V"⟩
abbrev cX2_leastCost : ByteArray := prog_4_method_4_code
def yX2_leastCost : MethodName := ⟨RX2, "leastCost", "(LCardLoom$Card;III)I"⟩
abbrev cX2_firstBest : ByteArray := prog_4_method_5_code
def yX2_firstBest : MethodName := ⟨RX2, "firstBest", "(LCardLoom$Card;III)I"⟩
abbrev cX2_costBy : ByteArray := prog_4_method_6_code
def yX2_costBy : MethodName := ⟨RX2, "costBy", "(ILCardLoom$Card;III)I"⟩
abbrev cX2_wayTurning : ByteArray := prog_4_method_7_code
def yX2_wayTurning : MethodName := ⟨RX2, "wayTurning", "(I)I"⟩
abbrev cX2_cost : ByteArray := prog_4_method_8_code
def yX2_cost : MethodName := ⟨RX2, "cost", "(II)I"⟩
abbrev cX2_setCost : ByteArray := prog_4_method_9_code
def yX2_setCost : MethodName := ⟨RX2, "setCost", "(III)V"⟩
abbrev cX2_turningFor : ByteArray := prog_4_method_10_code
def yX2_turningFor : MethodName := ⟨RX2, "turningFor", "(I)I"⟩
abbrev cX2_planAll : ByteArray := prog_4_method_11_code
def yX2_planAll : MethodName := ⟨RX2, "planAll", "(LCardLoom$Loom;LCardLoom$Picture;)V"⟩
abbrev cX2_turningOf : ByteArray := prog_4_method_12_code
def yX2_turningOf : MethodName := ⟨RX2, "turningOf", "(II)I"⟩
def RX3 : String := "CardLoom$Law"
def TX3 : u_T := fun k => match k with
  | 0 => ("CardLoom$Law", "kinds", "[C", true)
  | 1 => ("CardLoom$Law", "numbers", "[I", true)
  | 2 => ("CardLoom$Law", "firsts", "[I", true)
  | 3 => ("CardLoom$Law", "seconds", "[I", true)
  | 4 => ("CardLoom$Law", "nodes", "I", false)
  | _ => ("CardLoom$Law", "leaves", "I", false)
def tyX3 : Nat → FieldType := fun k => match k with
  | 0 => .array .char
  | 1 => .array .int
  | 2 => .array .int
  | 3 => .array .int
  | 4 => .int
  | _ => .int
abbrev wsX30 : List Cond := u_ws RX3 TX3 6
theorem nmX3 : ∀ a, a < 6 → ∀ b, b < 6 → a ≠ b → (TX3 a).2.1 ≠ (TX3 b).2.1 := by decide +kernel
theorem tyX3_ok : ∀ k, k < 6 → parseFieldDescriptor (TX3 k).2.2.1 = some (tyX3 k) := by decide +kernel
abbrev cX3_init : ByteArray := prog_5_method_1_code
def yX3_init : MethodName := ⟨RX3, "<init>", "()V"⟩
abbrev cX3_leaves : ByteArray := prog_5_method_2_code
def yX3_leaves : MethodName := ⟨RX3, "leaves", "()I"⟩
abbrev cX3_wipe : ByteArray := prog_5_method_3_code
def yX3_wipe : MethodName := ⟨RX3, "wipe", "()V"⟩
abbrev cX3_add : ByteArray := prog_5_method_4_code
def yX3_add : MethodName := ⟨RX3, "add", "(CI)I"⟩
abbrev cX3_addLeaf : ByteArray := prog_5_method_5_code
def yX3_addLeaf : MethodName := ⟨RX3, "addLeaf", "(C)I"⟩
abbrev cX3_join : ByteArray := prog_5_method_6_code
def yX3_join : MethodName := ⟨RX3, "join", "(III)V"⟩
abbrev cX3_turningFor : ByteArray := prog_5_method_7_code
def yX3_turningFor : MethodName := ⟨RX3, "turningFor", "(III)I"⟩
abbrev cX3_valueOf : ByteArray := prog_5_method_8_code
def yX3_valueOf : MethodName := ⟨RX3, "valueOf", "(IIIII)I"⟩
abbrev cX3_isOddPart : ByteArray := prog_5_method_9_code
def yX3_isOddPart : MethodName := ⟨RX3, "isOddPart", "(II)Z"⟩
abbrev cX3_isDivided : ByteArray := prog_5_method_10_code
def yX3_isDivided : MethodName := ⟨RX3, "isDivided", "(II)Z"⟩
abbrev cX3_reversed : ByteArray := prog_5_method_11_code
def yX3_reversed : MethodName := ⟨RX3, "reversed", "(I)I"⟩
abbrev cX3_copyFrom : ByteArray := prog_5_method_12_code
def yX3_copyFrom : MethodName := ⟨RX3, "copyFrom", "(LCardLoom$Law;)V"⟩
def RX4 : String := "CardLoom$LawReader"
def TX4 : u_T := fun k => match k with
  | 0 => ("CardLoom$LawReader", "law", "LCardLoom$Law;", true)
  | 1 => ("CardLoom$LawReader", "text", "LCardLoom$Text;", false)
  | 2 => ("CardLoom$LawReader", "at", "I", false)
  | _ => ("CardLoom$LawReader", "fault", "I", false)
def tyX4 : Nat → FieldType := fun k => match k with
  | 0 => .object "CardLoom$Law"
  | 1 => .object "CardLoom$Text"
  | 2 => .int
  | _ => .int
abbrev wsX40 : List Cond := u_ws RX4 TX4 4
theorem nmX4 : ∀ a, a < 4 → ∀ b, b < 4 → a ≠ b → (TX4 a).2.1 ≠ (TX4 b).2.1 := by decide +kernel
theorem tyX4_ok : ∀ k, k < 4 → parseFieldDescriptor (TX4 k).2.2.1 = some (tyX4 k) := by decide +kernel
abbrev cX4_init : ByteArray := prog_6_method_1_code
def yX4_init : MethodName := ⟨RX4, "<init>", "()V"⟩
abbrev cX4_result : ByteArray := prog_6_method_2_code
def yX4_result : MethodName := ⟨RX4, "result", "()LCardLoom$Law;"⟩
abbrev cX4_read : ByteArray := prog_6_method_3_code
def yX4_read : MethodName := ⟨RX4, "read", "(LCardLoom$Text;)I"⟩
abbrev cX4_term : ByteArray := prog_6_method_4_code
def yX4_term : MethodName := ⟨RX4, "term", "(I)I"⟩
abbrev cX4_number : ByteArray := prog_6_method_5_code
def yX4_number : MethodName := ⟨RX4, "number", "(C)I"⟩
abbrev cX4_expect : ByteArray := prog_6_method_6_code
def yX4_expect : MethodName := ⟨RX4, "expect", "(C)V"⟩
abbrev cX4_fail : ByteArray := prog_6_method_7_code
def yX4_fail : MethodName := ⟨RX4, "fail", "(I)V"⟩
abbrev cX4_next : ByteArray := prog_6_method_8_code
def yX4_next : MethodName := ⟨RX4, "next", "()I"⟩
abbrev cX4_isLeaf : ByteArray := prog_6_method_9_code
def yX4_isLeaf : MethodName := ⟨RX4, "isLeaf", "(C)Z"⟩
abbrev cX4_hasNumber : ByteArray := prog_6_method_10_code
def yX4_hasNumber : MethodName := ⟨RX4, "hasNumber", "(C)Z"⟩
abbrev cX4_isOpener : ByteArray := prog_6_method_11_code
def yX4_isOpener : MethodName := ⟨RX4, "isOpener", "(C)Z"⟩
abbrev cX4_isPair : ByteArray := prog_6_method_12_code
def yX4_isPair : MethodName := ⟨RX4, "isPair", "(C)Z"⟩
def RX5 : String := "CardLoom$Lists"
def TX5 : u_T := fun k => match k with
  | 0 => ("CardLoom$Lists", "values", "[I", true)
  | _ => ("CardLoom$Lists", "sizes", "[I", true)
def tyX5 : Nat → FieldType := fun k => match k with
  | 0 => .array .int
  | _ => .array .int
abbrev wsX50 : List Cond := u_ws RX5 TX5 2
theorem nmX5 : ∀ a, a < 2 → ∀ b, b < 2 → a ≠ b → (TX5 a).2.1 ≠ (TX5 b).2.1 := by decide +kernel
theorem tyX5_ok : ∀ k, k < 2 → parseFieldDescriptor (TX5 k).2.2.1 = some (tyX5 k) := by decide +kernel
abbrev cX5_init : ByteArray := prog_7_method_1_code
def yX5_init : MethodName := ⟨RX5, "<init>", "()V"⟩
abbrev cX5_has : ByteArray := prog_7_method_2_code
def yX5_has : MethodName := ⟨RX5, "has", "(I)Z"⟩
abbrev cX5_isNothing : ByteArray := prog_7_method_3_code
def yX5_isNothing : MethodName := ⟨RX5, "isNothing", "(I)Z"⟩
abbrev cX5_hasPlace : ByteArray := prog_7_method_4_code
def yX5_hasPlace : MethodName := ⟨RX5, "hasPlace", "(II)Z"⟩
abbrev cX5_hasPlaceBehind : ByteArray := prog_7_method_5_code
def yX5_hasPlaceBehind : MethodName := ⟨RX5, "hasPlaceBehind", "(III)Z"⟩
abbrev cX5_renew : ByteArray := prog_7_method_6_code
def yX5_renew : MethodName := ⟨RX5, "renew", "(II)V"⟩
abbrev cX5_read : ByteArray := prog_7_method_7_code
def yX5_read : MethodName := ⟨RX5, "read", "(II)I"⟩
abbrev cX5_write : ByteArray := prog_7_method_8_code
def yX5_write : MethodName := ⟨RX5, "write", "(III)V"⟩
def RX6 : String := "CardLoom$Loom"
def TX6 : u_T := fun k => match k with
  | 0 => ("CardLoom$Loom", "cards", "[LCardLoom$Card;", true)
  | 1 => ("CardLoom$Loom", "turnings", "[I", true)
  | 2 => ("CardLoom$Loom", "cloth", "LCardLoom$Cloth;", true)
  | 3 => ("CardLoom$Loom", "law", "LCardLoom$Law;", true)
  | _ => ("CardLoom$Loom", "threaded", "I", false)
def tyX6 : Nat → FieldType := fun k => match k with
  | 0 => .array (.object "CardLoom$Card")
  | 1 => .array .int
  | 2 => .object "CardLoom$Cloth"
  | 3 => .object "CardLoom$Law"
  | _ => .int
abbrev wsX60 : List Cond := u_ws RX6 TX6 5
theorem nmX6 : ∀ a, a < 5 → ∀ b, b < 5 → a ≠ b → (TX6 a).2.1 ≠ (TX6 b).2.1 := by decide +kernel
theorem tyX6_ok : ∀ k, k < 5 → parseFieldDescriptor (TX6 k).2.2.1 = some (tyX6 k) := by decide +kernel
abbrev cX6_init : ByteArray := prog_8_method_1_code
def yX6_init : MethodName := ⟨RX6, "<init>", "()V"⟩
abbrev cX6_threaded : ByteArray := prog_8_method_2_code
def yX6_threaded : MethodName := ⟨RX6, "threaded", "()I"⟩
abbrev cX6_cloth : ByteArray := prog_8_method_3_code
def yX6_cloth : MethodName := ⟨RX6, "cloth", "()LCardLoom$Cloth;"⟩
abbrev cX6_picks : ByteArray := prog_8_method_4_code
def yX6_picks : MethodName := ⟨RX6, "picks", "()I"⟩
abbrev cX6_cardAt : ByteArray := prog_8_method_5_code
def yX6_cardAt : MethodName := ⟨RX6, "cardAt", "(I)LCardLoom$Card;"⟩
abbrev cX6_threadBy : ByteArray := prog_8_method_6_code
def yX6_threadBy : MethodName := ⟨RX6, "threadBy", "(LCardLoom$Text;)V"⟩
abbrev cX6_spellOn : ByteArray := prog_8_method_7_code
def yX6_spellOn : MethodName := ⟨RX6, "spellOn", "(LCardLoom$Text;)V"⟩
abbrev cX6_obey : ByteArray := prog_8_method_8_code
def yX6_obey : MethodName := ⟨RX6, "obey", "(LCardLoom$Law;)V"⟩
abbrev cX6_nextTurning : ByteArray := prog_8_method_9_code
def yX6_nextTurning : MethodName := ⟨RX6, "nextTurning", "(II)I"⟩
abbrev cX6_pickSet : ByteArray := prog_8_method_10_code
def yX6_pickSet : MethodName := ⟨RX6, "pickSet", "(II)Z"⟩
abbrev cX6_pickByLaw : ByteArray := prog_8_method_11_code
def yX6_pickByLaw : MethodName := ⟨RX6, "pickByLaw", "()Z"⟩
abbrev cX6_pickDrafted : ByteArray := prog_8_method_12_code
def yX6_pickDrafted : MethodName := ⟨RX6, "pickDrafted", "(LCardLoom$Drafter;I)Z"⟩
abbrev cX6_pick : ByteArray := prog_8_method_13_code
def yX6_pick : MethodName := ⟨RX6, "pick", "()Z"⟩
abbrev cX6_jams : ByteArray := prog_8_method_14_code
def yX6_jams : MethodName := ⟨RX6, "jams", "()Z"⟩
abbrev cX6_weaveCard : ByteArray := prog_8_method_15_code
def yX6_weaveCard : MethodName := ⟨RX6, "weaveCard", "(ILCardLoom$Card;I)V"⟩
abbrev cX6_takeBack : ByteArray := prog_8_method_16_code
def yX6_takeBack : MethodName := ⟨RX6, "takeBack", "(I)I"⟩
abbrev cX6_takeLastRow : ByteArray := prog_8_method_17_code
def yX6_takeLastRow : MethodName := ⟨RX6, "takeLastRow", "()V"⟩
abbrev cX6_greatestTwist : ByteArray := prog_8_method_18_code
def yX6_greatestTwist : MethodName := ⟨RX6, "greatestTwist", "(I)I"⟩
abbrev cX6_twistedBeyond : ByteArray := prog_8_method_19_code
def yX6_twistedBeyond : MethodName := ⟨RX6, "twistedBeyond", "(II)I"⟩
abbrev cX6_twistAt : ByteArray := prog_8_method_20_code
def yX6_twistAt : MethodName := ⟨RX6, "twistAt", "(I)I"⟩
abbrev cX6_sumOfTwists : ByteArray := prog_8_method_21_code
def yX6_sumOfTwists : MethodName := ⟨RX6, "sumOfTwists", "()I"⟩
abbrev cX6_greatestFloat : ByteArray := prog_8_method_22_code
def yX6_greatestFloat : MethodName := ⟨RX6, "greatestFloat", "()I"⟩
abbrev cX6_holesOf : ByteArray := prog_8_method_23_code
def yX6_holesOf : MethodName := ⟨RX6, "holesOf", "(I)I"⟩
abbrev cX6_copyFrom : ByteArray := prog_8_method_24_code
def yX6_copyFrom : MethodName := ⟨RX6, "copyFrom", "(LCardLoom$Loom;)V"⟩
def RX7 : String := "CardLoom$Mind"
def TX7 : u_T := fun k => match k with
  | 0 => ("CardLoom$Mind", "more", "[I", true)
  | 1 => ("CardLoom$Mind", "twists", "[I", true)
  | _ => ("CardLoom$Mind", "cards", "I", false)
def tyX7 : Nat → FieldType := fun k => match k with
  | 0 => .array .int
  | 1 => .array .int
  | _ => .int
abbrev wsX70 : List Cond := u_ws RX7 TX7 3
theorem nmX7 : ∀ a, a < 3 → ∀ b, b < 3 → a ≠ b → (TX7 a).2.1 ≠ (TX7 b).2.1 := by decide +kernel
theorem tyX7_ok : ∀ k, k < 3 → parseFieldDescriptor (TX7 k).2.2.1 = some (tyX7 k) := by decide +kernel
abbrev cX7_init : ByteArray := prog_9_method_1_code
def yX7_init : MethodName := ⟨RX7, "<init>", "()V"⟩
abbrev cX7_picksToReturn : ByteArray := prog_9_method_2_code
def yX7_picksToReturn : MethodName := ⟨RX7, "picksToReturn", "(LCardLoom$Loom;)I"⟩
abbrev cX7_picksToFlat : ByteArray := prog_9_method_3_code
def yX7_picksToFlat : MethodName := ⟨RX7, "picksToFlat", "(LCardLoom$Loom;)I"⟩
abbrev cX7_picksToJam : ByteArray := prog_9_method_4_code
def yX7_picksToJam : MethodName := ⟨RX7, "picksToJam", "(LCardLoom$Loom;)I"⟩
abbrev cX7_begin : ByteArray := prog_9_method_5_code
def yX7_begin : MethodName := ⟨RX7, "begin", "(LCardLoom$Loom;)V"⟩
abbrev cX7_pick : ByteArray := prog_9_method_6_code
def yX7_pick : MethodName := ⟨RX7, "pick", "(LCardLoom$Loom;I)Z"⟩
abbrev cX7_allPlacesAsNow : ByteArray := prog_9_method_7_code
def yX7_allPlacesAsNow : MethodName := ⟨RX7, "allPlacesAsNow", "()Z"⟩
abbrev cX7_nothingTwisted : ByteArray := prog_9_method_8_code
def yX7_nothingTwisted : MethodName := ⟨RX7, "nothingTwisted", "()Z"⟩
def RX8 : String := "CardLoom$Picture"
def TX8 : u_T := fun k => match k with
  | 0 => ("CardLoom$Picture", "colours", "[I", true)
  | _ => ("CardLoom$Picture", "height", "I", false)
def tyX8 : Nat → FieldType := fun k => match k with
  | 0 => .array .int
  | _ => .int
abbrev wsX80 : List Cond := u_ws RX8 TX8 2
theorem nmX8 : ∀ a, a < 2 → ∀ b, b < 2 → a ≠ b → (TX8 a).2.1 ≠ (TX8 b).2.1 := by decide +kernel
theorem tyX8_ok : ∀ k, k < 2 → parseFieldDescriptor (TX8 k).2.2.1 = some (tyX8 k) := by decide +kernel
abbrev cX8_init : ByteArray := prog_10_method_1_code
def yX8_init : MethodName := ⟨RX8, "<init>", "()V"⟩
abbrev cX8_height : ByteArray := prog_10_method_2_code
def yX8_height : MethodName := ⟨RX8, "height", "()I"⟩
abbrev cX8_has : ByteArray := prog_10_method_3_code
def yX8_has : MethodName := ⟨RX8, "has", "(II)Z"⟩
abbrev cX8_at : ByteArray := prog_10_method_4_code
def yX8_at : MethodName := ⟨RX8, "at", "(II)I"⟩
abbrev cX8_put : ByteArray := prog_10_method_5_code
def yX8_put : MethodName := ⟨RX8, "put", "(III)I"⟩
abbrev cX8_resize : ByteArray := prog_10_method_6_code
def yX8_resize : MethodName := ⟨RX8, "resize", "(I)I"⟩
abbrev cX8_matchesFrom : ByteArray := prog_10_method_7_code
def yX8_matchesFrom : MethodName := ⟨RX8, "matchesFrom", "(LCardLoom$Cloth;I)I"⟩
def RX9 : String := "CardLoom$Text"
def TX9 : u_T := fun k => match k with
  | 0 => ("CardLoom$Text", "bytes", "[B", true)
  | _ => ("CardLoom$Text", "size", "I", false)
def tyX9 : Nat → FieldType := fun k => match k with
  | 0 => .array .byte
  | _ => .int
abbrev wsX90 : List Cond := u_ws RX9 TX9 2
theorem nmX9 : ∀ a, a < 2 → ∀ b, b < 2 → a ≠ b → (TX9 a).2.1 ≠ (TX9 b).2.1 := by decide +kernel
theorem tyX9_ok : ∀ k, k < 2 → parseFieldDescriptor (TX9 k).2.2.1 = some (tyX9 k) := by decide +kernel
abbrev cX9_init : ByteArray := prog_11_method_1_code
def yX9_init : MethodName := ⟨RX9, "<init>", "()V"⟩
abbrev cX9_size : ByteArray := prog_11_method_2_code
def yX9_size : MethodName := ⟨RX9, "size", "()I"⟩
abbrev cX9_isFull : ByteArray := prog_11_method_3_code
def yX9_isFull : MethodName := ⟨RX9, "isFull", "()Z"⟩
abbrev cX9_append : ByteArray := prog_11_method_4_code
def yX9_append : MethodName := ⟨RX9, "append", "(I)V"⟩
abbrev cX9_wipe : ByteArray := prog_11_method_5_code
def yX9_wipe : MethodName := ⟨RX9, "wipe", "()V"⟩
abbrev cX9_byteAt : ByteArray := prog_11_method_6_code
def yX9_byteAt : MethodName := ⟨RX9, "byteAt", "(I)I"⟩
def RX10 : String := "CardLoom$Threading"
def TX10 : u_T := fun k => match k with
  | _ => ("", "", "", false)
def tyX10 : Nat → FieldType := fun k => match k with
  | _ => .int
abbrev wsX100 : List Cond := u_ws RX10 TX10 0
theorem nmX10 : ∀ a, a < 0 → ∀ b, b < 0 → a ≠ b → (TX10 a).2.1 ≠ (TX10 b).2.1 := by decide +kernel
theorem tyX10_ok : ∀ k, k < 0 → parseFieldDescriptor (TX10 k).2.2.1 = some (tyX10 k) := by decide +kernel
abbrev cX10_faultOf : ByteArray := prog_12_method_2_code
def yX10_faultOf : MethodName := ⟨RX10, "faultOf", "(LCardLoom$Text;)I"⟩
abbrev cX10_fits : ByteArray := prog_12_method_3_code
def yX10_fits : MethodName := ⟨RX10, "fits", "(II)Z"⟩
abbrev cX10_cardsOf : ByteArray := prog_12_method_4_code
def yX10_cardsOf : MethodName := ⟨RX10, "cardsOf", "(LCardLoom$Text;)I"⟩
abbrev cX10_readCard : ByteArray := prog_12_method_5_code
def yX10_readCard : MethodName := ⟨RX10, "readCard", "(LCardLoom$Text;ILCardLoom$Card;)V"⟩
abbrev cX10_writeCard : ByteArray := prog_12_method_6_code
def yX10_writeCard : MethodName := ⟨RX10, "writeCard", "(LCardLoom$Card;LCardLoom$Text;)V"⟩
def RX11 : String := "CardLoom"
def TX11 : u_T := fun k => match k with
  | 0 => ("CardLoom", "tape", "LCardLoom$Text;", true)
  | 1 => ("CardLoom", "sheet", "LCardLoom$Text;", true)
  | 2 => ("CardLoom", "loom", "LCardLoom$Loom;", true)
  | 3 => ("CardLoom", "kept", "LCardLoom$Loom;", true)
  | 4 => ("CardLoom", "reader", "LCardLoom$LawReader;", true)
  | 5 => ("CardLoom", "mind", "LCardLoom$Mind;", true)
  | 6 => ("CardLoom", "picture", "LCardLoom$Picture;", true)
  | 7 => ("CardLoom", "drafter", "LCardLoom$Drafter;", true)
  | 8 => ("CardLoom", "lists", "LCardLoom$Lists;", true)
  | _ => ("CardLoom", "isKept", "Z", false)
def tyX11 : Nat → FieldType := fun k => match k with
  | 0 => .object "CardLoom$Text"
  | 1 => .object "CardLoom$Text"
  | 2 => .object "CardLoom$Loom"
  | 3 => .object "CardLoom$Loom"
  | 4 => .object "CardLoom$LawReader"
  | 5 => .object "CardLoom$Mind"
  | 6 => .object "CardLoom$Picture"
  | 7 => .object "CardLoom$Drafter"
  | 8 => .object "CardLoom$Lists"
  | _ => .boolean
abbrev wsX110 : List Cond := u_ws RX11 TX11 10
theorem nmX11 : ∀ a, a < 10 → ∀ b, b < 10 → a ≠ b → (TX11 a).2.1 ≠ (TX11 b).2.1 := by decide +kernel
theorem tyX11_ok : ∀ k, k < 10 → parseFieldDescriptor (TX11 k).2.2.1 = some (tyX11 k) := by decide +kernel
abbrev cX11_init : ByteArray := prog_1_method_1_code
def yX11_init : MethodName := ⟨RX11, "<init>", "()V"⟩
abbrev cX11_feed : ByteArray := prog_1_method_2_code
def yX11_feed : MethodName := ⟨RX11, "feed", "(I)I"⟩
abbrev cX11_clear : ByteArray := prog_1_method_3_code
def yX11_clear : MethodName := ⟨RX11, "clear", "()I"⟩
abbrev cX11_thread : ByteArray := prog_1_method_4_code
def yX11_thread : MethodName := ⟨RX11, "thread", "()I"⟩
abbrev cX11_law : ByteArray := prog_1_method_5_code
def yX11_law : MethodName := ⟨RX11, "law", "()I"⟩
abbrev cX11_card : ByteArray := prog_1_method_6_code
def yX11_card : MethodName := ⟨RX11, "card", "(II)I"⟩
abbrev cX11_slant : ByteArray := prog_1_method_7_code
def yX11_slant : MethodName := ⟨RX11, "slant", "(I)I"⟩
abbrev cX11_place : ByteArray := prog_1_method_8_code
def yX11_place : MethodName := ⟨RX11, "place", "(II)I"⟩
abbrev cX11_recolour : ByteArray := prog_1_method_9_code
def yX11_recolour : MethodName := ⟨RX11, "recolour", "(III)I"⟩
abbrev cX11_turn : ByteArray := prog_1_method_10_code
def yX11_turn : MethodName := ⟨RX11, "turn", "(II)I"⟩
abbrev cX11_pack : ByteArray := prog_1_method_11_code
def yX11_pack : MethodName := ⟨RX11, "pack", "(II)I"⟩
abbrev cX11_turnSet : ByteArray := prog_1_method_12_code
def yX11_turnSet : MethodName := ⟨RX11, "turnSet", "(II)I"⟩
abbrev cX11_weave : ByteArray := prog_1_method_13_code
def yX11_weave : MethodName := ⟨RX11, "weave", "(I)I"⟩
abbrev cX11_unweave : ByteArray := prog_1_method_14_code
def yX11_unweave : MethodName := ⟨RX11, "unweave", "(I)I"⟩
abbrev cX11_front : ByteArray := prog_1_method_15_code
def yX11_front : MethodName := ⟨RX11, "front", "(II)I"⟩
abbrev cX11_back : ByteArray := prog_1_method_16_code
def yX11_back : MethodName := ⟨RX11, "back", "(II)I"⟩
abbrev cX11_lean : ByteArray := prog_1_method_17_code
def yX11_lean : MethodName := ⟨RX11, "lean", "(II)I"⟩
abbrev cX11_turning : ByteArray := prog_1_method_18_code
def yX11_turning : MethodName := ⟨RX11, "turning", "(II)I"⟩
abbrev cX11_returns : ByteArray := prog_1_method_19_code
def yX11_returns : MethodName := ⟨RX11, "returns", "()I"⟩
abbrev cX11_flat : ByteArray := prog_1_method_20_code
def yX11_flat : MethodName := ⟨RX11, "flat", "()I"⟩
abbrev cX11_jam : ByteArray := prog_1_method_21_code
def yX11_jam : MethodName := ⟨RX11, "jam", "()I"⟩
abbrev cX11_undoing : ByteArray := prog_1_method_22_code
def yX11_undoing : MethodName := ⟨RX11, "undoing", "(II)I"⟩
abbrev cX11_paint : ByteArray := prog_1_method_23_code
def yX11_paint : MethodName := ⟨RX11, "paint", "(III)I"⟩
abbrev cX11_lines : ByteArray := prog_1_method_24_code
def yX11_lines : MethodName := ⟨RX11, "lines", "(I)I"⟩
abbrev cX11_draft : ByteArray := prog_1_method_25_code
def yX11_draft : MethodName := ⟨RX11, "draft", "(II)I"⟩
abbrev cX11_fewest : ByteArray := prog_1_method_26_code
def yX11_fewest : MethodName := ⟨RX11, "fewest", "(I)I"⟩
abbrev cX11_fewestOfAll : ByteArray := prog_1_method_27_code
def yX11_fewestOfAll : MethodName := ⟨RX11, "fewestOfAll", "()I"⟩
abbrev cX11_weaveDraft : ByteArray := prog_1_method_28_code
def yX11_weaveDraft : MethodName := ⟨RX11, "weaveDraft", "()I"⟩
abbrev cX11_matches : ByteArray := prog_1_method_29_code
def yX11_matches : MethodName := ⟨RX11, "matches", "(I)I"⟩
abbrev cX11_period : ByteArray := prog_1_method_30_code
def yX11_period : MethodName := ⟨RX11, "period", "()I"⟩
abbrev cX11_mirrors : ByteArray := prog_1_method_31_code
def yX11_mirrors : MethodName := ⟨RX11, "mirrors", "()I"⟩
abbrev cX11_run : ByteArray := prog_1_method_32_code
def yX11_run : MethodName := ⟨RX11, "run", "(I)I"⟩
abbrev cX11_colours : ByteArray := prog_1_method_33_code
def yX11_colours : MethodName := ⟨RX11, "colours", "(II)I"⟩
abbrev cX11_ranked : ByteArray := prog_1_method_34_code
def yX11_ranked : MethodName := ⟨RX11, "ranked", "(I)I"⟩
abbrev cX11_alike : ByteArray := prog_1_method_35_code
def yX11_alike : MethodName := ⟨RX11, "alike", "(II)I"⟩
abbrev cX11_faces : ByteArray := prog_1_method_36_code
def yX11_faces : MethodName := ⟨RX11, "faces", "(I)I"⟩
abbrev cX11_spell : ByteArray := prog_1_method_37_code
def yX11_spell : MethodName := ⟨RX11, "spell", "()I"⟩
abbrev cX11_paper : ByteArray := prog_1_method_38_code
def yX11_paper : MethodName := ⟨RX11, "paper", "(I)I"⟩
abbrev cX11_told : ByteArray := prog_1_method_39_code
def yX11_told : MethodName := ⟨RX11, "told", "(I)I"⟩
abbrev cX11_list : ByteArray := prog_1_method_40_code
def yX11_list : MethodName := ⟨RX11, "list", "(II)I"⟩
abbrev cX11_set : ByteArray := prog_1_method_41_code
def yX11_set : MethodName := ⟨RX11, "set", "(III)I"⟩
abbrev cX11_get : ByteArray := prog_1_method_42_code
def yX11_get : MethodName := ⟨RX11, "get", "(II)I"⟩
abbrev cX11_lay : ByteArray := prog_1_method_43_code
def yX11_lay : MethodName := ⟨RX11, "lay", "(III)I"⟩
abbrev cX11_judge : ByteArray := prog_1_method_44_code
def yX11_judge : MethodName := ⟨RX11, "judge", "(III)I"⟩
abbrev cX11_image : ByteArray := prog_1_method_45_code
def yX11_image : MethodName := ⟨RX11, "image", "()I"⟩
abbrev cX11_undo : ByteArray := prog_1_method_46_code
def yX11_undo : MethodName := ⟨RX11, "undo", "()I"⟩
abbrev cX11_isColour : ByteArray := prog_1_method_47_code
def yX11_isColour : MethodName := ⟨RX11, "isColour", "(I)Z"⟩
abbrev cX11_isTurning : ByteArray := prog_1_method_48_code
def yX11_isTurning : MethodName := ⟨RX11, "isTurning", "(I)Z"⟩
abbrev cX11_twistOf : ByteArray := prog_1_method_49_code
def yX11_twistOf : MethodName := ⟨RX11, "twistOf", "(I)I"⟩
abbrev cX11_placeBehind : ByteArray := prog_1_method_50_code
def yX11_placeBehind : MethodName := ⟨RX11, "placeBehind", "(II)I"⟩
abbrev cX11_isTooTwisted : ByteArray := prog_1_method_51_code
def yX11_isTooTwisted : MethodName := ⟨RX11, "isTooTwisted", "(I)Z"⟩
def RX12 : String := "CardLoomModel"
def TX12 : u_T := fun k => match k with
  | 0 => ("CardLoomModel", "code", "I", false)
  | 1 => ("CardLoomModel", "many", "[I", true)
  | 2 => ("CardLoomModel", "rows", "[I", true)
  | 3 => ("CardLoomModel", "hole", "[I", true)
  | 4 => ("CardLoomModel", "slant", "[I", true)
  | 5 => ("CardLoomModel", "place", "[I", true)
  | 6 => ("CardLoomModel", "twist", "[I", true)
  | 7 => ("CardLoomModel", "fronts", "[I", true)
  | 8 => ("CardLoomModel", "backs", "[I", true)
  | 9 => ("CardLoomModel", "leans", "[I", true)
  | 10 => ("CardLoomModel", "turns", "[I", true)
  | 11 => ("CardLoomModel", "hasImage", "Z", false)
  | 12 => ("CardLoomModel", "letter", "[I", true)
  | 13 => ("CardLoomModel", "number", "[I", true)
  | 14 => ("CardLoomModel", "left", "[I", true)
  | 15 => ("CardLoomModel", "right", "[I", true)
  | 16 => ("CardLoomModel", "tape", "[I", true)
  | 17 => ("CardLoomModel", "taped", "I", false)
  | 18 => ("CardLoomModel", "at", "I", false)
  | 19 => ("CardLoomModel", "fault", "I", false)
  | 20 => ("CardLoomModel", "open", "I", false)
  | 21 => ("CardLoomModel", "nodes", "I", false)
  | 22 => ("CardLoomModel", "named", "I", false)
  | 23 => ("CardLoomModel", "newLetter", "[I", true)
  | 24 => ("CardLoomModel", "newNumber", "[I", true)
  | 25 => ("CardLoomModel", "newLeft", "[I", true)
  | 26 => ("CardLoomModel", "newRight", "[I", true)
  | 27 => ("CardLoomModel", "newHole", "[I", true)
  | 28 => ("CardLoomModel", "newSlant", "[I", true)
  | 29 => ("CardLoomModel", "next", "[I", true)
  | 30 => ("CardLoomModel", "minded", "[I", true)
  | 31 => ("CardLoomModel", "mindedTwist", "[I", true)
  | 32 => ("CardLoomModel", "lines", "I", false)
  | 33 => ("CardLoomModel", "picture", "[I", true)
  | 34 => ("CardLoomModel", "least", "[I", true)
  | 35 => ("CardLoomModel", "drafted", "[I", true)
  | 36 => ("CardLoomModel", "paper", "[I", true)
  | 37 => ("CardLoomModel", "papered", "I", false)
  | 38 => ("CardLoomModel", "holds", "[Z", true)
  | 39 => ("CardLoomModel", "size", "[I", true)
  | _ => ("CardLoomModel", "element", "[I", true)
def tyX12 : Nat → FieldType := fun k => match k with
  | 0 => .int
  | 1 => .array .int
  | 2 => .array .int
  | 3 => .array .int
  | 4 => .array .int
  | 5 => .array .int
  | 6 => .array .int
  | 7 => .array .int
  | 8 => .array .int
  | 9 => .array .int
  | 10 => .array .int
  | 11 => .boolean
  | 12 => .array .int
  | 13 => .array .int
  | 14 => .array .int
  | 15 => .array .int
  | 16 => .array .int
  | 17 => .int
  | 18 => .int
  | 19 => .int
  | 20 => .int
  | 21 => .int
  | 22 => .int
  | 23 => .array .int
  | 24 => .array .int
  | 25 => .array .int
  | 26 => .array .int
  | 27 => .array .int
  | 28 => .array .int
  | 29 => .array .int
  | 30 => .array .int
  | 31 => .array .int
  | 32 => .int
  | 33 => .array .int
  | 34 => .array .int
  | 35 => .array .int
  | 36 => .array .int
  | 37 => .int
  | 38 => .array .boolean
  | 39 => .array .int
  | _ => .array .int
abbrev wsX120 : List Cond := u_ws RX12 TX12 41
theorem nmX12 : ∀ a, a < 41 → ∀ b, b < 41 → a ≠ b → (TX12 a).2.1 ≠ (TX12 b).2.1 := by decide +kernel
theorem tyX12_ok : ∀ k, k < 41 → parseFieldDescriptor (TX12 k).2.2.1 = some (tyX12 k) := by decide +kernel
abbrev cX12_in : ByteArray := prog_14_method_2_code
def yX12_in : MethodName := ⟨RX12, "in", "(III)Z"⟩
abbrev cX12_init : ByteArray := prog_14_method_3_code
def yX12_init : MethodName := ⟨RX12, "<init>", "()V"⟩
abbrev cX12_isCard : ByteArray := prog_14_method_4_code
def yX12_isCard : MethodName := ⟨RX12, "isCard", "(I)Z"⟩
abbrev cX12_isRow : ByteArray := prog_14_method_5_code
def yX12_isRow : MethodName := ⟨RX12, "isRow", "(I)Z"⟩
abbrev cX12_isColour : ByteArray := prog_14_method_6_code
def yX12_isColour : MethodName := ⟨RX12, "isColour", "(I)Z"⟩
abbrev cX12_feed : ByteArray := prog_14_method_7_code
def yX12_feed : MethodName := ⟨RX12, "feed", "(I)I"⟩
abbrev cX12_clear : ByteArray := prog_14_method_8_code
def yX12_clear : MethodName := ⟨RX12, "clear", "()I"⟩
abbrev cX12_here : ByteArray := prog_14_method_9_code
def yX12_here : MethodName := ⟨RX12, "here", "()I"⟩
abbrev cX12_wrong : ByteArray := prog_14_method_10_code
def yX12_wrong : MethodName := ⟨RX12, "wrong", "(I)V"⟩
abbrev cX12_expect : ByteArray := prog_14_method_11_code
def yX12_expect : MethodName := ⟨RX12, "expect", "(I)V"⟩
abbrev cX12_readNumber : ByteArray := prog_14_method_12_code
def yX12_readNumber : MethodName := ⟨RX12, "readNumber", "(I)I"⟩
abbrev cX12_readLaw : ByteArray := prog_14_method_13_code
def yX12_readLaw : MethodName := ⟨RX12, "readLaw", "()I"⟩
abbrev cX12_law : ByteArray := prog_14_method_14_code
def yX12_law : MethodName := ⟨RX12, "law", "()I"⟩
abbrev cX12_lawOf : ByteArray := prog_14_method_15_code
def yX12_lawOf : MethodName := ⟨RX12, "lawOf", "(III)I"⟩
abbrev cX12_readCard : ByteArray := prog_14_method_16_code
def yX12_readCard : MethodName := ⟨RX12, "readCard", "(I)V"⟩
abbrev cX12_thread : ByteArray := prog_14_method_17_code
def yX12_thread : MethodName := ⟨RX12, "thread", "()I"⟩
abbrev cX12_floatOf : ByteArray := prog_14_method_18_code
def yX12_floatOf : MethodName := ⟨RX12, "floatOf", "(I)I"⟩
abbrev cX12_card : ByteArray := prog_14_method_19_code
def yX12_card : MethodName := ⟨RX12, "card", "(II)I"⟩
abbrev cX12_slant : ByteArray := prog_14_method_20_code
def yX12_slant : MethodName := ⟨RX12, "slant", "(I)I"⟩
abbrev cX12_place : ByteArray := prog_14_method_21_code
def yX12_place : MethodName := ⟨RX12, "place", "(II)I"⟩
abbrev cX12_recolour : ByteArray := prog_14_method_22_code
def yX12_recolour : MethodName := ⟨RX12, "recolour", "(III)I"⟩
abbrev cX12_moved : ByteArray := prog_14_method_23_code
def yX12_moved : MethodName := ⟨RX12, "moved", "(I)I"⟩
abbrev cX12_grown : ByteArray := prog_14_method_24_code
def yX12_grown : MethodName := ⟨RX12, "grown", "(I)I"⟩
abbrev cX12_jams : ByteArray := prog_14_method_25_code
def yX12_jams : MethodName := ⟨RX12, "jams", "()Z"⟩
abbrev cX12_weavePick : ByteArray := prog_14_method_26_code
def yX12_weavePick : MethodName := ⟨RX12, "weavePick", "()V"⟩
abbrev cX12_pick : ByteArray := prog_14_method_27_code
def yX12_pick : MethodName := ⟨RX12, "pick", "()I"⟩
abbrev cX12_picked : ByteArray := prog_14_method_28_code
def yX12_picked : MethodName := ⟨RX12, "picked", "(II)I"⟩
abbrev cX12_turn : ByteArray := prog_14_method_29_code
def yX12_turn : MethodName := ⟨RX12, "turn", "(II)I"⟩
abbrev cX12_pack : ByteArray := prog_14_method_30_code
def yX12_pack : MethodName := ⟨RX12, "pack", "(II)I"⟩
abbrev cX12_layLaw : ByteArray := prog_14_method_31_code
def yX12_layLaw : MethodName := ⟨RX12, "layLaw", "(I)V"⟩
abbrev cX12_weave : ByteArray := prog_14_method_32_code
def yX12_weave : MethodName := ⟨RX12, "weave", "(I)I"⟩
abbrev cX12_unweave : ByteArray := prog_14_method_33_code
def yX12_unweave : MethodName := ⟨RX12, "unweave", "(I)I"⟩
abbrev cX12_asked : ByteArray := prog_14_method_34_code
def yX12_asked : MethodName := ⟨RX12, "asked", "([III)I"⟩
abbrev cX12_front : ByteArray := prog_14_method_35_code
def yX12_front : MethodName := ⟨RX12, "front", "(II)I"⟩
abbrev cX12_back : ByteArray := prog_14_method_36_code
def yX12_back : MethodName := ⟨RX12, "back", "(II)I"⟩
abbrev cX12_lean : ByteArray := prog_14_method_37_code
def yX12_lean : MethodName := ⟨RX12, "lean", "(II)I"⟩
abbrev cX12_turning : ByteArray := prog_14_method_38_code
def yX12_turning : MethodName := ⟨RX12, "turning", "(II)I"⟩
abbrev cX12_begins : ByteArray := prog_14_method_39_code
def yX12_begins : MethodName := ⟨RX12, "begins", "()V"⟩
abbrev cX12_mind : ByteArray := prog_14_method_40_code
def yX12_mind : MethodName := ⟨RX12, "mind", "(I)Z"⟩
abbrev cX12_areAsNow : ByteArray := prog_14_method_41_code
def yX12_areAsNow : MethodName := ⟨RX12, "areAsNow", "()Z"⟩
abbrev cX12_areFlat : ByteArray := prog_14_method_42_code
def yX12_areFlat : MethodName := ⟨RX12, "areFlat", "()Z"⟩
abbrev cX12_returns : ByteArray := prog_14_method_43_code
def yX12_returns : MethodName := ⟨RX12, "returns", "()I"⟩
abbrev cX12_flat : ByteArray := prog_14_method_44_code
def yX12_flat : MethodName := ⟨RX12, "flat", "()I"⟩
abbrev cX12_jam : ByteArray := prog_14_method_45_code
def yX12_jam : MethodName := ⟨RX12, "jam", "()I"⟩
abbrev cX12_greatest : ByteArray := prog_14_method_46_code
def yX12_greatest : MethodName := ⟨RX12, "greatest", "(I)I"⟩
abbrev cX12_undoing : ByteArray := prog_14_method_47_code
def yX12_undoing : MethodName := ⟨RX12, "undoing", "(II)I"⟩
abbrev cX12_paint : ByteArray := prog_14_method_48_code
def yX12_paint : MethodName := ⟨RX12, "paint", "(III)I"⟩
abbrev cX12_lines : ByteArray := prog_14_method_49_code
def yX12_lines : MethodName := ⟨RX12, "lines", "(I)I"⟩
abbrev cX12_fewestFrom : ByteArray := prog_14_method_50_code
def yX12_fewestFrom : MethodName := ⟨RX12, "fewestFrom", "(III)I"⟩
abbrev cX12_draftOf : ByteArray := prog_14_method_51_code
def yX12_draftOf : MethodName := ⟨RX12, "draftOf", "(II)I"⟩
abbrev cX12_mayBe : ByteArray := prog_14_method_52_code
def yX12_mayBe : MethodName := ⟨RX12, "mayBe", "(IIIII)Z"⟩
abbrev cX12_draft : ByteArray := prog_14_method_53_code
def yX12_draft : MethodName := ⟨RX12, "draft", "(II)I"⟩
abbrev cX12_fewest : ByteArray := prog_14_method_54_code
def yX12_fewest : MethodName := ⟨RX12, "fewest", "(I)I"⟩
abbrev cX12_weaveDraft : ByteArray := prog_14_method_55_code
def yX12_weaveDraft : MethodName := ⟨RX12, "weaveDraft", "()I"⟩
abbrev cX12_matches : ByteArray := prog_14_method_56_code
def yX12_matches : MethodName := ⟨RX12, "matches", "(I)I"⟩
abbrev cX12_alikeIn : ByteArray := prog_14_method_57_code
def yX12_alikeIn : MethodName := ⟨RX12, "alikeIn", "(II)I"⟩
abbrev cX12_period : ByteArray := prog_14_method_58_code
def yX12_period : MethodName := ⟨RX12, "period", "()I"⟩
abbrev cX12_mirrors : ByteArray := prog_14_method_59_code
def yX12_mirrors : MethodName := ⟨RX12, "mirrors", "()I"⟩
abbrev cX12_run : ByteArray := prog_14_method_60_code
def yX12_run : MethodName := ⟨RX12, "run", "(I)I"⟩
abbrev cX12_countOf : ByteArray := prog_14_method_61_code
def yX12_countOf : MethodName := ⟨RX12, "countOf", "(I[I)I"⟩
abbrev cX12_colours : ByteArray := prog_14_method_62_code
def yX12_colours : MethodName := ⟨RX12, "colours", "(II)I"⟩
abbrev cX12_isAhead : ByteArray := prog_14_method_63_code
def yX12_isAhead : MethodName := ⟨RX12, "isAhead", "(II)Z"⟩
abbrev cX12_ranked : ByteArray := prog_14_method_64_code
def yX12_ranked : MethodName := ⟨RX12, "ranked", "(I)I"⟩
abbrev cX12_alike : ByteArray := prog_14_method_65_code
def yX12_alike : MethodName := ⟨RX12, "alike", "(II)I"⟩
abbrev cX12_faces : ByteArray := prog_14_method_66_code
def yX12_faces : MethodName := ⟨RX12, "faces", "(I)I"⟩
abbrev cX12_spell : ByteArray := prog_14_method_67_code
def yX12_spell : MethodName := ⟨RX12, "spell", "()I"⟩
abbrev cX12_paper : ByteArray := prog_14_method_68_code
def yX12_paper : MethodName := ⟨RX12, "paper", "(I)I"⟩
abbrev cX12_told : ByteArray := prog_14_method_69_code
def yX12_told : MethodName := ⟨RX12, "told", "(I)I"⟩
abbrev cX12_isList : ByteArray := prog_14_method_70_code
def yX12_isList : MethodName := ⟨RX12, "isList", "(I)Z"⟩
abbrev cX12_list : ByteArray := prog_14_method_71_code
def yX12_list : MethodName := ⟨RX12, "list", "(II)I"⟩
abbrev cX12_set : ByteArray := prog_14_method_72_code
def yX12_set : MethodName := ⟨RX12, "set", "(III)I"⟩
abbrev cX12_get : ByteArray := prog_14_method_73_code
def yX12_get : MethodName := ⟨RX12, "get", "(II)I"⟩
abbrev cX12_lay : ByteArray := prog_14_method_74_code
def yX12_lay : MethodName := ⟨RX12, "lay", "(III)I"⟩
abbrev cX12_judge : ByteArray := prog_14_method_75_code
def yX12_judge : MethodName := ⟨RX12, "judge", "(III)I"⟩
abbrev cX12_copy : ByteArray := prog_14_method_76_code
def yX12_copy : MethodName := ⟨RX12, "copy", "([IZ)V"⟩
abbrev cX12_copyAll : ByteArray := prog_14_method_77_code
def yX12_copyAll : MethodName := ⟨RX12, "copyAll", "(Z)V"⟩
abbrev cX12_image : ByteArray := prog_14_method_78_code
def yX12_image : MethodName := ⟨RX12, "image", "()I"⟩
abbrev cX12_undo : ByteArray := prog_14_method_79_code
def yX12_undo : MethodName := ⟨RX12, "undo", "()I"⟩
def RJ9 : String := "java/lang/Math"
def TJ9 : u_T := fun k => match k with
  | _ => ("", "", "", false)
def tyJ9 : Nat → FieldType := fun k => match k with
  | _ => .int
abbrev wsJ90 : List Cond := u_ws RJ9 TJ9 0
theorem nmJ9 : ∀ a, a < 0 → ∀ b, b < 0 → a ≠ b → (TJ9 a).2.1 ≠ (TJ9 b).2.1 := by decide +kernel
theorem tyJ9_ok : ∀ k, k < 0 → parseFieldDescriptor (TJ9 k).2.2.1 = some (tyJ9 k) := by decide +kernel
abbrev cJ9_floorMod_7cf53 : ByteArray := prog_15_method_50_code
def yJ9_floorMod_7cf53 : MethodName := ⟨RJ9, "floorMod", "(II)I"⟩
abbrev cJ9_abs_0f7a4 : ByteArray := prog_15_method_59_code
def yJ9_abs_0f7a4 : MethodName := ⟨RJ9, "abs", "(I)I"⟩
abbrev cJ9_max_7cf53 : ByteArray := prog_15_method_65_code
def yJ9_max_7cf53 : MethodName := ⟨RJ9, "max", "(II)I"⟩
abbrev cJ9_min_7cf53 : ByteArray := prog_15_method_69_code
def yJ9_min_7cf53 : MethodName := ⟨RJ9, "min", "(II)I"⟩
def RJ10 : String := "java/lang/System"
def TJ10 : u_T := fun k => match k with
  | _ => ("", "", "", false)
def tyJ10 : Nat → FieldType := fun k => match k with
  | _ => .int
abbrev wsJ100 : List Cond := u_ws RJ10 TJ10 0
theorem nmJ10 : ∀ a, a < 0 → ∀ b, b < 0 → a ≠ b → (TJ10 a).2.1 ≠ (TJ10 b).2.1 := by decide +kernel
theorem tyJ10_ok : ∀ k, k < 0 → parseFieldDescriptor (TJ10 k).2.2.1 = some (tyJ10 k) := by decide +kernel
def RL : String := "CardLoomLaw"
abbrev cL_law : ByteArray := code
def yL_law : MethodName := ⟨RL, "law", "([I)Z"⟩
abbrev vwCl : List vw_C := [(RX0, TX0, 4), (RX1, TX1, 5), (RX2, TX2, 3), (RX3, TX3, 6), (RX4, TX4, 4), (RX5, TX5, 2), (RX6, TX6, 5), (RX7, TX7, 3), (RX8, TX8, 2), (RX9, TX9, 2), (RX11, TX11, 10), (RX12, TX12, 41)]
end
section
/-! the methods as a table: name, code, locals, answer, kind (0 static, 1 called on an object, 2 constructor), class (place in vwCl), how many arguments, places of its words in lw_tbl, instructions (pc, length, instruction, numbers that it means) -/
abbrev tw_Ent : Type := Nat × Nat × Jvm.ClassFile.Instr × Nat × Nat × Int32 × List Nat
abbrev tw_Meth : Type := MethodName × ByteArray × Nat × Option Jvm.ClassFile.FieldType × Nat × Nat × Nat × List Nat × List tw_Ent
def tw_M0 : tw_Meth := (yX0_init, cX0_init, 1, none, 2, 0, 0, [152, 60, 151], [
  (0, 1, .aload_n 0, 0, 0, 0, []),
  (1, 3, .invokespecial 3, 999, 0, 0, [153, 76, 77]),
  (4, 1, .aload_n 0, 0, 0, 0, []),
  (5, 1, .iconst 4, 0, 0, 4, []),
  (6, 2, .newarray .int, 20, 0, 0, [122]),
  (8, 3, .putfield 9, 0, 0, 0, [154]),
  (11, 1, .return_, 0, 0, 0, [])])
def tw_M1 : tw_Meth := (yX0_colourIn, cX0_colourIn, 2, (some .int), 1, 0, 1, [356, 60, 354, 355], [
  (0, 1, .iload_n 1, 1, 0, 0, []),
  (1, 3, .ifCond .lt 21, 12, 0, 0, []),
  (4, 1, .iload_n 1, 1, 0, 0, []),
  (5, 1, .aload_n 0, 0, 0, 0, []),
  (6, 3, .getfield 9, 0, 0, 0, [154]),
  (9, 1, .arraylength, 0, 0, 0, []),
  (10, 3, .if_icmp .ge 12, 12, 0, 0, []),
  (13, 1, .aload_n 0, 0, 0, 0, []),
  (14, 3, .getfield 9, 0, 0, 0, [154]),
  (17, 1, .iload_n 1, 1, 0, 0, []),
  (18, 1, .iaload, 0, 0, 0, []),
  (19, 3, .goto 4, 13, 0, 0, []),
  (22, 1, .iconst (-1), 0, 0, (-1), []),
  (23, 1, .ireturn, 0, 0, 0, [])])
def tw_M2 : tw_Meth := (yX0_dye, cX0_dye, 4, (some .int), 1, 0, 2, [352, 60, 350, 351], [
  (0, 1, .aload_n 0, 0, 0, 0, []),
  (1, 1, .iload_n 1, 1, 0, 0, []),
  (2, 3, .invokevirtual 15, 1, 1, 0, [353, 0]),
  (5, 1, .istore_n 3, 3, 0, 0, []),
  (6, 1, .iload_n 1, 1, 0, 0, []),
  (7, 3, .ifCond .lt 19, 16, 0, 0, []),
  (10, 1, .iload_n 1, 1, 0, 0, []),
  (11, 1, .aload_n 0, 0, 0, 0, []),
  (12, 3, .getfield 9, 0, 0, 0, [154]),
  (15, 1, .arraylength, 0, 0, 0, []),
  (16, 3, .if_icmp .ge 10, 16, 0, 0, []),
  (19, 1, .aload_n 0, 0, 0, 0, []),
  (20, 3, .getfield 9, 0, 0, 0, [154]),
  (23, 1, .iload_n 1, 1, 0, 0, []),
  (24, 1, .iload_n 2, 2, 0, 0, []),
  (25, 1, .iastore, 0, 0, 0, []),
  (26, 1, .iload_n 3, 3, 0, 0, []),
  (27, 1, .ireturn, 0, 0, 0, [])])
def tw_M3 : tw_Meth := (yX0_leansToZ, cX0_leansToZ, 1, (some .int), 1, 0, 0, [459, 60, 457, 458], [
  (0, 1, .aload_n 0, 0, 0, 0, []),
  (1, 3, .getfield 19, 0, 1, 0, [155]),
  (4, 1, .ireturn, 0, 0, 0, [])])
def tw_M4 : tw_Meth := (yX0_flip, cX0_flip, 1, (some .int), 1, 0, 0, [521, 60, 519, 520], [
  (0, 1, .aload_n 0, 0, 0, 0, []),
  (1, 1, .iconst 1, 0, 0, 1, []),
  (2, 1, .aload_n 0, 0, 0, 0, []),
  (3, 3, .getfield 19, 0, 1, 0, [155]),
  (6, 1, .isub, 0, 0, 0, []),
  (7, 3, .putfield 19, 0, 1, 0, [155]),
  (10, 1, .aload_n 0, 0, 0, 0, []),
  (11, 3, .getfield 19, 0, 1, 0, [155]),
  (14, 1, .ireturn, 0, 0, 0, [])])
def tw_M5 : tw_Meth := (yX0_onTop, cX0_onTop, 1, (some .int), 1, 0, 0, [463, 60, 461, 462], [
  (0, 1, .aload_n 0, 0, 0, 0, []),
  (1, 3, .getfield 23, 0, 2, 0, [156]),
  (4, 1, .ireturn, 0, 0, 0, [])])
def tw_M6 : tw_Meth := (yX0_putOnTop, cX0_putOnTop, 3, (some .int), 1, 0, 1, [529, 60, 527, 528], [
  (0, 1, .aload_n 0, 0, 0, 0, []),
  (1, 3, .getfield 23, 0, 2, 0, [156]),
  (4, 1, .istore_n 2, 2, 0, 0, []),
  (5, 1, .aload_n 0, 0, 0, 0, []),
  (6, 1, .iload_n 1, 1, 0, 0, []),
  (7, 3, .putfield 23, 0, 2, 0, [156]),
  (10, 1, .iload_n 2, 2, 0, 0, []),
  (11, 1, .ireturn, 0, 0, 0, [])])
def tw_M7 : tw_Meth := (yX0_twists, cX0_twists, 1, (some .int), 1, 0, 0, [467, 60, 465, 466], [
  (0, 1, .aload_n 0, 0, 0, 0, []),
  (1, 3, .getfield 26, 0, 3, 0, [157]),
  (4, 1, .ireturn, 0, 0, 0, [])])
def tw_M8 : tw_Meth := (yX0_beginAnew, cX0_beginAnew, 2, none, 1, 0, 1, [360, 60, 358, 359], [
  (0, 1, .aload_n 0, 0, 0, 0, []),
  (1, 1, .iload_n 1, 1, 0, 0, []),
  (2, 3, .putfield 19, 0, 1, 0, [155]),
  (5, 1, .aload_n 0, 0, 0, 0, []),
  (6, 1, .iconst 0, 0, 0, 0, []),
  (7, 3, .putfield 23, 0, 2, 0, [156]),
  (10, 1, .aload_n 0, 0, 0, 0, []),
  (11, 1, .iconst 0, 0, 0, 0, []),
  (12, 3, .putfield 26, 0, 3, 0, [157]),
  (15, 1, .return_, 0, 0, 0, [])])
def tw_M9 : tw_Meth := (yX0_jamsBy, cX0_jamsBy, 2, (some .boolean), 1, 0, 1, [569, 60, 567, 568], [
  (0, 1, .aload_n 0, 0, 0, 0, []),
  (1, 3, .getfield 26, 0, 3, 0, [157]),
  (4, 1, .iload_n 1, 1, 0, 0, []),
  (5, 3, .invokestatic 29, 179, 1, 0, [570, 1]),
  (8, 1, .iadd, 0, 0, 0, []),
  (9, 3, .invokestatic 32, 181, 1, 0, [573, 1]),
  (12, 1, .ireturn, 1, 0, 0, [])])
def tw_M10 : tw_Meth := (yX0_twistBy, cX0_twistBy, 2, none, 1, 0, 1, [584, 60, 582, 583], [
  (0, 1, .aload_n 0, 0, 0, 0, []),
  (1, 1, .dup, 0, 0, 0, []),
  (2, 3, .getfield 26, 0, 3, 0, [157]),
  (5, 1, .iload_n 1, 1, 0, 0, []),
  (6, 1, .iadd, 0, 0, 0, []),
  (7, 3, .putfield 26, 0, 3, 0, [157]),
  (10, 1, .aload_n 0, 0, 0, 0, []),
  (11, 1, .aload_n 0, 0, 0, 0, []),
  (12, 3, .getfield 23, 0, 2, 0, [156]),
  (15, 1, .iload_n 1, 1, 0, 0, []),
  (16, 3, .invokestatic 36, 180, 2, 0, [585, 1]),
  (19, 3, .putfield 23, 0, 2, 0, [156]),
  (22, 1, .return_, 0, 0, 0, [])])
def tw_M11 : tw_Meth := (yX0_frontColour, cX0_frontColour, 1, (some .int), 1, 0, 0, [594, 60, 592, 593], [
  (0, 1, .aload_n 0, 0, 0, 0, []),
  (1, 1, .aload_n 0, 0, 0, 0, []),
  (2, 3, .getfield 23, 0, 2, 0, [156]),
  (5, 3, .invokevirtual 15, 1, 1, 0, [353, 0]),
  (8, 1, .ireturn, 0, 0, 0, [])])
def tw_M12 : tw_Meth := (yX0_backColour, cX0_backColour, 1, (some .int), 1, 0, 0, [602, 60, 600, 601], [
  (0, 1, .aload_n 0, 0, 0, 0, []),
  (1, 1, .aload_n 0, 0, 0, 0, []),
  (2, 3, .getfield 23, 0, 2, 0, [156]),
  (5, 1, .iconst 2, 0, 0, 2, []),
  (6, 3, .invokestatic 36, 180, 2, 0, [585, 1]),
  (9, 3, .invokevirtual 15, 1, 1, 0, [353, 0]),
  (12, 1, .ireturn, 0, 0, 0, [])])
def tw_M13 : tw_Meth := (yX0_leanBy, cX0_leanBy, 2, (some .int), 1, 0, 1, [606, 60, 604, 605], [
  (0, 1, .iload_n 1, 1, 0, 0, []),
  (1, 3, .ifCond .ne 5, 4, 0, 0, []),
  (4, 1, .iconst 0, 0, 0, 0, []),
  (5, 1, .ireturn, 0, 0, 0, []),
  (6, 1, .iload_n 1, 1, 0, 0, []),
  (7, 1, .iconst 3, 0, 0, 3, []),
  (8, 3, .if_icmp .ne 5, 9, 0, 0, []),
  (11, 1, .iconst 3, 0, 0, 3, []),
  (12, 1, .ireturn, 0, 0, 0, []),
  (13, 1, .iload_n 1, 1, 0, 0, []),
  (14, 1, .iconst 1, 0, 0, 1, []),
  (15, 3, .if_icmp .ne 7, 14, 0, 0, []),
  (18, 1, .iconst 1, 0, 0, 1, []),
  (19, 3, .goto 4, 15, 0, 0, []),
  (22, 1, .iconst 0, 0, 0, 0, []),
  (23, 1, .aload_n 0, 0, 0, 0, []),
  (24, 3, .getfield 19, 0, 1, 0, [155]),
  (27, 3, .ifCond .ne 7, 20, 0, 0, []),
  (30, 1, .iconst 1, 0, 0, 1, []),
  (31, 3, .goto 4, 21, 0, 0, []),
  (34, 1, .iconst 0, 0, 0, 0, []),
  (35, 3, .if_icmp .ne 7, 24, 0, 0, []),
  (38, 1, .iconst 1, 0, 0, 1, []),
  (39, 3, .goto 4, 25, 0, 0, []),
  (42, 1, .iconst 2, 0, 0, 2, []),
  (43, 1, .ireturn, 0, 0, 0, [])])
def tw_M14 : tw_Meth := (yX0_copyFrom, cX0_copyFrom, 2, none, 1, 0, 1, [1018, 60, 1016, 1017], [
  (0, 1, .aload_n 1, 1, 0, 0, []),
  (1, 3, .getfield 9, 0, 0, 0, [154]),
  (4, 1, .iconst 0, 0, 0, 0, []),
  (5, 1, .aload_n 0, 0, 0, 0, []),
  (6, 3, .getfield 9, 0, 0, 0, [154]),
  (9, 1, .iconst 0, 0, 0, 0, []),
  (10, 1, .iconst 4, 0, 0, 4, []),
  (11, 3, .invokestatic 40, 998, 0, 0, [1019, 445, 444, 69]),
  (14, 1, .aload_n 0, 0, 0, 0, []),
  (15, 1, .aload_n 1, 1, 0, 0, []),
  (16, 3, .getfield 19, 0, 1, 0, [155]),
  (19, 3, .putfield 19, 0, 1, 0, [155]),
  (22, 1, .aload_n 0, 0, 0, 0, []),
  (23, 1, .aload_n 1, 1, 0, 0, []),
  (24, 3, .getfield 23, 0, 2, 0, [156]),
  (27, 3, .putfield 23, 0, 2, 0, [156]),
  (30, 1, .aload_n 0, 0, 0, 0, []),
  (31, 1, .aload_n 1, 1, 0, 0, []),
  (32, 3, .getfield 26, 0, 3, 0, [157]),
  (35, 3, .putfield 26, 0, 3, 0, [157]),
  (38, 1, .return_, 0, 0, 0, [])])
def tw_M15 : tw_Meth := (yX1_init, cX1_init, 1, none, 2, 1, 0, [104, 58, 103], [
  (0, 1, .aload_n 0, 0, 0, 0, []),
  (1, 3, .invokespecial 3, 999, 0, 0, [105, 76, 77]),
  (4, 1, .aload_n 0, 0, 0, 0, []),
  (5, 3, .sipush 2000, 0, 0, 2000, []),
  (8, 2, .newarray .int, 20, 0, 0, [122]),
  (10, 3, .putfield 9, 1, 0, 0, [106]),
  (13, 1, .aload_n 0, 0, 0, 0, []),
  (14, 2, .bipush 10, 0, 0, 10, []),
  (16, 2, .newarray .int, 20, 0, 0, [122]),
  (18, 3, .putfield 15, 1, 1, 0, [107]),
  (21, 1, .aload_n 0, 0, 0, 0, []),
  (22, 2, .bipush 10, 0, 0, 10, []),
  (24, 2, .newarray .int, 20, 0, 0, [122]),
  (26, 3, .putfield 18, 1, 2, 0, [108]),
  (29, 1, .return_, 0, 0, 0, [])])
def tw_M16 : tw_Meth := (yX1_beginAnew, cX1_beginAnew, 2, none, 1, 1, 1, [364, 58, 362, 363], [
  (0, 1, .aload_n 0, 0, 0, 0, []),
  (1, 1, .iconst 0, 0, 0, 0, []),
  (2, 3, .putfield 21, 1, 3, 0, [109]),
  (5, 1, .aload_n 0, 0, 0, 0, []),
  (6, 1, .iload_n 1, 1, 0, 0, []),
  (7, 3, .putfield 25, 1, 4, 0, [110]),
  (10, 1, .return_, 0, 0, 0, [])])
def tw_M17 : tw_Meth := (yX1_rows, cX1_rows, 1, (some .int), 1, 1, 0, [496, 58, 494, 495], [
  (0, 1, .aload_n 0, 0, 0, 0, []),
  (1, 3, .getfield 21, 1, 3, 0, [109]),
  (4, 1, .ireturn, 0, 0, 0, [])])
def tw_M18 : tw_Meth := (yX1_width, cX1_width, 1, (some .int), 1, 1, 0, [838, 58, 836, 837], [
  (0, 1, .aload_n 0, 0, 0, 0, []),
  (1, 3, .getfield 25, 1, 4, 0, [110]),
  (4, 1, .ireturn, 0, 0, 0, [])])
def tw_M19 : tw_Meth := (yX1_room, cX1_room, 1, (some .int), 1, 1, 0, [552, 58, 550, 551], [
  (0, 2, .bipush 50, 0, 0, 50, []),
  (2, 1, .aload_n 0, 0, 0, 0, []),
  (3, 3, .getfield 21, 1, 3, 0, [109]),
  (6, 1, .isub, 0, 0, 0, []),
  (7, 1, .ireturn, 0, 0, 0, [])])
def tw_M20 : tw_Meth := (yX1_hasRow, cX1_hasRow, 2, (some .boolean), 1, 1, 1, [483, 58, 481, 482], [
  (0, 1, .iload_n 1, 1, 0, 0, []),
  (1, 3, .ifCond .lt 15, 8, 0, 0, []),
  (4, 1, .iload_n 1, 1, 0, 0, []),
  (5, 1, .aload_n 0, 0, 0, 0, []),
  (6, 3, .getfield 21, 1, 3, 0, [109]),
  (9, 3, .if_icmp .ge 7, 8, 0, 0, []),
  (12, 1, .iconst 1, 0, 0, 1, []),
  (13, 3, .goto 4, 9, 0, 0, []),
  (16, 1, .iconst 0, 0, 0, 0, []),
  (17, 1, .ireturn, 1, 0, 0, [])])
def tw_M21 : tw_Meth := (yX1_cell, cX1_cell, 5, (some .int), 1, 1, 3, [479, 58, 477, 478], [
  (0, 1, .aload_n 0, 0, 0, 0, []),
  (1, 1, .iload_n 1, 1, 0, 0, []),
  (2, 3, .invokevirtual 28, 20, 1, 0, [480, 0]),
  (5, 3, .ifCond .eq 15, 10, 0, 0, []),
  (8, 1, .iload_n 2, 2, 0, 0, []),
  (9, 3, .ifCond .lt 11, 10, 0, 0, []),
  (12, 1, .iload_n 2, 2, 0, 0, []),
  (13, 1, .aload_n 0, 0, 0, 0, []),
  (14, 3, .getfield 25, 1, 4, 0, [110]),
  (17, 3, .if_icmp .lt 5, 12, 0, 0, []),
  (20, 1, .iconst (-1), 0, 0, (-1), []),
  (21, 1, .ireturn, 0, 0, 0, []),
  (22, 1, .iload_n 1, 1, 0, 0, []),
  (23, 2, .bipush 10, 0, 0, 10, []),
  (25, 1, .imul, 0, 0, 0, []),
  (26, 1, .iload_n 2, 2, 0, 0, []),
  (27, 1, .iadd, 0, 0, 0, []),
  (28, 1, .iconst 4, 0, 0, 4, []),
  (29, 1, .imul, 0, 0, 0, []),
  (30, 1, .iload_n 3, 3, 0, 0, []),
  (31, 1, .iadd, 0, 0, 0, []),
  (32, 2, .istore 4, 4, 0, 0, []),
  (34, 2, .iload 4, 4, 0, 0, []),
  (36, 3, .ifCond .lt 23, 34, 0, 0, []),
  (39, 2, .iload 4, 4, 0, 0, []),
  (41, 1, .aload_n 0, 0, 0, 0, []),
  (42, 3, .getfield 9, 1, 0, 0, [106]),
  (45, 1, .arraylength, 0, 0, 0, []),
  (46, 3, .if_icmp .ge 13, 34, 0, 0, []),
  (49, 1, .aload_n 0, 0, 0, 0, []),
  (50, 3, .getfield 9, 1, 0, 0, [106]),
  (53, 2, .iload 4, 4, 0, 0, []),
  (55, 1, .iaload, 0, 0, 0, []),
  (56, 3, .goto 4, 35, 0, 0, []),
  (59, 1, .iconst (-1), 0, 0, (-1), []),
  (60, 1, .ireturn, 0, 0, 0, [])])
def tw_M22 : tw_Meth := (yX1_put, cX1_put, 5, none, 1, 1, 3, [598, 58, 596, 597], [
  (0, 1, .aload_n 0, 0, 0, 0, []),
  (1, 3, .getfield 21, 1, 3, 0, [109]),
  (4, 2, .bipush 10, 0, 0, 10, []),
  (6, 1, .imul, 0, 0, 0, []),
  (7, 1, .iload_n 1, 1, 0, 0, []),
  (8, 1, .iadd, 0, 0, 0, []),
  (9, 1, .iconst 4, 0, 0, 4, []),
  (10, 1, .imul, 0, 0, 0, []),
  (11, 1, .iload_n 2, 2, 0, 0, []),
  (12, 1, .iadd, 0, 0, 0, []),
  (13, 2, .istore 4, 4, 0, 0, []),
  (15, 2, .iload 4, 4, 0, 0, []),
  (17, 3, .ifCond .lt 21, 23, 0, 0, []),
  (20, 2, .iload 4, 4, 0, 0, []),
  (22, 1, .aload_n 0, 0, 0, 0, []),
  (23, 3, .getfield 9, 1, 0, 0, [106]),
  (26, 1, .arraylength, 0, 0, 0, []),
  (27, 3, .if_icmp .ge 11, 23, 0, 0, []),
  (30, 1, .aload_n 0, 0, 0, 0, []),
  (31, 3, .getfield 9, 1, 0, 0, [106]),
  (34, 2, .iload 4, 4, 0, 0, []),
  (36, 1, .iload_n 3, 3, 0, 0, []),
  (37, 1, .iastore, 0, 0, 0, []),
  (38, 1, .return_, 0, 0, 0, [])])
def tw_M23 : tw_Meth := (yX1_addRow, cX1_addRow, 1, none, 1, 1, 0, [610, 58, 608, 609], [
  (0, 1, .aload_n 0, 0, 0, 0, []),
  (1, 3, .getfield 21, 1, 3, 0, [109]),
  (4, 2, .bipush 50, 0, 0, 50, []),
  (6, 3, .if_icmp .ge 13, 10, 0, 0, []),
  (9, 1, .aload_n 0, 0, 0, 0, []),
  (10, 1, .dup, 0, 0, 0, []),
  (11, 3, .getfield 21, 1, 3, 0, [109]),
  (14, 1, .iconst 1, 0, 0, 1, []),
  (15, 1, .iadd, 0, 0, 0, []),
  (16, 3, .putfield 21, 1, 3, 0, [109]),
  (19, 1, .return_, 0, 0, 0, [])])
def tw_M24 : tw_Meth := (yX1_dropRow, cX1_dropRow, 1, none, 1, 1, 0, [641, 58, 639, 640], [
  (0, 1, .aload_n 0, 0, 0, 0, []),
  (1, 3, .getfield 21, 1, 3, 0, [109]),
  (4, 3, .ifCond .le 13, 9, 0, 0, []),
  (7, 1, .aload_n 0, 0, 0, 0, []),
  (8, 1, .dup, 0, 0, 0, []),
  (9, 3, .getfield 21, 1, 3, 0, [109]),
  (12, 1, .iconst 1, 0, 0, 1, []),
  (13, 1, .isub, 0, 0, 0, []),
  (14, 3, .putfield 21, 1, 3, 0, [109]),
  (17, 1, .return_, 0, 0, 0, [])])
def tw_M25 : tw_Meth := (yX1_longest, cX1_longest, 7, (some .int), 1, 1, 3, [475, 58, 473, 474], [
  (0, 1, .iconst 0, 0, 0, 0, []),
  (1, 2, .istore 4, 4, 0, 0, []),
  (3, 1, .iconst 0, 0, 0, 0, []),
  (4, 2, .istore 5, 5, 0, 0, []),
  (6, 1, .iconst 0, 0, 0, 0, []),
  (7, 2, .istore 6, 6, 0, 0, []),
  (9, 2, .iload 6, 6, 0, 0, []),
  (11, 1, .aload_n 0, 0, 0, 0, []),
  (12, 3, .getfield 21, 1, 3, 0, [109]),
  (15, 3, .if_icmp .ge 40, 29, 0, 0, []),
  (18, 1, .aload_n 0, 0, 0, 0, []),
  (19, 2, .iload 6, 6, 0, 0, []),
  (21, 1, .iload_n 1, 1, 0, 0, []),
  (22, 1, .iload_n 2, 2, 0, 0, []),
  (23, 3, .invokevirtual 32, 21, 3, 0, [476, 0]),
  (26, 1, .iload_n 3, 3, 0, 0, []),
  (27, 3, .if_icmp .ne 10, 21, 0, 0, []),
  (30, 2, .iload 5, 5, 0, 0, []),
  (32, 1, .iconst 1, 0, 0, 1, []),
  (33, 1, .iadd, 0, 0, 0, []),
  (34, 3, .goto 4, 22, 0, 0, []),
  (37, 1, .iconst 0, 0, 0, 0, []),
  (38, 2, .istore 5, 5, 0, 0, []),
  (40, 2, .iload 4, 4, 0, 0, []),
  (42, 2, .iload 5, 5, 0, 0, []),
  (44, 3, .invokestatic 36, 262, 2, 0, [484, 0]),
  (47, 2, .istore 4, 4, 0, 0, []),
  (49, 3, .iinc 6 1, 6, 0, 1, []),
  (52, 3, .goto (-43), 6, 0, 0, []),
  (55, 2, .iload 4, 4, 0, 0, []),
  (57, 1, .ireturn, 0, 0, 0, [])])
def tw_M26 : tw_Meth := (yX1_count, cX1_count, 6, (some .int), 1, 1, 2, [880, 58, 878, 879], [
  (0, 1, .iconst 0, 0, 0, 0, []),
  (1, 1, .istore_n 3, 3, 0, 0, []),
  (2, 1, .iconst 0, 0, 0, 0, []),
  (3, 2, .istore 4, 4, 0, 0, []),
  (5, 2, .iload 4, 4, 0, 0, []),
  (7, 1, .aload_n 0, 0, 0, 0, []),
  (8, 3, .getfield 21, 1, 3, 0, [109]),
  (11, 3, .if_icmp .ge 43, 26, 0, 0, []),
  (14, 1, .iconst 0, 0, 0, 0, []),
  (15, 2, .istore 5, 5, 0, 0, []),
  (17, 2, .iload 5, 5, 0, 0, []),
  (19, 1, .aload_n 0, 0, 0, 0, []),
  (20, 3, .getfield 25, 1, 4, 0, [110]),
  (23, 3, .if_icmp .ge 25, 24, 0, 0, []),
  (26, 1, .aload_n 0, 0, 0, 0, []),
  (27, 2, .iload 4, 4, 0, 0, []),
  (29, 2, .iload 5, 5, 0, 0, []),
  (31, 1, .iload_n 1, 1, 0, 0, []),
  (32, 3, .invokevirtual 32, 21, 3, 0, [476, 0]),
  (35, 1, .iload_n 2, 2, 0, 0, []),
  (36, 3, .if_icmp .ne 6, 22, 0, 0, []),
  (39, 3, .iinc 3 1, 3, 0, 1, []),
  (42, 3, .iinc 5 1, 5, 0, 1, []),
  (45, 3, .goto (-28), 10, 0, 0, []),
  (48, 3, .iinc 4 1, 4, 0, 1, []),
  (51, 3, .goto (-46), 4, 0, 0, []),
  (54, 1, .iload_n 3, 3, 0, 0, []),
  (55, 1, .ireturn, 0, 0, 0, [])])
def tw_M27 : tw_Meth := (yX1_colourRanked, cX1_colourRanked, 3, (some .int), 1, 1, 1, [893, 58, 891, 892], [
  (0, 1, .iconst 0, 0, 0, 0, []),
  (1, 1, .istore_n 2, 2, 0, 0, []),
  (2, 1, .iload_n 2, 2, 0, 0, []),
  (3, 2, .bipush 10, 0, 0, 10, []),
  (5, 3, .if_icmp .ge 33, 23, 0, 0, []),
  (8, 1, .aload_n 0, 0, 0, 0, []),
  (9, 3, .getfield 15, 1, 1, 0, [107]),
  (12, 1, .iload_n 2, 2, 0, 0, []),
  (13, 1, .aload_n 0, 0, 0, 0, []),
  (14, 1, .iconst 0, 0, 0, 0, []),
  (15, 1, .iload_n 2, 2, 0, 0, []),
  (16, 3, .invokevirtual 42, 26, 2, 0, [894, 0]),
  (19, 1, .iastore, 0, 0, 0, []),
  (20, 1, .aload_n 0, 0, 0, 0, []),
  (21, 3, .getfield 18, 1, 2, 0, [108]),
  (24, 1, .iload_n 2, 2, 0, 0, []),
  (25, 1, .aload_n 0, 0, 0, 0, []),
  (26, 1, .iconst 1, 0, 0, 1, []),
  (27, 1, .iload_n 2, 2, 0, 0, []),
  (28, 3, .invokevirtual 42, 26, 2, 0, [894, 0]),
  (31, 1, .iastore, 0, 0, 0, []),
  (32, 3, .iinc 2 1, 2, 0, 1, []),
  (35, 3, .goto (-33), 2, 0, 0, []),
  (38, 1, .iconst 0, 0, 0, 0, []),
  (39, 1, .istore_n 2, 2, 0, 0, []),
  (40, 1, .iload_n 2, 2, 0, 0, []),
  (41, 2, .bipush 10, 0, 0, 10, []),
  (43, 3, .if_icmp .ge 20, 37, 0, 0, []),
  (46, 1, .aload_n 0, 0, 0, 0, []),
  (47, 1, .iload_n 2, 2, 0, 0, []),
  (48, 3, .invokevirtual 45, 28, 1, 0, [895, 0]),
  (51, 1, .iload_n 1, 1, 0, 0, []),
  (52, 3, .if_icmp .ne 5, 35, 0, 0, []),
  (55, 1, .iload_n 2, 2, 0, 0, []),
  (56, 1, .ireturn, 0, 0, 0, []),
  (57, 3, .iinc 2 1, 2, 0, 1, []),
  (60, 3, .goto (-20), 25, 0, 0, []),
  (63, 1, .iconst (-1), 0, 0, (-1), []),
  (64, 1, .ireturn, 0, 0, 0, [])])
def tw_M28 : tw_Meth := (yX1_rankOf, cX1_rankOf, 4, (some .int), 1, 1, 1, [898, 58, 897, 24], [
  (0, 1, .iconst 0, 0, 0, 0, []),
  (1, 1, .istore_n 2, 2, 0, 0, []),
  (2, 1, .iconst 0, 0, 0, 0, []),
  (3, 1, .istore_n 3, 3, 0, 0, []),
  (4, 1, .iload_n 3, 3, 0, 0, []),
  (5, 2, .bipush 10, 0, 0, 10, []),
  (7, 3, .if_icmp .ge 21, 15, 0, 0, []),
  (10, 1, .aload_n 0, 0, 0, 0, []),
  (11, 1, .iload_n 3, 3, 0, 0, []),
  (12, 1, .iload_n 1, 1, 0, 0, []),
  (13, 3, .invokevirtual 49, 29, 2, 0, [899, 0]),
  (16, 3, .ifCond .eq 6, 13, 0, 0, []),
  (19, 3, .iinc 2 1, 2, 0, 1, []),
  (22, 3, .iinc 3 1, 3, 0, 1, []),
  (25, 3, .goto (-21), 4, 0, 0, []),
  (28, 1, .iload_n 2, 2, 0, 0, []),
  (29, 1, .ireturn, 0, 0, 0, [])])
def tw_M29 : tw_Meth := (yX1_isAhead, cX1_isAhead, 3, (some .boolean), 1, 1, 2, [902, 58, 901, 25], [
  (0, 1, .aload_n 0, 0, 0, 0, []),
  (1, 3, .getfield 15, 1, 1, 0, [107]),
  (4, 1, .iload_n 1, 1, 0, 0, []),
  (5, 1, .iaload, 0, 0, 0, []),
  (6, 1, .aload_n 0, 0, 0, 0, []),
  (7, 3, .getfield 15, 1, 1, 0, [107]),
  (10, 1, .iload_n 2, 2, 0, 0, []),
  (11, 1, .iaload, 0, 0, 0, []),
  (12, 3, .if_icmp .eq 24, 22, 0, 0, []),
  (15, 1, .aload_n 0, 0, 0, 0, []),
  (16, 3, .getfield 15, 1, 1, 0, [107]),
  (19, 1, .iload_n 1, 1, 0, 0, []),
  (20, 1, .iaload, 0, 0, 0, []),
  (21, 1, .aload_n 0, 0, 0, 0, []),
  (22, 3, .getfield 15, 1, 1, 0, [107]),
  (25, 1, .iload_n 2, 2, 0, 0, []),
  (26, 1, .iaload, 0, 0, 0, []),
  (27, 3, .if_icmp .le 7, 20, 0, 0, []),
  (30, 1, .iconst 1, 0, 0, 1, []),
  (31, 3, .goto 4, 21, 0, 0, []),
  (34, 1, .iconst 0, 0, 0, 0, []),
  (35, 1, .ireturn, 1, 0, 0, []),
  (36, 1, .aload_n 0, 0, 0, 0, []),
  (37, 3, .getfield 18, 1, 2, 0, [108]),
  (40, 1, .iload_n 1, 1, 0, 0, []),
  (41, 1, .iaload, 0, 0, 0, []),
  (42, 1, .aload_n 0, 0, 0, 0, []),
  (43, 3, .getfield 18, 1, 2, 0, [108]),
  (46, 1, .iload_n 2, 2, 0, 0, []),
  (47, 1, .iaload, 0, 0, 0, []),
  (48, 3, .if_icmp .eq 24, 44, 0, 0, []),
  (51, 1, .aload_n 0, 0, 0, 0, []),
  (52, 3, .getfield 18, 1, 2, 0, [108]),
  (55, 1, .iload_n 1, 1, 0, 0, []),
  (56, 1, .iaload, 0, 0, 0, []),
  (57, 1, .aload_n 0, 0, 0, 0, []),
  (58, 3, .getfield 18, 1, 2, 0, [108]),
  (61, 1, .iload_n 2, 2, 0, 0, []),
  (62, 1, .iaload, 0, 0, 0, []),
  (63, 3, .if_icmp .ge 7, 42, 0, 0, []),
  (66, 1, .iconst 1, 0, 0, 1, []),
  (67, 3, .goto 4, 43, 0, 0, []),
  (70, 1, .iconst 0, 0, 0, 0, []),
  (71, 1, .ireturn, 1, 0, 0, []),
  (72, 1, .iload_n 1, 1, 0, 0, []),
  (73, 1, .iload_n 2, 2, 0, 0, []),
  (74, 3, .if_icmp .ge 7, 49, 0, 0, []),
  (77, 1, .iconst 1, 0, 0, 1, []),
  (78, 3, .goto 4, 50, 0, 0, []),
  (81, 1, .iconst 0, 0, 0, 0, []),
  (82, 1, .ireturn, 1, 0, 0, [])])
def tw_M30 : tw_Meth := (yX1_sameFronts, cX1_sameFronts, 5, (some .int), 1, 1, 2, [855, 58, 853, 854], [
  (0, 1, .iconst 0, 0, 0, 0, []),
  (1, 1, .istore_n 3, 3, 0, 0, []),
  (2, 1, .iconst 0, 0, 0, 0, []),
  (3, 2, .istore 4, 4, 0, 0, []),
  (5, 2, .iload 4, 4, 0, 0, []),
  (7, 1, .aload_n 0, 0, 0, 0, []),
  (8, 3, .getfield 25, 1, 4, 0, [110]),
  (11, 3, .if_icmp .ge 31, 22, 0, 0, []),
  (14, 1, .aload_n 0, 0, 0, 0, []),
  (15, 1, .iload_n 1, 1, 0, 0, []),
  (16, 2, .iload 4, 4, 0, 0, []),
  (18, 1, .iconst 0, 0, 0, 0, []),
  (19, 3, .invokevirtual 32, 21, 3, 0, [476, 0]),
  (22, 1, .aload_n 0, 0, 0, 0, []),
  (23, 1, .iload_n 2, 2, 0, 0, []),
  (24, 2, .iload 4, 4, 0, 0, []),
  (26, 1, .iconst 0, 0, 0, 0, []),
  (27, 3, .invokevirtual 32, 21, 3, 0, [476, 0]),
  (30, 3, .if_icmp .ne 6, 20, 0, 0, []),
  (33, 3, .iinc 3 1, 3, 0, 1, []),
  (36, 3, .iinc 4 1, 4, 0, 1, []),
  (39, 3, .goto (-34), 4, 0, 0, []),
  (42, 1, .iload_n 3, 3, 0, 0, []),
  (43, 1, .ireturn, 0, 0, 0, [])])
def tw_M31 : tw_Meth := (yX1_sameFaces, cX1_sameFaces, 4, (some .int), 1, 1, 1, [915, 58, 913, 914], [
  (0, 1, .iconst 0, 0, 0, 0, []),
  (1, 1, .istore_n 2, 2, 0, 0, []),
  (2, 1, .iconst 0, 0, 0, 0, []),
  (3, 1, .istore_n 3, 3, 0, 0, []),
  (4, 1, .iload_n 3, 3, 0, 0, []),
  (5, 1, .aload_n 0, 0, 0, 0, []),
  (6, 3, .getfield 25, 1, 4, 0, [110]),
  (9, 3, .if_icmp .ge 29, 22, 0, 0, []),
  (12, 1, .aload_n 0, 0, 0, 0, []),
  (13, 1, .iload_n 1, 1, 0, 0, []),
  (14, 1, .iload_n 3, 3, 0, 0, []),
  (15, 1, .iconst 0, 0, 0, 0, []),
  (16, 3, .invokevirtual 32, 21, 3, 0, [476, 0]),
  (19, 1, .aload_n 0, 0, 0, 0, []),
  (20, 1, .iload_n 1, 1, 0, 0, []),
  (21, 1, .iload_n 3, 3, 0, 0, []),
  (22, 1, .iconst 1, 0, 0, 1, []),
  (23, 3, .invokevirtual 32, 21, 3, 0, [476, 0]),
  (26, 3, .if_icmp .ne 6, 20, 0, 0, []),
  (29, 3, .iinc 2 1, 2, 0, 1, []),
  (32, 3, .iinc 3 1, 3, 0, 1, []),
  (35, 3, .goto (-31), 4, 0, 0, []),
  (38, 1, .iload_n 2, 2, 0, 0, []),
  (39, 1, .ireturn, 0, 0, 0, [])])
def tw_M32 : tw_Meth := (yX1_leastPeriod, cX1_leastPeriod, 2, (some .int), 1, 1, 0, [847, 58, 845, 846], [
  (0, 1, .iconst 1, 0, 0, 1, []),
  (1, 1, .istore_n 1, 1, 0, 0, []),
  (2, 1, .iload_n 1, 1, 0, 0, []),
  (3, 1, .aload_n 0, 0, 0, 0, []),
  (4, 3, .getfield 21, 1, 3, 0, [109]),
  (7, 3, .if_icmp .ge 19, 14, 0, 0, []),
  (10, 1, .aload_n 0, 0, 0, 0, []),
  (11, 1, .iload_n 1, 1, 0, 0, []),
  (12, 3, .invokevirtual 53, 33, 1, 0, [848, 0]),
  (15, 3, .ifCond .eq 5, 12, 0, 0, []),
  (18, 1, .iload_n 1, 1, 0, 0, []),
  (19, 1, .ireturn, 0, 0, 0, []),
  (20, 3, .iinc 1 1, 1, 0, 1, []),
  (23, 3, .goto (-21), 2, 0, 0, []),
  (26, 2, .bipush (-5), 0, 0, (-5), []),
  (28, 1, .ireturn, 0, 0, 0, [])])
def tw_M33 : tw_Meth := (yX1_repeatsBy, cX1_repeatsBy, 3, (some .boolean), 1, 1, 1, [851, 58, 850, 22], [
  (0, 1, .iconst 0, 0, 0, 0, []),
  (1, 1, .istore_n 2, 2, 0, 0, []),
  (2, 1, .iload_n 2, 2, 0, 0, []),
  (3, 1, .iload_n 1, 1, 0, 0, []),
  (4, 1, .iadd, 0, 0, 0, []),
  (5, 1, .aload_n 0, 0, 0, 0, []),
  (6, 3, .getfield 21, 1, 3, 0, [109]),
  (9, 3, .if_icmp .ge 26, 21, 0, 0, []),
  (12, 1, .aload_n 0, 0, 0, 0, []),
  (13, 1, .iload_n 2, 2, 0, 0, []),
  (14, 1, .iload_n 2, 2, 0, 0, []),
  (15, 1, .iload_n 1, 1, 0, 0, []),
  (16, 1, .iadd, 0, 0, 0, []),
  (17, 3, .invokevirtual 56, 30, 2, 0, [852, 0]),
  (20, 1, .aload_n 0, 0, 0, 0, []),
  (21, 3, .getfield 25, 1, 4, 0, [110]),
  (24, 3, .if_icmp .eq 5, 19, 0, 0, []),
  (27, 1, .iconst 0, 0, 0, 0, []),
  (28, 1, .ireturn, 1, 0, 0, []),
  (29, 3, .iinc 2 1, 2, 0, 1, []),
  (32, 3, .goto (-30), 2, 0, 0, []),
  (35, 1, .iconst 1, 0, 0, 1, []),
  (36, 1, .ireturn, 1, 0, 0, [])])
def tw_M34 : tw_Meth := (yX1_mirrorRows, cX1_mirrorRows, 3, (some .int), 1, 1, 0, [863, 58, 861, 862], [
  (0, 1, .iconst 0, 0, 0, 0, []),
  (1, 1, .istore_n 1, 1, 0, 0, []),
  (2, 1, .iconst 0, 0, 0, 0, []),
  (3, 1, .istore_n 2, 2, 0, 0, []),
  (4, 1, .iload_n 2, 2, 0, 0, []),
  (5, 1, .aload_n 0, 0, 0, 0, []),
  (6, 3, .getfield 21, 1, 3, 0, [109]),
  (9, 3, .if_icmp .ge 20, 15, 0, 0, []),
  (12, 1, .aload_n 0, 0, 0, 0, []),
  (13, 1, .iload_n 2, 2, 0, 0, []),
  (14, 3, .invokevirtual 59, 35, 1, 0, [864, 0]),
  (17, 3, .ifCond .eq 6, 13, 0, 0, []),
  (20, 3, .iinc 1 1, 1, 0, 1, []),
  (23, 3, .iinc 2 1, 2, 0, 1, []),
  (26, 3, .goto (-22), 4, 0, 0, []),
  (29, 1, .iload_n 1, 1, 0, 0, []),
  (30, 1, .ireturn, 0, 0, 0, [])])
def tw_M35 : tw_Meth := (yX1_isMirror, cX1_isMirror, 3, (some .boolean), 1, 1, 1, [867, 58, 866, 23], [
  (0, 1, .iconst 0, 0, 0, 0, []),
  (1, 1, .istore_n 2, 2, 0, 0, []),
  (2, 1, .iload_n 2, 2, 0, 0, []),
  (3, 1, .aload_n 0, 0, 0, 0, []),
  (4, 3, .getfield 25, 1, 4, 0, [110]),
  (7, 3, .if_icmp .ge 35, 26, 0, 0, []),
  (10, 1, .aload_n 0, 0, 0, 0, []),
  (11, 1, .iload_n 1, 1, 0, 0, []),
  (12, 1, .iload_n 2, 2, 0, 0, []),
  (13, 1, .iconst 0, 0, 0, 0, []),
  (14, 3, .invokevirtual 32, 21, 3, 0, [476, 0]),
  (17, 1, .aload_n 0, 0, 0, 0, []),
  (18, 1, .iload_n 1, 1, 0, 0, []),
  (19, 1, .aload_n 0, 0, 0, 0, []),
  (20, 3, .getfield 25, 1, 4, 0, [110]),
  (23, 1, .iconst 1, 0, 0, 1, []),
  (24, 1, .isub, 0, 0, 0, []),
  (25, 1, .iload_n 2, 2, 0, 0, []),
  (26, 1, .isub, 0, 0, 0, []),
  (27, 1, .iconst 0, 0, 0, 0, []),
  (28, 3, .invokevirtual 32, 21, 3, 0, [476, 0]),
  (31, 3, .if_icmp .eq 5, 24, 0, 0, []),
  (34, 1, .iconst 0, 0, 0, 0, []),
  (35, 1, .ireturn, 1, 0, 0, []),
  (36, 3, .iinc 2 1, 2, 0, 1, []),
  (39, 3, .goto (-37), 2, 0, 0, []),
  (42, 1, .iconst 1, 0, 0, 1, []),
  (43, 1, .ireturn, 1, 0, 0, [])])
def tw_M36 : tw_Meth := (yX1_copyFrom, cX1_copyFrom, 2, none, 1, 1, 1, [1023, 58, 1021, 1022], [
  (0, 1, .aload_n 1, 1, 0, 0, []),
  (1, 3, .getfield 9, 1, 0, 0, [106]),
  (4, 1, .iconst 0, 0, 0, 0, []),
  (5, 1, .aload_n 0, 0, 0, 0, []),
  (6, 3, .getfield 9, 1, 0, 0, [106]),
  (9, 1, .iconst 0, 0, 0, 0, []),
  (10, 3, .sipush 2000, 0, 0, 2000, []),
  (13, 3, .invokestatic 62, 998, 0, 0, [1024, 445, 444, 69]),
  (16, 1, .aload_n 0, 0, 0, 0, []),
  (17, 1, .aload_n 1, 1, 0, 0, []),
  (18, 3, .getfield 21, 1, 3, 0, [109]),
  (21, 3, .putfield 21, 1, 3, 0, [109]),
  (24, 1, .aload_n 0, 0, 0, 0, []),
  (25, 1, .aload_n 1, 1, 0, 0, []),
  (26, 3, .getfield 25, 1, 4, 0, [110]),
  (29, 3, .putfield 25, 1, 4, 0, [110]),
  (32, 1, .return_, 0, 0, 0, [])])
def tw_M37 : tw_Meth := (yX2_init, cX2_init, 1, none, 2, 2, 0, [237, 64, 236], [
  (0, 1, .aload_n 0, 0, 0, 0, []),
  (1, 3, .invokespecial 3, 999, 0, 0, [238, 76, 77]),
  (4, 1, .aload_n 0, 0, 0, 0, []),
  (5, 2, .bipush 36, 0, 0, 36, []),
  (7, 2, .newarray .int, 20, 0, 0, [122]),
  (9, 3, .putfield 9, 2, 0, 0, [239]),
  (12, 1, .aload_n 0, 0, 0, 0, []),
  (13, 2, .bipush 8, 0, 0, 8, []),
  (15, 2, .newarray .int, 20, 0, 0, [122]),
  (17, 3, .putfield 15, 2, 1, 0, [240]),
  (20, 1, .aload_n 0, 0, 0, 0, []),
  (21, 2, .bipush 80, 0, 0, 80, []),
  (23, 2, .newarray .int, 20, 0, 0, [122]),
  (25, 3, .putfield 18, 2, 2, 0, [241]),
  (28, 1, .return_, 0, 0, 0, [])])
def tw_M38 : tw_Meth := (yX2_plan, cX2_plan, 7, (some .int), 1, 2, 3, [760, 64, 758, 759], [
  (0, 2, .bipush 8, 0, 0, 8, []),
  (2, 1, .aload_n 2, 2, 0, 0, []),
  (3, 3, .invokevirtual 21, 114, 0, 0, [761, 0]),
  (6, 3, .invokestatic 27, 263, 2, 0, [762, 0]),
  (9, 2, .istore 4, 4, 0, 0, []),
  (11, 1, .iconst 0, 0, 0, 0, []),
  (12, 2, .istore 5, 5, 0, 0, []),
  (14, 2, .iload 5, 5, 0, 0, []),
  (16, 1, .iconst 4, 0, 0, 4, []),
  (17, 3, .if_icmp .ge 18, 17, 0, 0, []),
  (20, 1, .aload_n 0, 0, 0, 0, []),
  (21, 2, .iload 4, 4, 0, 0, []),
  (23, 2, .iload 5, 5, 0, 0, []),
  (25, 1, .iconst 0, 0, 0, 0, []),
  (26, 3, .invokevirtual 33, 45, 3, 0, [763, 0]),
  (29, 3, .iinc 5 1, 5, 0, 1, []),
  (32, 3, .goto (-18), 7, 0, 0, []),
  (35, 2, .iload 4, 4, 0, 0, []),
  (37, 1, .iconst 1, 0, 0, 1, []),
  (38, 1, .isub, 0, 0, 0, []),
  (39, 2, .istore 5, 5, 0, 0, []),
  (41, 2, .iload 5, 5, 0, 0, []),
  (43, 3, .ifCond .lt 48, 45, 0, 0, []),
  (46, 1, .iconst 0, 0, 0, 0, []),
  (47, 2, .istore 6, 6, 0, 0, []),
  (49, 2, .iload 6, 6, 0, 0, []),
  (51, 1, .iconst 4, 0, 0, 4, []),
  (52, 3, .if_icmp .ge 33, 43, 0, 0, []),
  (55, 1, .aload_n 0, 0, 0, 0, []),
  (56, 2, .iload 5, 5, 0, 0, []),
  (58, 2, .iload 6, 6, 0, 0, []),
  (60, 1, .aload_n 0, 0, 0, 0, []),
  (61, 1, .aload_n 1, 1, 0, 0, []),
  (62, 2, .iload 5, 5, 0, 0, []),
  (64, 2, .iload 6, 6, 0, 0, []),
  (66, 1, .aload_n 2, 2, 0, 0, []),
  (67, 2, .iload 5, 5, 0, 0, []),
  (69, 1, .iload_n 3, 3, 0, 0, []),
  (70, 3, .invokevirtual 37, 116, 2, 0, [767, 0]),
  (73, 3, .invokevirtual 40, 40, 4, 0, [768, 0]),
  (76, 3, .invokevirtual 33, 45, 3, 0, [763, 0]),
  (79, 3, .iinc 6 1, 6, 0, 1, []),
  (82, 3, .goto (-33), 25, 0, 0, []),
  (85, 3, .iinc 5 (-1), 5, 0, (-1), []),
  (88, 3, .goto (-47), 21, 0, 0, []),
  (91, 1, .aload_n 0, 0, 0, 0, []),
  (92, 1, .iconst 0, 0, 0, 0, []),
  (93, 1, .aload_n 1, 1, 0, 0, []),
  (94, 3, .invokevirtual 44, 5, 0, 0, [786, 0]),
  (97, 3, .invokevirtual 49, 44, 2, 0, [782, 0]),
  (100, 3, .sipush 1000, 0, 0, 1000, []),
  (103, 3, .if_icmp .lt 6, 54, 0, 0, []),
  (106, 2, .bipush (-5), 0, 0, (-5), []),
  (108, 1, .ireturn, 0, 0, 0, []),
  (109, 1, .aload_n 0, 0, 0, 0, []),
  (110, 1, .aload_n 1, 1, 0, 0, []),
  (111, 1, .aload_n 2, 2, 0, 0, []),
  (112, 1, .iload_n 3, 3, 0, 0, []),
  (113, 2, .iload 4, 4, 0, 0, []),
  (115, 3, .invokevirtual 52, 39, 4, 0, [787, 0]),
  (118, 1, .aload_n 0, 0, 0, 0, []),
  (119, 1, .iconst 0, 0, 0, 0, []),
  (120, 1, .aload_n 1, 1, 0, 0, []),
  (121, 3, .invokevirtual 44, 5, 0, 0, [786, 0]),
  (124, 3, .invokevirtual 49, 44, 2, 0, [782, 0]),
  (127, 1, .ireturn, 0, 0, 0, [])])
def tw_M39 : tw_Meth := (yX2_follow, cX2_follow, 8, none, 1, 2, 4, [790, 64, 789, 19], [
  (0, 1, .aload_n 1, 1, 0, 0, []),
  (1, 3, .invokevirtual 44, 5, 0, 0, [786, 0]),
  (4, 2, .istore 5, 5, 0, 0, []),
  (6, 1, .iconst 0, 0, 0, 0, []),
  (7, 2, .istore 6, 6, 0, 0, []),
  (9, 2, .iload 6, 6, 0, 0, []),
  (11, 2, .iload 4, 4, 0, 0, []),
  (13, 3, .if_icmp .ge 48, 30, 0, 0, []),
  (16, 1, .aload_n 0, 0, 0, 0, []),
  (17, 1, .aload_n 1, 1, 0, 0, []),
  (18, 2, .iload 6, 6, 0, 0, []),
  (20, 2, .iload 5, 5, 0, 0, []),
  (22, 1, .aload_n 2, 2, 0, 0, []),
  (23, 2, .iload 6, 6, 0, 0, []),
  (25, 1, .iload_n 3, 3, 0, 0, []),
  (26, 3, .invokevirtual 37, 116, 2, 0, [767, 0]),
  (29, 3, .invokevirtual 56, 41, 4, 0, [791, 0]),
  (32, 2, .istore 7, 7, 0, 0, []),
  (34, 1, .aload_n 0, 0, 0, 0, []),
  (35, 3, .getfield 15, 2, 1, 0, [240]),
  (38, 2, .iload 6, 6, 0, 0, []),
  (40, 2, .iload 7, 7, 0, 0, []),
  (42, 1, .iastore, 0, 0, 0, []),
  (43, 2, .iload 5, 5, 0, 0, []),
  (45, 2, .iload 7, 7, 0, 0, []),
  (47, 3, .invokestatic 59, 179, 1, 0, [779, 1]),
  (50, 3, .invokestatic 63, 180, 2, 0, [780, 1]),
  (53, 2, .istore 5, 5, 0, 0, []),
  (55, 3, .iinc 6 1, 6, 0, 1, []),
  (58, 3, .goto (-49), 5, 0, 0, []),
  (61, 1, .return_, 0, 0, 0, [])])
def tw_M40 : tw_Meth := (yX2_leastCost, cX2_leastCost, 7, (some .int), 1, 2, 4, [771, 64, 770, 16], [
  (0, 3, .sipush 1000, 0, 0, 1000, []),
  (3, 2, .istore 5, 5, 0, 0, []),
  (5, 1, .iconst 0, 0, 0, 0, []),
  (6, 2, .istore 6, 6, 0, 0, []),
  (8, 2, .iload 6, 6, 0, 0, []),
  (10, 1, .iconst 3, 0, 0, 3, []),
  (11, 3, .if_icmp .ge 30, 20, 0, 0, []),
  (14, 2, .iload 5, 5, 0, 0, []),
  (16, 1, .aload_n 0, 0, 0, 0, []),
  (17, 2, .iload 6, 6, 0, 0, []),
  (19, 3, .invokestatic 66, 43, 1, 0, [772, 0]),
  (22, 1, .aload_n 1, 1, 0, 0, []),
  (23, 1, .iload_n 2, 2, 0, 0, []),
  (24, 1, .iload_n 3, 3, 0, 0, []),
  (25, 2, .iload 4, 4, 0, 0, []),
  (27, 3, .invokevirtual 69, 42, 5, 0, [775, 0]),
  (30, 3, .invokestatic 27, 263, 2, 0, [762, 0]),
  (33, 2, .istore 5, 5, 0, 0, []),
  (35, 3, .iinc 6 1, 6, 0, 1, []),
  (38, 3, .goto (-30), 4, 0, 0, []),
  (41, 2, .iload 5, 5, 0, 0, []),
  (43, 1, .ireturn, 0, 0, 0, [])])
def tw_M41 : tw_Meth := (yX2_firstBest, cX2_firstBest, 6, (some .int), 1, 2, 4, [794, 64, 793, 20], [
  (0, 1, .iconst 0, 0, 0, 0, []),
  (1, 2, .istore 5, 5, 0, 0, []),
  (3, 2, .iload 5, 5, 0, 0, []),
  (5, 1, .iconst 3, 0, 0, 3, []),
  (6, 3, .if_icmp .ge 38, 23, 0, 0, []),
  (9, 1, .aload_n 0, 0, 0, 0, []),
  (10, 2, .iload 5, 5, 0, 0, []),
  (12, 3, .invokestatic 66, 43, 1, 0, [772, 0]),
  (15, 1, .aload_n 1, 1, 0, 0, []),
  (16, 1, .iload_n 2, 2, 0, 0, []),
  (17, 1, .iload_n 3, 3, 0, 0, []),
  (18, 2, .iload 4, 4, 0, 0, []),
  (20, 3, .invokevirtual 69, 42, 5, 0, [775, 0]),
  (23, 1, .aload_n 0, 0, 0, 0, []),
  (24, 1, .iload_n 2, 2, 0, 0, []),
  (25, 1, .iload_n 3, 3, 0, 0, []),
  (26, 3, .invokevirtual 49, 44, 2, 0, [782, 0]),
  (29, 3, .if_icmp .ne 9, 21, 0, 0, []),
  (32, 2, .iload 5, 5, 0, 0, []),
  (34, 3, .invokestatic 66, 43, 1, 0, [772, 0]),
  (37, 1, .ireturn, 0, 0, 0, []),
  (38, 3, .iinc 5 1, 5, 0, 1, []),
  (41, 3, .goto (-38), 2, 0, 0, []),
  (44, 1, .iconst 0, 0, 0, 0, []),
  (45, 1, .ireturn, 0, 0, 0, [])])
def tw_M42 : tw_Meth := (yX2_costBy, cX2_costBy, 7, (some .int), 1, 2, 5, [778, 64, 777, 17], [
  (0, 2, .iload 4, 4, 0, 0, []),
  (2, 1, .iload_n 1, 1, 0, 0, []),
  (3, 3, .invokestatic 59, 179, 1, 0, [779, 1]),
  (6, 3, .invokestatic 63, 180, 2, 0, [780, 1]),
  (9, 2, .istore 6, 6, 0, 0, []),
  (11, 1, .aload_n 2, 2, 0, 0, []),
  (12, 2, .iload 6, 6, 0, 0, []),
  (14, 3, .invokevirtual 73, 1, 1, 0, [781, 0]),
  (17, 2, .iload 5, 5, 0, 0, []),
  (19, 3, .if_icmp .eq 7, 12, 0, 0, []),
  (22, 3, .sipush 1000, 0, 0, 1000, []),
  (25, 1, .ireturn, 0, 0, 0, []),
  (26, 3, .sipush 1000, 0, 0, 1000, []),
  (29, 1, .aload_n 0, 0, 0, 0, []),
  (30, 1, .iload_n 3, 3, 0, 0, []),
  (31, 1, .iconst 1, 0, 0, 1, []),
  (32, 1, .iadd, 0, 0, 0, []),
  (33, 2, .iload 6, 6, 0, 0, []),
  (35, 3, .invokevirtual 49, 44, 2, 0, [782, 0]),
  (38, 1, .iload_n 1, 1, 0, 0, []),
  (39, 3, .ifCond .ne 7, 23, 0, 0, []),
  (42, 1, .iconst 0, 0, 0, 0, []),
  (43, 3, .goto 4, 24, 0, 0, []),
  (46, 1, .iconst 1, 0, 0, 1, []),
  (47, 1, .iadd, 0, 0, 0, []),
  (48, 3, .invokestatic 27, 263, 2, 0, [762, 0]),
  (51, 1, .ireturn, 0, 0, 0, [])])
def tw_M43 : tw_Meth := (yX2_wayTurning, cX2_wayTurning, 1, (some .int), 0, 2, 1, [774, 64, 773], [
  (0, 1, .iload_n 0, 0, 0, 0, []),
  (1, 3, .ifCond .ne 7, 4, 0, 0, []),
  (4, 1, .iconst 1, 0, 0, 1, []),
  (5, 3, .goto 13, 10, 0, 0, []),
  (8, 1, .iload_n 0, 0, 0, 0, []),
  (9, 1, .iconst 1, 0, 0, 1, []),
  (10, 3, .if_icmp .ne 7, 9, 0, 0, []),
  (13, 1, .iconst 2, 0, 0, 2, []),
  (14, 3, .goto 4, 10, 0, 0, []),
  (17, 1, .iconst 0, 0, 0, 0, []),
  (18, 1, .ireturn, 0, 0, 0, [])])
def tw_M44 : tw_Meth := (yX2_cost, cX2_cost, 4, (some .int), 1, 2, 2, [785, 64, 784, 18], [
  (0, 1, .iload_n 1, 1, 0, 0, []),
  (1, 1, .iconst 4, 0, 0, 4, []),
  (2, 1, .imul, 0, 0, 0, []),
  (3, 1, .iload_n 2, 2, 0, 0, []),
  (4, 1, .iadd, 0, 0, 0, []),
  (5, 1, .istore_n 3, 3, 0, 0, []),
  (6, 1, .iload_n 3, 3, 0, 0, []),
  (7, 3, .ifCond .lt 21, 18, 0, 0, []),
  (10, 1, .iload_n 3, 3, 0, 0, []),
  (11, 1, .aload_n 0, 0, 0, 0, []),
  (12, 3, .getfield 9, 2, 0, 0, [239]),
  (15, 1, .arraylength, 0, 0, 0, []),
  (16, 3, .if_icmp .ge 12, 18, 0, 0, []),
  (19, 1, .aload_n 0, 0, 0, 0, []),
  (20, 3, .getfield 9, 2, 0, 0, [239]),
  (23, 1, .iload_n 3, 3, 0, 0, []),
  (24, 1, .iaload, 0, 0, 0, []),
  (25, 3, .goto 6, 19, 0, 0, []),
  (28, 3, .sipush 1000, 0, 0, 1000, []),
  (31, 1, .ireturn, 0, 0, 0, [])])
def tw_M45 : tw_Meth := (yX2_setCost, cX2_setCost, 5, none, 1, 2, 3, [766, 64, 765, 15], [
  (0, 1, .iload_n 1, 1, 0, 0, []),
  (1, 1, .iconst 4, 0, 0, 4, []),
  (2, 1, .imul, 0, 0, 0, []),
  (3, 1, .iload_n 2, 2, 0, 0, []),
  (4, 1, .iadd, 0, 0, 0, []),
  (5, 2, .istore 4, 4, 0, 0, []),
  (7, 2, .iload 4, 4, 0, 0, []),
  (9, 3, .ifCond .lt 21, 18, 0, 0, []),
  (12, 2, .iload 4, 4, 0, 0, []),
  (14, 1, .aload_n 0, 0, 0, 0, []),
  (15, 3, .getfield 9, 2, 0, 0, [239]),
  (18, 1, .arraylength, 0, 0, 0, []),
  (19, 3, .if_icmp .ge 11, 18, 0, 0, []),
  (22, 1, .aload_n 0, 0, 0, 0, []),
  (23, 3, .getfield 9, 2, 0, 0, [239]),
  (26, 2, .iload 4, 4, 0, 0, []),
  (28, 1, .iload_n 3, 3, 0, 0, []),
  (29, 1, .iastore, 0, 0, 0, []),
  (30, 1, .return_, 0, 0, 0, [])])
def tw_M46 : tw_Meth := (yX2_turningFor, cX2_turningFor, 2, (some .int), 1, 2, 1, [798, 64, 796, 797], [
  (0, 1, .iload_n 1, 1, 0, 0, []),
  (1, 3, .ifCond .lt 21, 12, 0, 0, []),
  (4, 1, .iload_n 1, 1, 0, 0, []),
  (5, 1, .aload_n 0, 0, 0, 0, []),
  (6, 3, .getfield 15, 2, 1, 0, [240]),
  (9, 1, .arraylength, 0, 0, 0, []),
  (10, 3, .if_icmp .ge 12, 12, 0, 0, []),
  (13, 1, .aload_n 0, 0, 0, 0, []),
  (14, 3, .getfield 15, 2, 1, 0, [240]),
  (17, 1, .iload_n 1, 1, 0, 0, []),
  (18, 1, .iaload, 0, 0, 0, []),
  (19, 3, .goto 4, 13, 0, 0, []),
  (22, 1, .iconst 0, 0, 0, 0, []),
  (23, 1, .ireturn, 0, 0, 0, [])])
def tw_M47 : tw_Meth := (yX2_planAll, cX2_planAll, 6, none, 1, 2, 2, [814, 64, 812, 813], [
  (0, 1, .iconst 0, 0, 0, 0, []),
  (1, 1, .istore_n 3, 3, 0, 0, []),
  (2, 1, .iload_n 3, 3, 0, 0, []),
  (3, 2, .bipush 10, 0, 0, 10, []),
  (5, 3, .if_icmp .ge 74, 42, 0, 0, []),
  (8, 1, .aload_n 1, 1, 0, 0, []),
  (9, 1, .iload_n 3, 3, 0, 0, []),
  (10, 3, .invokevirtual 76, 85, 1, 0, [815, 0]),
  (13, 2, .astore 4, 4, 0, 0, []),
  (15, 2, .aload 4, 4, 0, 0, []),
  (17, 3, .ifnull 12, 17, 0, 0, []),
  (20, 1, .aload_n 0, 0, 0, 0, []),
  (21, 2, .aload 4, 4, 0, 0, []),
  (23, 1, .aload_n 2, 2, 0, 0, []),
  (24, 1, .iload_n 3, 3, 0, 0, []),
  (25, 3, .invokevirtual 82, 38, 3, 0, [816, 0]),
  (28, 1, .pop, 0, 0, 0, []),
  (29, 1, .iconst 0, 0, 0, 0, []),
  (30, 2, .istore 5, 5, 0, 0, []),
  (32, 2, .iload 5, 5, 0, 0, []),
  (34, 2, .bipush 8, 0, 0, 8, []),
  (36, 3, .if_icmp .ge 37, 40, 0, 0, []),
  (39, 1, .aload_n 0, 0, 0, 0, []),
  (40, 3, .getfield 18, 2, 2, 0, [241]),
  (43, 2, .iload 5, 5, 0, 0, []),
  (45, 2, .bipush 10, 0, 0, 10, []),
  (47, 1, .imul, 0, 0, 0, []),
  (48, 1, .iload_n 3, 3, 0, 0, []),
  (49, 1, .iadd, 0, 0, 0, []),
  (50, 2, .aload 4, 4, 0, 0, []),
  (52, 3, .ifnonnull 7, 33, 0, 0, []),
  (55, 1, .iconst 0, 0, 0, 0, []),
  (56, 3, .goto 10, 37, 0, 0, []),
  (59, 1, .aload_n 0, 0, 0, 0, []),
  (60, 3, .getfield 15, 2, 1, 0, [240]),
  (63, 2, .iload 5, 5, 0, 0, []),
  (65, 1, .iaload, 0, 0, 0, []),
  (66, 1, .iastore, 0, 0, 0, []),
  (67, 3, .iinc 5 1, 5, 0, 1, []),
  (70, 3, .goto (-38), 19, 0, 0, []),
  (73, 3, .iinc 3 1, 3, 0, 1, []),
  (76, 3, .goto (-74), 2, 0, 0, []),
  (79, 1, .return_, 0, 0, 0, [])])
def tw_M48 : tw_Meth := (yX2_turningOf, cX2_turningOf, 4, (some .int), 1, 2, 2, [824, 64, 822, 823], [
  (0, 1, .iload_n 2, 2, 0, 0, []),
  (1, 2, .bipush 10, 0, 0, 10, []),
  (3, 1, .imul, 0, 0, 0, []),
  (4, 1, .iload_n 1, 1, 0, 0, []),
  (5, 1, .iadd, 0, 0, 0, []),
  (6, 1, .istore_n 3, 3, 0, 0, []),
  (7, 1, .iload_n 3, 3, 0, 0, []),
  (8, 3, .ifCond .lt 21, 18, 0, 0, []),
  (11, 1, .iload_n 3, 3, 0, 0, []),
  (12, 1, .aload_n 0, 0, 0, 0, []),
  (13, 3, .getfield 18, 2, 2, 0, [241]),
  (16, 1, .arraylength, 0, 0, 0, []),
  (17, 3, .if_icmp .ge 12, 18, 0, 0, []),
  (20, 1, .aload_n 0, 0, 0, 0, []),
  (21, 3, .getfield 18, 2, 2, 0, [241]),
  (24, 1, .iload_n 3, 3, 0, 0, []),
  (25, 1, .iaload, 0, 0, 0, []),
  (26, 3, .goto 4, 19, 0, 0, []),
  (29, 1, .iconst 0, 0, 0, 0, []),
  (30, 1, .ireturn, 0, 0, 0, [])])
def tw_M49 : tw_Meth := (yX3_init, cX3_init, 1, none, 2, 3, 0, [127, 59, 126], [
  (0, 1, .aload_n 0, 0, 0, 0, []),
  (1, 3, .invokespecial 3, 999, 0, 0, [128, 76, 77]),
  (4, 1, .aload_n 0, 0, 0, 0, []),
  (5, 2, .bipush 80, 0, 0, 80, []),
  (7, 2, .newarray .char, 22, 0, 0, [148]),
  (9, 3, .putfield 9, 3, 0, 0, [129]),
  (12, 1, .aload_n 0, 0, 0, 0, []),
  (13, 2, .bipush 80, 0, 0, 80, []),
  (15, 2, .newarray .int, 20, 0, 0, [122]),
  (17, 3, .putfield 15, 3, 1, 0, [130]),
  (20, 1, .aload_n 0, 0, 0, 0, []),
  (21, 2, .bipush 80, 0, 0, 80, []),
  (23, 2, .newarray .int, 20, 0, 0, [122]),
  (25, 3, .putfield 19, 3, 2, 0, [131]),
  (28, 1, .aload_n 0, 0, 0, 0, []),
  (29, 2, .bipush 80, 0, 0, 80, []),
  (31, 2, .newarray .int, 20, 0, 0, [122]),
  (33, 3, .putfield 22, 3, 3, 0, [132]),
  (36, 1, .return_, 0, 0, 0, [])])
def tw_M50 : tw_Meth := (yX3_leaves, cX3_leaves, 1, (some .int), 1, 3, 0, [449, 59, 447, 448], [
  (0, 1, .aload_n 0, 0, 0, 0, []),
  (1, 3, .getfield 25, 3, 5, 0, [134]),
  (4, 1, .ireturn, 0, 0, 0, [])])
def tw_M51 : tw_Meth := (yX3_wipe, cX3_wipe, 1, none, 1, 3, 0, [380, 59, 378, 379], [
  (0, 1, .aload_n 0, 0, 0, 0, []),
  (1, 1, .iconst 0, 0, 0, 0, []),
  (2, 3, .putfield 29, 3, 4, 0, [133]),
  (5, 1, .aload_n 0, 0, 0, 0, []),
  (6, 1, .iconst 0, 0, 0, 0, []),
  (7, 3, .putfield 25, 3, 5, 0, [134]),
  (10, 1, .return_, 0, 0, 0, [])])
def tw_M52 : tw_Meth := (yX3_add, cX3_add, 4, (some .int), 1, 3, 2, [403, 59, 401, 402], [
  (0, 1, .aload_n 0, 0, 0, 0, []),
  (1, 3, .getfield 29, 3, 4, 0, [133]),
  (4, 3, .ifCond .lt 12, 7, 0, 0, []),
  (7, 1, .aload_n 0, 0, 0, 0, []),
  (8, 3, .getfield 29, 3, 4, 0, [133]),
  (11, 2, .bipush 80, 0, 0, 80, []),
  (13, 3, .if_icmp .lt 5, 9, 0, 0, []),
  (16, 1, .iconst (-1), 0, 0, (-1), []),
  (17, 1, .ireturn, 0, 0, 0, []),
  (18, 1, .aload_n 0, 0, 0, 0, []),
  (19, 3, .getfield 29, 3, 4, 0, [133]),
  (22, 1, .istore_n 3, 3, 0, 0, []),
  (23, 1, .aload_n 0, 0, 0, 0, []),
  (24, 3, .getfield 9, 3, 0, 0, [129]),
  (27, 1, .iload_n 3, 3, 0, 0, []),
  (28, 1, .iload_n 1, 1, 0, 0, []),
  (29, 1, .castore, 0, 0, 0, []),
  (30, 1, .aload_n 0, 0, 0, 0, []),
  (31, 3, .getfield 15, 3, 1, 0, [130]),
  (34, 1, .iload_n 3, 3, 0, 0, []),
  (35, 1, .iload_n 2, 2, 0, 0, []),
  (36, 1, .iastore, 0, 0, 0, []),
  (37, 1, .aload_n 0, 0, 0, 0, []),
  (38, 3, .getfield 19, 3, 2, 0, [131]),
  (41, 1, .iload_n 3, 3, 0, 0, []),
  (42, 1, .iconst (-1), 0, 0, (-1), []),
  (43, 1, .iastore, 0, 0, 0, []),
  (44, 1, .aload_n 0, 0, 0, 0, []),
  (45, 3, .getfield 22, 3, 3, 0, [132]),
  (48, 1, .iload_n 3, 3, 0, 0, []),
  (49, 1, .iconst (-1), 0, 0, (-1), []),
  (50, 1, .iastore, 0, 0, 0, []),
  (51, 1, .aload_n 0, 0, 0, 0, []),
  (52, 1, .dup, 0, 0, 0, []),
  (53, 3, .getfield 29, 3, 4, 0, [133]),
  (56, 1, .iconst 1, 0, 0, 1, []),
  (57, 1, .iadd, 0, 0, 0, []),
  (58, 3, .putfield 29, 3, 4, 0, [133]),
  (61, 1, .iload_n 3, 3, 0, 0, []),
  (62, 1, .ireturn, 0, 0, 0, [])])
def tw_M53 : tw_Meth := (yX3_addLeaf, cX3_addLeaf, 2, (some .int), 1, 3, 1, [399, 59, 397, 398], [
  (0, 1, .aload_n 0, 0, 0, 0, []),
  (1, 1, .dup, 0, 0, 0, []),
  (2, 3, .getfield 25, 3, 5, 0, [134]),
  (5, 1, .iconst 1, 0, 0, 1, []),
  (6, 1, .iadd, 0, 0, 0, []),
  (7, 3, .putfield 25, 3, 5, 0, [134]),
  (10, 1, .aload_n 0, 0, 0, 0, []),
  (11, 1, .iload_n 1, 1, 0, 0, []),
  (12, 1, .iconst 0, 0, 0, 0, []),
  (13, 3, .invokevirtual 32, 52, 2, 0, [400, 0]),
  (16, 1, .ireturn, 0, 0, 0, [])])
def tw_M54 : tw_Meth := (yX3_join, cX3_join, 4, none, 1, 3, 3, [429, 59, 427, 428], [
  (0, 1, .iload_n 1, 1, 0, 0, []),
  (1, 3, .ifCond .lt 31, 19, 0, 0, []),
  (4, 1, .iload_n 1, 1, 0, 0, []),
  (5, 1, .aload_n 0, 0, 0, 0, []),
  (6, 3, .getfield 29, 3, 4, 0, [133]),
  (9, 3, .if_icmp .ge 23, 19, 0, 0, []),
  (12, 1, .iload_n 1, 1, 0, 0, []),
  (13, 2, .bipush 80, 0, 0, 80, []),
  (15, 3, .if_icmp .ge 17, 19, 0, 0, []),
  (18, 1, .aload_n 0, 0, 0, 0, []),
  (19, 3, .getfield 19, 3, 2, 0, [131]),
  (22, 1, .iload_n 1, 1, 0, 0, []),
  (23, 1, .iload_n 2, 2, 0, 0, []),
  (24, 1, .iastore, 0, 0, 0, []),
  (25, 1, .aload_n 0, 0, 0, 0, []),
  (26, 3, .getfield 22, 3, 3, 0, [132]),
  (29, 1, .iload_n 1, 1, 0, 0, []),
  (30, 1, .iload_n 3, 3, 0, 0, []),
  (31, 1, .iastore, 0, 0, 0, []),
  (32, 1, .return_, 0, 0, 0, [])])
def tw_M55 : tw_Meth := (yX3_turningFor, cX3_turningFor, 4, (some .int), 1, 3, 3, [500, 59, 498, 499], [
  (0, 1, .aload_n 0, 0, 0, 0, []),
  (1, 1, .iconst 0, 0, 0, 0, []),
  (2, 1, .iload_n 1, 1, 0, 0, []),
  (3, 1, .iload_n 2, 2, 0, 0, []),
  (4, 1, .iload_n 3, 3, 0, 0, []),
  (5, 1, .iconst 0, 0, 0, 0, []),
  (6, 3, .invokevirtual 36, 56, 5, 0, [501, 0]),
  (9, 1, .ireturn, 0, 0, 0, [])])
def tw_M56 : tw_Meth := (yX3_valueOf, cX3_valueOf, 11, (some .int), 1, 3, 5, [504, 59, 503, 5], [
  (0, 1, .iload_n 1, 1, 0, 0, []),
  (1, 3, .ifCond .lt 24, 12, 0, 0, []),
  (4, 1, .iload_n 1, 1, 0, 0, []),
  (5, 1, .aload_n 0, 0, 0, 0, []),
  (6, 3, .getfield 29, 3, 4, 0, [133]),
  (9, 3, .if_icmp .ge 16, 12, 0, 0, []),
  (12, 1, .iload_n 1, 1, 0, 0, []),
  (13, 2, .bipush 80, 0, 0, 80, []),
  (15, 3, .if_icmp .ge 10, 12, 0, 0, []),
  (18, 2, .iload 5, 5, 0, 0, []),
  (20, 2, .bipush 6, 0, 0, 6, []),
  (22, 3, .if_icmp .le 5, 14, 0, 0, []),
  (25, 1, .iconst 0, 0, 0, 0, []),
  (26, 1, .ireturn, 0, 0, 0, []),
  (27, 1, .aload_n 0, 0, 0, 0, []),
  (28, 3, .getfield 19, 3, 2, 0, [131]),
  (31, 1, .iload_n 1, 1, 0, 0, []),
  (32, 1, .iaload, 0, 0, 0, []),
  (33, 2, .istore 6, 6, 0, 0, []),
  (35, 1, .aload_n 0, 0, 0, 0, []),
  (36, 3, .getfield 22, 3, 3, 0, [132]),
  (39, 1, .iload_n 1, 1, 0, 0, []),
  (40, 1, .iaload, 0, 0, 0, []),
  (41, 2, .istore 7, 7, 0, 0, []),
  (43, 1, .aload_n 0, 0, 0, 0, []),
  (44, 3, .getfield 15, 3, 1, 0, [130]),
  (47, 1, .iload_n 1, 1, 0, 0, []),
  (48, 1, .iaload, 0, 0, 0, []),
  (49, 2, .istore 8, 8, 0, 0, []),
  (51, 2, .iload 5, 5, 0, 0, []),
  (53, 1, .iconst 1, 0, 0, 1, []),
  (54, 1, .iadd, 0, 0, 0, []),
  (55, 2, .istore 9, 9, 0, 0, []),
  (57, 1, .aload_n 0, 0, 0, 0, []),
  (58, 3, .getfield 9, 3, 0, 0, [129]),
  (61, 1, .iload_n 1, 1, 0, 0, []),
  (62, 1, .caload, 0, 0, 0, []),
  (63, 105, .tableswitch 291 98 120 #[107, 138, 205, 291, 105, 291, 109, 291, 291, 111, 291, 236, 291, 291, 291, 291, 220, 189, 254, 291, 291, 291, 162], 146, 120, 98, [40, 58, 95, 146, 38, 146, 42, 146, 146, 44, 146, 114, 146, 146, 146, 146, 105, 85, 126, 146, 146, 146, 71]),
  (168, 1, .iconst 1, 0, 0, 1, []),
  (169, 1, .ireturn, 0, 0, 0, []),
  (170, 1, .iconst 2, 0, 0, 2, []),
  (171, 1, .ireturn, 0, 0, 0, []),
  (172, 1, .iconst 3, 0, 0, 3, []),
  (173, 1, .ireturn, 0, 0, 0, []),
  (174, 1, .aload_n 0, 0, 0, 0, []),
  (175, 1, .iload_n 3, 3, 0, 0, []),
  (176, 2, .iload 8, 8, 0, 0, []),
  (178, 3, .invokestatic 40, 57, 2, 0, [505, 0]),
  (181, 3, .ifCond .eq 8, 51, 0, 0, []),
  (184, 2, .iload 7, 7, 0, 0, []),
  (186, 3, .goto 5, 52, 0, 0, []),
  (189, 2, .iload 6, 6, 0, 0, []),
  (191, 1, .iload_n 2, 2, 0, 0, []),
  (192, 1, .iload_n 3, 3, 0, 0, []),
  (193, 2, .iload 4, 4, 0, 0, []),
  (195, 2, .iload 9, 9, 0, 0, []),
  (197, 3, .invokevirtual 36, 56, 5, 0, [501, 0]),
  (200, 1, .ireturn, 0, 0, 0, []),
  (201, 1, .aload_n 0, 0, 0, 0, []),
  (202, 1, .iload_n 2, 2, 0, 0, []),
  (203, 2, .iload 8, 8, 0, 0, []),
  (205, 3, .if_icmp .ge 8, 64, 0, 0, []),
  (208, 2, .iload 6, 6, 0, 0, []),
  (210, 3, .goto 5, 65, 0, 0, []),
  (213, 2, .iload 7, 7, 0, 0, []),
  (215, 1, .iload_n 2, 2, 0, 0, []),
  (216, 1, .iload_n 3, 3, 0, 0, []),
  (217, 2, .iload 4, 4, 0, 0, []),
  (219, 2, .iload 9, 9, 0, 0, []),
  (221, 3, .invokevirtual 36, 56, 5, 0, [501, 0]),
  (224, 1, .ireturn, 0, 0, 0, []),
  (225, 1, .aload_n 0, 0, 0, 0, []),
  (226, 1, .iload_n 3, 3, 0, 0, []),
  (227, 2, .iload 8, 8, 0, 0, []),
  (229, 3, .invokestatic 44, 58, 2, 0, [508, 0]),
  (232, 3, .ifCond .eq 8, 78, 0, 0, []),
  (235, 2, .iload 7, 7, 0, 0, []),
  (237, 3, .goto 5, 79, 0, 0, []),
  (240, 2, .iload 6, 6, 0, 0, []),
  (242, 1, .iload_n 2, 2, 0, 0, []),
  (243, 1, .iload_n 3, 3, 0, 0, []),
  (244, 2, .iload 4, 4, 0, 0, []),
  (246, 2, .iload 9, 9, 0, 0, []),
  (248, 3, .invokevirtual 36, 56, 5, 0, [501, 0]),
  (251, 1, .ireturn, 0, 0, 0, []),
  (252, 1, .aload_n 0, 0, 0, 0, []),
  (253, 2, .iload 6, 6, 0, 0, []),
  (255, 1, .iload_n 2, 2, 0, 0, []),
  (256, 1, .iload_n 3, 3, 0, 0, []),
  (257, 2, .iload 8, 8, 0, 0, []),
  (259, 1, .iadd, 0, 0, 0, []),
  (260, 2, .iload 4, 4, 0, 0, []),
  (262, 2, .iload 9, 9, 0, 0, []),
  (264, 3, .invokevirtual 36, 56, 5, 0, [501, 0]),
  (267, 1, .ireturn, 0, 0, 0, []),
  (268, 1, .aload_n 0, 0, 0, 0, []),
  (269, 2, .iload 6, 6, 0, 0, []),
  (271, 1, .iload_n 2, 2, 0, 0, []),
  (272, 1, .iload_n 3, 3, 0, 0, []),
  (273, 1, .iload_n 2, 2, 0, 0, []),
  (274, 1, .iadd, 0, 0, 0, []),
  (275, 2, .iload 4, 4, 0, 0, []),
  (277, 2, .iload 9, 9, 0, 0, []),
  (279, 3, .invokevirtual 36, 56, 5, 0, [501, 0]),
  (282, 1, .ireturn, 0, 0, 0, []),
  (283, 1, .aload_n 0, 0, 0, 0, []),
  (284, 2, .iload 6, 6, 0, 0, []),
  (286, 1, .iload_n 2, 2, 0, 0, []),
  (287, 1, .iload_n 3, 3, 0, 0, []),
  (288, 2, .iload 4, 4, 0, 0, []),
  (290, 2, .iload 9, 9, 0, 0, []),
  (292, 3, .invokevirtual 36, 56, 5, 0, [501, 0]),
  (295, 3, .invokestatic 47, 59, 1, 0, [511, 0]),
  (298, 1, .ireturn, 0, 0, 0, []),
  (299, 1, .aload_n 0, 0, 0, 0, []),
  (300, 2, .iload 6, 6, 0, 0, []),
  (302, 2, .iload 4, 4, 0, 0, []),
  (304, 1, .iconst 1, 0, 0, 1, []),
  (305, 1, .isub, 0, 0, 0, []),
  (306, 1, .iload_n 2, 2, 0, 0, []),
  (307, 1, .isub, 0, 0, 0, []),
  (308, 1, .iload_n 3, 3, 0, 0, []),
  (309, 2, .iload 4, 4, 0, 0, []),
  (311, 2, .iload 9, 9, 0, 0, []),
  (313, 3, .invokevirtual 36, 56, 5, 0, [501, 0]),
  (316, 1, .ireturn, 0, 0, 0, []),
  (317, 1, .aload_n 0, 0, 0, 0, []),
  (318, 2, .iload 6, 6, 0, 0, []),
  (320, 1, .iload_n 2, 2, 0, 0, []),
  (321, 1, .iload_n 3, 3, 0, 0, []),
  (322, 2, .iload 4, 4, 0, 0, []),
  (324, 2, .iload 9, 9, 0, 0, []),
  (326, 3, .invokevirtual 36, 56, 5, 0, [501, 0]),
  (329, 2, .istore 10, 10, 0, 0, []),
  (331, 2, .iload 10, 10, 0, 0, []),
  (333, 3, .ifCond .eq 8, 138, 0, 0, []),
  (336, 2, .iload 10, 10, 0, 0, []),
  (338, 3, .goto 15, 145, 0, 0, []),
  (341, 1, .aload_n 0, 0, 0, 0, []),
  (342, 2, .iload 7, 7, 0, 0, []),
  (344, 1, .iload_n 2, 2, 0, 0, []),
  (345, 1, .iload_n 3, 3, 0, 0, []),
  (346, 2, .iload 4, 4, 0, 0, []),
  (348, 2, .iload 9, 9, 0, 0, []),
  (350, 3, .invokevirtual 36, 56, 5, 0, [501, 0]),
  (353, 1, .ireturn, 0, 0, 0, []),
  (354, 1, .iconst 0, 0, 0, 0, []),
  (355, 1, .ireturn, 0, 0, 0, [])])
def tw_M57 : tw_Meth := (yX3_isOddPart, cX3_isOddPart, 2, (some .boolean), 0, 3, 2, [507, 59, 506], [
  (0, 1, .iload_n 1, 1, 0, 0, []),
  (1, 3, .ifCond .le 16, 11, 0, 0, []),
  (4, 1, .iload_n 0, 0, 0, 0, []),
  (5, 1, .iload_n 1, 1, 0, 0, []),
  (6, 1, .idiv, 0, 0, 0, []),
  (7, 1, .iconst 2, 0, 0, 2, []),
  (8, 1, .irem, 0, 0, 0, []),
  (9, 1, .iconst 1, 0, 0, 1, []),
  (10, 3, .if_icmp .ne 7, 11, 0, 0, []),
  (13, 1, .iconst 1, 0, 0, 1, []),
  (14, 3, .goto 4, 12, 0, 0, []),
  (17, 1, .iconst 0, 0, 0, 0, []),
  (18, 1, .ireturn, 1, 0, 0, [])])
def tw_M58 : tw_Meth := (yX3_isDivided, cX3_isDivided, 2, (some .boolean), 0, 3, 2, [510, 59, 509], [
  (0, 1, .iload_n 1, 1, 0, 0, []),
  (1, 3, .ifCond .le 13, 8, 0, 0, []),
  (4, 1, .iload_n 0, 0, 0, 0, []),
  (5, 1, .iload_n 1, 1, 0, 0, []),
  (6, 1, .irem, 0, 0, 0, []),
  (7, 3, .ifCond .ne 7, 8, 0, 0, []),
  (10, 1, .iconst 1, 0, 0, 1, []),
  (11, 3, .goto 4, 9, 0, 0, []),
  (14, 1, .iconst 0, 0, 0, 0, []),
  (15, 1, .ireturn, 1, 0, 0, [])])
def tw_M59 : tw_Meth := (yX3_reversed, cX3_reversed, 1, (some .int), 0, 3, 1, [513, 59, 512], [
  (0, 1, .iload_n 0, 0, 0, 0, []),
  (1, 1, .iconst 1, 0, 0, 1, []),
  (2, 3, .if_icmp .ne 5, 5, 0, 0, []),
  (5, 1, .iconst 2, 0, 0, 2, []),
  (6, 1, .ireturn, 0, 0, 0, []),
  (7, 1, .iload_n 0, 0, 0, 0, []),
  (8, 1, .iconst 2, 0, 0, 2, []),
  (9, 3, .if_icmp .ne 7, 10, 0, 0, []),
  (12, 1, .iconst 1, 0, 0, 1, []),
  (13, 3, .goto 4, 11, 0, 0, []),
  (16, 1, .iload_n 0, 0, 0, 0, []),
  (17, 1, .ireturn, 0, 0, 0, [])])
def tw_M60 : tw_Meth := (yX3_copyFrom, cX3_copyFrom, 2, none, 1, 3, 1, [442, 59, 440, 441], [
  (0, 1, .aload_n 1, 1, 0, 0, []),
  (1, 3, .getfield 9, 3, 0, 0, [129]),
  (4, 1, .iconst 0, 0, 0, 0, []),
  (5, 1, .aload_n 0, 0, 0, 0, []),
  (6, 3, .getfield 9, 3, 0, 0, [129]),
  (9, 1, .iconst 0, 0, 0, 0, []),
  (10, 2, .bipush 80, 0, 0, 80, []),
  (12, 3, .invokestatic 51, 998, 0, 0, [443, 445, 444, 69]),
  (15, 1, .aload_n 1, 1, 0, 0, []),
  (16, 3, .getfield 15, 3, 1, 0, [130]),
  (19, 1, .iconst 0, 0, 0, 0, []),
  (20, 1, .aload_n 0, 0, 0, 0, []),
  (21, 3, .getfield 15, 3, 1, 0, [130]),
  (24, 1, .iconst 0, 0, 0, 0, []),
  (25, 2, .bipush 80, 0, 0, 80, []),
  (27, 3, .invokestatic 51, 998, 0, 0, [443, 445, 444, 69]),
  (30, 1, .aload_n 1, 1, 0, 0, []),
  (31, 3, .getfield 19, 3, 2, 0, [131]),
  (34, 1, .iconst 0, 0, 0, 0, []),
  (35, 1, .aload_n 0, 0, 0, 0, []),
  (36, 3, .getfield 19, 3, 2, 0, [131]),
  (39, 1, .iconst 0, 0, 0, 0, []),
  (40, 2, .bipush 80, 0, 0, 80, []),
  (42, 3, .invokestatic 51, 998, 0, 0, [443, 445, 444, 69]),
  (45, 1, .aload_n 1, 1, 0, 0, []),
  (46, 3, .getfield 22, 3, 3, 0, [132]),
  (49, 1, .iconst 0, 0, 0, 0, []),
  (50, 1, .aload_n 0, 0, 0, 0, []),
  (51, 3, .getfield 22, 3, 3, 0, [132]),
  (54, 1, .iconst 0, 0, 0, 0, []),
  (55, 2, .bipush 80, 0, 0, 80, []),
  (57, 3, .invokestatic 51, 998, 0, 0, [443, 445, 444, 69]),
  (60, 1, .aload_n 0, 0, 0, 0, []),
  (61, 1, .aload_n 1, 1, 0, 0, []),
  (62, 3, .getfield 29, 3, 4, 0, [133]),
  (65, 3, .putfield 29, 3, 4, 0, [133]),
  (68, 1, .aload_n 0, 0, 0, 0, []),
  (69, 1, .aload_n 1, 1, 0, 0, []),
  (70, 3, .getfield 25, 3, 5, 0, [134]),
  (73, 3, .putfield 25, 3, 5, 0, [134]),
  (76, 1, .return_, 0, 0, 0, [])])
def tw_M61 : tw_Meth := (yX4_init, cX4_init, 1, none, 2, 4, 0, [187, 61, 186], [
  (0, 1, .aload_n 0, 0, 0, 0, []),
  (1, 3, .invokespecial 3, 999, 0, 0, [188, 76, 77]),
  (4, 1, .aload_n 0, 0, 0, 0, []),
  (5, 3, .new 9, 3, 0, 0, [189, 124, 59]),
  (8, 1, .dup, 0, 0, 0, []),
  (9, 3, .invokespecial 11, 49, 0, 0, [190, 1]),
  (12, 3, .putfield 12, 4, 0, 0, [191]),
  (15, 1, .return_, 0, 0, 0, [])])
def tw_M62 : tw_Meth := (yX4_result, cX4_result, 1, (some (.object "CardLoom$Law")), 1, 4, 0, [434, 61, 432, 433], [
  (0, 1, .aload_n 0, 0, 0, 0, []),
  (1, 3, .getfield 12, 4, 0, 0, [191]),
  (4, 1, .areturn, 0, 0, 0, [])])
def tw_M63 : tw_Meth := (yX4_read, cX4_read, 2, (some .int), 1, 4, 1, [376, 61, 374, 375], [
  (0, 1, .aload_n 0, 0, 0, 0, []),
  (1, 1, .aload_n 1, 1, 0, 0, []),
  (2, 3, .putfield 18, 4, 1, 0, [192]),
  (5, 1, .aload_n 0, 0, 0, 0, []),
  (6, 1, .iconst 0, 0, 0, 0, []),
  (7, 3, .putfield 22, 4, 2, 0, [193]),
  (10, 1, .aload_n 0, 0, 0, 0, []),
  (11, 1, .iconst (-1), 0, 0, (-1), []),
  (12, 3, .putfield 26, 4, 3, 0, [194]),
  (15, 1, .aload_n 0, 0, 0, 0, []),
  (16, 3, .getfield 12, 4, 0, 0, [191]),
  (19, 3, .invokevirtual 29, 51, 0, 0, [377, 0]),
  (22, 1, .aload_n 0, 0, 0, 0, []),
  (23, 1, .iconst 0, 0, 0, 0, []),
  (24, 3, .invokevirtual 32, 64, 1, 0, [381, 0]),
  (27, 1, .pop, 0, 0, 0, []),
  (28, 1, .aload_n 0, 0, 0, 0, []),
  (29, 3, .getfield 26, 4, 3, 0, [194]),
  (32, 1, .iconst (-1), 0, 0, (-1), []),
  (33, 3, .if_icmp .ne 22, 29, 0, 0, []),
  (36, 1, .aload_n 0, 0, 0, 0, []),
  (37, 3, .getfield 22, 4, 2, 0, [193]),
  (40, 1, .aload_n 1, 1, 0, 0, []),
  (41, 3, .invokevirtual 36, 121, 0, 0, [430, 0]),
  (44, 3, .if_icmp .ge 11, 29, 0, 0, []),
  (47, 1, .aload_n 0, 0, 0, 0, []),
  (48, 1, .aload_n 0, 0, 0, 0, []),
  (49, 3, .getfield 22, 4, 2, 0, [193]),
  (52, 3, .putfield 26, 4, 3, 0, [194]),
  (55, 1, .aload_n 0, 0, 0, 0, []),
  (56, 3, .getfield 26, 4, 3, 0, [194]),
  (59, 1, .ireturn, 0, 0, 0, [])])
def tw_M64 : tw_Meth := (yX4_term, cX4_term, 7, (some .int), 1, 4, 1, [384, 61, 383, 0], [
  (0, 1, .iconst 0, 0, 0, 0, []),
  (1, 1, .aload_n 0, 0, 0, 0, []),
  (2, 3, .invokevirtual 42, 68, 0, 0, [385, 0]),
  (5, 3, .invokestatic 45, 262, 2, 0, [390, 0]),
  (8, 1, .i2c, 0, 0, 0, []),
  (9, 1, .istore_n 2, 2, 0, 0, []),
  (10, 1, .iload_n 2, 2, 0, 0, []),
  (11, 3, .invokestatic 51, 69, 1, 0, [393, 0]),
  (14, 3, .ifCond .eq 22, 20, 0, 0, []),
  (17, 1, .aload_n 0, 0, 0, 0, []),
  (18, 1, .dup, 0, 0, 0, []),
  (19, 3, .getfield 22, 4, 2, 0, [193]),
  (22, 1, .iconst 1, 0, 0, 1, []),
  (23, 1, .iadd, 0, 0, 0, []),
  (24, 3, .putfield 22, 4, 2, 0, [193]),
  (27, 1, .aload_n 0, 0, 0, 0, []),
  (28, 3, .getfield 12, 4, 0, 0, [191]),
  (31, 1, .iload_n 2, 2, 0, 0, []),
  (32, 3, .invokevirtual 55, 53, 1, 0, [396, 0]),
  (35, 1, .ireturn, 0, 0, 0, []),
  (36, 1, .iload_n 1, 1, 0, 0, []),
  (37, 2, .bipush 6, 0, 0, 6, []),
  (39, 3, .if_icmp .ge 10, 26, 0, 0, []),
  (42, 1, .iload_n 2, 2, 0, 0, []),
  (43, 3, .invokestatic 59, 71, 1, 0, [404, 0]),
  (46, 3, .ifCond .ne 13, 32, 0, 0, []),
  (49, 1, .aload_n 0, 0, 0, 0, []),
  (50, 1, .aload_n 0, 0, 0, 0, []),
  (51, 3, .getfield 22, 4, 2, 0, [193]),
  (54, 3, .invokevirtual 62, 67, 1, 0, [410, 0]),
  (57, 1, .iconst (-1), 0, 0, (-1), []),
  (58, 1, .ireturn, 0, 0, 0, []),
  (59, 1, .aload_n 0, 0, 0, 0, []),
  (60, 1, .dup, 0, 0, 0, []),
  (61, 3, .getfield 22, 4, 2, 0, [193]),
  (64, 1, .iconst 1, 0, 0, 1, []),
  (65, 1, .iadd, 0, 0, 0, []),
  (66, 3, .putfield 22, 4, 2, 0, [193]),
  (69, 1, .iload_n 2, 2, 0, 0, []),
  (70, 3, .invokestatic 66, 70, 1, 0, [407, 0]),
  (73, 3, .ifCond .eq 11, 45, 0, 0, []),
  (76, 1, .aload_n 0, 0, 0, 0, []),
  (77, 1, .iload_n 2, 2, 0, 0, []),
  (78, 3, .invokevirtual 69, 65, 1, 0, [414, 0]),
  (81, 3, .goto 4, 46, 0, 0, []),
  (84, 1, .iconst 0, 0, 0, 0, []),
  (85, 1, .istore_n 3, 3, 0, 0, []),
  (86, 1, .aload_n 0, 0, 0, 0, []),
  (87, 3, .getfield 12, 4, 0, 0, [191]),
  (90, 1, .iload_n 2, 2, 0, 0, []),
  (91, 1, .iload_n 3, 3, 0, 0, []),
  (92, 3, .invokevirtual 72, 52, 2, 0, [418, 0]),
  (95, 2, .istore 4, 4, 0, 0, []),
  (97, 1, .aload_n 0, 0, 0, 0, []),
  (98, 2, .bipush 40, 0, 0, 40, []),
  (100, 3, .invokevirtual 76, 66, 1, 0, [419, 0]),
  (103, 1, .aload_n 0, 0, 0, 0, []),
  (104, 3, .getfield 26, 4, 3, 0, [194]),
  (107, 1, .iconst (-1), 0, 0, (-1), []),
  (108, 3, .if_icmp .ne 13, 66, 0, 0, []),
  (111, 1, .aload_n 0, 0, 0, 0, []),
  (112, 1, .iload_n 1, 1, 0, 0, []),
  (113, 1, .iconst 1, 0, 0, 1, []),
  (114, 1, .iadd, 0, 0, 0, []),
  (115, 3, .invokevirtual 32, 64, 1, 0, [381, 0]),
  (118, 3, .goto 4, 67, 0, 0, []),
  (121, 1, .iconst (-1), 0, 0, (-1), []),
  (122, 2, .istore 5, 5, 0, 0, []),
  (124, 1, .iconst (-1), 0, 0, (-1), []),
  (125, 2, .istore 6, 6, 0, 0, []),
  (127, 1, .iload_n 2, 2, 0, 0, []),
  (128, 3, .invokestatic 80, 72, 1, 0, [423, 0]),
  (131, 3, .ifCond .eq 30, 88, 0, 0, []),
  (134, 1, .aload_n 0, 0, 0, 0, []),
  (135, 2, .bipush 44, 0, 0, 44, []),
  (137, 3, .invokevirtual 76, 66, 1, 0, [419, 0]),
  (140, 1, .aload_n 0, 0, 0, 0, []),
  (141, 3, .getfield 26, 4, 3, 0, [194]),
  (144, 1, .iconst (-1), 0, 0, (-1), []),
  (145, 3, .if_icmp .ne 13, 86, 0, 0, []),
  (148, 1, .aload_n 0, 0, 0, 0, []),
  (149, 1, .iload_n 1, 1, 0, 0, []),
  (150, 1, .iconst 1, 0, 0, 1, []),
  (151, 1, .iadd, 0, 0, 0, []),
  (152, 3, .invokevirtual 32, 64, 1, 0, [381, 0]),
  (155, 3, .goto 4, 87, 0, 0, []),
  (158, 1, .iconst (-1), 0, 0, (-1), []),
  (159, 2, .istore 6, 6, 0, 0, []),
  (161, 1, .aload_n 0, 0, 0, 0, []),
  (162, 2, .bipush 41, 0, 0, 41, []),
  (164, 3, .invokevirtual 76, 66, 1, 0, [419, 0]),
  (167, 1, .aload_n 0, 0, 0, 0, []),
  (168, 3, .getfield 12, 4, 0, 0, [191]),
  (171, 2, .iload 4, 4, 0, 0, []),
  (173, 2, .iload 5, 5, 0, 0, []),
  (175, 2, .iload 6, 6, 0, 0, []),
  (177, 3, .invokevirtual 83, 54, 3, 0, [426, 0]),
  (180, 2, .iload 4, 4, 0, 0, []),
  (182, 1, .ireturn, 0, 0, 0, [])])
def tw_M65 : tw_Meth := (yX4_number, cX4_number, 5, (some .int), 1, 4, 1, [417, 61, 416, 3], [
  (0, 1, .aload_n 0, 0, 0, 0, []),
  (1, 3, .getfield 22, 4, 2, 0, [193]),
  (4, 1, .istore_n 2, 2, 0, 0, []),
  (5, 1, .iconst 0, 0, 0, 0, []),
  (6, 1, .istore_n 3, 3, 0, 0, []),
  (7, 1, .aload_n 0, 0, 0, 0, []),
  (8, 3, .getfield 22, 4, 2, 0, [193]),
  (11, 1, .iload_n 2, 2, 0, 0, []),
  (12, 1, .isub, 0, 0, 0, []),
  (13, 1, .iconst 2, 0, 0, 2, []),
  (14, 3, .if_icmp .ge 47, 35, 0, 0, []),
  (17, 1, .aload_n 0, 0, 0, 0, []),
  (18, 3, .invokevirtual 42, 68, 0, 0, [385, 0]),
  (21, 2, .bipush 48, 0, 0, 48, []),
  (23, 3, .if_icmp .lt 38, 35, 0, 0, []),
  (26, 1, .aload_n 0, 0, 0, 0, []),
  (27, 3, .invokevirtual 42, 68, 0, 0, [385, 0]),
  (30, 2, .bipush 57, 0, 0, 57, []),
  (32, 3, .if_icmp .gt 29, 35, 0, 0, []),
  (35, 1, .iload_n 3, 3, 0, 0, []),
  (36, 2, .bipush 10, 0, 0, 10, []),
  (38, 1, .imul, 0, 0, 0, []),
  (39, 1, .aload_n 0, 0, 0, 0, []),
  (40, 3, .invokevirtual 42, 68, 0, 0, [385, 0]),
  (43, 1, .iadd, 0, 0, 0, []),
  (44, 2, .bipush 48, 0, 0, 48, []),
  (46, 1, .isub, 0, 0, 0, []),
  (47, 1, .istore_n 3, 3, 0, 0, []),
  (48, 1, .aload_n 0, 0, 0, 0, []),
  (49, 1, .dup, 0, 0, 0, []),
  (50, 3, .getfield 22, 4, 2, 0, [193]),
  (53, 1, .iconst 1, 0, 0, 1, []),
  (54, 1, .iadd, 0, 0, 0, []),
  (55, 3, .putfield 22, 4, 2, 0, [193]),
  (58, 3, .goto (-51), 5, 0, 0, []),
  (61, 1, .iload_n 1, 1, 0, 0, []),
  (62, 2, .bipush 107, 0, 0, 107, []),
  (64, 3, .if_icmp .eq 9, 41, 0, 0, []),
  (67, 1, .iload_n 1, 1, 0, 0, []),
  (68, 2, .bipush 120, 0, 0, 120, []),
  (70, 3, .if_icmp .ne 7, 43, 0, 0, []),
  (73, 1, .iconst 1, 0, 0, 1, []),
  (74, 3, .goto 4, 44, 0, 0, []),
  (77, 1, .iconst 0, 0, 0, 0, []),
  (78, 2, .istore 4, 4, 0, 0, []),
  (80, 1, .aload_n 0, 0, 0, 0, []),
  (81, 3, .getfield 22, 4, 2, 0, [193]),
  (84, 1, .iload_n 2, 2, 0, 0, []),
  (85, 3, .if_icmp .eq 9, 52, 0, 0, []),
  (88, 1, .iload_n 3, 3, 0, 0, []),
  (89, 2, .iload 4, 4, 0, 0, []),
  (91, 3, .if_icmp .ge 8, 55, 0, 0, []),
  (94, 1, .aload_n 0, 0, 0, 0, []),
  (95, 1, .iload_n 2, 2, 0, 0, []),
  (96, 3, .invokevirtual 62, 67, 1, 0, [410, 0]),
  (99, 1, .iload_n 3, 3, 0, 0, []),
  (100, 1, .ireturn, 0, 0, 0, [])])
def tw_M66 : tw_Meth := (yX4_expect, cX4_expect, 2, none, 1, 4, 1, [422, 61, 421, 4], [
  (0, 1, .aload_n 0, 0, 0, 0, []),
  (1, 3, .getfield 26, 4, 3, 0, [194]),
  (4, 1, .iconst (-1), 0, 0, (-1), []),
  (5, 3, .if_icmp .eq 4, 5, 0, 0, []),
  (8, 1, .return_, 0, 0, 0, []),
  (9, 1, .aload_n 0, 0, 0, 0, []),
  (10, 3, .invokevirtual 42, 68, 0, 0, [385, 0]),
  (13, 1, .iload_n 1, 1, 0, 0, []),
  (14, 3, .if_icmp .ne 16, 16, 0, 0, []),
  (17, 1, .aload_n 0, 0, 0, 0, []),
  (18, 1, .dup, 0, 0, 0, []),
  (19, 3, .getfield 22, 4, 2, 0, [193]),
  (22, 1, .iconst 1, 0, 0, 1, []),
  (23, 1, .iadd, 0, 0, 0, []),
  (24, 3, .putfield 22, 4, 2, 0, [193]),
  (27, 3, .goto 11, 20, 0, 0, []),
  (30, 1, .aload_n 0, 0, 0, 0, []),
  (31, 1, .aload_n 0, 0, 0, 0, []),
  (32, 3, .getfield 22, 4, 2, 0, [193]),
  (35, 3, .invokevirtual 62, 67, 1, 0, [410, 0]),
  (38, 1, .return_, 0, 0, 0, [])])
def tw_M67 : tw_Meth := (yX4_fail, cX4_fail, 2, none, 1, 4, 1, [413, 61, 412, 2], [
  (0, 1, .aload_n 0, 0, 0, 0, []),
  (1, 3, .getfield 26, 4, 3, 0, [194]),
  (4, 1, .iconst (-1), 0, 0, (-1), []),
  (5, 3, .if_icmp .ne 8, 7, 0, 0, []),
  (8, 1, .aload_n 0, 0, 0, 0, []),
  (9, 1, .iload_n 1, 1, 0, 0, []),
  (10, 3, .putfield 26, 4, 3, 0, [194]),
  (13, 1, .return_, 0, 0, 0, [])])
def tw_M68 : tw_Meth := (yX4_next, cX4_next, 1, (some .int), 1, 4, 0, [388, 61, 387, 1], [
  (0, 1, .aload_n 0, 0, 0, 0, []),
  (1, 3, .getfield 18, 4, 1, 0, [192]),
  (4, 3, .ifnonnull 7, 5, 0, 0, []),
  (7, 1, .iconst (-1), 0, 0, (-1), []),
  (8, 3, .goto 14, 10, 0, 0, []),
  (11, 1, .aload_n 0, 0, 0, 0, []),
  (12, 3, .getfield 18, 4, 1, 0, [192]),
  (15, 1, .aload_n 0, 0, 0, 0, []),
  (16, 3, .getfield 22, 4, 2, 0, [193]),
  (19, 3, .invokevirtual 87, 125, 1, 0, [389, 0]),
  (22, 1, .ireturn, 0, 0, 0, [])])
def tw_M69 : tw_Meth := (yX4_isLeaf, cX4_isLeaf, 1, (some .boolean), 0, 4, 1, [395, 61, 394], [
  (0, 1, .iload_n 0, 0, 0, 0, []),
  (1, 2, .bipush 105, 0, 0, 105, []),
  (3, 3, .if_icmp .eq 21, 12, 0, 0, []),
  (6, 1, .iload_n 0, 0, 0, 0, []),
  (7, 2, .bipush 102, 0, 0, 102, []),
  (9, 3, .if_icmp .eq 15, 12, 0, 0, []),
  (12, 1, .iload_n 0, 0, 0, 0, []),
  (13, 2, .bipush 98, 0, 0, 98, []),
  (15, 3, .if_icmp .eq 9, 12, 0, 0, []),
  (18, 1, .iload_n 0, 0, 0, 0, []),
  (19, 2, .bipush 104, 0, 0, 104, []),
  (21, 3, .if_icmp .ne 7, 14, 0, 0, []),
  (24, 1, .iconst 1, 0, 0, 1, []),
  (25, 3, .goto 4, 15, 0, 0, []),
  (28, 1, .iconst 0, 0, 0, 0, []),
  (29, 1, .ireturn, 1, 0, 0, [])])
def tw_M70 : tw_Meth := (yX4_hasNumber, cX4_hasNumber, 1, (some .boolean), 0, 4, 1, [409, 61, 408], [
  (0, 1, .iload_n 0, 0, 0, 0, []),
  (1, 2, .bipush 107, 0, 0, 107, []),
  (3, 3, .if_icmp .eq 21, 12, 0, 0, []),
  (6, 1, .iload_n 0, 0, 0, 0, []),
  (7, 2, .bipush 99, 0, 0, 99, []),
  (9, 3, .if_icmp .eq 15, 12, 0, 0, []),
  (12, 1, .iload_n 0, 0, 0, 0, []),
  (13, 2, .bipush 120, 0, 0, 120, []),
  (15, 3, .if_icmp .eq 9, 12, 0, 0, []),
  (18, 1, .iload_n 0, 0, 0, 0, []),
  (19, 2, .bipush 115, 0, 0, 115, []),
  (21, 3, .if_icmp .ne 7, 14, 0, 0, []),
  (24, 1, .iconst 1, 0, 0, 1, []),
  (25, 3, .goto 4, 15, 0, 0, []),
  (28, 1, .iconst 0, 0, 0, 0, []),
  (29, 1, .ireturn, 1, 0, 0, [])])
def tw_M71 : tw_Meth := (yX4_isOpener, cX4_isOpener, 1, (some .boolean), 0, 4, 1, [406, 61, 405], [
  (0, 1, .iload_n 0, 0, 0, 0, []),
  (1, 3, .invokestatic 66, 70, 1, 0, [407, 0]),
  (4, 3, .ifCond .ne 27, 15, 0, 0, []),
  (7, 1, .iload_n 0, 0, 0, 0, []),
  (8, 2, .bipush 100, 0, 0, 100, []),
  (10, 3, .if_icmp .eq 21, 15, 0, 0, []),
  (13, 1, .iload_n 0, 0, 0, 0, []),
  (14, 2, .bipush 114, 0, 0, 114, []),
  (16, 3, .if_icmp .eq 15, 15, 0, 0, []),
  (19, 1, .iload_n 0, 0, 0, 0, []),
  (20, 2, .bipush 109, 0, 0, 109, []),
  (22, 3, .if_icmp .eq 9, 15, 0, 0, []),
  (25, 1, .iload_n 0, 0, 0, 0, []),
  (26, 2, .bipush 116, 0, 0, 116, []),
  (28, 3, .if_icmp .ne 7, 17, 0, 0, []),
  (31, 1, .iconst 1, 0, 0, 1, []),
  (32, 3, .goto 4, 18, 0, 0, []),
  (35, 1, .iconst 0, 0, 0, 0, []),
  (36, 1, .ireturn, 1, 0, 0, [])])
def tw_M72 : tw_Meth := (yX4_isPair, cX4_isPair, 1, (some .boolean), 0, 4, 1, [425, 61, 424], [
  (0, 1, .iload_n 0, 0, 0, 0, []),
  (1, 2, .bipush 107, 0, 0, 107, []),
  (3, 3, .if_icmp .eq 21, 12, 0, 0, []),
  (6, 1, .iload_n 0, 0, 0, 0, []),
  (7, 2, .bipush 99, 0, 0, 99, []),
  (9, 3, .if_icmp .eq 15, 12, 0, 0, []),
  (12, 1, .iload_n 0, 0, 0, 0, []),
  (13, 2, .bipush 120, 0, 0, 120, []),
  (15, 3, .if_icmp .eq 9, 12, 0, 0, []),
  (18, 1, .iload_n 0, 0, 0, 0, []),
  (19, 2, .bipush 116, 0, 0, 116, []),
  (21, 3, .if_icmp .ne 7, 14, 0, 0, []),
  (24, 1, .iconst 1, 0, 0, 1, []),
  (25, 3, .goto 4, 15, 0, 0, []),
  (28, 1, .iconst 0, 0, 0, 0, []),
  (29, 1, .ireturn, 1, 0, 0, [])])
def tw_M73 : tw_Meth := (yX5_init, cX5_init, 2, none, 2, 5, 0, [253, 65, 252], [
  (0, 1, .aload_n 0, 0, 0, 0, []),
  (1, 3, .invokespecial 3, 999, 0, 0, [254, 76, 77]),
  (4, 1, .aload_n 0, 0, 0, 0, []),
  (5, 2, .bipush 80, 0, 0, 80, []),
  (7, 2, .newarray .int, 20, 0, 0, [122]),
  (9, 3, .putfield 9, 5, 0, 0, [255]),
  (12, 1, .aload_n 0, 0, 0, 0, []),
  (13, 1, .iconst 4, 0, 0, 4, []),
  (14, 2, .newarray .int, 20, 0, 0, [122]),
  (16, 3, .putfield 15, 5, 1, 0, [256]),
  (19, 1, .iconst 0, 0, 0, 0, []),
  (20, 1, .istore_n 1, 1, 0, 0, []),
  (21, 1, .iload_n 1, 1, 0, 0, []),
  (22, 1, .iconst 4, 0, 0, 4, []),
  (23, 3, .if_icmp .ge 16, 22, 0, 0, []),
  (26, 1, .aload_n 0, 0, 0, 0, []),
  (27, 3, .getfield 15, 5, 1, 0, [256]),
  (30, 1, .iload_n 1, 1, 0, 0, []),
  (31, 1, .iconst (-1), 0, 0, (-1), []),
  (32, 1, .iastore, 0, 0, 0, []),
  (33, 3, .iinc 1 1, 1, 0, 1, []),
  (36, 3, .goto (-15), 12, 0, 0, []),
  (39, 1, .return_, 0, 0, 0, [])])
def tw_M74 : tw_Meth := (yX5_has, cX5_has, 2, (some .boolean), 1, 5, 1, [961, 65, 959, 960], [
  (0, 1, .iload_n 1, 1, 0, 0, []),
  (1, 3, .ifCond .lt 12, 7, 0, 0, []),
  (4, 1, .iload_n 1, 1, 0, 0, []),
  (5, 1, .iconst 4, 0, 0, 4, []),
  (6, 3, .if_icmp .ge 7, 7, 0, 0, []),
  (9, 1, .iconst 1, 0, 0, 1, []),
  (10, 3, .goto 4, 8, 0, 0, []),
  (13, 1, .iconst 0, 0, 0, 0, []),
  (14, 1, .ireturn, 1, 0, 0, [])])
def tw_M75 : tw_Meth := (yX5_isNothing, cX5_isNothing, 2, (some .boolean), 1, 5, 1, [974, 65, 972, 973], [
  (0, 1, .aload_n 0, 0, 0, 0, []),
  (1, 1, .iload_n 1, 1, 0, 0, []),
  (2, 3, .invokevirtual 18, 74, 1, 0, [966, 0]),
  (5, 3, .ifCond .eq 13, 10, 0, 0, []),
  (8, 1, .aload_n 0, 0, 0, 0, []),
  (9, 3, .getfield 15, 5, 1, 0, [256]),
  (12, 1, .iload_n 1, 1, 0, 0, []),
  (13, 1, .iaload, 0, 0, 0, []),
  (14, 1, .iconst (-1), 0, 0, (-1), []),
  (15, 3, .if_icmp .ne 7, 12, 0, 0, []),
  (18, 1, .iconst 1, 0, 0, 1, []),
  (19, 3, .goto 4, 13, 0, 0, []),
  (22, 1, .iconst 0, 0, 0, 0, []),
  (23, 1, .ireturn, 1, 0, 0, [])])
def tw_M76 : tw_Meth := (yX5_hasPlace, cX5_hasPlace, 3, (some .boolean), 1, 5, 2, [978, 65, 976, 977], [
  (0, 1, .aload_n 0, 0, 0, 0, []),
  (1, 1, .iload_n 1, 1, 0, 0, []),
  (2, 3, .invokevirtual 18, 74, 1, 0, [966, 0]),
  (5, 3, .ifCond .eq 21, 14, 0, 0, []),
  (8, 1, .iload_n 2, 2, 0, 0, []),
  (9, 3, .ifCond .lt 17, 14, 0, 0, []),
  (12, 1, .iload_n 2, 2, 0, 0, []),
  (13, 1, .aload_n 0, 0, 0, 0, []),
  (14, 3, .getfield 15, 5, 1, 0, [256]),
  (17, 1, .iload_n 1, 1, 0, 0, []),
  (18, 1, .iaload, 0, 0, 0, []),
  (19, 3, .if_icmp .ge 7, 14, 0, 0, []),
  (22, 1, .iconst 1, 0, 0, 1, []),
  (23, 3, .goto 4, 15, 0, 0, []),
  (26, 1, .iconst 0, 0, 0, 0, []),
  (27, 1, .ireturn, 1, 0, 0, [])])
def tw_M77 : tw_Meth := (yX5_hasPlaceBehind, cX5_hasPlaceBehind, 4, (some .boolean), 1, 5, 3, [1002, 65, 1000, 1001], [
  (0, 1, .aload_n 0, 0, 0, 0, []),
  (1, 1, .iload_n 1, 1, 0, 0, []),
  (2, 1, .iload_n 2, 2, 0, 0, []),
  (3, 3, .invokevirtual 22, 76, 2, 0, [983, 0]),
  (6, 3, .ifCond .eq 18, 14, 0, 0, []),
  (9, 1, .aload_n 0, 0, 0, 0, []),
  (10, 1, .iload_n 1, 1, 0, 0, []),
  (11, 1, .iload_n 2, 2, 0, 0, []),
  (12, 1, .iload_n 3, 3, 0, 0, []),
  (13, 1, .iadd, 0, 0, 0, []),
  (14, 3, .invokevirtual 22, 76, 2, 0, [983, 0]),
  (17, 3, .ifCond .eq 7, 14, 0, 0, []),
  (20, 1, .iconst 1, 0, 0, 1, []),
  (21, 3, .goto 4, 15, 0, 0, []),
  (24, 1, .iconst 0, 0, 0, 0, []),
  (25, 1, .ireturn, 1, 0, 0, [])])
def tw_M78 : tw_Meth := (yX5_renew, cX5_renew, 4, none, 1, 5, 2, [965, 65, 963, 964], [
  (0, 1, .aload_n 0, 0, 0, 0, []),
  (1, 1, .iload_n 1, 1, 0, 0, []),
  (2, 3, .invokevirtual 18, 74, 1, 0, [966, 0]),
  (5, 3, .ifCond .eq 13, 9, 0, 0, []),
  (8, 1, .iload_n 2, 2, 0, 0, []),
  (9, 3, .ifCond .lt 9, 9, 0, 0, []),
  (12, 1, .iload_n 2, 2, 0, 0, []),
  (13, 2, .bipush 20, 0, 0, 20, []),
  (15, 3, .if_icmp .le 4, 10, 0, 0, []),
  (18, 1, .return_, 0, 0, 0, []),
  (19, 1, .aload_n 0, 0, 0, 0, []),
  (20, 3, .getfield 15, 5, 1, 0, [256]),
  (23, 1, .iload_n 1, 1, 0, 0, []),
  (24, 1, .iload_n 2, 2, 0, 0, []),
  (25, 1, .iastore, 0, 0, 0, []),
  (26, 1, .iconst 0, 0, 0, 0, []),
  (27, 1, .istore_n 3, 3, 0, 0, []),
  (28, 1, .iload_n 3, 3, 0, 0, []),
  (29, 1, .iload_n 2, 2, 0, 0, []),
  (30, 3, .if_icmp .ge 21, 31, 0, 0, []),
  (33, 1, .aload_n 0, 0, 0, 0, []),
  (34, 3, .getfield 9, 5, 0, 0, [255]),
  (37, 1, .iload_n 1, 1, 0, 0, []),
  (38, 2, .bipush 20, 0, 0, 20, []),
  (40, 1, .imul, 0, 0, 0, []),
  (41, 1, .iload_n 3, 3, 0, 0, []),
  (42, 1, .iadd, 0, 0, 0, []),
  (43, 1, .iconst 0, 0, 0, 0, []),
  (44, 1, .iastore, 0, 0, 0, []),
  (45, 3, .iinc 3 1, 3, 0, 1, []),
  (48, 3, .goto (-20), 17, 0, 0, []),
  (51, 1, .return_, 0, 0, 0, [])])
def tw_M79 : tw_Meth := (yX5_read, cX5_read, 3, (some .int), 1, 5, 2, [991, 65, 989, 990], [
  (0, 1, .aload_n 0, 0, 0, 0, []),
  (1, 1, .iload_n 1, 1, 0, 0, []),
  (2, 1, .iload_n 2, 2, 0, 0, []),
  (3, 3, .invokevirtual 22, 76, 2, 0, [983, 0]),
  (6, 3, .ifCond .eq 17, 14, 0, 0, []),
  (9, 1, .aload_n 0, 0, 0, 0, []),
  (10, 3, .getfield 9, 5, 0, 0, [255]),
  (13, 1, .iload_n 1, 1, 0, 0, []),
  (14, 2, .bipush 20, 0, 0, 20, []),
  (16, 1, .imul, 0, 0, 0, []),
  (17, 1, .iload_n 2, 2, 0, 0, []),
  (18, 1, .iadd, 0, 0, 0, []),
  (19, 1, .iaload, 0, 0, 0, []),
  (20, 3, .goto 5, 15, 0, 0, []),
  (23, 2, .ldc 26, 0, 0, (-2000000000), [992]),
  (25, 1, .ireturn, 0, 0, 0, [])])
def tw_M80 : tw_Meth := (yX5_write, cX5_write, 4, none, 1, 5, 3, [982, 65, 980, 981], [
  (0, 1, .aload_n 0, 0, 0, 0, []),
  (1, 1, .iload_n 1, 1, 0, 0, []),
  (2, 1, .iload_n 2, 2, 0, 0, []),
  (3, 3, .invokevirtual 22, 76, 2, 0, [983, 0]),
  (6, 3, .ifCond .eq 15, 14, 0, 0, []),
  (9, 1, .aload_n 0, 0, 0, 0, []),
  (10, 3, .getfield 9, 5, 0, 0, [255]),
  (13, 1, .iload_n 1, 1, 0, 0, []),
  (14, 2, .bipush 20, 0, 0, 20, []),
  (16, 1, .imul, 0, 0, 0, []),
  (17, 1, .iload_n 2, 2, 0, 0, []),
  (18, 1, .iadd, 0, 0, 0, []),
  (19, 1, .iload_n 3, 3, 0, 0, []),
  (20, 1, .iastore, 0, 0, 0, []),
  (21, 1, .return_, 0, 0, 0, [])])
def tw_M81 : tw_Meth := (yX6_init, cX6_init, 2, none, 2, 6, 0, [96, 57, 95], [
  (0, 1, .aload_n 0, 0, 0, 0, []),
  (1, 3, .invokespecial 3, 999, 0, 0, [97, 76, 77]),
  (4, 1, .aload_n 0, 0, 0, 0, []),
  (5, 2, .bipush 10, 0, 0, 10, []),
  (7, 3, .anewarray 9, 24, 0, 0, [98, 99]),
  (10, 3, .putfield 11, 6, 0, 0, [167]),
  (13, 1, .aload_n 0, 0, 0, 0, []),
  (14, 2, .bipush 10, 0, 0, 10, []),
  (16, 2, .newarray .int, 20, 0, 0, [122]),
  (18, 3, .putfield 17, 6, 1, 0, [168]),
  (21, 1, .aload_n 0, 0, 0, 0, []),
  (22, 3, .new 21, 1, 0, 0, [100, 101, 58]),
  (25, 1, .dup, 0, 0, 0, []),
  (26, 3, .invokespecial 23, 15, 0, 0, [102, 1]),
  (29, 3, .putfield 24, 6, 2, 0, [169]),
  (32, 1, .aload_n 0, 0, 0, 0, []),
  (33, 3, .new 28, 3, 0, 0, [123, 124, 59]),
  (36, 1, .dup, 0, 0, 0, []),
  (37, 3, .invokespecial 30, 49, 0, 0, [125, 1]),
  (40, 3, .putfield 31, 6, 3, 0, [170]),
  (43, 1, .iconst 0, 0, 0, 0, []),
  (44, 1, .istore_n 1, 1, 0, 0, []),
  (45, 1, .iload_n 1, 1, 0, 0, []),
  (46, 2, .bipush 10, 0, 0, 10, []),
  (48, 3, .if_icmp .ge 22, 34, 0, 0, []),
  (51, 1, .aload_n 0, 0, 0, 0, []),
  (52, 3, .getfield 11, 6, 0, 0, [167]),
  (55, 1, .iload_n 1, 1, 0, 0, []),
  (56, 3, .new 9, 0, 0, 0, [98, 149, 60]),
  (59, 1, .dup, 0, 0, 0, []),
  (60, 3, .invokespecial 35, 0, 0, 0, [150, 1]),
  (63, 1, .aastore, 0, 0, 0, []),
  (64, 3, .iinc 1 1, 1, 0, 1, []),
  (67, 3, .goto (-22), 22, 0, 0, []),
  (70, 1, .return_, 0, 0, 0, [])])
def tw_M82 : tw_Meth := (yX6_threaded, cX6_threaded, 1, (some .int), 1, 6, 0, [368, 57, 366, 367], [
  (0, 1, .aload_n 0, 0, 0, 0, []),
  (1, 3, .getfield 36, 6, 4, 0, [171]),
  (4, 1, .ireturn, 0, 0, 0, [])])
def tw_M83 : tw_Meth := (yX6_cloth, cX6_cloth, 1, (some (.object "CardLoom$Cloth")), 1, 6, 0, [471, 57, 469, 470], [
  (0, 1, .aload_n 0, 0, 0, 0, []),
  (1, 3, .getfield 24, 6, 2, 0, [169]),
  (4, 1, .areturn, 0, 0, 0, [])])
def tw_M84 : tw_Meth := (yX6_picks, cX6_picks, 1, (some .int), 1, 6, 0, [492, 57, 490, 491], [
  (0, 1, .aload_n 0, 0, 0, 0, []),
  (1, 3, .getfield 24, 6, 2, 0, [169]),
  (4, 3, .invokevirtual 40, 17, 0, 0, [493, 0]),
  (7, 1, .ireturn, 0, 0, 0, [])])
def tw_M85 : tw_Meth := (yX6_cardAt, cX6_cardAt, 2, (some (.object "CardLoom$Card")), 1, 6, 1, [345, 57, 343, 344], [
  (0, 1, .iload_n 1, 1, 0, 0, []),
  (1, 3, .ifCond .lt 26, 14, 0, 0, []),
  (4, 1, .iload_n 1, 1, 0, 0, []),
  (5, 1, .aload_n 0, 0, 0, 0, []),
  (6, 3, .getfield 36, 6, 4, 0, [171]),
  (9, 3, .if_icmp .ge 18, 14, 0, 0, []),
  (12, 1, .iload_n 1, 1, 0, 0, []),
  (13, 2, .bipush 10, 0, 0, 10, []),
  (15, 3, .if_icmp .ge 12, 14, 0, 0, []),
  (18, 1, .aload_n 0, 0, 0, 0, []),
  (19, 3, .getfield 11, 6, 0, 0, [167]),
  (22, 1, .iload_n 1, 1, 0, 0, []),
  (23, 1, .aaload, 0, 0, 0, []),
  (24, 3, .goto 4, 15, 0, 0, []),
  (27, 1, .aconst_null, 0, 0, 0, []),
  (28, 1, .areturn, 0, 0, 0, [])])
def tw_M86 : tw_Meth := (yX6_threadBy, cX6_threadBy, 4, none, 1, 6, 1, [335, 57, 333, 334], [
  (0, 1, .aload_n 0, 0, 0, 0, []),
  (1, 2, .bipush 10, 0, 0, 10, []),
  (3, 1, .aload_n 1, 1, 0, 0, []),
  (4, 3, .invokestatic 44, 128, 1, 0, [336, 0]),
  (7, 3, .invokestatic 50, 263, 2, 0, [339, 0]),
  (10, 3, .putfield 36, 6, 4, 0, [171]),
  (13, 1, .iconst 0, 0, 0, 0, []),
  (14, 1, .istore_n 2, 2, 0, 0, []),
  (15, 1, .iload_n 2, 2, 0, 0, []),
  (16, 1, .aload_n 0, 0, 0, 0, []),
  (17, 3, .getfield 36, 6, 4, 0, [171]),
  (20, 3, .if_icmp .ge 25, 24, 0, 0, []),
  (23, 1, .aload_n 0, 0, 0, 0, []),
  (24, 1, .iload_n 2, 2, 0, 0, []),
  (25, 3, .invokevirtual 56, 85, 1, 0, [342, 0]),
  (28, 1, .astore_n 3, 3, 0, 0, []),
  (29, 1, .aload_n 3, 3, 0, 0, []),
  (30, 3, .ifnull 9, 22, 0, 0, []),
  (33, 1, .aload_n 1, 1, 0, 0, []),
  (34, 1, .iload_n 2, 2, 0, 0, []),
  (35, 1, .aload_n 3, 3, 0, 0, []),
  (36, 3, .invokestatic 60, 129, 3, 0, [346, 0]),
  (39, 3, .iinc 2 1, 2, 0, 1, []),
  (42, 3, .goto (-27), 8, 0, 0, []),
  (45, 1, .aload_n 0, 0, 0, 0, []),
  (46, 3, .getfield 24, 6, 2, 0, [169]),
  (49, 1, .aload_n 0, 0, 0, 0, []),
  (50, 3, .getfield 36, 6, 4, 0, [171]),
  (53, 3, .invokevirtual 64, 16, 1, 0, [361, 0]),
  (56, 1, .return_, 0, 0, 0, [])])
def tw_M87 : tw_Meth := (yX6_spellOn, cX6_spellOn, 4, none, 1, 6, 1, [923, 57, 921, 922], [
  (0, 1, .aload_n 1, 1, 0, 0, []),
  (1, 3, .invokevirtual 68, 124, 0, 0, [924, 0]),
  (4, 1, .iconst 0, 0, 0, 0, []),
  (5, 1, .istore_n 2, 2, 0, 0, []),
  (6, 1, .iload_n 2, 2, 0, 0, []),
  (7, 1, .aload_n 0, 0, 0, 0, []),
  (8, 3, .getfield 36, 6, 4, 0, [171]),
  (11, 3, .if_icmp .ge 34, 24, 0, 0, []),
  (14, 1, .aload_n 0, 0, 0, 0, []),
  (15, 1, .iload_n 2, 2, 0, 0, []),
  (16, 3, .invokevirtual 56, 85, 1, 0, [342, 0]),
  (19, 1, .astore_n 3, 3, 0, 0, []),
  (20, 1, .aload_n 3, 3, 0, 0, []),
  (21, 3, .ifnull 18, 22, 0, 0, []),
  (24, 1, .iload_n 2, 2, 0, 0, []),
  (25, 3, .ifCond .le 9, 19, 0, 0, []),
  (28, 1, .aload_n 1, 1, 0, 0, []),
  (29, 2, .bipush 59, 0, 0, 59, []),
  (31, 3, .invokevirtual 73, 123, 1, 0, [925, 0]),
  (34, 1, .aload_n 3, 3, 0, 0, []),
  (35, 1, .aload_n 1, 1, 0, 0, []),
  (36, 3, .invokestatic 76, 130, 2, 0, [926, 0]),
  (39, 3, .iinc 2 1, 2, 0, 1, []),
  (42, 3, .goto (-36), 4, 0, 0, []),
  (45, 1, .return_, 0, 0, 0, [])])
def tw_M88 : tw_Meth := (yX6_obey, cX6_obey, 2, none, 1, 6, 1, [438, 57, 436, 437], [
  (0, 1, .aload_n 0, 0, 0, 0, []),
  (1, 3, .getfield 31, 6, 3, 0, [170]),
  (4, 1, .aload_n 1, 1, 0, 0, []),
  (5, 3, .invokevirtual 80, 60, 1, 0, [439, 0]),
  (8, 1, .return_, 0, 0, 0, [])])
def tw_M89 : tw_Meth := (yX6_nextTurning, cX6_nextTurning, 3, (some .int), 1, 6, 2, [488, 57, 486, 487], [
  (0, 1, .aload_n 0, 0, 0, 0, []),
  (1, 3, .getfield 31, 6, 3, 0, [170]),
  (4, 1, .iload_n 1, 1, 0, 0, []),
  (5, 1, .aload_n 0, 0, 0, 0, []),
  (6, 3, .invokevirtual 84, 84, 0, 0, [489, 0]),
  (9, 1, .iload_n 2, 2, 0, 0, []),
  (10, 1, .iadd, 0, 0, 0, []),
  (11, 1, .aload_n 0, 0, 0, 0, []),
  (12, 3, .getfield 36, 6, 4, 0, [171]),
  (15, 3, .invokevirtual 87, 55, 3, 0, [497, 0]),
  (18, 1, .ireturn, 0, 0, 0, [])])
def tw_M90 : tw_Meth := (yX6_pickSet, cX6_pickSet, 4, (some .boolean), 1, 6, 2, [556, 57, 554, 555], [
  (0, 1, .iconst 0, 0, 0, 0, []),
  (1, 1, .istore_n 3, 3, 0, 0, []),
  (2, 1, .iload_n 3, 3, 0, 0, []),
  (3, 2, .bipush 10, 0, 0, 10, []),
  (5, 3, .if_icmp .ge 29, 21, 0, 0, []),
  (8, 1, .aload_n 0, 0, 0, 0, []),
  (9, 3, .getfield 17, 6, 1, 0, [168]),
  (12, 1, .iload_n 3, 3, 0, 0, []),
  (13, 1, .iload_n 1, 1, 0, 0, []),
  (14, 1, .iload_n 3, 3, 0, 0, []),
  (15, 1, .ishr, 0, 0, 0, []),
  (16, 1, .iconst 1, 0, 0, 1, []),
  (17, 1, .iand, 0, 0, 0, []),
  (18, 1, .iconst 1, 0, 0, 1, []),
  (19, 3, .if_icmp .ne 7, 17, 0, 0, []),
  (22, 1, .iload_n 2, 2, 0, 0, []),
  (23, 3, .goto 4, 18, 0, 0, []),
  (26, 1, .iconst 0, 0, 0, 0, []),
  (27, 1, .iastore, 0, 0, 0, []),
  (28, 3, .iinc 3 1, 3, 0, 1, []),
  (31, 3, .goto (-29), 2, 0, 0, []),
  (34, 1, .aload_n 0, 0, 0, 0, []),
  (35, 3, .invokevirtual 91, 93, 0, 0, [557, 0]),
  (38, 1, .ireturn, 1, 0, 0, [])])
def tw_M91 : tw_Meth := (yX6_pickByLaw, cX6_pickByLaw, 2, (some .boolean), 1, 6, 0, [623, 57, 621, 622], [
  (0, 1, .iconst 0, 0, 0, 0, []),
  (1, 1, .istore_n 1, 1, 0, 0, []),
  (2, 1, .iload_n 1, 1, 0, 0, []),
  (3, 2, .bipush 10, 0, 0, 10, []),
  (5, 3, .if_icmp .ge 21, 15, 0, 0, []),
  (8, 1, .aload_n 0, 0, 0, 0, []),
  (9, 3, .getfield 17, 6, 1, 0, [168]),
  (12, 1, .iload_n 1, 1, 0, 0, []),
  (13, 1, .aload_n 0, 0, 0, 0, []),
  (14, 1, .iload_n 1, 1, 0, 0, []),
  (15, 1, .iconst 0, 0, 0, 0, []),
  (16, 3, .invokevirtual 95, 89, 2, 0, [624, 0]),
  (19, 1, .iastore, 0, 0, 0, []),
  (20, 3, .iinc 1 1, 1, 0, 1, []),
  (23, 3, .goto (-21), 2, 0, 0, []),
  (26, 1, .aload_n 0, 0, 0, 0, []),
  (27, 3, .invokevirtual 91, 93, 0, 0, [557, 0]),
  (30, 1, .ireturn, 1, 0, 0, [])])
def tw_M92 : tw_Meth := (yX6_pickDrafted, cX6_pickDrafted, 4, (some .boolean), 1, 6, 2, [820, 57, 818, 819], [
  (0, 1, .iconst 0, 0, 0, 0, []),
  (1, 1, .istore_n 3, 3, 0, 0, []),
  (2, 1, .iload_n 3, 3, 0, 0, []),
  (3, 2, .bipush 10, 0, 0, 10, []),
  (5, 3, .if_icmp .ge 21, 15, 0, 0, []),
  (8, 1, .aload_n 0, 0, 0, 0, []),
  (9, 3, .getfield 17, 6, 1, 0, [168]),
  (12, 1, .iload_n 3, 3, 0, 0, []),
  (13, 1, .aload_n 1, 1, 0, 0, []),
  (14, 1, .iload_n 3, 3, 0, 0, []),
  (15, 1, .iload_n 2, 2, 0, 0, []),
  (16, 3, .invokevirtual 98, 48, 2, 0, [821, 0]),
  (19, 1, .iastore, 0, 0, 0, []),
  (20, 3, .iinc 3 1, 3, 0, 1, []),
  (23, 3, .goto (-21), 2, 0, 0, []),
  (26, 1, .aload_n 0, 0, 0, 0, []),
  (27, 3, .invokevirtual 91, 93, 0, 0, [557, 0]),
  (30, 1, .ireturn, 1, 0, 0, [])])
def tw_M93 : tw_Meth := (yX6_pick, cX6_pick, 3, (some .boolean), 1, 6, 0, [560, 57, 559, 7], [
  (0, 1, .aload_n 0, 0, 0, 0, []),
  (1, 3, .getfield 24, 6, 2, 0, [169]),
  (4, 3, .invokevirtual 103, 19, 0, 0, [561, 0]),
  (7, 1, .iconst 1, 0, 0, 1, []),
  (8, 3, .if_icmp .lt 10, 8, 0, 0, []),
  (11, 1, .aload_n 0, 0, 0, 0, []),
  (12, 3, .invokevirtual 106, 94, 0, 0, [562, 0]),
  (15, 3, .ifCond .eq 5, 10, 0, 0, []),
  (18, 1, .iconst 0, 0, 0, 0, []),
  (19, 1, .ireturn, 1, 0, 0, []),
  (20, 1, .iconst 0, 0, 0, 0, []),
  (21, 1, .istore_n 1, 1, 0, 0, []),
  (22, 1, .iload_n 1, 1, 0, 0, []),
  (23, 1, .aload_n 0, 0, 0, 0, []),
  (24, 3, .getfield 36, 6, 4, 0, [171]),
  (27, 3, .if_icmp .ge 31, 32, 0, 0, []),
  (30, 1, .aload_n 0, 0, 0, 0, []),
  (31, 1, .iload_n 1, 1, 0, 0, []),
  (32, 3, .invokevirtual 56, 85, 1, 0, [342, 0]),
  (35, 1, .astore_n 2, 2, 0, 0, []),
  (36, 1, .aload_n 2, 2, 0, 0, []),
  (37, 3, .ifnull 15, 30, 0, 0, []),
  (40, 1, .aload_n 0, 0, 0, 0, []),
  (41, 1, .iload_n 1, 1, 0, 0, []),
  (42, 1, .aload_n 2, 2, 0, 0, []),
  (43, 1, .aload_n 0, 0, 0, 0, []),
  (44, 3, .getfield 17, 6, 1, 0, [168]),
  (47, 1, .iload_n 1, 1, 0, 0, []),
  (48, 1, .iaload, 0, 0, 0, []),
  (49, 3, .invokevirtual 109, 95, 3, 0, [576, 0]),
  (52, 3, .iinc 1 1, 1, 0, 1, []),
  (55, 3, .goto (-33), 12, 0, 0, []),
  (58, 1, .aload_n 0, 0, 0, 0, []),
  (59, 3, .getfield 24, 6, 2, 0, [169]),
  (62, 3, .invokevirtual 113, 23, 0, 0, [607, 0]),
  (65, 1, .iconst 1, 0, 0, 1, []),
  (66, 1, .ireturn, 1, 0, 0, [])])
def tw_M94 : tw_Meth := (yX6_jams, cX6_jams, 3, (some .boolean), 1, 6, 0, [565, 57, 564, 8], [
  (0, 1, .iconst 0, 0, 0, 0, []),
  (1, 1, .istore_n 1, 1, 0, 0, []),
  (2, 1, .iload_n 1, 1, 0, 0, []),
  (3, 1, .aload_n 0, 0, 0, 0, []),
  (4, 3, .getfield 36, 6, 4, 0, [171]),
  (7, 3, .if_icmp .ge 34, 23, 0, 0, []),
  (10, 1, .aload_n 0, 0, 0, 0, []),
  (11, 1, .iload_n 1, 1, 0, 0, []),
  (12, 3, .invokevirtual 56, 85, 1, 0, [342, 0]),
  (15, 1, .astore_n 2, 2, 0, 0, []),
  (16, 1, .aload_n 2, 2, 0, 0, []),
  (17, 3, .ifnull 18, 21, 0, 0, []),
  (20, 1, .aload_n 2, 2, 0, 0, []),
  (21, 1, .aload_n 0, 0, 0, 0, []),
  (22, 3, .getfield 17, 6, 1, 0, [168]),
  (25, 1, .iload_n 1, 1, 0, 0, []),
  (26, 1, .iaload, 0, 0, 0, []),
  (27, 3, .invokevirtual 116, 9, 1, 0, [566, 0]),
  (30, 3, .ifCond .eq 5, 21, 0, 0, []),
  (33, 1, .iconst 1, 0, 0, 1, []),
  (34, 1, .ireturn, 1, 0, 0, []),
  (35, 3, .iinc 1 1, 1, 0, 1, []),
  (38, 3, .goto (-36), 2, 0, 0, []),
  (41, 1, .iconst 0, 0, 0, 0, []),
  (42, 1, .ireturn, 1, 0, 0, [])])
def tw_M95 : tw_Meth := (yX6_weaveCard, cX6_weaveCard, 4, none, 1, 6, 3, [579, 57, 578, 9], [
  (0, 1, .aload_n 2, 2, 0, 0, []),
  (1, 1, .iload_n 3, 3, 0, 0, []),
  (2, 3, .invokestatic 120, 179, 1, 0, [580, 1]),
  (5, 3, .invokevirtual 124, 10, 1, 0, [581, 0]),
  (8, 1, .aload_n 0, 0, 0, 0, []),
  (9, 3, .getfield 24, 6, 2, 0, [169]),
  (12, 1, .iload_n 1, 1, 0, 0, []),
  (13, 1, .iconst 0, 0, 0, 0, []),
  (14, 1, .aload_n 2, 2, 0, 0, []),
  (15, 3, .invokevirtual 127, 11, 0, 0, [591, 0]),
  (18, 3, .invokevirtual 130, 22, 3, 0, [595, 0]),
  (21, 1, .aload_n 0, 0, 0, 0, []),
  (22, 3, .getfield 24, 6, 2, 0, [169]),
  (25, 1, .iload_n 1, 1, 0, 0, []),
  (26, 1, .iconst 1, 0, 0, 1, []),
  (27, 1, .aload_n 2, 2, 0, 0, []),
  (28, 3, .invokevirtual 134, 12, 0, 0, [599, 0]),
  (31, 3, .invokevirtual 130, 22, 3, 0, [595, 0]),
  (34, 1, .aload_n 0, 0, 0, 0, []),
  (35, 3, .getfield 24, 6, 2, 0, [169]),
  (38, 1, .iload_n 1, 1, 0, 0, []),
  (39, 1, .iconst 2, 0, 0, 2, []),
  (40, 1, .aload_n 2, 2, 0, 0, []),
  (41, 1, .iload_n 3, 3, 0, 0, []),
  (42, 3, .invokevirtual 137, 13, 1, 0, [603, 0]),
  (45, 3, .invokevirtual 130, 22, 3, 0, [595, 0]),
  (48, 1, .aload_n 0, 0, 0, 0, []),
  (49, 3, .getfield 24, 6, 2, 0, [169]),
  (52, 1, .iload_n 1, 1, 0, 0, []),
  (53, 1, .iconst 3, 0, 0, 3, []),
  (54, 1, .iload_n 3, 3, 0, 0, []),
  (55, 3, .invokevirtual 130, 22, 3, 0, [595, 0]),
  (58, 1, .return_, 0, 0, 0, [])])
def tw_M96 : tw_Meth := (yX6_takeBack, cX6_takeBack, 3, (some .int), 1, 6, 1, [632, 57, 630, 631], [
  (0, 1, .iconst 0, 0, 0, 0, []),
  (1, 1, .istore_n 2, 2, 0, 0, []),
  (2, 1, .iload_n 2, 2, 0, 0, []),
  (3, 1, .iload_n 1, 1, 0, 0, []),
  (4, 3, .if_icmp .ge 23, 13, 0, 0, []),
  (7, 1, .aload_n 0, 0, 0, 0, []),
  (8, 3, .getfield 24, 6, 2, 0, [169]),
  (11, 3, .invokevirtual 40, 17, 0, 0, [493, 0]),
  (14, 3, .ifCond .le 13, 13, 0, 0, []),
  (17, 1, .aload_n 0, 0, 0, 0, []),
  (18, 3, .invokevirtual 140, 97, 0, 0, [633, 0]),
  (21, 3, .iinc 2 1, 2, 0, 1, []),
  (24, 3, .goto (-22), 2, 0, 0, []),
  (27, 1, .iload_n 2, 2, 0, 0, []),
  (28, 1, .ireturn, 0, 0, 0, [])])
def tw_M97 : tw_Meth := (yX6_takeLastRow, cX6_takeLastRow, 4, none, 1, 6, 0, [636, 57, 635, 10], [
  (0, 1, .aload_n 0, 0, 0, 0, []),
  (1, 3, .getfield 24, 6, 2, 0, [169]),
  (4, 3, .invokevirtual 40, 17, 0, 0, [493, 0]),
  (7, 1, .iconst 1, 0, 0, 1, []),
  (8, 1, .isub, 0, 0, 0, []),
  (9, 1, .istore_n 1, 1, 0, 0, []),
  (10, 1, .iconst 0, 0, 0, 0, []),
  (11, 1, .istore_n 2, 2, 0, 0, []),
  (12, 1, .iload_n 2, 2, 0, 0, []),
  (13, 1, .aload_n 0, 0, 0, 0, []),
  (14, 3, .getfield 36, 6, 4, 0, [171]),
  (17, 3, .if_icmp .ge 37, 30, 0, 0, []),
  (20, 1, .aload_n 0, 0, 0, 0, []),
  (21, 1, .iload_n 2, 2, 0, 0, []),
  (22, 3, .invokevirtual 56, 85, 1, 0, [342, 0]),
  (25, 1, .astore_n 3, 3, 0, 0, []),
  (26, 1, .aload_n 3, 3, 0, 0, []),
  (27, 3, .ifnull 21, 28, 0, 0, []),
  (30, 1, .aload_n 3, 3, 0, 0, []),
  (31, 1, .aload_n 0, 0, 0, 0, []),
  (32, 3, .getfield 24, 6, 2, 0, [169]),
  (35, 1, .iload_n 1, 1, 0, 0, []),
  (36, 1, .iload_n 2, 2, 0, 0, []),
  (37, 1, .iconst 3, 0, 0, 3, []),
  (38, 3, .invokevirtual 143, 21, 3, 0, [637, 0]),
  (41, 3, .invokestatic 120, 179, 1, 0, [580, 1]),
  (44, 1, .ineg, 0, 0, 0, []),
  (45, 3, .invokevirtual 124, 10, 1, 0, [581, 0]),
  (48, 3, .iinc 2 1, 2, 0, 1, []),
  (51, 3, .goto (-39), 8, 0, 0, []),
  (54, 1, .aload_n 0, 0, 0, 0, []),
  (55, 3, .getfield 24, 6, 2, 0, [169]),
  (58, 3, .invokevirtual 146, 24, 0, 0, [638, 0]),
  (61, 1, .return_, 0, 0, 0, [])])
def tw_M98 : tw_Meth := (yX6_greatestTwist, cX6_greatestTwist, 4, (some .int), 1, 6, 1, [717, 57, 715, 716], [
  (0, 1, .iconst 0, 0, 0, 0, []),
  (1, 1, .istore_n 2, 2, 0, 0, []),
  (2, 1, .iconst 0, 0, 0, 0, []),
  (3, 1, .istore_n 3, 3, 0, 0, []),
  (4, 1, .iload_n 3, 3, 0, 0, []),
  (5, 1, .aload_n 0, 0, 0, 0, []),
  (6, 3, .getfield 36, 6, 4, 0, [171]),
  (9, 3, .if_icmp .ge 21, 18, 0, 0, []),
  (12, 1, .iload_n 2, 2, 0, 0, []),
  (13, 1, .aload_n 0, 0, 0, 0, []),
  (14, 1, .iload_n 3, 3, 0, 0, []),
  (15, 3, .invokevirtual 149, 100, 1, 0, [718, 0]),
  (18, 1, .iload_n 1, 1, 0, 0, []),
  (19, 1, .imul, 0, 0, 0, []),
  (20, 3, .invokestatic 152, 262, 2, 0, [719, 0]),
  (23, 1, .istore_n 2, 2, 0, 0, []),
  (24, 3, .iinc 3 1, 3, 0, 1, []),
  (27, 3, .goto (-23), 4, 0, 0, []),
  (30, 1, .iload_n 2, 2, 0, 0, []),
  (31, 1, .ireturn, 0, 0, 0, [])])
def tw_M99 : tw_Meth := (yX6_twistedBeyond, cX6_twistedBeyond, 5, (some .int), 1, 6, 2, [723, 57, 721, 722], [
  (0, 1, .iconst 0, 0, 0, 0, []),
  (1, 1, .istore_n 3, 3, 0, 0, []),
  (2, 1, .iconst 0, 0, 0, 0, []),
  (3, 2, .istore 4, 4, 0, 0, []),
  (5, 2, .iload 4, 4, 0, 0, []),
  (7, 1, .aload_n 0, 0, 0, 0, []),
  (8, 3, .getfield 36, 6, 4, 0, [171]),
  (11, 3, .if_icmp .ge 28, 23, 0, 0, []),
  (14, 1, .aload_n 0, 0, 0, 0, []),
  (15, 2, .iload 4, 4, 0, 0, []),
  (17, 3, .invokevirtual 149, 100, 1, 0, [718, 0]),
  (20, 1, .iload_n 2, 2, 0, 0, []),
  (21, 1, .imul, 0, 0, 0, []),
  (22, 1, .iload_n 1, 1, 0, 0, []),
  (23, 3, .if_icmp .le 10, 21, 0, 0, []),
  (26, 1, .iload_n 3, 3, 0, 0, []),
  (27, 1, .iconst 1, 0, 0, 1, []),
  (28, 2, .iload 4, 4, 0, 0, []),
  (30, 1, .ishl, 0, 0, 0, []),
  (31, 1, .ior, 0, 0, 0, []),
  (32, 1, .istore_n 3, 3, 0, 0, []),
  (33, 3, .iinc 4 1, 4, 0, 1, []),
  (36, 3, .goto (-31), 4, 0, 0, []),
  (39, 1, .iload_n 3, 3, 0, 0, []),
  (40, 1, .ireturn, 0, 0, 0, [])])
def tw_M100 : tw_Meth := (yX6_twistAt, cX6_twistAt, 3, (some .int), 1, 6, 1, [676, 57, 674, 675], [
  (0, 1, .aload_n 0, 0, 0, 0, []),
  (1, 1, .iload_n 1, 1, 0, 0, []),
  (2, 3, .invokevirtual 56, 85, 1, 0, [342, 0]),
  (5, 1, .astore_n 2, 2, 0, 0, []),
  (6, 1, .aload_n 2, 2, 0, 0, []),
  (7, 3, .ifnonnull 7, 8, 0, 0, []),
  (10, 1, .iconst 0, 0, 0, 0, []),
  (11, 3, .goto 7, 10, 0, 0, []),
  (14, 1, .aload_n 2, 2, 0, 0, []),
  (15, 3, .invokevirtual 155, 7, 0, 0, [677, 0]),
  (18, 1, .ireturn, 0, 0, 0, [])])
def tw_M101 : tw_Meth := (yX6_sumOfTwists, cX6_sumOfTwists, 3, (some .int), 1, 6, 0, [945, 57, 943, 944], [
  (0, 1, .iconst 0, 0, 0, 0, []),
  (1, 1, .istore_n 1, 1, 0, 0, []),
  (2, 1, .iconst 0, 0, 0, 0, []),
  (3, 1, .istore_n 2, 2, 0, 0, []),
  (4, 1, .iload_n 2, 2, 0, 0, []),
  (5, 1, .aload_n 0, 0, 0, 0, []),
  (6, 3, .getfield 36, 6, 4, 0, [171]),
  (9, 3, .if_icmp .ge 20, 17, 0, 0, []),
  (12, 1, .iload_n 1, 1, 0, 0, []),
  (13, 1, .aload_n 0, 0, 0, 0, []),
  (14, 1, .iload_n 2, 2, 0, 0, []),
  (15, 3, .invokevirtual 149, 100, 1, 0, [718, 0]),
  (18, 3, .invokestatic 158, 261, 1, 0, [946, 0]),
  (21, 1, .iadd, 0, 0, 0, []),
  (22, 1, .istore_n 1, 1, 0, 0, []),
  (23, 3, .iinc 2 1, 2, 0, 1, []),
  (26, 3, .goto (-22), 4, 0, 0, []),
  (29, 1, .iload_n 1, 1, 0, 0, []),
  (30, 1, .ireturn, 0, 0, 0, [])])
def tw_M102 : tw_Meth := (yX6_greatestFloat, cX6_greatestFloat, 3, (some .int), 1, 6, 0, [952, 57, 950, 951], [
  (0, 1, .iconst 0, 0, 0, 0, []),
  (1, 1, .istore_n 1, 1, 0, 0, []),
  (2, 1, .iconst 0, 0, 0, 0, []),
  (3, 1, .istore_n 2, 2, 0, 0, []),
  (4, 1, .iload_n 2, 2, 0, 0, []),
  (5, 1, .aload_n 0, 0, 0, 0, []),
  (6, 3, .getfield 36, 6, 4, 0, [171]),
  (9, 3, .if_icmp .ge 24, 19, 0, 0, []),
  (12, 1, .iload_n 1, 1, 0, 0, []),
  (13, 1, .aload_n 0, 0, 0, 0, []),
  (14, 3, .getfield 24, 6, 2, 0, [169]),
  (17, 1, .iload_n 2, 2, 0, 0, []),
  (18, 1, .iconst 3, 0, 0, 3, []),
  (19, 1, .iconst 0, 0, 0, 0, []),
  (20, 3, .invokevirtual 161, 25, 3, 0, [953, 0]),
  (23, 3, .invokestatic 152, 262, 2, 0, [719, 0]),
  (26, 1, .istore_n 1, 1, 0, 0, []),
  (27, 3, .iinc 2 1, 2, 0, 1, []),
  (30, 3, .goto (-26), 4, 0, 0, []),
  (33, 1, .iload_n 1, 1, 0, 0, []),
  (34, 1, .ireturn, 0, 0, 0, [])])
def tw_M103 : tw_Meth := (yX6_holesOf, cX6_holesOf, 6, (some .int), 1, 6, 1, [884, 57, 882, 883], [
  (0, 1, .iconst 0, 0, 0, 0, []),
  (1, 1, .istore_n 2, 2, 0, 0, []),
  (2, 1, .iconst 0, 0, 0, 0, []),
  (3, 1, .istore_n 3, 3, 0, 0, []),
  (4, 1, .iload_n 3, 3, 0, 0, []),
  (5, 1, .aload_n 0, 0, 0, 0, []),
  (6, 3, .getfield 36, 6, 4, 0, [171]),
  (9, 3, .if_icmp .ge 50, 29, 0, 0, []),
  (12, 1, .aload_n 0, 0, 0, 0, []),
  (13, 1, .iload_n 3, 3, 0, 0, []),
  (14, 3, .invokevirtual 56, 85, 1, 0, [342, 0]),
  (17, 2, .astore 4, 4, 0, 0, []),
  (19, 1, .iconst 0, 0, 0, 0, []),
  (20, 2, .istore 5, 5, 0, 0, []),
  (22, 2, .aload 4, 4, 0, 0, []),
  (24, 3, .ifnull 29, 27, 0, 0, []),
  (27, 2, .iload 5, 5, 0, 0, []),
  (29, 1, .iconst 4, 0, 0, 4, []),
  (30, 3, .if_icmp .ge 23, 27, 0, 0, []),
  (33, 2, .aload 4, 4, 0, 0, []),
  (35, 2, .iload 5, 5, 0, 0, []),
  (37, 3, .invokevirtual 164, 1, 1, 0, [885, 0]),
  (40, 1, .iload_n 1, 1, 0, 0, []),
  (41, 3, .if_icmp .ne 6, 25, 0, 0, []),
  (44, 3, .iinc 2 1, 2, 0, 1, []),
  (47, 3, .iinc 5 1, 5, 0, 1, []),
  (50, 3, .goto (-28), 14, 0, 0, []),
  (53, 3, .iinc 3 1, 3, 0, 1, []),
  (56, 3, .goto (-52), 4, 0, 0, []),
  (59, 1, .iload_n 2, 2, 0, 0, []),
  (60, 1, .ireturn, 0, 0, 0, [])])
def tw_M104 : tw_Meth := (yX6_copyFrom, cX6_copyFrom, 5, none, 1, 6, 1, [1014, 57, 1012, 1013], [
  (0, 1, .iconst 0, 0, 0, 0, []),
  (1, 1, .istore_n 2, 2, 0, 0, []),
  (2, 1, .iload_n 2, 2, 0, 0, []),
  (3, 2, .bipush 10, 0, 0, 10, []),
  (5, 3, .if_icmp .ge 39, 24, 0, 0, []),
  (8, 1, .aload_n 0, 0, 0, 0, []),
  (9, 3, .getfield 11, 6, 0, 0, [167]),
  (12, 1, .iload_n 2, 2, 0, 0, []),
  (13, 1, .aaload, 0, 0, 0, []),
  (14, 1, .astore_n 3, 3, 0, 0, []),
  (15, 1, .aload_n 1, 1, 0, 0, []),
  (16, 3, .getfield 11, 6, 0, 0, [167]),
  (19, 1, .iload_n 2, 2, 0, 0, []),
  (20, 1, .aaload, 0, 0, 0, []),
  (21, 2, .astore 4, 4, 0, 0, []),
  (23, 1, .aload_n 3, 3, 0, 0, []),
  (24, 3, .ifnull 14, 22, 0, 0, []),
  (27, 2, .aload 4, 4, 0, 0, []),
  (29, 3, .ifnull 9, 22, 0, 0, []),
  (32, 1, .aload_n 3, 3, 0, 0, []),
  (33, 2, .aload 4, 4, 0, 0, []),
  (35, 3, .invokevirtual 167, 14, 1, 0, [1015, 0]),
  (38, 3, .iinc 2 1, 2, 0, 1, []),
  (41, 3, .goto (-39), 2, 0, 0, []),
  (44, 1, .aload_n 0, 0, 0, 0, []),
  (45, 3, .getfield 24, 6, 2, 0, [169]),
  (48, 1, .aload_n 1, 1, 0, 0, []),
  (49, 3, .getfield 24, 6, 2, 0, [169]),
  (52, 3, .invokevirtual 170, 36, 1, 0, [1020, 0]),
  (55, 1, .aload_n 0, 0, 0, 0, []),
  (56, 3, .getfield 31, 6, 3, 0, [170]),
  (59, 1, .aload_n 1, 1, 0, 0, []),
  (60, 3, .getfield 31, 6, 3, 0, [170]),
  (63, 3, .invokevirtual 80, 60, 1, 0, [439, 0]),
  (66, 1, .aload_n 0, 0, 0, 0, []),
  (67, 1, .aload_n 1, 1, 0, 0, []),
  (68, 3, .getfield 36, 6, 4, 0, [171]),
  (71, 3, .putfield 36, 6, 4, 0, [171]),
  (74, 1, .return_, 0, 0, 0, [])])
def tw_M105 : tw_Meth := (yX7_init, cX7_init, 1, none, 2, 7, 0, [208, 62, 207], [
  (0, 1, .aload_n 0, 0, 0, 0, []),
  (1, 3, .invokespecial 3, 999, 0, 0, [209, 76, 77]),
  (4, 1, .aload_n 0, 0, 0, 0, []),
  (5, 2, .bipush 10, 0, 0, 10, []),
  (7, 2, .newarray .int, 20, 0, 0, [122]),
  (9, 3, .putfield 9, 7, 0, 0, [210]),
  (12, 1, .aload_n 0, 0, 0, 0, []),
  (13, 2, .bipush 10, 0, 0, 10, []),
  (15, 2, .newarray .int, 20, 0, 0, [122]),
  (17, 3, .putfield 15, 7, 1, 0, [211]),
  (20, 1, .return_, 0, 0, 0, [])])
def tw_M106 : tw_Meth := (yX7_picksToReturn, cX7_picksToReturn, 3, (some .int), 1, 7, 1, [666, 62, 664, 665], [
  (0, 1, .aload_n 0, 0, 0, 0, []),
  (1, 1, .aload_n 1, 1, 0, 0, []),
  (2, 3, .invokevirtual 18, 109, 1, 0, [667, 0]),
  (5, 1, .iconst 1, 0, 0, 1, []),
  (6, 1, .istore_n 2, 2, 0, 0, []),
  (7, 1, .iload_n 2, 2, 0, 0, []),
  (8, 3, .sipush 200, 0, 0, 200, []),
  (11, 3, .if_icmp .gt 32, 24, 0, 0, []),
  (14, 1, .aload_n 0, 0, 0, 0, []),
  (15, 1, .aload_n 1, 1, 0, 0, []),
  (16, 1, .iload_n 2, 2, 0, 0, []),
  (17, 1, .iconst 1, 0, 0, 1, []),
  (18, 1, .isub, 0, 0, 0, []),
  (19, 3, .invokevirtual 22, 110, 2, 0, [678, 0]),
  (22, 3, .ifCond .ne 6, 17, 0, 0, []),
  (25, 2, .bipush (-5), 0, 0, (-5), []),
  (27, 1, .ireturn, 0, 0, 0, []),
  (28, 1, .aload_n 0, 0, 0, 0, []),
  (29, 3, .invokevirtual 26, 111, 0, 0, [685, 0]),
  (32, 3, .ifCond .eq 5, 22, 0, 0, []),
  (35, 1, .iload_n 2, 2, 0, 0, []),
  (36, 1, .ireturn, 0, 0, 0, []),
  (37, 3, .iinc 2 1, 2, 0, 1, []),
  (40, 3, .goto (-33), 5, 0, 0, []),
  (43, 2, .bipush (-5), 0, 0, (-5), []),
  (45, 1, .ireturn, 0, 0, 0, [])])
def tw_M107 : tw_Meth := (yX7_picksToFlat, cX7_picksToFlat, 3, (some .int), 1, 7, 1, [697, 62, 695, 696], [
  (0, 1, .aload_n 0, 0, 0, 0, []),
  (1, 1, .aload_n 1, 1, 0, 0, []),
  (2, 3, .invokevirtual 18, 109, 1, 0, [667, 0]),
  (5, 1, .iconst 0, 0, 0, 0, []),
  (6, 1, .istore_n 2, 2, 0, 0, []),
  (7, 1, .iload_n 2, 2, 0, 0, []),
  (8, 3, .sipush 200, 0, 0, 200, []),
  (11, 3, .if_icmp .ge 30, 22, 0, 0, []),
  (14, 1, .aload_n 0, 0, 0, 0, []),
  (15, 3, .invokevirtual 30, 112, 0, 0, [698, 0]),
  (18, 3, .ifCond .eq 5, 13, 0, 0, []),
  (21, 1, .iload_n 2, 2, 0, 0, []),
  (22, 1, .ireturn, 0, 0, 0, []),
  (23, 1, .aload_n 0, 0, 0, 0, []),
  (24, 1, .aload_n 1, 1, 0, 0, []),
  (25, 1, .iload_n 2, 2, 0, 0, []),
  (26, 3, .invokevirtual 22, 110, 2, 0, [678, 0]),
  (29, 3, .ifCond .ne 6, 20, 0, 0, []),
  (32, 2, .bipush (-5), 0, 0, (-5), []),
  (34, 1, .ireturn, 0, 0, 0, []),
  (35, 3, .iinc 2 1, 2, 0, 1, []),
  (38, 3, .goto (-31), 5, 0, 0, []),
  (41, 1, .aload_n 0, 0, 0, 0, []),
  (42, 3, .invokevirtual 30, 112, 0, 0, [698, 0]),
  (45, 3, .ifCond .eq 9, 27, 0, 0, []),
  (48, 3, .sipush 200, 0, 0, 200, []),
  (51, 3, .goto 5, 28, 0, 0, []),
  (54, 2, .bipush (-5), 0, 0, (-5), []),
  (56, 1, .ireturn, 0, 0, 0, [])])
def tw_M108 : tw_Meth := (yX7_picksToJam, cX7_picksToJam, 3, (some .int), 1, 7, 1, [709, 62, 707, 708], [
  (0, 1, .aload_n 0, 0, 0, 0, []),
  (1, 1, .aload_n 1, 1, 0, 0, []),
  (2, 3, .invokevirtual 18, 109, 1, 0, [667, 0]),
  (5, 1, .iconst 1, 0, 0, 1, []),
  (6, 1, .istore_n 2, 2, 0, 0, []),
  (7, 1, .iload_n 2, 2, 0, 0, []),
  (8, 3, .sipush 200, 0, 0, 200, []),
  (11, 3, .if_icmp .gt 22, 19, 0, 0, []),
  (14, 1, .aload_n 0, 0, 0, 0, []),
  (15, 1, .aload_n 1, 1, 0, 0, []),
  (16, 1, .iload_n 2, 2, 0, 0, []),
  (17, 1, .iconst 1, 0, 0, 1, []),
  (18, 1, .isub, 0, 0, 0, []),
  (19, 3, .invokevirtual 22, 110, 2, 0, [678, 0]),
  (22, 3, .ifCond .ne 5, 17, 0, 0, []),
  (25, 1, .iload_n 2, 2, 0, 0, []),
  (26, 1, .ireturn, 0, 0, 0, []),
  (27, 3, .iinc 2 1, 2, 0, 1, []),
  (30, 3, .goto (-23), 5, 0, 0, []),
  (33, 2, .bipush (-5), 0, 0, (-5), []),
  (35, 1, .ireturn, 0, 0, 0, [])])
def tw_M109 : tw_Meth := (yX7_begin, cX7_begin, 3, none, 1, 7, 1, [670, 62, 669, 11], [
  (0, 1, .aload_n 0, 0, 0, 0, []),
  (1, 2, .bipush 10, 0, 0, 10, []),
  (3, 1, .aload_n 1, 1, 0, 0, []),
  (4, 3, .invokevirtual 33, 82, 0, 0, [671, 0]),
  (7, 3, .invokestatic 39, 263, 2, 0, [672, 0]),
  (10, 3, .putfield 45, 7, 2, 0, [212]),
  (13, 1, .iconst 0, 0, 0, 0, []),
  (14, 1, .istore_n 2, 2, 0, 0, []),
  (15, 1, .iload_n 2, 2, 0, 0, []),
  (16, 1, .aload_n 0, 0, 0, 0, []),
  (17, 3, .getfield 45, 7, 2, 0, [212]),
  (20, 3, .if_icmp .ge 27, 26, 0, 0, []),
  (23, 1, .aload_n 0, 0, 0, 0, []),
  (24, 3, .getfield 9, 7, 0, 0, [210]),
  (27, 1, .iload_n 2, 2, 0, 0, []),
  (28, 1, .iconst 0, 0, 0, 0, []),
  (29, 1, .iastore, 0, 0, 0, []),
  (30, 1, .aload_n 0, 0, 0, 0, []),
  (31, 3, .getfield 15, 7, 1, 0, [211]),
  (34, 1, .iload_n 2, 2, 0, 0, []),
  (35, 1, .aload_n 1, 1, 0, 0, []),
  (36, 1, .iload_n 2, 2, 0, 0, []),
  (37, 3, .invokevirtual 49, 100, 1, 0, [673, 0]),
  (40, 1, .iastore, 0, 0, 0, []),
  (41, 3, .iinc 2 1, 2, 0, 1, []),
  (44, 3, .goto (-29), 8, 0, 0, []),
  (47, 1, .return_, 0, 0, 0, [])])
def tw_M110 : tw_Meth := (yX7_pick, cX7_pick, 5, (some .boolean), 1, 7, 2, [681, 62, 680, 12], [
  (0, 1, .iconst 0, 0, 0, 0, []),
  (1, 1, .istore_n 3, 3, 0, 0, []),
  (2, 1, .iload_n 3, 3, 0, 0, []),
  (3, 1, .aload_n 0, 0, 0, 0, []),
  (4, 3, .getfield 45, 7, 2, 0, [212]),
  (7, 3, .if_icmp .ge 56, 38, 0, 0, []),
  (10, 1, .aload_n 1, 1, 0, 0, []),
  (11, 1, .iload_n 3, 3, 0, 0, []),
  (12, 1, .iload_n 2, 2, 0, 0, []),
  (13, 3, .invokevirtual 53, 89, 2, 0, [682, 0]),
  (16, 3, .invokestatic 56, 179, 1, 0, [683, 1]),
  (19, 2, .istore 4, 4, 0, 0, []),
  (21, 1, .aload_n 0, 0, 0, 0, []),
  (22, 3, .getfield 9, 7, 0, 0, [210]),
  (25, 1, .iload_n 3, 3, 0, 0, []),
  (26, 1, .dup2, 0, 0, 0, []),
  (27, 1, .iaload, 0, 0, 0, []),
  (28, 2, .iload 4, 4, 0, 0, []),
  (30, 1, .iadd, 0, 0, 0, []),
  (31, 1, .iastore, 0, 0, 0, []),
  (32, 1, .aload_n 0, 0, 0, 0, []),
  (33, 3, .getfield 15, 7, 1, 0, [211]),
  (36, 1, .iload_n 3, 3, 0, 0, []),
  (37, 1, .dup2, 0, 0, 0, []),
  (38, 1, .iaload, 0, 0, 0, []),
  (39, 2, .iload 4, 4, 0, 0, []),
  (41, 1, .iadd, 0, 0, 0, []),
  (42, 1, .iastore, 0, 0, 0, []),
  (43, 1, .aload_n 0, 0, 0, 0, []),
  (44, 3, .getfield 15, 7, 1, 0, [211]),
  (47, 1, .iload_n 3, 3, 0, 0, []),
  (48, 1, .iaload, 0, 0, 0, []),
  (49, 3, .invokestatic 59, 181, 1, 0, [684, 1]),
  (52, 3, .ifCond .eq 5, 36, 0, 0, []),
  (55, 1, .iconst 0, 0, 0, 0, []),
  (56, 1, .ireturn, 1, 0, 0, []),
  (57, 3, .iinc 3 1, 3, 0, 1, []),
  (60, 3, .goto (-58), 2, 0, 0, []),
  (63, 1, .iconst 1, 0, 0, 1, []),
  (64, 1, .ireturn, 1, 0, 0, [])])
def tw_M111 : tw_Meth := (yX7_allPlacesAsNow, cX7_allPlacesAsNow, 2, (some .boolean), 1, 7, 0, [688, 62, 687, 13], [
  (0, 1, .iconst 0, 0, 0, 0, []),
  (1, 1, .istore_n 1, 1, 0, 0, []),
  (2, 1, .iload_n 1, 1, 0, 0, []),
  (3, 1, .aload_n 0, 0, 0, 0, []),
  (4, 3, .getfield 45, 7, 2, 0, [212]),
  (7, 3, .if_icmp .ge 24, 17, 0, 0, []),
  (10, 1, .iconst 0, 0, 0, 0, []),
  (11, 1, .aload_n 0, 0, 0, 0, []),
  (12, 3, .getfield 9, 7, 0, 0, [210]),
  (15, 1, .iload_n 1, 1, 0, 0, []),
  (16, 1, .iaload, 0, 0, 0, []),
  (17, 3, .invokestatic 63, 180, 2, 0, [689, 1]),
  (20, 3, .ifCond .eq 5, 15, 0, 0, []),
  (23, 1, .iconst 0, 0, 0, 0, []),
  (24, 1, .ireturn, 1, 0, 0, []),
  (25, 3, .iinc 1 1, 1, 0, 1, []),
  (28, 3, .goto (-26), 2, 0, 0, []),
  (31, 1, .iconst 1, 0, 0, 1, []),
  (32, 1, .ireturn, 1, 0, 0, [])])
def tw_M112 : tw_Meth := (yX7_nothingTwisted, cX7_nothingTwisted, 2, (some .boolean), 1, 7, 0, [701, 62, 700, 14], [
  (0, 1, .iconst 0, 0, 0, 0, []),
  (1, 1, .istore_n 1, 1, 0, 0, []),
  (2, 1, .iload_n 1, 1, 0, 0, []),
  (3, 1, .aload_n 0, 0, 0, 0, []),
  (4, 3, .getfield 45, 7, 2, 0, [212]),
  (7, 3, .if_icmp .ge 20, 15, 0, 0, []),
  (10, 1, .aload_n 0, 0, 0, 0, []),
  (11, 3, .getfield 15, 7, 1, 0, [211]),
  (14, 1, .iload_n 1, 1, 0, 0, []),
  (15, 1, .iaload, 0, 0, 0, []),
  (16, 3, .ifCond .eq 5, 13, 0, 0, []),
  (19, 1, .iconst 0, 0, 0, 0, []),
  (20, 1, .ireturn, 1, 0, 0, []),
  (21, 3, .iinc 1 1, 1, 0, 1, []),
  (24, 3, .goto (-22), 2, 0, 0, []),
  (27, 1, .iconst 1, 0, 0, 1, []),
  (28, 1, .ireturn, 1, 0, 0, [])])
def tw_M113 : tw_Meth := (yX8_init, cX8_init, 1, none, 2, 8, 0, [224, 63, 223], [
  (0, 1, .aload_n 0, 0, 0, 0, []),
  (1, 3, .invokespecial 3, 999, 0, 0, [225, 76, 77]),
  (4, 1, .aload_n 0, 0, 0, 0, []),
  (5, 2, .bipush 80, 0, 0, 80, []),
  (7, 2, .newarray .int, 20, 0, 0, [122]),
  (9, 3, .putfield 9, 8, 0, 0, [226]),
  (12, 1, .return_, 0, 0, 0, [])])
def tw_M114 : tw_Meth := (yX8_height, cX8_height, 1, (some .int), 1, 8, 0, [756, 63, 754, 755], [
  (0, 1, .aload_n 0, 0, 0, 0, []),
  (1, 3, .getfield 15, 8, 1, 0, [227]),
  (4, 1, .ireturn, 0, 0, 0, [])])
def tw_M115 : tw_Meth := (yX8_has, cX8_has, 3, (some .boolean), 1, 8, 2, [731, 63, 729, 730], [
  (0, 1, .iload_n 1, 1, 0, 0, []),
  (1, 3, .ifCond .lt 25, 13, 0, 0, []),
  (4, 1, .iload_n 1, 1, 0, 0, []),
  (5, 1, .aload_n 0, 0, 0, 0, []),
  (6, 3, .getfield 15, 8, 1, 0, [227]),
  (9, 3, .if_icmp .ge 17, 13, 0, 0, []),
  (12, 1, .iload_n 2, 2, 0, 0, []),
  (13, 3, .ifCond .lt 13, 13, 0, 0, []),
  (16, 1, .iload_n 2, 2, 0, 0, []),
  (17, 2, .bipush 10, 0, 0, 10, []),
  (19, 3, .if_icmp .ge 7, 13, 0, 0, []),
  (22, 1, .iconst 1, 0, 0, 1, []),
  (23, 3, .goto 4, 14, 0, 0, []),
  (26, 1, .iconst 0, 0, 0, 0, []),
  (27, 1, .ireturn, 1, 0, 0, [])])
def tw_M116 : tw_Meth := (yX8_at, cX8_at, 4, (some .int), 1, 8, 2, [739, 63, 737, 738], [
  (0, 1, .iload_n 1, 1, 0, 0, []),
  (1, 2, .bipush 10, 0, 0, 10, []),
  (3, 1, .imul, 0, 0, 0, []),
  (4, 1, .iload_n 2, 2, 0, 0, []),
  (5, 1, .iadd, 0, 0, 0, []),
  (6, 1, .istore_n 3, 3, 0, 0, []),
  (7, 1, .aload_n 0, 0, 0, 0, []),
  (8, 1, .iload_n 1, 1, 0, 0, []),
  (9, 1, .iload_n 2, 2, 0, 0, []),
  (10, 3, .invokevirtual 19, 115, 2, 0, [740, 0]),
  (13, 3, .ifCond .eq 21, 21, 0, 0, []),
  (16, 1, .iload_n 3, 3, 0, 0, []),
  (17, 1, .aload_n 0, 0, 0, 0, []),
  (18, 3, .getfield 9, 8, 0, 0, [226]),
  (21, 1, .arraylength, 0, 0, 0, []),
  (22, 3, .if_icmp .ge 12, 21, 0, 0, []),
  (25, 1, .aload_n 0, 0, 0, 0, []),
  (26, 3, .getfield 9, 8, 0, 0, [226]),
  (29, 1, .iload_n 3, 3, 0, 0, []),
  (30, 1, .iaload, 0, 0, 0, []),
  (31, 3, .goto 4, 22, 0, 0, []),
  (34, 1, .iconst (-1), 0, 0, (-1), []),
  (35, 1, .ireturn, 0, 0, 0, [])])
def tw_M117 : tw_Meth := (yX8_put, cX8_put, 6, (some .int), 1, 8, 3, [735, 63, 733, 734], [
  (0, 1, .aload_n 0, 0, 0, 0, []),
  (1, 1, .iload_n 1, 1, 0, 0, []),
  (2, 1, .iload_n 2, 2, 0, 0, []),
  (3, 3, .invokevirtual 23, 116, 2, 0, [736, 0]),
  (6, 2, .istore 4, 4, 0, 0, []),
  (8, 1, .iload_n 1, 1, 0, 0, []),
  (9, 2, .bipush 10, 0, 0, 10, []),
  (11, 1, .imul, 0, 0, 0, []),
  (12, 1, .iload_n 2, 2, 0, 0, []),
  (13, 1, .iadd, 0, 0, 0, []),
  (14, 2, .istore 5, 5, 0, 0, []),
  (16, 1, .aload_n 0, 0, 0, 0, []),
  (17, 1, .iload_n 1, 1, 0, 0, []),
  (18, 1, .iload_n 2, 2, 0, 0, []),
  (19, 3, .invokevirtual 19, 115, 2, 0, [740, 0]),
  (22, 3, .ifCond .eq 21, 26, 0, 0, []),
  (25, 2, .iload 5, 5, 0, 0, []),
  (27, 1, .aload_n 0, 0, 0, 0, []),
  (28, 3, .getfield 9, 8, 0, 0, [226]),
  (31, 1, .arraylength, 0, 0, 0, []),
  (32, 3, .if_icmp .ge 11, 26, 0, 0, []),
  (35, 1, .aload_n 0, 0, 0, 0, []),
  (36, 3, .getfield 9, 8, 0, 0, [226]),
  (39, 2, .iload 5, 5, 0, 0, []),
  (41, 1, .iload_n 3, 3, 0, 0, []),
  (42, 1, .iastore, 0, 0, 0, []),
  (43, 2, .iload 4, 4, 0, 0, []),
  (45, 1, .ireturn, 0, 0, 0, [])])
def tw_M118 : tw_Meth := (yX8_resize, cX8_resize, 4, (some .int), 1, 8, 1, [748, 63, 746, 747], [
  (0, 1, .aload_n 0, 0, 0, 0, []),
  (1, 3, .getfield 15, 8, 1, 0, [227]),
  (4, 1, .istore_n 2, 2, 0, 0, []),
  (5, 1, .iload_n 2, 2, 0, 0, []),
  (6, 2, .bipush 10, 0, 0, 10, []),
  (8, 1, .imul, 0, 0, 0, []),
  (9, 1, .istore_n 3, 3, 0, 0, []),
  (10, 1, .iload_n 3, 3, 0, 0, []),
  (11, 1, .iload_n 1, 1, 0, 0, []),
  (12, 2, .bipush 10, 0, 0, 10, []),
  (14, 1, .imul, 0, 0, 0, []),
  (15, 3, .if_icmp .ge 25, 24, 0, 0, []),
  (18, 1, .iload_n 3, 3, 0, 0, []),
  (19, 1, .aload_n 0, 0, 0, 0, []),
  (20, 3, .getfield 9, 8, 0, 0, [226]),
  (23, 1, .arraylength, 0, 0, 0, []),
  (24, 3, .if_icmp .ge 16, 24, 0, 0, []),
  (27, 1, .aload_n 0, 0, 0, 0, []),
  (28, 3, .getfield 9, 8, 0, 0, [226]),
  (31, 1, .iload_n 3, 3, 0, 0, []),
  (32, 1, .iconst 0, 0, 0, 0, []),
  (33, 1, .iastore, 0, 0, 0, []),
  (34, 3, .iinc 3 1, 3, 0, 1, []),
  (37, 3, .goto (-27), 7, 0, 0, []),
  (40, 1, .aload_n 0, 0, 0, 0, []),
  (41, 1, .iload_n 1, 1, 0, 0, []),
  (42, 3, .putfield 15, 8, 1, 0, [227]),
  (45, 1, .iload_n 2, 2, 0, 0, []),
  (46, 1, .ireturn, 0, 0, 0, [])])
def tw_M119 : tw_Meth := (yX8_matchesFrom, cX8_matchesFrom, 6, (some .int), 1, 8, 2, [833, 63, 831, 832], [
  (0, 1, .iconst 0, 0, 0, 0, []),
  (1, 1, .istore_n 3, 3, 0, 0, []),
  (2, 1, .iconst 0, 0, 0, 0, []),
  (3, 2, .istore 4, 4, 0, 0, []),
  (5, 2, .iload 4, 4, 0, 0, []),
  (7, 1, .aload_n 0, 0, 0, 0, []),
  (8, 3, .getfield 15, 8, 1, 0, [227]),
  (11, 3, .if_icmp .ge 63, 37, 0, 0, []),
  (14, 1, .aload_n 1, 1, 0, 0, []),
  (15, 1, .iload_n 2, 2, 0, 0, []),
  (16, 2, .iload 4, 4, 0, 0, []),
  (18, 1, .iadd, 0, 0, 0, []),
  (19, 3, .invokevirtual 27, 20, 1, 0, [834, 0]),
  (22, 3, .ifCond .eq 52, 37, 0, 0, []),
  (25, 1, .iconst 0, 0, 0, 0, []),
  (26, 2, .istore 5, 5, 0, 0, []),
  (28, 2, .iload 5, 5, 0, 0, []),
  (30, 1, .aload_n 1, 1, 0, 0, []),
  (31, 3, .invokevirtual 33, 18, 0, 0, [835, 0]),
  (34, 3, .if_icmp .ge 34, 35, 0, 0, []),
  (37, 1, .aload_n 1, 1, 0, 0, []),
  (38, 1, .iload_n 2, 2, 0, 0, []),
  (39, 2, .iload 4, 4, 0, 0, []),
  (41, 1, .iadd, 0, 0, 0, []),
  (42, 2, .iload 5, 5, 0, 0, []),
  (44, 1, .iconst 0, 0, 0, 0, []),
  (45, 3, .invokevirtual 37, 21, 3, 0, [839, 0]),
  (48, 1, .aload_n 0, 0, 0, 0, []),
  (49, 2, .iload 4, 4, 0, 0, []),
  (51, 2, .iload 5, 5, 0, 0, []),
  (53, 3, .invokevirtual 23, 116, 2, 0, [736, 0]),
  (56, 3, .if_icmp .ne 6, 33, 0, 0, []),
  (59, 3, .iinc 3 1, 3, 0, 1, []),
  (62, 3, .iinc 5 1, 5, 0, 1, []),
  (65, 3, .goto (-37), 16, 0, 0, []),
  (68, 3, .iinc 4 1, 4, 0, 1, []),
  (71, 3, .goto (-66), 4, 0, 0, []),
  (74, 1, .iload_n 3, 3, 0, 0, []),
  (75, 1, .ireturn, 0, 0, 0, [])])
def tw_M120 : tw_Meth := (yX9_init, cX9_init, 1, none, 2, 9, 0, [82, 56, 81], [
  (0, 1, .aload_n 0, 0, 0, 0, []),
  (1, 3, .invokespecial 3, 999, 0, 0, [83, 76, 77]),
  (4, 1, .aload_n 0, 0, 0, 0, []),
  (5, 2, .bipush 80, 0, 0, 80, []),
  (7, 2, .newarray .byte, 21, 0, 0, [91]),
  (9, 3, .putfield 9, 9, 0, 0, [84]),
  (12, 1, .return_, 0, 0, 0, [])])
def tw_M121 : tw_Meth := (yX9_size, cX9_size, 1, (some .int), 1, 9, 0, [308, 56, 306, 307], [
  (0, 1, .aload_n 0, 0, 0, 0, []),
  (1, 3, .getfield 15, 9, 1, 0, [85]),
  (4, 1, .ireturn, 0, 0, 0, [])])
def tw_M122 : tw_Meth := (yX9_isFull, cX9_isFull, 1, (some .boolean), 1, 9, 0, [300, 56, 298, 299], [
  (0, 1, .aload_n 0, 0, 0, 0, []),
  (1, 3, .getfield 15, 9, 1, 0, [85]),
  (4, 2, .bipush 80, 0, 0, 80, []),
  (6, 3, .if_icmp .lt 7, 6, 0, 0, []),
  (9, 1, .iconst 1, 0, 0, 1, []),
  (10, 3, .goto 4, 7, 0, 0, []),
  (13, 1, .iconst 0, 0, 0, 0, []),
  (14, 1, .ireturn, 1, 0, 0, [])])
def tw_M123 : tw_Meth := (yX9_append, cX9_append, 2, none, 1, 9, 1, [304, 56, 302, 303], [
  (0, 1, .aload_n 0, 0, 0, 0, []),
  (1, 3, .getfield 15, 9, 1, 0, [85]),
  (4, 3, .ifCond .lt 36, 22, 0, 0, []),
  (7, 1, .aload_n 0, 0, 0, 0, []),
  (8, 3, .getfield 15, 9, 1, 0, [85]),
  (11, 1, .aload_n 0, 0, 0, 0, []),
  (12, 3, .getfield 9, 9, 0, 0, [84]),
  (15, 1, .arraylength, 0, 0, 0, []),
  (16, 3, .if_icmp .ge 24, 22, 0, 0, []),
  (19, 1, .aload_n 0, 0, 0, 0, []),
  (20, 3, .getfield 9, 9, 0, 0, [84]),
  (23, 1, .aload_n 0, 0, 0, 0, []),
  (24, 3, .getfield 15, 9, 1, 0, [85]),
  (27, 1, .iload_n 1, 1, 0, 0, []),
  (28, 1, .i2b, 0, 0, 0, []),
  (29, 1, .bastore, 0, 0, 0, []),
  (30, 1, .aload_n 0, 0, 0, 0, []),
  (31, 1, .dup, 0, 0, 0, []),
  (32, 3, .getfield 15, 9, 1, 0, [85]),
  (35, 1, .iconst 1, 0, 0, 1, []),
  (36, 1, .iadd, 0, 0, 0, []),
  (37, 3, .putfield 15, 9, 1, 0, [85]),
  (40, 1, .return_, 0, 0, 0, [])])
def tw_M124 : tw_Meth := (yX9_wipe, cX9_wipe, 1, none, 1, 9, 0, [316, 56, 314, 315], [
  (0, 1, .aload_n 0, 0, 0, 0, []),
  (1, 1, .iconst 0, 0, 0, 0, []),
  (2, 3, .putfield 15, 9, 1, 0, [85]),
  (5, 1, .return_, 0, 0, 0, [])])
def tw_M125 : tw_Meth := (yX9_byteAt, cX9_byteAt, 2, (some .int), 1, 9, 1, [328, 56, 326, 327], [
  (0, 1, .iload_n 1, 1, 0, 0, []),
  (1, 3, .ifCond .lt 29, 16, 0, 0, []),
  (4, 1, .iload_n 1, 1, 0, 0, []),
  (5, 1, .aload_n 0, 0, 0, 0, []),
  (6, 3, .getfield 15, 9, 1, 0, [85]),
  (9, 3, .if_icmp .ge 21, 16, 0, 0, []),
  (12, 1, .iload_n 1, 1, 0, 0, []),
  (13, 1, .aload_n 0, 0, 0, 0, []),
  (14, 3, .getfield 9, 9, 0, 0, [84]),
  (17, 1, .arraylength, 0, 0, 0, []),
  (18, 3, .if_icmp .ge 12, 16, 0, 0, []),
  (21, 1, .aload_n 0, 0, 0, 0, []),
  (22, 3, .getfield 9, 9, 0, 0, [84]),
  (25, 1, .iload_n 1, 1, 0, 0, []),
  (26, 1, .baload, 0, 0, 0, []),
  (27, 3, .goto 4, 17, 0, 0, []),
  (30, 1, .iconst (-1), 0, 0, (-1), []),
  (31, 1, .ireturn, 0, 0, 0, [])])
def tw_M126 : tw_Meth := (yX10_faultOf, cX10_faultOf, 2, (some .int), 0, 99, 1, [323, 67, 322], [
  (0, 1, .iconst 0, 0, 0, 0, []),
  (1, 1, .istore_n 1, 1, 0, 0, []),
  (2, 1, .iload_n 1, 1, 0, 0, []),
  (3, 1, .aload_n 0, 0, 0, 0, []),
  (4, 3, .invokevirtual 9, 121, 0, 0, [324, 0]),
  (7, 3, .if_icmp .ge 23, 16, 0, 0, []),
  (10, 1, .aload_n 0, 0, 0, 0, []),
  (11, 1, .iload_n 1, 1, 0, 0, []),
  (12, 3, .invokevirtual 15, 125, 1, 0, [325, 0]),
  (15, 1, .iload_n 1, 1, 0, 0, []),
  (16, 3, .invokestatic 19, 127, 2, 0, [329, 0]),
  (19, 3, .ifCond .ne 5, 14, 0, 0, []),
  (22, 1, .iload_n 1, 1, 0, 0, []),
  (23, 1, .ireturn, 0, 0, 0, []),
  (24, 3, .iinc 1 1, 1, 0, 1, []),
  (27, 3, .goto (-25), 2, 0, 0, []),
  (30, 1, .aload_n 0, 0, 0, 0, []),
  (31, 3, .invokevirtual 9, 121, 0, 0, [324, 0]),
  (34, 2, .bipush 6, 0, 0, 6, []),
  (36, 1, .irem, 0, 0, 0, []),
  (37, 1, .iconst 5, 0, 0, 5, []),
  (38, 3, .if_icmp .ne 7, 24, 0, 0, []),
  (41, 1, .iconst (-1), 0, 0, (-1), []),
  (42, 3, .goto 7, 26, 0, 0, []),
  (45, 1, .aload_n 0, 0, 0, 0, []),
  (46, 3, .invokevirtual 9, 121, 0, 0, [324, 0]),
  (49, 1, .ireturn, 0, 0, 0, [])])
def tw_M127 : tw_Meth := (yX10_fits, cX10_fits, 3, (some .boolean), 0, 99, 2, [331, 67, 330], [
  (0, 1, .iload_n 1, 1, 0, 0, []),
  (1, 2, .bipush 6, 0, 0, 6, []),
  (3, 1, .irem, 0, 0, 0, []),
  (4, 1, .istore_n 2, 2, 0, 0, []),
  (5, 1, .iload_n 2, 2, 0, 0, []),
  (6, 1, .iconst 4, 0, 0, 4, []),
  (7, 3, .if_icmp .ge 21, 17, 0, 0, []),
  (10, 1, .iload_n 0, 0, 0, 0, []),
  (11, 2, .bipush 97, 0, 0, 97, []),
  (13, 3, .if_icmp .lt 13, 15, 0, 0, []),
  (16, 1, .iload_n 0, 0, 0, 0, []),
  (17, 2, .bipush 107, 0, 0, 107, []),
  (19, 3, .if_icmp .ge 7, 15, 0, 0, []),
  (22, 1, .iconst 1, 0, 0, 1, []),
  (23, 3, .goto 4, 16, 0, 0, []),
  (26, 1, .iconst 0, 0, 0, 0, []),
  (27, 1, .ireturn, 1, 0, 0, []),
  (28, 1, .iload_n 2, 2, 0, 0, []),
  (29, 1, .iconst 4, 0, 0, 4, []),
  (30, 3, .if_icmp .ne 21, 30, 0, 0, []),
  (33, 1, .iload_n 0, 0, 0, 0, []),
  (34, 2, .bipush 83, 0, 0, 83, []),
  (36, 3, .if_icmp .eq 9, 26, 0, 0, []),
  (39, 1, .iload_n 0, 0, 0, 0, []),
  (40, 2, .bipush 90, 0, 0, 90, []),
  (42, 3, .if_icmp .ne 7, 28, 0, 0, []),
  (45, 1, .iconst 1, 0, 0, 1, []),
  (46, 3, .goto 4, 29, 0, 0, []),
  (49, 1, .iconst 0, 0, 0, 0, []),
  (50, 1, .ireturn, 1, 0, 0, []),
  (51, 1, .iload_n 0, 0, 0, 0, []),
  (52, 2, .bipush 59, 0, 0, 59, []),
  (54, 3, .if_icmp .ne 13, 38, 0, 0, []),
  (57, 1, .iload_n 1, 1, 0, 0, []),
  (58, 2, .bipush 59, 0, 0, 59, []),
  (60, 3, .if_icmp .ge 7, 38, 0, 0, []),
  (63, 1, .iconst 1, 0, 0, 1, []),
  (64, 3, .goto 4, 39, 0, 0, []),
  (67, 1, .iconst 0, 0, 0, 0, []),
  (68, 1, .ireturn, 1, 0, 0, [])])
def tw_M128 : tw_Meth := (yX10_cardsOf, cX10_cardsOf, 1, (some .int), 0, 99, 1, [338, 67, 337], [
  (0, 1, .aload_n 0, 0, 0, 0, []),
  (1, 3, .invokevirtual 9, 121, 0, 0, [324, 0]),
  (4, 1, .iconst 1, 0, 0, 1, []),
  (5, 1, .iadd, 0, 0, 0, []),
  (6, 2, .bipush 6, 0, 0, 6, []),
  (8, 1, .idiv, 0, 0, 0, []),
  (9, 1, .ireturn, 0, 0, 0, [])])
def tw_M129 : tw_Meth := (yX10_readCard, cX10_readCard, 5, none, 0, 99, 3, [348, 67, 347], [
  (0, 1, .iload_n 1, 1, 0, 0, []),
  (1, 2, .bipush 6, 0, 0, 6, []),
  (3, 1, .imul, 0, 0, 0, []),
  (4, 1, .istore_n 3, 3, 0, 0, []),
  (5, 1, .iconst 0, 0, 0, 0, []),
  (6, 2, .istore 4, 4, 0, 0, []),
  (8, 2, .iload 4, 4, 0, 0, []),
  (10, 1, .iconst 4, 0, 0, 4, []),
  (11, 3, .if_icmp .ge 27, 22, 0, 0, []),
  (14, 1, .aload_n 2, 2, 0, 0, []),
  (15, 2, .iload 4, 4, 0, 0, []),
  (17, 1, .aload_n 0, 0, 0, 0, []),
  (18, 1, .iload_n 3, 3, 0, 0, []),
  (19, 2, .iload 4, 4, 0, 0, []),
  (21, 1, .iadd, 0, 0, 0, []),
  (22, 3, .invokevirtual 15, 125, 1, 0, [325, 0]),
  (25, 2, .bipush 97, 0, 0, 97, []),
  (27, 1, .isub, 0, 0, 0, []),
  (28, 3, .invokevirtual 25, 2, 2, 0, [349, 0]),
  (31, 1, .pop, 0, 0, 0, []),
  (32, 3, .iinc 4 1, 4, 0, 1, []),
  (35, 3, .goto (-27), 6, 0, 0, []),
  (38, 1, .aload_n 2, 2, 0, 0, []),
  (39, 1, .aload_n 0, 0, 0, 0, []),
  (40, 1, .iload_n 3, 3, 0, 0, []),
  (41, 1, .iconst 4, 0, 0, 4, []),
  (42, 1, .iadd, 0, 0, 0, []),
  (43, 3, .invokevirtual 15, 125, 1, 0, [325, 0]),
  (46, 2, .bipush 90, 0, 0, 90, []),
  (48, 3, .if_icmp .ne 7, 32, 0, 0, []),
  (51, 1, .iconst 1, 0, 0, 1, []),
  (52, 3, .goto 4, 33, 0, 0, []),
  (55, 1, .iconst 0, 0, 0, 0, []),
  (56, 3, .invokevirtual 31, 8, 1, 0, [357, 0]),
  (59, 1, .return_, 0, 0, 0, [])])
def tw_M130 : tw_Meth := (yX10_writeCard, cX10_writeCard, 3, none, 0, 99, 2, [928, 67, 927], [
  (0, 1, .iconst 0, 0, 0, 0, []),
  (1, 1, .istore_n 2, 2, 0, 0, []),
  (2, 1, .iload_n 2, 2, 0, 0, []),
  (3, 1, .iconst 4, 0, 0, 4, []),
  (4, 3, .if_icmp .ge 21, 14, 0, 0, []),
  (7, 1, .aload_n 1, 1, 0, 0, []),
  (8, 2, .bipush 97, 0, 0, 97, []),
  (10, 1, .aload_n 0, 0, 0, 0, []),
  (11, 1, .iload_n 2, 2, 0, 0, []),
  (12, 3, .invokevirtual 35, 1, 1, 0, [929, 0]),
  (15, 1, .iadd, 0, 0, 0, []),
  (16, 3, .invokevirtual 38, 123, 1, 0, [930, 0]),
  (19, 3, .iinc 2 1, 2, 0, 1, []),
  (22, 3, .goto (-20), 2, 0, 0, []),
  (25, 1, .aload_n 1, 1, 0, 0, []),
  (26, 1, .aload_n 0, 0, 0, 0, []),
  (27, 3, .invokevirtual 41, 3, 0, 0, [931, 0]),
  (30, 1, .iconst 1, 0, 0, 1, []),
  (31, 3, .if_icmp .ne 8, 21, 0, 0, []),
  (34, 2, .bipush 90, 0, 0, 90, []),
  (36, 3, .goto 5, 22, 0, 0, []),
  (39, 2, .bipush 83, 0, 0, 83, []),
  (41, 3, .invokevirtual 38, 123, 1, 0, [930, 0]),
  (44, 1, .return_, 0, 0, 0, [])])
def tw_M131 : tw_Meth := (yX11_init, cX11_init, 1, none, 2, 10, 0, [74, 55, 73], [
  (0, 1, .aload_n 0, 0, 0, 0, []),
  (1, 3, .invokespecial 1, 999, 0, 0, [75, 76, 77]),
  (4, 1, .aload_n 0, 0, 0, 0, []),
  (5, 3, .new 7, 9, 0, 0, [78, 79, 56]),
  (8, 1, .dup, 0, 0, 0, []),
  (9, 3, .invokespecial 9, 120, 0, 0, [80, 1]),
  (12, 3, .putfield 10, 10, 0, 0, [262]),
  (15, 1, .aload_n 0, 0, 0, 0, []),
  (16, 3, .new 7, 9, 0, 0, [78, 79, 56]),
  (19, 1, .dup, 0, 0, 0, []),
  (20, 3, .invokespecial 9, 120, 0, 0, [80, 1]),
  (23, 3, .putfield 16, 10, 1, 0, [263]),
  (26, 1, .aload_n 0, 0, 0, 0, []),
  (27, 3, .new 19, 6, 0, 0, [92, 93, 57]),
  (30, 1, .dup, 0, 0, 0, []),
  (31, 3, .invokespecial 21, 81, 0, 0, [94, 0]),
  (34, 3, .putfield 22, 10, 2, 0, [264]),
  (37, 1, .aload_n 0, 0, 0, 0, []),
  (38, 3, .new 19, 6, 0, 0, [92, 93, 57]),
  (41, 1, .dup, 0, 0, 0, []),
  (42, 3, .invokespecial 21, 81, 0, 0, [94, 0]),
  (45, 3, .putfield 26, 10, 3, 0, [265]),
  (48, 1, .aload_n 0, 0, 0, 0, []),
  (49, 3, .new 29, 4, 0, 0, [183, 184, 61]),
  (52, 1, .dup, 0, 0, 0, []),
  (53, 3, .invokespecial 31, 61, 0, 0, [185, 1]),
  (56, 3, .putfield 32, 10, 4, 0, [266]),
  (59, 1, .aload_n 0, 0, 0, 0, []),
  (60, 3, .new 36, 7, 0, 0, [204, 205, 62]),
  (63, 1, .dup, 0, 0, 0, []),
  (64, 3, .invokespecial 38, 105, 0, 0, [206, 1]),
  (67, 3, .putfield 39, 10, 5, 0, [267]),
  (70, 1, .aload_n 0, 0, 0, 0, []),
  (71, 3, .new 43, 8, 0, 0, [220, 221, 63]),
  (74, 1, .dup, 0, 0, 0, []),
  (75, 3, .invokespecial 45, 113, 0, 0, [222, 1]),
  (78, 3, .putfield 46, 10, 6, 0, [268]),
  (81, 1, .aload_n 0, 0, 0, 0, []),
  (82, 3, .new 50, 2, 0, 0, [233, 234, 64]),
  (85, 1, .dup, 0, 0, 0, []),
  (86, 3, .invokespecial 52, 37, 0, 0, [235, 1]),
  (89, 3, .putfield 53, 10, 7, 0, [269]),
  (92, 1, .aload_n 0, 0, 0, 0, []),
  (93, 3, .new 57, 5, 0, 0, [249, 250, 65]),
  (96, 1, .dup, 0, 0, 0, []),
  (97, 3, .invokespecial 59, 73, 0, 0, [251, 0]),
  (100, 3, .putfield 60, 10, 8, 0, [270]),
  (103, 1, .aload_n 0, 0, 0, 0, []),
  (104, 1, .iconst 0, 0, 0, 0, []),
  (105, 3, .putfield 64, 10, 9, 1, [271]),
  (108, 1, .return_, 0, 0, 0, [])])
def tw_M132 : tw_Meth := (yX11_feed, cX11_feed, 2, (some .int), 1, 10, 1, [296, 55, 294, 295], [
  (0, 1, .iload_n 1, 1, 0, 0, []),
  (1, 1, .iconst 1, 0, 0, 1, []),
  (2, 3, .if_icmp .lt 9, 6, 0, 0, []),
  (5, 1, .iload_n 1, 1, 0, 0, []),
  (6, 2, .bipush 127, 0, 0, 127, []),
  (8, 3, .if_icmp .le 6, 8, 0, 0, []),
  (11, 2, .bipush (-2), 0, 0, (-2), []),
  (13, 1, .ireturn, 0, 0, 0, []),
  (14, 1, .aload_n 0, 0, 0, 0, []),
  (15, 3, .getfield 10, 10, 0, 0, [262]),
  (18, 3, .invokevirtual 68, 122, 0, 0, [297, 0]),
  (21, 3, .ifCond .eq 6, 14, 0, 0, []),
  (24, 2, .bipush (-4), 0, 0, (-4), []),
  (26, 1, .ireturn, 0, 0, 0, []),
  (27, 1, .aload_n 0, 0, 0, 0, []),
  (28, 3, .getfield 10, 10, 0, 0, [262]),
  (31, 1, .iload_n 1, 1, 0, 0, []),
  (32, 3, .invokevirtual 72, 123, 1, 0, [301, 0]),
  (35, 1, .aload_n 0, 0, 0, 0, []),
  (36, 3, .getfield 10, 10, 0, 0, [262]),
  (39, 3, .invokevirtual 76, 121, 0, 0, [305, 0]),
  (42, 1, .ireturn, 0, 0, 0, [])])
def tw_M133 : tw_Meth := (yX11_clear, cX11_clear, 2, (some .int), 1, 10, 0, [312, 55, 310, 311], [
  (0, 1, .aload_n 0, 0, 0, 0, []),
  (1, 3, .getfield 10, 10, 0, 0, [262]),
  (4, 3, .invokevirtual 76, 121, 0, 0, [305, 0]),
  (7, 1, .istore_n 1, 1, 0, 0, []),
  (8, 1, .aload_n 0, 0, 0, 0, []),
  (9, 3, .getfield 10, 10, 0, 0, [262]),
  (12, 3, .invokevirtual 80, 124, 0, 0, [313, 0]),
  (15, 1, .iload_n 1, 1, 0, 0, []),
  (16, 1, .ireturn, 0, 0, 0, [])])
def tw_M134 : tw_Meth := (yX11_thread, cX11_thread, 2, (some .int), 1, 10, 0, [320, 55, 318, 319], [
  (0, 1, .aload_n 0, 0, 0, 0, []),
  (1, 3, .getfield 10, 10, 0, 0, [262]),
  (4, 3, .invokestatic 83, 126, 1, 0, [321, 0]),
  (7, 1, .istore_n 1, 1, 0, 0, []),
  (8, 1, .iload_n 1, 1, 0, 0, []),
  (9, 1, .iconst (-1), 0, 0, (-1), []),
  (10, 3, .if_icmp .ne 14, 12, 0, 0, []),
  (13, 1, .aload_n 0, 0, 0, 0, []),
  (14, 3, .getfield 22, 10, 2, 0, [264]),
  (17, 1, .aload_n 0, 0, 0, 0, []),
  (18, 3, .getfield 10, 10, 0, 0, [262]),
  (21, 3, .invokevirtual 89, 86, 1, 0, [332, 0]),
  (24, 1, .aload_n 0, 0, 0, 0, []),
  (25, 3, .getfield 10, 10, 0, 0, [262]),
  (28, 3, .invokevirtual 80, 124, 0, 0, [313, 0]),
  (31, 1, .iload_n 1, 1, 0, 0, []),
  (32, 1, .iconst (-1), 0, 0, (-1), []),
  (33, 3, .if_icmp .ne 13, 22, 0, 0, []),
  (36, 1, .aload_n 0, 0, 0, 0, []),
  (37, 3, .getfield 22, 10, 2, 0, [264]),
  (40, 3, .invokevirtual 93, 82, 0, 0, [365, 0]),
  (43, 3, .goto 7, 25, 0, 0, []),
  (46, 2, .bipush (-100), 0, 0, (-100), []),
  (48, 1, .iload_n 1, 1, 0, 0, []),
  (49, 1, .isub, 0, 0, 0, []),
  (50, 1, .ireturn, 0, 0, 0, [])])
def tw_M135 : tw_Meth := (yX11_law, cX11_law, 2, (some .int), 1, 10, 0, [372, 55, 370, 371], [
  (0, 1, .aload_n 0, 0, 0, 0, []),
  (1, 3, .getfield 32, 10, 4, 0, [266]),
  (4, 1, .aload_n 0, 0, 0, 0, []),
  (5, 3, .getfield 10, 10, 0, 0, [262]),
  (8, 3, .invokevirtual 96, 63, 1, 0, [373, 0]),
  (11, 1, .istore_n 1, 1, 0, 0, []),
  (12, 1, .aload_n 0, 0, 0, 0, []),
  (13, 3, .getfield 10, 10, 0, 0, [262]),
  (16, 3, .invokevirtual 80, 124, 0, 0, [313, 0]),
  (19, 1, .iload_n 1, 1, 0, 0, []),
  (20, 1, .iconst (-1), 0, 0, (-1), []),
  (21, 3, .if_icmp .eq 8, 16, 0, 0, []),
  (24, 2, .bipush (-100), 0, 0, (-100), []),
  (26, 1, .iload_n 1, 1, 0, 0, []),
  (27, 1, .isub, 0, 0, 0, []),
  (28, 1, .ireturn, 0, 0, 0, []),
  (29, 1, .aload_n 0, 0, 0, 0, []),
  (30, 3, .getfield 22, 10, 2, 0, [264]),
  (33, 1, .aload_n 0, 0, 0, 0, []),
  (34, 3, .getfield 32, 10, 4, 0, [266]),
  (37, 3, .invokevirtual 99, 62, 0, 0, [431, 0]),
  (40, 3, .invokevirtual 103, 88, 1, 0, [435, 0]),
  (43, 1, .aload_n 0, 0, 0, 0, []),
  (44, 3, .getfield 32, 10, 4, 0, [266]),
  (47, 3, .invokevirtual 99, 62, 0, 0, [431, 0]),
  (50, 3, .invokevirtual 107, 50, 0, 0, [446, 0]),
  (53, 1, .ireturn, 0, 0, 0, [])])
def tw_M136 : tw_Meth := (yX11_card, cX11_card, 4, (some .int), 1, 10, 2, [453, 55, 451, 452], [
  (0, 1, .aload_n 0, 0, 0, 0, []),
  (1, 3, .getfield 22, 10, 2, 0, [264]),
  (4, 1, .iload_n 1, 1, 0, 0, []),
  (5, 3, .invokevirtual 112, 85, 1, 0, [454, 0]),
  (8, 1, .astore_n 3, 3, 0, 0, []),
  (9, 1, .aload_n 3, 3, 0, 0, []),
  (10, 3, .ifnonnull 5, 9, 0, 0, []),
  (13, 1, .iconst (-1), 0, 0, (-1), []),
  (14, 1, .ireturn, 0, 0, 0, []),
  (15, 1, .iload_n 2, 2, 0, 0, []),
  (16, 52, .tableswitch 100 0 8 #[52, 52, 52, 52, 58, 63, 68, 76, 90], 40, 8, 0, [11, 11, 11, 11, 15, 18, 21, 26, 34]),
  (68, 1, .aload_n 3, 3, 0, 0, []),
  (69, 1, .iload_n 2, 2, 0, 0, []),
  (70, 3, .invokevirtual 116, 1, 1, 0, [455, 0]),
  (73, 1, .ireturn, 0, 0, 0, []),
  (74, 1, .aload_n 3, 3, 0, 0, []),
  (75, 3, .invokevirtual 122, 3, 0, 0, [456, 0]),
  (78, 1, .ireturn, 0, 0, 0, []),
  (79, 1, .aload_n 3, 3, 0, 0, []),
  (80, 3, .invokevirtual 125, 5, 0, 0, [460, 0]),
  (83, 1, .ireturn, 0, 0, 0, []),
  (84, 1, .aload_n 3, 3, 0, 0, []),
  (85, 3, .invokevirtual 128, 7, 0, 0, [464, 0]),
  (88, 2, .bipush 100, 0, 0, 100, []),
  (90, 1, .iadd, 0, 0, 0, []),
  (91, 1, .ireturn, 0, 0, 0, []),
  (92, 1, .aload_n 0, 0, 0, 0, []),
  (93, 3, .getfield 22, 10, 2, 0, [264]),
  (96, 3, .invokevirtual 131, 83, 0, 0, [468, 0]),
  (99, 1, .iload_n 1, 1, 0, 0, []),
  (100, 1, .iconst 3, 0, 0, 3, []),
  (101, 1, .iconst 0, 0, 0, 0, []),
  (102, 3, .invokevirtual 135, 25, 3, 0, [472, 0]),
  (105, 1, .ireturn, 0, 0, 0, []),
  (106, 1, .aload_n 0, 0, 0, 0, []),
  (107, 3, .getfield 22, 10, 2, 0, [264]),
  (110, 1, .iload_n 1, 1, 0, 0, []),
  (111, 1, .iconst 0, 0, 0, 0, []),
  (112, 3, .invokevirtual 141, 89, 2, 0, [485, 0]),
  (115, 1, .ireturn, 0, 0, 0, []),
  (116, 1, .iconst (-1), 0, 0, (-1), []),
  (117, 1, .ireturn, 0, 0, 0, [])])
def tw_M137 : tw_Meth := (yX11_slant, cX11_slant, 3, (some .int), 1, 10, 1, [517, 55, 515, 516], [
  (0, 1, .aload_n 0, 0, 0, 0, []),
  (1, 3, .getfield 22, 10, 2, 0, [264]),
  (4, 1, .iload_n 1, 1, 0, 0, []),
  (5, 3, .invokevirtual 112, 85, 1, 0, [454, 0]),
  (8, 1, .astore_n 2, 2, 0, 0, []),
  (9, 1, .aload_n 2, 2, 0, 0, []),
  (10, 3, .ifnonnull 7, 9, 0, 0, []),
  (13, 1, .iconst (-1), 0, 0, (-1), []),
  (14, 3, .goto 7, 11, 0, 0, []),
  (17, 1, .aload_n 2, 2, 0, 0, []),
  (18, 3, .invokevirtual 145, 4, 0, 0, [518, 0]),
  (21, 1, .ireturn, 0, 0, 0, [])])
def tw_M138 : tw_Meth := (yX11_place, cX11_place, 4, (some .int), 1, 10, 2, [525, 55, 523, 524], [
  (0, 1, .aload_n 0, 0, 0, 0, []),
  (1, 3, .getfield 22, 10, 2, 0, [264]),
  (4, 1, .iload_n 1, 1, 0, 0, []),
  (5, 3, .invokevirtual 112, 85, 1, 0, [454, 0]),
  (8, 1, .astore_n 3, 3, 0, 0, []),
  (9, 1, .aload_n 3, 3, 0, 0, []),
  (10, 3, .ifnonnull 5, 9, 0, 0, []),
  (13, 1, .iconst (-1), 0, 0, (-1), []),
  (14, 1, .ireturn, 0, 0, 0, []),
  (15, 1, .iload_n 2, 2, 0, 0, []),
  (16, 3, .ifCond .lt 8, 14, 0, 0, []),
  (19, 1, .iload_n 2, 2, 0, 0, []),
  (20, 1, .iconst 4, 0, 0, 4, []),
  (21, 3, .if_icmp .lt 8, 16, 0, 0, []),
  (24, 2, .bipush (-2), 0, 0, (-2), []),
  (26, 3, .goto 8, 19, 0, 0, []),
  (29, 1, .aload_n 3, 3, 0, 0, []),
  (30, 1, .iload_n 2, 2, 0, 0, []),
  (31, 3, .invokevirtual 148, 6, 1, 0, [526, 0]),
  (34, 1, .ireturn, 0, 0, 0, [])])
def tw_M139 : tw_Meth := (yX11_recolour, cX11_recolour, 5, (some .int), 1, 10, 3, [533, 55, 531, 532], [
  (0, 1, .aload_n 0, 0, 0, 0, []),
  (1, 3, .getfield 22, 10, 2, 0, [264]),
  (4, 1, .iload_n 1, 1, 0, 0, []),
  (5, 3, .invokevirtual 112, 85, 1, 0, [454, 0]),
  (8, 2, .astore 4, 4, 0, 0, []),
  (10, 2, .aload 4, 4, 0, 0, []),
  (12, 3, .ifnull 12, 12, 0, 0, []),
  (15, 1, .iload_n 2, 2, 0, 0, []),
  (16, 3, .ifCond .lt 8, 12, 0, 0, []),
  (19, 1, .iload_n 2, 2, 0, 0, []),
  (20, 1, .iconst 4, 0, 0, 4, []),
  (21, 3, .if_icmp .lt 5, 14, 0, 0, []),
  (24, 1, .iconst (-1), 0, 0, (-1), []),
  (25, 1, .ireturn, 0, 0, 0, []),
  (26, 1, .iload_n 3, 3, 0, 0, []),
  (27, 3, .invokestatic 151, 177, 1, 0, [534, 0]),
  (30, 3, .ifCond .eq 13, 22, 0, 0, []),
  (33, 2, .aload 4, 4, 0, 0, []),
  (35, 1, .iload_n 2, 2, 0, 0, []),
  (36, 1, .iload_n 3, 3, 0, 0, []),
  (37, 3, .invokevirtual 155, 2, 2, 0, [537, 0]),
  (40, 3, .goto 5, 23, 0, 0, []),
  (43, 2, .bipush (-2), 0, 0, (-2), []),
  (45, 1, .ireturn, 0, 0, 0, [])])
def tw_M140 : tw_Meth := (yX11_turn, cX11_turn, 3, (some .int), 1, 10, 2, [541, 55, 539, 540], [
  (0, 1, .aload_n 0, 0, 0, 0, []),
  (1, 3, .getfield 22, 10, 2, 0, [264]),
  (4, 1, .iload_n 1, 1, 0, 0, []),
  (5, 3, .invokevirtual 112, 85, 1, 0, [454, 0]),
  (8, 3, .ifnonnull 5, 7, 0, 0, []),
  (11, 1, .iconst (-1), 0, 0, (-1), []),
  (12, 1, .ireturn, 0, 0, 0, []),
  (13, 1, .iload_n 2, 2, 0, 0, []),
  (14, 3, .invokestatic 158, 178, 1, 0, [542, 0]),
  (17, 3, .ifCond .eq 14, 17, 0, 0, []),
  (20, 1, .aload_n 0, 0, 0, 0, []),
  (21, 1, .iconst 1, 0, 0, 1, []),
  (22, 1, .iload_n 1, 1, 0, 0, []),
  (23, 1, .ishl, 0, 0, 0, []),
  (24, 1, .iload_n 2, 2, 0, 0, []),
  (25, 3, .invokevirtual 161, 142, 2, 0, [545, 0]),
  (28, 3, .goto 5, 18, 0, 0, []),
  (31, 2, .bipush (-2), 0, 0, (-2), []),
  (33, 1, .ireturn, 0, 0, 0, [])])
def tw_M141 : tw_Meth := (yX11_pack, cX11_pack, 3, (some .int), 1, 10, 2, [615, 55, 613, 614], [
  (0, 1, .iload_n 1, 1, 0, 0, []),
  (1, 3, .ifCond .lt 23, 12, 0, 0, []),
  (4, 1, .iload_n 1, 1, 0, 0, []),
  (5, 1, .iconst 1, 0, 0, 1, []),
  (6, 1, .aload_n 0, 0, 0, 0, []),
  (7, 3, .getfield 22, 10, 2, 0, [264]),
  (10, 3, .invokevirtual 93, 82, 0, 0, [365, 0]),
  (13, 1, .ishl, 0, 0, 0, []),
  (14, 3, .if_icmp .ge 10, 12, 0, 0, []),
  (17, 1, .iload_n 2, 2, 0, 0, []),
  (18, 3, .invokestatic 158, 178, 1, 0, [542, 0]),
  (21, 3, .ifCond .ne 6, 14, 0, 0, []),
  (24, 2, .bipush (-2), 0, 0, (-2), []),
  (26, 1, .ireturn, 0, 0, 0, []),
  (27, 1, .aload_n 0, 0, 0, 0, []),
  (28, 3, .getfield 22, 10, 2, 0, [264]),
  (31, 3, .invokevirtual 93, 82, 0, 0, [365, 0]),
  (34, 3, .ifCond .ne 8, 20, 0, 0, []),
  (37, 2, .bipush (-3), 0, 0, (-3), []),
  (39, 3, .goto 9, 24, 0, 0, []),
  (42, 1, .aload_n 0, 0, 0, 0, []),
  (43, 1, .iload_n 1, 1, 0, 0, []),
  (44, 1, .iload_n 2, 2, 0, 0, []),
  (45, 3, .invokevirtual 161, 142, 2, 0, [545, 0]),
  (48, 1, .ireturn, 0, 0, 0, [])])
def tw_M142 : tw_Meth := (yX11_turnSet, cX11_turnSet, 3, (some .int), 1, 10, 2, [548, 55, 547, 6], [
  (0, 1, .aload_n 0, 0, 0, 0, []),
  (1, 3, .getfield 22, 10, 2, 0, [264]),
  (4, 3, .invokevirtual 131, 83, 0, 0, [468, 0]),
  (7, 3, .invokevirtual 164, 19, 0, 0, [549, 0]),
  (10, 1, .iconst 1, 0, 0, 1, []),
  (11, 3, .if_icmp .ge 6, 8, 0, 0, []),
  (14, 2, .bipush (-4), 0, 0, (-4), []),
  (16, 1, .ireturn, 0, 0, 0, []),
  (17, 1, .aload_n 0, 0, 0, 0, []),
  (18, 3, .getfield 22, 10, 2, 0, [264]),
  (21, 1, .iload_n 1, 1, 0, 0, []),
  (22, 1, .iload_n 2, 2, 0, 0, []),
  (23, 3, .invokevirtual 167, 90, 2, 0, [553, 0]),
  (26, 3, .ifCond .eq 16, 19, 0, 0, []),
  (29, 1, .aload_n 0, 0, 0, 0, []),
  (30, 3, .getfield 22, 10, 2, 0, [264]),
  (33, 3, .invokevirtual 131, 83, 0, 0, [468, 0]),
  (36, 3, .invokevirtual 171, 17, 0, 0, [611, 0]),
  (39, 3, .goto 5, 20, 0, 0, []),
  (42, 2, .bipush (-6), 0, 0, (-6), []),
  (44, 1, .ireturn, 0, 0, 0, [])])
def tw_M143 : tw_Meth := (yX11_weave, cX11_weave, 3, (some .int), 1, 10, 1, [619, 55, 617, 618], [
  (0, 1, .iload_n 1, 1, 0, 0, []),
  (1, 1, .iconst 1, 0, 0, 1, []),
  (2, 3, .if_icmp .lt 9, 6, 0, 0, []),
  (5, 1, .iload_n 1, 1, 0, 0, []),
  (6, 2, .bipush 50, 0, 0, 50, []),
  (8, 3, .if_icmp .le 6, 8, 0, 0, []),
  (11, 2, .bipush (-2), 0, 0, (-2), []),
  (13, 1, .ireturn, 0, 0, 0, []),
  (14, 1, .aload_n 0, 0, 0, 0, []),
  (15, 3, .getfield 22, 10, 2, 0, [264]),
  (18, 3, .invokevirtual 93, 82, 0, 0, [365, 0]),
  (21, 3, .ifCond .ne 6, 14, 0, 0, []),
  (24, 2, .bipush (-3), 0, 0, (-3), []),
  (26, 1, .ireturn, 0, 0, 0, []),
  (27, 1, .iconst 0, 0, 0, 0, []),
  (28, 1, .istore_n 2, 2, 0, 0, []),
  (29, 1, .iload_n 2, 2, 0, 0, []),
  (30, 1, .iload_n 1, 1, 0, 0, []),
  (31, 3, .if_icmp .ge 19, 25, 0, 0, []),
  (34, 1, .aload_n 0, 0, 0, 0, []),
  (35, 3, .getfield 22, 10, 2, 0, [264]),
  (38, 3, .invokevirtual 174, 91, 0, 0, [620, 0]),
  (41, 3, .ifCond .eq 9, 25, 0, 0, []),
  (44, 3, .iinc 2 1, 2, 0, 1, []),
  (47, 3, .goto (-18), 16, 0, 0, []),
  (50, 1, .iload_n 2, 2, 0, 0, []),
  (51, 1, .ireturn, 0, 0, 0, [])])
def tw_M144 : tw_Meth := (yX11_unweave, cX11_unweave, 2, (some .int), 1, 10, 1, [628, 55, 626, 627], [
  (0, 1, .iload_n 1, 1, 0, 0, []),
  (1, 1, .iconst 1, 0, 0, 1, []),
  (2, 3, .if_icmp .lt 9, 6, 0, 0, []),
  (5, 1, .iload_n 1, 1, 0, 0, []),
  (6, 2, .bipush 50, 0, 0, 50, []),
  (8, 3, .if_icmp .le 8, 8, 0, 0, []),
  (11, 2, .bipush (-2), 0, 0, (-2), []),
  (13, 3, .goto 11, 12, 0, 0, []),
  (16, 1, .aload_n 0, 0, 0, 0, []),
  (17, 3, .getfield 22, 10, 2, 0, [264]),
  (20, 1, .iload_n 1, 1, 0, 0, []),
  (21, 3, .invokevirtual 177, 96, 1, 0, [629, 0]),
  (24, 1, .ireturn, 0, 0, 0, [])])
def tw_M145 : tw_Meth := (yX11_front, cX11_front, 3, (some .int), 1, 10, 2, [645, 55, 643, 644], [
  (0, 1, .aload_n 0, 0, 0, 0, []),
  (1, 3, .getfield 22, 10, 2, 0, [264]),
  (4, 3, .invokevirtual 131, 83, 0, 0, [468, 0]),
  (7, 1, .iload_n 1, 1, 0, 0, []),
  (8, 1, .iload_n 2, 2, 0, 0, []),
  (9, 1, .iconst 0, 0, 0, 0, []),
  (10, 3, .invokevirtual 180, 21, 3, 0, [646, 0]),
  (13, 1, .ireturn, 0, 0, 0, [])])
def tw_M146 : tw_Meth := (yX11_back, cX11_back, 3, (some .int), 1, 10, 2, [650, 55, 648, 649], [
  (0, 1, .aload_n 0, 0, 0, 0, []),
  (1, 3, .getfield 22, 10, 2, 0, [264]),
  (4, 3, .invokevirtual 131, 83, 0, 0, [468, 0]),
  (7, 1, .iload_n 1, 1, 0, 0, []),
  (8, 1, .iload_n 2, 2, 0, 0, []),
  (9, 1, .iconst 1, 0, 0, 1, []),
  (10, 3, .invokevirtual 180, 21, 3, 0, [646, 0]),
  (13, 1, .ireturn, 0, 0, 0, [])])
def tw_M147 : tw_Meth := (yX11_lean, cX11_lean, 3, (some .int), 1, 10, 2, [654, 55, 652, 653], [
  (0, 1, .aload_n 0, 0, 0, 0, []),
  (1, 3, .getfield 22, 10, 2, 0, [264]),
  (4, 3, .invokevirtual 131, 83, 0, 0, [468, 0]),
  (7, 1, .iload_n 1, 1, 0, 0, []),
  (8, 1, .iload_n 2, 2, 0, 0, []),
  (9, 1, .iconst 2, 0, 0, 2, []),
  (10, 3, .invokevirtual 180, 21, 3, 0, [646, 0]),
  (13, 1, .ireturn, 0, 0, 0, [])])
def tw_M148 : tw_Meth := (yX11_turning, cX11_turning, 3, (some .int), 1, 10, 2, [658, 55, 656, 657], [
  (0, 1, .aload_n 0, 0, 0, 0, []),
  (1, 3, .getfield 22, 10, 2, 0, [264]),
  (4, 3, .invokevirtual 131, 83, 0, 0, [468, 0]),
  (7, 1, .iload_n 1, 1, 0, 0, []),
  (8, 1, .iload_n 2, 2, 0, 0, []),
  (9, 1, .iconst 3, 0, 0, 3, []),
  (10, 3, .invokevirtual 180, 21, 3, 0, [646, 0]),
  (13, 1, .ireturn, 0, 0, 0, [])])
def tw_M149 : tw_Meth := (yX11_returns, cX11_returns, 1, (some .int), 1, 10, 0, [662, 55, 660, 661], [
  (0, 1, .aload_n 0, 0, 0, 0, []),
  (1, 3, .getfield 22, 10, 2, 0, [264]),
  (4, 3, .invokevirtual 93, 82, 0, 0, [365, 0]),
  (7, 3, .ifCond .ne 8, 6, 0, 0, []),
  (10, 2, .bipush (-3), 0, 0, (-3), []),
  (12, 3, .goto 14, 11, 0, 0, []),
  (15, 1, .aload_n 0, 0, 0, 0, []),
  (16, 3, .getfield 39, 10, 5, 0, [267]),
  (19, 1, .aload_n 0, 0, 0, 0, []),
  (20, 3, .getfield 22, 10, 2, 0, [264]),
  (23, 3, .invokevirtual 183, 106, 1, 0, [663, 0]),
  (26, 1, .ireturn, 0, 0, 0, [])])
def tw_M150 : tw_Meth := (yX11_flat, cX11_flat, 1, (some .int), 1, 10, 0, [693, 55, 691, 692], [
  (0, 1, .aload_n 0, 0, 0, 0, []),
  (1, 3, .getfield 22, 10, 2, 0, [264]),
  (4, 3, .invokevirtual 93, 82, 0, 0, [365, 0]),
  (7, 3, .ifCond .ne 8, 6, 0, 0, []),
  (10, 2, .bipush (-3), 0, 0, (-3), []),
  (12, 3, .goto 14, 11, 0, 0, []),
  (15, 1, .aload_n 0, 0, 0, 0, []),
  (16, 3, .getfield 39, 10, 5, 0, [267]),
  (19, 1, .aload_n 0, 0, 0, 0, []),
  (20, 3, .getfield 22, 10, 2, 0, [264]),
  (23, 3, .invokevirtual 187, 107, 1, 0, [694, 0]),
  (26, 1, .ireturn, 0, 0, 0, [])])
def tw_M151 : tw_Meth := (yX11_jam, cX11_jam, 1, (some .int), 1, 10, 0, [705, 55, 703, 704], [
  (0, 1, .aload_n 0, 0, 0, 0, []),
  (1, 3, .getfield 22, 10, 2, 0, [264]),
  (4, 3, .invokevirtual 93, 82, 0, 0, [365, 0]),
  (7, 3, .ifCond .ne 8, 6, 0, 0, []),
  (10, 2, .bipush (-3), 0, 0, (-3), []),
  (12, 3, .goto 14, 11, 0, 0, []),
  (15, 1, .aload_n 0, 0, 0, 0, []),
  (16, 3, .getfield 39, 10, 5, 0, [267]),
  (19, 1, .aload_n 0, 0, 0, 0, []),
  (20, 3, .getfield 22, 10, 2, 0, [264]),
  (23, 3, .invokevirtual 190, 108, 1, 0, [706, 0]),
  (26, 1, .ireturn, 0, 0, 0, [])])
def tw_M152 : tw_Meth := (yX11_undoing, cX11_undoing, 6, (some .int), 1, 10, 2, [713, 55, 711, 712], [
  (0, 1, .aload_n 0, 0, 0, 0, []),
  (1, 3, .getfield 22, 10, 2, 0, [264]),
  (4, 1, .iconst 1, 0, 0, 1, []),
  (5, 3, .invokevirtual 193, 98, 1, 0, [714, 0]),
  (8, 1, .istore_n 3, 3, 0, 0, []),
  (9, 1, .iload_n 3, 3, 0, 0, []),
  (10, 1, .aload_n 0, 0, 0, 0, []),
  (11, 3, .getfield 22, 10, 2, 0, [264]),
  (14, 1, .iconst (-1), 0, 0, (-1), []),
  (15, 3, .invokevirtual 193, 98, 1, 0, [714, 0]),
  (18, 1, .iadd, 0, 0, 0, []),
  (19, 2, .istore 4, 4, 0, 0, []),
  (21, 1, .iload_n 1, 1, 0, 0, []),
  (22, 1, .iconst (-1), 0, 0, (-1), []),
  (23, 3, .if_icmp .lt 18, 23, 0, 0, []),
  (26, 1, .iload_n 1, 1, 0, 0, []),
  (27, 2, .iload 4, 4, 0, 0, []),
  (29, 3, .if_icmp .ge 12, 23, 0, 0, []),
  (32, 1, .iload_n 2, 2, 0, 0, []),
  (33, 3, .ifCond .lt 8, 23, 0, 0, []),
  (36, 1, .iload_n 2, 2, 0, 0, []),
  (37, 1, .iconst 1, 0, 0, 1, []),
  (38, 3, .if_icmp .le 5, 25, 0, 0, []),
  (41, 1, .iconst (-1), 0, 0, (-1), []),
  (42, 1, .ireturn, 0, 0, 0, []),
  (43, 1, .iload_n 1, 1, 0, 0, []),
  (44, 1, .iconst (-1), 0, 0, (-1), []),
  (45, 3, .if_icmp .ne 6, 30, 0, 0, []),
  (48, 2, .iload 4, 4, 0, 0, []),
  (50, 1, .ireturn, 0, 0, 0, []),
  (51, 1, .iload_n 1, 1, 0, 0, []),
  (52, 1, .iload_n 3, 3, 0, 0, []),
  (53, 3, .if_icmp .ge 7, 35, 0, 0, []),
  (56, 1, .iconst 1, 0, 0, 1, []),
  (57, 3, .goto 4, 36, 0, 0, []),
  (60, 1, .iconst 0, 0, 0, 0, []),
  (61, 2, .istore 5, 5, 0, 0, []),
  (63, 1, .iload_n 2, 2, 0, 0, []),
  (64, 1, .iconst 1, 0, 0, 1, []),
  (65, 3, .if_icmp .ne 14, 46, 0, 0, []),
  (68, 2, .iload 5, 5, 0, 0, []),
  (70, 3, .ifCond .eq 7, 44, 0, 0, []),
  (73, 1, .iconst 2, 0, 0, 2, []),
  (74, 3, .goto 4, 45, 0, 0, []),
  (77, 1, .iconst 1, 0, 0, 1, []),
  (78, 1, .ireturn, 0, 0, 0, []),
  (79, 2, .iload 5, 5, 0, 0, []),
  (81, 3, .ifCond .eq 15, 54, 0, 0, []),
  (84, 1, .aload_n 0, 0, 0, 0, []),
  (85, 3, .getfield 22, 10, 2, 0, [264]),
  (88, 1, .iload_n 1, 1, 0, 0, []),
  (89, 1, .iconst 1, 0, 0, 1, []),
  (90, 3, .invokevirtual 196, 99, 2, 0, [720, 0]),
  (93, 3, .goto 14, 61, 0, 0, []),
  (96, 1, .aload_n 0, 0, 0, 0, []),
  (97, 3, .getfield 22, 10, 2, 0, [264]),
  (100, 1, .iload_n 1, 1, 0, 0, []),
  (101, 1, .iload_n 3, 3, 0, 0, []),
  (102, 1, .isub, 0, 0, 0, []),
  (103, 1, .iconst (-1), 0, 0, (-1), []),
  (104, 3, .invokevirtual 196, 99, 2, 0, [720, 0]),
  (107, 1, .ireturn, 0, 0, 0, [])])
def tw_M153 : tw_Meth := (yX11_paint, cX11_paint, 4, (some .int), 1, 10, 3, [727, 55, 725, 726], [
  (0, 1, .aload_n 0, 0, 0, 0, []),
  (1, 3, .getfield 46, 10, 6, 0, [268]),
  (4, 1, .iload_n 1, 1, 0, 0, []),
  (5, 1, .iload_n 2, 2, 0, 0, []),
  (6, 3, .invokevirtual 199, 115, 2, 0, [728, 0]),
  (9, 3, .ifCond .ne 5, 8, 0, 0, []),
  (12, 1, .iconst (-1), 0, 0, (-1), []),
  (13, 1, .ireturn, 0, 0, 0, []),
  (14, 1, .iload_n 3, 3, 0, 0, []),
  (15, 3, .invokestatic 151, 177, 1, 0, [534, 0]),
  (18, 3, .ifCond .eq 16, 18, 0, 0, []),
  (21, 1, .aload_n 0, 0, 0, 0, []),
  (22, 3, .getfield 46, 10, 6, 0, [268]),
  (25, 1, .iload_n 1, 1, 0, 0, []),
  (26, 1, .iload_n 2, 2, 0, 0, []),
  (27, 1, .iload_n 3, 3, 0, 0, []),
  (28, 3, .invokevirtual 202, 117, 3, 0, [732, 0]),
  (31, 3, .goto 5, 19, 0, 0, []),
  (34, 2, .bipush (-2), 0, 0, (-2), []),
  (36, 1, .ireturn, 0, 0, 0, [])])
def tw_M154 : tw_Meth := (yX11_lines, cX11_lines, 2, (some .int), 1, 10, 1, [744, 55, 742, 743], [
  (0, 1, .iload_n 1, 1, 0, 0, []),
  (1, 3, .ifCond .lt 9, 5, 0, 0, []),
  (4, 1, .iload_n 1, 1, 0, 0, []),
  (5, 2, .bipush 8, 0, 0, 8, []),
  (7, 3, .if_icmp .le 8, 7, 0, 0, []),
  (10, 2, .bipush (-2), 0, 0, (-2), []),
  (12, 3, .goto 11, 11, 0, 0, []),
  (15, 1, .aload_n 0, 0, 0, 0, []),
  (16, 3, .getfield 46, 10, 6, 0, [268]),
  (19, 1, .iload_n 1, 1, 0, 0, []),
  (20, 3, .invokevirtual 205, 118, 1, 0, [745, 0]),
  (23, 1, .ireturn, 0, 0, 0, [])])
def tw_M155 : tw_Meth := (yX11_draft, cX11_draft, 4, (some .int), 1, 10, 2, [752, 55, 750, 751], [
  (0, 1, .aload_n 0, 0, 0, 0, []),
  (1, 3, .getfield 22, 10, 2, 0, [264]),
  (4, 1, .iload_n 2, 2, 0, 0, []),
  (5, 3, .invokevirtual 112, 85, 1, 0, [454, 0]),
  (8, 1, .astore_n 3, 3, 0, 0, []),
  (9, 1, .aload_n 3, 3, 0, 0, []),
  (10, 3, .ifnull 18, 14, 0, 0, []),
  (13, 1, .iload_n 1, 1, 0, 0, []),
  (14, 3, .ifCond .lt 14, 14, 0, 0, []),
  (17, 1, .iload_n 1, 1, 0, 0, []),
  (18, 1, .aload_n 0, 0, 0, 0, []),
  (19, 3, .getfield 46, 10, 6, 0, [268]),
  (22, 3, .invokevirtual 208, 114, 0, 0, [753, 0]),
  (25, 3, .if_icmp .lt 5, 16, 0, 0, []),
  (28, 1, .iconst (-1), 0, 0, (-1), []),
  (29, 1, .ireturn, 0, 0, 0, []),
  (30, 1, .aload_n 0, 0, 0, 0, []),
  (31, 3, .getfield 53, 10, 7, 0, [269]),
  (34, 1, .aload_n 3, 3, 0, 0, []),
  (35, 1, .aload_n 0, 0, 0, 0, []),
  (36, 3, .getfield 46, 10, 6, 0, [268]),
  (39, 1, .iload_n 2, 2, 0, 0, []),
  (40, 3, .invokevirtual 211, 38, 3, 0, [757, 0]),
  (43, 2, .bipush (-5), 0, 0, (-5), []),
  (45, 3, .if_icmp .ne 8, 27, 0, 0, []),
  (48, 2, .bipush (-5), 0, 0, (-5), []),
  (50, 3, .goto 11, 31, 0, 0, []),
  (53, 1, .aload_n 0, 0, 0, 0, []),
  (54, 3, .getfield 53, 10, 7, 0, [269]),
  (57, 1, .iload_n 1, 1, 0, 0, []),
  (58, 3, .invokevirtual 215, 46, 1, 0, [795, 0]),
  (61, 1, .ireturn, 0, 0, 0, [])])
def tw_M156 : tw_Meth := (yX11_fewest, cX11_fewest, 3, (some .int), 1, 10, 1, [802, 55, 800, 801], [
  (0, 1, .iload_n 1, 1, 0, 0, []),
  (1, 1, .iconst (-1), 0, 0, (-1), []),
  (2, 3, .if_icmp .ne 8, 6, 0, 0, []),
  (5, 1, .aload_n 0, 0, 0, 0, []),
  (6, 3, .invokevirtual 218, 157, 0, 0, [803, 0]),
  (9, 1, .ireturn, 0, 0, 0, []),
  (10, 1, .aload_n 0, 0, 0, 0, []),
  (11, 3, .getfield 22, 10, 2, 0, [264]),
  (14, 1, .iload_n 1, 1, 0, 0, []),
  (15, 3, .invokevirtual 112, 85, 1, 0, [454, 0]),
  (18, 1, .astore_n 2, 2, 0, 0, []),
  (19, 1, .aload_n 2, 2, 0, 0, []),
  (20, 3, .ifnonnull 7, 15, 0, 0, []),
  (23, 1, .iconst (-1), 0, 0, (-1), []),
  (24, 3, .goto 16, 22, 0, 0, []),
  (27, 1, .aload_n 0, 0, 0, 0, []),
  (28, 3, .getfield 53, 10, 7, 0, [269]),
  (31, 1, .aload_n 2, 2, 0, 0, []),
  (32, 1, .aload_n 0, 0, 0, 0, []),
  (33, 3, .getfield 46, 10, 6, 0, [268]),
  (36, 1, .iload_n 1, 1, 0, 0, []),
  (37, 3, .invokevirtual 211, 38, 3, 0, [757, 0]),
  (40, 1, .ireturn, 0, 0, 0, [])])
def tw_M157 : tw_Meth := (yX11_fewestOfAll, cX11_fewestOfAll, 5, (some .int), 1, 10, 0, [806, 55, 805, 21], [
  (0, 1, .iconst 0, 0, 0, 0, []),
  (1, 1, .istore_n 1, 1, 0, 0, []),
  (2, 1, .iconst 0, 0, 0, 0, []),
  (3, 1, .istore_n 2, 2, 0, 0, []),
  (4, 1, .iload_n 2, 2, 0, 0, []),
  (5, 1, .aload_n 0, 0, 0, 0, []),
  (6, 3, .getfield 22, 10, 2, 0, [264]),
  (9, 3, .invokevirtual 93, 82, 0, 0, [365, 0]),
  (12, 3, .if_icmp .ge 57, 37, 0, 0, []),
  (15, 1, .aload_n 0, 0, 0, 0, []),
  (16, 3, .getfield 22, 10, 2, 0, [264]),
  (19, 1, .iload_n 2, 2, 0, 0, []),
  (20, 3, .invokevirtual 112, 85, 1, 0, [454, 0]),
  (23, 1, .astore_n 3, 3, 0, 0, []),
  (24, 1, .aload_n 3, 3, 0, 0, []),
  (25, 3, .ifnonnull 8, 18, 0, 0, []),
  (28, 2, .bipush (-5), 0, 0, (-5), []),
  (30, 3, .goto 16, 25, 0, 0, []),
  (33, 1, .aload_n 0, 0, 0, 0, []),
  (34, 3, .getfield 53, 10, 7, 0, [269]),
  (37, 1, .aload_n 3, 3, 0, 0, []),
  (38, 1, .aload_n 0, 0, 0, 0, []),
  (39, 3, .getfield 46, 10, 6, 0, [268]),
  (42, 1, .iload_n 2, 2, 0, 0, []),
  (43, 3, .invokevirtual 211, 38, 3, 0, [757, 0]),
  (46, 2, .istore 4, 4, 0, 0, []),
  (48, 2, .iload 4, 4, 0, 0, []),
  (50, 2, .bipush (-5), 0, 0, (-5), []),
  (52, 3, .if_icmp .ne 6, 31, 0, 0, []),
  (55, 2, .bipush (-5), 0, 0, (-5), []),
  (57, 1, .ireturn, 0, 0, 0, []),
  (58, 1, .iload_n 1, 1, 0, 0, []),
  (59, 2, .iload 4, 4, 0, 0, []),
  (61, 1, .iadd, 0, 0, 0, []),
  (62, 1, .istore_n 1, 1, 0, 0, []),
  (63, 3, .iinc 2 1, 2, 0, 1, []),
  (66, 3, .goto (-62), 4, 0, 0, []),
  (69, 1, .iload_n 1, 1, 0, 0, []),
  (70, 1, .ireturn, 0, 0, 0, [])])
def tw_M158 : tw_Meth := (yX11_weaveDraft, cX11_weaveDraft, 3, (some .int), 1, 10, 0, [810, 55, 808, 809], [
  (0, 1, .aload_n 0, 0, 0, 0, []),
  (1, 3, .getfield 46, 10, 6, 0, [268]),
  (4, 3, .invokevirtual 208, 114, 0, 0, [753, 0]),
  (7, 1, .istore_n 1, 1, 0, 0, []),
  (8, 1, .aload_n 0, 0, 0, 0, []),
  (9, 3, .getfield 22, 10, 2, 0, [264]),
  (12, 3, .invokevirtual 93, 82, 0, 0, [365, 0]),
  (15, 3, .ifCond .eq 16, 14, 0, 0, []),
  (18, 1, .iload_n 1, 1, 0, 0, []),
  (19, 3, .ifCond .eq 12, 14, 0, 0, []),
  (22, 1, .aload_n 0, 0, 0, 0, []),
  (23, 3, .invokevirtual 218, 157, 0, 0, [803, 0]),
  (26, 2, .bipush (-5), 0, 0, (-5), []),
  (28, 3, .if_icmp .ne 6, 16, 0, 0, []),
  (31, 2, .bipush (-3), 0, 0, (-3), []),
  (33, 1, .ireturn, 0, 0, 0, []),
  (34, 1, .aload_n 0, 0, 0, 0, []),
  (35, 3, .getfield 22, 10, 2, 0, [264]),
  (38, 3, .invokevirtual 131, 83, 0, 0, [468, 0]),
  (41, 3, .invokevirtual 164, 19, 0, 0, [549, 0]),
  (44, 1, .iload_n 1, 1, 0, 0, []),
  (45, 3, .if_icmp .ge 6, 24, 0, 0, []),
  (48, 2, .bipush (-4), 0, 0, (-4), []),
  (50, 1, .ireturn, 0, 0, 0, []),
  (51, 1, .aload_n 0, 0, 0, 0, []),
  (52, 3, .getfield 53, 10, 7, 0, [269]),
  (55, 1, .aload_n 0, 0, 0, 0, []),
  (56, 3, .getfield 22, 10, 2, 0, [264]),
  (59, 1, .aload_n 0, 0, 0, 0, []),
  (60, 3, .getfield 46, 10, 6, 0, [268]),
  (63, 3, .invokevirtual 221, 47, 2, 0, [811, 0]),
  (66, 1, .iconst 0, 0, 0, 0, []),
  (67, 1, .istore_n 2, 2, 0, 0, []),
  (68, 1, .iload_n 2, 2, 0, 0, []),
  (69, 1, .iload_n 1, 1, 0, 0, []),
  (70, 3, .if_icmp .ge 36, 52, 0, 0, []),
  (73, 1, .aload_n 0, 0, 0, 0, []),
  (74, 3, .getfield 22, 10, 2, 0, [264]),
  (77, 1, .aload_n 0, 0, 0, 0, []),
  (78, 3, .getfield 53, 10, 7, 0, [269]),
  (81, 1, .iload_n 2, 2, 0, 0, []),
  (82, 3, .invokevirtual 225, 92, 2, 0, [817, 0]),
  (85, 3, .ifCond .ne 15, 50, 0, 0, []),
  (88, 1, .aload_n 0, 0, 0, 0, []),
  (89, 3, .getfield 22, 10, 2, 0, [264]),
  (92, 1, .iload_n 2, 2, 0, 0, []),
  (93, 3, .invokevirtual 177, 96, 1, 0, [629, 0]),
  (96, 1, .pop, 0, 0, 0, []),
  (97, 2, .bipush (-6), 0, 0, (-6), []),
  (99, 1, .ireturn, 0, 0, 0, []),
  (100, 3, .iinc 2 1, 2, 0, 1, []),
  (103, 3, .goto (-35), 33, 0, 0, []),
  (106, 1, .aload_n 0, 0, 0, 0, []),
  (107, 3, .getfield 22, 10, 2, 0, [264]),
  (110, 3, .invokevirtual 131, 83, 0, 0, [468, 0]),
  (113, 3, .invokevirtual 171, 17, 0, 0, [611, 0]),
  (116, 1, .ireturn, 0, 0, 0, [])])
def tw_M159 : tw_Meth := (yX11_matches, cX11_matches, 2, (some .int), 1, 10, 1, [828, 55, 826, 827], [
  (0, 1, .aload_n 0, 0, 0, 0, []),
  (1, 3, .getfield 22, 10, 2, 0, [264]),
  (4, 3, .invokevirtual 131, 83, 0, 0, [468, 0]),
  (7, 1, .iload_n 1, 1, 0, 0, []),
  (8, 3, .invokevirtual 229, 20, 1, 0, [829, 0]),
  (11, 3, .ifCond .eq 21, 14, 0, 0, []),
  (14, 1, .aload_n 0, 0, 0, 0, []),
  (15, 3, .getfield 46, 10, 6, 0, [268]),
  (18, 1, .aload_n 0, 0, 0, 0, []),
  (19, 3, .getfield 22, 10, 2, 0, [264]),
  (22, 3, .invokevirtual 131, 83, 0, 0, [468, 0]),
  (25, 1, .iload_n 1, 1, 0, 0, []),
  (26, 3, .invokevirtual 232, 119, 2, 0, [830, 0]),
  (29, 3, .goto 4, 15, 0, 0, []),
  (32, 1, .iconst (-1), 0, 0, (-1), []),
  (33, 1, .ireturn, 0, 0, 0, [])])
def tw_M160 : tw_Meth := (yX11_period, cX11_period, 1, (some .int), 1, 10, 0, [843, 55, 841, 842], [
  (0, 1, .aload_n 0, 0, 0, 0, []),
  (1, 3, .getfield 22, 10, 2, 0, [264]),
  (4, 3, .invokevirtual 131, 83, 0, 0, [468, 0]),
  (7, 3, .invokevirtual 236, 32, 0, 0, [844, 0]),
  (10, 1, .ireturn, 0, 0, 0, [])])
def tw_M161 : tw_Meth := (yX11_mirrors, cX11_mirrors, 1, (some .int), 1, 10, 0, [859, 55, 857, 858], [
  (0, 1, .aload_n 0, 0, 0, 0, []),
  (1, 3, .getfield 22, 10, 2, 0, [264]),
  (4, 3, .invokevirtual 131, 83, 0, 0, [468, 0]),
  (7, 3, .invokevirtual 239, 34, 0, 0, [860, 0]),
  (10, 1, .ireturn, 0, 0, 0, [])])
def tw_M162 : tw_Meth := (yX11_run, cX11_run, 4, (some .int), 1, 10, 1, [871, 55, 869, 870], [
  (0, 1, .iload_n 1, 1, 0, 0, []),
  (1, 3, .invokestatic 151, 177, 1, 0, [534, 0]),
  (4, 3, .ifCond .ne 6, 5, 0, 0, []),
  (7, 2, .bipush (-2), 0, 0, (-2), []),
  (9, 1, .ireturn, 0, 0, 0, []),
  (10, 1, .iconst 0, 0, 0, 0, []),
  (11, 1, .istore_n 2, 2, 0, 0, []),
  (12, 1, .iconst 0, 0, 0, 0, []),
  (13, 1, .istore_n 3, 3, 0, 0, []),
  (14, 1, .iload_n 3, 3, 0, 0, []),
  (15, 1, .aload_n 0, 0, 0, 0, []),
  (16, 3, .getfield 22, 10, 2, 0, [264]),
  (19, 3, .invokevirtual 93, 82, 0, 0, [365, 0]),
  (22, 3, .if_icmp .ge 27, 26, 0, 0, []),
  (25, 1, .iload_n 2, 2, 0, 0, []),
  (26, 1, .aload_n 0, 0, 0, 0, []),
  (27, 3, .getfield 22, 10, 2, 0, [264]),
  (30, 3, .invokevirtual 131, 83, 0, 0, [468, 0]),
  (33, 1, .iload_n 3, 3, 0, 0, []),
  (34, 1, .iconst 0, 0, 0, 0, []),
  (35, 1, .iload_n 1, 1, 0, 0, []),
  (36, 3, .invokevirtual 135, 25, 3, 0, [472, 0]),
  (39, 3, .invokestatic 242, 262, 2, 0, [872, 0]),
  (42, 1, .istore_n 2, 2, 0, 0, []),
  (43, 3, .iinc 3 1, 3, 0, 1, []),
  (46, 3, .goto (-32), 9, 0, 0, []),
  (49, 1, .iload_n 2, 2, 0, 0, []),
  (50, 1, .ireturn, 0, 0, 0, [])])
def tw_M163 : tw_Meth := (yX11_colours, cX11_colours, 3, (some .int), 1, 10, 2, [876, 55, 874, 875], [
  (0, 1, .iload_n 1, 1, 0, 0, []),
  (1, 3, .invokestatic 151, 177, 1, 0, [534, 0]),
  (4, 3, .ifCond .ne 6, 5, 0, 0, []),
  (7, 2, .bipush (-2), 0, 0, (-2), []),
  (9, 1, .ireturn, 0, 0, 0, []),
  (10, 1, .iload_n 2, 2, 0, 0, []),
  (11, 25, .tableswitch 60 0 2 #[25, 38, 51], 26, 2, 0, [7, 14, 21]),
  (36, 1, .aload_n 0, 0, 0, 0, []),
  (37, 3, .getfield 22, 10, 2, 0, [264]),
  (40, 3, .invokevirtual 131, 83, 0, 0, [468, 0]),
  (43, 1, .iconst 0, 0, 0, 0, []),
  (44, 1, .iload_n 1, 1, 0, 0, []),
  (45, 3, .invokevirtual 247, 26, 2, 0, [877, 0]),
  (48, 1, .ireturn, 0, 0, 0, []),
  (49, 1, .aload_n 0, 0, 0, 0, []),
  (50, 3, .getfield 22, 10, 2, 0, [264]),
  (53, 3, .invokevirtual 131, 83, 0, 0, [468, 0]),
  (56, 1, .iconst 1, 0, 0, 1, []),
  (57, 1, .iload_n 1, 1, 0, 0, []),
  (58, 3, .invokevirtual 247, 26, 2, 0, [877, 0]),
  (61, 1, .ireturn, 0, 0, 0, []),
  (62, 1, .aload_n 0, 0, 0, 0, []),
  (63, 3, .getfield 22, 10, 2, 0, [264]),
  (66, 1, .iload_n 1, 1, 0, 0, []),
  (67, 3, .invokevirtual 250, 103, 1, 0, [881, 0]),
  (70, 1, .ireturn, 0, 0, 0, []),
  (71, 1, .iconst (-1), 0, 0, (-1), []),
  (72, 1, .ireturn, 0, 0, 0, [])])
def tw_M164 : tw_Meth := (yX11_ranked, cX11_ranked, 2, (some .int), 1, 10, 1, [889, 55, 887, 888], [
  (0, 1, .aload_n 0, 0, 0, 0, []),
  (1, 3, .getfield 22, 10, 2, 0, [264]),
  (4, 3, .invokevirtual 131, 83, 0, 0, [468, 0]),
  (7, 1, .iload_n 1, 1, 0, 0, []),
  (8, 3, .invokevirtual 253, 27, 1, 0, [890, 0]),
  (11, 1, .ireturn, 0, 0, 0, [])])
def tw_M165 : tw_Meth := (yX11_alike, cX11_alike, 4, (some .int), 1, 10, 2, [906, 55, 904, 905], [
  (0, 1, .aload_n 0, 0, 0, 0, []),
  (1, 3, .getfield 22, 10, 2, 0, [264]),
  (4, 3, .invokevirtual 131, 83, 0, 0, [468, 0]),
  (7, 1, .astore_n 3, 3, 0, 0, []),
  (8, 1, .aload_n 3, 3, 0, 0, []),
  (9, 1, .iload_n 1, 1, 0, 0, []),
  (10, 3, .invokevirtual 229, 20, 1, 0, [829, 0]),
  (13, 3, .ifCond .eq 20, 17, 0, 0, []),
  (16, 1, .aload_n 3, 3, 0, 0, []),
  (17, 1, .iload_n 2, 2, 0, 0, []),
  (18, 3, .invokevirtual 229, 20, 1, 0, [829, 0]),
  (21, 3, .ifCond .eq 12, 17, 0, 0, []),
  (24, 1, .aload_n 3, 3, 0, 0, []),
  (25, 1, .iload_n 1, 1, 0, 0, []),
  (26, 1, .iload_n 2, 2, 0, 0, []),
  (27, 3, .invokevirtual 256, 30, 2, 0, [907, 0]),
  (30, 3, .goto 4, 18, 0, 0, []),
  (33, 1, .iconst (-1), 0, 0, (-1), []),
  (34, 1, .ireturn, 0, 0, 0, [])])
def tw_M166 : tw_Meth := (yX11_faces, cX11_faces, 2, (some .int), 1, 10, 1, [911, 55, 909, 910], [
  (0, 1, .aload_n 0, 0, 0, 0, []),
  (1, 3, .getfield 22, 10, 2, 0, [264]),
  (4, 3, .invokevirtual 131, 83, 0, 0, [468, 0]),
  (7, 1, .iload_n 1, 1, 0, 0, []),
  (8, 3, .invokevirtual 229, 20, 1, 0, [829, 0]),
  (11, 3, .ifCond .eq 17, 12, 0, 0, []),
  (14, 1, .aload_n 0, 0, 0, 0, []),
  (15, 3, .getfield 22, 10, 2, 0, [264]),
  (18, 3, .invokevirtual 131, 83, 0, 0, [468, 0]),
  (21, 1, .iload_n 1, 1, 0, 0, []),
  (22, 3, .invokevirtual 259, 31, 1, 0, [912, 0]),
  (25, 3, .goto 4, 13, 0, 0, []),
  (28, 1, .iconst (-1), 0, 0, (-1), []),
  (29, 1, .ireturn, 0, 0, 0, [])])
def tw_M167 : tw_Meth := (yX11_spell, cX11_spell, 1, (some .int), 1, 10, 0, [919, 55, 917, 918], [
  (0, 1, .aload_n 0, 0, 0, 0, []),
  (1, 3, .getfield 22, 10, 2, 0, [264]),
  (4, 1, .aload_n 0, 0, 0, 0, []),
  (5, 3, .getfield 16, 10, 1, 0, [263]),
  (8, 3, .invokevirtual 262, 87, 1, 0, [920, 0]),
  (11, 1, .aload_n 0, 0, 0, 0, []),
  (12, 3, .getfield 16, 10, 1, 0, [263]),
  (15, 3, .invokevirtual 76, 121, 0, 0, [305, 0]),
  (18, 1, .ireturn, 0, 0, 0, [])])
def tw_M168 : tw_Meth := (yX11_paper, cX11_paper, 2, (some .int), 1, 10, 1, [935, 55, 933, 934], [
  (0, 1, .aload_n 0, 0, 0, 0, []),
  (1, 3, .getfield 16, 10, 1, 0, [263]),
  (4, 1, .iload_n 1, 1, 0, 0, []),
  (5, 3, .invokevirtual 265, 125, 1, 0, [936, 0]),
  (8, 1, .ireturn, 0, 0, 0, [])])
def tw_M169 : tw_Meth := (yX11_told, cX11_told, 2, (some .int), 1, 10, 1, [940, 55, 938, 939], [
  (0, 1, .iload_n 1, 1, 0, 0, []),
  (1, 47, .tableswitch 114 0 7 #[47, 55, 66, 74, 82, 90, 98, 106], 35, 7, 0, [2, 6, 11, 15, 19, 23, 27, 31]),
  (48, 1, .aload_n 0, 0, 0, 0, []),
  (49, 3, .getfield 22, 10, 2, 0, [264]),
  (52, 3, .invokevirtual 93, 82, 0, 0, [365, 0]),
  (55, 1, .ireturn, 0, 0, 0, []),
  (56, 1, .aload_n 0, 0, 0, 0, []),
  (57, 3, .getfield 22, 10, 2, 0, [264]),
  (60, 3, .invokevirtual 131, 83, 0, 0, [468, 0]),
  (63, 3, .invokevirtual 171, 17, 0, 0, [611, 0]),
  (66, 1, .ireturn, 0, 0, 0, []),
  (67, 1, .aload_n 0, 0, 0, 0, []),
  (68, 3, .getfield 22, 10, 2, 0, [264]),
  (71, 3, .invokevirtual 268, 84, 0, 0, [941, 0]),
  (74, 1, .ireturn, 0, 0, 0, []),
  (75, 1, .aload_n 0, 0, 0, 0, []),
  (76, 3, .getfield 22, 10, 2, 0, [264]),
  (79, 3, .invokevirtual 271, 101, 0, 0, [942, 0]),
  (82, 1, .ireturn, 0, 0, 0, []),
  (83, 1, .aload_n 0, 0, 0, 0, []),
  (84, 3, .getfield 46, 10, 6, 0, [268]),
  (87, 3, .invokevirtual 208, 114, 0, 0, [753, 0]),
  (90, 1, .ireturn, 0, 0, 0, []),
  (91, 1, .aload_n 0, 0, 0, 0, []),
  (92, 3, .getfield 22, 10, 2, 0, [264]),
  (95, 3, .invokevirtual 274, 102, 0, 0, [949, 0]),
  (98, 1, .ireturn, 0, 0, 0, []),
  (99, 1, .aload_n 0, 0, 0, 0, []),
  (100, 3, .getfield 10, 10, 0, 0, [262]),
  (103, 3, .invokevirtual 76, 121, 0, 0, [305, 0]),
  (106, 1, .ireturn, 0, 0, 0, []),
  (107, 1, .aload_n 0, 0, 0, 0, []),
  (108, 3, .getfield 16, 10, 1, 0, [263]),
  (111, 3, .invokevirtual 76, 121, 0, 0, [305, 0]),
  (114, 1, .ireturn, 0, 0, 0, []),
  (115, 1, .iconst (-1), 0, 0, (-1), []),
  (116, 1, .ireturn, 0, 0, 0, [])])
def tw_M170 : tw_Meth := (yX11_list, cX11_list, 3, (some .int), 1, 10, 2, [957, 55, 955, 956], [
  (0, 1, .aload_n 0, 0, 0, 0, []),
  (1, 3, .getfield 60, 10, 8, 0, [270]),
  (4, 1, .iload_n 1, 1, 0, 0, []),
  (5, 3, .invokevirtual 277, 74, 1, 0, [958, 0]),
  (8, 3, .ifCond .ne 5, 7, 0, 0, []),
  (11, 1, .iconst (-1), 0, 0, (-1), []),
  (12, 1, .ireturn, 0, 0, 0, []),
  (13, 1, .iload_n 2, 2, 0, 0, []),
  (14, 2, .bipush 20, 0, 0, 20, []),
  (16, 3, .if_icmp .le 6, 12, 0, 0, []),
  (19, 2, .bipush (-2), 0, 0, (-2), []),
  (21, 1, .ireturn, 0, 0, 0, []),
  (22, 1, .iload_n 2, 2, 0, 0, []),
  (23, 3, .ifCond .ge 6, 16, 0, 0, []),
  (26, 2, .bipush (-14), 0, 0, (-14), []),
  (28, 1, .ireturn, 0, 0, 0, []),
  (29, 1, .aload_n 0, 0, 0, 0, []),
  (30, 3, .getfield 60, 10, 8, 0, [270]),
  (33, 1, .iload_n 1, 1, 0, 0, []),
  (34, 1, .iload_n 2, 2, 0, 0, []),
  (35, 3, .invokevirtual 279, 78, 2, 0, [962, 0]),
  (38, 1, .iconst 1, 0, 0, 1, []),
  (39, 1, .ireturn, 0, 0, 0, [])])
def tw_M171 : tw_Meth := (yX11_set, cX11_set, 4, (some .int), 1, 10, 3, [970, 55, 968, 969], [
  (0, 1, .aload_n 0, 0, 0, 0, []),
  (1, 3, .getfield 60, 10, 8, 0, [270]),
  (4, 1, .iload_n 1, 1, 0, 0, []),
  (5, 3, .invokevirtual 277, 74, 1, 0, [958, 0]),
  (8, 3, .ifCond .ne 5, 7, 0, 0, []),
  (11, 1, .iconst (-1), 0, 0, (-1), []),
  (12, 1, .ireturn, 0, 0, 0, []),
  (13, 1, .aload_n 0, 0, 0, 0, []),
  (14, 3, .getfield 60, 10, 8, 0, [270]),
  (17, 1, .iload_n 1, 1, 0, 0, []),
  (18, 3, .invokevirtual 283, 75, 1, 0, [971, 0]),
  (21, 3, .ifCond .eq 6, 14, 0, 0, []),
  (24, 2, .bipush (-11), 0, 0, (-11), []),
  (26, 1, .ireturn, 0, 0, 0, []),
  (27, 1, .aload_n 0, 0, 0, 0, []),
  (28, 3, .getfield 60, 10, 8, 0, [270]),
  (31, 1, .iload_n 1, 1, 0, 0, []),
  (32, 1, .iload_n 2, 2, 0, 0, []),
  (33, 3, .invokevirtual 286, 76, 2, 0, [975, 0]),
  (36, 3, .ifCond .ne 6, 22, 0, 0, []),
  (39, 2, .bipush (-13), 0, 0, (-13), []),
  (41, 1, .ireturn, 0, 0, 0, []),
  (42, 1, .aload_n 0, 0, 0, 0, []),
  (43, 3, .getfield 60, 10, 8, 0, [270]),
  (46, 1, .iload_n 1, 1, 0, 0, []),
  (47, 1, .iload_n 2, 2, 0, 0, []),
  (48, 1, .iload_n 3, 3, 0, 0, []),
  (49, 3, .invokevirtual 289, 80, 3, 0, [979, 0]),
  (52, 1, .iconst 1, 0, 0, 1, []),
  (53, 1, .ireturn, 0, 0, 0, [])])
def tw_M172 : tw_Meth := (yX11_get, cX11_get, 3, (some .int), 1, 10, 2, [987, 55, 985, 986], [
  (0, 1, .aload_n 0, 0, 0, 0, []),
  (1, 3, .getfield 60, 10, 8, 0, [270]),
  (4, 1, .iload_n 1, 1, 0, 0, []),
  (5, 1, .iload_n 2, 2, 0, 0, []),
  (6, 3, .invokevirtual 286, 76, 2, 0, [975, 0]),
  (9, 3, .ifCond .eq 15, 12, 0, 0, []),
  (12, 1, .aload_n 0, 0, 0, 0, []),
  (13, 3, .getfield 60, 10, 8, 0, [270]),
  (16, 1, .iload_n 1, 1, 0, 0, []),
  (17, 1, .iload_n 2, 2, 0, 0, []),
  (18, 3, .invokevirtual 293, 79, 2, 0, [988, 0]),
  (21, 3, .goto 6, 13, 0, 0, []),
  (24, 3, .ldc_w 295, 0, 0, (-2000000000), [993]),
  (27, 1, .ireturn, 0, 0, 0, [])])
def tw_M173 : tw_Meth := (yX11_lay, cX11_lay, 6, (some .int), 1, 10, 3, [997, 55, 995, 996], [
  (0, 1, .aload_n 0, 0, 0, 0, []),
  (1, 3, .getfield 22, 10, 2, 0, [264]),
  (4, 3, .invokevirtual 131, 83, 0, 0, [468, 0]),
  (7, 2, .astore 4, 4, 0, 0, []),
  (9, 1, .aload_n 0, 0, 0, 0, []),
  (10, 3, .getfield 60, 10, 8, 0, [270]),
  (13, 1, .iload_n 1, 1, 0, 0, []),
  (14, 3, .invokevirtual 277, 74, 1, 0, [958, 0]),
  (17, 3, .ifCond .eq 12, 13, 0, 0, []),
  (20, 2, .aload 4, 4, 0, 0, []),
  (22, 1, .iload_n 3, 3, 0, 0, []),
  (23, 3, .invokevirtual 229, 20, 1, 0, [829, 0]),
  (26, 3, .ifCond .ne 5, 15, 0, 0, []),
  (29, 1, .iconst (-1), 0, 0, (-1), []),
  (30, 1, .ireturn, 0, 0, 0, []),
  (31, 1, .aload_n 0, 0, 0, 0, []),
  (32, 3, .getfield 60, 10, 8, 0, [270]),
  (35, 1, .iload_n 1, 1, 0, 0, []),
  (36, 3, .invokevirtual 283, 75, 1, 0, [971, 0]),
  (39, 3, .ifCond .eq 6, 22, 0, 0, []),
  (42, 2, .bipush (-11), 0, 0, (-11), []),
  (44, 1, .ireturn, 0, 0, 0, []),
  (45, 1, .iconst 0, 0, 0, 0, []),
  (46, 2, .istore 5, 5, 0, 0, []),
  (48, 2, .iload 5, 5, 0, 0, []),
  (50, 2, .aload 4, 4, 0, 0, []),
  (52, 3, .invokevirtual 296, 18, 0, 0, [998, 0]),
  (55, 3, .if_icmp .ge 47, 51, 0, 0, []),
  (58, 1, .aload_n 0, 0, 0, 0, []),
  (59, 3, .getfield 60, 10, 8, 0, [270]),
  (62, 1, .iload_n 1, 1, 0, 0, []),
  (63, 1, .iload_n 2, 2, 0, 0, []),
  (64, 2, .iload 5, 5, 0, 0, []),
  (66, 3, .invokevirtual 299, 77, 3, 0, [999, 0]),
  (69, 3, .ifCond .ne 6, 37, 0, 0, []),
  (72, 2, .bipush (-13), 0, 0, (-13), []),
  (74, 1, .ireturn, 0, 0, 0, []),
  (75, 1, .aload_n 0, 0, 0, 0, []),
  (76, 3, .getfield 60, 10, 8, 0, [270]),
  (79, 1, .iload_n 1, 1, 0, 0, []),
  (80, 1, .iload_n 2, 2, 0, 0, []),
  (81, 2, .iload 5, 5, 0, 0, []),
  (83, 1, .iadd, 0, 0, 0, []),
  (84, 2, .aload 4, 4, 0, 0, []),
  (86, 1, .iload_n 3, 3, 0, 0, []),
  (87, 2, .iload 5, 5, 0, 0, []),
  (89, 1, .iconst 0, 0, 0, 0, []),
  (90, 3, .invokevirtual 180, 21, 3, 0, [646, 0]),
  (93, 3, .invokevirtual 289, 80, 3, 0, [979, 0]),
  (96, 3, .iinc 5 1, 5, 0, 1, []),
  (99, 3, .goto (-51), 24, 0, 0, []),
  (102, 2, .aload 4, 4, 0, 0, []),
  (104, 3, .invokevirtual 296, 18, 0, 0, [998, 0]),
  (107, 1, .ireturn, 0, 0, 0, [])])
def tw_M174 : tw_Meth := (yX11_judge, cX11_judge, 6, (some .int), 1, 10, 3, [1006, 55, 1004, 1005], [
  (0, 1, .aload_n 0, 0, 0, 0, []),
  (1, 3, .getfield 22, 10, 2, 0, [264]),
  (4, 3, .invokevirtual 131, 83, 0, 0, [468, 0]),
  (7, 2, .astore 4, 4, 0, 0, []),
  (9, 1, .aload_n 0, 0, 0, 0, []),
  (10, 3, .getfield 60, 10, 8, 0, [270]),
  (13, 1, .iload_n 1, 1, 0, 0, []),
  (14, 3, .invokevirtual 277, 74, 1, 0, [958, 0]),
  (17, 3, .ifCond .eq 12, 13, 0, 0, []),
  (20, 2, .aload 4, 4, 0, 0, []),
  (22, 1, .iload_n 3, 3, 0, 0, []),
  (23, 3, .invokevirtual 229, 20, 1, 0, [829, 0]),
  (26, 3, .ifCond .ne 5, 15, 0, 0, []),
  (29, 1, .iconst (-1), 0, 0, (-1), []),
  (30, 1, .ireturn, 0, 0, 0, []),
  (31, 1, .aload_n 0, 0, 0, 0, []),
  (32, 3, .getfield 60, 10, 8, 0, [270]),
  (35, 1, .iload_n 1, 1, 0, 0, []),
  (36, 3, .invokevirtual 283, 75, 1, 0, [971, 0]),
  (39, 3, .ifCond .eq 6, 22, 0, 0, []),
  (42, 2, .bipush (-11), 0, 0, (-11), []),
  (44, 1, .ireturn, 0, 0, 0, []),
  (45, 1, .iconst 0, 0, 0, 0, []),
  (46, 2, .istore 5, 5, 0, 0, []),
  (48, 2, .iload 5, 5, 0, 0, []),
  (50, 2, .aload 4, 4, 0, 0, []),
  (52, 3, .invokevirtual 296, 18, 0, 0, [998, 0]),
  (55, 3, .if_icmp .ge 56, 56, 0, 0, []),
  (58, 1, .aload_n 0, 0, 0, 0, []),
  (59, 3, .getfield 60, 10, 8, 0, [270]),
  (62, 1, .iload_n 1, 1, 0, 0, []),
  (63, 1, .iload_n 2, 2, 0, 0, []),
  (64, 2, .iload 5, 5, 0, 0, []),
  (66, 3, .invokevirtual 299, 77, 3, 0, [999, 0]),
  (69, 3, .ifCond .ne 9, 39, 0, 0, []),
  (72, 2, .bipush 100, 0, 0, 100, []),
  (74, 2, .iload 5, 5, 0, 0, []),
  (76, 1, .iadd, 0, 0, 0, []),
  (77, 1, .ireturn, 0, 0, 0, []),
  (78, 1, .aload_n 0, 0, 0, 0, []),
  (79, 3, .getfield 60, 10, 8, 0, [270]),
  (82, 1, .iload_n 1, 1, 0, 0, []),
  (83, 1, .iload_n 2, 2, 0, 0, []),
  (84, 2, .iload 5, 5, 0, 0, []),
  (86, 1, .iadd, 0, 0, 0, []),
  (87, 3, .invokevirtual 293, 79, 2, 0, [988, 0]),
  (90, 2, .aload 4, 4, 0, 0, []),
  (92, 1, .iload_n 3, 3, 0, 0, []),
  (93, 2, .iload 5, 5, 0, 0, []),
  (95, 1, .iconst 0, 0, 0, 0, []),
  (96, 3, .invokevirtual 180, 21, 3, 0, [646, 0]),
  (99, 3, .if_icmp .eq 6, 54, 0, 0, []),
  (102, 2, .iload 5, 5, 0, 0, []),
  (104, 1, .ireturn, 0, 0, 0, []),
  (105, 3, .iinc 5 1, 5, 0, 1, []),
  (108, 3, .goto (-60), 24, 0, 0, []),
  (111, 2, .bipush (-5), 0, 0, (-5), []),
  (113, 1, .ireturn, 0, 0, 0, [])])
def tw_M175 : tw_Meth := (yX11_image, cX11_image, 1, (some .int), 1, 10, 0, [1010, 55, 1008, 1009], [
  (0, 1, .aload_n 0, 0, 0, 0, []),
  (1, 3, .getfield 26, 10, 3, 0, [265]),
  (4, 1, .aload_n 0, 0, 0, 0, []),
  (5, 3, .getfield 22, 10, 2, 0, [264]),
  (8, 3, .invokevirtual 303, 104, 1, 0, [1011, 0]),
  (11, 1, .aload_n 0, 0, 0, 0, []),
  (12, 1, .iconst 1, 0, 0, 1, []),
  (13, 3, .putfield 64, 10, 9, 1, [271]),
  (16, 1, .aload_n 0, 0, 0, 0, []),
  (17, 3, .getfield 26, 10, 3, 0, [265]),
  (20, 3, .invokevirtual 131, 83, 0, 0, [468, 0]),
  (23, 3, .invokevirtual 171, 17, 0, 0, [611, 0]),
  (26, 1, .ireturn, 0, 0, 0, [])])
def tw_M176 : tw_Meth := (yX11_undo, cX11_undo, 1, (some .int), 1, 10, 0, [1028, 55, 1026, 1027], [
  (0, 1, .aload_n 0, 0, 0, 0, []),
  (1, 3, .getfield 64, 10, 9, 0, [271]),
  (4, 3, .ifCond .ne 6, 5, 0, 0, []),
  (7, 2, .bipush (-3), 0, 0, (-3), []),
  (9, 1, .ireturn, 0, 0, 0, []),
  (10, 1, .aload_n 0, 0, 0, 0, []),
  (11, 3, .getfield 22, 10, 2, 0, [264]),
  (14, 1, .aload_n 0, 0, 0, 0, []),
  (15, 3, .getfield 26, 10, 3, 0, [265]),
  (18, 3, .invokevirtual 303, 104, 1, 0, [1011, 0]),
  (21, 1, .aload_n 0, 0, 0, 0, []),
  (22, 3, .getfield 22, 10, 2, 0, [264]),
  (25, 3, .invokevirtual 131, 83, 0, 0, [468, 0]),
  (28, 3, .invokevirtual 171, 17, 0, 0, [611, 0]),
  (31, 1, .ireturn, 0, 0, 0, [])])
def tw_M177 : tw_Meth := (yX11_isColour, cX11_isColour, 1, (some .boolean), 0, 10, 1, [536, 55, 535], [
  (0, 1, .iload_n 0, 0, 0, 0, []),
  (1, 3, .ifCond .lt 13, 7, 0, 0, []),
  (4, 1, .iload_n 0, 0, 0, 0, []),
  (5, 2, .bipush 10, 0, 0, 10, []),
  (7, 3, .if_icmp .ge 7, 7, 0, 0, []),
  (10, 1, .iconst 1, 0, 0, 1, []),
  (11, 3, .goto 4, 8, 0, 0, []),
  (14, 1, .iconst 0, 0, 0, 0, []),
  (15, 1, .ireturn, 1, 0, 0, [])])
def tw_M178 : tw_Meth := (yX11_isTurning, cX11_isTurning, 1, (some .boolean), 0, 10, 1, [544, 55, 543], [
  (0, 1, .iload_n 0, 0, 0, 0, []),
  (1, 3, .ifCond .lt 12, 7, 0, 0, []),
  (4, 1, .iload_n 0, 0, 0, 0, []),
  (5, 1, .iconst 3, 0, 0, 3, []),
  (6, 3, .if_icmp .gt 7, 7, 0, 0, []),
  (9, 1, .iconst 1, 0, 0, 1, []),
  (10, 3, .goto 4, 8, 0, 0, []),
  (13, 1, .iconst 0, 0, 0, 0, []),
  (14, 1, .ireturn, 1, 0, 0, [])])
def tw_M179 : tw_Meth := (yX11_twistOf, cX11_twistOf, 1, (some .int), 0, 10, 1, [572, 55, 571], [
  (0, 1, .iload_n 0, 0, 0, 0, []),
  (1, 27, .tableswitch 33 1 3 #[27, 29, 31], 8, 3, 1, [2, 4, 6]),
  (28, 1, .iconst 1, 0, 0, 1, []),
  (29, 1, .ireturn, 0, 0, 0, []),
  (30, 1, .iconst (-1), 0, 0, (-1), []),
  (31, 1, .ireturn, 0, 0, 0, []),
  (32, 1, .iconst 2, 0, 0, 2, []),
  (33, 1, .ireturn, 0, 0, 0, []),
  (34, 1, .iconst 0, 0, 0, 0, []),
  (35, 1, .ireturn, 0, 0, 0, [])])
def tw_M180 : tw_Meth := (yX11_placeBehind, cX11_placeBehind, 2, (some .int), 0, 10, 2, [587, 55, 586], [
  (0, 1, .iload_n 0, 0, 0, 0, []),
  (1, 1, .iload_n 1, 1, 0, 0, []),
  (2, 1, .iadd, 0, 0, 0, []),
  (3, 1, .iconst 4, 0, 0, 4, []),
  (4, 3, .invokestatic 307, 260, 2, 0, [588, 0]),
  (7, 1, .ireturn, 0, 0, 0, [])])
def tw_M181 : tw_Meth := (yX11_isTooTwisted, cX11_isTooTwisted, 1, (some .boolean), 0, 10, 1, [575, 55, 574], [
  (0, 1, .iload_n 0, 0, 0, 0, []),
  (1, 2, .bipush (-99), 0, 0, (-99), []),
  (3, 3, .if_icmp .lt 9, 6, 0, 0, []),
  (6, 1, .iload_n 0, 0, 0, 0, []),
  (7, 2, .bipush 99, 0, 0, 99, []),
  (9, 3, .if_icmp .le 7, 8, 0, 0, []),
  (12, 1, .iconst 1, 0, 0, 1, []),
  (13, 3, .goto 4, 9, 0, 0, []),
  (16, 1, .iconst 0, 0, 0, 0, []),
  (17, 1, .ireturn, 1, 0, 0, [])])
def tw_M182 : tw_Meth := (yX12_in, cX12_in, 3, (some .boolean), 0, 11, 3, [1165, 66, 1164], [
  (0, 1, .iload_n 0, 0, 0, 0, []),
  (1, 1, .iload_n 1, 1, 0, 0, []),
  (2, 3, .if_icmp .lt 12, 8, 0, 0, []),
  (5, 1, .iload_n 0, 0, 0, 0, []),
  (6, 1, .iload_n 2, 2, 0, 0, []),
  (7, 3, .if_icmp .gt 7, 8, 0, 0, []),
  (10, 1, .iconst 1, 0, 0, 1, []),
  (11, 3, .goto 4, 9, 0, 0, []),
  (14, 1, .iconst 0, 0, 0, 0, []),
  (15, 1, .ireturn, 1, 0, 0, [])])
def tw_M183 : tw_Meth := (yX12_init, cX12_init, 1, none, 2, 11, 0, [1033, 66, 1032], [
  (0, 1, .aload_n 0, 0, 0, 0, []),
  (1, 3, .invokespecial 7, 999, 0, 0, [1034, 76, 77]),
  (4, 1, .aload_n 0, 0, 0, 0, []),
  (5, 1, .iconst 2, 0, 0, 2, []),
  (6, 2, .newarray .int, 20, 0, 0, [122]),
  (8, 3, .putfield 13, 11, 1, 0, [1035]),
  (11, 1, .aload_n 0, 0, 0, 0, []),
  (12, 1, .iconst 2, 0, 0, 2, []),
  (13, 2, .newarray .int, 20, 0, 0, [122]),
  (15, 3, .putfield 17, 11, 2, 0, [1036]),
  (18, 1, .aload_n 0, 0, 0, 0, []),
  (19, 2, .bipush 80, 0, 0, 80, []),
  (21, 2, .newarray .int, 20, 0, 0, [122]),
  (23, 3, .putfield 20, 11, 3, 0, [1037]),
  (26, 1, .aload_n 0, 0, 0, 0, []),
  (27, 2, .bipush 20, 0, 0, 20, []),
  (29, 2, .newarray .int, 20, 0, 0, [122]),
  (31, 3, .putfield 23, 11, 4, 0, [1038]),
  (34, 1, .aload_n 0, 0, 0, 0, []),
  (35, 2, .bipush 20, 0, 0, 20, []),
  (37, 2, .newarray .int, 20, 0, 0, [122]),
  (39, 3, .putfield 26, 11, 5, 0, [1039]),
  (42, 1, .aload_n 0, 0, 0, 0, []),
  (43, 2, .bipush 20, 0, 0, 20, []),
  (45, 2, .newarray .int, 20, 0, 0, [122]),
  (47, 3, .putfield 29, 11, 6, 0, [1040]),
  (50, 1, .aload_n 0, 0, 0, 0, []),
  (51, 3, .sipush 1000, 0, 0, 1000, []),
  (54, 2, .newarray .int, 20, 0, 0, [122]),
  (56, 3, .putfield 32, 11, 7, 0, [1041]),
  (59, 1, .aload_n 0, 0, 0, 0, []),
  (60, 3, .sipush 1000, 0, 0, 1000, []),
  (63, 2, .newarray .int, 20, 0, 0, [122]),
  (65, 3, .putfield 35, 11, 8, 0, [1042]),
  (68, 1, .aload_n 0, 0, 0, 0, []),
  (69, 3, .sipush 1000, 0, 0, 1000, []),
  (72, 2, .newarray .int, 20, 0, 0, [122]),
  (74, 3, .putfield 38, 11, 9, 0, [1043]),
  (77, 1, .aload_n 0, 0, 0, 0, []),
  (78, 3, .sipush 1000, 0, 0, 1000, []),
  (81, 2, .newarray .int, 20, 0, 0, [122]),
  (83, 3, .putfield 41, 11, 10, 0, [1044]),
  (86, 1, .aload_n 0, 0, 0, 0, []),
  (87, 3, .sipush 160, 0, 0, 160, []),
  (90, 2, .newarray .int, 20, 0, 0, [122]),
  (92, 3, .putfield 44, 11, 12, 0, [1046]),
  (95, 1, .aload_n 0, 0, 0, 0, []),
  (96, 3, .sipush 160, 0, 0, 160, []),
  (99, 2, .newarray .int, 20, 0, 0, [122]),
  (101, 3, .putfield 47, 11, 13, 0, [1047]),
  (104, 1, .aload_n 0, 0, 0, 0, []),
  (105, 3, .sipush 160, 0, 0, 160, []),
  (108, 2, .newarray .int, 20, 0, 0, [122]),
  (110, 3, .putfield 50, 11, 14, 0, [1048]),
  (113, 1, .aload_n 0, 0, 0, 0, []),
  (114, 3, .sipush 160, 0, 0, 160, []),
  (117, 2, .newarray .int, 20, 0, 0, [122]),
  (119, 3, .putfield 53, 11, 15, 0, [1049]),
  (122, 1, .aload_n 0, 0, 0, 0, []),
  (123, 2, .bipush 80, 0, 0, 80, []),
  (125, 2, .newarray .int, 20, 0, 0, [122]),
  (127, 3, .putfield 56, 11, 16, 0, [1050]),
  (130, 1, .aload_n 0, 0, 0, 0, []),
  (131, 2, .bipush 80, 0, 0, 80, []),
  (133, 2, .newarray .int, 20, 0, 0, [122]),
  (135, 3, .putfield 59, 11, 23, 0, [1057]),
  (138, 1, .aload_n 0, 0, 0, 0, []),
  (139, 2, .bipush 80, 0, 0, 80, []),
  (141, 2, .newarray .int, 20, 0, 0, [122]),
  (143, 3, .putfield 62, 11, 24, 0, [1058]),
  (146, 1, .aload_n 0, 0, 0, 0, []),
  (147, 2, .bipush 80, 0, 0, 80, []),
  (149, 2, .newarray .int, 20, 0, 0, [122]),
  (151, 3, .putfield 65, 11, 25, 0, [1059]),
  (154, 1, .aload_n 0, 0, 0, 0, []),
  (155, 2, .bipush 80, 0, 0, 80, []),
  (157, 2, .newarray .int, 20, 0, 0, [122]),
  (159, 3, .putfield 68, 11, 26, 0, [1060]),
  (162, 1, .aload_n 0, 0, 0, 0, []),
  (163, 2, .bipush 40, 0, 0, 40, []),
  (165, 2, .newarray .int, 20, 0, 0, [122]),
  (167, 3, .putfield 71, 11, 27, 0, [1061]),
  (170, 1, .aload_n 0, 0, 0, 0, []),
  (171, 2, .bipush 10, 0, 0, 10, []),
  (173, 2, .newarray .int, 20, 0, 0, [122]),
  (175, 3, .putfield 74, 11, 28, 0, [1062]),
  (178, 1, .aload_n 0, 0, 0, 0, []),
  (179, 2, .bipush 10, 0, 0, 10, []),
  (181, 2, .newarray .int, 20, 0, 0, [122]),
  (183, 3, .putfield 77, 11, 29, 0, [1063]),
  (186, 1, .aload_n 0, 0, 0, 0, []),
  (187, 2, .bipush 10, 0, 0, 10, []),
  (189, 2, .newarray .int, 20, 0, 0, [122]),
  (191, 3, .putfield 80, 11, 30, 0, [1064]),
  (194, 1, .aload_n 0, 0, 0, 0, []),
  (195, 2, .bipush 10, 0, 0, 10, []),
  (197, 2, .newarray .int, 20, 0, 0, [122]),
  (199, 3, .putfield 83, 11, 31, 0, [1065]),
  (202, 1, .aload_n 0, 0, 0, 0, []),
  (203, 2, .bipush 80, 0, 0, 80, []),
  (205, 2, .newarray .int, 20, 0, 0, [122]),
  (207, 3, .putfield 86, 11, 33, 0, [1067]),
  (210, 1, .aload_n 0, 0, 0, 0, []),
  (211, 2, .bipush 36, 0, 0, 36, []),
  (213, 2, .newarray .int, 20, 0, 0, [122]),
  (215, 3, .putfield 89, 11, 34, 0, [1068]),
  (218, 1, .aload_n 0, 0, 0, 0, []),
  (219, 2, .bipush 80, 0, 0, 80, []),
  (221, 2, .newarray .int, 20, 0, 0, [122]),
  (223, 3, .putfield 92, 11, 35, 0, [1069]),
  (226, 1, .aload_n 0, 0, 0, 0, []),
  (227, 2, .bipush 60, 0, 0, 60, []),
  (229, 2, .newarray .int, 20, 0, 0, [122]),
  (231, 3, .putfield 95, 11, 36, 0, [1070]),
  (234, 1, .aload_n 0, 0, 0, 0, []),
  (235, 1, .iconst 4, 0, 0, 4, []),
  (236, 2, .newarray .boolean, 23, 0, 0, [1158]),
  (238, 3, .putfield 98, 11, 38, 0, [1072]),
  (241, 1, .aload_n 0, 0, 0, 0, []),
  (242, 1, .iconst 4, 0, 0, 4, []),
  (243, 2, .newarray .int, 20, 0, 0, [122]),
  (245, 3, .putfield 102, 11, 39, 0, [1073]),
  (248, 1, .aload_n 0, 0, 0, 0, []),
  (249, 2, .bipush 80, 0, 0, 80, []),
  (251, 2, .newarray .int, 20, 0, 0, [122]),
  (253, 3, .putfield 105, 11, 40, 0, [1074]),
  (256, 1, .aload_n 0, 0, 0, 0, []),
  (257, 3, .getfield 44, 11, 12, 0, [1046]),
  (260, 1, .iconst 0, 0, 0, 0, []),
  (261, 2, .bipush 105, 0, 0, 105, []),
  (263, 1, .iastore, 0, 0, 0, []),
  (264, 1, .return_, 0, 0, 0, [])])
def tw_M184 : tw_Meth := (yX12_isCard, cX12_isCard, 2, (some .boolean), 1, 11, 1, [1209, 66, 1208, 32], [
  (0, 1, .iload_n 1, 1, 0, 0, []),
  (1, 1, .iconst 0, 0, 0, 0, []),
  (2, 1, .aload_n 0, 0, 0, 0, []),
  (3, 3, .getfield 13, 11, 1, 0, [1035]),
  (6, 1, .iconst 0, 0, 0, 0, []),
  (7, 1, .iaload, 0, 0, 0, []),
  (8, 1, .iconst 1, 0, 0, 1, []),
  (9, 1, .isub, 0, 0, 0, []),
  (10, 3, .invokestatic 108, 182, 3, 0, [1163, 0]),
  (13, 1, .ireturn, 1, 0, 0, [])])
def tw_M185 : tw_Meth := (yX12_isRow, cX12_isRow, 2, (some .boolean), 1, 11, 1, [1287, 66, 1286, 41], [
  (0, 1, .iload_n 1, 1, 0, 0, []),
  (1, 1, .iconst 0, 0, 0, 0, []),
  (2, 1, .aload_n 0, 0, 0, 0, []),
  (3, 3, .getfield 17, 11, 2, 0, [1036]),
  (6, 1, .iconst 0, 0, 0, 0, []),
  (7, 1, .iaload, 0, 0, 0, []),
  (8, 1, .iconst 1, 0, 0, 1, []),
  (9, 1, .isub, 0, 0, 0, []),
  (10, 3, .invokestatic 108, 182, 3, 0, [1163, 0]),
  (13, 1, .ireturn, 1, 0, 0, [])])
def tw_M186 : tw_Meth := (yX12_isColour, cX12_isColour, 1, (some .boolean), 0, 11, 1, [1233, 66, 1232], [
  (0, 1, .iload_n 0, 0, 0, 0, []),
  (1, 1, .iconst 0, 0, 0, 0, []),
  (2, 2, .bipush 9, 0, 0, 9, []),
  (4, 3, .invokestatic 108, 182, 3, 0, [1163, 0]),
  (7, 1, .ireturn, 1, 0, 0, [])])
def tw_M187 : tw_Meth := (yX12_feed, cX12_feed, 2, (some .int), 1, 11, 1, [1162, 66, 1160, 1161], [
  (0, 1, .iload_n 1, 1, 0, 0, []),
  (1, 1, .iconst 1, 0, 0, 1, []),
  (2, 2, .bipush 127, 0, 0, 127, []),
  (4, 3, .invokestatic 108, 182, 3, 0, [1163, 0]),
  (7, 3, .ifCond .ne 6, 7, 0, 0, []),
  (10, 2, .bipush (-2), 0, 0, (-2), []),
  (12, 1, .ireturn, 0, 0, 0, []),
  (13, 1, .aload_n 0, 0, 0, 0, []),
  (14, 3, .getfield 112, 11, 17, 0, [1051]),
  (17, 2, .bipush 80, 0, 0, 80, []),
  (19, 3, .if_icmp .ne 6, 13, 0, 0, []),
  (22, 2, .bipush (-4), 0, 0, (-4), []),
  (24, 1, .ireturn, 0, 0, 0, []),
  (25, 1, .aload_n 0, 0, 0, 0, []),
  (26, 3, .getfield 56, 11, 16, 0, [1050]),
  (29, 1, .aload_n 0, 0, 0, 0, []),
  (30, 3, .getfield 112, 11, 17, 0, [1051]),
  (33, 1, .iload_n 1, 1, 0, 0, []),
  (34, 1, .iastore, 0, 0, 0, []),
  (35, 1, .aload_n 0, 0, 0, 0, []),
  (36, 1, .dup, 0, 0, 0, []),
  (37, 3, .getfield 112, 11, 17, 0, [1051]),
  (40, 1, .iconst 1, 0, 0, 1, []),
  (41, 1, .iadd, 0, 0, 0, []),
  (42, 3, .putfield 112, 11, 17, 0, [1051]),
  (45, 1, .aload_n 0, 0, 0, 0, []),
  (46, 3, .getfield 112, 11, 17, 0, [1051]),
  (49, 1, .ireturn, 0, 0, 0, [])])
def tw_M188 : tw_Meth := (yX12_clear, cX12_clear, 2, (some .int), 1, 11, 0, [1169, 66, 1167, 1168], [
  (0, 1, .aload_n 0, 0, 0, 0, []),
  (1, 3, .getfield 112, 11, 17, 0, [1051]),
  (4, 1, .istore_n 1, 1, 0, 0, []),
  (5, 1, .aload_n 0, 0, 0, 0, []),
  (6, 1, .iconst 0, 0, 0, 0, []),
  (7, 3, .putfield 112, 11, 17, 0, [1051]),
  (10, 1, .iload_n 1, 1, 0, 0, []),
  (11, 1, .ireturn, 0, 0, 0, [])])
def tw_M189 : tw_Meth := (yX12_here, cX12_here, 1, (some .int), 1, 11, 0, [1181, 66, 1180, 27], [
  (0, 1, .aload_n 0, 0, 0, 0, []),
  (1, 3, .getfield 115, 11, 18, 0, [1052]),
  (4, 1, .aload_n 0, 0, 0, 0, []),
  (5, 3, .getfield 112, 11, 17, 0, [1051]),
  (8, 3, .if_icmp .ge 15, 11, 0, 0, []),
  (11, 1, .aload_n 0, 0, 0, 0, []),
  (12, 3, .getfield 56, 11, 16, 0, [1050]),
  (15, 1, .aload_n 0, 0, 0, 0, []),
  (16, 3, .getfield 115, 11, 18, 0, [1052]),
  (19, 1, .iaload, 0, 0, 0, []),
  (20, 3, .goto 4, 12, 0, 0, []),
  (23, 1, .iconst (-1), 0, 0, (-1), []),
  (24, 1, .ireturn, 0, 0, 0, [])])
def tw_M190 : tw_Meth := (yX12_wrong, cX12_wrong, 2, none, 1, 11, 1, [1185, 66, 1184, 28], [
  (0, 1, .aload_n 0, 0, 0, 0, []),
  (1, 3, .getfield 118, 11, 19, 0, [1053]),
  (4, 3, .ifCond .ge 8, 6, 0, 0, []),
  (7, 1, .aload_n 0, 0, 0, 0, []),
  (8, 1, .iload_n 1, 1, 0, 0, []),
  (9, 3, .putfield 118, 11, 19, 0, [1053]),
  (12, 1, .return_, 0, 0, 0, [])])
def tw_M191 : tw_Meth := (yX12_expect, cX12_expect, 2, none, 1, 11, 1, [1193, 66, 1192, 30], [
  (0, 1, .aload_n 0, 0, 0, 0, []),
  (1, 3, .getfield 118, 11, 19, 0, [1053]),
  (4, 3, .ifCond .lt 4, 4, 0, 0, []),
  (7, 1, .return_, 0, 0, 0, []),
  (8, 1, .aload_n 0, 0, 0, 0, []),
  (9, 3, .invokevirtual 121, 189, 0, 0, [1178, 0]),
  (12, 1, .iload_n 1, 1, 0, 0, []),
  (13, 3, .if_icmp .ne 16, 15, 0, 0, []),
  (16, 1, .aload_n 0, 0, 0, 0, []),
  (17, 1, .dup, 0, 0, 0, []),
  (18, 3, .getfield 115, 11, 18, 0, [1052]),
  (21, 1, .iconst 1, 0, 0, 1, []),
  (22, 1, .iadd, 0, 0, 0, []),
  (23, 3, .putfield 115, 11, 18, 0, [1052]),
  (26, 3, .goto 11, 19, 0, 0, []),
  (29, 1, .aload_n 0, 0, 0, 0, []),
  (30, 1, .aload_n 0, 0, 0, 0, []),
  (31, 3, .getfield 115, 11, 18, 0, [1052]),
  (34, 3, .invokevirtual 125, 190, 1, 0, [1182, 0]),
  (37, 1, .return_, 0, 0, 0, [])])
def tw_M192 : tw_Meth := (yX12_readNumber, cX12_readNumber, 4, (some .int), 1, 11, 1, [1189, 66, 1188, 29], [
  (0, 1, .aload_n 0, 0, 0, 0, []),
  (1, 3, .getfield 115, 11, 18, 0, [1052]),
  (4, 1, .istore_n 2, 2, 0, 0, []),
  (5, 1, .iconst 0, 0, 0, 0, []),
  (6, 1, .istore_n 3, 3, 0, 0, []),
  (7, 1, .aload_n 0, 0, 0, 0, []),
  (8, 3, .getfield 115, 11, 18, 0, [1052]),
  (11, 1, .iload_n 2, 2, 0, 0, []),
  (12, 1, .iconst 2, 0, 0, 2, []),
  (13, 1, .iadd, 0, 0, 0, []),
  (14, 3, .if_icmp .ge 43, 33, 0, 0, []),
  (17, 1, .aload_n 0, 0, 0, 0, []),
  (18, 3, .invokevirtual 121, 189, 0, 0, [1178, 0]),
  (21, 2, .bipush 48, 0, 0, 48, []),
  (23, 2, .bipush 57, 0, 0, 57, []),
  (25, 3, .invokestatic 108, 182, 3, 0, [1163, 0]),
  (28, 3, .ifCond .eq 29, 33, 0, 0, []),
  (31, 2, .bipush 10, 0, 0, 10, []),
  (33, 1, .iload_n 3, 3, 0, 0, []),
  (34, 1, .imul, 0, 0, 0, []),
  (35, 1, .aload_n 0, 0, 0, 0, []),
  (36, 3, .invokevirtual 121, 189, 0, 0, [1178, 0]),
  (39, 1, .iadd, 0, 0, 0, []),
  (40, 2, .bipush 48, 0, 0, 48, []),
  (42, 1, .isub, 0, 0, 0, []),
  (43, 1, .istore_n 3, 3, 0, 0, []),
  (44, 1, .aload_n 0, 0, 0, 0, []),
  (45, 1, .dup, 0, 0, 0, []),
  (46, 3, .getfield 115, 11, 18, 0, [1052]),
  (49, 1, .iconst 1, 0, 0, 1, []),
  (50, 1, .iadd, 0, 0, 0, []),
  (51, 3, .putfield 115, 11, 18, 0, [1052]),
  (54, 3, .goto (-47), 5, 0, 0, []),
  (57, 1, .aload_n 0, 0, 0, 0, []),
  (58, 3, .getfield 115, 11, 18, 0, [1052]),
  (61, 1, .iload_n 2, 2, 0, 0, []),
  (62, 3, .if_icmp .eq 8, 40, 0, 0, []),
  (65, 1, .iload_n 3, 3, 0, 0, []),
  (66, 1, .iload_n 1, 1, 0, 0, []),
  (67, 3, .if_icmp .ge 8, 43, 0, 0, []),
  (70, 1, .aload_n 0, 0, 0, 0, []),
  (71, 1, .iload_n 2, 2, 0, 0, []),
  (72, 3, .invokevirtual 125, 190, 1, 0, [1182, 0]),
  (75, 1, .iload_n 3, 3, 0, 0, []),
  (76, 1, .ireturn, 0, 0, 0, [])])
def tw_M193 : tw_Meth := (yX12_readLaw, cX12_readLaw, 5, (some .int), 1, 11, 0, [1177, 66, 1176, 26], [
  (0, 1, .aload_n 0, 0, 0, 0, []),
  (1, 3, .getfield 118, 11, 19, 0, [1053]),
  (4, 3, .ifCond .lt 5, 5, 0, 0, []),
  (7, 1, .iconst 0, 0, 0, 0, []),
  (8, 1, .ireturn, 0, 0, 0, []),
  (9, 1, .aload_n 0, 0, 0, 0, []),
  (10, 3, .invokevirtual 121, 189, 0, 0, [1178, 0]),
  (13, 1, .istore_n 1, 1, 0, 0, []),
  (14, 1, .aload_n 0, 0, 0, 0, []),
  (15, 3, .getfield 129, 11, 21, 0, [1055]),
  (18, 1, .istore_n 2, 2, 0, 0, []),
  (19, 1, .iload_n 1, 1, 0, 0, []),
  (20, 2, .bipush 105, 0, 0, 105, []),
  (22, 3, .if_icmp .eq 21, 23, 0, 0, []),
  (25, 1, .iload_n 1, 1, 0, 0, []),
  (26, 2, .bipush 102, 0, 0, 102, []),
  (28, 3, .if_icmp .eq 15, 23, 0, 0, []),
  (31, 1, .iload_n 1, 1, 0, 0, []),
  (32, 2, .bipush 98, 0, 0, 98, []),
  (34, 3, .if_icmp .eq 9, 23, 0, 0, []),
  (37, 1, .iload_n 1, 1, 0, 0, []),
  (38, 2, .bipush 104, 0, 0, 104, []),
  (40, 3, .if_icmp .ne 42, 48, 0, 0, []),
  (43, 1, .aload_n 0, 0, 0, 0, []),
  (44, 1, .dup, 0, 0, 0, []),
  (45, 3, .getfield 129, 11, 21, 0, [1055]),
  (48, 1, .iconst 1, 0, 0, 1, []),
  (49, 1, .iadd, 0, 0, 0, []),
  (50, 3, .putfield 129, 11, 21, 0, [1055]),
  (53, 1, .aload_n 0, 0, 0, 0, []),
  (54, 1, .dup, 0, 0, 0, []),
  (55, 3, .getfield 132, 11, 22, 0, [1056]),
  (58, 1, .iconst 1, 0, 0, 1, []),
  (59, 1, .iadd, 0, 0, 0, []),
  (60, 3, .putfield 132, 11, 22, 0, [1056]),
  (63, 1, .aload_n 0, 0, 0, 0, []),
  (64, 3, .getfield 59, 11, 23, 0, [1057]),
  (67, 1, .iload_n 2, 2, 0, 0, []),
  (68, 1, .iload_n 1, 1, 0, 0, []),
  (69, 1, .iastore, 0, 0, 0, []),
  (70, 1, .aload_n 0, 0, 0, 0, []),
  (71, 1, .dup, 0, 0, 0, []),
  (72, 3, .getfield 115, 11, 18, 0, [1052]),
  (75, 1, .iconst 1, 0, 0, 1, []),
  (76, 1, .iadd, 0, 0, 0, []),
  (77, 3, .putfield 115, 11, 18, 0, [1052]),
  (80, 1, .iload_n 2, 2, 0, 0, []),
  (81, 1, .ireturn, 0, 0, 0, []),
  (82, 1, .iload_n 1, 1, 0, 0, []),
  (83, 2, .bipush 107, 0, 0, 107, []),
  (85, 3, .if_icmp .eq 21, 60, 0, 0, []),
  (88, 1, .iload_n 1, 1, 0, 0, []),
  (89, 2, .bipush 99, 0, 0, 99, []),
  (91, 3, .if_icmp .eq 15, 60, 0, 0, []),
  (94, 1, .iload_n 1, 1, 0, 0, []),
  (95, 2, .bipush 120, 0, 0, 120, []),
  (97, 3, .if_icmp .eq 9, 60, 0, 0, []),
  (100, 1, .iload_n 1, 1, 0, 0, []),
  (101, 2, .bipush 115, 0, 0, 115, []),
  (103, 3, .if_icmp .ne 7, 62, 0, 0, []),
  (106, 1, .iconst 1, 0, 0, 1, []),
  (107, 3, .goto 4, 63, 0, 0, []),
  (110, 1, .iconst 0, 0, 0, 0, []),
  (111, 1, .istore_n 3, 3, 0, 0, []),
  (112, 1, .iload_n 1, 1, 0, 0, []),
  (113, 2, .bipush 115, 0, 0, 115, []),
  (115, 3, .if_icmp .eq 21, 76, 0, 0, []),
  (118, 1, .iload_n 1, 1, 0, 0, []),
  (119, 2, .bipush 100, 0, 0, 100, []),
  (121, 3, .if_icmp .eq 15, 76, 0, 0, []),
  (124, 1, .iload_n 1, 1, 0, 0, []),
  (125, 2, .bipush 114, 0, 0, 114, []),
  (127, 3, .if_icmp .eq 9, 76, 0, 0, []),
  (130, 1, .iload_n 1, 1, 0, 0, []),
  (131, 2, .bipush 109, 0, 0, 109, []),
  (133, 3, .if_icmp .ne 7, 78, 0, 0, []),
  (136, 1, .iconst 1, 0, 0, 1, []),
  (137, 3, .goto 4, 79, 0, 0, []),
  (140, 1, .iconst 0, 0, 0, 0, []),
  (141, 2, .istore 4, 4, 0, 0, []),
  (143, 1, .iload_n 3, 3, 0, 0, []),
  (144, 3, .ifCond .ne 14, 87, 0, 0, []),
  (147, 2, .iload 4, 4, 0, 0, []),
  (149, 3, .ifCond .ne 9, 87, 0, 0, []),
  (152, 1, .iload_n 1, 1, 0, 0, []),
  (153, 2, .bipush 116, 0, 0, 116, []),
  (155, 3, .if_icmp .ne 12, 91, 0, 0, []),
  (158, 1, .aload_n 0, 0, 0, 0, []),
  (159, 3, .getfield 135, 11, 20, 0, [1054]),
  (162, 2, .bipush 6, 0, 0, 6, []),
  (164, 3, .if_icmp .ne 13, 97, 0, 0, []),
  (167, 1, .aload_n 0, 0, 0, 0, []),
  (168, 1, .aload_n 0, 0, 0, 0, []),
  (169, 3, .getfield 115, 11, 18, 0, [1052]),
  (172, 3, .invokevirtual 125, 190, 1, 0, [1182, 0]),
  (175, 1, .iconst 0, 0, 0, 0, []),
  (176, 1, .ireturn, 0, 0, 0, []),
  (177, 1, .aload_n 0, 0, 0, 0, []),
  (178, 1, .dup, 0, 0, 0, []),
  (179, 3, .getfield 129, 11, 21, 0, [1055]),
  (182, 1, .iconst 1, 0, 0, 1, []),
  (183, 1, .iadd, 0, 0, 0, []),
  (184, 3, .putfield 129, 11, 21, 0, [1055]),
  (187, 1, .aload_n 0, 0, 0, 0, []),
  (188, 3, .getfield 59, 11, 23, 0, [1057]),
  (191, 1, .iload_n 2, 2, 0, 0, []),
  (192, 1, .iload_n 1, 1, 0, 0, []),
  (193, 1, .iastore, 0, 0, 0, []),
  (194, 1, .aload_n 0, 0, 0, 0, []),
  (195, 1, .dup, 0, 0, 0, []),
  (196, 3, .getfield 115, 11, 18, 0, [1052]),
  (199, 1, .iconst 1, 0, 0, 1, []),
  (200, 1, .iadd, 0, 0, 0, []),
  (201, 3, .putfield 115, 11, 18, 0, [1052]),
  (204, 1, .aload_n 0, 0, 0, 0, []),
  (205, 3, .getfield 62, 11, 24, 0, [1058]),
  (208, 1, .iload_n 2, 2, 0, 0, []),
  (209, 1, .iload_n 3, 3, 0, 0, []),
  (210, 3, .ifCond .eq 27, 131, 0, 0, []),
  (213, 1, .aload_n 0, 0, 0, 0, []),
  (214, 1, .iload_n 1, 1, 0, 0, []),
  (215, 2, .bipush 107, 0, 0, 107, []),
  (217, 3, .if_icmp .eq 9, 126, 0, 0, []),
  (220, 1, .iload_n 1, 1, 0, 0, []),
  (221, 2, .bipush 120, 0, 0, 120, []),
  (223, 3, .if_icmp .ne 7, 128, 0, 0, []),
  (226, 1, .iconst 1, 0, 0, 1, []),
  (227, 3, .goto 4, 129, 0, 0, []),
  (230, 1, .iconst 0, 0, 0, 0, []),
  (231, 3, .invokevirtual 138, 192, 1, 0, [1186, 0]),
  (234, 3, .goto 4, 132, 0, 0, []),
  (237, 1, .iconst 0, 0, 0, 0, []),
  (238, 1, .iastore, 0, 0, 0, []),
  (239, 1, .aload_n 0, 0, 0, 0, []),
  (240, 2, .bipush 40, 0, 0, 40, []),
  (242, 3, .invokevirtual 142, 191, 1, 0, [1190, 0]),
  (245, 1, .aload_n 0, 0, 0, 0, []),
  (246, 1, .dup, 0, 0, 0, []),
  (247, 3, .getfield 135, 11, 20, 0, [1054]),
  (250, 1, .iconst 1, 0, 0, 1, []),
  (251, 1, .iadd, 0, 0, 0, []),
  (252, 3, .putfield 135, 11, 20, 0, [1054]),
  (255, 1, .aload_n 0, 0, 0, 0, []),
  (256, 3, .getfield 65, 11, 25, 0, [1059]),
  (259, 1, .iload_n 2, 2, 0, 0, []),
  (260, 1, .aload_n 0, 0, 0, 0, []),
  (261, 3, .invokevirtual 145, 193, 0, 0, [1174, 0]),
  (264, 1, .iastore, 0, 0, 0, []),
  (265, 2, .iload 4, 4, 0, 0, []),
  (267, 3, .ifCond .ne 19, 159, 0, 0, []),
  (270, 1, .aload_n 0, 0, 0, 0, []),
  (271, 2, .bipush 44, 0, 0, 44, []),
  (273, 3, .invokevirtual 142, 191, 1, 0, [1190, 0]),
  (276, 1, .aload_n 0, 0, 0, 0, []),
  (277, 3, .getfield 68, 11, 26, 0, [1060]),
  (280, 1, .iload_n 2, 2, 0, 0, []),
  (281, 1, .aload_n 0, 0, 0, 0, []),
  (282, 3, .invokevirtual 145, 193, 0, 0, [1174, 0]),
  (285, 1, .iastore, 0, 0, 0, []),
  (286, 1, .aload_n 0, 0, 0, 0, []),
  (287, 2, .bipush 41, 0, 0, 41, []),
  (289, 3, .invokevirtual 142, 191, 1, 0, [1190, 0]),
  (292, 1, .aload_n 0, 0, 0, 0, []),
  (293, 1, .dup, 0, 0, 0, []),
  (294, 3, .getfield 135, 11, 20, 0, [1054]),
  (297, 1, .iconst 1, 0, 0, 1, []),
  (298, 1, .isub, 0, 0, 0, []),
  (299, 3, .putfield 135, 11, 20, 0, [1054]),
  (302, 1, .iload_n 2, 2, 0, 0, []),
  (303, 1, .ireturn, 0, 0, 0, [])])
def tw_M194 : tw_Meth := (yX12_law, cX12_law, 2, (some .int), 1, 11, 0, [1173, 66, 1171, 1172], [
  (0, 1, .aload_n 0, 0, 0, 0, []),
  (1, 1, .iconst 0, 0, 0, 0, []),
  (2, 3, .putfield 115, 11, 18, 0, [1052]),
  (5, 1, .aload_n 0, 0, 0, 0, []),
  (6, 1, .iconst (-1), 0, 0, (-1), []),
  (7, 3, .putfield 118, 11, 19, 0, [1053]),
  (10, 1, .aload_n 0, 0, 0, 0, []),
  (11, 1, .iconst 0, 0, 0, 0, []),
  (12, 3, .putfield 135, 11, 20, 0, [1054]),
  (15, 1, .aload_n 0, 0, 0, 0, []),
  (16, 1, .iconst 0, 0, 0, 0, []),
  (17, 3, .putfield 129, 11, 21, 0, [1055]),
  (20, 1, .aload_n 0, 0, 0, 0, []),
  (21, 1, .iconst 0, 0, 0, 0, []),
  (22, 3, .putfield 132, 11, 22, 0, [1056]),
  (25, 1, .aload_n 0, 0, 0, 0, []),
  (26, 3, .invokevirtual 145, 193, 0, 0, [1174, 0]),
  (29, 1, .pop, 0, 0, 0, []),
  (30, 1, .aload_n 0, 0, 0, 0, []),
  (31, 3, .getfield 118, 11, 19, 0, [1053]),
  (34, 3, .ifCond .ge 22, 30, 0, 0, []),
  (37, 1, .aload_n 0, 0, 0, 0, []),
  (38, 3, .getfield 115, 11, 18, 0, [1052]),
  (41, 1, .aload_n 0, 0, 0, 0, []),
  (42, 3, .getfield 112, 11, 17, 0, [1051]),
  (45, 3, .if_icmp .ge 11, 30, 0, 0, []),
  (48, 1, .aload_n 0, 0, 0, 0, []),
  (49, 1, .aload_n 0, 0, 0, 0, []),
  (50, 3, .getfield 115, 11, 18, 0, [1052]),
  (53, 3, .invokevirtual 125, 190, 1, 0, [1182, 0]),
  (56, 1, .aload_n 0, 0, 0, 0, []),
  (57, 1, .iconst 0, 0, 0, 0, []),
  (58, 3, .putfield 112, 11, 17, 0, [1051]),
  (61, 1, .aload_n 0, 0, 0, 0, []),
  (62, 3, .getfield 118, 11, 19, 0, [1053]),
  (65, 3, .ifCond .lt 11, 41, 0, 0, []),
  (68, 2, .bipush (-100), 0, 0, (-100), []),
  (70, 1, .aload_n 0, 0, 0, 0, []),
  (71, 3, .getfield 118, 11, 19, 0, [1053]),
  (74, 1, .isub, 0, 0, 0, []),
  (75, 1, .ireturn, 0, 0, 0, []),
  (76, 1, .iconst 0, 0, 0, 0, []),
  (77, 1, .istore_n 1, 1, 0, 0, []),
  (78, 1, .iload_n 1, 1, 0, 0, []),
  (79, 1, .aload_n 0, 0, 0, 0, []),
  (80, 3, .getfield 129, 11, 21, 0, [1055]),
  (83, 3, .if_icmp .ge 57, 81, 0, 0, []),
  (86, 1, .aload_n 0, 0, 0, 0, []),
  (87, 3, .getfield 44, 11, 12, 0, [1046]),
  (90, 1, .iload_n 1, 1, 0, 0, []),
  (91, 1, .aload_n 0, 0, 0, 0, []),
  (92, 3, .getfield 59, 11, 23, 0, [1057]),
  (95, 1, .iload_n 1, 1, 0, 0, []),
  (96, 1, .iaload, 0, 0, 0, []),
  (97, 1, .iastore, 0, 0, 0, []),
  (98, 1, .aload_n 0, 0, 0, 0, []),
  (99, 3, .getfield 47, 11, 13, 0, [1047]),
  (102, 1, .iload_n 1, 1, 0, 0, []),
  (103, 1, .aload_n 0, 0, 0, 0, []),
  (104, 3, .getfield 62, 11, 24, 0, [1058]),
  (107, 1, .iload_n 1, 1, 0, 0, []),
  (108, 1, .iaload, 0, 0, 0, []),
  (109, 1, .iastore, 0, 0, 0, []),
  (110, 1, .aload_n 0, 0, 0, 0, []),
  (111, 3, .getfield 50, 11, 14, 0, [1048]),
  (114, 1, .iload_n 1, 1, 0, 0, []),
  (115, 1, .aload_n 0, 0, 0, 0, []),
  (116, 3, .getfield 65, 11, 25, 0, [1059]),
  (119, 1, .iload_n 1, 1, 0, 0, []),
  (120, 1, .iaload, 0, 0, 0, []),
  (121, 1, .iastore, 0, 0, 0, []),
  (122, 1, .aload_n 0, 0, 0, 0, []),
  (123, 3, .getfield 53, 11, 15, 0, [1049]),
  (126, 1, .iload_n 1, 1, 0, 0, []),
  (127, 1, .aload_n 0, 0, 0, 0, []),
  (128, 3, .getfield 68, 11, 26, 0, [1060]),
  (131, 1, .iload_n 1, 1, 0, 0, []),
  (132, 1, .iaload, 0, 0, 0, []),
  (133, 1, .iastore, 0, 0, 0, []),
  (134, 3, .iinc 1 1, 1, 0, 1, []),
  (137, 3, .goto (-59), 43, 0, 0, []),
  (140, 1, .aload_n 0, 0, 0, 0, []),
  (141, 3, .getfield 132, 11, 22, 0, [1056]),
  (144, 1, .ireturn, 0, 0, 0, [])])
def tw_M195 : tw_Meth := (yX12_lawOf, cX12_lawOf, 6, (some .int), 1, 11, 3, [1218, 66, 1217, 34], [
  (0, 1, .aload_n 0, 0, 0, 0, []),
  (1, 3, .getfield 47, 11, 13, 0, [1047]),
  (4, 1, .iload_n 1, 1, 0, 0, []),
  (5, 1, .iaload, 0, 0, 0, []),
  (6, 2, .istore 4, 4, 0, 0, []),
  (8, 1, .aload_n 0, 0, 0, 0, []),
  (9, 3, .getfield 44, 11, 12, 0, [1046]),
  (12, 1, .iload_n 1, 1, 0, 0, []),
  (13, 1, .iaload, 0, 0, 0, []),
  (14, 106, .tableswitch 292 98 120 #[110, 145, 218, 292, 108, 292, 112, 106, 292, 114, 292, 233, 292, 292, 292, 292, 255, 202, 292, 292, 292, 292, 173], 132, 120, 98, [14, 38, 84, 132, 12, 132, 16, 10, 132, 18, 132, 95, 132, 132, 132, 132, 111, 73, 132, 132, 132, 132, 55]),
  (120, 1, .iconst 0, 0, 0, 0, []),
  (121, 1, .ireturn, 0, 0, 0, []),
  (122, 1, .iconst 1, 0, 0, 1, []),
  (123, 1, .ireturn, 0, 0, 0, []),
  (124, 1, .iconst 2, 0, 0, 2, []),
  (125, 1, .ireturn, 0, 0, 0, []),
  (126, 1, .iconst 3, 0, 0, 3, []),
  (127, 1, .ireturn, 0, 0, 0, []),
  (128, 1, .aload_n 0, 0, 0, 0, []),
  (129, 1, .iload_n 3, 3, 0, 0, []),
  (130, 2, .iload 4, 4, 0, 0, []),
  (132, 1, .idiv, 0, 0, 0, []),
  (133, 1, .iconst 2, 0, 0, 2, []),
  (134, 1, .irem, 0, 0, 0, []),
  (135, 3, .ifCond .ne 12, 30, 0, 0, []),
  (138, 1, .aload_n 0, 0, 0, 0, []),
  (139, 3, .getfield 50, 11, 14, 0, [1048]),
  (142, 1, .iload_n 1, 1, 0, 0, []),
  (143, 1, .iaload, 0, 0, 0, []),
  (144, 3, .goto 9, 34, 0, 0, []),
  (147, 1, .aload_n 0, 0, 0, 0, []),
  (148, 3, .getfield 53, 11, 15, 0, [1049]),
  (151, 1, .iload_n 1, 1, 0, 0, []),
  (152, 1, .iaload, 0, 0, 0, []),
  (153, 1, .iload_n 2, 2, 0, 0, []),
  (154, 1, .iload_n 3, 3, 0, 0, []),
  (155, 3, .invokevirtual 148, 195, 3, 0, [1215, 0]),
  (158, 1, .ireturn, 0, 0, 0, []),
  (159, 1, .aload_n 0, 0, 0, 0, []),
  (160, 1, .iload_n 2, 2, 0, 0, []),
  (161, 2, .iload 4, 4, 0, 0, []),
  (163, 3, .if_icmp .ge 12, 47, 0, 0, []),
  (166, 1, .aload_n 0, 0, 0, 0, []),
  (167, 3, .getfield 50, 11, 14, 0, [1048]),
  (170, 1, .iload_n 1, 1, 0, 0, []),
  (171, 1, .iaload, 0, 0, 0, []),
  (172, 3, .goto 9, 51, 0, 0, []),
  (175, 1, .aload_n 0, 0, 0, 0, []),
  (176, 3, .getfield 53, 11, 15, 0, [1049]),
  (179, 1, .iload_n 1, 1, 0, 0, []),
  (180, 1, .iaload, 0, 0, 0, []),
  (181, 1, .iload_n 2, 2, 0, 0, []),
  (182, 1, .iload_n 3, 3, 0, 0, []),
  (183, 3, .invokevirtual 148, 195, 3, 0, [1215, 0]),
  (186, 1, .ireturn, 0, 0, 0, []),
  (187, 1, .aload_n 0, 0, 0, 0, []),
  (188, 1, .iload_n 3, 3, 0, 0, []),
  (189, 2, .iload 4, 4, 0, 0, []),
  (191, 1, .irem, 0, 0, 0, []),
  (192, 3, .ifCond .ne 12, 65, 0, 0, []),
  (195, 1, .aload_n 0, 0, 0, 0, []),
  (196, 3, .getfield 53, 11, 15, 0, [1049]),
  (199, 1, .iload_n 1, 1, 0, 0, []),
  (200, 1, .iaload, 0, 0, 0, []),
  (201, 3, .goto 9, 69, 0, 0, []),
  (204, 1, .aload_n 0, 0, 0, 0, []),
  (205, 3, .getfield 50, 11, 14, 0, [1048]),
  (208, 1, .iload_n 1, 1, 0, 0, []),
  (209, 1, .iaload, 0, 0, 0, []),
  (210, 1, .iload_n 2, 2, 0, 0, []),
  (211, 1, .iload_n 3, 3, 0, 0, []),
  (212, 3, .invokevirtual 148, 195, 3, 0, [1215, 0]),
  (215, 1, .ireturn, 0, 0, 0, []),
  (216, 1, .aload_n 0, 0, 0, 0, []),
  (217, 1, .aload_n 0, 0, 0, 0, []),
  (218, 3, .getfield 50, 11, 14, 0, [1048]),
  (221, 1, .iload_n 1, 1, 0, 0, []),
  (222, 1, .iaload, 0, 0, 0, []),
  (223, 1, .iload_n 2, 2, 0, 0, []),
  (224, 1, .iload_n 3, 3, 0, 0, []),
  (225, 2, .iload 4, 4, 0, 0, []),
  (227, 1, .iadd, 0, 0, 0, []),
  (228, 3, .invokevirtual 148, 195, 3, 0, [1215, 0]),
  (231, 1, .ireturn, 0, 0, 0, []),
  (232, 1, .aload_n 0, 0, 0, 0, []),
  (233, 1, .aload_n 0, 0, 0, 0, []),
  (234, 3, .getfield 50, 11, 14, 0, [1048]),
  (237, 1, .iload_n 1, 1, 0, 0, []),
  (238, 1, .iaload, 0, 0, 0, []),
  (239, 1, .iload_n 2, 2, 0, 0, []),
  (240, 1, .iload_n 3, 3, 0, 0, []),
  (241, 1, .iload_n 2, 2, 0, 0, []),
  (242, 1, .iadd, 0, 0, 0, []),
  (243, 3, .invokevirtual 148, 195, 3, 0, [1215, 0]),
  (246, 1, .ireturn, 0, 0, 0, []),
  (247, 1, .aload_n 0, 0, 0, 0, []),
  (248, 1, .aload_n 0, 0, 0, 0, []),
  (249, 3, .getfield 50, 11, 14, 0, [1048]),
  (252, 1, .iload_n 1, 1, 0, 0, []),
  (253, 1, .iaload, 0, 0, 0, []),
  (254, 1, .aload_n 0, 0, 0, 0, []),
  (255, 3, .getfield 13, 11, 1, 0, [1035]),
  (258, 1, .iconst 0, 0, 0, 0, []),
  (259, 1, .iaload, 0, 0, 0, []),
  (260, 1, .iconst 1, 0, 0, 1, []),
  (261, 1, .isub, 0, 0, 0, []),
  (262, 1, .iload_n 2, 2, 0, 0, []),
  (263, 1, .isub, 0, 0, 0, []),
  (264, 1, .iload_n 3, 3, 0, 0, []),
  (265, 3, .invokevirtual 148, 195, 3, 0, [1215, 0]),
  (268, 1, .ireturn, 0, 0, 0, []),
  (269, 1, .aload_n 0, 0, 0, 0, []),
  (270, 1, .aload_n 0, 0, 0, 0, []),
  (271, 3, .getfield 50, 11, 14, 0, [1048]),
  (274, 1, .iload_n 1, 1, 0, 0, []),
  (275, 1, .iaload, 0, 0, 0, []),
  (276, 1, .iload_n 2, 2, 0, 0, []),
  (277, 1, .iload_n 3, 3, 0, 0, []),
  (278, 3, .invokevirtual 148, 195, 3, 0, [1215, 0]),
  (281, 2, .istore 5, 5, 0, 0, []),
  (283, 2, .iload 5, 5, 0, 0, []),
  (285, 1, .iconst 1, 0, 0, 1, []),
  (286, 3, .if_icmp .ne 7, 125, 0, 0, []),
  (289, 1, .iconst 2, 0, 0, 2, []),
  (290, 3, .goto 15, 131, 0, 0, []),
  (293, 2, .iload 5, 5, 0, 0, []),
  (295, 1, .iconst 2, 0, 0, 2, []),
  (296, 3, .if_icmp .ne 7, 130, 0, 0, []),
  (299, 1, .iconst 1, 0, 0, 1, []),
  (300, 3, .goto 5, 131, 0, 0, []),
  (303, 2, .iload 5, 5, 0, 0, []),
  (305, 1, .ireturn, 0, 0, 0, []),
  (306, 1, .aload_n 0, 0, 0, 0, []),
  (307, 1, .aload_n 0, 0, 0, 0, []),
  (308, 3, .getfield 50, 11, 14, 0, [1048]),
  (311, 1, .iload_n 1, 1, 0, 0, []),
  (312, 1, .iaload, 0, 0, 0, []),
  (313, 1, .iload_n 2, 2, 0, 0, []),
  (314, 1, .iload_n 3, 3, 0, 0, []),
  (315, 3, .invokevirtual 148, 195, 3, 0, [1215, 0]),
  (318, 2, .istore 5, 5, 0, 0, []),
  (320, 2, .iload 5, 5, 0, 0, []),
  (322, 3, .ifCond .eq 8, 145, 0, 0, []),
  (325, 2, .iload 5, 5, 0, 0, []),
  (327, 3, .goto 15, 153, 0, 0, []),
  (330, 1, .aload_n 0, 0, 0, 0, []),
  (331, 1, .aload_n 0, 0, 0, 0, []),
  (332, 3, .getfield 53, 11, 15, 0, [1049]),
  (335, 1, .iload_n 1, 1, 0, 0, []),
  (336, 1, .iaload, 0, 0, 0, []),
  (337, 1, .iload_n 2, 2, 0, 0, []),
  (338, 1, .iload_n 3, 3, 0, 0, []),
  (339, 3, .invokevirtual 148, 195, 3, 0, [1215, 0]),
  (342, 1, .ireturn, 0, 0, 0, [])])
def tw_M196 : tw_Meth := (yX12_readCard, cX12_readCard, 3, none, 1, 11, 1, [1201, 66, 1200, 31], [
  (0, 1, .iconst 0, 0, 0, 0, []),
  (1, 1, .istore_n 2, 2, 0, 0, []),
  (2, 1, .iload_n 2, 2, 0, 0, []),
  (3, 1, .iconst 4, 0, 0, 4, []),
  (4, 3, .if_icmp .ge 66, 39, 0, 0, []),
  (7, 1, .aload_n 0, 0, 0, 0, []),
  (8, 3, .getfield 118, 11, 19, 0, [1053]),
  (11, 3, .ifCond .ge 59, 39, 0, 0, []),
  (14, 1, .aload_n 0, 0, 0, 0, []),
  (15, 3, .invokevirtual 121, 189, 0, 0, [1178, 0]),
  (18, 2, .bipush 97, 0, 0, 97, []),
  (20, 2, .bipush 106, 0, 0, 106, []),
  (22, 3, .invokestatic 108, 182, 3, 0, [1163, 0]),
  (25, 3, .ifCond .ne 12, 19, 0, 0, []),
  (28, 1, .aload_n 0, 0, 0, 0, []),
  (29, 1, .aload_n 0, 0, 0, 0, []),
  (30, 3, .getfield 115, 11, 18, 0, [1052]),
  (33, 3, .invokevirtual 125, 190, 1, 0, [1182, 0]),
  (36, 1, .return_, 0, 0, 0, []),
  (37, 1, .aload_n 0, 0, 0, 0, []),
  (38, 3, .getfield 71, 11, 27, 0, [1061]),
  (41, 1, .iconst 4, 0, 0, 4, []),
  (42, 1, .iload_n 1, 1, 0, 0, []),
  (43, 1, .imul, 0, 0, 0, []),
  (44, 1, .iload_n 2, 2, 0, 0, []),
  (45, 1, .iadd, 0, 0, 0, []),
  (46, 1, .aload_n 0, 0, 0, 0, []),
  (47, 3, .invokevirtual 121, 189, 0, 0, [1178, 0]),
  (50, 2, .bipush 97, 0, 0, 97, []),
  (52, 1, .isub, 0, 0, 0, []),
  (53, 1, .iastore, 0, 0, 0, []),
  (54, 1, .aload_n 0, 0, 0, 0, []),
  (55, 1, .dup, 0, 0, 0, []),
  (56, 3, .getfield 115, 11, 18, 0, [1052]),
  (59, 1, .iconst 1, 0, 0, 1, []),
  (60, 1, .iadd, 0, 0, 0, []),
  (61, 3, .putfield 115, 11, 18, 0, [1052]),
  (64, 3, .iinc 2 1, 2, 0, 1, []),
  (67, 3, .goto (-65), 2, 0, 0, []),
  (70, 1, .aload_n 0, 0, 0, 0, []),
  (71, 3, .getfield 118, 11, 19, 0, [1053]),
  (74, 3, .ifCond .lt 4, 43, 0, 0, []),
  (77, 1, .return_, 0, 0, 0, []),
  (78, 1, .aload_n 0, 0, 0, 0, []),
  (79, 3, .invokevirtual 121, 189, 0, 0, [1178, 0]),
  (82, 2, .bipush 83, 0, 0, 83, []),
  (84, 3, .if_icmp .eq 21, 56, 0, 0, []),
  (87, 1, .aload_n 0, 0, 0, 0, []),
  (88, 3, .invokevirtual 121, 189, 0, 0, [1178, 0]),
  (91, 2, .bipush 90, 0, 0, 90, []),
  (93, 3, .if_icmp .eq 12, 56, 0, 0, []),
  (96, 1, .aload_n 0, 0, 0, 0, []),
  (97, 1, .aload_n 0, 0, 0, 0, []),
  (98, 3, .getfield 115, 11, 18, 0, [1052]),
  (101, 3, .invokevirtual 125, 190, 1, 0, [1182, 0]),
  (104, 1, .return_, 0, 0, 0, []),
  (105, 1, .aload_n 0, 0, 0, 0, []),
  (106, 3, .getfield 74, 11, 28, 0, [1062]),
  (109, 1, .iload_n 1, 1, 0, 0, []),
  (110, 1, .aload_n 0, 0, 0, 0, []),
  (111, 3, .invokevirtual 121, 189, 0, 0, [1178, 0]),
  (114, 2, .bipush 90, 0, 0, 90, []),
  (116, 3, .if_icmp .ne 7, 65, 0, 0, []),
  (119, 1, .iconst 1, 0, 0, 1, []),
  (120, 3, .goto 4, 66, 0, 0, []),
  (123, 1, .iconst 0, 0, 0, 0, []),
  (124, 1, .iastore, 0, 0, 0, []),
  (125, 1, .aload_n 0, 0, 0, 0, []),
  (126, 1, .dup, 0, 0, 0, []),
  (127, 3, .getfield 115, 11, 18, 0, [1052]),
  (130, 1, .iconst 1, 0, 0, 1, []),
  (131, 1, .iadd, 0, 0, 0, []),
  (132, 3, .putfield 115, 11, 18, 0, [1052]),
  (135, 1, .return_, 0, 0, 0, [])])
def tw_M197 : tw_Meth := (yX12_thread, cX12_thread, 4, (some .int), 1, 11, 0, [1197, 66, 1195, 1196], [
  (0, 1, .aload_n 0, 0, 0, 0, []),
  (1, 1, .iconst 0, 0, 0, 0, []),
  (2, 3, .putfield 115, 11, 18, 0, [1052]),
  (5, 1, .aload_n 0, 0, 0, 0, []),
  (6, 1, .iconst (-1), 0, 0, (-1), []),
  (7, 3, .putfield 118, 11, 19, 0, [1053]),
  (10, 1, .aload_n 0, 0, 0, 0, []),
  (11, 1, .iconst 0, 0, 0, 0, []),
  (12, 3, .invokevirtual 152, 196, 1, 0, [1198, 0]),
  (15, 1, .iconst 1, 0, 0, 1, []),
  (16, 1, .istore_n 1, 1, 0, 0, []),
  (17, 1, .aload_n 0, 0, 0, 0, []),
  (18, 3, .getfield 118, 11, 19, 0, [1053]),
  (21, 3, .ifCond .ge 39, 32, 0, 0, []),
  (24, 1, .iload_n 1, 1, 0, 0, []),
  (25, 2, .bipush 10, 0, 0, 10, []),
  (27, 3, .if_icmp .ge 33, 32, 0, 0, []),
  (30, 1, .aload_n 0, 0, 0, 0, []),
  (31, 3, .invokevirtual 121, 189, 0, 0, [1178, 0]),
  (34, 2, .bipush 59, 0, 0, 59, []),
  (36, 3, .if_icmp .ne 24, 32, 0, 0, []),
  (39, 1, .aload_n 0, 0, 0, 0, []),
  (40, 1, .dup, 0, 0, 0, []),
  (41, 3, .getfield 115, 11, 18, 0, [1052]),
  (44, 1, .iconst 1, 0, 0, 1, []),
  (45, 1, .iadd, 0, 0, 0, []),
  (46, 3, .putfield 115, 11, 18, 0, [1052]),
  (49, 1, .aload_n 0, 0, 0, 0, []),
  (50, 1, .iload_n 1, 1, 0, 0, []),
  (51, 3, .invokevirtual 152, 196, 1, 0, [1198, 0]),
  (54, 3, .iinc 1 1, 1, 0, 1, []),
  (57, 3, .goto (-40), 11, 0, 0, []),
  (60, 1, .aload_n 0, 0, 0, 0, []),
  (61, 3, .getfield 118, 11, 19, 0, [1053]),
  (64, 3, .ifCond .ge 22, 44, 0, 0, []),
  (67, 1, .aload_n 0, 0, 0, 0, []),
  (68, 3, .getfield 115, 11, 18, 0, [1052]),
  (71, 1, .aload_n 0, 0, 0, 0, []),
  (72, 3, .getfield 112, 11, 17, 0, [1051]),
  (75, 3, .if_icmp .ge 11, 44, 0, 0, []),
  (78, 1, .aload_n 0, 0, 0, 0, []),
  (79, 1, .aload_n 0, 0, 0, 0, []),
  (80, 3, .getfield 115, 11, 18, 0, [1052]),
  (83, 3, .invokevirtual 125, 190, 1, 0, [1182, 0]),
  (86, 1, .aload_n 0, 0, 0, 0, []),
  (87, 1, .iconst 0, 0, 0, 0, []),
  (88, 3, .putfield 112, 11, 17, 0, [1051]),
  (91, 1, .aload_n 0, 0, 0, 0, []),
  (92, 3, .getfield 118, 11, 19, 0, [1053]),
  (95, 3, .ifCond .lt 11, 55, 0, 0, []),
  (98, 2, .bipush (-100), 0, 0, (-100), []),
  (100, 1, .aload_n 0, 0, 0, 0, []),
  (101, 3, .getfield 118, 11, 19, 0, [1053]),
  (104, 1, .isub, 0, 0, 0, []),
  (105, 1, .ireturn, 0, 0, 0, []),
  (106, 1, .aload_n 0, 0, 0, 0, []),
  (107, 3, .getfield 13, 11, 1, 0, [1035]),
  (110, 1, .iconst 0, 0, 0, 0, []),
  (111, 1, .iload_n 1, 1, 0, 0, []),
  (112, 1, .iastore, 0, 0, 0, []),
  (113, 1, .aload_n 0, 0, 0, 0, []),
  (114, 3, .getfield 17, 11, 2, 0, [1036]),
  (117, 1, .iconst 0, 0, 0, 0, []),
  (118, 1, .iconst 0, 0, 0, 0, []),
  (119, 1, .iastore, 0, 0, 0, []),
  (120, 1, .iconst 0, 0, 0, 0, []),
  (121, 1, .istore_n 2, 2, 0, 0, []),
  (122, 1, .iload_n 2, 2, 0, 0, []),
  (123, 1, .iload_n 1, 1, 0, 0, []),
  (124, 3, .if_icmp .ge 68, 113, 0, 0, []),
  (127, 1, .aload_n 0, 0, 0, 0, []),
  (128, 3, .getfield 23, 11, 4, 0, [1038]),
  (131, 1, .iload_n 2, 2, 0, 0, []),
  (132, 1, .aload_n 0, 0, 0, 0, []),
  (133, 3, .getfield 74, 11, 28, 0, [1062]),
  (136, 1, .iload_n 2, 2, 0, 0, []),
  (137, 1, .iaload, 0, 0, 0, []),
  (138, 1, .iastore, 0, 0, 0, []),
  (139, 1, .aload_n 0, 0, 0, 0, []),
  (140, 3, .getfield 26, 11, 5, 0, [1039]),
  (143, 1, .iload_n 2, 2, 0, 0, []),
  (144, 1, .iconst 0, 0, 0, 0, []),
  (145, 1, .iastore, 0, 0, 0, []),
  (146, 1, .aload_n 0, 0, 0, 0, []),
  (147, 3, .getfield 29, 11, 6, 0, [1040]),
  (150, 1, .iload_n 2, 2, 0, 0, []),
  (151, 1, .iconst 0, 0, 0, 0, []),
  (152, 1, .iastore, 0, 0, 0, []),
  (153, 1, .iconst 0, 0, 0, 0, []),
  (154, 1, .istore_n 3, 3, 0, 0, []),
  (155, 1, .iload_n 3, 3, 0, 0, []),
  (156, 1, .iconst 4, 0, 0, 4, []),
  (157, 3, .if_icmp .ge 29, 111, 0, 0, []),
  (160, 1, .aload_n 0, 0, 0, 0, []),
  (161, 3, .getfield 20, 11, 3, 0, [1037]),
  (164, 1, .iconst 4, 0, 0, 4, []),
  (165, 1, .iload_n 2, 2, 0, 0, []),
  (166, 1, .imul, 0, 0, 0, []),
  (167, 1, .iload_n 3, 3, 0, 0, []),
  (168, 1, .iadd, 0, 0, 0, []),
  (169, 1, .aload_n 0, 0, 0, 0, []),
  (170, 3, .getfield 71, 11, 27, 0, [1061]),
  (173, 1, .iconst 4, 0, 0, 4, []),
  (174, 1, .iload_n 2, 2, 0, 0, []),
  (175, 1, .imul, 0, 0, 0, []),
  (176, 1, .iload_n 3, 3, 0, 0, []),
  (177, 1, .iadd, 0, 0, 0, []),
  (178, 1, .iaload, 0, 0, 0, []),
  (179, 1, .iastore, 0, 0, 0, []),
  (180, 3, .iinc 3 1, 3, 0, 1, []),
  (183, 3, .goto (-28), 90, 0, 0, []),
  (186, 3, .iinc 2 1, 2, 0, 1, []),
  (189, 3, .goto (-67), 67, 0, 0, []),
  (192, 1, .iload_n 1, 1, 0, 0, []),
  (193, 1, .ireturn, 0, 0, 0, [])])
def tw_M198 : tw_Meth := (yX12_floatOf, cX12_floatOf, 5, (some .int), 1, 11, 1, [1213, 66, 1212, 33], [
  (0, 1, .iconst 0, 0, 0, 0, []),
  (1, 1, .istore_n 2, 2, 0, 0, []),
  (2, 1, .iconst 0, 0, 0, 0, []),
  (3, 1, .istore_n 3, 3, 0, 0, []),
  (4, 1, .iconst 0, 0, 0, 0, []),
  (5, 2, .istore 4, 4, 0, 0, []),
  (7, 2, .iload 4, 4, 0, 0, []),
  (9, 1, .aload_n 0, 0, 0, 0, []),
  (10, 3, .getfield 17, 11, 2, 0, [1036]),
  (13, 1, .iconst 0, 0, 0, 0, []),
  (14, 1, .iaload, 0, 0, 0, []),
  (15, 3, .if_icmp .ge 38, 33, 0, 0, []),
  (18, 1, .aload_n 0, 0, 0, 0, []),
  (19, 3, .getfield 41, 11, 10, 0, [1044]),
  (22, 2, .bipush 10, 0, 0, 10, []),
  (24, 2, .iload 4, 4, 0, 0, []),
  (26, 1, .imul, 0, 0, 0, []),
  (27, 1, .iload_n 1, 1, 0, 0, []),
  (28, 1, .iadd, 0, 0, 0, []),
  (29, 1, .iaload, 0, 0, 0, []),
  (30, 3, .ifCond .ne 9, 25, 0, 0, []),
  (33, 1, .iload_n 3, 3, 0, 0, []),
  (34, 1, .iconst 1, 0, 0, 1, []),
  (35, 1, .iadd, 0, 0, 0, []),
  (36, 3, .goto 4, 26, 0, 0, []),
  (39, 1, .iconst 0, 0, 0, 0, []),
  (40, 1, .istore_n 3, 3, 0, 0, []),
  (41, 1, .iload_n 2, 2, 0, 0, []),
  (42, 1, .iload_n 3, 3, 0, 0, []),
  (43, 3, .invokestatic 155, 262, 2, 0, [1214, 0]),
  (46, 1, .istore_n 2, 2, 0, 0, []),
  (47, 3, .iinc 4 1, 4, 0, 1, []),
  (50, 3, .goto (-43), 6, 0, 0, []),
  (53, 1, .iload_n 2, 2, 0, 0, []),
  (54, 1, .ireturn, 0, 0, 0, [])])
def tw_M199 : tw_Meth := (yX12_card, cX12_card, 3, (some .int), 1, 11, 2, [1205, 66, 1203, 1204], [
  (0, 1, .aload_n 0, 0, 0, 0, []),
  (1, 1, .iload_n 1, 1, 0, 0, []),
  (2, 3, .invokevirtual 161, 184, 1, 0, [1206, 0]),
  (5, 3, .ifCond .eq 13, 9, 0, 0, []),
  (8, 1, .iload_n 2, 2, 0, 0, []),
  (9, 1, .iconst 0, 0, 0, 0, []),
  (10, 2, .bipush 8, 0, 0, 8, []),
  (12, 3, .invokestatic 108, 182, 3, 0, [1163, 0]),
  (15, 3, .ifCond .ne 5, 11, 0, 0, []),
  (18, 1, .iconst (-1), 0, 0, (-1), []),
  (19, 1, .ireturn, 0, 0, 0, []),
  (20, 1, .iload_n 2, 2, 0, 0, []),
  (21, 35, .tableswitch 78 4 8 #[35, 42, 49, 59, 65], 43, 8, 4, [13, 18, 23, 30, 34]),
  (56, 1, .aload_n 0, 0, 0, 0, []),
  (57, 3, .getfield 23, 11, 4, 0, [1038]),
  (60, 1, .iload_n 1, 1, 0, 0, []),
  (61, 1, .iaload, 0, 0, 0, []),
  (62, 1, .ireturn, 0, 0, 0, []),
  (63, 1, .aload_n 0, 0, 0, 0, []),
  (64, 3, .getfield 26, 11, 5, 0, [1039]),
  (67, 1, .iload_n 1, 1, 0, 0, []),
  (68, 1, .iaload, 0, 0, 0, []),
  (69, 1, .ireturn, 0, 0, 0, []),
  (70, 1, .aload_n 0, 0, 0, 0, []),
  (71, 3, .getfield 29, 11, 6, 0, [1040]),
  (74, 1, .iload_n 1, 1, 0, 0, []),
  (75, 1, .iaload, 0, 0, 0, []),
  (76, 2, .bipush 100, 0, 0, 100, []),
  (78, 1, .iadd, 0, 0, 0, []),
  (79, 1, .ireturn, 0, 0, 0, []),
  (80, 1, .aload_n 0, 0, 0, 0, []),
  (81, 1, .iload_n 1, 1, 0, 0, []),
  (82, 3, .invokevirtual 165, 198, 1, 0, [1210, 0]),
  (85, 1, .ireturn, 0, 0, 0, []),
  (86, 1, .aload_n 0, 0, 0, 0, []),
  (87, 1, .iconst 0, 0, 0, 0, []),
  (88, 1, .iload_n 1, 1, 0, 0, []),
  (89, 1, .aload_n 0, 0, 0, 0, []),
  (90, 3, .getfield 17, 11, 2, 0, [1036]),
  (93, 1, .iconst 0, 0, 0, 0, []),
  (94, 1, .iaload, 0, 0, 0, []),
  (95, 3, .invokevirtual 148, 195, 3, 0, [1215, 0]),
  (98, 1, .ireturn, 0, 0, 0, []),
  (99, 1, .aload_n 0, 0, 0, 0, []),
  (100, 3, .getfield 20, 11, 3, 0, [1037]),
  (103, 1, .iconst 4, 0, 0, 4, []),
  (104, 1, .iload_n 1, 1, 0, 0, []),
  (105, 1, .imul, 0, 0, 0, []),
  (106, 1, .iload_n 2, 2, 0, 0, []),
  (107, 1, .iadd, 0, 0, 0, []),
  (108, 1, .iaload, 0, 0, 0, []),
  (109, 1, .ireturn, 0, 0, 0, [])])
def tw_M200 : tw_Meth := (yX12_slant, cX12_slant, 2, (some .int), 1, 11, 1, [1222, 66, 1220, 1221], [
  (0, 1, .aload_n 0, 0, 0, 0, []),
  (1, 1, .iload_n 1, 1, 0, 0, []),
  (2, 3, .invokevirtual 161, 184, 1, 0, [1206, 0]),
  (5, 3, .ifCond .ne 5, 6, 0, 0, []),
  (8, 1, .iconst (-1), 0, 0, (-1), []),
  (9, 1, .ireturn, 0, 0, 0, []),
  (10, 1, .aload_n 0, 0, 0, 0, []),
  (11, 3, .getfield 23, 11, 4, 0, [1038]),
  (14, 1, .iload_n 1, 1, 0, 0, []),
  (15, 1, .iconst 1, 0, 0, 1, []),
  (16, 1, .aload_n 0, 0, 0, 0, []),
  (17, 3, .getfield 23, 11, 4, 0, [1038]),
  (20, 1, .iload_n 1, 1, 0, 0, []),
  (21, 1, .iaload, 0, 0, 0, []),
  (22, 1, .isub, 0, 0, 0, []),
  (23, 1, .iastore, 0, 0, 0, []),
  (24, 1, .aload_n 0, 0, 0, 0, []),
  (25, 3, .getfield 23, 11, 4, 0, [1038]),
  (28, 1, .iload_n 1, 1, 0, 0, []),
  (29, 1, .iaload, 0, 0, 0, []),
  (30, 1, .ireturn, 0, 0, 0, [])])
def tw_M201 : tw_Meth := (yX12_place, cX12_place, 4, (some .int), 1, 11, 2, [1226, 66, 1224, 1225], [
  (0, 1, .aload_n 0, 0, 0, 0, []),
  (1, 1, .iload_n 1, 1, 0, 0, []),
  (2, 3, .invokevirtual 161, 184, 1, 0, [1206, 0]),
  (5, 3, .ifCond .ne 5, 6, 0, 0, []),
  (8, 1, .iconst (-1), 0, 0, (-1), []),
  (9, 1, .ireturn, 0, 0, 0, []),
  (10, 1, .iload_n 2, 2, 0, 0, []),
  (11, 1, .iconst 0, 0, 0, 0, []),
  (12, 1, .iconst 3, 0, 0, 3, []),
  (13, 3, .invokestatic 108, 182, 3, 0, [1163, 0]),
  (16, 3, .ifCond .ne 6, 13, 0, 0, []),
  (19, 2, .bipush (-2), 0, 0, (-2), []),
  (21, 1, .ireturn, 0, 0, 0, []),
  (22, 1, .aload_n 0, 0, 0, 0, []),
  (23, 3, .getfield 26, 11, 5, 0, [1039]),
  (26, 1, .iload_n 1, 1, 0, 0, []),
  (27, 1, .iaload, 0, 0, 0, []),
  (28, 1, .istore_n 3, 3, 0, 0, []),
  (29, 1, .aload_n 0, 0, 0, 0, []),
  (30, 3, .getfield 26, 11, 5, 0, [1039]),
  (33, 1, .iload_n 1, 1, 0, 0, []),
  (34, 1, .iload_n 2, 2, 0, 0, []),
  (35, 1, .iastore, 0, 0, 0, []),
  (36, 1, .iload_n 3, 3, 0, 0, []),
  (37, 1, .ireturn, 0, 0, 0, [])])
def tw_M202 : tw_Meth := (yX12_recolour, cX12_recolour, 5, (some .int), 1, 11, 3, [1230, 66, 1228, 1229], [
  (0, 1, .aload_n 0, 0, 0, 0, []),
  (1, 1, .iload_n 1, 1, 0, 0, []),
  (2, 3, .invokevirtual 161, 184, 1, 0, [1206, 0]),
  (5, 3, .ifCond .eq 12, 9, 0, 0, []),
  (8, 1, .iload_n 2, 2, 0, 0, []),
  (9, 1, .iconst 0, 0, 0, 0, []),
  (10, 1, .iconst 3, 0, 0, 3, []),
  (11, 3, .invokestatic 108, 182, 3, 0, [1163, 0]),
  (14, 3, .ifCond .ne 5, 11, 0, 0, []),
  (17, 1, .iconst (-1), 0, 0, (-1), []),
  (18, 1, .ireturn, 0, 0, 0, []),
  (19, 1, .iload_n 3, 3, 0, 0, []),
  (20, 3, .invokestatic 168, 186, 1, 0, [1231, 0]),
  (23, 3, .ifCond .ne 6, 16, 0, 0, []),
  (26, 2, .bipush (-2), 0, 0, (-2), []),
  (28, 1, .ireturn, 0, 0, 0, []),
  (29, 1, .aload_n 0, 0, 0, 0, []),
  (30, 3, .getfield 20, 11, 3, 0, [1037]),
  (33, 1, .iconst 4, 0, 0, 4, []),
  (34, 1, .iload_n 1, 1, 0, 0, []),
  (35, 1, .imul, 0, 0, 0, []),
  (36, 1, .iload_n 2, 2, 0, 0, []),
  (37, 1, .iadd, 0, 0, 0, []),
  (38, 1, .iaload, 0, 0, 0, []),
  (39, 2, .istore 4, 4, 0, 0, []),
  (41, 1, .aload_n 0, 0, 0, 0, []),
  (42, 3, .getfield 20, 11, 3, 0, [1037]),
  (45, 1, .iconst 4, 0, 0, 4, []),
  (46, 1, .iload_n 1, 1, 0, 0, []),
  (47, 1, .imul, 0, 0, 0, []),
  (48, 1, .iload_n 2, 2, 0, 0, []),
  (49, 1, .iadd, 0, 0, 0, []),
  (50, 1, .iload_n 3, 3, 0, 0, []),
  (51, 1, .iastore, 0, 0, 0, []),
  (52, 2, .iload 4, 4, 0, 0, []),
  (54, 1, .ireturn, 0, 0, 0, [])])
def tw_M203 : tw_Meth := (yX12_moved, cX12_moved, 1, (some .int), 0, 11, 1, [1259, 66, 1258], [
  (0, 1, .iload_n 0, 0, 0, 0, []),
  (1, 1, .iconst 1, 0, 0, 1, []),
  (2, 3, .if_icmp .ne 7, 5, 0, 0, []),
  (5, 1, .iconst 1, 0, 0, 1, []),
  (6, 3, .goto 22, 16, 0, 0, []),
  (9, 1, .iload_n 0, 0, 0, 0, []),
  (10, 1, .iconst 2, 0, 0, 2, []),
  (11, 3, .if_icmp .ne 7, 10, 0, 0, []),
  (14, 1, .iconst 3, 0, 0, 3, []),
  (15, 3, .goto 13, 16, 0, 0, []),
  (18, 1, .iload_n 0, 0, 0, 0, []),
  (19, 1, .iconst 3, 0, 0, 3, []),
  (20, 3, .if_icmp .ne 7, 15, 0, 0, []),
  (23, 1, .iconst 2, 0, 0, 2, []),
  (24, 3, .goto 4, 16, 0, 0, []),
  (27, 1, .iconst 0, 0, 0, 0, []),
  (28, 1, .ireturn, 0, 0, 0, [])])
def tw_M204 : tw_Meth := (yX12_grown, cX12_grown, 1, (some .int), 0, 11, 1, [1252, 66, 1251], [
  (0, 1, .iload_n 0, 0, 0, 0, []),
  (1, 1, .iconst 1, 0, 0, 1, []),
  (2, 3, .if_icmp .ne 7, 5, 0, 0, []),
  (5, 1, .iconst 1, 0, 0, 1, []),
  (6, 3, .goto 22, 16, 0, 0, []),
  (9, 1, .iload_n 0, 0, 0, 0, []),
  (10, 1, .iconst 2, 0, 0, 2, []),
  (11, 3, .if_icmp .ne 7, 10, 0, 0, []),
  (14, 1, .iconst (-1), 0, 0, (-1), []),
  (15, 3, .goto 13, 16, 0, 0, []),
  (18, 1, .iload_n 0, 0, 0, 0, []),
  (19, 1, .iconst 3, 0, 0, 3, []),
  (20, 3, .if_icmp .ne 7, 15, 0, 0, []),
  (23, 1, .iconst 2, 0, 0, 2, []),
  (24, 3, .goto 4, 16, 0, 0, []),
  (27, 1, .iconst 0, 0, 0, 0, []),
  (28, 1, .ireturn, 0, 0, 0, [])])
def tw_M205 : tw_Meth := (yX12_jams, cX12_jams, 2, (some .boolean), 1, 11, 0, [1249, 66, 1248, 37], [
  (0, 1, .iconst 0, 0, 0, 0, []),
  (1, 1, .istore_n 1, 1, 0, 0, []),
  (2, 1, .iload_n 1, 1, 0, 0, []),
  (3, 1, .aload_n 0, 0, 0, 0, []),
  (4, 3, .getfield 13, 11, 1, 0, [1035]),
  (7, 1, .iconst 0, 0, 0, 0, []),
  (8, 1, .iaload, 0, 0, 0, []),
  (9, 3, .if_icmp .ge 37, 26, 0, 0, []),
  (12, 1, .aload_n 0, 0, 0, 0, []),
  (13, 3, .getfield 29, 11, 6, 0, [1040]),
  (16, 1, .iload_n 1, 1, 0, 0, []),
  (17, 1, .iaload, 0, 0, 0, []),
  (18, 1, .aload_n 0, 0, 0, 0, []),
  (19, 3, .getfield 77, 11, 29, 0, [1063]),
  (22, 1, .iload_n 1, 1, 0, 0, []),
  (23, 1, .iaload, 0, 0, 0, []),
  (24, 3, .invokestatic 171, 204, 1, 0, [1250, 0]),
  (27, 1, .iadd, 0, 0, 0, []),
  (28, 2, .bipush (-99), 0, 0, (-99), []),
  (30, 2, .bipush 99, 0, 0, 99, []),
  (32, 3, .invokestatic 108, 182, 3, 0, [1163, 0]),
  (35, 3, .ifCond .ne 5, 24, 0, 0, []),
  (38, 1, .iconst 1, 0, 0, 1, []),
  (39, 1, .ireturn, 1, 0, 0, []),
  (40, 3, .iinc 1 1, 1, 0, 1, []),
  (43, 3, .goto (-41), 2, 0, 0, []),
  (46, 1, .iconst 0, 0, 0, 0, []),
  (47, 1, .ireturn, 1, 0, 0, [])])
def tw_M206 : tw_Meth := (yX12_weavePick, cX12_weavePick, 4, none, 1, 11, 0, [1256, 66, 1255, 38], [
  (0, 1, .aload_n 0, 0, 0, 0, []),
  (1, 3, .getfield 17, 11, 2, 0, [1036]),
  (4, 1, .iconst 0, 0, 0, 0, []),
  (5, 1, .iaload, 0, 0, 0, []),
  (6, 1, .istore_n 1, 1, 0, 0, []),
  (7, 1, .iconst 0, 0, 0, 0, []),
  (8, 1, .istore_n 2, 2, 0, 0, []),
  (9, 1, .iload_n 2, 2, 0, 0, []),
  (10, 1, .aload_n 0, 0, 0, 0, []),
  (11, 3, .getfield 13, 11, 1, 0, [1035]),
  (14, 1, .iconst 0, 0, 0, 0, []),
  (15, 1, .iaload, 0, 0, 0, []),
  (16, 3, .if_icmp .ge 176, 128, 0, 0, []),
  (19, 1, .aload_n 0, 0, 0, 0, []),
  (20, 3, .getfield 77, 11, 29, 0, [1063]),
  (23, 1, .iload_n 2, 2, 0, 0, []),
  (24, 1, .iaload, 0, 0, 0, []),
  (25, 1, .istore_n 3, 3, 0, 0, []),
  (26, 1, .aload_n 0, 0, 0, 0, []),
  (27, 3, .getfield 26, 11, 5, 0, [1039]),
  (30, 1, .iload_n 2, 2, 0, 0, []),
  (31, 1, .aload_n 0, 0, 0, 0, []),
  (32, 3, .getfield 26, 11, 5, 0, [1039]),
  (35, 1, .iload_n 2, 2, 0, 0, []),
  (36, 1, .iaload, 0, 0, 0, []),
  (37, 1, .iload_n 3, 3, 0, 0, []),
  (38, 3, .invokestatic 174, 203, 1, 0, [1257, 0]),
  (41, 1, .iadd, 0, 0, 0, []),
  (42, 1, .iconst 4, 0, 0, 4, []),
  (43, 1, .irem, 0, 0, 0, []),
  (44, 1, .iastore, 0, 0, 0, []),
  (45, 1, .aload_n 0, 0, 0, 0, []),
  (46, 3, .getfield 29, 11, 6, 0, [1040]),
  (49, 1, .iload_n 2, 2, 0, 0, []),
  (50, 1, .dup2, 0, 0, 0, []),
  (51, 1, .iaload, 0, 0, 0, []),
  (52, 1, .iload_n 3, 3, 0, 0, []),
  (53, 3, .invokestatic 171, 204, 1, 0, [1250, 0]),
  (56, 1, .iadd, 0, 0, 0, []),
  (57, 1, .iastore, 0, 0, 0, []),
  (58, 1, .aload_n 0, 0, 0, 0, []),
  (59, 3, .getfield 41, 11, 10, 0, [1044]),
  (62, 2, .bipush 10, 0, 0, 10, []),
  (64, 1, .iload_n 1, 1, 0, 0, []),
  (65, 1, .imul, 0, 0, 0, []),
  (66, 1, .iload_n 2, 2, 0, 0, []),
  (67, 1, .iadd, 0, 0, 0, []),
  (68, 1, .iload_n 3, 3, 0, 0, []),
  (69, 1, .iastore, 0, 0, 0, []),
  (70, 1, .aload_n 0, 0, 0, 0, []),
  (71, 3, .getfield 32, 11, 7, 0, [1041]),
  (74, 2, .bipush 10, 0, 0, 10, []),
  (76, 1, .iload_n 1, 1, 0, 0, []),
  (77, 1, .imul, 0, 0, 0, []),
  (78, 1, .iload_n 2, 2, 0, 0, []),
  (79, 1, .iadd, 0, 0, 0, []),
  (80, 1, .aload_n 0, 0, 0, 0, []),
  (81, 3, .getfield 20, 11, 3, 0, [1037]),
  (84, 1, .iconst 4, 0, 0, 4, []),
  (85, 1, .iload_n 2, 2, 0, 0, []),
  (86, 1, .imul, 0, 0, 0, []),
  (87, 1, .aload_n 0, 0, 0, 0, []),
  (88, 3, .getfield 26, 11, 5, 0, [1039]),
  (91, 1, .iload_n 2, 2, 0, 0, []),
  (92, 1, .iaload, 0, 0, 0, []),
  (93, 1, .iadd, 0, 0, 0, []),
  (94, 1, .iaload, 0, 0, 0, []),
  (95, 1, .iastore, 0, 0, 0, []),
  (96, 1, .aload_n 0, 0, 0, 0, []),
  (97, 3, .getfield 35, 11, 8, 0, [1042]),
  (100, 2, .bipush 10, 0, 0, 10, []),
  (102, 1, .iload_n 1, 1, 0, 0, []),
  (103, 1, .imul, 0, 0, 0, []),
  (104, 1, .iload_n 2, 2, 0, 0, []),
  (105, 1, .iadd, 0, 0, 0, []),
  (106, 1, .aload_n 0, 0, 0, 0, []),
  (107, 3, .getfield 20, 11, 3, 0, [1037]),
  (110, 1, .iconst 4, 0, 0, 4, []),
  (111, 1, .iload_n 2, 2, 0, 0, []),
  (112, 1, .imul, 0, 0, 0, []),
  (113, 1, .aload_n 0, 0, 0, 0, []),
  (114, 3, .getfield 26, 11, 5, 0, [1039]),
  (117, 1, .iload_n 2, 2, 0, 0, []),
  (118, 1, .iaload, 0, 0, 0, []),
  (119, 1, .iconst 2, 0, 0, 2, []),
  (120, 1, .iadd, 0, 0, 0, []),
  (121, 1, .iconst 4, 0, 0, 4, []),
  (122, 1, .irem, 0, 0, 0, []),
  (123, 1, .iadd, 0, 0, 0, []),
  (124, 1, .iaload, 0, 0, 0, []),
  (125, 1, .iastore, 0, 0, 0, []),
  (126, 1, .aload_n 0, 0, 0, 0, []),
  (127, 3, .getfield 38, 11, 9, 0, [1043]),
  (130, 2, .bipush 10, 0, 0, 10, []),
  (132, 1, .iload_n 1, 1, 0, 0, []),
  (133, 1, .imul, 0, 0, 0, []),
  (134, 1, .iload_n 2, 2, 0, 0, []),
  (135, 1, .iadd, 0, 0, 0, []),
  (136, 1, .iload_n 3, 3, 0, 0, []),
  (137, 3, .ifCond .ne 7, 102, 0, 0, []),
  (140, 1, .iconst 0, 0, 0, 0, []),
  (141, 3, .goto 44, 125, 0, 0, []),
  (144, 1, .iload_n 3, 3, 0, 0, []),
  (145, 1, .iconst 3, 0, 0, 3, []),
  (146, 3, .if_icmp .ne 7, 107, 0, 0, []),
  (149, 1, .iconst 3, 0, 0, 3, []),
  (150, 3, .goto 35, 125, 0, 0, []),
  (153, 1, .iload_n 3, 3, 0, 0, []),
  (154, 1, .iconst 1, 0, 0, 1, []),
  (155, 3, .if_icmp .ne 7, 112, 0, 0, []),
  (158, 1, .iconst 1, 0, 0, 1, []),
  (159, 3, .goto 4, 113, 0, 0, []),
  (162, 1, .iconst 0, 0, 0, 0, []),
  (163, 1, .aload_n 0, 0, 0, 0, []),
  (164, 3, .getfield 23, 11, 4, 0, [1038]),
  (167, 1, .iload_n 2, 2, 0, 0, []),
  (168, 1, .iaload, 0, 0, 0, []),
  (169, 3, .ifCond .ne 7, 120, 0, 0, []),
  (172, 1, .iconst 1, 0, 0, 1, []),
  (173, 3, .goto 4, 121, 0, 0, []),
  (176, 1, .iconst 0, 0, 0, 0, []),
  (177, 3, .if_icmp .ne 7, 124, 0, 0, []),
  (180, 1, .iconst 1, 0, 0, 1, []),
  (181, 3, .goto 4, 125, 0, 0, []),
  (184, 1, .iconst 2, 0, 0, 2, []),
  (185, 1, .iastore, 0, 0, 0, []),
  (186, 3, .iinc 2 1, 2, 0, 1, []),
  (189, 3, .goto (-180), 7, 0, 0, []),
  (192, 1, .aload_n 0, 0, 0, 0, []),
  (193, 3, .getfield 17, 11, 2, 0, [1036]),
  (196, 1, .iconst 0, 0, 0, 0, []),
  (197, 1, .dup2, 0, 0, 0, []),
  (198, 1, .iaload, 0, 0, 0, []),
  (199, 1, .iconst 1, 0, 0, 1, []),
  (200, 1, .iadd, 0, 0, 0, []),
  (201, 1, .iastore, 0, 0, 0, []),
  (202, 1, .return_, 0, 0, 0, [])])
def tw_M207 : tw_Meth := (yX12_pick, cX12_pick, 1, (some .int), 1, 11, 0, [1245, 66, 1244, 36], [
  (0, 1, .aload_n 0, 0, 0, 0, []),
  (1, 3, .getfield 17, 11, 2, 0, [1036]),
  (4, 1, .iconst 0, 0, 0, 0, []),
  (5, 1, .iaload, 0, 0, 0, []),
  (6, 2, .bipush 50, 0, 0, 50, []),
  (8, 3, .if_icmp .ne 6, 8, 0, 0, []),
  (11, 2, .bipush (-4), 0, 0, (-4), []),
  (13, 1, .ireturn, 0, 0, 0, []),
  (14, 1, .aload_n 0, 0, 0, 0, []),
  (15, 3, .invokevirtual 177, 205, 0, 0, [1246, 0]),
  (18, 3, .ifCond .eq 6, 13, 0, 0, []),
  (21, 2, .bipush (-6), 0, 0, (-6), []),
  (23, 1, .ireturn, 0, 0, 0, []),
  (24, 1, .aload_n 0, 0, 0, 0, []),
  (25, 3, .invokevirtual 181, 206, 0, 0, [1253, 0]),
  (28, 1, .aload_n 0, 0, 0, 0, []),
  (29, 3, .getfield 17, 11, 2, 0, [1036]),
  (32, 1, .iconst 0, 0, 0, 0, []),
  (33, 1, .iaload, 0, 0, 0, []),
  (34, 1, .ireturn, 0, 0, 0, [])])
def tw_M208 : tw_Meth := (yX12_picked, cX12_picked, 4, (some .int), 1, 11, 2, [1241, 66, 1240, 35], [
  (0, 1, .iconst 0, 0, 0, 0, []),
  (1, 1, .istore_n 3, 3, 0, 0, []),
  (2, 1, .iload_n 3, 3, 0, 0, []),
  (3, 1, .aload_n 0, 0, 0, 0, []),
  (4, 3, .getfield 13, 11, 1, 0, [1035]),
  (7, 1, .iconst 0, 0, 0, 0, []),
  (8, 1, .iaload, 0, 0, 0, []),
  (9, 3, .if_icmp .ge 29, 24, 0, 0, []),
  (12, 1, .aload_n 0, 0, 0, 0, []),
  (13, 3, .getfield 77, 11, 29, 0, [1063]),
  (16, 1, .iload_n 3, 3, 0, 0, []),
  (17, 1, .iload_n 1, 1, 0, 0, []),
  (18, 1, .iload_n 3, 3, 0, 0, []),
  (19, 1, .ishr, 0, 0, 0, []),
  (20, 1, .iconst 1, 0, 0, 1, []),
  (21, 1, .iand, 0, 0, 0, []),
  (22, 1, .iconst 1, 0, 0, 1, []),
  (23, 3, .if_icmp .ne 7, 20, 0, 0, []),
  (26, 1, .iload_n 2, 2, 0, 0, []),
  (27, 3, .goto 4, 21, 0, 0, []),
  (30, 1, .iconst 0, 0, 0, 0, []),
  (31, 1, .iastore, 0, 0, 0, []),
  (32, 3, .iinc 3 1, 3, 0, 1, []),
  (35, 3, .goto (-33), 2, 0, 0, []),
  (38, 1, .aload_n 0, 0, 0, 0, []),
  (39, 3, .invokevirtual 184, 207, 0, 0, [1242, 0]),
  (42, 1, .ireturn, 0, 0, 0, [])])
def tw_M209 : tw_Meth := (yX12_turn, cX12_turn, 3, (some .int), 1, 11, 2, [1237, 66, 1235, 1236], [
  (0, 1, .aload_n 0, 0, 0, 0, []),
  (1, 1, .iload_n 1, 1, 0, 0, []),
  (2, 3, .invokevirtual 161, 184, 1, 0, [1206, 0]),
  (5, 3, .ifCond .ne 5, 6, 0, 0, []),
  (8, 1, .iconst (-1), 0, 0, (-1), []),
  (9, 1, .ireturn, 0, 0, 0, []),
  (10, 1, .iload_n 2, 2, 0, 0, []),
  (11, 1, .iconst 0, 0, 0, 0, []),
  (12, 1, .iconst 3, 0, 0, 3, []),
  (13, 3, .invokestatic 108, 182, 3, 0, [1163, 0]),
  (16, 3, .ifCond .eq 14, 18, 0, 0, []),
  (19, 1, .aload_n 0, 0, 0, 0, []),
  (20, 1, .iconst 1, 0, 0, 1, []),
  (21, 1, .iload_n 1, 1, 0, 0, []),
  (22, 1, .ishl, 0, 0, 0, []),
  (23, 1, .iload_n 2, 2, 0, 0, []),
  (24, 3, .invokevirtual 187, 208, 2, 0, [1238, 0]),
  (27, 3, .goto 5, 19, 0, 0, []),
  (30, 2, .bipush (-2), 0, 0, (-2), []),
  (32, 1, .ireturn, 0, 0, 0, [])])
def tw_M210 : tw_Meth := (yX12_pack, cX12_pack, 3, (some .int), 1, 11, 2, [1263, 66, 1261, 1262], [
  (0, 1, .iload_n 1, 1, 0, 0, []),
  (1, 1, .iconst 0, 0, 0, 0, []),
  (2, 1, .iconst 1, 0, 0, 1, []),
  (3, 1, .aload_n 0, 0, 0, 0, []),
  (4, 3, .getfield 13, 11, 1, 0, [1035]),
  (7, 1, .iconst 0, 0, 0, 0, []),
  (8, 1, .iaload, 0, 0, 0, []),
  (9, 1, .ishl, 0, 0, 0, []),
  (10, 1, .iconst 1, 0, 0, 1, []),
  (11, 1, .isub, 0, 0, 0, []),
  (12, 3, .invokestatic 108, 182, 3, 0, [1163, 0]),
  (15, 3, .ifCond .eq 12, 17, 0, 0, []),
  (18, 1, .iload_n 2, 2, 0, 0, []),
  (19, 1, .iconst 0, 0, 0, 0, []),
  (20, 1, .iconst 3, 0, 0, 3, []),
  (21, 3, .invokestatic 108, 182, 3, 0, [1163, 0]),
  (24, 3, .ifCond .ne 6, 19, 0, 0, []),
  (27, 2, .bipush (-2), 0, 0, (-2), []),
  (29, 1, .ireturn, 0, 0, 0, []),
  (30, 1, .aload_n 0, 0, 0, 0, []),
  (31, 3, .getfield 13, 11, 1, 0, [1035]),
  (34, 1, .iconst 0, 0, 0, 0, []),
  (35, 1, .iaload, 0, 0, 0, []),
  (36, 3, .ifCond .ne 8, 26, 0, 0, []),
  (39, 2, .bipush (-3), 0, 0, (-3), []),
  (41, 3, .goto 9, 30, 0, 0, []),
  (44, 1, .aload_n 0, 0, 0, 0, []),
  (45, 1, .iload_n 1, 1, 0, 0, []),
  (46, 1, .iload_n 2, 2, 0, 0, []),
  (47, 3, .invokevirtual 187, 208, 2, 0, [1238, 0]),
  (50, 1, .ireturn, 0, 0, 0, [])])
def tw_M211 : tw_Meth := (yX12_layLaw, cX12_layLaw, 3, none, 1, 11, 1, [1271, 66, 1270, 39], [
  (0, 1, .iconst 0, 0, 0, 0, []),
  (1, 1, .istore_n 2, 2, 0, 0, []),
  (2, 1, .iload_n 2, 2, 0, 0, []),
  (3, 1, .aload_n 0, 0, 0, 0, []),
  (4, 3, .getfield 13, 11, 1, 0, [1035]),
  (7, 1, .iconst 0, 0, 0, 0, []),
  (8, 1, .iaload, 0, 0, 0, []),
  (9, 3, .if_icmp .ge 22, 19, 0, 0, []),
  (12, 1, .aload_n 0, 0, 0, 0, []),
  (13, 3, .getfield 77, 11, 29, 0, [1063]),
  (16, 1, .iload_n 2, 2, 0, 0, []),
  (17, 1, .aload_n 0, 0, 0, 0, []),
  (18, 1, .iconst 0, 0, 0, 0, []),
  (19, 1, .iload_n 2, 2, 0, 0, []),
  (20, 1, .iload_n 1, 1, 0, 0, []),
  (21, 3, .invokevirtual 148, 195, 3, 0, [1215, 0]),
  (24, 1, .iastore, 0, 0, 0, []),
  (25, 3, .iinc 2 1, 2, 0, 1, []),
  (28, 3, .goto (-26), 2, 0, 0, []),
  (31, 1, .return_, 0, 0, 0, [])])
def tw_M212 : tw_Meth := (yX12_weave, cX12_weave, 3, (some .int), 1, 11, 1, [1267, 66, 1265, 1266], [
  (0, 1, .iload_n 1, 1, 0, 0, []),
  (1, 1, .iconst 1, 0, 0, 1, []),
  (2, 2, .bipush 50, 0, 0, 50, []),
  (4, 3, .invokestatic 108, 182, 3, 0, [1163, 0]),
  (7, 3, .ifCond .ne 6, 7, 0, 0, []),
  (10, 2, .bipush (-2), 0, 0, (-2), []),
  (12, 1, .ireturn, 0, 0, 0, []),
  (13, 1, .aload_n 0, 0, 0, 0, []),
  (14, 3, .getfield 13, 11, 1, 0, [1035]),
  (17, 1, .iconst 0, 0, 0, 0, []),
  (18, 1, .iaload, 0, 0, 0, []),
  (19, 3, .ifCond .ne 6, 14, 0, 0, []),
  (22, 2, .bipush (-3), 0, 0, (-3), []),
  (24, 1, .ireturn, 0, 0, 0, []),
  (25, 1, .iconst 0, 0, 0, 0, []),
  (26, 1, .istore_n 2, 2, 0, 0, []),
  (27, 1, .iload_n 2, 2, 0, 0, []),
  (28, 1, .iload_n 1, 1, 0, 0, []),
  (29, 3, .if_icmp .ge 28, 32, 0, 0, []),
  (32, 1, .aload_n 0, 0, 0, 0, []),
  (33, 1, .aload_n 0, 0, 0, 0, []),
  (34, 3, .getfield 17, 11, 2, 0, [1036]),
  (37, 1, .iconst 0, 0, 0, 0, []),
  (38, 1, .iaload, 0, 0, 0, []),
  (39, 3, .invokevirtual 190, 211, 1, 0, [1268, 0]),
  (42, 1, .aload_n 0, 0, 0, 0, []),
  (43, 3, .invokevirtual 184, 207, 0, 0, [1242, 0]),
  (46, 3, .ifCond .ge 5, 30, 0, 0, []),
  (49, 1, .iload_n 2, 2, 0, 0, []),
  (50, 1, .ireturn, 0, 0, 0, []),
  (51, 3, .iinc 2 1, 2, 0, 1, []),
  (54, 3, .goto (-27), 16, 0, 0, []),
  (57, 1, .iload_n 1, 1, 0, 0, []),
  (58, 1, .ireturn, 0, 0, 0, [])])
def tw_M213 : tw_Meth := (yX12_unweave, cX12_unweave, 5, (some .int), 1, 11, 1, [1275, 66, 1273, 1274], [
  (0, 1, .iload_n 1, 1, 0, 0, []),
  (1, 1, .iconst 1, 0, 0, 1, []),
  (2, 2, .bipush 50, 0, 0, 50, []),
  (4, 3, .invokestatic 108, 182, 3, 0, [1163, 0]),
  (7, 3, .ifCond .ne 6, 7, 0, 0, []),
  (10, 2, .bipush (-2), 0, 0, (-2), []),
  (12, 1, .ireturn, 0, 0, 0, []),
  (13, 1, .iconst 0, 0, 0, 0, []),
  (14, 1, .istore_n 2, 2, 0, 0, []),
  (15, 1, .iload_n 2, 2, 0, 0, []),
  (16, 1, .iload_n 1, 1, 0, 0, []),
  (17, 3, .if_icmp .ge 100, 73, 0, 0, []),
  (20, 1, .aload_n 0, 0, 0, 0, []),
  (21, 3, .getfield 17, 11, 2, 0, [1036]),
  (24, 1, .iconst 0, 0, 0, 0, []),
  (25, 1, .iaload, 0, 0, 0, []),
  (26, 3, .ifCond .le 91, 73, 0, 0, []),
  (29, 1, .aload_n 0, 0, 0, 0, []),
  (30, 3, .getfield 17, 11, 2, 0, [1036]),
  (33, 1, .iconst 0, 0, 0, 0, []),
  (34, 1, .dup2, 0, 0, 0, []),
  (35, 1, .iaload, 0, 0, 0, []),
  (36, 1, .iconst 1, 0, 0, 1, []),
  (37, 1, .isub, 0, 0, 0, []),
  (38, 1, .iastore, 0, 0, 0, []),
  (39, 1, .iconst 0, 0, 0, 0, []),
  (40, 1, .istore_n 3, 3, 0, 0, []),
  (41, 1, .iload_n 3, 3, 0, 0, []),
  (42, 1, .aload_n 0, 0, 0, 0, []),
  (43, 3, .getfield 13, 11, 1, 0, [1035]),
  (46, 1, .iconst 0, 0, 0, 0, []),
  (47, 1, .iaload, 0, 0, 0, []),
  (48, 3, .if_icmp .ge 63, 71, 0, 0, []),
  (51, 1, .aload_n 0, 0, 0, 0, []),
  (52, 3, .getfield 41, 11, 10, 0, [1044]),
  (55, 2, .bipush 10, 0, 0, 10, []),
  (57, 1, .aload_n 0, 0, 0, 0, []),
  (58, 3, .getfield 17, 11, 2, 0, [1036]),
  (61, 1, .iconst 0, 0, 0, 0, []),
  (62, 1, .iaload, 0, 0, 0, []),
  (63, 1, .imul, 0, 0, 0, []),
  (64, 1, .iload_n 3, 3, 0, 0, []),
  (65, 1, .iadd, 0, 0, 0, []),
  (66, 1, .iaload, 0, 0, 0, []),
  (67, 2, .istore 4, 4, 0, 0, []),
  (69, 1, .aload_n 0, 0, 0, 0, []),
  (70, 3, .getfield 26, 11, 5, 0, [1039]),
  (73, 1, .iload_n 3, 3, 0, 0, []),
  (74, 1, .aload_n 0, 0, 0, 0, []),
  (75, 3, .getfield 26, 11, 5, 0, [1039]),
  (78, 1, .iload_n 3, 3, 0, 0, []),
  (79, 1, .iaload, 0, 0, 0, []),
  (80, 1, .iconst 4, 0, 0, 4, []),
  (81, 1, .iadd, 0, 0, 0, []),
  (82, 2, .iload 4, 4, 0, 0, []),
  (84, 3, .invokestatic 174, 203, 1, 0, [1257, 0]),
  (87, 1, .isub, 0, 0, 0, []),
  (88, 1, .iconst 4, 0, 0, 4, []),
  (89, 1, .irem, 0, 0, 0, []),
  (90, 1, .iastore, 0, 0, 0, []),
  (91, 1, .aload_n 0, 0, 0, 0, []),
  (92, 3, .getfield 29, 11, 6, 0, [1040]),
  (95, 1, .iload_n 3, 3, 0, 0, []),
  (96, 1, .dup2, 0, 0, 0, []),
  (97, 1, .iaload, 0, 0, 0, []),
  (98, 2, .iload 4, 4, 0, 0, []),
  (100, 3, .invokestatic 171, 204, 1, 0, [1250, 0]),
  (103, 1, .isub, 0, 0, 0, []),
  (104, 1, .iastore, 0, 0, 0, []),
  (105, 3, .iinc 3 1, 3, 0, 1, []),
  (108, 3, .goto (-67), 27, 0, 0, []),
  (111, 3, .iinc 2 1, 2, 0, 1, []),
  (114, 3, .goto (-99), 9, 0, 0, []),
  (117, 1, .iload_n 2, 2, 0, 0, []),
  (118, 1, .ireturn, 0, 0, 0, [])])
def tw_M214 : tw_Meth := (yX12_asked, cX12_asked, 4, (some .int), 1, 11, 3, [1283, 66, 1282, 40], [
  (0, 1, .aload_n 0, 0, 0, 0, []),
  (1, 1, .iload_n 2, 2, 0, 0, []),
  (2, 3, .invokevirtual 193, 185, 1, 0, [1284, 0]),
  (5, 3, .ifCond .eq 22, 16, 0, 0, []),
  (8, 1, .aload_n 0, 0, 0, 0, []),
  (9, 1, .iload_n 3, 3, 0, 0, []),
  (10, 3, .invokevirtual 161, 184, 1, 0, [1206, 0]),
  (13, 3, .ifCond .eq 14, 16, 0, 0, []),
  (16, 1, .aload_n 1, 1, 0, 0, []),
  (17, 2, .bipush 10, 0, 0, 10, []),
  (19, 1, .iload_n 2, 2, 0, 0, []),
  (20, 1, .imul, 0, 0, 0, []),
  (21, 1, .iload_n 3, 3, 0, 0, []),
  (22, 1, .iadd, 0, 0, 0, []),
  (23, 1, .iaload, 0, 0, 0, []),
  (24, 3, .goto 4, 17, 0, 0, []),
  (27, 1, .iconst (-1), 0, 0, (-1), []),
  (28, 1, .ireturn, 0, 0, 0, [])])
def tw_M215 : tw_Meth := (yX12_front, cX12_front, 3, (some .int), 1, 11, 2, [1279, 66, 1277, 1278], [
  (0, 1, .aload_n 0, 0, 0, 0, []),
  (1, 1, .aload_n 0, 0, 0, 0, []),
  (2, 3, .getfield 32, 11, 7, 0, [1041]),
  (5, 1, .iload_n 1, 1, 0, 0, []),
  (6, 1, .iload_n 2, 2, 0, 0, []),
  (7, 3, .invokevirtual 196, 214, 3, 0, [1280, 0]),
  (10, 1, .ireturn, 0, 0, 0, [])])
def tw_M216 : tw_Meth := (yX12_back, cX12_back, 3, (some .int), 1, 11, 2, [1291, 66, 1289, 1290], [
  (0, 1, .aload_n 0, 0, 0, 0, []),
  (1, 1, .aload_n 0, 0, 0, 0, []),
  (2, 3, .getfield 35, 11, 8, 0, [1042]),
  (5, 1, .iload_n 1, 1, 0, 0, []),
  (6, 1, .iload_n 2, 2, 0, 0, []),
  (7, 3, .invokevirtual 196, 214, 3, 0, [1280, 0]),
  (10, 1, .ireturn, 0, 0, 0, [])])
def tw_M217 : tw_Meth := (yX12_lean, cX12_lean, 3, (some .int), 1, 11, 2, [1295, 66, 1293, 1294], [
  (0, 1, .aload_n 0, 0, 0, 0, []),
  (1, 1, .aload_n 0, 0, 0, 0, []),
  (2, 3, .getfield 38, 11, 9, 0, [1043]),
  (5, 1, .iload_n 1, 1, 0, 0, []),
  (6, 1, .iload_n 2, 2, 0, 0, []),
  (7, 3, .invokevirtual 196, 214, 3, 0, [1280, 0]),
  (10, 1, .ireturn, 0, 0, 0, [])])
def tw_M218 : tw_Meth := (yX12_turning, cX12_turning, 3, (some .int), 1, 11, 2, [1299, 66, 1297, 1298], [
  (0, 1, .aload_n 0, 0, 0, 0, []),
  (1, 1, .aload_n 0, 0, 0, 0, []),
  (2, 3, .getfield 41, 11, 10, 0, [1044]),
  (5, 1, .iload_n 1, 1, 0, 0, []),
  (6, 1, .iload_n 2, 2, 0, 0, []),
  (7, 3, .invokevirtual 196, 214, 3, 0, [1280, 0]),
  (10, 1, .ireturn, 0, 0, 0, [])])
def tw_M219 : tw_Meth := (yX12_begins, cX12_begins, 2, none, 1, 11, 0, [1307, 66, 1306, 42], [
  (0, 1, .iconst 0, 0, 0, 0, []),
  (1, 1, .istore_n 1, 1, 0, 0, []),
  (2, 1, .iload_n 1, 1, 0, 0, []),
  (3, 1, .aload_n 0, 0, 0, 0, []),
  (4, 3, .getfield 13, 11, 1, 0, [1035]),
  (7, 1, .iconst 0, 0, 0, 0, []),
  (8, 1, .iaload, 0, 0, 0, []),
  (9, 3, .if_icmp .ge 33, 26, 0, 0, []),
  (12, 1, .aload_n 0, 0, 0, 0, []),
  (13, 3, .getfield 80, 11, 30, 0, [1064]),
  (16, 1, .iload_n 1, 1, 0, 0, []),
  (17, 1, .aload_n 0, 0, 0, 0, []),
  (18, 3, .getfield 26, 11, 5, 0, [1039]),
  (21, 1, .iload_n 1, 1, 0, 0, []),
  (22, 1, .iaload, 0, 0, 0, []),
  (23, 1, .iastore, 0, 0, 0, []),
  (24, 1, .aload_n 0, 0, 0, 0, []),
  (25, 3, .getfield 83, 11, 31, 0, [1065]),
  (28, 1, .iload_n 1, 1, 0, 0, []),
  (29, 1, .aload_n 0, 0, 0, 0, []),
  (30, 3, .getfield 29, 11, 6, 0, [1040]),
  (33, 1, .iload_n 1, 1, 0, 0, []),
  (34, 1, .iaload, 0, 0, 0, []),
  (35, 1, .iastore, 0, 0, 0, []),
  (36, 3, .iinc 1 1, 1, 0, 1, []),
  (39, 3, .goto (-37), 2, 0, 0, []),
  (42, 1, .return_, 0, 0, 0, [])])
def tw_M220 : tw_Meth := (yX12_mind, cX12_mind, 3, (some .boolean), 1, 11, 1, [1311, 66, 1310, 43], [
  (0, 1, .aload_n 0, 0, 0, 0, []),
  (1, 1, .aload_n 0, 0, 0, 0, []),
  (2, 3, .getfield 17, 11, 2, 0, [1036]),
  (5, 1, .iconst 0, 0, 0, 0, []),
  (6, 1, .iaload, 0, 0, 0, []),
  (7, 1, .iload_n 1, 1, 0, 0, []),
  (8, 1, .iadd, 0, 0, 0, []),
  (9, 1, .iconst 1, 0, 0, 1, []),
  (10, 1, .isub, 0, 0, 0, []),
  (11, 3, .invokevirtual 190, 211, 1, 0, [1268, 0]),
  (14, 1, .iconst 0, 0, 0, 0, []),
  (15, 1, .istore_n 2, 2, 0, 0, []),
  (16, 1, .iload_n 2, 2, 0, 0, []),
  (17, 1, .aload_n 0, 0, 0, 0, []),
  (18, 3, .getfield 13, 11, 1, 0, [1035]),
  (21, 1, .iconst 0, 0, 0, 0, []),
  (22, 1, .iaload, 0, 0, 0, []),
  (23, 3, .if_icmp .ge 37, 36, 0, 0, []),
  (26, 1, .aload_n 0, 0, 0, 0, []),
  (27, 3, .getfield 83, 11, 31, 0, [1065]),
  (30, 1, .iload_n 2, 2, 0, 0, []),
  (31, 1, .iaload, 0, 0, 0, []),
  (32, 1, .aload_n 0, 0, 0, 0, []),
  (33, 3, .getfield 77, 11, 29, 0, [1063]),
  (36, 1, .iload_n 2, 2, 0, 0, []),
  (37, 1, .iaload, 0, 0, 0, []),
  (38, 3, .invokestatic 171, 204, 1, 0, [1250, 0]),
  (41, 1, .iadd, 0, 0, 0, []),
  (42, 2, .bipush (-99), 0, 0, (-99), []),
  (44, 2, .bipush 99, 0, 0, 99, []),
  (46, 3, .invokestatic 108, 182, 3, 0, [1163, 0]),
  (49, 3, .ifCond .ne 5, 34, 0, 0, []),
  (52, 1, .iconst 0, 0, 0, 0, []),
  (53, 1, .ireturn, 1, 0, 0, []),
  (54, 3, .iinc 2 1, 2, 0, 1, []),
  (57, 3, .goto (-41), 12, 0, 0, []),
  (60, 1, .iconst 0, 0, 0, 0, []),
  (61, 1, .istore_n 2, 2, 0, 0, []),
  (62, 1, .iload_n 2, 2, 0, 0, []),
  (63, 1, .aload_n 0, 0, 0, 0, []),
  (64, 3, .getfield 13, 11, 1, 0, [1035]),
  (67, 1, .iconst 0, 0, 0, 0, []),
  (68, 1, .iaload, 0, 0, 0, []),
  (69, 3, .if_icmp .ge 51, 74, 0, 0, []),
  (72, 1, .aload_n 0, 0, 0, 0, []),
  (73, 3, .getfield 80, 11, 30, 0, [1064]),
  (76, 1, .iload_n 2, 2, 0, 0, []),
  (77, 1, .aload_n 0, 0, 0, 0, []),
  (78, 3, .getfield 80, 11, 30, 0, [1064]),
  (81, 1, .iload_n 2, 2, 0, 0, []),
  (82, 1, .iaload, 0, 0, 0, []),
  (83, 1, .aload_n 0, 0, 0, 0, []),
  (84, 3, .getfield 77, 11, 29, 0, [1063]),
  (87, 1, .iload_n 2, 2, 0, 0, []),
  (88, 1, .iaload, 0, 0, 0, []),
  (89, 3, .invokestatic 174, 203, 1, 0, [1257, 0]),
  (92, 1, .iadd, 0, 0, 0, []),
  (93, 1, .iconst 4, 0, 0, 4, []),
  (94, 1, .irem, 0, 0, 0, []),
  (95, 1, .iastore, 0, 0, 0, []),
  (96, 1, .aload_n 0, 0, 0, 0, []),
  (97, 3, .getfield 83, 11, 31, 0, [1065]),
  (100, 1, .iload_n 2, 2, 0, 0, []),
  (101, 1, .dup2, 0, 0, 0, []),
  (102, 1, .iaload, 0, 0, 0, []),
  (103, 1, .aload_n 0, 0, 0, 0, []),
  (104, 3, .getfield 77, 11, 29, 0, [1063]),
  (107, 1, .iload_n 2, 2, 0, 0, []),
  (108, 1, .iaload, 0, 0, 0, []),
  (109, 3, .invokestatic 171, 204, 1, 0, [1250, 0]),
  (112, 1, .iadd, 0, 0, 0, []),
  (113, 1, .iastore, 0, 0, 0, []),
  (114, 3, .iinc 2 1, 2, 0, 1, []),
  (117, 3, .goto (-55), 38, 0, 0, []),
  (120, 1, .iconst 1, 0, 0, 1, []),
  (121, 1, .ireturn, 1, 0, 0, [])])
def tw_M221 : tw_Meth := (yX12_areAsNow, cX12_areAsNow, 2, (some .boolean), 1, 11, 0, [1315, 66, 1314, 44], [
  (0, 1, .iconst 0, 0, 0, 0, []),
  (1, 1, .istore_n 1, 1, 0, 0, []),
  (2, 1, .iload_n 1, 1, 0, 0, []),
  (3, 1, .aload_n 0, 0, 0, 0, []),
  (4, 3, .getfield 13, 11, 1, 0, [1035]),
  (7, 1, .iconst 0, 0, 0, 0, []),
  (8, 1, .iaload, 0, 0, 0, []),
  (9, 3, .if_icmp .ge 26, 21, 0, 0, []),
  (12, 1, .aload_n 0, 0, 0, 0, []),
  (13, 3, .getfield 80, 11, 30, 0, [1064]),
  (16, 1, .iload_n 1, 1, 0, 0, []),
  (17, 1, .iaload, 0, 0, 0, []),
  (18, 1, .aload_n 0, 0, 0, 0, []),
  (19, 3, .getfield 26, 11, 5, 0, [1039]),
  (22, 1, .iload_n 1, 1, 0, 0, []),
  (23, 1, .iaload, 0, 0, 0, []),
  (24, 3, .if_icmp .eq 5, 19, 0, 0, []),
  (27, 1, .iconst 0, 0, 0, 0, []),
  (28, 1, .ireturn, 1, 0, 0, []),
  (29, 3, .iinc 1 1, 1, 0, 1, []),
  (32, 3, .goto (-30), 2, 0, 0, []),
  (35, 1, .iconst 1, 0, 0, 1, []),
  (36, 1, .ireturn, 1, 0, 0, [])])
def tw_M222 : tw_Meth := (yX12_areFlat, cX12_areFlat, 2, (some .boolean), 1, 11, 0, [1323, 66, 1322, 45], [
  (0, 1, .iconst 0, 0, 0, 0, []),
  (1, 1, .istore_n 1, 1, 0, 0, []),
  (2, 1, .iload_n 1, 1, 0, 0, []),
  (3, 1, .aload_n 0, 0, 0, 0, []),
  (4, 3, .getfield 13, 11, 1, 0, [1035]),
  (7, 1, .iconst 0, 0, 0, 0, []),
  (8, 1, .iaload, 0, 0, 0, []),
  (9, 3, .if_icmp .ge 20, 17, 0, 0, []),
  (12, 1, .aload_n 0, 0, 0, 0, []),
  (13, 3, .getfield 83, 11, 31, 0, [1065]),
  (16, 1, .iload_n 1, 1, 0, 0, []),
  (17, 1, .iaload, 0, 0, 0, []),
  (18, 3, .ifCond .eq 5, 15, 0, 0, []),
  (21, 1, .iconst 0, 0, 0, 0, []),
  (22, 1, .ireturn, 1, 0, 0, []),
  (23, 3, .iinc 1 1, 1, 0, 1, []),
  (26, 3, .goto (-24), 2, 0, 0, []),
  (29, 1, .iconst 1, 0, 0, 1, []),
  (30, 1, .ireturn, 1, 0, 0, [])])
def tw_M223 : tw_Meth := (yX12_returns, cX12_returns, 2, (some .int), 1, 11, 0, [1303, 66, 1301, 1302], [
  (0, 1, .aload_n 0, 0, 0, 0, []),
  (1, 3, .getfield 13, 11, 1, 0, [1035]),
  (4, 1, .iconst 0, 0, 0, 0, []),
  (5, 1, .iaload, 0, 0, 0, []),
  (6, 3, .ifCond .ne 6, 7, 0, 0, []),
  (9, 2, .bipush (-3), 0, 0, (-3), []),
  (11, 1, .ireturn, 0, 0, 0, []),
  (12, 1, .aload_n 0, 0, 0, 0, []),
  (13, 3, .invokevirtual 200, 219, 0, 0, [1304, 0]),
  (16, 1, .iconst 1, 0, 0, 1, []),
  (17, 1, .istore_n 1, 1, 0, 0, []),
  (18, 1, .iload_n 1, 1, 0, 0, []),
  (19, 3, .sipush 200, 0, 0, 200, []),
  (22, 3, .if_icmp .gt 29, 27, 0, 0, []),
  (25, 1, .aload_n 0, 0, 0, 0, []),
  (26, 1, .iload_n 1, 1, 0, 0, []),
  (27, 3, .invokevirtual 203, 220, 1, 0, [1308, 0]),
  (30, 3, .ifCond .ne 6, 20, 0, 0, []),
  (33, 2, .bipush (-5), 0, 0, (-5), []),
  (35, 1, .ireturn, 0, 0, 0, []),
  (36, 1, .aload_n 0, 0, 0, 0, []),
  (37, 3, .invokevirtual 206, 221, 0, 0, [1312, 0]),
  (40, 3, .ifCond .eq 5, 25, 0, 0, []),
  (43, 1, .iload_n 1, 1, 0, 0, []),
  (44, 1, .ireturn, 0, 0, 0, []),
  (45, 3, .iinc 1 1, 1, 0, 1, []),
  (48, 3, .goto (-30), 11, 0, 0, []),
  (51, 2, .bipush (-5), 0, 0, (-5), []),
  (53, 1, .ireturn, 0, 0, 0, [])])
def tw_M224 : tw_Meth := (yX12_flat, cX12_flat, 2, (some .int), 1, 11, 0, [1319, 66, 1317, 1318], [
  (0, 1, .aload_n 0, 0, 0, 0, []),
  (1, 3, .getfield 13, 11, 1, 0, [1035]),
  (4, 1, .iconst 0, 0, 0, 0, []),
  (5, 1, .iaload, 0, 0, 0, []),
  (6, 3, .ifCond .ne 6, 7, 0, 0, []),
  (9, 2, .bipush (-3), 0, 0, (-3), []),
  (11, 1, .ireturn, 0, 0, 0, []),
  (12, 1, .aload_n 0, 0, 0, 0, []),
  (13, 3, .invokevirtual 200, 219, 0, 0, [1304, 0]),
  (16, 1, .iconst 0, 0, 0, 0, []),
  (17, 1, .istore_n 1, 1, 0, 0, []),
  (18, 1, .iload_n 1, 1, 0, 0, []),
  (19, 3, .sipush 200, 0, 0, 200, []),
  (22, 3, .if_icmp .gt 33, 29, 0, 0, []),
  (25, 1, .iload_n 1, 1, 0, 0, []),
  (26, 3, .ifCond .le 14, 22, 0, 0, []),
  (29, 1, .aload_n 0, 0, 0, 0, []),
  (30, 1, .iload_n 1, 1, 0, 0, []),
  (31, 3, .invokevirtual 203, 220, 1, 0, [1308, 0]),
  (34, 3, .ifCond .ne 6, 22, 0, 0, []),
  (37, 2, .bipush (-5), 0, 0, (-5), []),
  (39, 1, .ireturn, 0, 0, 0, []),
  (40, 1, .aload_n 0, 0, 0, 0, []),
  (41, 3, .invokevirtual 209, 222, 0, 0, [1320, 0]),
  (44, 3, .ifCond .eq 5, 27, 0, 0, []),
  (47, 1, .iload_n 1, 1, 0, 0, []),
  (48, 1, .ireturn, 0, 0, 0, []),
  (49, 3, .iinc 1 1, 1, 0, 1, []),
  (52, 3, .goto (-34), 11, 0, 0, []),
  (55, 2, .bipush (-5), 0, 0, (-5), []),
  (57, 1, .ireturn, 0, 0, 0, [])])
def tw_M225 : tw_Meth := (yX12_jam, cX12_jam, 2, (some .int), 1, 11, 0, [1327, 66, 1325, 1326], [
  (0, 1, .aload_n 0, 0, 0, 0, []),
  (1, 3, .getfield 13, 11, 1, 0, [1035]),
  (4, 1, .iconst 0, 0, 0, 0, []),
  (5, 1, .iaload, 0, 0, 0, []),
  (6, 3, .ifCond .ne 6, 7, 0, 0, []),
  (9, 2, .bipush (-3), 0, 0, (-3), []),
  (11, 1, .ireturn, 0, 0, 0, []),
  (12, 1, .aload_n 0, 0, 0, 0, []),
  (13, 3, .invokevirtual 200, 219, 0, 0, [1304, 0]),
  (16, 1, .iconst 1, 0, 0, 1, []),
  (17, 1, .istore_n 1, 1, 0, 0, []),
  (18, 1, .iload_n 1, 1, 0, 0, []),
  (19, 3, .sipush 200, 0, 0, 200, []),
  (22, 3, .if_icmp .gt 19, 22, 0, 0, []),
  (25, 1, .aload_n 0, 0, 0, 0, []),
  (26, 1, .iload_n 1, 1, 0, 0, []),
  (27, 3, .invokevirtual 203, 220, 1, 0, [1308, 0]),
  (30, 3, .ifCond .ne 5, 20, 0, 0, []),
  (33, 1, .iload_n 1, 1, 0, 0, []),
  (34, 1, .ireturn, 0, 0, 0, []),
  (35, 3, .iinc 1 1, 1, 0, 1, []),
  (38, 3, .goto (-20), 11, 0, 0, []),
  (41, 2, .bipush (-5), 0, 0, (-5), []),
  (43, 1, .ireturn, 0, 0, 0, [])])
def tw_M226 : tw_Meth := (yX12_greatest, cX12_greatest, 4, (some .int), 1, 11, 1, [1335, 66, 1334, 46], [
  (0, 1, .iconst 0, 0, 0, 0, []),
  (1, 1, .istore_n 2, 2, 0, 0, []),
  (2, 1, .iconst 0, 0, 0, 0, []),
  (3, 1, .istore_n 3, 3, 0, 0, []),
  (4, 1, .iload_n 3, 3, 0, 0, []),
  (5, 1, .aload_n 0, 0, 0, 0, []),
  (6, 3, .getfield 13, 11, 1, 0, [1035]),
  (9, 1, .iconst 0, 0, 0, 0, []),
  (10, 1, .iaload, 0, 0, 0, []),
  (11, 3, .if_icmp .ge 22, 21, 0, 0, []),
  (14, 1, .iload_n 2, 2, 0, 0, []),
  (15, 1, .iload_n 1, 1, 0, 0, []),
  (16, 1, .aload_n 0, 0, 0, 0, []),
  (17, 3, .getfield 29, 11, 6, 0, [1040]),
  (20, 1, .iload_n 3, 3, 0, 0, []),
  (21, 1, .iaload, 0, 0, 0, []),
  (22, 1, .imul, 0, 0, 0, []),
  (23, 3, .invokestatic 155, 262, 2, 0, [1214, 0]),
  (26, 1, .istore_n 2, 2, 0, 0, []),
  (27, 3, .iinc 3 1, 3, 0, 1, []),
  (30, 3, .goto (-26), 4, 0, 0, []),
  (33, 1, .iload_n 2, 2, 0, 0, []),
  (34, 1, .ireturn, 0, 0, 0, [])])
def tw_M227 : tw_Meth := (yX12_undoing, cX12_undoing, 7, (some .int), 1, 11, 2, [1331, 66, 1329, 1330], [
  (0, 1, .iload_n 2, 2, 0, 0, []),
  (1, 1, .iconst 0, 0, 0, 0, []),
  (2, 1, .iconst 1, 0, 0, 1, []),
  (3, 3, .invokestatic 108, 182, 3, 0, [1163, 0]),
  (6, 3, .ifCond .ne 5, 7, 0, 0, []),
  (9, 1, .iconst (-1), 0, 0, (-1), []),
  (10, 1, .ireturn, 0, 0, 0, []),
  (11, 1, .aload_n 0, 0, 0, 0, []),
  (12, 1, .iconst 1, 0, 0, 1, []),
  (13, 3, .invokevirtual 212, 226, 1, 0, [1332, 0]),
  (16, 1, .istore_n 3, 3, 0, 0, []),
  (17, 1, .iload_n 3, 3, 0, 0, []),
  (18, 1, .aload_n 0, 0, 0, 0, []),
  (19, 1, .iconst (-1), 0, 0, (-1), []),
  (20, 3, .invokevirtual 212, 226, 1, 0, [1332, 0]),
  (23, 1, .iadd, 0, 0, 0, []),
  (24, 2, .istore 4, 4, 0, 0, []),
  (26, 1, .iload_n 1, 1, 0, 0, []),
  (27, 1, .iconst (-1), 0, 0, (-1), []),
  (28, 3, .if_icmp .ne 6, 22, 0, 0, []),
  (31, 2, .iload 4, 4, 0, 0, []),
  (33, 1, .ireturn, 0, 0, 0, []),
  (34, 1, .iload_n 1, 1, 0, 0, []),
  (35, 1, .iconst 0, 0, 0, 0, []),
  (36, 2, .iload 4, 4, 0, 0, []),
  (38, 1, .iconst 1, 0, 0, 1, []),
  (39, 1, .isub, 0, 0, 0, []),
  (40, 3, .invokestatic 108, 182, 3, 0, [1163, 0]),
  (43, 3, .ifCond .ne 5, 31, 0, 0, []),
  (46, 1, .iconst (-1), 0, 0, (-1), []),
  (47, 1, .ireturn, 0, 0, 0, []),
  (48, 1, .iload_n 2, 2, 0, 0, []),
  (49, 1, .iconst 1, 0, 0, 1, []),
  (50, 3, .if_icmp .ne 14, 41, 0, 0, []),
  (53, 1, .iload_n 1, 1, 0, 0, []),
  (54, 1, .iload_n 3, 3, 0, 0, []),
  (55, 3, .if_icmp .ge 7, 39, 0, 0, []),
  (58, 1, .iconst 2, 0, 0, 2, []),
  (59, 3, .goto 4, 40, 0, 0, []),
  (62, 1, .iconst 1, 0, 0, 1, []),
  (63, 1, .ireturn, 0, 0, 0, []),
  (64, 1, .iconst 0, 0, 0, 0, []),
  (65, 2, .istore 5, 5, 0, 0, []),
  (67, 1, .iconst 0, 0, 0, 0, []),
  (68, 2, .istore 6, 6, 0, 0, []),
  (70, 2, .iload 6, 6, 0, 0, []),
  (72, 1, .aload_n 0, 0, 0, 0, []),
  (73, 3, .getfield 13, 11, 1, 0, [1035]),
  (76, 1, .iconst 0, 0, 0, 0, []),
  (77, 1, .iaload, 0, 0, 0, []),
  (78, 3, .if_icmp .ge 51, 78, 0, 0, []),
  (81, 1, .iload_n 1, 1, 0, 0, []),
  (82, 1, .iload_n 3, 3, 0, 0, []),
  (83, 3, .if_icmp .ge 17, 61, 0, 0, []),
  (86, 1, .aload_n 0, 0, 0, 0, []),
  (87, 3, .getfield 29, 11, 6, 0, [1040]),
  (90, 2, .iload 6, 6, 0, 0, []),
  (92, 1, .iaload, 0, 0, 0, []),
  (93, 1, .iload_n 1, 1, 0, 0, []),
  (94, 3, .if_icmp .le 29, 76, 0, 0, []),
  (97, 3, .goto 17, 70, 0, 0, []),
  (100, 1, .aload_n 0, 0, 0, 0, []),
  (101, 3, .getfield 29, 11, 6, 0, [1040]),
  (104, 2, .iload 6, 6, 0, 0, []),
  (106, 1, .iaload, 0, 0, 0, []),
  (107, 1, .ineg, 0, 0, 0, []),
  (108, 1, .iload_n 1, 1, 0, 0, []),
  (109, 1, .iload_n 3, 3, 0, 0, []),
  (110, 1, .isub, 0, 0, 0, []),
  (111, 3, .if_icmp .le 12, 76, 0, 0, []),
  (114, 2, .iload 5, 5, 0, 0, []),
  (116, 1, .iconst 1, 0, 0, 1, []),
  (117, 2, .iload 6, 6, 0, 0, []),
  (119, 1, .ishl, 0, 0, 0, []),
  (120, 1, .ior, 0, 0, 0, []),
  (121, 2, .istore 5, 5, 0, 0, []),
  (123, 3, .iinc 6 1, 6, 0, 1, []),
  (126, 3, .goto (-56), 45, 0, 0, []),
  (129, 2, .iload 5, 5, 0, 0, []),
  (131, 1, .ireturn, 0, 0, 0, [])])
def tw_M228 : tw_Meth := (yX12_paint, cX12_paint, 5, (some .int), 1, 11, 3, [1339, 66, 1337, 1338], [
  (0, 1, .iload_n 1, 1, 0, 0, []),
  (1, 1, .iconst 0, 0, 0, 0, []),
  (2, 1, .aload_n 0, 0, 0, 0, []),
  (3, 3, .getfield 215, 11, 32, 0, [1066]),
  (6, 1, .iconst 1, 0, 0, 1, []),
  (7, 1, .isub, 0, 0, 0, []),
  (8, 3, .invokestatic 108, 182, 3, 0, [1163, 0]),
  (11, 3, .ifCond .eq 13, 13, 0, 0, []),
  (14, 1, .iload_n 2, 2, 0, 0, []),
  (15, 1, .iconst 0, 0, 0, 0, []),
  (16, 2, .bipush 9, 0, 0, 9, []),
  (18, 3, .invokestatic 108, 182, 3, 0, [1163, 0]),
  (21, 3, .ifCond .ne 5, 15, 0, 0, []),
  (24, 1, .iconst (-1), 0, 0, (-1), []),
  (25, 1, .ireturn, 0, 0, 0, []),
  (26, 1, .iload_n 3, 3, 0, 0, []),
  (27, 3, .invokestatic 168, 186, 1, 0, [1231, 0]),
  (30, 3, .ifCond .ne 6, 20, 0, 0, []),
  (33, 2, .bipush (-2), 0, 0, (-2), []),
  (35, 1, .ireturn, 0, 0, 0, []),
  (36, 1, .aload_n 0, 0, 0, 0, []),
  (37, 3, .getfield 86, 11, 33, 0, [1067]),
  (40, 2, .bipush 10, 0, 0, 10, []),
  (42, 1, .iload_n 1, 1, 0, 0, []),
  (43, 1, .imul, 0, 0, 0, []),
  (44, 1, .iload_n 2, 2, 0, 0, []),
  (45, 1, .iadd, 0, 0, 0, []),
  (46, 1, .iaload, 0, 0, 0, []),
  (47, 2, .istore 4, 4, 0, 0, []),
  (49, 1, .aload_n 0, 0, 0, 0, []),
  (50, 3, .getfield 86, 11, 33, 0, [1067]),
  (53, 2, .bipush 10, 0, 0, 10, []),
  (55, 1, .iload_n 1, 1, 0, 0, []),
  (56, 1, .imul, 0, 0, 0, []),
  (57, 1, .iload_n 2, 2, 0, 0, []),
  (58, 1, .iadd, 0, 0, 0, []),
  (59, 1, .iload_n 3, 3, 0, 0, []),
  (60, 1, .iastore, 0, 0, 0, []),
  (61, 2, .iload 4, 4, 0, 0, []),
  (63, 1, .ireturn, 0, 0, 0, [])])
def tw_M229 : tw_Meth := (yX12_lines, cX12_lines, 4, (some .int), 1, 11, 1, [1343, 66, 1341, 1342], [
  (0, 1, .iload_n 1, 1, 0, 0, []),
  (1, 1, .iconst 0, 0, 0, 0, []),
  (2, 2, .bipush 8, 0, 0, 8, []),
  (4, 3, .invokestatic 108, 182, 3, 0, [1163, 0]),
  (7, 3, .ifCond .ne 6, 7, 0, 0, []),
  (10, 2, .bipush (-2), 0, 0, (-2), []),
  (12, 1, .ireturn, 0, 0, 0, []),
  (13, 1, .aload_n 0, 0, 0, 0, []),
  (14, 3, .getfield 215, 11, 32, 0, [1066]),
  (17, 1, .istore_n 2, 2, 0, 0, []),
  (18, 1, .aload_n 0, 0, 0, 0, []),
  (19, 1, .iload_n 1, 1, 0, 0, []),
  (20, 3, .putfield 215, 11, 32, 0, [1066]),
  (23, 2, .bipush 10, 0, 0, 10, []),
  (25, 1, .iload_n 1, 1, 0, 0, []),
  (26, 1, .imul, 0, 0, 0, []),
  (27, 1, .istore_n 3, 3, 0, 0, []),
  (28, 1, .iload_n 3, 3, 0, 0, []),
  (29, 2, .bipush 80, 0, 0, 80, []),
  (31, 3, .if_icmp .ge 16, 27, 0, 0, []),
  (34, 1, .aload_n 0, 0, 0, 0, []),
  (35, 3, .getfield 86, 11, 33, 0, [1067]),
  (38, 1, .iload_n 3, 3, 0, 0, []),
  (39, 1, .iconst 0, 0, 0, 0, []),
  (40, 1, .iastore, 0, 0, 0, []),
  (41, 3, .iinc 3 1, 3, 0, 1, []),
  (44, 3, .goto (-16), 17, 0, 0, []),
  (47, 1, .iload_n 2, 2, 0, 0, []),
  (48, 1, .ireturn, 0, 0, 0, [])])
def tw_M230 : tw_Meth := (yX12_fewestFrom, cX12_fewestFrom, 9, (some .int), 1, 11, 3, [1355, 66, 1354, 48], [
  (0, 1, .iconst 0, 0, 0, 0, []),
  (1, 2, .istore 4, 4, 0, 0, []),
  (3, 2, .iload 4, 4, 0, 0, []),
  (5, 1, .iconst 4, 0, 0, 4, []),
  (6, 3, .if_icmp .ge 24, 17, 0, 0, []),
  (9, 1, .aload_n 0, 0, 0, 0, []),
  (10, 3, .getfield 89, 11, 34, 0, [1068]),
  (13, 1, .iconst 4, 0, 0, 4, []),
  (14, 1, .aload_n 0, 0, 0, 0, []),
  (15, 3, .getfield 215, 11, 32, 0, [1066]),
  (18, 1, .imul, 0, 0, 0, []),
  (19, 2, .iload 4, 4, 0, 0, []),
  (21, 1, .iadd, 0, 0, 0, []),
  (22, 1, .iconst 0, 0, 0, 0, []),
  (23, 1, .iastore, 0, 0, 0, []),
  (24, 3, .iinc 4 1, 4, 0, 1, []),
  (27, 3, .goto (-24), 2, 0, 0, []),
  (30, 1, .aload_n 0, 0, 0, 0, []),
  (31, 3, .getfield 215, 11, 32, 0, [1066]),
  (34, 1, .iconst 1, 0, 0, 1, []),
  (35, 1, .isub, 0, 0, 0, []),
  (36, 2, .istore 4, 4, 0, 0, []),
  (38, 2, .iload 4, 4, 0, 0, []),
  (40, 1, .iload_n 2, 2, 0, 0, []),
  (41, 3, .if_icmp .lt 134, 97, 0, 0, []),
  (44, 1, .iconst 0, 0, 0, 0, []),
  (45, 2, .istore 5, 5, 0, 0, []),
  (47, 2, .iload 5, 5, 0, 0, []),
  (49, 1, .iconst 4, 0, 0, 4, []),
  (50, 3, .if_icmp .ge 119, 95, 0, 0, []),
  (53, 3, .sipush 1000, 0, 0, 1000, []),
  (56, 2, .istore 6, 6, 0, 0, []),
  (58, 1, .iconst 0, 0, 0, 0, []),
  (59, 2, .istore 7, 7, 0, 0, []),
  (61, 2, .iload 7, 7, 0, 0, []),
  (63, 1, .iconst 3, 0, 0, 3, []),
  (64, 3, .if_icmp .ge 79, 82, 0, 0, []),
  (67, 2, .iload 5, 5, 0, 0, []),
  (69, 2, .iload 7, 7, 0, 0, []),
  (71, 3, .invokestatic 174, 203, 1, 0, [1257, 0]),
  (74, 1, .iadd, 0, 0, 0, []),
  (75, 1, .iconst 4, 0, 0, 4, []),
  (76, 1, .irem, 0, 0, 0, []),
  (77, 2, .istore 8, 8, 0, 0, []),
  (79, 1, .aload_n 0, 0, 0, 0, []),
  (80, 3, .getfield 20, 11, 3, 0, [1037]),
  (83, 1, .iconst 4, 0, 0, 4, []),
  (84, 1, .iload_n 1, 1, 0, 0, []),
  (85, 1, .imul, 0, 0, 0, []),
  (86, 2, .iload 8, 8, 0, 0, []),
  (88, 1, .iadd, 0, 0, 0, []),
  (89, 1, .iaload, 0, 0, 0, []),
  (90, 1, .aload_n 0, 0, 0, 0, []),
  (91, 3, .getfield 86, 11, 33, 0, [1067]),
  (94, 2, .bipush 10, 0, 0, 10, []),
  (96, 2, .iload 4, 4, 0, 0, []),
  (98, 1, .imul, 0, 0, 0, []),
  (99, 1, .iload_n 1, 1, 0, 0, []),
  (100, 1, .iadd, 0, 0, 0, []),
  (101, 1, .iaload, 0, 0, 0, []),
  (102, 3, .if_icmp .ne 35, 80, 0, 0, []),
  (105, 2, .iload 6, 6, 0, 0, []),
  (107, 2, .iload 7, 7, 0, 0, []),
  (109, 3, .ifCond .ne 7, 66, 0, 0, []),
  (112, 1, .iconst 0, 0, 0, 0, []),
  (113, 3, .goto 4, 67, 0, 0, []),
  (116, 1, .iconst 1, 0, 0, 1, []),
  (117, 1, .aload_n 0, 0, 0, 0, []),
  (118, 3, .getfield 89, 11, 34, 0, [1068]),
  (121, 1, .iconst 4, 0, 0, 4, []),
  (122, 2, .iload 4, 4, 0, 0, []),
  (124, 1, .iconst 1, 0, 0, 1, []),
  (125, 1, .iadd, 0, 0, 0, []),
  (126, 1, .imul, 0, 0, 0, []),
  (127, 2, .iload 8, 8, 0, 0, []),
  (129, 1, .iadd, 0, 0, 0, []),
  (130, 1, .iaload, 0, 0, 0, []),
  (131, 1, .iadd, 0, 0, 0, []),
  (132, 3, .invokestatic 218, 263, 2, 0, [1356, 0]),
  (135, 2, .istore 6, 6, 0, 0, []),
  (137, 3, .iinc 7 1, 7, 0, 1, []),
  (140, 3, .goto (-79), 34, 0, 0, []),
  (143, 1, .aload_n 0, 0, 0, 0, []),
  (144, 3, .getfield 89, 11, 34, 0, [1068]),
  (147, 1, .iconst 4, 0, 0, 4, []),
  (148, 2, .iload 4, 4, 0, 0, []),
  (150, 1, .imul, 0, 0, 0, []),
  (151, 2, .iload 5, 5, 0, 0, []),
  (153, 1, .iadd, 0, 0, 0, []),
  (154, 3, .sipush 1000, 0, 0, 1000, []),
  (157, 2, .iload 6, 6, 0, 0, []),
  (159, 3, .invokestatic 218, 263, 2, 0, [1356, 0]),
  (162, 1, .iastore, 0, 0, 0, []),
  (163, 3, .iinc 5 1, 5, 0, 1, []),
  (166, 3, .goto (-119), 27, 0, 0, []),
  (169, 3, .iinc 4 (-1), 4, 0, (-1), []),
  (172, 3, .goto (-134), 22, 0, 0, []),
  (175, 1, .aload_n 0, 0, 0, 0, []),
  (176, 3, .getfield 89, 11, 34, 0, [1068]),
  (179, 1, .iconst 4, 0, 0, 4, []),
  (180, 1, .iload_n 2, 2, 0, 0, []),
  (181, 1, .imul, 0, 0, 0, []),
  (182, 1, .iload_n 3, 3, 0, 0, []),
  (183, 1, .iadd, 0, 0, 0, []),
  (184, 1, .iaload, 0, 0, 0, []),
  (185, 1, .ireturn, 0, 0, 0, [])])
def tw_M231 : tw_Meth := (yX12_draftOf, cX12_draftOf, 8, (some .int), 1, 11, 2, [1351, 66, 1350, 47], [
  (0, 1, .aload_n 0, 0, 0, 0, []),
  (1, 3, .getfield 26, 11, 5, 0, [1039]),
  (4, 1, .iload_n 2, 2, 0, 0, []),
  (5, 1, .iaload, 0, 0, 0, []),
  (6, 1, .istore_n 3, 3, 0, 0, []),
  (7, 1, .iconst 0, 0, 0, 0, []),
  (8, 2, .istore 4, 4, 0, 0, []),
  (10, 1, .aload_n 0, 0, 0, 0, []),
  (11, 1, .iload_n 2, 2, 0, 0, []),
  (12, 1, .iconst 0, 0, 0, 0, []),
  (13, 1, .iload_n 3, 3, 0, 0, []),
  (14, 3, .invokevirtual 221, 230, 3, 0, [1352, 0]),
  (17, 3, .sipush 1000, 0, 0, 1000, []),
  (20, 3, .if_icmp .ne 6, 16, 0, 0, []),
  (23, 2, .bipush (-5), 0, 0, (-5), []),
  (25, 1, .ireturn, 0, 0, 0, []),
  (26, 1, .iconst 0, 0, 0, 0, []),
  (27, 2, .istore 5, 5, 0, 0, []),
  (29, 2, .iload 5, 5, 0, 0, []),
  (31, 1, .iload_n 1, 1, 0, 0, []),
  (32, 3, .if_icmp .gt 66, 55, 0, 0, []),
  (35, 1, .aload_n 0, 0, 0, 0, []),
  (36, 1, .iload_n 2, 2, 0, 0, []),
  (37, 2, .iload 5, 5, 0, 0, []),
  (39, 1, .iload_n 3, 3, 0, 0, []),
  (40, 3, .invokevirtual 221, 230, 3, 0, [1352, 0]),
  (43, 2, .istore 6, 6, 0, 0, []),
  (45, 1, .iconst 0, 0, 0, 0, []),
  (46, 2, .istore 4, 4, 0, 0, []),
  (48, 1, .iconst 2, 0, 0, 2, []),
  (49, 2, .istore 7, 7, 0, 0, []),
  (51, 2, .iload 7, 7, 0, 0, []),
  (53, 1, .iconst 1, 0, 0, 1, []),
  (54, 3, .if_icmp .lt 28, 46, 0, 0, []),
  (57, 1, .aload_n 0, 0, 0, 0, []),
  (58, 1, .iload_n 2, 2, 0, 0, []),
  (59, 2, .iload 5, 5, 0, 0, []),
  (61, 1, .iload_n 3, 3, 0, 0, []),
  (62, 2, .iload 7, 7, 0, 0, []),
  (64, 2, .iload 6, 6, 0, 0, []),
  (66, 3, .invokevirtual 224, 232, 5, 0, [1357, 0]),
  (69, 3, .ifCond .eq 7, 44, 0, 0, []),
  (72, 2, .iload 7, 7, 0, 0, []),
  (74, 2, .istore 4, 4, 0, 0, []),
  (76, 3, .iinc 7 (-1), 7, 0, (-1), []),
  (79, 3, .goto (-28), 31, 0, 0, []),
  (82, 1, .iload_n 3, 3, 0, 0, []),
  (83, 2, .iload 4, 4, 0, 0, []),
  (85, 3, .invokestatic 174, 203, 1, 0, [1257, 0]),
  (88, 1, .iadd, 0, 0, 0, []),
  (89, 1, .iconst 4, 0, 0, 4, []),
  (90, 1, .irem, 0, 0, 0, []),
  (91, 1, .istore_n 3, 3, 0, 0, []),
  (92, 3, .iinc 5 1, 5, 0, 1, []),
  (95, 3, .goto (-66), 18, 0, 0, []),
  (98, 2, .iload 4, 4, 0, 0, []),
  (100, 1, .ireturn, 0, 0, 0, [])])
def tw_M232 : tw_Meth := (yX12_mayBe, cX12_mayBe, 7, (some .boolean), 1, 11, 5, [1360, 66, 1359, 49], [
  (0, 1, .iload_n 3, 3, 0, 0, []),
  (1, 2, .iload 4, 4, 0, 0, []),
  (3, 3, .invokestatic 174, 203, 1, 0, [1257, 0]),
  (6, 1, .iadd, 0, 0, 0, []),
  (7, 1, .iconst 4, 0, 0, 4, []),
  (8, 1, .irem, 0, 0, 0, []),
  (9, 2, .istore 6, 6, 0, 0, []),
  (11, 1, .aload_n 0, 0, 0, 0, []),
  (12, 3, .getfield 20, 11, 3, 0, [1037]),
  (15, 1, .iconst 4, 0, 0, 4, []),
  (16, 1, .iload_n 1, 1, 0, 0, []),
  (17, 1, .imul, 0, 0, 0, []),
  (18, 2, .iload 6, 6, 0, 0, []),
  (20, 1, .iadd, 0, 0, 0, []),
  (21, 1, .iaload, 0, 0, 0, []),
  (22, 1, .aload_n 0, 0, 0, 0, []),
  (23, 3, .getfield 86, 11, 33, 0, [1067]),
  (26, 2, .bipush 10, 0, 0, 10, []),
  (28, 1, .iload_n 2, 2, 0, 0, []),
  (29, 1, .imul, 0, 0, 0, []),
  (30, 1, .iload_n 1, 1, 0, 0, []),
  (31, 1, .iadd, 0, 0, 0, []),
  (32, 1, .iaload, 0, 0, 0, []),
  (33, 3, .if_icmp .ne 24, 37, 0, 0, []),
  (36, 1, .iconst 1, 0, 0, 1, []),
  (37, 1, .aload_n 0, 0, 0, 0, []),
  (38, 1, .iload_n 1, 1, 0, 0, []),
  (39, 1, .iload_n 2, 2, 0, 0, []),
  (40, 1, .iconst 1, 0, 0, 1, []),
  (41, 1, .iadd, 0, 0, 0, []),
  (42, 2, .iload 6, 6, 0, 0, []),
  (44, 3, .invokevirtual 221, 230, 3, 0, [1352, 0]),
  (47, 1, .iadd, 0, 0, 0, []),
  (48, 2, .iload 5, 5, 0, 0, []),
  (50, 3, .if_icmp .ne 7, 37, 0, 0, []),
  (53, 1, .iconst 1, 0, 0, 1, []),
  (54, 3, .goto 4, 38, 0, 0, []),
  (57, 1, .iconst 0, 0, 0, 0, []),
  (58, 1, .ireturn, 1, 0, 0, [])])
def tw_M233 : tw_Meth := (yX12_draft, cX12_draft, 3, (some .int), 1, 11, 2, [1347, 66, 1345, 1346], [
  (0, 1, .iload_n 1, 1, 0, 0, []),
  (1, 1, .iconst 0, 0, 0, 0, []),
  (2, 1, .aload_n 0, 0, 0, 0, []),
  (3, 3, .getfield 215, 11, 32, 0, [1066]),
  (6, 1, .iconst 1, 0, 0, 1, []),
  (7, 1, .isub, 0, 0, 0, []),
  (8, 3, .invokestatic 108, 182, 3, 0, [1163, 0]),
  (11, 3, .ifCond .eq 11, 12, 0, 0, []),
  (14, 1, .aload_n 0, 0, 0, 0, []),
  (15, 1, .iload_n 2, 2, 0, 0, []),
  (16, 3, .invokevirtual 161, 184, 1, 0, [1206, 0]),
  (19, 3, .ifCond .ne 5, 14, 0, 0, []),
  (22, 1, .iconst (-1), 0, 0, (-1), []),
  (23, 1, .ireturn, 0, 0, 0, []),
  (24, 1, .aload_n 0, 0, 0, 0, []),
  (25, 1, .iload_n 1, 1, 0, 0, []),
  (26, 1, .iload_n 2, 2, 0, 0, []),
  (27, 3, .invokevirtual 228, 231, 2, 0, [1348, 0]),
  (30, 1, .ireturn, 0, 0, 0, [])])
def tw_M234 : tw_Meth := (yX12_fewest, cX12_fewest, 5, (some .int), 1, 11, 1, [1364, 66, 1362, 1363], [
  (0, 1, .iload_n 1, 1, 0, 0, []),
  (1, 1, .iconst (-1), 0, 0, (-1), []),
  (2, 3, .if_icmp .eq 13, 9, 0, 0, []),
  (5, 1, .aload_n 0, 0, 0, 0, []),
  (6, 1, .iload_n 1, 1, 0, 0, []),
  (7, 3, .invokevirtual 161, 184, 1, 0, [1206, 0]),
  (10, 3, .ifCond .ne 5, 9, 0, 0, []),
  (13, 1, .iconst (-1), 0, 0, (-1), []),
  (14, 1, .ireturn, 0, 0, 0, []),
  (15, 1, .iconst 0, 0, 0, 0, []),
  (16, 1, .istore_n 2, 2, 0, 0, []),
  (17, 1, .iconst 0, 0, 0, 0, []),
  (18, 1, .istore_n 3, 3, 0, 0, []),
  (19, 1, .iload_n 3, 3, 0, 0, []),
  (20, 1, .aload_n 0, 0, 0, 0, []),
  (21, 3, .getfield 13, 11, 1, 0, [1035]),
  (24, 1, .iconst 0, 0, 0, 0, []),
  (25, 1, .iaload, 0, 0, 0, []),
  (26, 3, .if_icmp .ge 51, 45, 0, 0, []),
  (29, 1, .iload_n 1, 1, 0, 0, []),
  (30, 3, .ifCond .lt 11, 25, 0, 0, []),
  (33, 1, .iload_n 3, 3, 0, 0, []),
  (34, 1, .iload_n 1, 1, 0, 0, []),
  (35, 3, .if_icmp .eq 6, 25, 0, 0, []),
  (38, 3, .goto 33, 43, 0, 0, []),
  (41, 1, .aload_n 0, 0, 0, 0, []),
  (42, 1, .iload_n 3, 3, 0, 0, []),
  (43, 1, .iconst 0, 0, 0, 0, []),
  (44, 1, .aload_n 0, 0, 0, 0, []),
  (45, 3, .getfield 26, 11, 5, 0, [1039]),
  (48, 1, .iload_n 3, 3, 0, 0, []),
  (49, 1, .iaload, 0, 0, 0, []),
  (50, 3, .invokevirtual 221, 230, 3, 0, [1352, 0]),
  (53, 2, .istore 4, 4, 0, 0, []),
  (55, 2, .iload 4, 4, 0, 0, []),
  (57, 3, .sipush 1000, 0, 0, 1000, []),
  (60, 3, .if_icmp .ne 6, 39, 0, 0, []),
  (63, 2, .bipush (-5), 0, 0, (-5), []),
  (65, 1, .ireturn, 0, 0, 0, []),
  (66, 1, .iload_n 2, 2, 0, 0, []),
  (67, 2, .iload 4, 4, 0, 0, []),
  (69, 1, .iadd, 0, 0, 0, []),
  (70, 1, .istore_n 2, 2, 0, 0, []),
  (71, 3, .iinc 3 1, 3, 0, 1, []),
  (74, 3, .goto (-55), 13, 0, 0, []),
  (77, 1, .iload_n 2, 2, 0, 0, []),
  (78, 1, .ireturn, 0, 0, 0, [])])
def tw_M235 : tw_Meth := (yX12_weaveDraft, cX12_weaveDraft, 3, (some .int), 1, 11, 0, [1368, 66, 1366, 1367], [
  (0, 1, .aload_n 0, 0, 0, 0, []),
  (1, 3, .getfield 13, 11, 1, 0, [1035]),
  (4, 1, .iconst 0, 0, 0, 0, []),
  (5, 1, .iaload, 0, 0, 0, []),
  (6, 3, .ifCond .eq 18, 12, 0, 0, []),
  (9, 1, .aload_n 0, 0, 0, 0, []),
  (10, 3, .getfield 215, 11, 32, 0, [1066]),
  (13, 3, .ifCond .eq 11, 12, 0, 0, []),
  (16, 1, .aload_n 0, 0, 0, 0, []),
  (17, 1, .iconst (-1), 0, 0, (-1), []),
  (18, 3, .invokevirtual 231, 234, 1, 0, [1369, 0]),
  (21, 3, .ifCond .ge 6, 14, 0, 0, []),
  (24, 2, .bipush (-3), 0, 0, (-3), []),
  (26, 1, .ireturn, 0, 0, 0, []),
  (27, 1, .aload_n 0, 0, 0, 0, []),
  (28, 3, .getfield 17, 11, 2, 0, [1036]),
  (31, 1, .iconst 0, 0, 0, 0, []),
  (32, 1, .iaload, 0, 0, 0, []),
  (33, 1, .aload_n 0, 0, 0, 0, []),
  (34, 3, .getfield 215, 11, 32, 0, [1066]),
  (37, 1, .iadd, 0, 0, 0, []),
  (38, 2, .bipush 50, 0, 0, 50, []),
  (40, 3, .if_icmp .le 6, 25, 0, 0, []),
  (43, 2, .bipush (-4), 0, 0, (-4), []),
  (45, 1, .ireturn, 0, 0, 0, []),
  (46, 1, .iconst 0, 0, 0, 0, []),
  (47, 1, .istore_n 1, 1, 0, 0, []),
  (48, 1, .iload_n 1, 1, 0, 0, []),
  (49, 1, .aload_n 0, 0, 0, 0, []),
  (50, 3, .getfield 215, 11, 32, 0, [1066]),
  (53, 3, .if_icmp .ge 44, 55, 0, 0, []),
  (56, 1, .iconst 0, 0, 0, 0, []),
  (57, 1, .istore_n 2, 2, 0, 0, []),
  (58, 1, .iload_n 2, 2, 0, 0, []),
  (59, 1, .aload_n 0, 0, 0, 0, []),
  (60, 3, .getfield 13, 11, 1, 0, [1035]),
  (63, 1, .iconst 0, 0, 0, 0, []),
  (64, 1, .iaload, 0, 0, 0, []),
  (65, 3, .if_icmp .ge 26, 53, 0, 0, []),
  (68, 1, .aload_n 0, 0, 0, 0, []),
  (69, 3, .getfield 92, 11, 35, 0, [1069]),
  (72, 2, .bipush 10, 0, 0, 10, []),
  (74, 1, .iload_n 1, 1, 0, 0, []),
  (75, 1, .imul, 0, 0, 0, []),
  (76, 1, .iload_n 2, 2, 0, 0, []),
  (77, 1, .iadd, 0, 0, 0, []),
  (78, 1, .aload_n 0, 0, 0, 0, []),
  (79, 1, .iload_n 1, 1, 0, 0, []),
  (80, 1, .iload_n 2, 2, 0, 0, []),
  (81, 3, .invokevirtual 228, 231, 2, 0, [1348, 0]),
  (84, 1, .iastore, 0, 0, 0, []),
  (85, 3, .iinc 2 1, 2, 0, 1, []),
  (88, 3, .goto (-30), 33, 0, 0, []),
  (91, 3, .iinc 1 1, 1, 0, 1, []),
  (94, 3, .goto (-46), 27, 0, 0, []),
  (97, 1, .iconst 0, 0, 0, 0, []),
  (98, 1, .istore_n 1, 1, 0, 0, []),
  (99, 1, .iload_n 1, 1, 0, 0, []),
  (100, 1, .aload_n 0, 0, 0, 0, []),
  (101, 3, .getfield 215, 11, 32, 0, [1066]),
  (104, 3, .if_icmp .ge 67, 97, 0, 0, []),
  (107, 1, .iconst 0, 0, 0, 0, []),
  (108, 1, .istore_n 2, 2, 0, 0, []),
  (109, 1, .iload_n 2, 2, 0, 0, []),
  (110, 1, .aload_n 0, 0, 0, 0, []),
  (111, 3, .getfield 13, 11, 1, 0, [1035]),
  (114, 1, .iconst 0, 0, 0, 0, []),
  (115, 1, .iaload, 0, 0, 0, []),
  (116, 3, .if_icmp .ge 26, 83, 0, 0, []),
  (119, 1, .aload_n 0, 0, 0, 0, []),
  (120, 3, .getfield 77, 11, 29, 0, [1063]),
  (123, 1, .iload_n 2, 2, 0, 0, []),
  (124, 1, .aload_n 0, 0, 0, 0, []),
  (125, 3, .getfield 92, 11, 35, 0, [1069]),
  (128, 2, .bipush 10, 0, 0, 10, []),
  (130, 1, .iload_n 1, 1, 0, 0, []),
  (131, 1, .imul, 0, 0, 0, []),
  (132, 1, .iload_n 2, 2, 0, 0, []),
  (133, 1, .iadd, 0, 0, 0, []),
  (134, 1, .iaload, 0, 0, 0, []),
  (135, 1, .iastore, 0, 0, 0, []),
  (136, 3, .iinc 2 1, 2, 0, 1, []),
  (139, 3, .goto (-30), 63, 0, 0, []),
  (142, 1, .aload_n 0, 0, 0, 0, []),
  (143, 3, .invokevirtual 184, 207, 0, 0, [1242, 0]),
  (146, 3, .ifCond .lt 6, 87, 0, 0, []),
  (149, 3, .goto 16, 95, 0, 0, []),
  (152, 1, .iload_n 1, 1, 0, 0, []),
  (153, 3, .ifCond .le 9, 93, 0, 0, []),
  (156, 1, .aload_n 0, 0, 0, 0, []),
  (157, 1, .iload_n 1, 1, 0, 0, []),
  (158, 3, .invokevirtual 234, 213, 1, 0, [1370, 0]),
  (161, 1, .pop, 0, 0, 0, []),
  (162, 2, .bipush (-6), 0, 0, (-6), []),
  (164, 1, .ireturn, 0, 0, 0, []),
  (165, 3, .iinc 1 1, 1, 0, 1, []),
  (168, 3, .goto (-69), 57, 0, 0, []),
  (171, 1, .aload_n 0, 0, 0, 0, []),
  (172, 3, .getfield 17, 11, 2, 0, [1036]),
  (175, 1, .iconst 0, 0, 0, 0, []),
  (176, 1, .iaload, 0, 0, 0, []),
  (177, 1, .ireturn, 0, 0, 0, [])])
def tw_M236 : tw_Meth := (yX12_matches, cX12_matches, 5, (some .int), 1, 11, 1, [1374, 66, 1372, 1373], [
  (0, 1, .aload_n 0, 0, 0, 0, []),
  (1, 1, .iload_n 1, 1, 0, 0, []),
  (2, 3, .invokevirtual 193, 185, 1, 0, [1284, 0]),
  (5, 3, .ifCond .ne 5, 6, 0, 0, []),
  (8, 1, .iconst (-1), 0, 0, (-1), []),
  (9, 1, .ireturn, 0, 0, 0, []),
  (10, 1, .iconst 0, 0, 0, 0, []),
  (11, 1, .istore_n 2, 2, 0, 0, []),
  (12, 1, .iconst 0, 0, 0, 0, []),
  (13, 1, .istore_n 3, 3, 0, 0, []),
  (14, 1, .iload_n 3, 3, 0, 0, []),
  (15, 1, .aload_n 0, 0, 0, 0, []),
  (16, 3, .getfield 215, 11, 32, 0, [1066]),
  (19, 3, .if_icmp .ge 73, 54, 0, 0, []),
  (22, 1, .iload_n 1, 1, 0, 0, []),
  (23, 1, .iload_n 3, 3, 0, 0, []),
  (24, 1, .iadd, 0, 0, 0, []),
  (25, 1, .aload_n 0, 0, 0, 0, []),
  (26, 3, .getfield 17, 11, 2, 0, [1036]),
  (29, 1, .iconst 0, 0, 0, 0, []),
  (30, 1, .iaload, 0, 0, 0, []),
  (31, 3, .if_icmp .ge 61, 54, 0, 0, []),
  (34, 1, .iconst 0, 0, 0, 0, []),
  (35, 2, .istore 4, 4, 0, 0, []),
  (37, 2, .iload 4, 4, 0, 0, []),
  (39, 1, .aload_n 0, 0, 0, 0, []),
  (40, 3, .getfield 13, 11, 1, 0, [1035]),
  (43, 1, .iconst 0, 0, 0, 0, []),
  (44, 1, .iaload, 0, 0, 0, []),
  (45, 3, .if_icmp .ge 41, 52, 0, 0, []),
  (48, 1, .aload_n 0, 0, 0, 0, []),
  (49, 3, .getfield 32, 11, 7, 0, [1041]),
  (52, 2, .bipush 10, 0, 0, 10, []),
  (54, 1, .iload_n 1, 1, 0, 0, []),
  (55, 1, .iload_n 3, 3, 0, 0, []),
  (56, 1, .iadd, 0, 0, 0, []),
  (57, 1, .imul, 0, 0, 0, []),
  (58, 2, .iload 4, 4, 0, 0, []),
  (60, 1, .iadd, 0, 0, 0, []),
  (61, 1, .iaload, 0, 0, 0, []),
  (62, 1, .aload_n 0, 0, 0, 0, []),
  (63, 3, .getfield 86, 11, 33, 0, [1067]),
  (66, 2, .bipush 10, 0, 0, 10, []),
  (68, 1, .iload_n 3, 3, 0, 0, []),
  (69, 1, .imul, 0, 0, 0, []),
  (70, 2, .iload 4, 4, 0, 0, []),
  (72, 1, .iadd, 0, 0, 0, []),
  (73, 1, .iaload, 0, 0, 0, []),
  (74, 3, .if_icmp .ne 6, 50, 0, 0, []),
  (77, 3, .iinc 2 1, 2, 0, 1, []),
  (80, 3, .iinc 4 1, 4, 0, 1, []),
  (83, 3, .goto (-46), 24, 0, 0, []),
  (86, 3, .iinc 3 1, 3, 0, 1, []),
  (89, 3, .goto (-75), 10, 0, 0, []),
  (92, 1, .iload_n 2, 2, 0, 0, []),
  (93, 1, .ireturn, 0, 0, 0, [])])
def tw_M237 : tw_Meth := (yX12_alikeIn, cX12_alikeIn, 5, (some .int), 1, 11, 2, [1382, 66, 1381, 50], [
  (0, 1, .iconst 0, 0, 0, 0, []),
  (1, 1, .istore_n 3, 3, 0, 0, []),
  (2, 1, .iconst 0, 0, 0, 0, []),
  (3, 2, .istore 4, 4, 0, 0, []),
  (5, 2, .iload 4, 4, 0, 0, []),
  (7, 1, .aload_n 0, 0, 0, 0, []),
  (8, 3, .getfield 13, 11, 1, 0, [1035]),
  (11, 1, .iconst 0, 0, 0, 0, []),
  (12, 1, .iaload, 0, 0, 0, []),
  (13, 3, .if_icmp .ge 39, 30, 0, 0, []),
  (16, 1, .aload_n 0, 0, 0, 0, []),
  (17, 3, .getfield 32, 11, 7, 0, [1041]),
  (20, 2, .bipush 10, 0, 0, 10, []),
  (22, 1, .iload_n 1, 1, 0, 0, []),
  (23, 1, .imul, 0, 0, 0, []),
  (24, 2, .iload 4, 4, 0, 0, []),
  (26, 1, .iadd, 0, 0, 0, []),
  (27, 1, .iaload, 0, 0, 0, []),
  (28, 1, .aload_n 0, 0, 0, 0, []),
  (29, 3, .getfield 32, 11, 7, 0, [1041]),
  (32, 2, .bipush 10, 0, 0, 10, []),
  (34, 1, .iload_n 2, 2, 0, 0, []),
  (35, 1, .imul, 0, 0, 0, []),
  (36, 2, .iload 4, 4, 0, 0, []),
  (38, 1, .iadd, 0, 0, 0, []),
  (39, 1, .iaload, 0, 0, 0, []),
  (40, 3, .if_icmp .ne 6, 28, 0, 0, []),
  (43, 3, .iinc 3 1, 3, 0, 1, []),
  (46, 3, .iinc 4 1, 4, 0, 1, []),
  (49, 3, .goto (-44), 4, 0, 0, []),
  (52, 1, .iload_n 3, 3, 0, 0, []),
  (53, 1, .ireturn, 0, 0, 0, [])])
def tw_M238 : tw_Meth := (yX12_period, cX12_period, 4, (some .int), 1, 11, 0, [1378, 66, 1376, 1377], [
  (0, 1, .iconst 1, 0, 0, 1, []),
  (1, 1, .istore_n 1, 1, 0, 0, []),
  (2, 1, .iload_n 1, 1, 0, 0, []),
  (3, 1, .aload_n 0, 0, 0, 0, []),
  (4, 3, .getfield 17, 11, 2, 0, [1036]),
  (7, 1, .iconst 0, 0, 0, 0, []),
  (8, 1, .iaload, 0, 0, 0, []),
  (9, 3, .if_icmp .ge 62, 45, 0, 0, []),
  (12, 1, .iconst 1, 0, 0, 1, []),
  (13, 1, .istore_n 2, 2, 0, 0, []),
  (14, 1, .iconst 0, 0, 0, 0, []),
  (15, 1, .istore_n 3, 3, 0, 0, []),
  (16, 1, .iload_n 3, 3, 0, 0, []),
  (17, 1, .iload_n 1, 1, 0, 0, []),
  (18, 1, .iadd, 0, 0, 0, []),
  (19, 1, .aload_n 0, 0, 0, 0, []),
  (20, 3, .getfield 17, 11, 2, 0, [1036]),
  (23, 1, .iconst 0, 0, 0, 0, []),
  (24, 1, .iaload, 0, 0, 0, []),
  (25, 3, .if_icmp .ge 34, 39, 0, 0, []),
  (28, 1, .iload_n 2, 2, 0, 0, []),
  (29, 1, .aload_n 0, 0, 0, 0, []),
  (30, 1, .iload_n 3, 3, 0, 0, []),
  (31, 1, .iload_n 3, 3, 0, 0, []),
  (32, 1, .iload_n 1, 1, 0, 0, []),
  (33, 1, .iadd, 0, 0, 0, []),
  (34, 3, .invokevirtual 237, 237, 2, 0, [1379, 0]),
  (37, 1, .aload_n 0, 0, 0, 0, []),
  (38, 3, .getfield 13, 11, 1, 0, [1035]),
  (41, 1, .iconst 0, 0, 0, 0, []),
  (42, 1, .iaload, 0, 0, 0, []),
  (43, 3, .if_icmp .ne 7, 34, 0, 0, []),
  (46, 1, .iconst 1, 0, 0, 1, []),
  (47, 3, .goto 4, 35, 0, 0, []),
  (50, 1, .iconst 0, 0, 0, 0, []),
  (51, 1, .iand, 0, 0, 0, []),
  (52, 1, .istore_n 2, 2, 0, 0, []),
  (53, 3, .iinc 3 1, 3, 0, 1, []),
  (56, 3, .goto (-40), 12, 0, 0, []),
  (59, 1, .iload_n 2, 2, 0, 0, []),
  (60, 3, .ifCond .eq 5, 43, 0, 0, []),
  (63, 1, .iload_n 1, 1, 0, 0, []),
  (64, 1, .ireturn, 0, 0, 0, []),
  (65, 3, .iinc 1 1, 1, 0, 1, []),
  (68, 3, .goto (-66), 2, 0, 0, []),
  (71, 2, .bipush (-5), 0, 0, (-5), []),
  (73, 1, .ireturn, 0, 0, 0, [])])
def tw_M239 : tw_Meth := (yX12_mirrors, cX12_mirrors, 5, (some .int), 1, 11, 0, [1386, 66, 1384, 1385], [
  (0, 1, .iconst 0, 0, 0, 0, []),
  (1, 1, .istore_n 1, 1, 0, 0, []),
  (2, 1, .iconst 0, 0, 0, 0, []),
  (3, 1, .istore_n 2, 2, 0, 0, []),
  (4, 1, .iload_n 2, 2, 0, 0, []),
  (5, 1, .aload_n 0, 0, 0, 0, []),
  (6, 3, .getfield 17, 11, 2, 0, [1036]),
  (9, 1, .iconst 0, 0, 0, 0, []),
  (10, 1, .iaload, 0, 0, 0, []),
  (11, 3, .if_icmp .ge 82, 57, 0, 0, []),
  (14, 1, .iconst 1, 0, 0, 1, []),
  (15, 1, .istore_n 3, 3, 0, 0, []),
  (16, 1, .iconst 0, 0, 0, 0, []),
  (17, 2, .istore 4, 4, 0, 0, []),
  (19, 2, .iload 4, 4, 0, 0, []),
  (21, 1, .aload_n 0, 0, 0, 0, []),
  (22, 3, .getfield 13, 11, 1, 0, [1035]),
  (25, 1, .iconst 0, 0, 0, 0, []),
  (26, 1, .iaload, 0, 0, 0, []),
  (27, 3, .if_icmp .ge 53, 52, 0, 0, []),
  (30, 1, .iload_n 3, 3, 0, 0, []),
  (31, 1, .aload_n 0, 0, 0, 0, []),
  (32, 3, .getfield 32, 11, 7, 0, [1041]),
  (35, 2, .bipush 10, 0, 0, 10, []),
  (37, 1, .iload_n 2, 2, 0, 0, []),
  (38, 1, .imul, 0, 0, 0, []),
  (39, 2, .iload 4, 4, 0, 0, []),
  (41, 1, .iadd, 0, 0, 0, []),
  (42, 1, .iaload, 0, 0, 0, []),
  (43, 1, .aload_n 0, 0, 0, 0, []),
  (44, 3, .getfield 32, 11, 7, 0, [1041]),
  (47, 2, .bipush 10, 0, 0, 10, []),
  (49, 1, .iload_n 2, 2, 0, 0, []),
  (50, 1, .imul, 0, 0, 0, []),
  (51, 1, .aload_n 0, 0, 0, 0, []),
  (52, 3, .getfield 13, 11, 1, 0, [1035]),
  (55, 1, .iconst 0, 0, 0, 0, []),
  (56, 1, .iaload, 0, 0, 0, []),
  (57, 1, .iadd, 0, 0, 0, []),
  (58, 1, .iconst 1, 0, 0, 1, []),
  (59, 1, .isub, 0, 0, 0, []),
  (60, 2, .iload 4, 4, 0, 0, []),
  (62, 1, .isub, 0, 0, 0, []),
  (63, 1, .iaload, 0, 0, 0, []),
  (64, 3, .if_icmp .ne 7, 47, 0, 0, []),
  (67, 1, .iconst 1, 0, 0, 1, []),
  (68, 3, .goto 4, 48, 0, 0, []),
  (71, 1, .iconst 0, 0, 0, 0, []),
  (72, 1, .iand, 0, 0, 0, []),
  (73, 1, .istore_n 3, 3, 0, 0, []),
  (74, 3, .iinc 4 1, 4, 0, 1, []),
  (77, 3, .goto (-58), 14, 0, 0, []),
  (80, 1, .iload_n 3, 3, 0, 0, []),
  (81, 3, .ifCond .eq 6, 55, 0, 0, []),
  (84, 3, .iinc 1 1, 1, 0, 1, []),
  (87, 3, .iinc 2 1, 2, 0, 1, []),
  (90, 3, .goto (-86), 4, 0, 0, []),
  (93, 1, .iload_n 1, 1, 0, 0, []),
  (94, 1, .ireturn, 0, 0, 0, [])])
def tw_M240 : tw_Meth := (yX12_run, cX12_run, 6, (some .int), 1, 11, 1, [1390, 66, 1388, 1389], [
  (0, 1, .iload_n 1, 1, 0, 0, []),
  (1, 3, .invokestatic 168, 186, 1, 0, [1231, 0]),
  (4, 3, .ifCond .ne 6, 5, 0, 0, []),
  (7, 2, .bipush (-2), 0, 0, (-2), []),
  (9, 1, .ireturn, 0, 0, 0, []),
  (10, 1, .iconst 0, 0, 0, 0, []),
  (11, 1, .istore_n 2, 2, 0, 0, []),
  (12, 1, .iconst 0, 0, 0, 0, []),
  (13, 1, .istore_n 3, 3, 0, 0, []),
  (14, 1, .iload_n 3, 3, 0, 0, []),
  (15, 1, .aload_n 0, 0, 0, 0, []),
  (16, 3, .getfield 13, 11, 1, 0, [1035]),
  (19, 1, .iconst 0, 0, 0, 0, []),
  (20, 1, .iaload, 0, 0, 0, []),
  (21, 3, .if_icmp .ge 65, 49, 0, 0, []),
  (24, 1, .iconst 0, 0, 0, 0, []),
  (25, 2, .istore 4, 4, 0, 0, []),
  (27, 1, .iconst 0, 0, 0, 0, []),
  (28, 2, .istore 5, 5, 0, 0, []),
  (30, 2, .iload 5, 5, 0, 0, []),
  (32, 1, .aload_n 0, 0, 0, 0, []),
  (33, 3, .getfield 17, 11, 2, 0, [1036]),
  (36, 1, .iconst 0, 0, 0, 0, []),
  (37, 1, .iaload, 0, 0, 0, []),
  (38, 3, .if_icmp .ge 42, 47, 0, 0, []),
  (41, 1, .aload_n 0, 0, 0, 0, []),
  (42, 3, .getfield 32, 11, 7, 0, [1041]),
  (45, 2, .bipush 10, 0, 0, 10, []),
  (47, 2, .iload 5, 5, 0, 0, []),
  (49, 1, .imul, 0, 0, 0, []),
  (50, 1, .iload_n 3, 3, 0, 0, []),
  (51, 1, .iadd, 0, 0, 0, []),
  (52, 1, .iaload, 0, 0, 0, []),
  (53, 1, .iload_n 1, 1, 0, 0, []),
  (54, 3, .if_icmp .ne 10, 39, 0, 0, []),
  (57, 2, .iload 4, 4, 0, 0, []),
  (59, 1, .iconst 1, 0, 0, 1, []),
  (60, 1, .iadd, 0, 0, 0, []),
  (61, 3, .goto 4, 40, 0, 0, []),
  (64, 1, .iconst 0, 0, 0, 0, []),
  (65, 2, .istore 4, 4, 0, 0, []),
  (67, 1, .iload_n 2, 2, 0, 0, []),
  (68, 2, .iload 4, 4, 0, 0, []),
  (70, 3, .invokestatic 155, 262, 2, 0, [1214, 0]),
  (73, 1, .istore_n 2, 2, 0, 0, []),
  (74, 3, .iinc 5 1, 5, 0, 1, []),
  (77, 3, .goto (-47), 19, 0, 0, []),
  (80, 3, .iinc 3 1, 3, 0, 1, []),
  (83, 3, .goto (-69), 9, 0, 0, []),
  (86, 1, .iload_n 2, 2, 0, 0, []),
  (87, 1, .ireturn, 0, 0, 0, [])])
def tw_M241 : tw_Meth := (yX12_countOf, cX12_countOf, 6, (some .int), 1, 11, 2, [1398, 66, 1397, 51], [
  (0, 1, .iconst 0, 0, 0, 0, []),
  (1, 1, .istore_n 3, 3, 0, 0, []),
  (2, 1, .iconst 0, 0, 0, 0, []),
  (3, 2, .istore 4, 4, 0, 0, []),
  (5, 2, .iload 4, 4, 0, 0, []),
  (7, 1, .aload_n 0, 0, 0, 0, []),
  (8, 3, .getfield 17, 11, 2, 0, [1036]),
  (11, 1, .iconst 0, 0, 0, 0, []),
  (12, 1, .iaload, 0, 0, 0, []),
  (13, 3, .if_icmp .ge 46, 32, 0, 0, []),
  (16, 1, .iconst 0, 0, 0, 0, []),
  (17, 2, .istore 5, 5, 0, 0, []),
  (19, 2, .iload 5, 5, 0, 0, []),
  (21, 1, .aload_n 0, 0, 0, 0, []),
  (22, 3, .getfield 13, 11, 1, 0, [1035]),
  (25, 1, .iconst 0, 0, 0, 0, []),
  (26, 1, .iaload, 0, 0, 0, []),
  (27, 3, .if_icmp .ge 26, 30, 0, 0, []),
  (30, 1, .aload_n 2, 2, 0, 0, []),
  (31, 2, .bipush 10, 0, 0, 10, []),
  (33, 2, .iload 4, 4, 0, 0, []),
  (35, 1, .imul, 0, 0, 0, []),
  (36, 2, .iload 5, 5, 0, 0, []),
  (38, 1, .iadd, 0, 0, 0, []),
  (39, 1, .iaload, 0, 0, 0, []),
  (40, 1, .iload_n 1, 1, 0, 0, []),
  (41, 3, .if_icmp .ne 6, 28, 0, 0, []),
  (44, 3, .iinc 3 1, 3, 0, 1, []),
  (47, 3, .iinc 5 1, 5, 0, 1, []),
  (50, 3, .goto (-31), 12, 0, 0, []),
  (53, 3, .iinc 4 1, 4, 0, 1, []),
  (56, 3, .goto (-51), 4, 0, 0, []),
  (59, 1, .iload_n 3, 3, 0, 0, []),
  (60, 1, .ireturn, 0, 0, 0, [])])
def tw_M242 : tw_Meth := (yX12_colours, cX12_colours, 5, (some .int), 1, 11, 2, [1394, 66, 1392, 1393], [
  (0, 1, .iload_n 1, 1, 0, 0, []),
  (1, 3, .invokestatic 168, 186, 1, 0, [1231, 0]),
  (4, 3, .ifCond .ne 6, 5, 0, 0, []),
  (7, 2, .bipush (-2), 0, 0, (-2), []),
  (9, 1, .ireturn, 0, 0, 0, []),
  (10, 1, .iload_n 2, 2, 0, 0, []),
  (11, 3, .ifCond .ne 13, 13, 0, 0, []),
  (14, 1, .aload_n 0, 0, 0, 0, []),
  (15, 1, .iload_n 1, 1, 0, 0, []),
  (16, 1, .aload_n 0, 0, 0, 0, []),
  (17, 3, .getfield 32, 11, 7, 0, [1041]),
  (20, 3, .invokevirtual 240, 241, 2, 0, [1395, 0]),
  (23, 1, .ireturn, 0, 0, 0, []),
  (24, 1, .iload_n 2, 2, 0, 0, []),
  (25, 1, .iconst 1, 0, 0, 1, []),
  (26, 3, .if_icmp .ne 13, 22, 0, 0, []),
  (29, 1, .aload_n 0, 0, 0, 0, []),
  (30, 1, .iload_n 1, 1, 0, 0, []),
  (31, 1, .aload_n 0, 0, 0, 0, []),
  (32, 3, .getfield 35, 11, 8, 0, [1042]),
  (35, 3, .invokevirtual 240, 241, 2, 0, [1395, 0]),
  (38, 1, .ireturn, 0, 0, 0, []),
  (39, 1, .iload_n 2, 2, 0, 0, []),
  (40, 1, .iconst 2, 0, 0, 2, []),
  (41, 3, .if_icmp .eq 5, 27, 0, 0, []),
  (44, 1, .iconst (-1), 0, 0, (-1), []),
  (45, 1, .ireturn, 0, 0, 0, []),
  (46, 1, .iconst 0, 0, 0, 0, []),
  (47, 1, .istore_n 3, 3, 0, 0, []),
  (48, 1, .iconst 0, 0, 0, 0, []),
  (49, 2, .istore 4, 4, 0, 0, []),
  (51, 2, .iload 4, 4, 0, 0, []),
  (53, 1, .iconst 4, 0, 0, 4, []),
  (54, 1, .aload_n 0, 0, 0, 0, []),
  (55, 3, .getfield 13, 11, 1, 0, [1035]),
  (58, 1, .iconst 0, 0, 0, 0, []),
  (59, 1, .iaload, 0, 0, 0, []),
  (60, 1, .imul, 0, 0, 0, []),
  (61, 3, .if_icmp .ge 23, 48, 0, 0, []),
  (64, 1, .aload_n 0, 0, 0, 0, []),
  (65, 3, .getfield 20, 11, 3, 0, [1037]),
  (68, 2, .iload 4, 4, 0, 0, []),
  (70, 1, .iaload, 0, 0, 0, []),
  (71, 1, .iload_n 1, 1, 0, 0, []),
  (72, 3, .if_icmp .ne 6, 46, 0, 0, []),
  (75, 3, .iinc 3 1, 3, 0, 1, []),
  (78, 3, .iinc 4 1, 4, 0, 1, []),
  (81, 3, .goto (-30), 31, 0, 0, []),
  (84, 1, .iload_n 3, 3, 0, 0, []),
  (85, 1, .ireturn, 0, 0, 0, [])])
def tw_M243 : tw_Meth := (yX12_isAhead, cX12_isAhead, 5, (some .boolean), 1, 11, 2, [1406, 66, 1405, 52], [
  (0, 1, .aload_n 0, 0, 0, 0, []),
  (1, 1, .iload_n 1, 1, 0, 0, []),
  (2, 1, .aload_n 0, 0, 0, 0, []),
  (3, 3, .getfield 32, 11, 7, 0, [1041]),
  (6, 3, .invokevirtual 240, 241, 2, 0, [1395, 0]),
  (9, 1, .istore_n 3, 3, 0, 0, []),
  (10, 1, .aload_n 0, 0, 0, 0, []),
  (11, 1, .iload_n 2, 2, 0, 0, []),
  (12, 1, .aload_n 0, 0, 0, 0, []),
  (13, 3, .getfield 32, 11, 7, 0, [1041]),
  (16, 3, .invokevirtual 240, 241, 2, 0, [1395, 0]),
  (19, 2, .istore 4, 4, 0, 0, []),
  (21, 1, .iload_n 3, 3, 0, 0, []),
  (22, 2, .iload 4, 4, 0, 0, []),
  (24, 3, .if_icmp .eq 15, 22, 0, 0, []),
  (27, 1, .iload_n 3, 3, 0, 0, []),
  (28, 2, .iload 4, 4, 0, 0, []),
  (30, 3, .if_icmp .le 7, 20, 0, 0, []),
  (33, 1, .iconst 1, 0, 0, 1, []),
  (34, 3, .goto 4, 21, 0, 0, []),
  (37, 1, .iconst 0, 0, 0, 0, []),
  (38, 1, .ireturn, 1, 0, 0, []),
  (39, 1, .aload_n 0, 0, 0, 0, []),
  (40, 1, .iload_n 1, 1, 0, 0, []),
  (41, 1, .aload_n 0, 0, 0, 0, []),
  (42, 3, .getfield 35, 11, 8, 0, [1042]),
  (45, 3, .invokevirtual 240, 241, 2, 0, [1395, 0]),
  (48, 1, .istore_n 3, 3, 0, 0, []),
  (49, 1, .aload_n 0, 0, 0, 0, []),
  (50, 1, .iload_n 2, 2, 0, 0, []),
  (51, 1, .aload_n 0, 0, 0, 0, []),
  (52, 3, .getfield 35, 11, 8, 0, [1042]),
  (55, 3, .invokevirtual 240, 241, 2, 0, [1395, 0]),
  (58, 2, .istore 4, 4, 0, 0, []),
  (60, 1, .iload_n 3, 3, 0, 0, []),
  (61, 2, .iload 4, 4, 0, 0, []),
  (63, 3, .if_icmp .eq 17, 44, 0, 0, []),
  (66, 1, .iload_n 3, 3, 0, 0, []),
  (67, 2, .iload 4, 4, 0, 0, []),
  (69, 3, .if_icmp .ge 7, 42, 0, 0, []),
  (72, 1, .iconst 1, 0, 0, 1, []),
  (73, 3, .goto 17, 50, 0, 0, []),
  (76, 1, .iconst 0, 0, 0, 0, []),
  (77, 3, .goto 13, 50, 0, 0, []),
  (80, 1, .iload_n 1, 1, 0, 0, []),
  (81, 1, .iload_n 2, 2, 0, 0, []),
  (82, 3, .if_icmp .ge 7, 49, 0, 0, []),
  (85, 1, .iconst 1, 0, 0, 1, []),
  (86, 3, .goto 4, 50, 0, 0, []),
  (89, 1, .iconst 0, 0, 0, 0, []),
  (90, 1, .ireturn, 1, 0, 0, [])])
def tw_M244 : tw_Meth := (yX12_ranked, cX12_ranked, 5, (some .int), 1, 11, 1, [1402, 66, 1400, 1401], [
  (0, 1, .iconst 0, 0, 0, 0, []),
  (1, 1, .istore_n 2, 2, 0, 0, []),
  (2, 1, .iload_n 2, 2, 0, 0, []),
  (3, 2, .bipush 10, 0, 0, 10, []),
  (5, 3, .if_icmp .ge 53, 30, 0, 0, []),
  (8, 1, .iconst 0, 0, 0, 0, []),
  (9, 1, .istore_n 3, 3, 0, 0, []),
  (10, 1, .iconst 0, 0, 0, 0, []),
  (11, 2, .istore 4, 4, 0, 0, []),
  (13, 2, .iload 4, 4, 0, 0, []),
  (15, 2, .bipush 10, 0, 0, 10, []),
  (17, 3, .if_icmp .ge 28, 23, 0, 0, []),
  (20, 2, .iload 4, 4, 0, 0, []),
  (22, 1, .iload_n 2, 2, 0, 0, []),
  (23, 3, .if_icmp .eq 16, 21, 0, 0, []),
  (26, 1, .aload_n 0, 0, 0, 0, []),
  (27, 2, .iload 4, 4, 0, 0, []),
  (29, 1, .iload_n 2, 2, 0, 0, []),
  (30, 3, .invokevirtual 244, 243, 2, 0, [1403, 0]),
  (33, 3, .ifCond .eq 6, 21, 0, 0, []),
  (36, 3, .iinc 3 1, 3, 0, 1, []),
  (39, 3, .iinc 4 1, 4, 0, 1, []),
  (42, 3, .goto (-29), 9, 0, 0, []),
  (45, 1, .iload_n 3, 3, 0, 0, []),
  (46, 1, .iload_n 1, 1, 0, 0, []),
  (47, 3, .if_icmp .ne 5, 28, 0, 0, []),
  (50, 1, .iload_n 2, 2, 0, 0, []),
  (51, 1, .ireturn, 0, 0, 0, []),
  (52, 3, .iinc 2 1, 2, 0, 1, []),
  (55, 3, .goto (-53), 2, 0, 0, []),
  (58, 1, .iconst (-1), 0, 0, (-1), []),
  (59, 1, .ireturn, 0, 0, 0, [])])
def tw_M245 : tw_Meth := (yX12_alike, cX12_alike, 3, (some .int), 1, 11, 2, [1410, 66, 1408, 1409], [
  (0, 1, .aload_n 0, 0, 0, 0, []),
  (1, 1, .iload_n 1, 1, 0, 0, []),
  (2, 3, .invokevirtual 193, 185, 1, 0, [1284, 0]),
  (5, 3, .ifCond .eq 20, 13, 0, 0, []),
  (8, 1, .aload_n 0, 0, 0, 0, []),
  (9, 1, .iload_n 2, 2, 0, 0, []),
  (10, 3, .invokevirtual 193, 185, 1, 0, [1284, 0]),
  (13, 3, .ifCond .eq 12, 13, 0, 0, []),
  (16, 1, .aload_n 0, 0, 0, 0, []),
  (17, 1, .iload_n 1, 1, 0, 0, []),
  (18, 1, .iload_n 2, 2, 0, 0, []),
  (19, 3, .invokevirtual 237, 237, 2, 0, [1379, 0]),
  (22, 3, .goto 4, 14, 0, 0, []),
  (25, 1, .iconst (-1), 0, 0, (-1), []),
  (26, 1, .ireturn, 0, 0, 0, [])])
def tw_M246 : tw_Meth := (yX12_faces, cX12_faces, 4, (some .int), 1, 11, 1, [1414, 66, 1412, 1413], [
  (0, 1, .aload_n 0, 0, 0, 0, []),
  (1, 1, .iload_n 1, 1, 0, 0, []),
  (2, 3, .invokevirtual 193, 185, 1, 0, [1284, 0]),
  (5, 3, .ifCond .ne 5, 6, 0, 0, []),
  (8, 1, .iconst (-1), 0, 0, (-1), []),
  (9, 1, .ireturn, 0, 0, 0, []),
  (10, 1, .iconst 0, 0, 0, 0, []),
  (11, 1, .istore_n 2, 2, 0, 0, []),
  (12, 1, .iconst 0, 0, 0, 0, []),
  (13, 1, .istore_n 3, 3, 0, 0, []),
  (14, 1, .iload_n 3, 3, 0, 0, []),
  (15, 1, .aload_n 0, 0, 0, 0, []),
  (16, 3, .getfield 13, 11, 1, 0, [1035]),
  (19, 1, .iconst 0, 0, 0, 0, []),
  (20, 1, .iaload, 0, 0, 0, []),
  (21, 3, .if_icmp .ge 37, 36, 0, 0, []),
  (24, 1, .aload_n 0, 0, 0, 0, []),
  (25, 3, .getfield 32, 11, 7, 0, [1041]),
  (28, 2, .bipush 10, 0, 0, 10, []),
  (30, 1, .iload_n 1, 1, 0, 0, []),
  (31, 1, .imul, 0, 0, 0, []),
  (32, 1, .iload_n 3, 3, 0, 0, []),
  (33, 1, .iadd, 0, 0, 0, []),
  (34, 1, .iaload, 0, 0, 0, []),
  (35, 1, .aload_n 0, 0, 0, 0, []),
  (36, 3, .getfield 35, 11, 8, 0, [1042]),
  (39, 2, .bipush 10, 0, 0, 10, []),
  (41, 1, .iload_n 1, 1, 0, 0, []),
  (42, 1, .imul, 0, 0, 0, []),
  (43, 1, .iload_n 3, 3, 0, 0, []),
  (44, 1, .iadd, 0, 0, 0, []),
  (45, 1, .iaload, 0, 0, 0, []),
  (46, 3, .if_icmp .ne 6, 34, 0, 0, []),
  (49, 3, .iinc 2 1, 2, 0, 1, []),
  (52, 3, .iinc 3 1, 3, 0, 1, []),
  (55, 3, .goto (-41), 10, 0, 0, []),
  (58, 1, .iload_n 2, 2, 0, 0, []),
  (59, 1, .ireturn, 0, 0, 0, [])])
def tw_M247 : tw_Meth := (yX12_spell, cX12_spell, 3, (some .int), 1, 11, 0, [1418, 66, 1416, 1417], [
  (0, 1, .aload_n 0, 0, 0, 0, []),
  (1, 1, .iconst 0, 0, 0, 0, []),
  (2, 3, .putfield 248, 11, 37, 0, [1071]),
  (5, 1, .iconst 0, 0, 0, 0, []),
  (6, 1, .istore_n 1, 1, 0, 0, []),
  (7, 1, .iload_n 1, 1, 0, 0, []),
  (8, 1, .aload_n 0, 0, 0, 0, []),
  (9, 3, .getfield 13, 11, 1, 0, [1035]),
  (12, 1, .iconst 0, 0, 0, 0, []),
  (13, 1, .iaload, 0, 0, 0, []),
  (14, 3, .if_icmp .ge 108, 72, 0, 0, []),
  (17, 1, .iload_n 1, 1, 0, 0, []),
  (18, 3, .ifCond .le 24, 25, 0, 0, []),
  (21, 1, .aload_n 0, 0, 0, 0, []),
  (22, 3, .getfield 95, 11, 36, 0, [1070]),
  (25, 1, .aload_n 0, 0, 0, 0, []),
  (26, 3, .getfield 248, 11, 37, 0, [1071]),
  (29, 2, .bipush 59, 0, 0, 59, []),
  (31, 1, .iastore, 0, 0, 0, []),
  (32, 1, .aload_n 0, 0, 0, 0, []),
  (33, 1, .dup, 0, 0, 0, []),
  (34, 3, .getfield 248, 11, 37, 0, [1071]),
  (37, 1, .iconst 1, 0, 0, 1, []),
  (38, 1, .iadd, 0, 0, 0, []),
  (39, 3, .putfield 248, 11, 37, 0, [1071]),
  (42, 1, .iconst 0, 0, 0, 0, []),
  (43, 1, .istore_n 2, 2, 0, 0, []),
  (44, 1, .iload_n 2, 2, 0, 0, []),
  (45, 1, .iconst 4, 0, 0, 4, []),
  (46, 3, .if_icmp .ge 33, 49, 0, 0, []),
  (49, 1, .aload_n 0, 0, 0, 0, []),
  (50, 3, .getfield 95, 11, 36, 0, [1070]),
  (53, 1, .aload_n 0, 0, 0, 0, []),
  (54, 3, .getfield 248, 11, 37, 0, [1071]),
  (57, 1, .iload_n 2, 2, 0, 0, []),
  (58, 1, .iadd, 0, 0, 0, []),
  (59, 2, .bipush 97, 0, 0, 97, []),
  (61, 1, .aload_n 0, 0, 0, 0, []),
  (62, 3, .getfield 20, 11, 3, 0, [1037]),
  (65, 1, .iconst 4, 0, 0, 4, []),
  (66, 1, .iload_n 1, 1, 0, 0, []),
  (67, 1, .imul, 0, 0, 0, []),
  (68, 1, .iload_n 2, 2, 0, 0, []),
  (69, 1, .iadd, 0, 0, 0, []),
  (70, 1, .iaload, 0, 0, 0, []),
  (71, 1, .iadd, 0, 0, 0, []),
  (72, 1, .iastore, 0, 0, 0, []),
  (73, 3, .iinc 2 1, 2, 0, 1, []),
  (76, 3, .goto (-32), 27, 0, 0, []),
  (79, 1, .aload_n 0, 0, 0, 0, []),
  (80, 3, .getfield 95, 11, 36, 0, [1070]),
  (83, 1, .aload_n 0, 0, 0, 0, []),
  (84, 3, .getfield 248, 11, 37, 0, [1071]),
  (87, 1, .iconst 4, 0, 0, 4, []),
  (88, 1, .iadd, 0, 0, 0, []),
  (89, 1, .aload_n 0, 0, 0, 0, []),
  (90, 3, .getfield 23, 11, 4, 0, [1038]),
  (93, 1, .iload_n 1, 1, 0, 0, []),
  (94, 1, .iaload, 0, 0, 0, []),
  (95, 3, .ifCond .ne 8, 62, 0, 0, []),
  (98, 2, .bipush 83, 0, 0, 83, []),
  (100, 3, .goto 5, 63, 0, 0, []),
  (103, 2, .bipush 90, 0, 0, 90, []),
  (105, 1, .iastore, 0, 0, 0, []),
  (106, 1, .aload_n 0, 0, 0, 0, []),
  (107, 1, .dup, 0, 0, 0, []),
  (108, 3, .getfield 248, 11, 37, 0, [1071]),
  (111, 1, .iconst 5, 0, 0, 5, []),
  (112, 1, .iadd, 0, 0, 0, []),
  (113, 3, .putfield 248, 11, 37, 0, [1071]),
  (116, 3, .iinc 1 1, 1, 0, 1, []),
  (119, 3, .goto (-112), 5, 0, 0, []),
  (122, 1, .aload_n 0, 0, 0, 0, []),
  (123, 3, .getfield 248, 11, 37, 0, [1071]),
  (126, 1, .ireturn, 0, 0, 0, [])])
def tw_M248 : tw_Meth := (yX12_paper, cX12_paper, 2, (some .int), 1, 11, 1, [1422, 66, 1420, 1421], [
  (0, 1, .iload_n 1, 1, 0, 0, []),
  (1, 1, .iconst 0, 0, 0, 0, []),
  (2, 1, .aload_n 0, 0, 0, 0, []),
  (3, 3, .getfield 248, 11, 37, 0, [1071]),
  (6, 1, .iconst 1, 0, 0, 1, []),
  (7, 1, .isub, 0, 0, 0, []),
  (8, 3, .invokestatic 108, 182, 3, 0, [1163, 0]),
  (11, 3, .ifCond .eq 12, 13, 0, 0, []),
  (14, 1, .aload_n 0, 0, 0, 0, []),
  (15, 3, .getfield 95, 11, 36, 0, [1070]),
  (18, 1, .iload_n 1, 1, 0, 0, []),
  (19, 1, .iaload, 0, 0, 0, []),
  (20, 3, .goto 4, 14, 0, 0, []),
  (23, 1, .iconst (-1), 0, 0, (-1), []),
  (24, 1, .ireturn, 0, 0, 0, [])])
def tw_M249 : tw_Meth := (yX12_told, cX12_told, 4, (some .int), 1, 11, 1, [1426, 66, 1424, 1425], [
  (0, 1, .iconst 0, 0, 0, 0, []),
  (1, 1, .istore_n 2, 2, 0, 0, []),
  (2, 1, .iload_n 1, 1, 0, 0, []),
  (3, 45, .tableswitch 136 0 7 #[45, 52, 52, 59, 91, 96, 126, 131], 61, 7, 0, [4, 9, 9, 14, 34, 37, 55, 58]),
  (48, 1, .aload_n 0, 0, 0, 0, []),
  (49, 3, .getfield 13, 11, 1, 0, [1035]),
  (52, 1, .iconst 0, 0, 0, 0, []),
  (53, 1, .iaload, 0, 0, 0, []),
  (54, 1, .ireturn, 0, 0, 0, []),
  (55, 1, .aload_n 0, 0, 0, 0, []),
  (56, 3, .getfield 17, 11, 2, 0, [1036]),
  (59, 1, .iconst 0, 0, 0, 0, []),
  (60, 1, .iaload, 0, 0, 0, []),
  (61, 1, .ireturn, 0, 0, 0, []),
  (62, 1, .iconst 0, 0, 0, 0, []),
  (63, 1, .istore_n 3, 3, 0, 0, []),
  (64, 1, .iload_n 3, 3, 0, 0, []),
  (65, 1, .aload_n 0, 0, 0, 0, []),
  (66, 3, .getfield 13, 11, 1, 0, [1035]),
  (69, 1, .iconst 0, 0, 0, 0, []),
  (70, 1, .iaload, 0, 0, 0, []),
  (71, 3, .if_icmp .ge 21, 32, 0, 0, []),
  (74, 1, .iload_n 2, 2, 0, 0, []),
  (75, 1, .aload_n 0, 0, 0, 0, []),
  (76, 3, .getfield 29, 11, 6, 0, [1040]),
  (79, 1, .iload_n 3, 3, 0, 0, []),
  (80, 1, .iaload, 0, 0, 0, []),
  (81, 3, .invokestatic 251, 261, 1, 0, [1427, 0]),
  (84, 1, .iadd, 0, 0, 0, []),
  (85, 1, .istore_n 2, 2, 0, 0, []),
  (86, 3, .iinc 3 1, 3, 0, 1, []),
  (89, 3, .goto (-25), 16, 0, 0, []),
  (92, 1, .iload_n 2, 2, 0, 0, []),
  (93, 1, .ireturn, 0, 0, 0, []),
  (94, 1, .aload_n 0, 0, 0, 0, []),
  (95, 3, .getfield 215, 11, 32, 0, [1066]),
  (98, 1, .ireturn, 0, 0, 0, []),
  (99, 1, .iconst 0, 0, 0, 0, []),
  (100, 1, .istore_n 3, 3, 0, 0, []),
  (101, 1, .iload_n 3, 3, 0, 0, []),
  (102, 1, .aload_n 0, 0, 0, 0, []),
  (103, 3, .getfield 13, 11, 1, 0, [1035]),
  (106, 1, .iconst 0, 0, 0, 0, []),
  (107, 1, .iaload, 0, 0, 0, []),
  (108, 3, .if_icmp .ge 19, 53, 0, 0, []),
  (111, 1, .iload_n 2, 2, 0, 0, []),
  (112, 1, .aload_n 0, 0, 0, 0, []),
  (113, 1, .iload_n 3, 3, 0, 0, []),
  (114, 3, .invokevirtual 165, 198, 1, 0, [1210, 0]),
  (117, 3, .invokestatic 155, 262, 2, 0, [1214, 0]),
  (120, 1, .istore_n 2, 2, 0, 0, []),
  (121, 3, .iinc 3 1, 3, 0, 1, []),
  (124, 3, .goto (-23), 39, 0, 0, []),
  (127, 1, .iload_n 2, 2, 0, 0, []),
  (128, 1, .ireturn, 0, 0, 0, []),
  (129, 1, .aload_n 0, 0, 0, 0, []),
  (130, 3, .getfield 112, 11, 17, 0, [1051]),
  (133, 1, .ireturn, 0, 0, 0, []),
  (134, 1, .aload_n 0, 0, 0, 0, []),
  (135, 3, .getfield 248, 11, 37, 0, [1071]),
  (138, 1, .ireturn, 0, 0, 0, []),
  (139, 1, .iconst (-1), 0, 0, (-1), []),
  (140, 1, .ireturn, 0, 0, 0, [])])
def tw_M250 : tw_Meth := (yX12_isList, cX12_isList, 1, (some .boolean), 0, 11, 1, [1434, 66, 1433], [
  (0, 1, .iload_n 0, 0, 0, 0, []),
  (1, 1, .iconst 0, 0, 0, 0, []),
  (2, 1, .iconst 3, 0, 0, 3, []),
  (3, 3, .invokestatic 108, 182, 3, 0, [1163, 0]),
  (6, 1, .ireturn, 1, 0, 0, [])])
def tw_M251 : tw_Meth := (yX12_list, cX12_list, 4, (some .int), 1, 11, 2, [1431, 66, 1429, 1430], [
  (0, 1, .iload_n 1, 1, 0, 0, []),
  (1, 3, .invokestatic 254, 250, 1, 0, [1432, 0]),
  (4, 3, .ifCond .ne 5, 5, 0, 0, []),
  (7, 1, .iconst (-1), 0, 0, (-1), []),
  (8, 1, .ireturn, 0, 0, 0, []),
  (9, 1, .iload_n 2, 2, 0, 0, []),
  (10, 2, .bipush 20, 0, 0, 20, []),
  (12, 3, .if_icmp .le 6, 10, 0, 0, []),
  (15, 2, .bipush (-2), 0, 0, (-2), []),
  (17, 1, .ireturn, 0, 0, 0, []),
  (18, 1, .iload_n 2, 2, 0, 0, []),
  (19, 3, .ifCond .ge 6, 14, 0, 0, []),
  (22, 2, .bipush (-14), 0, 0, (-14), []),
  (24, 1, .ireturn, 0, 0, 0, []),
  (25, 1, .aload_n 0, 0, 0, 0, []),
  (26, 3, .getfield 98, 11, 38, 0, [1072]),
  (29, 1, .iload_n 1, 1, 0, 0, []),
  (30, 1, .iconst 1, 0, 0, 1, []),
  (31, 1, .bastore, 0, 0, 0, []),
  (32, 1, .aload_n 0, 0, 0, 0, []),
  (33, 3, .getfield 102, 11, 39, 0, [1073]),
  (36, 1, .iload_n 1, 1, 0, 0, []),
  (37, 1, .iload_n 2, 2, 0, 0, []),
  (38, 1, .iastore, 0, 0, 0, []),
  (39, 1, .iconst 0, 0, 0, 0, []),
  (40, 1, .istore_n 3, 3, 0, 0, []),
  (41, 1, .iload_n 3, 3, 0, 0, []),
  (42, 2, .bipush 20, 0, 0, 20, []),
  (44, 3, .if_icmp .ge 21, 40, 0, 0, []),
  (47, 1, .aload_n 0, 0, 0, 0, []),
  (48, 3, .getfield 105, 11, 40, 0, [1074]),
  (51, 2, .bipush 20, 0, 0, 20, []),
  (53, 1, .iload_n 1, 1, 0, 0, []),
  (54, 1, .imul, 0, 0, 0, []),
  (55, 1, .iload_n 3, 3, 0, 0, []),
  (56, 1, .iadd, 0, 0, 0, []),
  (57, 1, .iconst 0, 0, 0, 0, []),
  (58, 1, .iastore, 0, 0, 0, []),
  (59, 3, .iinc 3 1, 3, 0, 1, []),
  (62, 3, .goto (-21), 26, 0, 0, []),
  (65, 1, .iconst 1, 0, 0, 1, []),
  (66, 1, .ireturn, 0, 0, 0, [])])
def tw_M252 : tw_Meth := (yX12_set, cX12_set, 4, (some .int), 1, 11, 3, [1438, 66, 1436, 1437], [
  (0, 1, .iload_n 1, 1, 0, 0, []),
  (1, 3, .invokestatic 254, 250, 1, 0, [1432, 0]),
  (4, 3, .ifCond .ne 5, 5, 0, 0, []),
  (7, 1, .iconst (-1), 0, 0, (-1), []),
  (8, 1, .ireturn, 0, 0, 0, []),
  (9, 1, .aload_n 0, 0, 0, 0, []),
  (10, 3, .getfield 98, 11, 38, 0, [1072]),
  (13, 1, .iload_n 1, 1, 0, 0, []),
  (14, 1, .baload, 0, 0, 0, []),
  (15, 3, .ifCond .ne 6, 12, 0, 0, []),
  (18, 2, .bipush (-11), 0, 0, (-11), []),
  (20, 1, .ireturn, 0, 0, 0, []),
  (21, 1, .iload_n 2, 2, 0, 0, []),
  (22, 1, .iconst 0, 0, 0, 0, []),
  (23, 1, .aload_n 0, 0, 0, 0, []),
  (24, 3, .getfield 102, 11, 39, 0, [1073]),
  (27, 1, .iload_n 1, 1, 0, 0, []),
  (28, 1, .iaload, 0, 0, 0, []),
  (29, 1, .iconst 1, 0, 0, 1, []),
  (30, 1, .isub, 0, 0, 0, []),
  (31, 3, .invokestatic 108, 182, 3, 0, [1163, 0]),
  (34, 3, .ifCond .ne 6, 24, 0, 0, []),
  (37, 2, .bipush (-13), 0, 0, (-13), []),
  (39, 1, .ireturn, 0, 0, 0, []),
  (40, 1, .aload_n 0, 0, 0, 0, []),
  (41, 3, .getfield 105, 11, 40, 0, [1074]),
  (44, 2, .bipush 20, 0, 0, 20, []),
  (46, 1, .iload_n 1, 1, 0, 0, []),
  (47, 1, .imul, 0, 0, 0, []),
  (48, 1, .iload_n 2, 2, 0, 0, []),
  (49, 1, .iadd, 0, 0, 0, []),
  (50, 1, .iload_n 3, 3, 0, 0, []),
  (51, 1, .iastore, 0, 0, 0, []),
  (52, 1, .iconst 1, 0, 0, 1, []),
  (53, 1, .ireturn, 0, 0, 0, [])])
def tw_M253 : tw_Meth := (yX12_get, cX12_get, 3, (some .int), 1, 11, 2, [1442, 66, 1440, 1441], [
  (0, 1, .iload_n 1, 1, 0, 0, []),
  (1, 3, .invokestatic 254, 250, 1, 0, [1432, 0]),
  (4, 3, .ifCond .eq 42, 27, 0, 0, []),
  (7, 1, .aload_n 0, 0, 0, 0, []),
  (8, 3, .getfield 98, 11, 38, 0, [1072]),
  (11, 1, .iload_n 1, 1, 0, 0, []),
  (12, 1, .baload, 0, 0, 0, []),
  (13, 3, .ifCond .eq 33, 27, 0, 0, []),
  (16, 1, .iload_n 2, 2, 0, 0, []),
  (17, 1, .iconst 0, 0, 0, 0, []),
  (18, 1, .aload_n 0, 0, 0, 0, []),
  (19, 3, .getfield 102, 11, 39, 0, [1073]),
  (22, 1, .iload_n 1, 1, 0, 0, []),
  (23, 1, .iaload, 0, 0, 0, []),
  (24, 1, .iconst 1, 0, 0, 1, []),
  (25, 1, .isub, 0, 0, 0, []),
  (26, 3, .invokestatic 108, 182, 3, 0, [1163, 0]),
  (29, 3, .ifCond .eq 17, 27, 0, 0, []),
  (32, 1, .aload_n 0, 0, 0, 0, []),
  (33, 3, .getfield 105, 11, 40, 0, [1074]),
  (36, 2, .bipush 20, 0, 0, 20, []),
  (38, 1, .iload_n 1, 1, 0, 0, []),
  (39, 1, .imul, 0, 0, 0, []),
  (40, 1, .iload_n 2, 2, 0, 0, []),
  (41, 1, .iadd, 0, 0, 0, []),
  (42, 1, .iaload, 0, 0, 0, []),
  (43, 3, .goto 6, 28, 0, 0, []),
  (46, 3, .ldc_w 257, 0, 0, (-2000000000), [1443]),
  (49, 1, .ireturn, 0, 0, 0, [])])
def tw_M254 : tw_Meth := (yX12_lay, cX12_lay, 5, (some .int), 1, 11, 3, [1447, 66, 1445, 1446], [
  (0, 1, .iload_n 1, 1, 0, 0, []),
  (1, 3, .invokestatic 254, 250, 1, 0, [1432, 0]),
  (4, 3, .ifCond .eq 11, 7, 0, 0, []),
  (7, 1, .aload_n 0, 0, 0, 0, []),
  (8, 1, .iload_n 3, 3, 0, 0, []),
  (9, 3, .invokevirtual 193, 185, 1, 0, [1284, 0]),
  (12, 3, .ifCond .ne 5, 9, 0, 0, []),
  (15, 1, .iconst (-1), 0, 0, (-1), []),
  (16, 1, .ireturn, 0, 0, 0, []),
  (17, 1, .aload_n 0, 0, 0, 0, []),
  (18, 3, .getfield 98, 11, 38, 0, [1072]),
  (21, 1, .iload_n 1, 1, 0, 0, []),
  (22, 1, .baload, 0, 0, 0, []),
  (23, 3, .ifCond .ne 6, 16, 0, 0, []),
  (26, 2, .bipush (-11), 0, 0, (-11), []),
  (28, 1, .ireturn, 0, 0, 0, []),
  (29, 1, .iconst 0, 0, 0, 0, []),
  (30, 2, .istore 4, 4, 0, 0, []),
  (32, 2, .iload 4, 4, 0, 0, []),
  (34, 1, .aload_n 0, 0, 0, 0, []),
  (35, 3, .getfield 13, 11, 1, 0, [1035]),
  (38, 1, .iconst 0, 0, 0, 0, []),
  (39, 1, .iaload, 0, 0, 0, []),
  (40, 3, .if_icmp .ge 55, 56, 0, 0, []),
  (43, 1, .iload_n 2, 2, 0, 0, []),
  (44, 3, .ifCond .lt 16, 34, 0, 0, []),
  (47, 1, .iload_n 2, 2, 0, 0, []),
  (48, 1, .aload_n 0, 0, 0, 0, []),
  (49, 3, .getfield 102, 11, 39, 0, [1073]),
  (52, 1, .iload_n 1, 1, 0, 0, []),
  (53, 1, .iaload, 0, 0, 0, []),
  (54, 2, .iload 4, 4, 0, 0, []),
  (56, 1, .isub, 0, 0, 0, []),
  (57, 3, .if_icmp .lt 6, 36, 0, 0, []),
  (60, 2, .bipush (-13), 0, 0, (-13), []),
  (62, 1, .ireturn, 0, 0, 0, []),
  (63, 1, .aload_n 0, 0, 0, 0, []),
  (64, 3, .getfield 105, 11, 40, 0, [1074]),
  (67, 2, .bipush 20, 0, 0, 20, []),
  (69, 1, .iload_n 1, 1, 0, 0, []),
  (70, 1, .imul, 0, 0, 0, []),
  (71, 1, .iload_n 2, 2, 0, 0, []),
  (72, 1, .iadd, 0, 0, 0, []),
  (73, 2, .iload 4, 4, 0, 0, []),
  (75, 1, .iadd, 0, 0, 0, []),
  (76, 1, .aload_n 0, 0, 0, 0, []),
  (77, 3, .getfield 32, 11, 7, 0, [1041]),
  (80, 2, .bipush 10, 0, 0, 10, []),
  (82, 1, .iload_n 3, 3, 0, 0, []),
  (83, 1, .imul, 0, 0, 0, []),
  (84, 2, .iload 4, 4, 0, 0, []),
  (86, 1, .iadd, 0, 0, 0, []),
  (87, 1, .iaload, 0, 0, 0, []),
  (88, 1, .iastore, 0, 0, 0, []),
  (89, 3, .iinc 4 1, 4, 0, 1, []),
  (92, 3, .goto (-60), 18, 0, 0, []),
  (95, 1, .aload_n 0, 0, 0, 0, []),
  (96, 3, .getfield 13, 11, 1, 0, [1035]),
  (99, 1, .iconst 0, 0, 0, 0, []),
  (100, 1, .iaload, 0, 0, 0, []),
  (101, 1, .ireturn, 0, 0, 0, [])])
def tw_M255 : tw_Meth := (yX12_judge, cX12_judge, 5, (some .int), 1, 11, 3, [1451, 66, 1449, 1450], [
  (0, 1, .iload_n 1, 1, 0, 0, []),
  (1, 3, .invokestatic 254, 250, 1, 0, [1432, 0]),
  (4, 3, .ifCond .eq 11, 7, 0, 0, []),
  (7, 1, .aload_n 0, 0, 0, 0, []),
  (8, 1, .iload_n 3, 3, 0, 0, []),
  (9, 3, .invokevirtual 193, 185, 1, 0, [1284, 0]),
  (12, 3, .ifCond .ne 5, 9, 0, 0, []),
  (15, 1, .iconst (-1), 0, 0, (-1), []),
  (16, 1, .ireturn, 0, 0, 0, []),
  (17, 1, .aload_n 0, 0, 0, 0, []),
  (18, 3, .getfield 98, 11, 38, 0, [1072]),
  (21, 1, .iload_n 1, 1, 0, 0, []),
  (22, 1, .baload, 0, 0, 0, []),
  (23, 3, .ifCond .ne 6, 16, 0, 0, []),
  (26, 2, .bipush (-11), 0, 0, (-11), []),
  (28, 1, .ireturn, 0, 0, 0, []),
  (29, 1, .iconst 0, 0, 0, 0, []),
  (30, 2, .istore 4, 4, 0, 0, []),
  (32, 2, .iload 4, 4, 0, 0, []),
  (34, 1, .aload_n 0, 0, 0, 0, []),
  (35, 3, .getfield 13, 11, 1, 0, [1035]),
  (38, 1, .iconst 0, 0, 0, 0, []),
  (39, 1, .iaload, 0, 0, 0, []),
  (40, 3, .if_icmp .ge 64, 61, 0, 0, []),
  (43, 1, .iload_n 2, 2, 0, 0, []),
  (44, 3, .ifCond .lt 16, 34, 0, 0, []),
  (47, 1, .iload_n 2, 2, 0, 0, []),
  (48, 1, .aload_n 0, 0, 0, 0, []),
  (49, 3, .getfield 102, 11, 39, 0, [1073]),
  (52, 1, .iload_n 1, 1, 0, 0, []),
  (53, 1, .iaload, 0, 0, 0, []),
  (54, 2, .iload 4, 4, 0, 0, []),
  (56, 1, .isub, 0, 0, 0, []),
  (57, 3, .if_icmp .lt 9, 38, 0, 0, []),
  (60, 2, .bipush 100, 0, 0, 100, []),
  (62, 2, .iload 4, 4, 0, 0, []),
  (64, 1, .iadd, 0, 0, 0, []),
  (65, 1, .ireturn, 0, 0, 0, []),
  (66, 1, .aload_n 0, 0, 0, 0, []),
  (67, 3, .getfield 105, 11, 40, 0, [1074]),
  (70, 2, .bipush 20, 0, 0, 20, []),
  (72, 1, .iload_n 1, 1, 0, 0, []),
  (73, 1, .imul, 0, 0, 0, []),
  (74, 1, .iload_n 2, 2, 0, 0, []),
  (75, 1, .iadd, 0, 0, 0, []),
  (76, 2, .iload 4, 4, 0, 0, []),
  (78, 1, .iadd, 0, 0, 0, []),
  (79, 1, .iaload, 0, 0, 0, []),
  (80, 1, .aload_n 0, 0, 0, 0, []),
  (81, 3, .getfield 32, 11, 7, 0, [1041]),
  (84, 2, .bipush 10, 0, 0, 10, []),
  (86, 1, .iload_n 3, 3, 0, 0, []),
  (87, 1, .imul, 0, 0, 0, []),
  (88, 2, .iload 4, 4, 0, 0, []),
  (90, 1, .iadd, 0, 0, 0, []),
  (91, 1, .iaload, 0, 0, 0, []),
  (92, 3, .if_icmp .eq 6, 59, 0, 0, []),
  (95, 2, .iload 4, 4, 0, 0, []),
  (97, 1, .ireturn, 0, 0, 0, []),
  (98, 3, .iinc 4 1, 4, 0, 1, []),
  (101, 3, .goto (-69), 18, 0, 0, []),
  (104, 2, .bipush (-5), 0, 0, (-5), []),
  (106, 1, .ireturn, 0, 0, 0, [])])
def tw_M256 : tw_Meth := (yX12_copy, cX12_copy, 4, none, 0, 11, 2, [1462, 66, 1461], [
  (0, 1, .aload_n 0, 0, 0, 0, []),
  (1, 1, .arraylength, 0, 0, 0, []),
  (2, 1, .iconst 2, 0, 0, 2, []),
  (3, 1, .idiv, 0, 0, 0, []),
  (4, 1, .istore_n 2, 2, 0, 0, []),
  (5, 1, .iconst 0, 0, 0, 0, []),
  (6, 1, .istore_n 3, 3, 0, 0, []),
  (7, 1, .iload_n 3, 3, 0, 0, []),
  (8, 1, .iload_n 2, 2, 0, 0, []),
  (9, 3, .if_icmp .ge 32, 31, 0, 0, []),
  (12, 1, .iload_n 1, 1, 0, 0, []),
  (13, 3, .ifCond .eq 14, 21, 0, 0, []),
  (16, 1, .aload_n 0, 0, 0, 0, []),
  (17, 1, .iload_n 3, 3, 0, 0, []),
  (18, 1, .aload_n 0, 0, 0, 0, []),
  (19, 1, .iload_n 2, 2, 0, 0, []),
  (20, 1, .iload_n 3, 3, 0, 0, []),
  (21, 1, .iadd, 0, 0, 0, []),
  (22, 1, .iaload, 0, 0, 0, []),
  (23, 1, .iastore, 0, 0, 0, []),
  (24, 3, .goto 11, 29, 0, 0, []),
  (27, 1, .aload_n 0, 0, 0, 0, []),
  (28, 1, .iload_n 2, 2, 0, 0, []),
  (29, 1, .iload_n 3, 3, 0, 0, []),
  (30, 1, .iadd, 0, 0, 0, []),
  (31, 1, .aload_n 0, 0, 0, 0, []),
  (32, 1, .iload_n 3, 3, 0, 0, []),
  (33, 1, .iaload, 0, 0, 0, []),
  (34, 1, .iastore, 0, 0, 0, []),
  (35, 3, .iinc 3 1, 3, 0, 1, []),
  (38, 3, .goto (-31), 7, 0, 0, []),
  (41, 1, .return_, 0, 0, 0, [])])
def tw_M257 : tw_Meth := (yX12_copyAll, cX12_copyAll, 2, none, 1, 11, 1, [1459, 66, 1458, 53], [
  (0, 1, .aload_n 0, 0, 0, 0, []),
  (1, 3, .getfield 13, 11, 1, 0, [1035]),
  (4, 1, .iload_n 1, 1, 0, 0, []),
  (5, 3, .invokestatic 258, 256, 2, 0, [1460, 0]),
  (8, 1, .aload_n 0, 0, 0, 0, []),
  (9, 3, .getfield 17, 11, 2, 0, [1036]),
  (12, 1, .iload_n 1, 1, 0, 0, []),
  (13, 3, .invokestatic 258, 256, 2, 0, [1460, 0]),
  (16, 1, .aload_n 0, 0, 0, 0, []),
  (17, 3, .getfield 20, 11, 3, 0, [1037]),
  (20, 1, .iload_n 1, 1, 0, 0, []),
  (21, 3, .invokestatic 258, 256, 2, 0, [1460, 0]),
  (24, 1, .aload_n 0, 0, 0, 0, []),
  (25, 3, .getfield 23, 11, 4, 0, [1038]),
  (28, 1, .iload_n 1, 1, 0, 0, []),
  (29, 3, .invokestatic 258, 256, 2, 0, [1460, 0]),
  (32, 1, .aload_n 0, 0, 0, 0, []),
  (33, 3, .getfield 26, 11, 5, 0, [1039]),
  (36, 1, .iload_n 1, 1, 0, 0, []),
  (37, 3, .invokestatic 258, 256, 2, 0, [1460, 0]),
  (40, 1, .aload_n 0, 0, 0, 0, []),
  (41, 3, .getfield 29, 11, 6, 0, [1040]),
  (44, 1, .iload_n 1, 1, 0, 0, []),
  (45, 3, .invokestatic 258, 256, 2, 0, [1460, 0]),
  (48, 1, .aload_n 0, 0, 0, 0, []),
  (49, 3, .getfield 32, 11, 7, 0, [1041]),
  (52, 1, .iload_n 1, 1, 0, 0, []),
  (53, 3, .invokestatic 258, 256, 2, 0, [1460, 0]),
  (56, 1, .aload_n 0, 0, 0, 0, []),
  (57, 3, .getfield 35, 11, 8, 0, [1042]),
  (60, 1, .iload_n 1, 1, 0, 0, []),
  (61, 3, .invokestatic 258, 256, 2, 0, [1460, 0]),
  (64, 1, .aload_n 0, 0, 0, 0, []),
  (65, 3, .getfield 38, 11, 9, 0, [1043]),
  (68, 1, .iload_n 1, 1, 0, 0, []),
  (69, 3, .invokestatic 258, 256, 2, 0, [1460, 0]),
  (72, 1, .aload_n 0, 0, 0, 0, []),
  (73, 3, .getfield 41, 11, 10, 0, [1044]),
  (76, 1, .iload_n 1, 1, 0, 0, []),
  (77, 3, .invokestatic 258, 256, 2, 0, [1460, 0]),
  (80, 1, .aload_n 0, 0, 0, 0, []),
  (81, 3, .getfield 44, 11, 12, 0, [1046]),
  (84, 1, .iload_n 1, 1, 0, 0, []),
  (85, 3, .invokestatic 258, 256, 2, 0, [1460, 0]),
  (88, 1, .aload_n 0, 0, 0, 0, []),
  (89, 3, .getfield 47, 11, 13, 0, [1047]),
  (92, 1, .iload_n 1, 1, 0, 0, []),
  (93, 3, .invokestatic 258, 256, 2, 0, [1460, 0]),
  (96, 1, .aload_n 0, 0, 0, 0, []),
  (97, 3, .getfield 50, 11, 14, 0, [1048]),
  (100, 1, .iload_n 1, 1, 0, 0, []),
  (101, 3, .invokestatic 258, 256, 2, 0, [1460, 0]),
  (104, 1, .aload_n 0, 0, 0, 0, []),
  (105, 3, .getfield 53, 11, 15, 0, [1049]),
  (108, 1, .iload_n 1, 1, 0, 0, []),
  (109, 3, .invokestatic 258, 256, 2, 0, [1460, 0]),
  (112, 1, .return_, 0, 0, 0, [])])
def tw_M258 : tw_Meth := (yX12_image, cX12_image, 1, (some .int), 1, 11, 0, [1455, 66, 1453, 1454], [
  (0, 1, .aload_n 0, 0, 0, 0, []),
  (1, 1, .iconst 1, 0, 0, 1, []),
  (2, 3, .putfield 262, 11, 11, 1, [1045]),
  (5, 1, .aload_n 0, 0, 0, 0, []),
  (6, 1, .iconst 0, 0, 0, 0, []),
  (7, 3, .invokevirtual 266, 257, 1, 0, [1456, 0]),
  (10, 1, .aload_n 0, 0, 0, 0, []),
  (11, 3, .getfield 17, 11, 2, 0, [1036]),
  (14, 1, .iconst 0, 0, 0, 0, []),
  (15, 1, .iaload, 0, 0, 0, []),
  (16, 1, .ireturn, 0, 0, 0, [])])
def tw_M259 : tw_Meth := (yX12_undo, cX12_undo, 1, (some .int), 1, 11, 0, [1466, 66, 1464, 1465], [
  (0, 1, .aload_n 0, 0, 0, 0, []),
  (1, 3, .getfield 262, 11, 11, 0, [1045]),
  (4, 3, .ifCond .ne 6, 5, 0, 0, []),
  (7, 2, .bipush (-3), 0, 0, (-3), []),
  (9, 1, .ireturn, 0, 0, 0, []),
  (10, 1, .aload_n 0, 0, 0, 0, []),
  (11, 1, .iconst 1, 0, 0, 1, []),
  (12, 3, .invokevirtual 266, 257, 1, 0, [1456, 0]),
  (15, 1, .aload_n 0, 0, 0, 0, []),
  (16, 3, .getfield 17, 11, 2, 0, [1036]),
  (19, 1, .iconst 0, 0, 0, 0, []),
  (20, 1, .iaload, 0, 0, 0, []),
  (21, 1, .ireturn, 0, 0, 0, [])])
def tw_M260 : tw_Meth := (yJ9_floorMod_7cf53, cJ9_floorMod_7cf53, 3, (some .int), 0, 99, 2, [590, 68, 589], [
  (0, 1, .iload_n 0, 0, 0, 0, []),
  (1, 1, .iload_n 1, 1, 0, 0, []),
  (2, 1, .irem, 0, 0, 0, []),
  (3, 1, .istore_n 2, 2, 0, 0, []),
  (4, 1, .iload_n 0, 0, 0, 0, []),
  (5, 1, .iload_n 1, 1, 0, 0, []),
  (6, 1, .ixor, 0, 0, 0, []),
  (7, 3, .ifCond .ge 11, 14, 0, 0, []),
  (10, 1, .iload_n 2, 2, 0, 0, []),
  (11, 3, .ifCond .eq 7, 14, 0, 0, []),
  (14, 1, .iload_n 2, 2, 0, 0, []),
  (15, 1, .iload_n 1, 1, 0, 0, []),
  (16, 1, .iadd, 0, 0, 0, []),
  (17, 1, .ireturn, 0, 0, 0, []),
  (18, 1, .iload_n 2, 2, 0, 0, []),
  (19, 1, .ireturn, 0, 0, 0, [])])
def tw_M261 : tw_Meth := (yJ9_abs_0f7a4, cJ9_abs_0f7a4, 1, (some .int), 0, 99, 1, [948, 68, 947], [
  (0, 1, .iload_n 0, 0, 0, 0, []),
  (1, 3, .ifCond .ge 8, 5, 0, 0, []),
  (4, 1, .iload_n 0, 0, 0, 0, []),
  (5, 1, .ineg, 0, 0, 0, []),
  (6, 3, .goto 4, 6, 0, 0, []),
  (9, 1, .iload_n 0, 0, 0, 0, []),
  (10, 1, .ireturn, 0, 0, 0, [])])
def tw_M262 : tw_Meth := (yJ9_max_7cf53, cJ9_max_7cf53, 2, (some .int), 0, 99, 2, [392, 68, 391], [
  (0, 1, .iload_n 0, 0, 0, 0, []),
  (1, 1, .iload_n 1, 1, 0, 0, []),
  (2, 3, .if_icmp .lt 7, 5, 0, 0, []),
  (5, 1, .iload_n 0, 0, 0, 0, []),
  (6, 3, .goto 4, 6, 0, 0, []),
  (9, 1, .iload_n 1, 1, 0, 0, []),
  (10, 1, .ireturn, 0, 0, 0, [])])
def tw_M263 : tw_Meth := (yJ9_min_7cf53, cJ9_min_7cf53, 2, (some .int), 0, 99, 2, [341, 68, 340], [
  (0, 1, .iload_n 0, 0, 0, 0, []),
  (1, 1, .iload_n 1, 1, 0, 0, []),
  (2, 3, .if_icmp .gt 7, 5, 0, 0, []),
  (5, 1, .iload_n 0, 0, 0, 0, []),
  (6, 3, .goto 4, 6, 0, 0, []),
  (9, 1, .iload_n 1, 1, 0, 0, []),
  (10, 1, .ireturn, 0, 0, 0, [])])
def tw_M264 : tw_Meth := (yL_law, cL_law, 4, (some .boolean), 0, 99, 1, [0, 54, 0], [
  (0, 3, .new 7, 10, 0, 0, [70, 71, 55]),
  (3, 1, .dup, 0, 0, 0, []),
  (4, 3, .invokespecial 9, 131, 0, 0, [72, 0]),
  (7, 1, .astore_n 1, 1, 0, 0, []),
  (8, 3, .new 10, 11, 0, 0, [1029, 1030, 66]),
  (11, 1, .dup, 0, 0, 0, []),
  (12, 3, .invokespecial 12, 183, 0, 0, [1031, 0]),
  (15, 1, .astore_n 2, 2, 0, 0, []),
  (16, 1, .iconst 0, 0, 0, 0, []),
  (17, 1, .istore_n 3, 3, 0, 0, []),
  (18, 1, .iload_n 3, 3, 0, 0, []),
  (19, 1, .aload_n 0, 0, 0, 0, []),
  (20, 1, .arraylength, 0, 0, 0, []),
  (21, 1, .iconst 4, 0, 0, 4, []),
  (22, 1, .isub, 0, 0, 0, []),
  (23, 3, .if_icmp .gt 1312, 875, 0, 0, []),
  (26, 1, .aload_n 0, 0, 0, 0, []),
  (27, 1, .iload_n 3, 3, 0, 0, []),
  (28, 1, .iaload, 0, 0, 0, []),
  (29, 2, .bipush 63, 0, 0, 63, []),
  (31, 1, .iand, 0, 0, 0, []),
  (32, 188, .tableswitch 1297 0 42 #[188, 211, 224, 237, 250, 283, 306, 339, 382, 415, 448, 471, 494, 527, 560, 593, 626, 639, 652, 665, 698, 741, 764, 797, 820, 833, 856, 869, 882, 905, 938, 961, 994, 1017, 1030, 1053, 1076, 1109, 1152, 1185, 1228, 1271, 1284], 873, 42, 0, [22, 39, 46, 53, 60, 87, 104, 131, 168, 195, 222, 239, 256, 283, 310, 337, 364, 371, 378, 385, 412, 449, 466, 493, 510, 517, 534, 541, 548, 565, 592, 609, 636, 653, 660, 677, 694, 721, 758, 785, 822, 859, 866]),
  (220, 1, .aload_n 1, 1, 0, 0, []),
  (221, 1, .aload_n 0, 0, 0, 0, []),
  (222, 1, .iload_n 3, 3, 0, 0, []),
  (223, 1, .iconst 1, 0, 0, 1, []),
  (224, 1, .iadd, 0, 0, 0, []),
  (225, 1, .iaload, 0, 0, 0, []),
  (226, 3, .invokevirtual 13, 132, 1, 0, [293, 0]),
  (229, 1, .aload_n 2, 2, 0, 0, []),
  (230, 1, .aload_n 0, 0, 0, 0, []),
  (231, 1, .iload_n 3, 3, 0, 0, []),
  (232, 1, .iconst 1, 0, 0, 1, []),
  (233, 1, .iadd, 0, 0, 0, []),
  (234, 1, .iaload, 0, 0, 0, []),
  (235, 3, .invokevirtual 17, 187, 1, 0, [1159, 0]),
  (238, 3, .if_icmp .eq 1091, 873, 0, 0, []),
  (241, 1, .iconst 0, 0, 0, 0, []),
  (242, 1, .ireturn, 1, 0, 0, []),
  (243, 1, .aload_n 1, 1, 0, 0, []),
  (244, 3, .invokevirtual 18, 133, 0, 0, [309, 0]),
  (247, 1, .aload_n 2, 2, 0, 0, []),
  (248, 3, .invokevirtual 22, 188, 0, 0, [1166, 0]),
  (251, 3, .if_icmp .eq 1078, 873, 0, 0, []),
  (254, 1, .iconst 0, 0, 0, 0, []),
  (255, 1, .ireturn, 1, 0, 0, []),
  (256, 1, .aload_n 1, 1, 0, 0, []),
  (257, 3, .invokevirtual 23, 134, 0, 0, [317, 0]),
  (260, 1, .aload_n 2, 2, 0, 0, []),
  (261, 3, .invokevirtual 26, 197, 0, 0, [1194, 0]),
  (264, 3, .if_icmp .eq 1065, 873, 0, 0, []),
  (267, 1, .iconst 0, 0, 0, 0, []),
  (268, 1, .ireturn, 1, 0, 0, []),
  (269, 1, .aload_n 1, 1, 0, 0, []),
  (270, 3, .invokevirtual 27, 135, 0, 0, [369, 0]),
  (273, 1, .aload_n 2, 2, 0, 0, []),
  (274, 3, .invokevirtual 30, 194, 0, 0, [1170, 0]),
  (277, 3, .if_icmp .eq 1052, 873, 0, 0, []),
  (280, 1, .iconst 0, 0, 0, 0, []),
  (281, 1, .ireturn, 1, 0, 0, []),
  (282, 1, .aload_n 1, 1, 0, 0, []),
  (283, 1, .aload_n 0, 0, 0, 0, []),
  (284, 1, .iload_n 3, 3, 0, 0, []),
  (285, 1, .iconst 1, 0, 0, 1, []),
  (286, 1, .iadd, 0, 0, 0, []),
  (287, 1, .iaload, 0, 0, 0, []),
  (288, 1, .aload_n 0, 0, 0, 0, []),
  (289, 1, .iload_n 3, 3, 0, 0, []),
  (290, 1, .iconst 2, 0, 0, 2, []),
  (291, 1, .iadd, 0, 0, 0, []),
  (292, 1, .iaload, 0, 0, 0, []),
  (293, 3, .invokevirtual 31, 136, 2, 0, [450, 0]),
  (296, 1, .aload_n 2, 2, 0, 0, []),
  (297, 1, .aload_n 0, 0, 0, 0, []),
  (298, 1, .iload_n 3, 3, 0, 0, []),
  (299, 1, .iconst 1, 0, 0, 1, []),
  (300, 1, .iadd, 0, 0, 0, []),
  (301, 1, .iaload, 0, 0, 0, []),
  (302, 1, .aload_n 0, 0, 0, 0, []),
  (303, 1, .iload_n 3, 3, 0, 0, []),
  (304, 1, .iconst 2, 0, 0, 2, []),
  (305, 1, .iadd, 0, 0, 0, []),
  (306, 1, .iaload, 0, 0, 0, []),
  (307, 3, .invokevirtual 35, 199, 2, 0, [1202, 0]),
  (310, 3, .if_icmp .eq 1019, 873, 0, 0, []),
  (313, 1, .iconst 0, 0, 0, 0, []),
  (314, 1, .ireturn, 1, 0, 0, []),
  (315, 1, .aload_n 1, 1, 0, 0, []),
  (316, 1, .aload_n 0, 0, 0, 0, []),
  (317, 1, .iload_n 3, 3, 0, 0, []),
  (318, 1, .iconst 1, 0, 0, 1, []),
  (319, 1, .iadd, 0, 0, 0, []),
  (320, 1, .iaload, 0, 0, 0, []),
  (321, 3, .invokevirtual 36, 137, 1, 0, [514, 0]),
  (324, 1, .aload_n 2, 2, 0, 0, []),
  (325, 1, .aload_n 0, 0, 0, 0, []),
  (326, 1, .iload_n 3, 3, 0, 0, []),
  (327, 1, .iconst 1, 0, 0, 1, []),
  (328, 1, .iadd, 0, 0, 0, []),
  (329, 1, .iaload, 0, 0, 0, []),
  (330, 3, .invokevirtual 39, 200, 1, 0, [1219, 0]),
  (333, 3, .if_icmp .eq 996, 873, 0, 0, []),
  (336, 1, .iconst 0, 0, 0, 0, []),
  (337, 1, .ireturn, 1, 0, 0, []),
  (338, 1, .aload_n 1, 1, 0, 0, []),
  (339, 1, .aload_n 0, 0, 0, 0, []),
  (340, 1, .iload_n 3, 3, 0, 0, []),
  (341, 1, .iconst 1, 0, 0, 1, []),
  (342, 1, .iadd, 0, 0, 0, []),
  (343, 1, .iaload, 0, 0, 0, []),
  (344, 1, .aload_n 0, 0, 0, 0, []),
  (345, 1, .iload_n 3, 3, 0, 0, []),
  (346, 1, .iconst 2, 0, 0, 2, []),
  (347, 1, .iadd, 0, 0, 0, []),
  (348, 1, .iaload, 0, 0, 0, []),
  (349, 3, .invokevirtual 40, 138, 2, 0, [522, 0]),
  (352, 1, .aload_n 2, 2, 0, 0, []),
  (353, 1, .aload_n 0, 0, 0, 0, []),
  (354, 1, .iload_n 3, 3, 0, 0, []),
  (355, 1, .iconst 1, 0, 0, 1, []),
  (356, 1, .iadd, 0, 0, 0, []),
  (357, 1, .iaload, 0, 0, 0, []),
  (358, 1, .aload_n 0, 0, 0, 0, []),
  (359, 1, .iload_n 3, 3, 0, 0, []),
  (360, 1, .iconst 2, 0, 0, 2, []),
  (361, 1, .iadd, 0, 0, 0, []),
  (362, 1, .iaload, 0, 0, 0, []),
  (363, 3, .invokevirtual 43, 201, 2, 0, [1223, 0]),
  (366, 3, .if_icmp .eq 963, 873, 0, 0, []),
  (369, 1, .iconst 0, 0, 0, 0, []),
  (370, 1, .ireturn, 1, 0, 0, []),
  (371, 1, .aload_n 1, 1, 0, 0, []),
  (372, 1, .aload_n 0, 0, 0, 0, []),
  (373, 1, .iload_n 3, 3, 0, 0, []),
  (374, 1, .iconst 1, 0, 0, 1, []),
  (375, 1, .iadd, 0, 0, 0, []),
  (376, 1, .iaload, 0, 0, 0, []),
  (377, 1, .aload_n 0, 0, 0, 0, []),
  (378, 1, .iload_n 3, 3, 0, 0, []),
  (379, 1, .iconst 2, 0, 0, 2, []),
  (380, 1, .iadd, 0, 0, 0, []),
  (381, 1, .iaload, 0, 0, 0, []),
  (382, 1, .aload_n 0, 0, 0, 0, []),
  (383, 1, .iload_n 3, 3, 0, 0, []),
  (384, 1, .iconst 3, 0, 0, 3, []),
  (385, 1, .iadd, 0, 0, 0, []),
  (386, 1, .iaload, 0, 0, 0, []),
  (387, 3, .invokevirtual 44, 139, 3, 0, [530, 0]),
  (390, 1, .aload_n 2, 2, 0, 0, []),
  (391, 1, .aload_n 0, 0, 0, 0, []),
  (392, 1, .iload_n 3, 3, 0, 0, []),
  (393, 1, .iconst 1, 0, 0, 1, []),
  (394, 1, .iadd, 0, 0, 0, []),
  (395, 1, .iaload, 0, 0, 0, []),
  (396, 1, .aload_n 0, 0, 0, 0, []),
  (397, 1, .iload_n 3, 3, 0, 0, []),
  (398, 1, .iconst 2, 0, 0, 2, []),
  (399, 1, .iadd, 0, 0, 0, []),
  (400, 1, .iaload, 0, 0, 0, []),
  (401, 1, .aload_n 0, 0, 0, 0, []),
  (402, 1, .iload_n 3, 3, 0, 0, []),
  (403, 1, .iconst 3, 0, 0, 3, []),
  (404, 1, .iadd, 0, 0, 0, []),
  (405, 1, .iaload, 0, 0, 0, []),
  (406, 3, .invokevirtual 48, 202, 3, 0, [1227, 0]),
  (409, 3, .if_icmp .eq 920, 873, 0, 0, []),
  (412, 1, .iconst 0, 0, 0, 0, []),
  (413, 1, .ireturn, 1, 0, 0, []),
  (414, 1, .aload_n 1, 1, 0, 0, []),
  (415, 1, .aload_n 0, 0, 0, 0, []),
  (416, 1, .iload_n 3, 3, 0, 0, []),
  (417, 1, .iconst 1, 0, 0, 1, []),
  (418, 1, .iadd, 0, 0, 0, []),
  (419, 1, .iaload, 0, 0, 0, []),
  (420, 1, .aload_n 0, 0, 0, 0, []),
  (421, 1, .iload_n 3, 3, 0, 0, []),
  (422, 1, .iconst 2, 0, 0, 2, []),
  (423, 1, .iadd, 0, 0, 0, []),
  (424, 1, .iaload, 0, 0, 0, []),
  (425, 3, .invokevirtual 49, 140, 2, 0, [538, 0]),
  (428, 1, .aload_n 2, 2, 0, 0, []),
  (429, 1, .aload_n 0, 0, 0, 0, []),
  (430, 1, .iload_n 3, 3, 0, 0, []),
  (431, 1, .iconst 1, 0, 0, 1, []),
  (432, 1, .iadd, 0, 0, 0, []),
  (433, 1, .iaload, 0, 0, 0, []),
  (434, 1, .aload_n 0, 0, 0, 0, []),
  (435, 1, .iload_n 3, 3, 0, 0, []),
  (436, 1, .iconst 2, 0, 0, 2, []),
  (437, 1, .iadd, 0, 0, 0, []),
  (438, 1, .iaload, 0, 0, 0, []),
  (439, 3, .invokevirtual 52, 209, 2, 0, [1234, 0]),
  (442, 3, .if_icmp .eq 887, 873, 0, 0, []),
  (445, 1, .iconst 0, 0, 0, 0, []),
  (446, 1, .ireturn, 1, 0, 0, []),
  (447, 1, .aload_n 1, 1, 0, 0, []),
  (448, 1, .aload_n 0, 0, 0, 0, []),
  (449, 1, .iload_n 3, 3, 0, 0, []),
  (450, 1, .iconst 1, 0, 0, 1, []),
  (451, 1, .iadd, 0, 0, 0, []),
  (452, 1, .iaload, 0, 0, 0, []),
  (453, 1, .aload_n 0, 0, 0, 0, []),
  (454, 1, .iload_n 3, 3, 0, 0, []),
  (455, 1, .iconst 2, 0, 0, 2, []),
  (456, 1, .iadd, 0, 0, 0, []),
  (457, 1, .iaload, 0, 0, 0, []),
  (458, 3, .invokevirtual 53, 141, 2, 0, [612, 0]),
  (461, 1, .aload_n 2, 2, 0, 0, []),
  (462, 1, .aload_n 0, 0, 0, 0, []),
  (463, 1, .iload_n 3, 3, 0, 0, []),
  (464, 1, .iconst 1, 0, 0, 1, []),
  (465, 1, .iadd, 0, 0, 0, []),
  (466, 1, .iaload, 0, 0, 0, []),
  (467, 1, .aload_n 0, 0, 0, 0, []),
  (468, 1, .iload_n 3, 3, 0, 0, []),
  (469, 1, .iconst 2, 0, 0, 2, []),
  (470, 1, .iadd, 0, 0, 0, []),
  (471, 1, .iaload, 0, 0, 0, []),
  (472, 3, .invokevirtual 56, 210, 2, 0, [1260, 0]),
  (475, 3, .if_icmp .eq 854, 873, 0, 0, []),
  (478, 1, .iconst 0, 0, 0, 0, []),
  (479, 1, .ireturn, 1, 0, 0, []),
  (480, 1, .aload_n 1, 1, 0, 0, []),
  (481, 1, .aload_n 0, 0, 0, 0, []),
  (482, 1, .iload_n 3, 3, 0, 0, []),
  (483, 1, .iconst 1, 0, 0, 1, []),
  (484, 1, .iadd, 0, 0, 0, []),
  (485, 1, .iaload, 0, 0, 0, []),
  (486, 3, .invokevirtual 57, 143, 1, 0, [616, 0]),
  (489, 1, .aload_n 2, 2, 0, 0, []),
  (490, 1, .aload_n 0, 0, 0, 0, []),
  (491, 1, .iload_n 3, 3, 0, 0, []),
  (492, 1, .iconst 1, 0, 0, 1, []),
  (493, 1, .iadd, 0, 0, 0, []),
  (494, 1, .iaload, 0, 0, 0, []),
  (495, 3, .invokevirtual 60, 212, 1, 0, [1264, 0]),
  (498, 3, .if_icmp .eq 831, 873, 0, 0, []),
  (501, 1, .iconst 0, 0, 0, 0, []),
  (502, 1, .ireturn, 1, 0, 0, []),
  (503, 1, .aload_n 1, 1, 0, 0, []),
  (504, 1, .aload_n 0, 0, 0, 0, []),
  (505, 1, .iload_n 3, 3, 0, 0, []),
  (506, 1, .iconst 1, 0, 0, 1, []),
  (507, 1, .iadd, 0, 0, 0, []),
  (508, 1, .iaload, 0, 0, 0, []),
  (509, 3, .invokevirtual 61, 144, 1, 0, [625, 0]),
  (512, 1, .aload_n 2, 2, 0, 0, []),
  (513, 1, .aload_n 0, 0, 0, 0, []),
  (514, 1, .iload_n 3, 3, 0, 0, []),
  (515, 1, .iconst 1, 0, 0, 1, []),
  (516, 1, .iadd, 0, 0, 0, []),
  (517, 1, .iaload, 0, 0, 0, []),
  (518, 3, .invokevirtual 64, 213, 1, 0, [1272, 0]),
  (521, 3, .if_icmp .eq 808, 873, 0, 0, []),
  (524, 1, .iconst 0, 0, 0, 0, []),
  (525, 1, .ireturn, 1, 0, 0, []),
  (526, 1, .aload_n 1, 1, 0, 0, []),
  (527, 1, .aload_n 0, 0, 0, 0, []),
  (528, 1, .iload_n 3, 3, 0, 0, []),
  (529, 1, .iconst 1, 0, 0, 1, []),
  (530, 1, .iadd, 0, 0, 0, []),
  (531, 1, .iaload, 0, 0, 0, []),
  (532, 1, .aload_n 0, 0, 0, 0, []),
  (533, 1, .iload_n 3, 3, 0, 0, []),
  (534, 1, .iconst 2, 0, 0, 2, []),
  (535, 1, .iadd, 0, 0, 0, []),
  (536, 1, .iaload, 0, 0, 0, []),
  (537, 3, .invokevirtual 65, 145, 2, 0, [642, 0]),
  (540, 1, .aload_n 2, 2, 0, 0, []),
  (541, 1, .aload_n 0, 0, 0, 0, []),
  (542, 1, .iload_n 3, 3, 0, 0, []),
  (543, 1, .iconst 1, 0, 0, 1, []),
  (544, 1, .iadd, 0, 0, 0, []),
  (545, 1, .iaload, 0, 0, 0, []),
  (546, 1, .aload_n 0, 0, 0, 0, []),
  (547, 1, .iload_n 3, 3, 0, 0, []),
  (548, 1, .iconst 2, 0, 0, 2, []),
  (549, 1, .iadd, 0, 0, 0, []),
  (550, 1, .iaload, 0, 0, 0, []),
  (551, 3, .invokevirtual 68, 215, 2, 0, [1276, 0]),
  (554, 3, .if_icmp .eq 775, 873, 0, 0, []),
  (557, 1, .iconst 0, 0, 0, 0, []),
  (558, 1, .ireturn, 1, 0, 0, []),
  (559, 1, .aload_n 1, 1, 0, 0, []),
  (560, 1, .aload_n 0, 0, 0, 0, []),
  (561, 1, .iload_n 3, 3, 0, 0, []),
  (562, 1, .iconst 1, 0, 0, 1, []),
  (563, 1, .iadd, 0, 0, 0, []),
  (564, 1, .iaload, 0, 0, 0, []),
  (565, 1, .aload_n 0, 0, 0, 0, []),
  (566, 1, .iload_n 3, 3, 0, 0, []),
  (567, 1, .iconst 2, 0, 0, 2, []),
  (568, 1, .iadd, 0, 0, 0, []),
  (569, 1, .iaload, 0, 0, 0, []),
  (570, 3, .invokevirtual 69, 146, 2, 0, [647, 0]),
  (573, 1, .aload_n 2, 2, 0, 0, []),
  (574, 1, .aload_n 0, 0, 0, 0, []),
  (575, 1, .iload_n 3, 3, 0, 0, []),
  (576, 1, .iconst 1, 0, 0, 1, []),
  (577, 1, .iadd, 0, 0, 0, []),
  (578, 1, .iaload, 0, 0, 0, []),
  (579, 1, .aload_n 0, 0, 0, 0, []),
  (580, 1, .iload_n 3, 3, 0, 0, []),
  (581, 1, .iconst 2, 0, 0, 2, []),
  (582, 1, .iadd, 0, 0, 0, []),
  (583, 1, .iaload, 0, 0, 0, []),
  (584, 3, .invokevirtual 72, 216, 2, 0, [1288, 0]),
  (587, 3, .if_icmp .eq 742, 873, 0, 0, []),
  (590, 1, .iconst 0, 0, 0, 0, []),
  (591, 1, .ireturn, 1, 0, 0, []),
  (592, 1, .aload_n 1, 1, 0, 0, []),
  (593, 1, .aload_n 0, 0, 0, 0, []),
  (594, 1, .iload_n 3, 3, 0, 0, []),
  (595, 1, .iconst 1, 0, 0, 1, []),
  (596, 1, .iadd, 0, 0, 0, []),
  (597, 1, .iaload, 0, 0, 0, []),
  (598, 1, .aload_n 0, 0, 0, 0, []),
  (599, 1, .iload_n 3, 3, 0, 0, []),
  (600, 1, .iconst 2, 0, 0, 2, []),
  (601, 1, .iadd, 0, 0, 0, []),
  (602, 1, .iaload, 0, 0, 0, []),
  (603, 3, .invokevirtual 73, 147, 2, 0, [651, 0]),
  (606, 1, .aload_n 2, 2, 0, 0, []),
  (607, 1, .aload_n 0, 0, 0, 0, []),
  (608, 1, .iload_n 3, 3, 0, 0, []),
  (609, 1, .iconst 1, 0, 0, 1, []),
  (610, 1, .iadd, 0, 0, 0, []),
  (611, 1, .iaload, 0, 0, 0, []),
  (612, 1, .aload_n 0, 0, 0, 0, []),
  (613, 1, .iload_n 3, 3, 0, 0, []),
  (614, 1, .iconst 2, 0, 0, 2, []),
  (615, 1, .iadd, 0, 0, 0, []),
  (616, 1, .iaload, 0, 0, 0, []),
  (617, 3, .invokevirtual 76, 217, 2, 0, [1292, 0]),
  (620, 3, .if_icmp .eq 709, 873, 0, 0, []),
  (623, 1, .iconst 0, 0, 0, 0, []),
  (624, 1, .ireturn, 1, 0, 0, []),
  (625, 1, .aload_n 1, 1, 0, 0, []),
  (626, 1, .aload_n 0, 0, 0, 0, []),
  (627, 1, .iload_n 3, 3, 0, 0, []),
  (628, 1, .iconst 1, 0, 0, 1, []),
  (629, 1, .iadd, 0, 0, 0, []),
  (630, 1, .iaload, 0, 0, 0, []),
  (631, 1, .aload_n 0, 0, 0, 0, []),
  (632, 1, .iload_n 3, 3, 0, 0, []),
  (633, 1, .iconst 2, 0, 0, 2, []),
  (634, 1, .iadd, 0, 0, 0, []),
  (635, 1, .iaload, 0, 0, 0, []),
  (636, 3, .invokevirtual 77, 148, 2, 0, [655, 0]),
  (639, 1, .aload_n 2, 2, 0, 0, []),
  (640, 1, .aload_n 0, 0, 0, 0, []),
  (641, 1, .iload_n 3, 3, 0, 0, []),
  (642, 1, .iconst 1, 0, 0, 1, []),
  (643, 1, .iadd, 0, 0, 0, []),
  (644, 1, .iaload, 0, 0, 0, []),
  (645, 1, .aload_n 0, 0, 0, 0, []),
  (646, 1, .iload_n 3, 3, 0, 0, []),
  (647, 1, .iconst 2, 0, 0, 2, []),
  (648, 1, .iadd, 0, 0, 0, []),
  (649, 1, .iaload, 0, 0, 0, []),
  (650, 3, .invokevirtual 80, 218, 2, 0, [1296, 0]),
  (653, 3, .if_icmp .eq 676, 873, 0, 0, []),
  (656, 1, .iconst 0, 0, 0, 0, []),
  (657, 1, .ireturn, 1, 0, 0, []),
  (658, 1, .aload_n 1, 1, 0, 0, []),
  (659, 3, .invokevirtual 81, 149, 0, 0, [659, 0]),
  (662, 1, .aload_n 2, 2, 0, 0, []),
  (663, 3, .invokevirtual 84, 223, 0, 0, [1300, 0]),
  (666, 3, .if_icmp .eq 663, 873, 0, 0, []),
  (669, 1, .iconst 0, 0, 0, 0, []),
  (670, 1, .ireturn, 1, 0, 0, []),
  (671, 1, .aload_n 1, 1, 0, 0, []),
  (672, 3, .invokevirtual 85, 150, 0, 0, [690, 0]),
  (675, 1, .aload_n 2, 2, 0, 0, []),
  (676, 3, .invokevirtual 88, 224, 0, 0, [1316, 0]),
  (679, 3, .if_icmp .eq 650, 873, 0, 0, []),
  (682, 1, .iconst 0, 0, 0, 0, []),
  (683, 1, .ireturn, 1, 0, 0, []),
  (684, 1, .aload_n 1, 1, 0, 0, []),
  (685, 3, .invokevirtual 89, 151, 0, 0, [702, 0]),
  (688, 1, .aload_n 2, 2, 0, 0, []),
  (689, 3, .invokevirtual 92, 225, 0, 0, [1324, 0]),
  (692, 3, .if_icmp .eq 637, 873, 0, 0, []),
  (695, 1, .iconst 0, 0, 0, 0, []),
  (696, 1, .ireturn, 1, 0, 0, []),
  (697, 1, .aload_n 1, 1, 0, 0, []),
  (698, 1, .aload_n 0, 0, 0, 0, []),
  (699, 1, .iload_n 3, 3, 0, 0, []),
  (700, 1, .iconst 1, 0, 0, 1, []),
  (701, 1, .iadd, 0, 0, 0, []),
  (702, 1, .iaload, 0, 0, 0, []),
  (703, 1, .aload_n 0, 0, 0, 0, []),
  (704, 1, .iload_n 3, 3, 0, 0, []),
  (705, 1, .iconst 2, 0, 0, 2, []),
  (706, 1, .iadd, 0, 0, 0, []),
  (707, 1, .iaload, 0, 0, 0, []),
  (708, 3, .invokevirtual 93, 152, 2, 0, [710, 0]),
  (711, 1, .aload_n 2, 2, 0, 0, []),
  (712, 1, .aload_n 0, 0, 0, 0, []),
  (713, 1, .iload_n 3, 3, 0, 0, []),
  (714, 1, .iconst 1, 0, 0, 1, []),
  (715, 1, .iadd, 0, 0, 0, []),
  (716, 1, .iaload, 0, 0, 0, []),
  (717, 1, .aload_n 0, 0, 0, 0, []),
  (718, 1, .iload_n 3, 3, 0, 0, []),
  (719, 1, .iconst 2, 0, 0, 2, []),
  (720, 1, .iadd, 0, 0, 0, []),
  (721, 1, .iaload, 0, 0, 0, []),
  (722, 3, .invokevirtual 96, 227, 2, 0, [1328, 0]),
  (725, 3, .if_icmp .eq 604, 873, 0, 0, []),
  (728, 1, .iconst 0, 0, 0, 0, []),
  (729, 1, .ireturn, 1, 0, 0, []),
  (730, 1, .aload_n 1, 1, 0, 0, []),
  (731, 1, .aload_n 0, 0, 0, 0, []),
  (732, 1, .iload_n 3, 3, 0, 0, []),
  (733, 1, .iconst 1, 0, 0, 1, []),
  (734, 1, .iadd, 0, 0, 0, []),
  (735, 1, .iaload, 0, 0, 0, []),
  (736, 1, .aload_n 0, 0, 0, 0, []),
  (737, 1, .iload_n 3, 3, 0, 0, []),
  (738, 1, .iconst 2, 0, 0, 2, []),
  (739, 1, .iadd, 0, 0, 0, []),
  (740, 1, .iaload, 0, 0, 0, []),
  (741, 1, .aload_n 0, 0, 0, 0, []),
  (742, 1, .iload_n 3, 3, 0, 0, []),
  (743, 1, .iconst 3, 0, 0, 3, []),
  (744, 1, .iadd, 0, 0, 0, []),
  (745, 1, .iaload, 0, 0, 0, []),
  (746, 3, .invokevirtual 97, 153, 3, 0, [724, 0]),
  (749, 1, .aload_n 2, 2, 0, 0, []),
  (750, 1, .aload_n 0, 0, 0, 0, []),
  (751, 1, .iload_n 3, 3, 0, 0, []),
  (752, 1, .iconst 1, 0, 0, 1, []),
  (753, 1, .iadd, 0, 0, 0, []),
  (754, 1, .iaload, 0, 0, 0, []),
  (755, 1, .aload_n 0, 0, 0, 0, []),
  (756, 1, .iload_n 3, 3, 0, 0, []),
  (757, 1, .iconst 2, 0, 0, 2, []),
  (758, 1, .iadd, 0, 0, 0, []),
  (759, 1, .iaload, 0, 0, 0, []),
  (760, 1, .aload_n 0, 0, 0, 0, []),
  (761, 1, .iload_n 3, 3, 0, 0, []),
  (762, 1, .iconst 3, 0, 0, 3, []),
  (763, 1, .iadd, 0, 0, 0, []),
  (764, 1, .iaload, 0, 0, 0, []),
  (765, 3, .invokevirtual 100, 228, 3, 0, [1336, 0]),
  (768, 3, .if_icmp .eq 561, 873, 0, 0, []),
  (771, 1, .iconst 0, 0, 0, 0, []),
  (772, 1, .ireturn, 1, 0, 0, []),
  (773, 1, .aload_n 1, 1, 0, 0, []),
  (774, 1, .aload_n 0, 0, 0, 0, []),
  (775, 1, .iload_n 3, 3, 0, 0, []),
  (776, 1, .iconst 1, 0, 0, 1, []),
  (777, 1, .iadd, 0, 0, 0, []),
  (778, 1, .iaload, 0, 0, 0, []),
  (779, 3, .invokevirtual 101, 154, 1, 0, [741, 0]),
  (782, 1, .aload_n 2, 2, 0, 0, []),
  (783, 1, .aload_n 0, 0, 0, 0, []),
  (784, 1, .iload_n 3, 3, 0, 0, []),
  (785, 1, .iconst 1, 0, 0, 1, []),
  (786, 1, .iadd, 0, 0, 0, []),
  (787, 1, .iaload, 0, 0, 0, []),
  (788, 3, .invokevirtual 104, 229, 1, 0, [1340, 0]),
  (791, 3, .if_icmp .eq 538, 873, 0, 0, []),
  (794, 1, .iconst 0, 0, 0, 0, []),
  (795, 1, .ireturn, 1, 0, 0, []),
  (796, 1, .aload_n 1, 1, 0, 0, []),
  (797, 1, .aload_n 0, 0, 0, 0, []),
  (798, 1, .iload_n 3, 3, 0, 0, []),
  (799, 1, .iconst 1, 0, 0, 1, []),
  (800, 1, .iadd, 0, 0, 0, []),
  (801, 1, .iaload, 0, 0, 0, []),
  (802, 1, .aload_n 0, 0, 0, 0, []),
  (803, 1, .iload_n 3, 3, 0, 0, []),
  (804, 1, .iconst 2, 0, 0, 2, []),
  (805, 1, .iadd, 0, 0, 0, []),
  (806, 1, .iaload, 0, 0, 0, []),
  (807, 3, .invokevirtual 105, 155, 2, 0, [749, 0]),
  (810, 1, .aload_n 2, 2, 0, 0, []),
  (811, 1, .aload_n 0, 0, 0, 0, []),
  (812, 1, .iload_n 3, 3, 0, 0, []),
  (813, 1, .iconst 1, 0, 0, 1, []),
  (814, 1, .iadd, 0, 0, 0, []),
  (815, 1, .iaload, 0, 0, 0, []),
  (816, 1, .aload_n 0, 0, 0, 0, []),
  (817, 1, .iload_n 3, 3, 0, 0, []),
  (818, 1, .iconst 2, 0, 0, 2, []),
  (819, 1, .iadd, 0, 0, 0, []),
  (820, 1, .iaload, 0, 0, 0, []),
  (821, 3, .invokevirtual 108, 233, 2, 0, [1344, 0]),
  (824, 3, .if_icmp .eq 505, 873, 0, 0, []),
  (827, 1, .iconst 0, 0, 0, 0, []),
  (828, 1, .ireturn, 1, 0, 0, []),
  (829, 1, .aload_n 1, 1, 0, 0, []),
  (830, 1, .aload_n 0, 0, 0, 0, []),
  (831, 1, .iload_n 3, 3, 0, 0, []),
  (832, 1, .iconst 1, 0, 0, 1, []),
  (833, 1, .iadd, 0, 0, 0, []),
  (834, 1, .iaload, 0, 0, 0, []),
  (835, 3, .invokevirtual 109, 156, 1, 0, [799, 0]),
  (838, 1, .aload_n 2, 2, 0, 0, []),
  (839, 1, .aload_n 0, 0, 0, 0, []),
  (840, 1, .iload_n 3, 3, 0, 0, []),
  (841, 1, .iconst 1, 0, 0, 1, []),
  (842, 1, .iadd, 0, 0, 0, []),
  (843, 1, .iaload, 0, 0, 0, []),
  (844, 3, .invokevirtual 112, 234, 1, 0, [1361, 0]),
  (847, 3, .if_icmp .eq 482, 873, 0, 0, []),
  (850, 1, .iconst 0, 0, 0, 0, []),
  (851, 1, .ireturn, 1, 0, 0, []),
  (852, 1, .aload_n 1, 1, 0, 0, []),
  (853, 3, .invokevirtual 113, 158, 0, 0, [807, 0]),
  (856, 1, .aload_n 2, 2, 0, 0, []),
  (857, 3, .invokevirtual 116, 235, 0, 0, [1365, 0]),
  (860, 3, .if_icmp .eq 469, 873, 0, 0, []),
  (863, 1, .iconst 0, 0, 0, 0, []),
  (864, 1, .ireturn, 1, 0, 0, []),
  (865, 1, .aload_n 1, 1, 0, 0, []),
  (866, 1, .aload_n 0, 0, 0, 0, []),
  (867, 1, .iload_n 3, 3, 0, 0, []),
  (868, 1, .iconst 1, 0, 0, 1, []),
  (869, 1, .iadd, 0, 0, 0, []),
  (870, 1, .iaload, 0, 0, 0, []),
  (871, 3, .invokevirtual 117, 159, 1, 0, [825, 0]),
  (874, 1, .aload_n 2, 2, 0, 0, []),
  (875, 1, .aload_n 0, 0, 0, 0, []),
  (876, 1, .iload_n 3, 3, 0, 0, []),
  (877, 1, .iconst 1, 0, 0, 1, []),
  (878, 1, .iadd, 0, 0, 0, []),
  (879, 1, .iaload, 0, 0, 0, []),
  (880, 3, .invokevirtual 120, 236, 1, 0, [1371, 0]),
  (883, 3, .if_icmp .eq 446, 873, 0, 0, []),
  (886, 1, .iconst 0, 0, 0, 0, []),
  (887, 1, .ireturn, 1, 0, 0, []),
  (888, 1, .aload_n 1, 1, 0, 0, []),
  (889, 3, .invokevirtual 121, 160, 0, 0, [840, 0]),
  (892, 1, .aload_n 2, 2, 0, 0, []),
  (893, 3, .invokevirtual 124, 238, 0, 0, [1375, 0]),
  (896, 3, .if_icmp .eq 433, 873, 0, 0, []),
  (899, 1, .iconst 0, 0, 0, 0, []),
  (900, 1, .ireturn, 1, 0, 0, []),
  (901, 1, .aload_n 1, 1, 0, 0, []),
  (902, 3, .invokevirtual 125, 161, 0, 0, [856, 0]),
  (905, 1, .aload_n 2, 2, 0, 0, []),
  (906, 3, .invokevirtual 128, 239, 0, 0, [1383, 0]),
  (909, 3, .if_icmp .eq 420, 873, 0, 0, []),
  (912, 1, .iconst 0, 0, 0, 0, []),
  (913, 1, .ireturn, 1, 0, 0, []),
  (914, 1, .aload_n 1, 1, 0, 0, []),
  (915, 1, .aload_n 0, 0, 0, 0, []),
  (916, 1, .iload_n 3, 3, 0, 0, []),
  (917, 1, .iconst 1, 0, 0, 1, []),
  (918, 1, .iadd, 0, 0, 0, []),
  (919, 1, .iaload, 0, 0, 0, []),
  (920, 3, .invokevirtual 129, 162, 1, 0, [868, 0]),
  (923, 1, .aload_n 2, 2, 0, 0, []),
  (924, 1, .aload_n 0, 0, 0, 0, []),
  (925, 1, .iload_n 3, 3, 0, 0, []),
  (926, 1, .iconst 1, 0, 0, 1, []),
  (927, 1, .iadd, 0, 0, 0, []),
  (928, 1, .iaload, 0, 0, 0, []),
  (929, 3, .invokevirtual 132, 240, 1, 0, [1387, 0]),
  (932, 3, .if_icmp .eq 397, 873, 0, 0, []),
  (935, 1, .iconst 0, 0, 0, 0, []),
  (936, 1, .ireturn, 1, 0, 0, []),
  (937, 1, .aload_n 1, 1, 0, 0, []),
  (938, 1, .aload_n 0, 0, 0, 0, []),
  (939, 1, .iload_n 3, 3, 0, 0, []),
  (940, 1, .iconst 1, 0, 0, 1, []),
  (941, 1, .iadd, 0, 0, 0, []),
  (942, 1, .iaload, 0, 0, 0, []),
  (943, 1, .aload_n 0, 0, 0, 0, []),
  (944, 1, .iload_n 3, 3, 0, 0, []),
  (945, 1, .iconst 2, 0, 0, 2, []),
  (946, 1, .iadd, 0, 0, 0, []),
  (947, 1, .iaload, 0, 0, 0, []),
  (948, 3, .invokevirtual 133, 163, 2, 0, [873, 0]),
  (951, 1, .aload_n 2, 2, 0, 0, []),
  (952, 1, .aload_n 0, 0, 0, 0, []),
  (953, 1, .iload_n 3, 3, 0, 0, []),
  (954, 1, .iconst 1, 0, 0, 1, []),
  (955, 1, .iadd, 0, 0, 0, []),
  (956, 1, .iaload, 0, 0, 0, []),
  (957, 1, .aload_n 0, 0, 0, 0, []),
  (958, 1, .iload_n 3, 3, 0, 0, []),
  (959, 1, .iconst 2, 0, 0, 2, []),
  (960, 1, .iadd, 0, 0, 0, []),
  (961, 1, .iaload, 0, 0, 0, []),
  (962, 3, .invokevirtual 136, 242, 2, 0, [1391, 0]),
  (965, 3, .if_icmp .eq 364, 873, 0, 0, []),
  (968, 1, .iconst 0, 0, 0, 0, []),
  (969, 1, .ireturn, 1, 0, 0, []),
  (970, 1, .aload_n 1, 1, 0, 0, []),
  (971, 1, .aload_n 0, 0, 0, 0, []),
  (972, 1, .iload_n 3, 3, 0, 0, []),
  (973, 1, .iconst 1, 0, 0, 1, []),
  (974, 1, .iadd, 0, 0, 0, []),
  (975, 1, .iaload, 0, 0, 0, []),
  (976, 3, .invokevirtual 137, 164, 1, 0, [886, 0]),
  (979, 1, .aload_n 2, 2, 0, 0, []),
  (980, 1, .aload_n 0, 0, 0, 0, []),
  (981, 1, .iload_n 3, 3, 0, 0, []),
  (982, 1, .iconst 1, 0, 0, 1, []),
  (983, 1, .iadd, 0, 0, 0, []),
  (984, 1, .iaload, 0, 0, 0, []),
  (985, 3, .invokevirtual 140, 244, 1, 0, [1399, 0]),
  (988, 3, .if_icmp .eq 341, 873, 0, 0, []),
  (991, 1, .iconst 0, 0, 0, 0, []),
  (992, 1, .ireturn, 1, 0, 0, []),
  (993, 1, .aload_n 1, 1, 0, 0, []),
  (994, 1, .aload_n 0, 0, 0, 0, []),
  (995, 1, .iload_n 3, 3, 0, 0, []),
  (996, 1, .iconst 1, 0, 0, 1, []),
  (997, 1, .iadd, 0, 0, 0, []),
  (998, 1, .iaload, 0, 0, 0, []),
  (999, 1, .aload_n 0, 0, 0, 0, []),
  (1000, 1, .iload_n 3, 3, 0, 0, []),
  (1001, 1, .iconst 2, 0, 0, 2, []),
  (1002, 1, .iadd, 0, 0, 0, []),
  (1003, 1, .iaload, 0, 0, 0, []),
  (1004, 3, .invokevirtual 141, 165, 2, 0, [903, 0]),
  (1007, 1, .aload_n 2, 2, 0, 0, []),
  (1008, 1, .aload_n 0, 0, 0, 0, []),
  (1009, 1, .iload_n 3, 3, 0, 0, []),
  (1010, 1, .iconst 1, 0, 0, 1, []),
  (1011, 1, .iadd, 0, 0, 0, []),
  (1012, 1, .iaload, 0, 0, 0, []),
  (1013, 1, .aload_n 0, 0, 0, 0, []),
  (1014, 1, .iload_n 3, 3, 0, 0, []),
  (1015, 1, .iconst 2, 0, 0, 2, []),
  (1016, 1, .iadd, 0, 0, 0, []),
  (1017, 1, .iaload, 0, 0, 0, []),
  (1018, 3, .invokevirtual 144, 245, 2, 0, [1407, 0]),
  (1021, 3, .if_icmp .eq 308, 873, 0, 0, []),
  (1024, 1, .iconst 0, 0, 0, 0, []),
  (1025, 1, .ireturn, 1, 0, 0, []),
  (1026, 1, .aload_n 1, 1, 0, 0, []),
  (1027, 1, .aload_n 0, 0, 0, 0, []),
  (1028, 1, .iload_n 3, 3, 0, 0, []),
  (1029, 1, .iconst 1, 0, 0, 1, []),
  (1030, 1, .iadd, 0, 0, 0, []),
  (1031, 1, .iaload, 0, 0, 0, []),
  (1032, 3, .invokevirtual 145, 166, 1, 0, [908, 0]),
  (1035, 1, .aload_n 2, 2, 0, 0, []),
  (1036, 1, .aload_n 0, 0, 0, 0, []),
  (1037, 1, .iload_n 3, 3, 0, 0, []),
  (1038, 1, .iconst 1, 0, 0, 1, []),
  (1039, 1, .iadd, 0, 0, 0, []),
  (1040, 1, .iaload, 0, 0, 0, []),
  (1041, 3, .invokevirtual 148, 246, 1, 0, [1411, 0]),
  (1044, 3, .if_icmp .eq 285, 873, 0, 0, []),
  (1047, 1, .iconst 0, 0, 0, 0, []),
  (1048, 1, .ireturn, 1, 0, 0, []),
  (1049, 1, .aload_n 1, 1, 0, 0, []),
  (1050, 3, .invokevirtual 149, 167, 0, 0, [916, 0]),
  (1053, 1, .aload_n 2, 2, 0, 0, []),
  (1054, 3, .invokevirtual 152, 247, 0, 0, [1415, 0]),
  (1057, 3, .if_icmp .eq 272, 873, 0, 0, []),
  (1060, 1, .iconst 0, 0, 0, 0, []),
  (1061, 1, .ireturn, 1, 0, 0, []),
  (1062, 1, .aload_n 1, 1, 0, 0, []),
  (1063, 1, .aload_n 0, 0, 0, 0, []),
  (1064, 1, .iload_n 3, 3, 0, 0, []),
  (1065, 1, .iconst 1, 0, 0, 1, []),
  (1066, 1, .iadd, 0, 0, 0, []),
  (1067, 1, .iaload, 0, 0, 0, []),
  (1068, 3, .invokevirtual 153, 168, 1, 0, [932, 0]),
  (1071, 1, .aload_n 2, 2, 0, 0, []),
  (1072, 1, .aload_n 0, 0, 0, 0, []),
  (1073, 1, .iload_n 3, 3, 0, 0, []),
  (1074, 1, .iconst 1, 0, 0, 1, []),
  (1075, 1, .iadd, 0, 0, 0, []),
  (1076, 1, .iaload, 0, 0, 0, []),
  (1077, 3, .invokevirtual 156, 248, 1, 0, [1419, 0]),
  (1080, 3, .if_icmp .eq 249, 873, 0, 0, []),
  (1083, 1, .iconst 0, 0, 0, 0, []),
  (1084, 1, .ireturn, 1, 0, 0, []),
  (1085, 1, .aload_n 1, 1, 0, 0, []),
  (1086, 1, .aload_n 0, 0, 0, 0, []),
  (1087, 1, .iload_n 3, 3, 0, 0, []),
  (1088, 1, .iconst 1, 0, 0, 1, []),
  (1089, 1, .iadd, 0, 0, 0, []),
  (1090, 1, .iaload, 0, 0, 0, []),
  (1091, 3, .invokevirtual 157, 169, 1, 0, [937, 0]),
  (1094, 1, .aload_n 2, 2, 0, 0, []),
  (1095, 1, .aload_n 0, 0, 0, 0, []),
  (1096, 1, .iload_n 3, 3, 0, 0, []),
  (1097, 1, .iconst 1, 0, 0, 1, []),
  (1098, 1, .iadd, 0, 0, 0, []),
  (1099, 1, .iaload, 0, 0, 0, []),
  (1100, 3, .invokevirtual 160, 249, 1, 0, [1423, 0]),
  (1103, 3, .if_icmp .eq 226, 873, 0, 0, []),
  (1106, 1, .iconst 0, 0, 0, 0, []),
  (1107, 1, .ireturn, 1, 0, 0, []),
  (1108, 1, .aload_n 1, 1, 0, 0, []),
  (1109, 1, .aload_n 0, 0, 0, 0, []),
  (1110, 1, .iload_n 3, 3, 0, 0, []),
  (1111, 1, .iconst 1, 0, 0, 1, []),
  (1112, 1, .iadd, 0, 0, 0, []),
  (1113, 1, .iaload, 0, 0, 0, []),
  (1114, 1, .aload_n 0, 0, 0, 0, []),
  (1115, 1, .iload_n 3, 3, 0, 0, []),
  (1116, 1, .iconst 2, 0, 0, 2, []),
  (1117, 1, .iadd, 0, 0, 0, []),
  (1118, 1, .iaload, 0, 0, 0, []),
  (1119, 3, .invokevirtual 161, 170, 2, 0, [954, 0]),
  (1122, 1, .aload_n 2, 2, 0, 0, []),
  (1123, 1, .aload_n 0, 0, 0, 0, []),
  (1124, 1, .iload_n 3, 3, 0, 0, []),
  (1125, 1, .iconst 1, 0, 0, 1, []),
  (1126, 1, .iadd, 0, 0, 0, []),
  (1127, 1, .iaload, 0, 0, 0, []),
  (1128, 1, .aload_n 0, 0, 0, 0, []),
  (1129, 1, .iload_n 3, 3, 0, 0, []),
  (1130, 1, .iconst 2, 0, 0, 2, []),
  (1131, 1, .iadd, 0, 0, 0, []),
  (1132, 1, .iaload, 0, 0, 0, []),
  (1133, 3, .invokevirtual 164, 251, 2, 0, [1428, 0]),
  (1136, 3, .if_icmp .eq 193, 873, 0, 0, []),
  (1139, 1, .iconst 0, 0, 0, 0, []),
  (1140, 1, .ireturn, 1, 0, 0, []),
  (1141, 1, .aload_n 1, 1, 0, 0, []),
  (1142, 1, .aload_n 0, 0, 0, 0, []),
  (1143, 1, .iload_n 3, 3, 0, 0, []),
  (1144, 1, .iconst 1, 0, 0, 1, []),
  (1145, 1, .iadd, 0, 0, 0, []),
  (1146, 1, .iaload, 0, 0, 0, []),
  (1147, 1, .aload_n 0, 0, 0, 0, []),
  (1148, 1, .iload_n 3, 3, 0, 0, []),
  (1149, 1, .iconst 2, 0, 0, 2, []),
  (1150, 1, .iadd, 0, 0, 0, []),
  (1151, 1, .iaload, 0, 0, 0, []),
  (1152, 1, .aload_n 0, 0, 0, 0, []),
  (1153, 1, .iload_n 3, 3, 0, 0, []),
  (1154, 1, .iconst 3, 0, 0, 3, []),
  (1155, 1, .iadd, 0, 0, 0, []),
  (1156, 1, .iaload, 0, 0, 0, []),
  (1157, 3, .invokevirtual 165, 171, 3, 0, [967, 0]),
  (1160, 1, .aload_n 2, 2, 0, 0, []),
  (1161, 1, .aload_n 0, 0, 0, 0, []),
  (1162, 1, .iload_n 3, 3, 0, 0, []),
  (1163, 1, .iconst 1, 0, 0, 1, []),
  (1164, 1, .iadd, 0, 0, 0, []),
  (1165, 1, .iaload, 0, 0, 0, []),
  (1166, 1, .aload_n 0, 0, 0, 0, []),
  (1167, 1, .iload_n 3, 3, 0, 0, []),
  (1168, 1, .iconst 2, 0, 0, 2, []),
  (1169, 1, .iadd, 0, 0, 0, []),
  (1170, 1, .iaload, 0, 0, 0, []),
  (1171, 1, .aload_n 0, 0, 0, 0, []),
  (1172, 1, .iload_n 3, 3, 0, 0, []),
  (1173, 1, .iconst 3, 0, 0, 3, []),
  (1174, 1, .iadd, 0, 0, 0, []),
  (1175, 1, .iaload, 0, 0, 0, []),
  (1176, 3, .invokevirtual 168, 252, 3, 0, [1435, 0]),
  (1179, 3, .if_icmp .eq 150, 873, 0, 0, []),
  (1182, 1, .iconst 0, 0, 0, 0, []),
  (1183, 1, .ireturn, 1, 0, 0, []),
  (1184, 1, .aload_n 1, 1, 0, 0, []),
  (1185, 1, .aload_n 0, 0, 0, 0, []),
  (1186, 1, .iload_n 3, 3, 0, 0, []),
  (1187, 1, .iconst 1, 0, 0, 1, []),
  (1188, 1, .iadd, 0, 0, 0, []),
  (1189, 1, .iaload, 0, 0, 0, []),
  (1190, 1, .aload_n 0, 0, 0, 0, []),
  (1191, 1, .iload_n 3, 3, 0, 0, []),
  (1192, 1, .iconst 2, 0, 0, 2, []),
  (1193, 1, .iadd, 0, 0, 0, []),
  (1194, 1, .iaload, 0, 0, 0, []),
  (1195, 3, .invokevirtual 169, 172, 2, 0, [984, 0]),
  (1198, 1, .aload_n 2, 2, 0, 0, []),
  (1199, 1, .aload_n 0, 0, 0, 0, []),
  (1200, 1, .iload_n 3, 3, 0, 0, []),
  (1201, 1, .iconst 1, 0, 0, 1, []),
  (1202, 1, .iadd, 0, 0, 0, []),
  (1203, 1, .iaload, 0, 0, 0, []),
  (1204, 1, .aload_n 0, 0, 0, 0, []),
  (1205, 1, .iload_n 3, 3, 0, 0, []),
  (1206, 1, .iconst 2, 0, 0, 2, []),
  (1207, 1, .iadd, 0, 0, 0, []),
  (1208, 1, .iaload, 0, 0, 0, []),
  (1209, 3, .invokevirtual 172, 253, 2, 0, [1439, 0]),
  (1212, 3, .if_icmp .eq 117, 873, 0, 0, []),
  (1215, 1, .iconst 0, 0, 0, 0, []),
  (1216, 1, .ireturn, 1, 0, 0, []),
  (1217, 1, .aload_n 1, 1, 0, 0, []),
  (1218, 1, .aload_n 0, 0, 0, 0, []),
  (1219, 1, .iload_n 3, 3, 0, 0, []),
  (1220, 1, .iconst 1, 0, 0, 1, []),
  (1221, 1, .iadd, 0, 0, 0, []),
  (1222, 1, .iaload, 0, 0, 0, []),
  (1223, 1, .aload_n 0, 0, 0, 0, []),
  (1224, 1, .iload_n 3, 3, 0, 0, []),
  (1225, 1, .iconst 2, 0, 0, 2, []),
  (1226, 1, .iadd, 0, 0, 0, []),
  (1227, 1, .iaload, 0, 0, 0, []),
  (1228, 1, .aload_n 0, 0, 0, 0, []),
  (1229, 1, .iload_n 3, 3, 0, 0, []),
  (1230, 1, .iconst 3, 0, 0, 3, []),
  (1231, 1, .iadd, 0, 0, 0, []),
  (1232, 1, .iaload, 0, 0, 0, []),
  (1233, 3, .invokevirtual 173, 173, 3, 0, [994, 0]),
  (1236, 1, .aload_n 2, 2, 0, 0, []),
  (1237, 1, .aload_n 0, 0, 0, 0, []),
  (1238, 1, .iload_n 3, 3, 0, 0, []),
  (1239, 1, .iconst 1, 0, 0, 1, []),
  (1240, 1, .iadd, 0, 0, 0, []),
  (1241, 1, .iaload, 0, 0, 0, []),
  (1242, 1, .aload_n 0, 0, 0, 0, []),
  (1243, 1, .iload_n 3, 3, 0, 0, []),
  (1244, 1, .iconst 2, 0, 0, 2, []),
  (1245, 1, .iadd, 0, 0, 0, []),
  (1246, 1, .iaload, 0, 0, 0, []),
  (1247, 1, .aload_n 0, 0, 0, 0, []),
  (1248, 1, .iload_n 3, 3, 0, 0, []),
  (1249, 1, .iconst 3, 0, 0, 3, []),
  (1250, 1, .iadd, 0, 0, 0, []),
  (1251, 1, .iaload, 0, 0, 0, []),
  (1252, 3, .invokevirtual 176, 254, 3, 0, [1444, 0]),
  (1255, 3, .if_icmp .eq 74, 873, 0, 0, []),
  (1258, 1, .iconst 0, 0, 0, 0, []),
  (1259, 1, .ireturn, 1, 0, 0, []),
  (1260, 1, .aload_n 1, 1, 0, 0, []),
  (1261, 1, .aload_n 0, 0, 0, 0, []),
  (1262, 1, .iload_n 3, 3, 0, 0, []),
  (1263, 1, .iconst 1, 0, 0, 1, []),
  (1264, 1, .iadd, 0, 0, 0, []),
  (1265, 1, .iaload, 0, 0, 0, []),
  (1266, 1, .aload_n 0, 0, 0, 0, []),
  (1267, 1, .iload_n 3, 3, 0, 0, []),
  (1268, 1, .iconst 2, 0, 0, 2, []),
  (1269, 1, .iadd, 0, 0, 0, []),
  (1270, 1, .iaload, 0, 0, 0, []),
  (1271, 1, .aload_n 0, 0, 0, 0, []),
  (1272, 1, .iload_n 3, 3, 0, 0, []),
  (1273, 1, .iconst 3, 0, 0, 3, []),
  (1274, 1, .iadd, 0, 0, 0, []),
  (1275, 1, .iaload, 0, 0, 0, []),
  (1276, 3, .invokevirtual 177, 174, 3, 0, [1003, 0]),
  (1279, 1, .aload_n 2, 2, 0, 0, []),
  (1280, 1, .aload_n 0, 0, 0, 0, []),
  (1281, 1, .iload_n 3, 3, 0, 0, []),
  (1282, 1, .iconst 1, 0, 0, 1, []),
  (1283, 1, .iadd, 0, 0, 0, []),
  (1284, 1, .iaload, 0, 0, 0, []),
  (1285, 1, .aload_n 0, 0, 0, 0, []),
  (1286, 1, .iload_n 3, 3, 0, 0, []),
  (1287, 1, .iconst 2, 0, 0, 2, []),
  (1288, 1, .iadd, 0, 0, 0, []),
  (1289, 1, .iaload, 0, 0, 0, []),
  (1290, 1, .aload_n 0, 0, 0, 0, []),
  (1291, 1, .iload_n 3, 3, 0, 0, []),
  (1292, 1, .iconst 3, 0, 0, 3, []),
  (1293, 1, .iadd, 0, 0, 0, []),
  (1294, 1, .iaload, 0, 0, 0, []),
  (1295, 3, .invokevirtual 180, 255, 3, 0, [1448, 0]),
  (1298, 3, .if_icmp .eq 31, 873, 0, 0, []),
  (1301, 1, .iconst 0, 0, 0, 0, []),
  (1302, 1, .ireturn, 1, 0, 0, []),
  (1303, 1, .aload_n 1, 1, 0, 0, []),
  (1304, 3, .invokevirtual 181, 175, 0, 0, [1007, 0]),
  (1307, 1, .aload_n 2, 2, 0, 0, []),
  (1308, 3, .invokevirtual 184, 258, 0, 0, [1452, 0]),
  (1311, 3, .if_icmp .eq 18, 873, 0, 0, []),
  (1314, 1, .iconst 0, 0, 0, 0, []),
  (1315, 1, .ireturn, 1, 0, 0, []),
  (1316, 1, .aload_n 1, 1, 0, 0, []),
  (1317, 3, .invokevirtual 185, 176, 0, 0, [1025, 0]),
  (1320, 1, .aload_n 2, 2, 0, 0, []),
  (1321, 3, .invokevirtual 188, 259, 0, 0, [1463, 0]),
  (1324, 3, .if_icmp .eq 5, 873, 0, 0, []),
  (1327, 1, .iconst 0, 0, 0, 0, []),
  (1328, 1, .ireturn, 1, 0, 0, []),
  (1329, 3, .iinc 3 4, 3, 0, 4, []),
  (1332, 3, .goto (-1314), 10, 0, 0, []),
  (1335, 1, .iconst 1, 0, 0, 1, []),
  (1336, 1, .ireturn, 1, 0, 0, [])])
def tw_mt : List tw_Meth := [tw_M0, tw_M1, tw_M2, tw_M3, tw_M4, tw_M5, tw_M6, tw_M7, tw_M8, tw_M9, tw_M10, tw_M11, tw_M12, tw_M13, tw_M14, tw_M15, tw_M16, tw_M17, tw_M18, tw_M19, tw_M20, tw_M21, tw_M22, tw_M23, tw_M24, tw_M25, tw_M26, tw_M27, tw_M28, tw_M29, tw_M30, tw_M31, tw_M32, tw_M33, tw_M34, tw_M35, tw_M36, tw_M37, tw_M38, tw_M39, tw_M40, tw_M41, tw_M42, tw_M43, tw_M44, tw_M45, tw_M46, tw_M47, tw_M48, tw_M49, tw_M50, tw_M51, tw_M52, tw_M53, tw_M54, tw_M55, tw_M56, tw_M57, tw_M58, tw_M59, tw_M60, tw_M61, tw_M62, tw_M63, tw_M64, tw_M65, tw_M66, tw_M67, tw_M68, tw_M69, tw_M70, tw_M71, tw_M72, tw_M73, tw_M74, tw_M75, tw_M76, tw_M77, tw_M78, tw_M79, tw_M80, tw_M81, tw_M82, tw_M83, tw_M84, tw_M85, tw_M86, tw_M87, tw_M88, tw_M89, tw_M90, tw_M91, tw_M92, tw_M93, tw_M94, tw_M95, tw_M96, tw_M97, tw_M98, tw_M99, tw_M100, tw_M101, tw_M102, tw_M103, tw_M104, tw_M105, tw_M106, tw_M107, tw_M108, tw_M109, tw_M110, tw_M111, tw_M112, tw_M113, tw_M114, tw_M115, tw_M116, tw_M117, tw_M118, tw_M119, tw_M120, tw_M121, tw_M122, tw_M123, tw_M124, tw_M125, tw_M126, tw_M127, tw_M128, tw_M129, tw_M130, tw_M131, tw_M132, tw_M133, tw_M134, tw_M135, tw_M136, tw_M137, tw_M138, tw_M139, tw_M140, tw_M141, tw_M142, tw_M143, tw_M144, tw_M145, tw_M146, tw_M147, tw_M148, tw_M149, tw_M150, tw_M151, tw_M152, tw_M153, tw_M154, tw_M155, tw_M156, tw_M157, tw_M158, tw_M159, tw_M160, tw_M161, tw_M162, tw_M163, tw_M164, tw_M165, tw_M166, tw_M167, tw_M168, tw_M169, tw_M170, tw_M171, tw_M172, tw_M173, tw_M174, tw_M175, tw_M176, tw_M177, tw_M178, tw_M179, tw_M180, tw_M181, tw_M182, tw_M183, tw_M184, tw_M185, tw_M186, tw_M187, tw_M188, tw_M189, tw_M190, tw_M191, tw_M192, tw_M193, tw_M194, tw_M195, tw_M196, tw_M197, tw_M198, tw_M199, tw_M200, tw_M201, tw_M202, tw_M203, tw_M204, tw_M205, tw_M206, tw_M207, tw_M208, tw_M209, tw_M210, tw_M211, tw_M212, tw_M213, tw_M214, tw_M215, tw_M216, tw_M217, tw_M218, tw_M219, tw_M220, tw_M221, tw_M222, tw_M223, tw_M224, tw_M225, tw_M226, tw_M227, tw_M228, tw_M229, tw_M230, tw_M231, tw_M232, tw_M233, tw_M234, tw_M235, tw_M236, tw_M237, tw_M238, tw_M239, tw_M240, tw_M241, tw_M242, tw_M243, tw_M244, tw_M245, tw_M246, tw_M247, tw_M248, tw_M249, tw_M250, tw_M251, tw_M252, tw_M253, tw_M254, tw_M255, tw_M256, tw_M257, tw_M258, tw_M259, tw_M260, tw_M261, tw_M262, tw_M263, tw_M264]
def tw_NM : Nat := 265
def tw_NC : Nat := 119
def tw_LAW : Nat := 264
/-- the cells: what (a class by its place in vwCl; 20 int[], 21 byte[], 22 char[], 23 boolean[], 24 Card[]) and how many slots -/
def tw_shL : List (Nat × Nat) := [(0, 0), (10, 10), (9, 2), (21, 80), (9, 2), (21, 80), (6, 5), (24, 10), (20, 10), (1, 5), (20, 2000), (20, 10), (20, 10), (3, 6), (22, 80), (20, 80), (20, 80), (20, 80), (0, 4), (20, 4), (0, 4), (20, 4), (0, 4), (20, 4), (0, 4), (20, 4), (0, 4), (20, 4), (0, 4), (20, 4), (0, 4), (20, 4), (0, 4), (20, 4), (0, 4), (20, 4), (0, 4), (20, 4), (6, 5), (24, 10), (20, 10), (1, 5), (20, 2000), (20, 10), (20, 10), (3, 6), (22, 80), (20, 80), (20, 80), (20, 80), (0, 4), (20, 4), (0, 4), (20, 4), (0, 4), (20, 4), (0, 4), (20, 4), (0, 4), (20, 4), (0, 4), (20, 4), (0, 4), (20, 4), (0, 4), (20, 4), (0, 4), (20, 4), (0, 4), (20, 4), (4, 4), (3, 6), (22, 80), (20, 80), (20, 80), (20, 80), (7, 3), (20, 10), (20, 10), (8, 2), (20, 80), (2, 3), (20, 36), (20, 8), (20, 80), (5, 2), (20, 80), (20, 4), (11, 41), (20, 2), (20, 2), (20, 80), (20, 20), (20, 20), (20, 20), (20, 1000), (20, 1000), (20, 1000), (20, 1000), (20, 160), (20, 160), (20, 160), (20, 160), (20, 80), (20, 80), (20, 80), (20, 80), (20, 80), (20, 40), (20, 10), (20, 10), (20, 10), (20, 10), (20, 80), (20, 36), (20, 80), (20, 60), (23, 4), (20, 4), (20, 80)]
/-- the slots that hold references: 1 always the cell told, 2 null or the cell told -/
def tw_kdL : List (List (Nat × Nat)) := [[], [(1, 2), (1, 4), (1, 6), (1, 38), (1, 70), (1, 76), (1, 79), (1, 81), (1, 85), (0, 0)], [(1, 3), (0, 0)], [], [(1, 5), (0, 0)], [], [(1, 7), (1, 8), (1, 9), (1, 13), (0, 0)], [(1, 18), (1, 20), (1, 22), (1, 24), (1, 26), (1, 28), (1, 30), (1, 32), (1, 34), (1, 36)], [], [(1, 10), (1, 11), (1, 12), (0, 0), (0, 0)], [], [], [], [(1, 14), (1, 15), (1, 16), (1, 17), (0, 0), (0, 0)], [], [], [], [], [(1, 19), (0, 0), (0, 0), (0, 0)], [], [(1, 21), (0, 0), (0, 0), (0, 0)], [], [(1, 23), (0, 0), (0, 0), (0, 0)], [], [(1, 25), (0, 0), (0, 0), (0, 0)], [], [(1, 27), (0, 0), (0, 0), (0, 0)], [], [(1, 29), (0, 0), (0, 0), (0, 0)], [], [(1, 31), (0, 0), (0, 0), (0, 0)], [], [(1, 33), (0, 0), (0, 0), (0, 0)], [], [(1, 35), (0, 0), (0, 0), (0, 0)], [], [(1, 37), (0, 0), (0, 0), (0, 0)], [], [(1, 39), (1, 40), (1, 41), (1, 45), (0, 0)], [(1, 50), (1, 52), (1, 54), (1, 56), (1, 58), (1, 60), (1, 62), (1, 64), (1, 66), (1, 68)], [], [(1, 42), (1, 43), (1, 44), (0, 0), (0, 0)], [], [], [], [(1, 46), (1, 47), (1, 48), (1, 49), (0, 0), (0, 0)], [], [], [], [], [(1, 51), (0, 0), (0, 0), (0, 0)], [], [(1, 53), (0, 0), (0, 0), (0, 0)], [], [(1, 55), (0, 0), (0, 0), (0, 0)], [], [(1, 57), (0, 0), (0, 0), (0, 0)], [], [(1, 59), (0, 0), (0, 0), (0, 0)], [], [(1, 61), (0, 0), (0, 0), (0, 0)], [], [(1, 63), (0, 0), (0, 0), (0, 0)], [], [(1, 65), (0, 0), (0, 0), (0, 0)], [], [(1, 67), (0, 0), (0, 0), (0, 0)], [], [(1, 69), (0, 0), (0, 0), (0, 0)], [], [(1, 71), (2, 2), (0, 0), (0, 0)], [(1, 72), (1, 73), (1, 74), (1, 75), (0, 0), (0, 0)], [], [], [], [], [(1, 77), (1, 78), (0, 0)], [], [], [(1, 80), (0, 0)], [], [(1, 82), (1, 83), (1, 84)], [], [], [], [(1, 86), (1, 87)], [], [], [(0, 0), (1, 89), (1, 90), (1, 91), (1, 92), (1, 93), (1, 94), (1, 95), (1, 96), (1, 97), (1, 98), (0, 0), (1, 99), (1, 100), (1, 101), (1, 102), (1, 103), (0, 0), (0, 0), (0, 0), (0, 0), (0, 0), (0, 0), (1, 104), (1, 105), (1, 106), (1, 107), (1, 108), (1, 109), (1, 110), (1, 111), (1, 112), (0, 0), (1, 113), (1, 114), (1, 115), (1, 116), (0, 0), (1, 117), (1, 118), (1, 119)], [], [], [], [], [], [], [], [], [], [], [], [], [], [], [], [], [], [], [], [], [], [], [], [], [], [], [], [], [], [], []]
end
section
/-! the table machine: one step of an instruction over whole numbers, references as numbers of cells, a memory as a function -/
abbrev tw_Mem : Type := Nat → Nat → Int32
abbrev tw_Md : Type := Option Nat
abbrev tw_Cfg : Type := Nat × List Value × List Value × tw_Md × tw_Mem
abbrev tw_Ret : Type := Option Value × tw_Md × tw_Mem
abbrev tw_Out : Type := tw_Cfg ⊕ (Option Value ⊕ (Nat × List Value × List Value))
def tw_sh (k : Nat) : Nat × Nat := tw_shL.getD k (0, 0)
def tw_kd (k j : Nat) : Nat × Nat := (tw_kdL.getD k []).getD j (0, 0)
def tw_mth (m : Nat) : tw_Meth := tw_mt.getD m tw_M0
def tw_mY (m : Nat) : MethodName := (tw_mth m).1
def tw_mB (m : Nat) : ByteArray := (tw_mth m).2.1
def tw_mL (m : Nat) : Nat := (tw_mth m).2.2.1
def tw_mR (m : Nat) : Option Jvm.ClassFile.FieldType := (tw_mth m).2.2.2.1
def tw_mK (m : Nat) : Nat := (tw_mth m).2.2.2.2.1
def tw_mC (m : Nat) : Nat := (tw_mth m).2.2.2.2.2.1
def tw_mN (m : Nat) : Nat := (tw_mth m).2.2.2.2.2.2.1
def tw_mW (m : Nat) : List Nat := (tw_mth m).2.2.2.2.2.2.2.1
def tw_mE (m : Nat) : List tw_Ent := (tw_mth m).2.2.2.2.2.2.2.2
def tw_fetch (m i : Nat) : Option tw_Ent := (tw_mE m)[i]?
def tw_cn (md : tw_Md) : Nat := match md with
  | none => tw_NC
  | some n => n
def tw_slS : Nat → Nat
  | 0 => 0
  | n + 1 => tw_slS n + (tw_sh (n + 1)).2
def tw_sl (md : tw_Md) : Nat := tw_slS (tw_cn md)
def tw_U : Value := .retAddr 0
def tw_upd (σ : tw_Mem) (k j : Nat) (x : Int32) : tw_Mem := fun k' j' => if k' = k ∧ j' = j then x else σ k' j'
def tw_born (σ : tw_Mem) (q : Nat) : tw_Mem := fun k j => if k = q ∨ ((tw_kd k j).2 = q ∧ (tw_kd k j).1 ≠ 0) then 0 else σ k j
def tw_cpy (σ : tw_Mem) (k q sp dp n : Nat) : tw_Mem := fun k' j => if k' = q ∧ dp ≤ j ∧ j < dp + n then σ k (sp + (j - dp)) else σ k' j
def tw_val (md : tw_Md) (σ : tw_Mem) (k j : Nat) : Value := match tw_kd k j with
  | (0, _) => .int (σ k j)
  | (c + 1, t) => match md with
    | none => if c = 0 then .ref t else if σ k j = 0 then .null else .ref t
    | some n => if σ k j = 0 then .null else if n < t then .null else .ref t
def tw_live (k : Nat) (md : tw_Md) : Bool := Nat.ble 1 k && Nat.ble k (tw_cn md)
def tw_isO (k ci : Nat) (md : tw_Md) : Bool := tw_live k md && Nat.beq (tw_sh k).1 ci
def tw_isA (k tag : Nat) (md : tw_Md) (j : Int32) : Bool := tw_live k md && Nat.beq (tw_sh k).1 tag && !(decide (j < 0)) && Nat.blt j.toNatClampNeg (tw_sh k).2
def tw_go (i : Nat) (ls st : List Value) (md : tw_Md) (σ : tw_Mem) : Option tw_Out := some (.inl (i, ls, st, md, σ))
def tw_p1 (st : List Value) (f : Int32 → List Value → Option tw_Out) : Option tw_Out := match st with
  | .int x :: r => f x r
  | _ => none
def tw_p2 (st : List Value) (f : Int32 → Int32 → List Value → Option tw_Out) : Option tw_Out := match st with
  | .int y :: .int x :: r => f x y r
  | _ => none
def tw_pr (st : List Value) (f : Nat → List Value → Option tw_Out) : Option tw_Out := match st with
  | .ref k :: r => f k r
  | _ => none
def tw_pir (st : List Value) (f : Int32 → Nat → List Value → Option tw_Out) : Option tw_Out := match st with
  | .int j :: .ref k :: r => f j k r
  | _ => none
def tw_piir (st : List Value) (f : Int32 → Int32 → Nat → List Value → Option tw_Out) : Option tw_Out := match st with
  | .int x :: .int j :: .ref k :: r => f x j k r
  | _ => none
def tw_cnd (c : Jvm.ClassFile.Cond) (x y : Int32) : Bool := match c with
  | .eq => decide (x = y)
  | .ne => !(decide (x = y))
  | .lt => decide (x < y)
  | .ge => decide (y ≤ x)
  | .gt => decide (y < x)
  | .le => decide (x ≤ y)
def tw_ldi (i a : Nat) (ls st : List Value) (md : tw_Md) (σ : tw_Mem) : Option tw_Out := match ls[a]? with
  | some (.int x) => tw_go (i + 1) ls (.int x :: st) md σ
  | _ => none
def tw_lda (i a : Nat) (ls st : List Value) (md : tw_Md) (σ : tw_Mem) : Option tw_Out := match ls[a]? with
  | some (.ref x) => tw_go (i + 1) ls (.ref x :: st) md σ
  | some .null => tw_go (i + 1) ls (.null :: st) md σ
  | _ => none
def tw_sti (i a : Nat) (ls st : List Value) (md : tw_Md) (σ : tw_Mem) : Option tw_Out := match st with
  | .int x :: r => if Nat.blt a ls.length then tw_go (i + 1) (ls.set a (.int x)) r md σ else none
  | _ => none
def tw_sta (i a : Nat) (ls st : List Value) (md : tw_Md) (σ : tw_Mem) : Option tw_Out := match st with
  | .ref x :: r => if Nat.blt a ls.length then tw_go (i + 1) (ls.set a (.ref x)) r md σ else none
  | .null :: r => if Nat.blt a ls.length then tw_go (i + 1) (ls.set a .null) r md σ else none
  | _ => none
def tw_bit (x : Int32) : Bool := decide (x = 0) || decide (x = 1)
def tw_inv (y b : Nat) (st : List Value) (md : tw_Md) : Option tw_Out := match st.drop b with
  | .ref k :: r => if Nat.ble r.length 8 && tw_isO k (tw_mC y) md then some (.inr (.inr (y, .ref k :: (st.take b).reverse, r))) else none
  | _ => none
def tw_step (L : Nat) (xs : Nat → Int32) (ins : Jvm.ClassFile.Instr) (a b : Nat) (z : Int32) (ts : List Nat) (i : Nat) (ls st : List Value) (md : tw_Md) (σ : tw_Mem) : Option tw_Out := match ins with
  | .iconst _ => tw_go (i + 1) ls (.int z :: st) md σ
  | .bipush _ => tw_go (i + 1) ls (.int z :: st) md σ
  | .sipush _ => tw_go (i + 1) ls (.int z :: st) md σ
  | .ldc _ => tw_go (i + 1) ls (.int z :: st) md σ
  | .ldc_w _ => tw_go (i + 1) ls (.int z :: st) md σ
  | .aconst_null => tw_go (i + 1) ls (.null :: st) md σ
  | .iload_n _ => tw_ldi i a ls st md σ
  | .iload _ => tw_ldi i a ls st md σ
  | .aload_n _ => tw_lda i a ls st md σ
  | .aload _ => tw_lda i a ls st md σ
  | .istore_n _ => tw_sti i a ls st md σ
  | .istore _ => tw_sti i a ls st md σ
  | .astore_n _ => tw_sta i a ls st md σ
  | .astore _ => tw_sta i a ls st md σ
  | .iinc _ _ => (match ls[a]? with
    | some (.int x) => tw_go (i + 1) (ls.set a (.int (x + z))) st md σ
    | _ => none)
  | .iadd => tw_p2 st fun x y r => tw_go (i + 1) ls (.int (x + y) :: r) md σ
  | .isub => tw_p2 st fun x y r => tw_go (i + 1) ls (.int (x - y) :: r) md σ
  | .imul => tw_p2 st fun x y r => tw_go (i + 1) ls (.int (x * y) :: r) md σ
  | .iand => tw_p2 st fun x y r => tw_go (i + 1) ls (.int (x &&& y) :: r) md σ
  | .ior => tw_p2 st fun x y r => tw_go (i + 1) ls (.int (x ||| y) :: r) md σ
  | .ixor => tw_p2 st fun x y r => tw_go (i + 1) ls (.int (x ^^^ y) :: r) md σ
  | .ishl => tw_p2 st fun x y r => tw_go (i + 1) ls (.int (x <<< (y &&& 31)) :: r) md σ
  | .ishr => tw_p2 st fun x y r => tw_go (i + 1) ls (.int (x >>> (y &&& 31)) :: r) md σ
  | .idiv => tw_p2 st fun x y r => if y = 0 then none else tw_go (i + 1) ls (.int (x / y) :: r) md σ
  | .irem => tw_p2 st fun x y r => if y = 0 then none else tw_go (i + 1) ls (.int (x - x / y * y) :: r) md σ
  | .ineg => tw_p1 st fun x r => tw_go (i + 1) ls (.int (-x) :: r) md σ
  | .i2b => tw_p1 st fun x r => tw_go (i + 1) ls (.int x.toInt8.toInt32 :: r) md σ
  | .i2c => tw_p1 st fun x r => tw_go (i + 1) ls (.int (x.toUInt32 % 65536).toInt32 :: r) md σ
  | .dup => (match st with
    | v :: r => tw_go (i + 1) ls (v :: v :: r) md σ
    | _ => none)
  | .dup2 => (match st with
    | v :: w :: r => tw_go (i + 1) ls (v :: w :: v :: w :: r) md σ
    | _ => none)
  | .pop => (match st with
    | _ :: r => tw_go (i + 1) ls r md σ
    | _ => none)
  | .ifCond c _ => tw_p1 st fun x r => tw_go (if tw_cnd c x 0 then a else i + 1) ls r md σ
  | .if_icmp c _ => tw_p2 st fun x y r => tw_go (if tw_cnd c x y then a else i + 1) ls r md σ
  | .ifnull _ => (match st with
    | .null :: r => tw_go a ls r md σ
    | .ref _ :: r => tw_go (i + 1) ls r md σ
    | _ => none)
  | .ifnonnull _ => (match st with
    | .null :: r => tw_go (i + 1) ls r md σ
    | .ref _ :: r => tw_go a ls r md σ
    | _ => none)
  | .goto _ => tw_go a ls st md σ
  | .tableswitch _ _ _ _ => tw_p1 st fun x r => if x.toInt < z.toInt ∨ (b : Int) < x.toInt then tw_go a ls r md σ else (match ts[(x.toInt - z.toInt).toNat]? with
    | some t => tw_go t ls r md σ
    | none => none)
  | .getfield _ => tw_pr st fun k r => if tw_isO k a md && Nat.blt b (tw_sh k).2 then tw_go (i + 1) ls (tw_val md σ k b :: r) md σ else none
  | .putfield _ => (match st with
    | .int x :: .ref k :: r => if tw_isO k a md && Nat.blt b (tw_sh k).2 && Nat.beq (tw_kd k b).1 0 && (decide (z = 0) || tw_bit x) then tw_go (i + 1) ls r md (tw_upd σ k b x) else none
    | .ref q :: .ref k :: r => if tw_isO k a md && Nat.blt b (tw_sh k).2 && Nat.ble 1 (tw_kd k b).1 && Nat.beq (tw_kd k b).2 q && (md.isSome || Nat.ble 2 (tw_kd k b).1) then tw_go (i + 1) ls r md (tw_upd σ k b 1) else none
    | _ => none)
  | .iaload => tw_pir st fun j k r => if Nat.beq k 0 then (if !(decide (j < 0)) && Nat.blt j.toNatClampNeg L then tw_go (i + 1) ls (.int (xs j.toNatClampNeg) :: r) md σ else none) else if tw_isA k 20 md j then tw_go (i + 1) ls (.int (σ k j.toNatClampNeg) :: r) md σ else none
  | .baload => tw_pir st fun j k r => if tw_isA k 21 md j || tw_isA k 23 md j then tw_go (i + 1) ls (.int (σ k j.toNatClampNeg) :: r) md σ else none
  | .caload => tw_pir st fun j k r => if tw_isA k 22 md j then tw_go (i + 1) ls (.int (σ k j.toNatClampNeg) :: r) md σ else none
  | .aaload => tw_pir st fun j k r => if tw_isA k 24 md j then tw_go (i + 1) ls (tw_val md σ k j.toNatClampNeg :: r) md σ else none
  | .iastore => tw_piir st fun x j k r => if tw_isA k 20 md j then tw_go (i + 1) ls r md (tw_upd σ k j.toNatClampNeg x) else none
  | .bastore => tw_piir st fun x j k r => if tw_isA k 21 md j then tw_go (i + 1) ls r md (tw_upd σ k j.toNatClampNeg (vp_nar .byte x)) else if tw_isA k 23 md j then tw_go (i + 1) ls r md (tw_upd σ k j.toNatClampNeg (vp_nar .boolean x)) else none
  | .castore => tw_piir st fun x j k r => if tw_isA k 22 md j then tw_go (i + 1) ls r md (tw_upd σ k j.toNatClampNeg (vp_nar .char x)) else none
  | .aastore => (match st with
    | .ref q :: .int j :: .ref k :: r => if tw_isA k 24 md j && tw_isO q 0 md && Nat.beq (tw_kd k j.toNatClampNeg).1 1 && Nat.beq (tw_kd k j.toNatClampNeg).2 q && md.isSome then tw_go (i + 1) ls r md (tw_upd σ k j.toNatClampNeg 1) else none
    | _ => none)
  | .arraylength => tw_pr st fun k r => if Nat.beq k 0 then tw_go (i + 1) ls (.int (Int32.ofNat L) :: r) md σ else if tw_live k md && Nat.ble 20 (tw_sh k).1 then tw_go (i + 1) ls (.int (Int32.ofNat (tw_sh k).2) :: r) md σ else none
  | .new _ => (match md with
    | some n => if Nat.blt n tw_NC && Nat.beq (tw_sh (n + 1)).1 a then tw_go (i + 1) ls (.ref (n + 1) :: st) (some (n + 1)) (tw_born σ (n + 1)) else none
    | none => none)
  | .newarray _ => tw_p1 st fun x r => (match md with
    | some n => if Nat.blt n tw_NC && Nat.beq (tw_sh (n + 1)).1 a && !(decide (x < 0)) && Nat.beq x.toNatClampNeg (tw_sh (n + 1)).2 then tw_go (i + 1) ls (.ref (n + 1) :: r) (some (n + 1)) (tw_born σ (n + 1)) else none
    | none => none)
  | .anewarray _ => tw_p1 st fun x r => (match md with
    | some n => if Nat.blt n tw_NC && Nat.beq (tw_sh (n + 1)).1 24 && !(decide (x < 0)) && Nat.beq x.toNatClampNeg (tw_sh (n + 1)).2 then tw_go (i + 1) ls (.ref (n + 1) :: r) (some (n + 1)) (tw_born σ (n + 1)) else none
    | none => none)
  | .ireturn => (match st with
    | [.int x] => if Nat.beq a 0 || tw_bit x then some (.inr (.inl (some (.int x)))) else none
    | _ => none)
  | .areturn => (match st with
    | [.ref k] => some (.inr (.inl (some (.ref k))))
    | [.null] => some (.inr (.inl (some .null)))
    | _ => none)
  | .return_ => (match st with
    | [] => some (.inr (.inl none))
    | _ => none)
  | .invokespecial _ => if Nat.beq a 999 then tw_pr st fun _ r => if Nat.ble r.length 8 then tw_go (i + 1) ls r md σ else none else tw_inv a b st md
  | .invokevirtual _ => tw_inv a b st md
  | .invokestatic _ => if Nat.beq a 998 then none else if Nat.ble b st.length && Nat.ble (st.drop b).length 8 then some (.inr (.inr (a, (st.take b).reverse, st.drop b))) else none
  | _ => none
def tw_stepE (L : Nat) (xs : Nat → Int32) (e : tw_Ent) (i : Nat) (ls st : List Value) (md : tw_Md) (σ : tw_Mem) : Option tw_Out := tw_step L xs e.2.2.1 e.2.2.2.1 e.2.2.2.2.1 e.2.2.2.2.2.1 e.2.2.2.2.2.2 i ls st md σ
def tw_ent (y : Nat) (as : List Value) : List Value := as ++ List.replicate (tw_mL y - as.length) tw_U
/-- every slot that always holds a reference has got it -/
def tw_full (σ : tw_Mem) : Prop := ∀ k, k ≤ tw_NC → ∀ j, (tw_kd k j).1 = 1 → σ k j ≠ 0
/-! what a run comes to: the least relation closed under these rules (said over all relations, for no new kind of relation may be declared) -/
def tw_Cl (L : Nat) (xs : Nat → Int32) (P : Nat → Nat → tw_Cfg → tw_Ret → Prop) : Prop :=
  (∀ (d m i : Nat) (ls st : List Value) (md : tw_Md) (σ : tw_Mem) (e : tw_Ent) (g : tw_Cfg) (r : tw_Ret), tw_fetch m i = some e → tw_stepE L xs e i ls st md σ = some (.inl g) → P d m g r → P d m (i, ls, st, md, σ) r) ∧
  (∀ (d m i : Nat) (ls st : List Value) (md : tw_Md) (σ : tw_Mem) (e : tw_Ent) (v : Option Value), tw_fetch m i = some e → tw_stepE L xs e i ls st md σ = some (.inr (.inl v)) → P d m (i, ls, st, md, σ) (v, md, σ)) ∧
  (∀ (d d1 m i : Nat) (ls st : List Value) (md : tw_Md) (σ : tw_Mem) (e : tw_Ent) (y : Nat) (as rest : List Value) (v : Option Value) (md1 : tw_Md) (σ1 : tw_Mem) (r : tw_Ret), tw_fetch m i = some e → tw_stepE L xs e i ls st md σ = some (.inr (.inr (y, as, rest))) → d1 < d →
    P d1 y (0, tw_ent y as, [], md, σ) (v, md1, σ1) → P d m (i + 1, ls, v.toList ++ rest, md1, σ1) r → P d m (i, ls, st, md, σ) r) ∧
  (∀ (d m i : Nat) (ls rest : List Value) (σ : tw_Mem) (pc ln idx b : Nat) (z : Int32) (ts : List Nat) (k q : Nat) (sp dp n : Int32) (r : tw_Ret), tw_fetch m i = some (pc, ln, .invokestatic idx, 998, b, z, ts) → rest.length ≤ 8 → tw_live k none = true → tw_live q none = true → (tw_sh q).1 = (tw_sh k).1 → 20 ≤ (tw_sh k).1 → (tw_sh k).1 ≤ 23 → k ≠ q →
    0 ≤ sp → 0 ≤ dp → 0 ≤ n → sp.toNatClampNeg + n.toNatClampNeg ≤ (tw_sh k).2 → dp.toNatClampNeg + n.toNatClampNeg ≤ (tw_sh q).2 → ((tw_sh k).1 = 20 ∨ (tw_sh k).1 = 22 ∧ ∀ j, j < n.toNatClampNeg → 0 ≤ σ k (sp.toNatClampNeg + j) ∧ σ k (sp.toNatClampNeg + j) ≤ 65535) →
    P d m (i + 1, ls, rest, none, tw_cpy σ k q sp.toNatClampNeg dp.toNatClampNeg n.toNatClampNeg) r → P d m (i, ls, .int n :: .int dp :: .ref q :: .int sp :: .ref k :: rest, none, σ) r) ∧
  (∀ (d m i : Nat) (ls st : List Value) (σ : tw_Mem) (r : tw_Ret), tw_full σ → P d m (i, ls, st, none, σ) r → P d m (i, ls, st, some tw_NC, σ) r)
def tw_R (L : Nat) (xs : Nat → Int32) (d m : Nat) (g : tw_Cfg) (r : tw_Ret) : Prop := ∀ P, tw_Cl L xs P → P d m g r
theorem tw_go1 {L : Nat} {xs : Nat → Int32} {d m i : Nat} {ls st : List Value} {md : tw_Md} {σ : tw_Mem} {e : tw_Ent} {g : tw_Cfg} {r : tw_Ret} (h1 : tw_fetch m i = some e) (h2 : tw_stepE L xs e i ls st md σ = some (.inl g)) (h3 : tw_R L xs d m g r) : tw_R L xs d m (i, ls, st, md, σ) r :=
  fun P hP => hP.1 d m i ls st md σ e g r h1 h2 (h3 P hP)
theorem tw_ret1 {L : Nat} {xs : Nat → Int32} {d m i : Nat} {ls st : List Value} {md : tw_Md} {σ : tw_Mem} {e : tw_Ent} {v : Option Value} (h1 : tw_fetch m i = some e) (h2 : tw_stepE L xs e i ls st md σ = some (.inr (.inl v))) : tw_R L xs d m (i, ls, st, md, σ) (v, md, σ) :=
  fun P hP => hP.2.1 d m i ls st md σ e v h1 h2
theorem tw_call1 {L : Nat} {xs : Nat → Int32} {d d1 m i : Nat} {ls st : List Value} {md : tw_Md} {σ : tw_Mem} {e : tw_Ent} {y : Nat} {as rest : List Value} {v : Option Value} {md1 : tw_Md} {σ1 : tw_Mem} {r : tw_Ret} (h1 : tw_fetch m i = some e) (h2 : tw_stepE L xs e i ls st md σ = some (.inr (.inr (y, as, rest)))) (hd : d1 < d)
    (h3 : tw_R L xs d1 y (0, tw_ent y as, [], md, σ) (v, md1, σ1)) (h4 : tw_R L xs d m (i + 1, ls, v.toList ++ rest, md1, σ1) r) : tw_R L xs d m (i, ls, st, md, σ) r :=
  fun P hP => hP.2.2.1 d d1 m i ls st md σ e y as rest v md1 σ1 r h1 h2 hd (h3 P hP) (h4 P hP)
theorem tw_copy1 {L : Nat} {xs : Nat → Int32} {d m i : Nat} {ls rest : List Value} {σ : tw_Mem} {pc ln idx b : Nat} {z : Int32} {ts : List Nat} {k q : Nat} {sp dp n : Int32} {r : tw_Ret} (h1 : tw_fetch m i = some (pc, ln, .invokestatic idx, 998, b, z, ts)) (h2 : rest.length ≤ 8) (h3 : tw_live k none = true) (h4 : tw_live q none = true) (h5 : (tw_sh q).1 = (tw_sh k).1) (h6 : 20 ≤ (tw_sh k).1) (h7 : (tw_sh k).1 ≤ 23) (h8 : k ≠ q)
    (h9 : 0 ≤ sp) (h10 : 0 ≤ dp) (h11 : 0 ≤ n) (h12 : sp.toNatClampNeg + n.toNatClampNeg ≤ (tw_sh k).2) (h13 : dp.toNatClampNeg + n.toNatClampNeg ≤ (tw_sh q).2) (h14 : (tw_sh k).1 = 20 ∨ (tw_sh k).1 = 22 ∧ ∀ j, j < n.toNatClampNeg → 0 ≤ σ k (sp.toNatClampNeg + j) ∧ σ k (sp.toNatClampNeg + j) ≤ 65535)
    (h15 : tw_R L xs d m (i + 1, ls, rest, none, tw_cpy σ k q sp.toNatClampNeg dp.toNatClampNeg n.toNatClampNeg) r) : tw_R L xs d m (i, ls, .int n :: .int dp :: .ref q :: .int sp :: .ref k :: rest, none, σ) r :=
  fun P hP => hP.2.2.2.1 d m i ls rest σ pc ln idx b z ts k q sp dp n r h1 h2 h3 h4 h5 h6 h7 h8 h9 h10 h11 h12 h13 h14 (h15 P hP)
theorem tw_full1 {L : Nat} {xs : Nat → Int32} {d m i : Nat} {ls st : List Value} {σ : tw_Mem} {r : tw_Ret} (h1 : tw_full σ) (h2 : tw_R L xs d m (i, ls, st, none, σ) r) : tw_R L xs d m (i, ls, st, some tw_NC, σ) r :=
  fun P hP => hP.2.2.2.2 d m i ls st σ r h1 (h2 P hP)
end
section
/-! what the table says is what the code says: looked at by program, an instruction a row -/
def tw_own (m : Nat) : String := (tw_mY m).cls
def tw_cl (ci : Nat) : vw_C := vwCl.getD ci (RX0, TX0, 0)
def tw_w (p : Nat) (w : Jvm.Cond) : Bool := decide (lw_tbl[p]? = some w) && goodWord w
def tw_wn (p : Nat) (w : Jvm.Cond) : Bool := decide (lw_tbl[p]? = some w)
def tw_nx (m i pc : Nat) : Bool := match tw_fetch m i with
  | some e => Nat.beq e.1 pc
  | none => false
def tw_tg (m a pc : Nat) (off : Int) : Bool := match tw_fetch m a with
  | some e => decide ((pc : Int) + off = (e.1 : Int))
  | none => false
def tw_ty (ci j : Nat) : Option Jvm.ClassFile.FieldType := parseFieldDescriptor ((tw_cl ci).2.1 j).2.2.1
def tw_aty (tag : Nat) : Jvm.ClassFile.FieldType := match tag with
  | 20 => .int
  | 21 => .byte
  | 22 => .char
  | 23 => .boolean
  | _ => .object "CardLoom$Card"
def tw_chkI (m i : Nat) (e : tw_Ent) : Bool := match e with
  | (pc, ln, ins, a, b, z, ts) => decide (decode (tw_mB m) pc = .ok (ins, ln)) && (match ins with
    | .iconst v => Nat.beq ln 1 && tw_nx m (i + 1) (pc + 1) && decide (Int32.ofInt v = z)
    | .bipush v => Nat.beq ln 2 && tw_nx m (i + 1) (pc + 2) && decide ((Int8.ofInt v).toInt32 = z)
    | .sipush v => Nat.beq ln 3 && tw_nx m (i + 1) (pc + 3) && decide ((Int16.ofInt v).toInt32 = z)
    | .ldc x => Nat.beq ln 2 && tw_nx m (i + 1) (pc + 2) && tw_w (ts.getD 0 0) (.constant (tw_own m) x z)
    | .ldc_w x => Nat.beq ln 3 && tw_nx m (i + 1) (pc + 3) && tw_w (ts.getD 0 0) (.constant (tw_own m) x z)
    | .aconst_null => Nat.beq ln 1 && tw_nx m (i + 1) (pc + 1)
    | .iload_n k => Nat.beq ln 1 && tw_nx m (i + 1) (pc + 1) && Nat.beq k.val a
    | .iload k => Nat.beq ln 2 && tw_nx m (i + 1) (pc + 2) && Nat.beq k a
    | .aload_n k => Nat.beq ln 1 && tw_nx m (i + 1) (pc + 1) && Nat.beq k.val a
    | .aload k => Nat.beq ln 2 && tw_nx m (i + 1) (pc + 2) && Nat.beq k a
    | .istore_n k => Nat.beq ln 1 && tw_nx m (i + 1) (pc + 1) && Nat.beq k.val a
    | .istore k => Nat.beq ln 2 && tw_nx m (i + 1) (pc + 2) && Nat.beq k a
    | .astore_n k => Nat.beq ln 1 && tw_nx m (i + 1) (pc + 1) && Nat.beq k.val a
    | .astore k => Nat.beq ln 2 && tw_nx m (i + 1) (pc + 2) && Nat.beq k a
    | .iinc k v => Nat.beq ln 3 && tw_nx m (i + 1) (pc + 3) && Nat.beq k a && decide (Int32.ofInt v = z)
    | .iadd => Nat.beq ln 1 && tw_nx m (i + 1) (pc + 1)
    | .isub => Nat.beq ln 1 && tw_nx m (i + 1) (pc + 1)
    | .imul => Nat.beq ln 1 && tw_nx m (i + 1) (pc + 1)
    | .iand => Nat.beq ln 1 && tw_nx m (i + 1) (pc + 1)
    | .ior => Nat.beq ln 1 && tw_nx m (i + 1) (pc + 1)
    | .ixor => Nat.beq ln 1 && tw_nx m (i + 1) (pc + 1)
    | .ishl => Nat.beq ln 1 && tw_nx m (i + 1) (pc + 1)
    | .ishr => Nat.beq ln 1 && tw_nx m (i + 1) (pc + 1)
    | .idiv => Nat.beq ln 1 && tw_nx m (i + 1) (pc + 1)
    | .irem => Nat.beq ln 1 && tw_nx m (i + 1) (pc + 1)
    | .ineg => Nat.beq ln 1 && tw_nx m (i + 1) (pc + 1)
    | .i2b => Nat.beq ln 1 && tw_nx m (i + 1) (pc + 1)
    | .i2c => Nat.beq ln 1 && tw_nx m (i + 1) (pc + 1)
    | .dup => Nat.beq ln 1 && tw_nx m (i + 1) (pc + 1)
    | .dup2 => Nat.beq ln 1 && tw_nx m (i + 1) (pc + 1)
    | .pop => Nat.beq ln 1 && tw_nx m (i + 1) (pc + 1)
    | .iaload => Nat.beq ln 1 && tw_nx m (i + 1) (pc + 1)
    | .baload => Nat.beq ln 1 && tw_nx m (i + 1) (pc + 1)
    | .caload => Nat.beq ln 1 && tw_nx m (i + 1) (pc + 1)
    | .aaload => Nat.beq ln 1 && tw_nx m (i + 1) (pc + 1)
    | .iastore => Nat.beq ln 1 && tw_nx m (i + 1) (pc + 1)
    | .bastore => Nat.beq ln 1 && tw_nx m (i + 1) (pc + 1)
    | .castore => Nat.beq ln 1 && tw_nx m (i + 1) (pc + 1)
    | .aastore => Nat.beq ln 1 && tw_nx m (i + 1) (pc + 1)
    | .arraylength => Nat.beq ln 1 && tw_nx m (i + 1) (pc + 1)
    | .ifCond _ off => Nat.beq ln 3 && tw_nx m (i + 1) (pc + 3) && tw_tg m a pc off
    | .if_icmp _ off => Nat.beq ln 3 && tw_nx m (i + 1) (pc + 3) && tw_tg m a pc off
    | .ifnull off => Nat.beq ln 3 && tw_nx m (i + 1) (pc + 3) && tw_tg m a pc off
    | .ifnonnull off => Nat.beq ln 3 && tw_nx m (i + 1) (pc + 3) && tw_tg m a pc off
    | .goto off => Nat.beq ln 3 && tw_tg m a pc off
    | .tableswitch dflt lo hi offs => tw_tg m a pc dflt && decide (z.toInt = lo) && decide ((b : Int) = hi) && (List.range ts.length).all (fun k => tw_tg m (ts.getD k 0) pc (offs.getD k 0)) && Nat.beq ts.length offs.size
    | .getfield x => Nat.beq ln 3 && tw_nx m (i + 1) (pc + 3) && Nat.blt a vwCl.length && Nat.blt b (tw_cl a).2.2 && tw_w (ts.getD 0 0) (.fieldLink (tw_own m) x ((tw_cl a).2.1 b).1 ((tw_cl a).2.1 b).2.1 ((tw_cl a).2.1 b).2.2.1)
    | .putfield x => Nat.beq ln 3 && tw_nx m (i + 1) (pc + 3) && Nat.blt a vwCl.length && Nat.blt b (tw_cl a).2.2 && tw_w (ts.getD 0 0) (.fieldLink (tw_own m) x ((tw_cl a).2.1 b).1 ((tw_cl a).2.1 b).2.1 ((tw_cl a).2.1 b).2.2.1) &&
        (!((tw_cl a).2.1 b).2.2.2 || (Nat.beq (tw_mK m) 2 && decide (((tw_cl a).2.1 b).1 = tw_own m))) && (decide (tw_ty a b = some .int) || decide (tw_ty a b = some .boolean ∧ ¬ z = 0) || ((tw_ty a b).any refKind))
    | .ireturn => Nat.beq ln 1 && (if Nat.beq a 0 then decide (tw_mR m = some .int) else decide (tw_mR m = some .boolean))
    | .areturn => Nat.beq ln 1 && ((tw_mR m).any refKind)
    | .return_ => Nat.beq ln 1 && decide (tw_mR m = none)
    | .new x => Nat.beq ln 3 && tw_nx m (i + 1) (pc + 3) && Nat.blt a vwCl.length && tw_w (ts.getD 0 0) (.classLink (tw_own m) x (tw_cl a).1) && tw_w (ts.getD 1 0) (.instantiable (tw_cl a).1 (tw_cl a).2.2) && tw_w (ts.getD 2 0) (.initialized (tw_cl a).1)
    | .newarray t => Nat.beq ln 2 && tw_nx m (i + 1) (pc + 2) && Nat.ble 20 a && Nat.blt a 24 && decide (newarray.typeOf t = tw_aty a) && tw_w (ts.getD 0 0) (.arrayClass (tw_aty a))
    | .anewarray x => Nat.beq ln 3 && tw_nx m (i + 1) (pc + 3) && tw_w (ts.getD 0 0) (.classLink (tw_own m) x "CardLoom$Card")
    | .invokevirtual x => Nat.beq ln 3 && tw_nx m (i + 1) (pc + 3) && Nat.blt a tw_NM && Nat.beq (tw_mK a) 1 && Nat.beq (tw_mN a) b && tw_w (ts.getD 0 0) (.methodLink (tw_own m) x (tw_mY a))
    | .invokespecial x => Nat.beq ln 3 && tw_nx m (i + 1) (pc + 3) && (if Nat.beq a 999 then tw_w (ts.getD 0 0) (.methodLink (tw_own m) x Lib.objectInit) && tw_w (ts.getD 1 0) (.instanceMethod Lib.objectInit) && tw_w (ts.getD 2 0) (.code Lib.objectInit ⟨#[0xb1]⟩ 1 none)
        else Nat.blt a tw_NM && Nat.beq (tw_mK a) 2 && Nat.beq (tw_mN a) b && (if Nat.beq (ts.getD 1 0) 0 then tw_w (ts.getD 0 0) (.methodLink (tw_own m) x (tw_mY a)) else tw_wn (ts.getD 0 0) (.methodLinkNest (tw_own m) x (tw_mY a) "CardLoom")))
    | .invokestatic x => Nat.beq ln 3 && tw_nx m (i + 1) (pc + 3) && (if Nat.beq a 998 then tw_w (ts.getD 0 0) (.methodLink (tw_own m) x arraycopyName) && tw_w (ts.getD 1 0) (.native arraycopyName) && tw_w (ts.getD 2 0) (.static arraycopyName) && tw_w (ts.getD 3 0) (.initialized "java/lang/System")
        else Nat.blt a tw_NM && Nat.beq (tw_mK a) 0 && Nat.beq (tw_mN a) b && (if Nat.beq (ts.getD 1 0) 0 then tw_w (ts.getD 0 0) (.methodLink (tw_own m) x (tw_mY a)) else tw_wn (ts.getD 0 0) (.methodLinkNest (tw_own m) x (tw_mY a) "CardLoom")))
    | _ => false)
def tw_chkR (m lo n : Nat) : Bool := (List.range n).all (fun k => match tw_fetch m (lo + k) with
  | some e => tw_chkI m (lo + k) e
  | none => true)
def tw_okE (m : Nat) : Prop := ∀ (i : Nat) (e : tw_Ent), tw_fetch m i = some e → tw_chkI m i e = true
theorem tw_okR {m lo n : Nat} (h : tw_chkR m lo n = true) (i : Nat) (e : tw_Ent) (h1 : lo ≤ i) (h2 : i < lo + n) (he : tw_fetch m i = some e) : tw_chkI m i e = true := by
  have h0 := List.all_eq_true.mp h (i - lo) (List.mem_range.mpr (by omega))
  rw [show lo + (i - lo) = i by omega] at h0
  simpa only [he] using h0
def tw_chkM (m : Nat) : Bool := tw_w ((tw_mW m).getD 1 0) (.initialized (tw_own m)) &&
  decide (tw_own m ≠ "java/lang/invoke/MethodHandle") && decide (tw_own m ≠ "java/lang/invoke/VarHandle") && plainFor (tw_mY m) && decide ((parseMethodDescriptor (tw_mY m).desc).map (fun q => q.parameters.length) = some (tw_mN m)) &&
  Nat.ble (tw_mL m) 30 && Nat.ble (tw_mN m + (if Nat.beq (tw_mK m) 0 then 0 else 1)) (tw_mL m) && Nat.ble (tw_mK m) 2 &&
  (if Nat.beq (tw_mK m) 0 then tw_w ((tw_mW m).getD 2 0) (.static (tw_mY m)) else tw_w ((tw_mW m).getD 2 0) (.instanceMethod (tw_mY m)) && Nat.blt (tw_mC m) vwCl.length && decide ((tw_cl (tw_mC m)).1 = tw_own m)) &&
  (if Nat.beq (tw_mK m) 1 then tw_w ((tw_mW m).getD 3 0) (.selects (tw_own m) (tw_mY m) (tw_mY m)) else true) && (if Nat.beq (tw_mK m) 2 then decide ((tw_mY m).name = "<init>") && decide (tw_mR m = none) else true)
def tw_okM (m : Nat) : Prop := m = tw_LAW ∨ tw_chkM m = true
def tw_okC (m : Nat) : Prop := m = tw_LAW ∨ lw_tbl[(tw_mW m).getD 0 0]? = some (.code (tw_mY m) (tw_mB m) (tw_mL m) (tw_mR m))
end
section
/-! the table is what the code says (laid by program) -/
set_option maxRecDepth 100000 in
theorem tw_k0_0 : tw_chkR 0 0 7 = true := by decide +kernel
theorem tw_k0 : tw_okE 0 :=
  fun i e h => by
    have hl : i < 7 := (List.getElem?_eq_some_iff.mp h).1
    exact tw_okR tw_k0_0 i e (by omega) (by omega) h
set_option maxRecDepth 100000 in
theorem tw_k1_0 : tw_chkR 1 0 14 = true := by decide +kernel
theorem tw_k1 : tw_okE 1 :=
  fun i e h => by
    have hl : i < 14 := (List.getElem?_eq_some_iff.mp h).1
    exact tw_okR tw_k1_0 i e (by omega) (by omega) h
set_option maxRecDepth 100000 in
theorem tw_k2_0 : tw_chkR 2 0 18 = true := by decide +kernel
theorem tw_k2 : tw_okE 2 :=
  fun i e h => by
    have hl : i < 18 := (List.getElem?_eq_some_iff.mp h).1
    exact tw_okR tw_k2_0 i e (by omega) (by omega) h
set_option maxRecDepth 100000 in
theorem tw_k3_0 : tw_chkR 3 0 3 = true := by decide +kernel
theorem tw_k3 : tw_okE 3 :=
  fun i e h => by
    have hl : i < 3 := (List.getElem?_eq_some_iff.mp h).1
    exact tw_okR tw_k3_0 i e (by omega) (by omega) h
set_option maxRecDepth 100000 in
theorem tw_k4_0 : tw_chkR 4 0 9 = true := by decide +kernel
theorem tw_k4 : tw_okE 4 :=
  fun i e h => by
    have hl : i < 9 := (List.getElem?_eq_some_iff.mp h).1
    exact tw_okR tw_k4_0 i e (by omega) (by omega) h
set_option maxRecDepth 100000 in
theorem tw_k5_0 : tw_chkR 5 0 3 = true := by decide +kernel
theorem tw_k5 : tw_okE 5 :=
  fun i e h => by
    have hl : i < 3 := (List.getElem?_eq_some_iff.mp h).1
    exact tw_okR tw_k5_0 i e (by omega) (by omega) h
set_option maxRecDepth 100000 in
theorem tw_k6_0 : tw_chkR 6 0 8 = true := by decide +kernel
theorem tw_k6 : tw_okE 6 :=
  fun i e h => by
    have hl : i < 8 := (List.getElem?_eq_some_iff.mp h).1
    exact tw_okR tw_k6_0 i e (by omega) (by omega) h
set_option maxRecDepth 100000 in
theorem tw_k7_0 : tw_chkR 7 0 3 = true := by decide +kernel
theorem tw_k7 : tw_okE 7 :=
  fun i e h => by
    have hl : i < 3 := (List.getElem?_eq_some_iff.mp h).1
    exact tw_okR tw_k7_0 i e (by omega) (by omega) h
set_option maxRecDepth 100000 in
theorem tw_k8_0 : tw_chkR 8 0 10 = true := by decide +kernel
theorem tw_k8 : tw_okE 8 :=
  fun i e h => by
    have hl : i < 10 := (List.getElem?_eq_some_iff.mp h).1
    exact tw_okR tw_k8_0 i e (by omega) (by omega) h
set_option maxRecDepth 100000 in
theorem tw_k9_0 : tw_chkR 9 0 7 = true := by decide +kernel
theorem tw_k9 : tw_okE 9 :=
  fun i e h => by
    have hl : i < 7 := (List.getElem?_eq_some_iff.mp h).1
    exact tw_okR tw_k9_0 i e (by omega) (by omega) h
set_option maxRecDepth 100000 in
theorem tw_k10_0 : tw_chkR 10 0 13 = true := by decide +kernel
theorem tw_k10 : tw_okE 10 :=
  fun i e h => by
    have hl : i < 13 := (List.getElem?_eq_some_iff.mp h).1
    exact tw_okR tw_k10_0 i e (by omega) (by omega) h
set_option maxRecDepth 100000 in
theorem tw_k11_0 : tw_chkR 11 0 5 = true := by decide +kernel
theorem tw_k11 : tw_okE 11 :=
  fun i e h => by
    have hl : i < 5 := (List.getElem?_eq_some_iff.mp h).1
    exact tw_okR tw_k11_0 i e (by omega) (by omega) h
set_option maxRecDepth 100000 in
theorem tw_k12_0 : tw_chkR 12 0 7 = true := by decide +kernel
theorem tw_k12 : tw_okE 12 :=
  fun i e h => by
    have hl : i < 7 := (List.getElem?_eq_some_iff.mp h).1
    exact tw_okR tw_k12_0 i e (by omega) (by omega) h
set_option maxRecDepth 100000 in
theorem tw_k13_0 : tw_chkR 13 0 26 = true := by decide +kernel
theorem tw_k13 : tw_okE 13 :=
  fun i e h => by
    have hl : i < 26 := (List.getElem?_eq_some_iff.mp h).1
    exact tw_okR tw_k13_0 i e (by omega) (by omega) h
set_option maxRecDepth 100000 in
theorem tw_k14_0 : tw_chkR 14 0 21 = true := by decide +kernel
theorem tw_k14 : tw_okE 14 :=
  fun i e h => by
    have hl : i < 21 := (List.getElem?_eq_some_iff.mp h).1
    exact tw_okR tw_k14_0 i e (by omega) (by omega) h
set_option maxRecDepth 100000 in
theorem tw_k15_0 : tw_chkR 15 0 15 = true := by decide +kernel
theorem tw_k15 : tw_okE 15 :=
  fun i e h => by
    have hl : i < 15 := (List.getElem?_eq_some_iff.mp h).1
    exact tw_okR tw_k15_0 i e (by omega) (by omega) h
set_option maxRecDepth 100000 in
theorem tw_k16_0 : tw_chkR 16 0 7 = true := by decide +kernel
theorem tw_k16 : tw_okE 16 :=
  fun i e h => by
    have hl : i < 7 := (List.getElem?_eq_some_iff.mp h).1
    exact tw_okR tw_k16_0 i e (by omega) (by omega) h
set_option maxRecDepth 100000 in
theorem tw_k17_0 : tw_chkR 17 0 3 = true := by decide +kernel
theorem tw_k17 : tw_okE 17 :=
  fun i e h => by
    have hl : i < 3 := (List.getElem?_eq_some_iff.mp h).1
    exact tw_okR tw_k17_0 i e (by omega) (by omega) h
set_option maxRecDepth 100000 in
theorem tw_k18_0 : tw_chkR 18 0 3 = true := by decide +kernel
theorem tw_k18 : tw_okE 18 :=
  fun i e h => by
    have hl : i < 3 := (List.getElem?_eq_some_iff.mp h).1
    exact tw_okR tw_k18_0 i e (by omega) (by omega) h
set_option maxRecDepth 100000 in
theorem tw_k19_0 : tw_chkR 19 0 5 = true := by decide +kernel
theorem tw_k19 : tw_okE 19 :=
  fun i e h => by
    have hl : i < 5 := (List.getElem?_eq_some_iff.mp h).1
    exact tw_okR tw_k19_0 i e (by omega) (by omega) h
set_option maxRecDepth 100000 in
theorem tw_k20_0 : tw_chkR 20 0 10 = true := by decide +kernel
theorem tw_k20 : tw_okE 20 :=
  fun i e h => by
    have hl : i < 10 := (List.getElem?_eq_some_iff.mp h).1
    exact tw_okR tw_k20_0 i e (by omega) (by omega) h
set_option maxRecDepth 100000 in
theorem tw_k21_0 : tw_chkR 21 0 36 = true := by decide +kernel
theorem tw_k21 : tw_okE 21 :=
  fun i e h => by
    have hl : i < 36 := (List.getElem?_eq_some_iff.mp h).1
    exact tw_okR tw_k21_0 i e (by omega) (by omega) h
set_option maxRecDepth 100000 in
theorem tw_k22_0 : tw_chkR 22 0 24 = true := by decide +kernel
theorem tw_k22 : tw_okE 22 :=
  fun i e h => by
    have hl : i < 24 := (List.getElem?_eq_some_iff.mp h).1
    exact tw_okR tw_k22_0 i e (by omega) (by omega) h
set_option maxRecDepth 100000 in
theorem tw_k23_0 : tw_chkR 23 0 11 = true := by decide +kernel
theorem tw_k23 : tw_okE 23 :=
  fun i e h => by
    have hl : i < 11 := (List.getElem?_eq_some_iff.mp h).1
    exact tw_okR tw_k23_0 i e (by omega) (by omega) h
set_option maxRecDepth 100000 in
theorem tw_k24_0 : tw_chkR 24 0 10 = true := by decide +kernel
theorem tw_k24 : tw_okE 24 :=
  fun i e h => by
    have hl : i < 10 := (List.getElem?_eq_some_iff.mp h).1
    exact tw_okR tw_k24_0 i e (by omega) (by omega) h
set_option maxRecDepth 100000 in
theorem tw_k25_0 : tw_chkR 25 0 31 = true := by decide +kernel
theorem tw_k25 : tw_okE 25 :=
  fun i e h => by
    have hl : i < 31 := (List.getElem?_eq_some_iff.mp h).1
    exact tw_okR tw_k25_0 i e (by omega) (by omega) h
set_option maxRecDepth 100000 in
theorem tw_k26_0 : tw_chkR 26 0 28 = true := by decide +kernel
theorem tw_k26 : tw_okE 26 :=
  fun i e h => by
    have hl : i < 28 := (List.getElem?_eq_some_iff.mp h).1
    exact tw_okR tw_k26_0 i e (by omega) (by omega) h
set_option maxRecDepth 100000 in
theorem tw_k27_0 : tw_chkR 27 0 39 = true := by decide +kernel
theorem tw_k27 : tw_okE 27 :=
  fun i e h => by
    have hl : i < 39 := (List.getElem?_eq_some_iff.mp h).1
    exact tw_okR tw_k27_0 i e (by omega) (by omega) h
set_option maxRecDepth 100000 in
theorem tw_k28_0 : tw_chkR 28 0 17 = true := by decide +kernel
theorem tw_k28 : tw_okE 28 :=
  fun i e h => by
    have hl : i < 17 := (List.getElem?_eq_some_iff.mp h).1
    exact tw_okR tw_k28_0 i e (by omega) (by omega) h
set_option maxRecDepth 100000 in
theorem tw_k29_0 : tw_chkR 29 0 51 = true := by decide +kernel
theorem tw_k29 : tw_okE 29 :=
  fun i e h => by
    have hl : i < 51 := (List.getElem?_eq_some_iff.mp h).1
    exact tw_okR tw_k29_0 i e (by omega) (by omega) h
set_option maxRecDepth 100000 in
theorem tw_k30_0 : tw_chkR 30 0 24 = true := by decide +kernel
theorem tw_k30 : tw_okE 30 :=
  fun i e h => by
    have hl : i < 24 := (List.getElem?_eq_some_iff.mp h).1
    exact tw_okR tw_k30_0 i e (by omega) (by omega) h
set_option maxRecDepth 100000 in
theorem tw_k31_0 : tw_chkR 31 0 24 = true := by decide +kernel
theorem tw_k31 : tw_okE 31 :=
  fun i e h => by
    have hl : i < 24 := (List.getElem?_eq_some_iff.mp h).1
    exact tw_okR tw_k31_0 i e (by omega) (by omega) h
set_option maxRecDepth 100000 in
theorem tw_k32_0 : tw_chkR 32 0 16 = true := by decide +kernel
theorem tw_k32 : tw_okE 32 :=
  fun i e h => by
    have hl : i < 16 := (List.getElem?_eq_some_iff.mp h).1
    exact tw_okR tw_k32_0 i e (by omega) (by omega) h
set_option maxRecDepth 100000 in
theorem tw_k33_0 : tw_chkR 33 0 23 = true := by decide +kernel
theorem tw_k33 : tw_okE 33 :=
  fun i e h => by
    have hl : i < 23 := (List.getElem?_eq_some_iff.mp h).1
    exact tw_okR tw_k33_0 i e (by omega) (by omega) h
set_option maxRecDepth 100000 in
theorem tw_k34_0 : tw_chkR 34 0 17 = true := by decide +kernel
theorem tw_k34 : tw_okE 34 :=
  fun i e h => by
    have hl : i < 17 := (List.getElem?_eq_some_iff.mp h).1
    exact tw_okR tw_k34_0 i e (by omega) (by omega) h
set_option maxRecDepth 100000 in
theorem tw_k35_0 : tw_chkR 35 0 28 = true := by decide +kernel
theorem tw_k35 : tw_okE 35 :=
  fun i e h => by
    have hl : i < 28 := (List.getElem?_eq_some_iff.mp h).1
    exact tw_okR tw_k35_0 i e (by omega) (by omega) h
set_option maxRecDepth 100000 in
theorem tw_k36_0 : tw_chkR 36 0 17 = true := by decide +kernel
theorem tw_k36 : tw_okE 36 :=
  fun i e h => by
    have hl : i < 17 := (List.getElem?_eq_some_iff.mp h).1
    exact tw_okR tw_k36_0 i e (by omega) (by omega) h
set_option maxRecDepth 100000 in
theorem tw_k37_0 : tw_chkR 37 0 15 = true := by decide +kernel
theorem tw_k37 : tw_okE 37 :=
  fun i e h => by
    have hl : i < 15 := (List.getElem?_eq_some_iff.mp h).1
    exact tw_okR tw_k37_0 i e (by omega) (by omega) h
set_option maxRecDepth 100000 in
theorem tw_k38_0 : tw_chkR 38 0 60 = true := by decide +kernel
set_option maxRecDepth 100000 in
theorem tw_k38_60 : tw_chkR 38 60 6 = true := by decide +kernel
theorem tw_k38 : tw_okE 38 :=
  fun i e h => by
    have hl : i < 66 := (List.getElem?_eq_some_iff.mp h).1
    by_cases c0 : i < 60
    · exact tw_okR tw_k38_0 i e (by omega) (by omega) h
    exact tw_okR tw_k38_60 i e (by omega) (by omega) h
set_option maxRecDepth 100000 in
theorem tw_k39_0 : tw_chkR 39 0 31 = true := by decide +kernel
theorem tw_k39 : tw_okE 39 :=
  fun i e h => by
    have hl : i < 31 := (List.getElem?_eq_some_iff.mp h).1
    exact tw_okR tw_k39_0 i e (by omega) (by omega) h
set_option maxRecDepth 100000 in
theorem tw_k40_0 : tw_chkR 40 0 22 = true := by decide +kernel
theorem tw_k40 : tw_okE 40 :=
  fun i e h => by
    have hl : i < 22 := (List.getElem?_eq_some_iff.mp h).1
    exact tw_okR tw_k40_0 i e (by omega) (by omega) h
set_option maxRecDepth 100000 in
theorem tw_k41_0 : tw_chkR 41 0 25 = true := by decide +kernel
theorem tw_k41 : tw_okE 41 :=
  fun i e h => by
    have hl : i < 25 := (List.getElem?_eq_some_iff.mp h).1
    exact tw_okR tw_k41_0 i e (by omega) (by omega) h
set_option maxRecDepth 100000 in
theorem tw_k42_0 : tw_chkR 42 0 27 = true := by decide +kernel
theorem tw_k42 : tw_okE 42 :=
  fun i e h => by
    have hl : i < 27 := (List.getElem?_eq_some_iff.mp h).1
    exact tw_okR tw_k42_0 i e (by omega) (by omega) h
set_option maxRecDepth 100000 in
theorem tw_k43_0 : tw_chkR 43 0 11 = true := by decide +kernel
theorem tw_k43 : tw_okE 43 :=
  fun i e h => by
    have hl : i < 11 := (List.getElem?_eq_some_iff.mp h).1
    exact tw_okR tw_k43_0 i e (by omega) (by omega) h
set_option maxRecDepth 100000 in
theorem tw_k44_0 : tw_chkR 44 0 20 = true := by decide +kernel
theorem tw_k44 : tw_okE 44 :=
  fun i e h => by
    have hl : i < 20 := (List.getElem?_eq_some_iff.mp h).1
    exact tw_okR tw_k44_0 i e (by omega) (by omega) h
set_option maxRecDepth 100000 in
theorem tw_k45_0 : tw_chkR 45 0 19 = true := by decide +kernel
theorem tw_k45 : tw_okE 45 :=
  fun i e h => by
    have hl : i < 19 := (List.getElem?_eq_some_iff.mp h).1
    exact tw_okR tw_k45_0 i e (by omega) (by omega) h
set_option maxRecDepth 100000 in
theorem tw_k46_0 : tw_chkR 46 0 14 = true := by decide +kernel
theorem tw_k46 : tw_okE 46 :=
  fun i e h => by
    have hl : i < 14 := (List.getElem?_eq_some_iff.mp h).1
    exact tw_okR tw_k46_0 i e (by omega) (by omega) h
set_option maxRecDepth 100000 in
theorem tw_k47_0 : tw_chkR 47 0 43 = true := by decide +kernel
theorem tw_k47 : tw_okE 47 :=
  fun i e h => by
    have hl : i < 43 := (List.getElem?_eq_some_iff.mp h).1
    exact tw_okR tw_k47_0 i e (by omega) (by omega) h
set_option maxRecDepth 100000 in
theorem tw_k48_0 : tw_chkR 48 0 20 = true := by decide +kernel
theorem tw_k48 : tw_okE 48 :=
  fun i e h => by
    have hl : i < 20 := (List.getElem?_eq_some_iff.mp h).1
    exact tw_okR tw_k48_0 i e (by omega) (by omega) h
set_option maxRecDepth 100000 in
theorem tw_k49_0 : tw_chkR 49 0 19 = true := by decide +kernel
theorem tw_k49 : tw_okE 49 :=
  fun i e h => by
    have hl : i < 19 := (List.getElem?_eq_some_iff.mp h).1
    exact tw_okR tw_k49_0 i e (by omega) (by omega) h
set_option maxRecDepth 100000 in
theorem tw_k50_0 : tw_chkR 50 0 3 = true := by decide +kernel
theorem tw_k50 : tw_okE 50 :=
  fun i e h => by
    have hl : i < 3 := (List.getElem?_eq_some_iff.mp h).1
    exact tw_okR tw_k50_0 i e (by omega) (by omega) h
set_option maxRecDepth 100000 in
theorem tw_k51_0 : tw_chkR 51 0 7 = true := by decide +kernel
theorem tw_k51 : tw_okE 51 :=
  fun i e h => by
    have hl : i < 7 := (List.getElem?_eq_some_iff.mp h).1
    exact tw_okR tw_k51_0 i e (by omega) (by omega) h
set_option maxRecDepth 100000 in
theorem tw_k52_0 : tw_chkR 52 0 40 = true := by decide +kernel
theorem tw_k52 : tw_okE 52 :=
  fun i e h => by
    have hl : i < 40 := (List.getElem?_eq_some_iff.mp h).1
    exact tw_okR tw_k52_0 i e (by omega) (by omega) h
set_option maxRecDepth 100000 in
theorem tw_k53_0 : tw_chkR 53 0 11 = true := by decide +kernel
theorem tw_k53 : tw_okE 53 :=
  fun i e h => by
    have hl : i < 11 := (List.getElem?_eq_some_iff.mp h).1
    exact tw_okR tw_k53_0 i e (by omega) (by omega) h
set_option maxRecDepth 100000 in
theorem tw_k54_0 : tw_chkR 54 0 20 = true := by decide +kernel
theorem tw_k54 : tw_okE 54 :=
  fun i e h => by
    have hl : i < 20 := (List.getElem?_eq_some_iff.mp h).1
    exact tw_okR tw_k54_0 i e (by omega) (by omega) h
set_option maxRecDepth 100000 in
theorem tw_k55_0 : tw_chkR 55 0 8 = true := by decide +kernel
theorem tw_k55 : tw_okE 55 :=
  fun i e h => by
    have hl : i < 8 := (List.getElem?_eq_some_iff.mp h).1
    exact tw_okR tw_k55_0 i e (by omega) (by omega) h
set_option maxRecDepth 100000 in
theorem tw_k56_0 : tw_chkR 56 0 60 = true := by decide +kernel
set_option maxRecDepth 100000 in
theorem tw_k56_60 : tw_chkR 56 60 60 = true := by decide +kernel
set_option maxRecDepth 100000 in
theorem tw_k56_120 : tw_chkR 56 120 28 = true := by decide +kernel
theorem tw_k56 : tw_okE 56 :=
  fun i e h => by
    have hl : i < 148 := (List.getElem?_eq_some_iff.mp h).1
    by_cases c0 : i < 60
    · exact tw_okR tw_k56_0 i e (by omega) (by omega) h
    by_cases c60 : i < 120
    · exact tw_okR tw_k56_60 i e (by omega) (by omega) h
    exact tw_okR tw_k56_120 i e (by omega) (by omega) h
set_option maxRecDepth 100000 in
theorem tw_k57_0 : tw_chkR 57 0 13 = true := by decide +kernel
theorem tw_k57 : tw_okE 57 :=
  fun i e h => by
    have hl : i < 13 := (List.getElem?_eq_some_iff.mp h).1
    exact tw_okR tw_k57_0 i e (by omega) (by omega) h
set_option maxRecDepth 100000 in
theorem tw_k58_0 : tw_chkR 58 0 10 = true := by decide +kernel
theorem tw_k58 : tw_okE 58 :=
  fun i e h => by
    have hl : i < 10 := (List.getElem?_eq_some_iff.mp h).1
    exact tw_okR tw_k58_0 i e (by omega) (by omega) h
set_option maxRecDepth 100000 in
theorem tw_k59_0 : tw_chkR 59 0 12 = true := by decide +kernel
theorem tw_k59 : tw_okE 59 :=
  fun i e h => by
    have hl : i < 12 := (List.getElem?_eq_some_iff.mp h).1
    exact tw_okR tw_k59_0 i e (by omega) (by omega) h
set_option maxRecDepth 100000 in
theorem tw_k60_0 : tw_chkR 60 0 41 = true := by decide +kernel
theorem tw_k60 : tw_okE 60 :=
  fun i e h => by
    have hl : i < 41 := (List.getElem?_eq_some_iff.mp h).1
    exact tw_okR tw_k60_0 i e (by omega) (by omega) h
set_option maxRecDepth 100000 in
theorem tw_k61_0 : tw_chkR 61 0 8 = true := by decide +kernel
theorem tw_k61 : tw_okE 61 :=
  fun i e h => by
    have hl : i < 8 := (List.getElem?_eq_some_iff.mp h).1
    exact tw_okR tw_k61_0 i e (by omega) (by omega) h
set_option maxRecDepth 100000 in
theorem tw_k62_0 : tw_chkR 62 0 3 = true := by decide +kernel
theorem tw_k62 : tw_okE 62 :=
  fun i e h => by
    have hl : i < 3 := (List.getElem?_eq_some_iff.mp h).1
    exact tw_okR tw_k62_0 i e (by omega) (by omega) h
set_option maxRecDepth 100000 in
theorem tw_k63_0 : tw_chkR 63 0 32 = true := by decide +kernel
theorem tw_k63 : tw_okE 63 :=
  fun i e h => by
    have hl : i < 32 := (List.getElem?_eq_some_iff.mp h).1
    exact tw_okR tw_k63_0 i e (by omega) (by omega) h
set_option maxRecDepth 100000 in
theorem tw_k64_0 : tw_chkR 64 0 60 = true := by decide +kernel
set_option maxRecDepth 100000 in
theorem tw_k64_60 : tw_chkR 64 60 39 = true := by decide +kernel
theorem tw_k64 : tw_okE 64 :=
  fun i e h => by
    have hl : i < 99 := (List.getElem?_eq_some_iff.mp h).1
    by_cases c0 : i < 60
    · exact tw_okR tw_k64_0 i e (by omega) (by omega) h
    exact tw_okR tw_k64_60 i e (by omega) (by omega) h
set_option maxRecDepth 100000 in
theorem tw_k65_0 : tw_chkR 65 0 57 = true := by decide +kernel
theorem tw_k65 : tw_okE 65 :=
  fun i e h => by
    have hl : i < 57 := (List.getElem?_eq_some_iff.mp h).1
    exact tw_okR tw_k65_0 i e (by omega) (by omega) h
set_option maxRecDepth 100000 in
theorem tw_k66_0 : tw_chkR 66 0 21 = true := by decide +kernel
theorem tw_k66 : tw_okE 66 :=
  fun i e h => by
    have hl : i < 21 := (List.getElem?_eq_some_iff.mp h).1
    exact tw_okR tw_k66_0 i e (by omega) (by omega) h
set_option maxRecDepth 100000 in
theorem tw_k67_0 : tw_chkR 67 0 8 = true := by decide +kernel
theorem tw_k67 : tw_okE 67 :=
  fun i e h => by
    have hl : i < 8 := (List.getElem?_eq_some_iff.mp h).1
    exact tw_okR tw_k67_0 i e (by omega) (by omega) h
set_option maxRecDepth 100000 in
theorem tw_k68_0 : tw_chkR 68 0 11 = true := by decide +kernel
theorem tw_k68 : tw_okE 68 :=
  fun i e h => by
    have hl : i < 11 := (List.getElem?_eq_some_iff.mp h).1
    exact tw_okR tw_k68_0 i e (by omega) (by omega) h
set_option maxRecDepth 100000 in
theorem tw_k69_0 : tw_chkR 69 0 16 = true := by decide +kernel
theorem tw_k69 : tw_okE 69 :=
  fun i e h => by
    have hl : i < 16 := (List.getElem?_eq_some_iff.mp h).1
    exact tw_okR tw_k69_0 i e (by omega) (by omega) h
set_option maxRecDepth 100000 in
theorem tw_k70_0 : tw_chkR 70 0 16 = true := by decide +kernel
theorem tw_k70 : tw_okE 70 :=
  fun i e h => by
    have hl : i < 16 := (List.getElem?_eq_some_iff.mp h).1
    exact tw_okR tw_k70_0 i e (by omega) (by omega) h
set_option maxRecDepth 100000 in
theorem tw_k71_0 : tw_chkR 71 0 19 = true := by decide +kernel
theorem tw_k71 : tw_okE 71 :=
  fun i e h => by
    have hl : i < 19 := (List.getElem?_eq_some_iff.mp h).1
    exact tw_okR tw_k71_0 i e (by omega) (by omega) h
set_option maxRecDepth 100000 in
theorem tw_k72_0 : tw_chkR 72 0 16 = true := by decide +kernel
theorem tw_k72 : tw_okE 72 :=
  fun i e h => by
    have hl : i < 16 := (List.getElem?_eq_some_iff.mp h).1
    exact tw_okR tw_k72_0 i e (by omega) (by omega) h
set_option maxRecDepth 100000 in
theorem tw_k73_0 : tw_chkR 73 0 23 = true := by decide +kernel
theorem tw_k73 : tw_okE 73 :=
  fun i e h => by
    have hl : i < 23 := (List.getElem?_eq_some_iff.mp h).1
    exact tw_okR tw_k73_0 i e (by omega) (by omega) h
set_option maxRecDepth 100000 in
theorem tw_k74_0 : tw_chkR 74 0 9 = true := by decide +kernel
theorem tw_k74 : tw_okE 74 :=
  fun i e h => by
    have hl : i < 9 := (List.getElem?_eq_some_iff.mp h).1
    exact tw_okR tw_k74_0 i e (by omega) (by omega) h
set_option maxRecDepth 100000 in
theorem tw_k75_0 : tw_chkR 75 0 14 = true := by decide +kernel
theorem tw_k75 : tw_okE 75 :=
  fun i e h => by
    have hl : i < 14 := (List.getElem?_eq_some_iff.mp h).1
    exact tw_okR tw_k75_0 i e (by omega) (by omega) h
set_option maxRecDepth 100000 in
theorem tw_k76_0 : tw_chkR 76 0 16 = true := by decide +kernel
theorem tw_k76 : tw_okE 76 :=
  fun i e h => by
    have hl : i < 16 := (List.getElem?_eq_some_iff.mp h).1
    exact tw_okR tw_k76_0 i e (by omega) (by omega) h
set_option maxRecDepth 100000 in
theorem tw_k77_0 : tw_chkR 77 0 16 = true := by decide +kernel
theorem tw_k77 : tw_okE 77 :=
  fun i e h => by
    have hl : i < 16 := (List.getElem?_eq_some_iff.mp h).1
    exact tw_okR tw_k77_0 i e (by omega) (by omega) h
set_option maxRecDepth 100000 in
theorem tw_k78_0 : tw_chkR 78 0 32 = true := by decide +kernel
theorem tw_k78 : tw_okE 78 :=
  fun i e h => by
    have hl : i < 32 := (List.getElem?_eq_some_iff.mp h).1
    exact tw_okR tw_k78_0 i e (by omega) (by omega) h
set_option maxRecDepth 100000 in
theorem tw_k79_0 : tw_chkR 79 0 16 = true := by decide +kernel
theorem tw_k79 : tw_okE 79 :=
  fun i e h => by
    have hl : i < 16 := (List.getElem?_eq_some_iff.mp h).1
    exact tw_okR tw_k79_0 i e (by omega) (by omega) h
set_option maxRecDepth 100000 in
theorem tw_k80_0 : tw_chkR 80 0 15 = true := by decide +kernel
theorem tw_k80 : tw_okE 80 :=
  fun i e h => by
    have hl : i < 15 := (List.getElem?_eq_some_iff.mp h).1
    exact tw_okR tw_k80_0 i e (by omega) (by omega) h
set_option maxRecDepth 100000 in
theorem tw_k81_0 : tw_chkR 81 0 35 = true := by decide +kernel
theorem tw_k81 : tw_okE 81 :=
  fun i e h => by
    have hl : i < 35 := (List.getElem?_eq_some_iff.mp h).1
    exact tw_okR tw_k81_0 i e (by omega) (by omega) h
set_option maxRecDepth 100000 in
theorem tw_k82_0 : tw_chkR 82 0 3 = true := by decide +kernel
theorem tw_k82 : tw_okE 82 :=
  fun i e h => by
    have hl : i < 3 := (List.getElem?_eq_some_iff.mp h).1
    exact tw_okR tw_k82_0 i e (by omega) (by omega) h
set_option maxRecDepth 100000 in
theorem tw_k83_0 : tw_chkR 83 0 3 = true := by decide +kernel
theorem tw_k83 : tw_okE 83 :=
  fun i e h => by
    have hl : i < 3 := (List.getElem?_eq_some_iff.mp h).1
    exact tw_okR tw_k83_0 i e (by omega) (by omega) h
set_option maxRecDepth 100000 in
theorem tw_k84_0 : tw_chkR 84 0 4 = true := by decide +kernel
theorem tw_k84 : tw_okE 84 :=
  fun i e h => by
    have hl : i < 4 := (List.getElem?_eq_some_iff.mp h).1
    exact tw_okR tw_k84_0 i e (by omega) (by omega) h
set_option maxRecDepth 100000 in
theorem tw_k85_0 : tw_chkR 85 0 16 = true := by decide +kernel
theorem tw_k85 : tw_okE 85 :=
  fun i e h => by
    have hl : i < 16 := (List.getElem?_eq_some_iff.mp h).1
    exact tw_okR tw_k85_0 i e (by omega) (by omega) h
set_option maxRecDepth 100000 in
theorem tw_k86_0 : tw_chkR 86 0 30 = true := by decide +kernel
theorem tw_k86 : tw_okE 86 :=
  fun i e h => by
    have hl : i < 30 := (List.getElem?_eq_some_iff.mp h).1
    exact tw_okR tw_k86_0 i e (by omega) (by omega) h
set_option maxRecDepth 100000 in
theorem tw_k87_0 : tw_chkR 87 0 25 = true := by decide +kernel
theorem tw_k87 : tw_okE 87 :=
  fun i e h => by
    have hl : i < 25 := (List.getElem?_eq_some_iff.mp h).1
    exact tw_okR tw_k87_0 i e (by omega) (by omega) h
set_option maxRecDepth 100000 in
theorem tw_k88_0 : tw_chkR 88 0 5 = true := by decide +kernel
theorem tw_k88 : tw_okE 88 :=
  fun i e h => by
    have hl : i < 5 := (List.getElem?_eq_some_iff.mp h).1
    exact tw_okR tw_k88_0 i e (by omega) (by omega) h
set_option maxRecDepth 100000 in
theorem tw_k89_0 : tw_chkR 89 0 11 = true := by decide +kernel
theorem tw_k89 : tw_okE 89 :=
  fun i e h => by
    have hl : i < 11 := (List.getElem?_eq_some_iff.mp h).1
    exact tw_okR tw_k89_0 i e (by omega) (by omega) h
set_option maxRecDepth 100000 in
theorem tw_k90_0 : tw_chkR 90 0 24 = true := by decide +kernel
theorem tw_k90 : tw_okE 90 :=
  fun i e h => by
    have hl : i < 24 := (List.getElem?_eq_some_iff.mp h).1
    exact tw_okR tw_k90_0 i e (by omega) (by omega) h
set_option maxRecDepth 100000 in
theorem tw_k91_0 : tw_chkR 91 0 18 = true := by decide +kernel
theorem tw_k91 : tw_okE 91 :=
  fun i e h => by
    have hl : i < 18 := (List.getElem?_eq_some_iff.mp h).1
    exact tw_okR tw_k91_0 i e (by omega) (by omega) h
set_option maxRecDepth 100000 in
theorem tw_k92_0 : tw_chkR 92 0 18 = true := by decide +kernel
theorem tw_k92 : tw_okE 92 :=
  fun i e h => by
    have hl : i < 18 := (List.getElem?_eq_some_iff.mp h).1
    exact tw_okR tw_k92_0 i e (by omega) (by omega) h
set_option maxRecDepth 100000 in
theorem tw_k93_0 : tw_chkR 93 0 37 = true := by decide +kernel
theorem tw_k93 : tw_okE 93 :=
  fun i e h => by
    have hl : i < 37 := (List.getElem?_eq_some_iff.mp h).1
    exact tw_okR tw_k93_0 i e (by omega) (by omega) h
set_option maxRecDepth 100000 in
theorem tw_k94_0 : tw_chkR 94 0 25 = true := by decide +kernel
theorem tw_k94 : tw_okE 94 :=
  fun i e h => by
    have hl : i < 25 := (List.getElem?_eq_some_iff.mp h).1
    exact tw_okR tw_k94_0 i e (by omega) (by omega) h
set_option maxRecDepth 100000 in
theorem tw_k95_0 : tw_chkR 95 0 33 = true := by decide +kernel
theorem tw_k95 : tw_okE 95 :=
  fun i e h => by
    have hl : i < 33 := (List.getElem?_eq_some_iff.mp h).1
    exact tw_okR tw_k95_0 i e (by omega) (by omega) h
set_option maxRecDepth 100000 in
theorem tw_k96_0 : tw_chkR 96 0 15 = true := by decide +kernel
theorem tw_k96 : tw_okE 96 :=
  fun i e h => by
    have hl : i < 15 := (List.getElem?_eq_some_iff.mp h).1
    exact tw_okR tw_k96_0 i e (by omega) (by omega) h
set_option maxRecDepth 100000 in
theorem tw_k97_0 : tw_chkR 97 0 34 = true := by decide +kernel
theorem tw_k97 : tw_okE 97 :=
  fun i e h => by
    have hl : i < 34 := (List.getElem?_eq_some_iff.mp h).1
    exact tw_okR tw_k97_0 i e (by omega) (by omega) h
set_option maxRecDepth 100000 in
theorem tw_k98_0 : tw_chkR 98 0 20 = true := by decide +kernel
theorem tw_k98 : tw_okE 98 :=
  fun i e h => by
    have hl : i < 20 := (List.getElem?_eq_some_iff.mp h).1
    exact tw_okR tw_k98_0 i e (by omega) (by omega) h
set_option maxRecDepth 100000 in
theorem tw_k99_0 : tw_chkR 99 0 25 = true := by decide +kernel
theorem tw_k99 : tw_okE 99 :=
  fun i e h => by
    have hl : i < 25 := (List.getElem?_eq_some_iff.mp h).1
    exact tw_okR tw_k99_0 i e (by omega) (by omega) h
set_option maxRecDepth 100000 in
theorem tw_k100_0 : tw_chkR 100 0 11 = true := by decide +kernel
theorem tw_k100 : tw_okE 100 :=
  fun i e h => by
    have hl : i < 11 := (List.getElem?_eq_some_iff.mp h).1
    exact tw_okR tw_k100_0 i e (by omega) (by omega) h
set_option maxRecDepth 100000 in
theorem tw_k101_0 : tw_chkR 101 0 19 = true := by decide +kernel
theorem tw_k101 : tw_okE 101 :=
  fun i e h => by
    have hl : i < 19 := (List.getElem?_eq_some_iff.mp h).1
    exact tw_okR tw_k101_0 i e (by omega) (by omega) h
set_option maxRecDepth 100000 in
theorem tw_k102_0 : tw_chkR 102 0 21 = true := by decide +kernel
theorem tw_k102 : tw_okE 102 :=
  fun i e h => by
    have hl : i < 21 := (List.getElem?_eq_some_iff.mp h).1
    exact tw_okR tw_k102_0 i e (by omega) (by omega) h
set_option maxRecDepth 100000 in
theorem tw_k103_0 : tw_chkR 103 0 31 = true := by decide +kernel
theorem tw_k103 : tw_okE 103 :=
  fun i e h => by
    have hl : i < 31 := (List.getElem?_eq_some_iff.mp h).1
    exact tw_okR tw_k103_0 i e (by omega) (by omega) h
set_option maxRecDepth 100000 in
theorem tw_k104_0 : tw_chkR 104 0 39 = true := by decide +kernel
theorem tw_k104 : tw_okE 104 :=
  fun i e h => by
    have hl : i < 39 := (List.getElem?_eq_some_iff.mp h).1
    exact tw_okR tw_k104_0 i e (by omega) (by omega) h
set_option maxRecDepth 100000 in
theorem tw_k105_0 : tw_chkR 105 0 11 = true := by decide +kernel
theorem tw_k105 : tw_okE 105 :=
  fun i e h => by
    have hl : i < 11 := (List.getElem?_eq_some_iff.mp h).1
    exact tw_okR tw_k105_0 i e (by omega) (by omega) h
set_option maxRecDepth 100000 in
theorem tw_k106_0 : tw_chkR 106 0 26 = true := by decide +kernel
theorem tw_k106 : tw_okE 106 :=
  fun i e h => by
    have hl : i < 26 := (List.getElem?_eq_some_iff.mp h).1
    exact tw_okR tw_k106_0 i e (by omega) (by omega) h
set_option maxRecDepth 100000 in
theorem tw_k107_0 : tw_chkR 107 0 29 = true := by decide +kernel
theorem tw_k107 : tw_okE 107 :=
  fun i e h => by
    have hl : i < 29 := (List.getElem?_eq_some_iff.mp h).1
    exact tw_okR tw_k107_0 i e (by omega) (by omega) h
set_option maxRecDepth 100000 in
theorem tw_k108_0 : tw_chkR 108 0 21 = true := by decide +kernel
theorem tw_k108 : tw_okE 108 :=
  fun i e h => by
    have hl : i < 21 := (List.getElem?_eq_some_iff.mp h).1
    exact tw_okR tw_k108_0 i e (by omega) (by omega) h
set_option maxRecDepth 100000 in
theorem tw_k109_0 : tw_chkR 109 0 27 = true := by decide +kernel
theorem tw_k109 : tw_okE 109 :=
  fun i e h => by
    have hl : i < 27 := (List.getElem?_eq_some_iff.mp h).1
    exact tw_okR tw_k109_0 i e (by omega) (by omega) h
set_option maxRecDepth 100000 in
theorem tw_k110_0 : tw_chkR 110 0 40 = true := by decide +kernel
theorem tw_k110 : tw_okE 110 :=
  fun i e h => by
    have hl : i < 40 := (List.getElem?_eq_some_iff.mp h).1
    exact tw_okR tw_k110_0 i e (by omega) (by omega) h
set_option maxRecDepth 100000 in
theorem tw_k111_0 : tw_chkR 111 0 19 = true := by decide +kernel
theorem tw_k111 : tw_okE 111 :=
  fun i e h => by
    have hl : i < 19 := (List.getElem?_eq_some_iff.mp h).1
    exact tw_okR tw_k111_0 i e (by omega) (by omega) h
set_option maxRecDepth 100000 in
theorem tw_k112_0 : tw_chkR 112 0 17 = true := by decide +kernel
theorem tw_k112 : tw_okE 112 :=
  fun i e h => by
    have hl : i < 17 := (List.getElem?_eq_some_iff.mp h).1
    exact tw_okR tw_k112_0 i e (by omega) (by omega) h
set_option maxRecDepth 100000 in
theorem tw_k113_0 : tw_chkR 113 0 7 = true := by decide +kernel
theorem tw_k113 : tw_okE 113 :=
  fun i e h => by
    have hl : i < 7 := (List.getElem?_eq_some_iff.mp h).1
    exact tw_okR tw_k113_0 i e (by omega) (by omega) h
set_option maxRecDepth 100000 in
theorem tw_k114_0 : tw_chkR 114 0 3 = true := by decide +kernel
theorem tw_k114 : tw_okE 114 :=
  fun i e h => by
    have hl : i < 3 := (List.getElem?_eq_some_iff.mp h).1
    exact tw_okR tw_k114_0 i e (by omega) (by omega) h
set_option maxRecDepth 100000 in
theorem tw_k115_0 : tw_chkR 115 0 15 = true := by decide +kernel
theorem tw_k115 : tw_okE 115 :=
  fun i e h => by
    have hl : i < 15 := (List.getElem?_eq_some_iff.mp h).1
    exact tw_okR tw_k115_0 i e (by omega) (by omega) h
set_option maxRecDepth 100000 in
theorem tw_k116_0 : tw_chkR 116 0 23 = true := by decide +kernel
theorem tw_k116 : tw_okE 116 :=
  fun i e h => by
    have hl : i < 23 := (List.getElem?_eq_some_iff.mp h).1
    exact tw_okR tw_k116_0 i e (by omega) (by omega) h
set_option maxRecDepth 100000 in
theorem tw_k117_0 : tw_chkR 117 0 28 = true := by decide +kernel
theorem tw_k117 : tw_okE 117 :=
  fun i e h => by
    have hl : i < 28 := (List.getElem?_eq_some_iff.mp h).1
    exact tw_okR tw_k117_0 i e (by omega) (by omega) h
set_option maxRecDepth 100000 in
theorem tw_k118_0 : tw_chkR 118 0 29 = true := by decide +kernel
theorem tw_k118 : tw_okE 118 :=
  fun i e h => by
    have hl : i < 29 := (List.getElem?_eq_some_iff.mp h).1
    exact tw_okR tw_k118_0 i e (by omega) (by omega) h
set_option maxRecDepth 100000 in
theorem tw_k119_0 : tw_chkR 119 0 39 = true := by decide +kernel
theorem tw_k119 : tw_okE 119 :=
  fun i e h => by
    have hl : i < 39 := (List.getElem?_eq_some_iff.mp h).1
    exact tw_okR tw_k119_0 i e (by omega) (by omega) h
set_option maxRecDepth 100000 in
theorem tw_k120_0 : tw_chkR 120 0 7 = true := by decide +kernel
theorem tw_k120 : tw_okE 120 :=
  fun i e h => by
    have hl : i < 7 := (List.getElem?_eq_some_iff.mp h).1
    exact tw_okR tw_k120_0 i e (by omega) (by omega) h
set_option maxRecDepth 100000 in
theorem tw_k121_0 : tw_chkR 121 0 3 = true := by decide +kernel
theorem tw_k121 : tw_okE 121 :=
  fun i e h => by
    have hl : i < 3 := (List.getElem?_eq_some_iff.mp h).1
    exact tw_okR tw_k121_0 i e (by omega) (by omega) h
set_option maxRecDepth 100000 in
theorem tw_k122_0 : tw_chkR 122 0 8 = true := by decide +kernel
theorem tw_k122 : tw_okE 122 :=
  fun i e h => by
    have hl : i < 8 := (List.getElem?_eq_some_iff.mp h).1
    exact tw_okR tw_k122_0 i e (by omega) (by omega) h
set_option maxRecDepth 100000 in
theorem tw_k123_0 : tw_chkR 123 0 23 = true := by decide +kernel
theorem tw_k123 : tw_okE 123 :=
  fun i e h => by
    have hl : i < 23 := (List.getElem?_eq_some_iff.mp h).1
    exact tw_okR tw_k123_0 i e (by omega) (by omega) h
set_option maxRecDepth 100000 in
theorem tw_k124_0 : tw_chkR 124 0 4 = true := by decide +kernel
theorem tw_k124 : tw_okE 124 :=
  fun i e h => by
    have hl : i < 4 := (List.getElem?_eq_some_iff.mp h).1
    exact tw_okR tw_k124_0 i e (by omega) (by omega) h
set_option maxRecDepth 100000 in
theorem tw_k125_0 : tw_chkR 125 0 18 = true := by decide +kernel
theorem tw_k125 : tw_okE 125 :=
  fun i e h => by
    have hl : i < 18 := (List.getElem?_eq_some_iff.mp h).1
    exact tw_okR tw_k125_0 i e (by omega) (by omega) h
set_option maxRecDepth 100000 in
theorem tw_k126_0 : tw_chkR 126 0 27 = true := by decide +kernel
theorem tw_k126 : tw_okE 126 :=
  fun i e h => by
    have hl : i < 27 := (List.getElem?_eq_some_iff.mp h).1
    exact tw_okR tw_k126_0 i e (by omega) (by omega) h
set_option maxRecDepth 100000 in
theorem tw_k127_0 : tw_chkR 127 0 40 = true := by decide +kernel
theorem tw_k127 : tw_okE 127 :=
  fun i e h => by
    have hl : i < 40 := (List.getElem?_eq_some_iff.mp h).1
    exact tw_okR tw_k127_0 i e (by omega) (by omega) h
set_option maxRecDepth 100000 in
theorem tw_k128_0 : tw_chkR 128 0 7 = true := by decide +kernel
theorem tw_k128 : tw_okE 128 :=
  fun i e h => by
    have hl : i < 7 := (List.getElem?_eq_some_iff.mp h).1
    exact tw_okR tw_k128_0 i e (by omega) (by omega) h
set_option maxRecDepth 100000 in
theorem tw_k129_0 : tw_chkR 129 0 35 = true := by decide +kernel
theorem tw_k129 : tw_okE 129 :=
  fun i e h => by
    have hl : i < 35 := (List.getElem?_eq_some_iff.mp h).1
    exact tw_okR tw_k129_0 i e (by omega) (by omega) h
set_option maxRecDepth 100000 in
theorem tw_k130_0 : tw_chkR 130 0 24 = true := by decide +kernel
theorem tw_k130 : tw_okE 130 :=
  fun i e h => by
    have hl : i < 24 := (List.getElem?_eq_some_iff.mp h).1
    exact tw_okR tw_k130_0 i e (by omega) (by omega) h
set_option maxRecDepth 100000 in
theorem tw_k131_0 : tw_chkR 131 0 51 = true := by decide +kernel
theorem tw_k131 : tw_okE 131 :=
  fun i e h => by
    have hl : i < 51 := (List.getElem?_eq_some_iff.mp h).1
    exact tw_okR tw_k131_0 i e (by omega) (by omega) h
set_option maxRecDepth 100000 in
theorem tw_k132_0 : tw_chkR 132 0 22 = true := by decide +kernel
theorem tw_k132 : tw_okE 132 :=
  fun i e h => by
    have hl : i < 22 := (List.getElem?_eq_some_iff.mp h).1
    exact tw_okR tw_k132_0 i e (by omega) (by omega) h
set_option maxRecDepth 100000 in
theorem tw_k133_0 : tw_chkR 133 0 9 = true := by decide +kernel
theorem tw_k133 : tw_okE 133 :=
  fun i e h => by
    have hl : i < 9 := (List.getElem?_eq_some_iff.mp h).1
    exact tw_okR tw_k133_0 i e (by omega) (by omega) h
set_option maxRecDepth 100000 in
theorem tw_k134_0 : tw_chkR 134 0 26 = true := by decide +kernel
theorem tw_k134 : tw_okE 134 :=
  fun i e h => by
    have hl : i < 26 := (List.getElem?_eq_some_iff.mp h).1
    exact tw_okR tw_k134_0 i e (by omega) (by omega) h
set_option maxRecDepth 100000 in
theorem tw_k135_0 : tw_chkR 135 0 27 = true := by decide +kernel
theorem tw_k135 : tw_okE 135 :=
  fun i e h => by
    have hl : i < 27 := (List.getElem?_eq_some_iff.mp h).1
    exact tw_okR tw_k135_0 i e (by omega) (by omega) h
set_option maxRecDepth 100000 in
theorem tw_k136_0 : tw_chkR 136 0 42 = true := by decide +kernel
theorem tw_k136 : tw_okE 136 :=
  fun i e h => by
    have hl : i < 42 := (List.getElem?_eq_some_iff.mp h).1
    exact tw_okR tw_k136_0 i e (by omega) (by omega) h
set_option maxRecDepth 100000 in
theorem tw_k137_0 : tw_chkR 137 0 12 = true := by decide +kernel
theorem tw_k137 : tw_okE 137 :=
  fun i e h => by
    have hl : i < 12 := (List.getElem?_eq_some_iff.mp h).1
    exact tw_okR tw_k137_0 i e (by omega) (by omega) h
set_option maxRecDepth 100000 in
theorem tw_k138_0 : tw_chkR 138 0 20 = true := by decide +kernel
theorem tw_k138 : tw_okE 138 :=
  fun i e h => by
    have hl : i < 20 := (List.getElem?_eq_some_iff.mp h).1
    exact tw_okR tw_k138_0 i e (by omega) (by omega) h
set_option maxRecDepth 100000 in
theorem tw_k139_0 : tw_chkR 139 0 24 = true := by decide +kernel
theorem tw_k139 : tw_okE 139 :=
  fun i e h => by
    have hl : i < 24 := (List.getElem?_eq_some_iff.mp h).1
    exact tw_okR tw_k139_0 i e (by omega) (by omega) h
set_option maxRecDepth 100000 in
theorem tw_k140_0 : tw_chkR 140 0 19 = true := by decide +kernel
theorem tw_k140 : tw_okE 140 :=
  fun i e h => by
    have hl : i < 19 := (List.getElem?_eq_some_iff.mp h).1
    exact tw_okR tw_k140_0 i e (by omega) (by omega) h
set_option maxRecDepth 100000 in
theorem tw_k141_0 : tw_chkR 141 0 25 = true := by decide +kernel
theorem tw_k141 : tw_okE 141 :=
  fun i e h => by
    have hl : i < 25 := (List.getElem?_eq_some_iff.mp h).1
    exact tw_okR tw_k141_0 i e (by omega) (by omega) h
set_option maxRecDepth 100000 in
theorem tw_k142_0 : tw_chkR 142 0 21 = true := by decide +kernel
theorem tw_k142 : tw_okE 142 :=
  fun i e h => by
    have hl : i < 21 := (List.getElem?_eq_some_iff.mp h).1
    exact tw_okR tw_k142_0 i e (by omega) (by omega) h
set_option maxRecDepth 100000 in
theorem tw_k143_0 : tw_chkR 143 0 27 = true := by decide +kernel
theorem tw_k143 : tw_okE 143 :=
  fun i e h => by
    have hl : i < 27 := (List.getElem?_eq_some_iff.mp h).1
    exact tw_okR tw_k143_0 i e (by omega) (by omega) h
set_option maxRecDepth 100000 in
theorem tw_k144_0 : tw_chkR 144 0 13 = true := by decide +kernel
theorem tw_k144 : tw_okE 144 :=
  fun i e h => by
    have hl : i < 13 := (List.getElem?_eq_some_iff.mp h).1
    exact tw_okR tw_k144_0 i e (by omega) (by omega) h
set_option maxRecDepth 100000 in
theorem tw_k145_0 : tw_chkR 145 0 8 = true := by decide +kernel
theorem tw_k145 : tw_okE 145 :=
  fun i e h => by
    have hl : i < 8 := (List.getElem?_eq_some_iff.mp h).1
    exact tw_okR tw_k145_0 i e (by omega) (by omega) h
set_option maxRecDepth 100000 in
theorem tw_k146_0 : tw_chkR 146 0 8 = true := by decide +kernel
theorem tw_k146 : tw_okE 146 :=
  fun i e h => by
    have hl : i < 8 := (List.getElem?_eq_some_iff.mp h).1
    exact tw_okR tw_k146_0 i e (by omega) (by omega) h
set_option maxRecDepth 100000 in
theorem tw_k147_0 : tw_chkR 147 0 8 = true := by decide +kernel
theorem tw_k147 : tw_okE 147 :=
  fun i e h => by
    have hl : i < 8 := (List.getElem?_eq_some_iff.mp h).1
    exact tw_okR tw_k147_0 i e (by omega) (by omega) h
set_option maxRecDepth 100000 in
theorem tw_k148_0 : tw_chkR 148 0 8 = true := by decide +kernel
theorem tw_k148 : tw_okE 148 :=
  fun i e h => by
    have hl : i < 8 := (List.getElem?_eq_some_iff.mp h).1
    exact tw_okR tw_k148_0 i e (by omega) (by omega) h
set_option maxRecDepth 100000 in
theorem tw_k149_0 : tw_chkR 149 0 12 = true := by decide +kernel
theorem tw_k149 : tw_okE 149 :=
  fun i e h => by
    have hl : i < 12 := (List.getElem?_eq_some_iff.mp h).1
    exact tw_okR tw_k149_0 i e (by omega) (by omega) h
set_option maxRecDepth 100000 in
theorem tw_k150_0 : tw_chkR 150 0 12 = true := by decide +kernel
theorem tw_k150 : tw_okE 150 :=
  fun i e h => by
    have hl : i < 12 := (List.getElem?_eq_some_iff.mp h).1
    exact tw_okR tw_k150_0 i e (by omega) (by omega) h
set_option maxRecDepth 100000 in
theorem tw_k151_0 : tw_chkR 151 0 12 = true := by decide +kernel
theorem tw_k151 : tw_okE 151 :=
  fun i e h => by
    have hl : i < 12 := (List.getElem?_eq_some_iff.mp h).1
    exact tw_okR tw_k151_0 i e (by omega) (by omega) h
set_option maxRecDepth 100000 in
theorem tw_k152_0 : tw_chkR 152 0 60 = true := by decide +kernel
set_option maxRecDepth 100000 in
theorem tw_k152_60 : tw_chkR 152 60 2 = true := by decide +kernel
theorem tw_k152 : tw_okE 152 :=
  fun i e h => by
    have hl : i < 62 := (List.getElem?_eq_some_iff.mp h).1
    by_cases c0 : i < 60
    · exact tw_okR tw_k152_0 i e (by omega) (by omega) h
    exact tw_okR tw_k152_60 i e (by omega) (by omega) h
set_option maxRecDepth 100000 in
theorem tw_k153_0 : tw_chkR 153 0 20 = true := by decide +kernel
theorem tw_k153 : tw_okE 153 :=
  fun i e h => by
    have hl : i < 20 := (List.getElem?_eq_some_iff.mp h).1
    exact tw_okR tw_k153_0 i e (by omega) (by omega) h
set_option maxRecDepth 100000 in
theorem tw_k154_0 : tw_chkR 154 0 12 = true := by decide +kernel
theorem tw_k154 : tw_okE 154 :=
  fun i e h => by
    have hl : i < 12 := (List.getElem?_eq_some_iff.mp h).1
    exact tw_okR tw_k154_0 i e (by omega) (by omega) h
set_option maxRecDepth 100000 in
theorem tw_k155_0 : tw_chkR 155 0 32 = true := by decide +kernel
theorem tw_k155 : tw_okE 155 :=
  fun i e h => by
    have hl : i < 32 := (List.getElem?_eq_some_iff.mp h).1
    exact tw_okR tw_k155_0 i e (by omega) (by omega) h
set_option maxRecDepth 100000 in
theorem tw_k156_0 : tw_chkR 156 0 23 = true := by decide +kernel
theorem tw_k156 : tw_okE 156 :=
  fun i e h => by
    have hl : i < 23 := (List.getElem?_eq_some_iff.mp h).1
    exact tw_okR tw_k156_0 i e (by omega) (by omega) h
set_option maxRecDepth 100000 in
theorem tw_k157_0 : tw_chkR 157 0 39 = true := by decide +kernel
theorem tw_k157 : tw_okE 157 :=
  fun i e h => by
    have hl : i < 39 := (List.getElem?_eq_some_iff.mp h).1
    exact tw_okR tw_k157_0 i e (by omega) (by omega) h
set_option maxRecDepth 100000 in
theorem tw_k158_0 : tw_chkR 158 0 57 = true := by decide +kernel
theorem tw_k158 : tw_okE 158 :=
  fun i e h => by
    have hl : i < 57 := (List.getElem?_eq_some_iff.mp h).1
    exact tw_okR tw_k158_0 i e (by omega) (by omega) h
set_option maxRecDepth 100000 in
theorem tw_k159_0 : tw_chkR 159 0 16 = true := by decide +kernel
theorem tw_k159 : tw_okE 159 :=
  fun i e h => by
    have hl : i < 16 := (List.getElem?_eq_some_iff.mp h).1
    exact tw_okR tw_k159_0 i e (by omega) (by omega) h
set_option maxRecDepth 100000 in
theorem tw_k160_0 : tw_chkR 160 0 5 = true := by decide +kernel
theorem tw_k160 : tw_okE 160 :=
  fun i e h => by
    have hl : i < 5 := (List.getElem?_eq_some_iff.mp h).1
    exact tw_okR tw_k160_0 i e (by omega) (by omega) h
set_option maxRecDepth 100000 in
theorem tw_k161_0 : tw_chkR 161 0 5 = true := by decide +kernel
theorem tw_k161 : tw_okE 161 :=
  fun i e h => by
    have hl : i < 5 := (List.getElem?_eq_some_iff.mp h).1
    exact tw_okR tw_k161_0 i e (by omega) (by omega) h
set_option maxRecDepth 100000 in
theorem tw_k162_0 : tw_chkR 162 0 28 = true := by decide +kernel
theorem tw_k162 : tw_okE 162 :=
  fun i e h => by
    have hl : i < 28 := (List.getElem?_eq_some_iff.mp h).1
    exact tw_okR tw_k162_0 i e (by omega) (by omega) h
set_option maxRecDepth 100000 in
theorem tw_k163_0 : tw_chkR 163 0 28 = true := by decide +kernel
theorem tw_k163 : tw_okE 163 :=
  fun i e h => by
    have hl : i < 28 := (List.getElem?_eq_some_iff.mp h).1
    exact tw_okR tw_k163_0 i e (by omega) (by omega) h
set_option maxRecDepth 100000 in
theorem tw_k164_0 : tw_chkR 164 0 6 = true := by decide +kernel
theorem tw_k164 : tw_okE 164 :=
  fun i e h => by
    have hl : i < 6 := (List.getElem?_eq_some_iff.mp h).1
    exact tw_okR tw_k164_0 i e (by omega) (by omega) h
set_option maxRecDepth 100000 in
theorem tw_k165_0 : tw_chkR 165 0 19 = true := by decide +kernel
theorem tw_k165 : tw_okE 165 :=
  fun i e h => by
    have hl : i < 19 := (List.getElem?_eq_some_iff.mp h).1
    exact tw_okR tw_k165_0 i e (by omega) (by omega) h
set_option maxRecDepth 100000 in
theorem tw_k166_0 : tw_chkR 166 0 14 = true := by decide +kernel
theorem tw_k166 : tw_okE 166 :=
  fun i e h => by
    have hl : i < 14 := (List.getElem?_eq_some_iff.mp h).1
    exact tw_okR tw_k166_0 i e (by omega) (by omega) h
set_option maxRecDepth 100000 in
theorem tw_k167_0 : tw_chkR 167 0 9 = true := by decide +kernel
theorem tw_k167 : tw_okE 167 :=
  fun i e h => by
    have hl : i < 9 := (List.getElem?_eq_some_iff.mp h).1
    exact tw_okR tw_k167_0 i e (by omega) (by omega) h
set_option maxRecDepth 100000 in
theorem tw_k168_0 : tw_chkR 168 0 5 = true := by decide +kernel
theorem tw_k168 : tw_okE 168 :=
  fun i e h => by
    have hl : i < 5 := (List.getElem?_eq_some_iff.mp h).1
    exact tw_okR tw_k168_0 i e (by omega) (by omega) h
set_option maxRecDepth 100000 in
theorem tw_k169_0 : tw_chkR 169 0 37 = true := by decide +kernel
theorem tw_k169 : tw_okE 169 :=
  fun i e h => by
    have hl : i < 37 := (List.getElem?_eq_some_iff.mp h).1
    exact tw_okR tw_k169_0 i e (by omega) (by omega) h
set_option maxRecDepth 100000 in
theorem tw_k170_0 : tw_chkR 170 0 23 = true := by decide +kernel
theorem tw_k170 : tw_okE 170 :=
  fun i e h => by
    have hl : i < 23 := (List.getElem?_eq_some_iff.mp h).1
    exact tw_okR tw_k170_0 i e (by omega) (by omega) h
set_option maxRecDepth 100000 in
theorem tw_k171_0 : tw_chkR 171 0 30 = true := by decide +kernel
theorem tw_k171 : tw_okE 171 :=
  fun i e h => by
    have hl : i < 30 := (List.getElem?_eq_some_iff.mp h).1
    exact tw_okR tw_k171_0 i e (by omega) (by omega) h
set_option maxRecDepth 100000 in
theorem tw_k172_0 : tw_chkR 172 0 14 = true := by decide +kernel
theorem tw_k172 : tw_okE 172 :=
  fun i e h => by
    have hl : i < 14 := (List.getElem?_eq_some_iff.mp h).1
    exact tw_okR tw_k172_0 i e (by omega) (by omega) h
set_option maxRecDepth 100000 in
theorem tw_k173_0 : tw_chkR 173 0 54 = true := by decide +kernel
theorem tw_k173 : tw_okE 173 :=
  fun i e h => by
    have hl : i < 54 := (List.getElem?_eq_some_iff.mp h).1
    exact tw_okR tw_k173_0 i e (by omega) (by omega) h
set_option maxRecDepth 100000 in
theorem tw_k174_0 : tw_chkR 174 0 58 = true := by decide +kernel
theorem tw_k174 : tw_okE 174 :=
  fun i e h => by
    have hl : i < 58 := (List.getElem?_eq_some_iff.mp h).1
    exact tw_okR tw_k174_0 i e (by omega) (by omega) h
set_option maxRecDepth 100000 in
theorem tw_k175_0 : tw_chkR 175 0 13 = true := by decide +kernel
theorem tw_k175 : tw_okE 175 :=
  fun i e h => by
    have hl : i < 13 := (List.getElem?_eq_some_iff.mp h).1
    exact tw_okR tw_k175_0 i e (by omega) (by omega) h
set_option maxRecDepth 100000 in
theorem tw_k176_0 : tw_chkR 176 0 15 = true := by decide +kernel
theorem tw_k176 : tw_okE 176 :=
  fun i e h => by
    have hl : i < 15 := (List.getElem?_eq_some_iff.mp h).1
    exact tw_okR tw_k176_0 i e (by omega) (by omega) h
set_option maxRecDepth 100000 in
theorem tw_k177_0 : tw_chkR 177 0 9 = true := by decide +kernel
theorem tw_k177 : tw_okE 177 :=
  fun i e h => by
    have hl : i < 9 := (List.getElem?_eq_some_iff.mp h).1
    exact tw_okR tw_k177_0 i e (by omega) (by omega) h
set_option maxRecDepth 100000 in
theorem tw_k178_0 : tw_chkR 178 0 9 = true := by decide +kernel
theorem tw_k178 : tw_okE 178 :=
  fun i e h => by
    have hl : i < 9 := (List.getElem?_eq_some_iff.mp h).1
    exact tw_okR tw_k178_0 i e (by omega) (by omega) h
set_option maxRecDepth 100000 in
theorem tw_k179_0 : tw_chkR 179 0 10 = true := by decide +kernel
theorem tw_k179 : tw_okE 179 :=
  fun i e h => by
    have hl : i < 10 := (List.getElem?_eq_some_iff.mp h).1
    exact tw_okR tw_k179_0 i e (by omega) (by omega) h
set_option maxRecDepth 100000 in
theorem tw_k180_0 : tw_chkR 180 0 6 = true := by decide +kernel
theorem tw_k180 : tw_okE 180 :=
  fun i e h => by
    have hl : i < 6 := (List.getElem?_eq_some_iff.mp h).1
    exact tw_okR tw_k180_0 i e (by omega) (by omega) h
set_option maxRecDepth 100000 in
theorem tw_k181_0 : tw_chkR 181 0 10 = true := by decide +kernel
theorem tw_k181 : tw_okE 181 :=
  fun i e h => by
    have hl : i < 10 := (List.getElem?_eq_some_iff.mp h).1
    exact tw_okR tw_k181_0 i e (by omega) (by omega) h
set_option maxRecDepth 100000 in
theorem tw_k182_0 : tw_chkR 182 0 10 = true := by decide +kernel
theorem tw_k182 : tw_okE 182 :=
  fun i e h => by
    have hl : i < 10 := (List.getElem?_eq_some_iff.mp h).1
    exact tw_okR tw_k182_0 i e (by omega) (by omega) h
set_option maxRecDepth 100000 in
theorem tw_k183_0 : tw_chkR 183 0 60 = true := by decide +kernel
set_option maxRecDepth 100000 in
theorem tw_k183_60 : tw_chkR 183 60 60 = true := by decide +kernel
set_option maxRecDepth 100000 in
theorem tw_k183_120 : tw_chkR 183 120 12 = true := by decide +kernel
theorem tw_k183 : tw_okE 183 :=
  fun i e h => by
    have hl : i < 132 := (List.getElem?_eq_some_iff.mp h).1
    by_cases c0 : i < 60
    · exact tw_okR tw_k183_0 i e (by omega) (by omega) h
    by_cases c60 : i < 120
    · exact tw_okR tw_k183_60 i e (by omega) (by omega) h
    exact tw_okR tw_k183_120 i e (by omega) (by omega) h
set_option maxRecDepth 100000 in
theorem tw_k184_0 : tw_chkR 184 0 10 = true := by decide +kernel
theorem tw_k184 : tw_okE 184 :=
  fun i e h => by
    have hl : i < 10 := (List.getElem?_eq_some_iff.mp h).1
    exact tw_okR tw_k184_0 i e (by omega) (by omega) h
set_option maxRecDepth 100000 in
theorem tw_k185_0 : tw_chkR 185 0 10 = true := by decide +kernel
theorem tw_k185 : tw_okE 185 :=
  fun i e h => by
    have hl : i < 10 := (List.getElem?_eq_some_iff.mp h).1
    exact tw_okR tw_k185_0 i e (by omega) (by omega) h
set_option maxRecDepth 100000 in
theorem tw_k186_0 : tw_chkR 186 0 5 = true := by decide +kernel
theorem tw_k186 : tw_okE 186 :=
  fun i e h => by
    have hl : i < 5 := (List.getElem?_eq_some_iff.mp h).1
    exact tw_okR tw_k186_0 i e (by omega) (by omega) h
set_option maxRecDepth 100000 in
theorem tw_k187_0 : tw_chkR 187 0 28 = true := by decide +kernel
theorem tw_k187 : tw_okE 187 :=
  fun i e h => by
    have hl : i < 28 := (List.getElem?_eq_some_iff.mp h).1
    exact tw_okR tw_k187_0 i e (by omega) (by omega) h
set_option maxRecDepth 100000 in
theorem tw_k188_0 : tw_chkR 188 0 8 = true := by decide +kernel
theorem tw_k188 : tw_okE 188 :=
  fun i e h => by
    have hl : i < 8 := (List.getElem?_eq_some_iff.mp h).1
    exact tw_okR tw_k188_0 i e (by omega) (by omega) h
set_option maxRecDepth 100000 in
theorem tw_k189_0 : tw_chkR 189 0 13 = true := by decide +kernel
theorem tw_k189 : tw_okE 189 :=
  fun i e h => by
    have hl : i < 13 := (List.getElem?_eq_some_iff.mp h).1
    exact tw_okR tw_k189_0 i e (by omega) (by omega) h
set_option maxRecDepth 100000 in
theorem tw_k190_0 : tw_chkR 190 0 7 = true := by decide +kernel
theorem tw_k190 : tw_okE 190 :=
  fun i e h => by
    have hl : i < 7 := (List.getElem?_eq_some_iff.mp h).1
    exact tw_okR tw_k190_0 i e (by omega) (by omega) h
set_option maxRecDepth 100000 in
theorem tw_k191_0 : tw_chkR 191 0 20 = true := by decide +kernel
theorem tw_k191 : tw_okE 191 :=
  fun i e h => by
    have hl : i < 20 := (List.getElem?_eq_some_iff.mp h).1
    exact tw_okR tw_k191_0 i e (by omega) (by omega) h
set_option maxRecDepth 100000 in
theorem tw_k192_0 : tw_chkR 192 0 45 = true := by decide +kernel
theorem tw_k192 : tw_okE 192 :=
  fun i e h => by
    have hl : i < 45 := (List.getElem?_eq_some_iff.mp h).1
    exact tw_okR tw_k192_0 i e (by omega) (by omega) h
set_option maxRecDepth 100000 in
theorem tw_k193_0 : tw_chkR 193 0 60 = true := by decide +kernel
set_option maxRecDepth 100000 in
theorem tw_k193_60 : tw_chkR 193 60 60 = true := by decide +kernel
set_option maxRecDepth 100000 in
theorem tw_k193_120 : tw_chkR 193 120 50 = true := by decide +kernel
theorem tw_k193 : tw_okE 193 :=
  fun i e h => by
    have hl : i < 170 := (List.getElem?_eq_some_iff.mp h).1
    by_cases c0 : i < 60
    · exact tw_okR tw_k193_0 i e (by omega) (by omega) h
    by_cases c60 : i < 120
    · exact tw_okR tw_k193_60 i e (by omega) (by omega) h
    exact tw_okR tw_k193_120 i e (by omega) (by omega) h
set_option maxRecDepth 100000 in
theorem tw_k194_0 : tw_chkR 194 0 60 = true := by decide +kernel
set_option maxRecDepth 100000 in
theorem tw_k194_60 : tw_chkR 194 60 24 = true := by decide +kernel
theorem tw_k194 : tw_okE 194 :=
  fun i e h => by
    have hl : i < 84 := (List.getElem?_eq_some_iff.mp h).1
    by_cases c0 : i < 60
    · exact tw_okR tw_k194_0 i e (by omega) (by omega) h
    exact tw_okR tw_k194_60 i e (by omega) (by omega) h
set_option maxRecDepth 100000 in
theorem tw_k195_0 : tw_chkR 195 0 60 = true := by decide +kernel
set_option maxRecDepth 100000 in
theorem tw_k195_60 : tw_chkR 195 60 60 = true := by decide +kernel
set_option maxRecDepth 100000 in
theorem tw_k195_120 : tw_chkR 195 120 34 = true := by decide +kernel
theorem tw_k195 : tw_okE 195 :=
  fun i e h => by
    have hl : i < 154 := (List.getElem?_eq_some_iff.mp h).1
    by_cases c0 : i < 60
    · exact tw_okR tw_k195_0 i e (by omega) (by omega) h
    by_cases c60 : i < 120
    · exact tw_okR tw_k195_60 i e (by omega) (by omega) h
    exact tw_okR tw_k195_120 i e (by omega) (by omega) h
set_option maxRecDepth 100000 in
theorem tw_k196_0 : tw_chkR 196 0 60 = true := by decide +kernel
set_option maxRecDepth 100000 in
theorem tw_k196_60 : tw_chkR 196 60 14 = true := by decide +kernel
theorem tw_k196 : tw_okE 196 :=
  fun i e h => by
    have hl : i < 74 := (List.getElem?_eq_some_iff.mp h).1
    by_cases c0 : i < 60
    · exact tw_okR tw_k196_0 i e (by omega) (by omega) h
    exact tw_okR tw_k196_60 i e (by omega) (by omega) h
set_option maxRecDepth 100000 in
theorem tw_k197_0 : tw_chkR 197 0 60 = true := by decide +kernel
set_option maxRecDepth 100000 in
theorem tw_k197_60 : tw_chkR 197 60 55 = true := by decide +kernel
theorem tw_k197 : tw_okE 197 :=
  fun i e h => by
    have hl : i < 115 := (List.getElem?_eq_some_iff.mp h).1
    by_cases c0 : i < 60
    · exact tw_okR tw_k197_0 i e (by omega) (by omega) h
    exact tw_okR tw_k197_60 i e (by omega) (by omega) h
set_option maxRecDepth 100000 in
theorem tw_k198_0 : tw_chkR 198 0 35 = true := by decide +kernel
theorem tw_k198 : tw_okE 198 :=
  fun i e h => by
    have hl : i < 35 := (List.getElem?_eq_some_iff.mp h).1
    exact tw_okR tw_k198_0 i e (by omega) (by omega) h
set_option maxRecDepth 100000 in
theorem tw_k199_0 : tw_chkR 199 0 52 = true := by decide +kernel
theorem tw_k199 : tw_okE 199 :=
  fun i e h => by
    have hl : i < 52 := (List.getElem?_eq_some_iff.mp h).1
    exact tw_okR tw_k199_0 i e (by omega) (by omega) h
set_option maxRecDepth 100000 in
theorem tw_k200_0 : tw_chkR 200 0 21 = true := by decide +kernel
theorem tw_k200 : tw_okE 200 :=
  fun i e h => by
    have hl : i < 21 := (List.getElem?_eq_some_iff.mp h).1
    exact tw_okR tw_k200_0 i e (by omega) (by omega) h
set_option maxRecDepth 100000 in
theorem tw_k201_0 : tw_chkR 201 0 25 = true := by decide +kernel
theorem tw_k201 : tw_okE 201 :=
  fun i e h => by
    have hl : i < 25 := (List.getElem?_eq_some_iff.mp h).1
    exact tw_okR tw_k201_0 i e (by omega) (by omega) h
set_option maxRecDepth 100000 in
theorem tw_k202_0 : tw_chkR 202 0 36 = true := by decide +kernel
theorem tw_k202 : tw_okE 202 :=
  fun i e h => by
    have hl : i < 36 := (List.getElem?_eq_some_iff.mp h).1
    exact tw_okR tw_k202_0 i e (by omega) (by omega) h
set_option maxRecDepth 100000 in
theorem tw_k203_0 : tw_chkR 203 0 17 = true := by decide +kernel
theorem tw_k203 : tw_okE 203 :=
  fun i e h => by
    have hl : i < 17 := (List.getElem?_eq_some_iff.mp h).1
    exact tw_okR tw_k203_0 i e (by omega) (by omega) h
set_option maxRecDepth 100000 in
theorem tw_k204_0 : tw_chkR 204 0 17 = true := by decide +kernel
theorem tw_k204 : tw_okE 204 :=
  fun i e h => by
    have hl : i < 17 := (List.getElem?_eq_some_iff.mp h).1
    exact tw_okR tw_k204_0 i e (by omega) (by omega) h
set_option maxRecDepth 100000 in
theorem tw_k205_0 : tw_chkR 205 0 28 = true := by decide +kernel
theorem tw_k205 : tw_okE 205 :=
  fun i e h => by
    have hl : i < 28 := (List.getElem?_eq_some_iff.mp h).1
    exact tw_okR tw_k205_0 i e (by omega) (by omega) h
set_option maxRecDepth 100000 in
theorem tw_k206_0 : tw_chkR 206 0 60 = true := by decide +kernel
set_option maxRecDepth 100000 in
theorem tw_k206_60 : tw_chkR 206 60 60 = true := by decide +kernel
set_option maxRecDepth 100000 in
theorem tw_k206_120 : tw_chkR 206 120 17 = true := by decide +kernel
theorem tw_k206 : tw_okE 206 :=
  fun i e h => by
    have hl : i < 137 := (List.getElem?_eq_some_iff.mp h).1
    by_cases c0 : i < 60
    · exact tw_okR tw_k206_0 i e (by omega) (by omega) h
    by_cases c60 : i < 120
    · exact tw_okR tw_k206_60 i e (by omega) (by omega) h
    exact tw_okR tw_k206_120 i e (by omega) (by omega) h
set_option maxRecDepth 100000 in
theorem tw_k207_0 : tw_chkR 207 0 20 = true := by decide +kernel
theorem tw_k207 : tw_okE 207 :=
  fun i e h => by
    have hl : i < 20 := (List.getElem?_eq_some_iff.mp h).1
    exact tw_okR tw_k207_0 i e (by omega) (by omega) h
set_option maxRecDepth 100000 in
theorem tw_k208_0 : tw_chkR 208 0 27 = true := by decide +kernel
theorem tw_k208 : tw_okE 208 :=
  fun i e h => by
    have hl : i < 27 := (List.getElem?_eq_some_iff.mp h).1
    exact tw_okR tw_k208_0 i e (by omega) (by omega) h
set_option maxRecDepth 100000 in
theorem tw_k209_0 : tw_chkR 209 0 20 = true := by decide +kernel
theorem tw_k209 : tw_okE 209 :=
  fun i e h => by
    have hl : i < 20 := (List.getElem?_eq_some_iff.mp h).1
    exact tw_okR tw_k209_0 i e (by omega) (by omega) h
set_option maxRecDepth 100000 in
theorem tw_k210_0 : tw_chkR 210 0 31 = true := by decide +kernel
theorem tw_k210 : tw_okE 210 :=
  fun i e h => by
    have hl : i < 31 := (List.getElem?_eq_some_iff.mp h).1
    exact tw_okR tw_k210_0 i e (by omega) (by omega) h
set_option maxRecDepth 100000 in
theorem tw_k211_0 : tw_chkR 211 0 20 = true := by decide +kernel
theorem tw_k211 : tw_okE 211 :=
  fun i e h => by
    have hl : i < 20 := (List.getElem?_eq_some_iff.mp h).1
    exact tw_okR tw_k211_0 i e (by omega) (by omega) h
set_option maxRecDepth 100000 in
theorem tw_k212_0 : tw_chkR 212 0 34 = true := by decide +kernel
theorem tw_k212 : tw_okE 212 :=
  fun i e h => by
    have hl : i < 34 := (List.getElem?_eq_some_iff.mp h).1
    exact tw_okR tw_k212_0 i e (by omega) (by omega) h
set_option maxRecDepth 100000 in
theorem tw_k213_0 : tw_chkR 213 0 60 = true := by decide +kernel
set_option maxRecDepth 100000 in
theorem tw_k213_60 : tw_chkR 213 60 15 = true := by decide +kernel
theorem tw_k213 : tw_okE 213 :=
  fun i e h => by
    have hl : i < 75 := (List.getElem?_eq_some_iff.mp h).1
    by_cases c0 : i < 60
    · exact tw_okR tw_k213_0 i e (by omega) (by omega) h
    exact tw_okR tw_k213_60 i e (by omega) (by omega) h
set_option maxRecDepth 100000 in
theorem tw_k214_0 : tw_chkR 214 0 18 = true := by decide +kernel
theorem tw_k214 : tw_okE 214 :=
  fun i e h => by
    have hl : i < 18 := (List.getElem?_eq_some_iff.mp h).1
    exact tw_okR tw_k214_0 i e (by omega) (by omega) h
set_option maxRecDepth 100000 in
theorem tw_k215_0 : tw_chkR 215 0 7 = true := by decide +kernel
theorem tw_k215 : tw_okE 215 :=
  fun i e h => by
    have hl : i < 7 := (List.getElem?_eq_some_iff.mp h).1
    exact tw_okR tw_k215_0 i e (by omega) (by omega) h
set_option maxRecDepth 100000 in
theorem tw_k216_0 : tw_chkR 216 0 7 = true := by decide +kernel
theorem tw_k216 : tw_okE 216 :=
  fun i e h => by
    have hl : i < 7 := (List.getElem?_eq_some_iff.mp h).1
    exact tw_okR tw_k216_0 i e (by omega) (by omega) h
set_option maxRecDepth 100000 in
theorem tw_k217_0 : tw_chkR 217 0 7 = true := by decide +kernel
theorem tw_k217 : tw_okE 217 :=
  fun i e h => by
    have hl : i < 7 := (List.getElem?_eq_some_iff.mp h).1
    exact tw_okR tw_k217_0 i e (by omega) (by omega) h
set_option maxRecDepth 100000 in
theorem tw_k218_0 : tw_chkR 218 0 7 = true := by decide +kernel
theorem tw_k218 : tw_okE 218 :=
  fun i e h => by
    have hl : i < 7 := (List.getElem?_eq_some_iff.mp h).1
    exact tw_okR tw_k218_0 i e (by omega) (by omega) h
set_option maxRecDepth 100000 in
theorem tw_k219_0 : tw_chkR 219 0 27 = true := by decide +kernel
theorem tw_k219 : tw_okE 219 :=
  fun i e h => by
    have hl : i < 27 := (List.getElem?_eq_some_iff.mp h).1
    exact tw_okR tw_k219_0 i e (by omega) (by omega) h
set_option maxRecDepth 100000 in
theorem tw_k220_0 : tw_chkR 220 0 60 = true := by decide +kernel
set_option maxRecDepth 100000 in
theorem tw_k220_60 : tw_chkR 220 60 16 = true := by decide +kernel
theorem tw_k220 : tw_okE 220 :=
  fun i e h => by
    have hl : i < 76 := (List.getElem?_eq_some_iff.mp h).1
    by_cases c0 : i < 60
    · exact tw_okR tw_k220_0 i e (by omega) (by omega) h
    exact tw_okR tw_k220_60 i e (by omega) (by omega) h
set_option maxRecDepth 100000 in
theorem tw_k221_0 : tw_chkR 221 0 23 = true := by decide +kernel
theorem tw_k221 : tw_okE 221 :=
  fun i e h => by
    have hl : i < 23 := (List.getElem?_eq_some_iff.mp h).1
    exact tw_okR tw_k221_0 i e (by omega) (by omega) h
set_option maxRecDepth 100000 in
theorem tw_k222_0 : tw_chkR 222 0 19 = true := by decide +kernel
theorem tw_k222 : tw_okE 222 :=
  fun i e h => by
    have hl : i < 19 := (List.getElem?_eq_some_iff.mp h).1
    exact tw_okR tw_k222_0 i e (by omega) (by omega) h
set_option maxRecDepth 100000 in
theorem tw_k223_0 : tw_chkR 223 0 29 = true := by decide +kernel
theorem tw_k223 : tw_okE 223 :=
  fun i e h => by
    have hl : i < 29 := (List.getElem?_eq_some_iff.mp h).1
    exact tw_okR tw_k223_0 i e (by omega) (by omega) h
set_option maxRecDepth 100000 in
theorem tw_k224_0 : tw_chkR 224 0 31 = true := by decide +kernel
theorem tw_k224 : tw_okE 224 :=
  fun i e h => by
    have hl : i < 31 := (List.getElem?_eq_some_iff.mp h).1
    exact tw_okR tw_k224_0 i e (by omega) (by omega) h
set_option maxRecDepth 100000 in
theorem tw_k225_0 : tw_chkR 225 0 24 = true := by decide +kernel
theorem tw_k225 : tw_okE 225 :=
  fun i e h => by
    have hl : i < 24 := (List.getElem?_eq_some_iff.mp h).1
    exact tw_okR tw_k225_0 i e (by omega) (by omega) h
set_option maxRecDepth 100000 in
theorem tw_k226_0 : tw_chkR 226 0 23 = true := by decide +kernel
theorem tw_k226 : tw_okE 226 :=
  fun i e h => by
    have hl : i < 23 := (List.getElem?_eq_some_iff.mp h).1
    exact tw_okR tw_k226_0 i e (by omega) (by omega) h
set_option maxRecDepth 100000 in
theorem tw_k227_0 : tw_chkR 227 0 60 = true := by decide +kernel
set_option maxRecDepth 100000 in
theorem tw_k227_60 : tw_chkR 227 60 20 = true := by decide +kernel
theorem tw_k227 : tw_okE 227 :=
  fun i e h => by
    have hl : i < 80 := (List.getElem?_eq_some_iff.mp h).1
    by_cases c0 : i < 60
    · exact tw_okR tw_k227_0 i e (by omega) (by omega) h
    exact tw_okR tw_k227_60 i e (by omega) (by omega) h
set_option maxRecDepth 100000 in
theorem tw_k228_0 : tw_chkR 228 0 40 = true := by decide +kernel
theorem tw_k228 : tw_okE 228 :=
  fun i e h => by
    have hl : i < 40 := (List.getElem?_eq_some_iff.mp h).1
    exact tw_okR tw_k228_0 i e (by omega) (by omega) h
set_option maxRecDepth 100000 in
theorem tw_k229_0 : tw_chkR 229 0 29 = true := by decide +kernel
theorem tw_k229 : tw_okE 229 :=
  fun i e h => by
    have hl : i < 29 := (List.getElem?_eq_some_iff.mp h).1
    exact tw_okR tw_k229_0 i e (by omega) (by omega) h
set_option maxRecDepth 100000 in
theorem tw_k230_0 : tw_chkR 230 0 60 = true := by decide +kernel
set_option maxRecDepth 100000 in
theorem tw_k230_60 : tw_chkR 230 60 46 = true := by decide +kernel
theorem tw_k230 : tw_okE 230 :=
  fun i e h => by
    have hl : i < 106 := (List.getElem?_eq_some_iff.mp h).1
    by_cases c0 : i < 60
    · exact tw_okR tw_k230_0 i e (by omega) (by omega) h
    exact tw_okR tw_k230_60 i e (by omega) (by omega) h
set_option maxRecDepth 100000 in
theorem tw_k231_0 : tw_chkR 231 0 57 = true := by decide +kernel
theorem tw_k231 : tw_okE 231 :=
  fun i e h => by
    have hl : i < 57 := (List.getElem?_eq_some_iff.mp h).1
    exact tw_okR tw_k231_0 i e (by omega) (by omega) h
set_option maxRecDepth 100000 in
theorem tw_k232_0 : tw_chkR 232 0 39 = true := by decide +kernel
theorem tw_k232 : tw_okE 232 :=
  fun i e h => by
    have hl : i < 39 := (List.getElem?_eq_some_iff.mp h).1
    exact tw_okR tw_k232_0 i e (by omega) (by omega) h
set_option maxRecDepth 100000 in
theorem tw_k233_0 : tw_chkR 233 0 19 = true := by decide +kernel
theorem tw_k233 : tw_okE 233 :=
  fun i e h => by
    have hl : i < 19 := (List.getElem?_eq_some_iff.mp h).1
    exact tw_okR tw_k233_0 i e (by omega) (by omega) h
set_option maxRecDepth 100000 in
theorem tw_k234_0 : tw_chkR 234 0 47 = true := by decide +kernel
theorem tw_k234 : tw_okE 234 :=
  fun i e h => by
    have hl : i < 47 := (List.getElem?_eq_some_iff.mp h).1
    exact tw_okR tw_k234_0 i e (by omega) (by omega) h
set_option maxRecDepth 100000 in
theorem tw_k235_0 : tw_chkR 235 0 60 = true := by decide +kernel
set_option maxRecDepth 100000 in
theorem tw_k235_60 : tw_chkR 235 60 42 = true := by decide +kernel
theorem tw_k235 : tw_okE 235 :=
  fun i e h => by
    have hl : i < 102 := (List.getElem?_eq_some_iff.mp h).1
    by_cases c0 : i < 60
    · exact tw_okR tw_k235_0 i e (by omega) (by omega) h
    exact tw_okR tw_k235_60 i e (by omega) (by omega) h
set_option maxRecDepth 100000 in
theorem tw_k236_0 : tw_chkR 236 0 56 = true := by decide +kernel
theorem tw_k236 : tw_okE 236 :=
  fun i e h => by
    have hl : i < 56 := (List.getElem?_eq_some_iff.mp h).1
    exact tw_okR tw_k236_0 i e (by omega) (by omega) h
set_option maxRecDepth 100000 in
theorem tw_k237_0 : tw_chkR 237 0 32 = true := by decide +kernel
theorem tw_k237 : tw_okE 237 :=
  fun i e h => by
    have hl : i < 32 := (List.getElem?_eq_some_iff.mp h).1
    exact tw_okR tw_k237_0 i e (by omega) (by omega) h
set_option maxRecDepth 100000 in
theorem tw_k238_0 : tw_chkR 238 0 47 = true := by decide +kernel
theorem tw_k238 : tw_okE 238 :=
  fun i e h => by
    have hl : i < 47 := (List.getElem?_eq_some_iff.mp h).1
    exact tw_okR tw_k238_0 i e (by omega) (by omega) h
set_option maxRecDepth 100000 in
theorem tw_k239_0 : tw_chkR 239 0 59 = true := by decide +kernel
theorem tw_k239 : tw_okE 239 :=
  fun i e h => by
    have hl : i < 59 := (List.getElem?_eq_some_iff.mp h).1
    exact tw_okR tw_k239_0 i e (by omega) (by omega) h
set_option maxRecDepth 100000 in
theorem tw_k240_0 : tw_chkR 240 0 51 = true := by decide +kernel
theorem tw_k240 : tw_okE 240 :=
  fun i e h => by
    have hl : i < 51 := (List.getElem?_eq_some_iff.mp h).1
    exact tw_okR tw_k240_0 i e (by omega) (by omega) h
set_option maxRecDepth 100000 in
theorem tw_k241_0 : tw_chkR 241 0 34 = true := by decide +kernel
theorem tw_k241 : tw_okE 241 :=
  fun i e h => by
    have hl : i < 34 := (List.getElem?_eq_some_iff.mp h).1
    exact tw_okR tw_k241_0 i e (by omega) (by omega) h
set_option maxRecDepth 100000 in
theorem tw_k242_0 : tw_chkR 242 0 50 = true := by decide +kernel
theorem tw_k242 : tw_okE 242 :=
  fun i e h => by
    have hl : i < 50 := (List.getElem?_eq_some_iff.mp h).1
    exact tw_okR tw_k242_0 i e (by omega) (by omega) h
set_option maxRecDepth 100000 in
theorem tw_k243_0 : tw_chkR 243 0 51 = true := by decide +kernel
theorem tw_k243 : tw_okE 243 :=
  fun i e h => by
    have hl : i < 51 := (List.getElem?_eq_some_iff.mp h).1
    exact tw_okR tw_k243_0 i e (by omega) (by omega) h
set_option maxRecDepth 100000 in
theorem tw_k244_0 : tw_chkR 244 0 32 = true := by decide +kernel
theorem tw_k244 : tw_okE 244 :=
  fun i e h => by
    have hl : i < 32 := (List.getElem?_eq_some_iff.mp h).1
    exact tw_okR tw_k244_0 i e (by omega) (by omega) h
set_option maxRecDepth 100000 in
theorem tw_k245_0 : tw_chkR 245 0 15 = true := by decide +kernel
theorem tw_k245 : tw_okE 245 :=
  fun i e h => by
    have hl : i < 15 := (List.getElem?_eq_some_iff.mp h).1
    exact tw_okR tw_k245_0 i e (by omega) (by omega) h
set_option maxRecDepth 100000 in
theorem tw_k246_0 : tw_chkR 246 0 38 = true := by decide +kernel
theorem tw_k246 : tw_okE 246 :=
  fun i e h => by
    have hl : i < 38 := (List.getElem?_eq_some_iff.mp h).1
    exact tw_okR tw_k246_0 i e (by omega) (by omega) h
set_option maxRecDepth 100000 in
theorem tw_k247_0 : tw_chkR 247 0 60 = true := by decide +kernel
set_option maxRecDepth 100000 in
theorem tw_k247_60 : tw_chkR 247 60 15 = true := by decide +kernel
theorem tw_k247 : tw_okE 247 :=
  fun i e h => by
    have hl : i < 75 := (List.getElem?_eq_some_iff.mp h).1
    by_cases c0 : i < 60
    · exact tw_okR tw_k247_0 i e (by omega) (by omega) h
    exact tw_okR tw_k247_60 i e (by omega) (by omega) h
set_option maxRecDepth 100000 in
theorem tw_k248_0 : tw_chkR 248 0 15 = true := by decide +kernel
theorem tw_k248 : tw_okE 248 :=
  fun i e h => by
    have hl : i < 15 := (List.getElem?_eq_some_iff.mp h).1
    exact tw_okR tw_k248_0 i e (by omega) (by omega) h
set_option maxRecDepth 100000 in
theorem tw_k249_0 : tw_chkR 249 0 60 = true := by decide +kernel
set_option maxRecDepth 100000 in
theorem tw_k249_60 : tw_chkR 249 60 3 = true := by decide +kernel
theorem tw_k249 : tw_okE 249 :=
  fun i e h => by
    have hl : i < 63 := (List.getElem?_eq_some_iff.mp h).1
    by_cases c0 : i < 60
    · exact tw_okR tw_k249_0 i e (by omega) (by omega) h
    exact tw_okR tw_k249_60 i e (by omega) (by omega) h
set_option maxRecDepth 100000 in
theorem tw_k250_0 : tw_chkR 250 0 5 = true := by decide +kernel
theorem tw_k250 : tw_okE 250 :=
  fun i e h => by
    have hl : i < 5 := (List.getElem?_eq_some_iff.mp h).1
    exact tw_okR tw_k250_0 i e (by omega) (by omega) h
set_option maxRecDepth 100000 in
theorem tw_k251_0 : tw_chkR 251 0 42 = true := by decide +kernel
theorem tw_k251 : tw_okE 251 :=
  fun i e h => by
    have hl : i < 42 := (List.getElem?_eq_some_iff.mp h).1
    exact tw_okR tw_k251_0 i e (by omega) (by omega) h
set_option maxRecDepth 100000 in
theorem tw_k252_0 : tw_chkR 252 0 35 = true := by decide +kernel
theorem tw_k252 : tw_okE 252 :=
  fun i e h => by
    have hl : i < 35 := (List.getElem?_eq_some_iff.mp h).1
    exact tw_okR tw_k252_0 i e (by omega) (by omega) h
set_option maxRecDepth 100000 in
theorem tw_k253_0 : tw_chkR 253 0 29 = true := by decide +kernel
theorem tw_k253 : tw_okE 253 :=
  fun i e h => by
    have hl : i < 29 := (List.getElem?_eq_some_iff.mp h).1
    exact tw_okR tw_k253_0 i e (by omega) (by omega) h
set_option maxRecDepth 100000 in
theorem tw_k254_0 : tw_chkR 254 0 60 = true := by decide +kernel
set_option maxRecDepth 100000 in
theorem tw_k254_60 : tw_chkR 254 60 1 = true := by decide +kernel
theorem tw_k254 : tw_okE 254 :=
  fun i e h => by
    have hl : i < 61 := (List.getElem?_eq_some_iff.mp h).1
    by_cases c0 : i < 60
    · exact tw_okR tw_k254_0 i e (by omega) (by omega) h
    exact tw_okR tw_k254_60 i e (by omega) (by omega) h
set_option maxRecDepth 100000 in
theorem tw_k255_0 : tw_chkR 255 0 60 = true := by decide +kernel
set_option maxRecDepth 100000 in
theorem tw_k255_60 : tw_chkR 255 60 3 = true := by decide +kernel
theorem tw_k255 : tw_okE 255 :=
  fun i e h => by
    have hl : i < 63 := (List.getElem?_eq_some_iff.mp h).1
    by_cases c0 : i < 60
    · exact tw_okR tw_k255_0 i e (by omega) (by omega) h
    exact tw_okR tw_k255_60 i e (by omega) (by omega) h
set_option maxRecDepth 100000 in
theorem tw_k256_0 : tw_chkR 256 0 32 = true := by decide +kernel
theorem tw_k256 : tw_okE 256 :=
  fun i e h => by
    have hl : i < 32 := (List.getElem?_eq_some_iff.mp h).1
    exact tw_okR tw_k256_0 i e (by omega) (by omega) h
set_option maxRecDepth 100000 in
theorem tw_k257_0 : tw_chkR 257 0 57 = true := by decide +kernel
theorem tw_k257 : tw_okE 257 :=
  fun i e h => by
    have hl : i < 57 := (List.getElem?_eq_some_iff.mp h).1
    exact tw_okR tw_k257_0 i e (by omega) (by omega) h
set_option maxRecDepth 100000 in
theorem tw_k258_0 : tw_chkR 258 0 11 = true := by decide +kernel
theorem tw_k258 : tw_okE 258 :=
  fun i e h => by
    have hl : i < 11 := (List.getElem?_eq_some_iff.mp h).1
    exact tw_okR tw_k258_0 i e (by omega) (by omega) h
set_option maxRecDepth 100000 in
theorem tw_k259_0 : tw_chkR 259 0 13 = true := by decide +kernel
theorem tw_k259 : tw_okE 259 :=
  fun i e h => by
    have hl : i < 13 := (List.getElem?_eq_some_iff.mp h).1
    exact tw_okR tw_k259_0 i e (by omega) (by omega) h
set_option maxRecDepth 100000 in
theorem tw_k260_0 : tw_chkR 260 0 16 = true := by decide +kernel
theorem tw_k260 : tw_okE 260 :=
  fun i e h => by
    have hl : i < 16 := (List.getElem?_eq_some_iff.mp h).1
    exact tw_okR tw_k260_0 i e (by omega) (by omega) h
set_option maxRecDepth 100000 in
theorem tw_k261_0 : tw_chkR 261 0 7 = true := by decide +kernel
theorem tw_k261 : tw_okE 261 :=
  fun i e h => by
    have hl : i < 7 := (List.getElem?_eq_some_iff.mp h).1
    exact tw_okR tw_k261_0 i e (by omega) (by omega) h
set_option maxRecDepth 100000 in
theorem tw_k262_0 : tw_chkR 262 0 7 = true := by decide +kernel
theorem tw_k262 : tw_okE 262 :=
  fun i e h => by
    have hl : i < 7 := (List.getElem?_eq_some_iff.mp h).1
    exact tw_okR tw_k262_0 i e (by omega) (by omega) h
set_option maxRecDepth 100000 in
theorem tw_k263_0 : tw_chkR 263 0 7 = true := by decide +kernel
theorem tw_k263 : tw_okE 263 :=
  fun i e h => by
    have hl : i < 7 := (List.getElem?_eq_some_iff.mp h).1
    exact tw_okR tw_k263_0 i e (by omega) (by omega) h
end
section
/-! the table is what the code says (laid by program) -/
set_option maxRecDepth 100000 in
theorem tw_k264_0 : tw_chkR 264 0 30 = true := by decide +kernel
set_option maxRecDepth 100000 in
theorem tw_k264_30 : tw_chkR 264 30 30 = true := by decide +kernel
set_option maxRecDepth 100000 in
theorem tw_k264_60 : tw_chkR 264 60 30 = true := by decide +kernel
set_option maxRecDepth 100000 in
theorem tw_k264_90 : tw_chkR 264 90 30 = true := by decide +kernel
set_option maxRecDepth 100000 in
theorem tw_k264_120 : tw_chkR 264 120 30 = true := by decide +kernel
set_option maxRecDepth 100000 in
theorem tw_k264_150 : tw_chkR 264 150 30 = true := by decide +kernel
set_option maxRecDepth 100000 in
theorem tw_k264_180 : tw_chkR 264 180 30 = true := by decide +kernel
set_option maxRecDepth 100000 in
theorem tw_k264_210 : tw_chkR 264 210 30 = true := by decide +kernel
set_option maxRecDepth 100000 in
theorem tw_k264_240 : tw_chkR 264 240 30 = true := by decide +kernel
set_option maxRecDepth 100000 in
theorem tw_k264_270 : tw_chkR 264 270 30 = true := by decide +kernel
set_option maxRecDepth 100000 in
theorem tw_k264_300 : tw_chkR 264 300 30 = true := by decide +kernel
set_option maxRecDepth 100000 in
theorem tw_k264_330 : tw_chkR 264 330 30 = true := by decide +kernel
set_option maxRecDepth 100000 in
theorem tw_k264_360 : tw_chkR 264 360 30 = true := by decide +kernel
set_option maxRecDepth 100000 in
theorem tw_k264_390 : tw_chkR 264 390 30 = true := by decide +kernel
set_option maxRecDepth 100000 in
theorem tw_k264_420 : tw_chkR 264 420 30 = true := by decide +kernel
set_option maxRecDepth 100000 in
theorem tw_k264_450 : tw_chkR 264 450 30 = true := by decide +kernel
set_option maxRecDepth 100000 in
theorem tw_k264_480 : tw_chkR 264 480 30 = true := by decide +kernel
set_option maxRecDepth 100000 in
theorem tw_k264_510 : tw_chkR 264 510 30 = true := by decide +kernel
set_option maxRecDepth 100000 in
theorem tw_k264_540 : tw_chkR 264 540 30 = true := by decide +kernel
set_option maxRecDepth 100000 in
theorem tw_k264_570 : tw_chkR 264 570 30 = true := by decide +kernel
set_option maxRecDepth 100000 in
theorem tw_k264_600 : tw_chkR 264 600 30 = true := by decide +kernel
set_option maxRecDepth 100000 in
theorem tw_k264_630 : tw_chkR 264 630 30 = true := by decide +kernel
set_option maxRecDepth 100000 in
theorem tw_k264_660 : tw_chkR 264 660 30 = true := by decide +kernel
set_option maxRecDepth 100000 in
theorem tw_k264_690 : tw_chkR 264 690 30 = true := by decide +kernel
set_option maxRecDepth 100000 in
theorem tw_k264_720 : tw_chkR 264 720 30 = true := by decide +kernel
set_option maxRecDepth 100000 in
theorem tw_k264_750 : tw_chkR 264 750 30 = true := by decide +kernel
set_option maxRecDepth 100000 in
theorem tw_k264_780 : tw_chkR 264 780 30 = true := by decide +kernel
set_option maxRecDepth 100000 in
theorem tw_k264_810 : tw_chkR 264 810 30 = true := by decide +kernel
set_option maxRecDepth 100000 in
theorem tw_k264_840 : tw_chkR 264 840 30 = true := by decide +kernel
set_option maxRecDepth 100000 in
theorem tw_k264_870 : tw_chkR 264 870 7 = true := by decide +kernel
set_option maxRecDepth 100000 in
theorem tw_k264 : tw_okE 264 :=
  fun i e h => by
    have hl : i < 877 := (List.getElem?_eq_some_iff.mp h).1
    by_cases c0 : i < 30
    · exact tw_okR tw_k264_0 i e (by omega) (by omega) h
    by_cases c30 : i < 60
    · exact tw_okR tw_k264_30 i e (by omega) (by omega) h
    by_cases c60 : i < 90
    · exact tw_okR tw_k264_60 i e (by omega) (by omega) h
    by_cases c90 : i < 120
    · exact tw_okR tw_k264_90 i e (by omega) (by omega) h
    by_cases c120 : i < 150
    · exact tw_okR tw_k264_120 i e (by omega) (by omega) h
    by_cases c150 : i < 180
    · exact tw_okR tw_k264_150 i e (by omega) (by omega) h
    by_cases c180 : i < 210
    · exact tw_okR tw_k264_180 i e (by omega) (by omega) h
    by_cases c210 : i < 240
    · exact tw_okR tw_k264_210 i e (by omega) (by omega) h
    by_cases c240 : i < 270
    · exact tw_okR tw_k264_240 i e (by omega) (by omega) h
    by_cases c270 : i < 300
    · exact tw_okR tw_k264_270 i e (by omega) (by omega) h
    by_cases c300 : i < 330
    · exact tw_okR tw_k264_300 i e (by omega) (by omega) h
    by_cases c330 : i < 360
    · exact tw_okR tw_k264_330 i e (by omega) (by omega) h
    by_cases c360 : i < 390
    · exact tw_okR tw_k264_360 i e (by omega) (by omega) h
    by_cases c390 : i < 420
    · exact tw_okR tw_k264_390 i e (by omega) (by omega) h
    by_cases c420 : i < 450
    · exact tw_okR tw_k264_420 i e (by omega) (by omega) h
    by_cases c450 : i < 480
    · exact tw_okR tw_k264_450 i e (by omega) (by omega) h
    by_cases c480 : i < 510
    · exact tw_okR tw_k264_480 i e (by omega) (by omega) h
    by_cases c510 : i < 540
    · exact tw_okR tw_k264_510 i e (by omega) (by omega) h
    by_cases c540 : i < 570
    · exact tw_okR tw_k264_540 i e (by omega) (by omega) h
    by_cases c570 : i < 600
    · exact tw_okR tw_k264_570 i e (by omega) (by omega) h
    by_cases c600 : i < 630
    · exact tw_okR tw_k264_600 i e (by omega) (by omega) h
    by_cases c630 : i < 660
    · exact tw_okR tw_k264_630 i e (by omega) (by omega) h
    by_cases c660 : i < 690
    · exact tw_okR tw_k264_660 i e (by omega) (by omega) h
    by_cases c690 : i < 720
    · exact tw_okR tw_k264_690 i e (by omega) (by omega) h
    by_cases c720 : i < 750
    · exact tw_okR tw_k264_720 i e (by omega) (by omega) h
    by_cases c750 : i < 780
    · exact tw_okR tw_k264_750 i e (by omega) (by omega) h
    by_cases c780 : i < 810
    · exact tw_okR tw_k264_780 i e (by omega) (by omega) h
    by_cases c810 : i < 840
    · exact tw_okR tw_k264_810 i e (by omega) (by omega) h
    by_cases c840 : i < 870
    · exact tw_okR tw_k264_840 i e (by omega) (by omega) h
    exact tw_okR tw_k264_870 i e (by omega) (by omega) h
end
section
/-! all methods together (laid by program) -/
theorem tw_nums : List.range tw_NM = [0, 1, 2, 3, 4, 5, 6, 7, 8, 9, 10, 11, 12, 13, 14, 15, 16, 17, 18, 19, 20, 21, 22, 23, 24, 25, 26, 27, 28, 29, 30, 31, 32, 33, 34, 35, 36, 37, 38, 39, 40, 41, 42, 43, 44, 45, 46, 47, 48, 49, 50, 51, 52, 53, 54, 55, 56, 57, 58, 59, 60, 61, 62, 63, 64, 65, 66, 67, 68, 69, 70, 71, 72, 73, 74, 75, 76, 77, 78, 79, 80, 81, 82, 83, 84, 85, 86, 87, 88, 89, 90, 91, 92, 93, 94, 95, 96, 97, 98, 99, 100, 101, 102, 103, 104, 105, 106, 107, 108, 109, 110, 111, 112, 113, 114, 115, 116, 117, 118, 119, 120, 121, 122, 123, 124, 125, 126, 127, 128, 129, 130, 131, 132, 133, 134, 135, 136, 137, 138, 139, 140, 141, 142, 143, 144, 145, 146, 147, 148, 149, 150, 151, 152, 153, 154, 155, 156, 157, 158, 159, 160, 161, 162, 163, 164, 165, 166, 167, 168, 169, 170, 171, 172, 173, 174, 175, 176, 177, 178, 179, 180, 181, 182, 183, 184, 185, 186, 187, 188, 189, 190, 191, 192, 193, 194, 195, 196, 197, 198, 199, 200, 201, 202, 203, 204, 205, 206, 207, 208, 209, 210, 211, 212, 213, 214, 215, 216, 217, 218, 219, 220, 221, 222, 223, 224, 225, 226, 227, 228, 229, 230, 231, 232, 233, 234, 235, 236, 237, 238, 239, 240, 241, 242, 243, 244, 245, 246, 247, 248, 249, 250, 251, 252, 253, 254, 255, 256, 257, 258, 259, 260, 261, 262, 263, 264] := by decide +kernel
set_option maxRecDepth 100000 in
theorem tw_okE_all : ∀ m ∈ [0, 1, 2, 3, 4, 5, 6, 7, 8, 9, 10, 11, 12, 13, 14, 15, 16, 17, 18, 19, 20, 21, 22, 23, 24, 25, 26, 27, 28, 29, 30, 31, 32, 33, 34, 35, 36, 37, 38, 39, 40, 41, 42, 43, 44, 45, 46, 47, 48, 49, 50, 51, 52, 53, 54, 55, 56, 57, 58, 59, 60, 61, 62, 63, 64, 65, 66, 67, 68, 69, 70, 71, 72, 73, 74, 75, 76, 77, 78, 79, 80, 81, 82, 83, 84, 85, 86, 87, 88, 89, 90, 91, 92, 93, 94, 95, 96, 97, 98, 99, 100, 101, 102, 103, 104, 105, 106, 107, 108, 109, 110, 111, 112, 113, 114, 115, 116, 117, 118, 119, 120, 121, 122, 123, 124, 125, 126, 127, 128, 129, 130, 131, 132, 133, 134, 135, 136, 137, 138, 139, 140, 141, 142, 143, 144, 145, 146, 147, 148, 149, 150, 151, 152, 153, 154, 155, 156, 157, 158, 159, 160, 161, 162, 163, 164, 165, 166, 167, 168, 169, 170, 171, 172, 173, 174, 175, 176, 177, 178, 179, 180, 181, 182, 183, 184, 185, 186, 187, 188, 189, 190, 191, 192, 193, 194, 195, 196, 197, 198, 199, 200, 201, 202, 203, 204, 205, 206, 207, 208, 209, 210, 211, 212, 213, 214, 215, 216, 217, 218, 219, 220, 221, 222, 223, 224, 225, 226, 227, 228, 229, 230, 231, 232, 233, 234, 235, 236, 237, 238, 239, 240, 241, 242, 243, 244, 245, 246, 247, 248, 249, 250, 251, 252, 253, 254, 255, 256, 257, 258, 259, 260, 261, 262, 263, 264], tw_okE m := List.forall_mem_cons.mpr ⟨tw_k0, List.forall_mem_cons.mpr ⟨tw_k1, List.forall_mem_cons.mpr ⟨tw_k2, List.forall_mem_cons.mpr ⟨tw_k3, List.forall_mem_cons.mpr ⟨tw_k4, List.forall_mem_cons.mpr ⟨tw_k5, List.forall_mem_cons.mpr ⟨tw_k6, List.forall_mem_cons.mpr ⟨tw_k7, List.forall_mem_cons.mpr ⟨tw_k8, List.forall_mem_cons.mpr ⟨tw_k9, List.forall_mem_cons.mpr ⟨tw_k10, List.forall_mem_cons.mpr ⟨tw_k11, List.forall_mem_cons.mpr ⟨tw_k12, List.forall_mem_cons.mpr ⟨tw_k13, List.forall_mem_cons.mpr ⟨tw_k14, List.forall_mem_cons.mpr ⟨tw_k15, List.forall_mem_cons.mpr ⟨tw_k16, List.forall_mem_cons.mpr ⟨tw_k17, List.forall_mem_cons.mpr ⟨tw_k18, List.forall_mem_cons.mpr ⟨tw_k19, List.forall_mem_cons.mpr ⟨tw_k20, List.forall_mem_cons.mpr ⟨tw_k21, List.forall_mem_cons.mpr ⟨tw_k22, List.forall_mem_cons.mpr ⟨tw_k23, List.forall_mem_cons.mpr ⟨tw_k24, List.forall_mem_cons.mpr ⟨tw_k25, List.forall_mem_cons.mpr ⟨tw_k26, List.forall_mem_cons.mpr ⟨tw_k27, List.forall_mem_cons.mpr ⟨tw_k28, List.forall_mem_cons.mpr ⟨tw_k29, List.forall_mem_cons.mpr ⟨tw_k30, List.forall_mem_cons.mpr ⟨tw_k31, List.forall_mem_cons.mpr ⟨tw_k32, List.forall_mem_cons.mpr ⟨tw_k33, List.forall_mem_cons.mpr ⟨tw_k34, List.forall_mem_cons.mpr ⟨tw_k35, List.forall_mem_cons.mpr ⟨tw_k36, List.forall_mem_cons.mpr ⟨tw_k37, List.forall_mem_cons.mpr ⟨tw_k38, List.forall_mem_cons.mpr ⟨tw_k39, List.forall_mem_cons.mpr ⟨tw_k40, List.forall_mem_cons.mpr ⟨tw_k41, List.forall_mem_cons.mpr ⟨tw_k42, List.forall_mem_cons.mpr ⟨tw_k43, List.forall_mem_cons.mpr ⟨tw_k44, List.forall_mem_cons.mpr ⟨tw_k45, List.forall_mem_cons.mpr ⟨tw_k46, List.forall_mem_cons.mpr ⟨tw_k47, List.forall_mem_cons.mpr ⟨tw_k48, List.forall_mem_cons.mpr ⟨tw_k49, List.forall_mem_cons.mpr ⟨tw_k50, List.forall_mem_cons.mpr ⟨tw_k51, List.forall_mem_cons.mpr ⟨tw_k52, List.forall_mem_cons.mpr ⟨tw_k53, List.forall_mem_cons.mpr ⟨tw_k54, List.forall_mem_cons.mpr ⟨tw_k55, List.forall_mem_cons.mpr ⟨tw_k56, List.forall_mem_cons.mpr ⟨tw_k57, List.forall_mem_cons.mpr ⟨tw_k58, List.forall_mem_cons.mpr ⟨tw_k59, List.forall_mem_cons.mpr ⟨tw_k60, List.forall_mem_cons.mpr ⟨tw_k61, List.forall_mem_cons.mpr ⟨tw_k62, List.forall_mem_cons.mpr ⟨tw_k63, List.forall_mem_cons.mpr ⟨tw_k64, List.forall_mem_cons.mpr ⟨tw_k65, List.forall_mem_cons.mpr ⟨tw_k66, List.forall_mem_cons.mpr ⟨tw_k67, List.forall_mem_cons.mpr ⟨tw_k68, List.forall_mem_cons.mpr ⟨tw_k69, List.forall_mem_cons.mpr ⟨tw_k70, List.forall_mem_cons.mpr ⟨tw_k71, List.forall_mem_cons.mpr ⟨tw_k72, List.forall_mem_cons.mpr ⟨tw_k73, List.forall_mem_cons.mpr ⟨tw_k74, List.forall_mem_cons.mpr ⟨tw_k75, List.forall_mem_cons.mpr ⟨tw_k76, List.forall_mem_cons.mpr ⟨tw_k77, List.forall_mem_cons.mpr ⟨tw_k78, List.forall_mem_cons.mpr ⟨tw_k79, List.forall_mem_cons.mpr ⟨tw_k80, List.forall_mem_cons.mpr ⟨tw_k81, List.forall_mem_cons.mpr ⟨tw_k82, List.forall_mem_cons.mpr ⟨tw_k83, List.forall_mem_cons.mpr ⟨tw_k84, List.forall_mem_cons.mpr ⟨tw_k85, List.forall_mem_cons.mpr ⟨tw_k86, List.forall_mem_cons.mpr ⟨tw_k87, List.forall_mem_cons.mpr ⟨tw_k88, List.forall_mem_cons.mpr ⟨tw_k89, List.forall_mem_cons.mpr ⟨tw_k90, List.forall_mem_cons.mpr ⟨tw_k91, List.forall_mem_cons.mpr ⟨tw_k92, List.forall_mem_cons.mpr ⟨tw_k93, List.forall_mem_cons.mpr ⟨tw_k94, List.forall_mem_cons.mpr ⟨tw_k95, List.forall_mem_cons.mpr ⟨tw_k96, List.forall_mem_cons.mpr ⟨tw_k97, List.forall_mem_cons.mpr ⟨tw_k98, List.forall_mem_cons.mpr ⟨tw_k99, List.forall_mem_cons.mpr ⟨tw_k100, List.forall_mem_cons.mpr ⟨tw_k101, List.forall_mem_cons.mpr ⟨tw_k102, List.forall_mem_cons.mpr ⟨tw_k103, List.forall_mem_cons.mpr ⟨tw_k104, List.forall_mem_cons.mpr ⟨tw_k105, List.forall_mem_cons.mpr ⟨tw_k106, List.forall_mem_cons.mpr ⟨tw_k107, List.forall_mem_cons.mpr ⟨tw_k108, List.forall_mem_cons.mpr ⟨tw_k109, List.forall_mem_cons.mpr ⟨tw_k110, List.forall_mem_cons.mpr ⟨tw_k111, List.forall_mem_cons.mpr ⟨tw_k112, List.forall_mem_cons.mpr ⟨tw_k113, List.forall_mem_cons.mpr ⟨tw_k114, List.forall_mem_cons.mpr ⟨tw_k115, List.forall_mem_cons.mpr ⟨tw_k116, List.forall_mem_cons.mpr ⟨tw_k117, List.forall_mem_cons.mpr ⟨tw_k118, List.forall_mem_cons.mpr ⟨tw_k119, List.forall_mem_cons.mpr ⟨tw_k120, List.forall_mem_cons.mpr ⟨tw_k121, List.forall_mem_cons.mpr ⟨tw_k122, List.forall_mem_cons.mpr ⟨tw_k123, List.forall_mem_cons.mpr ⟨tw_k124, List.forall_mem_cons.mpr ⟨tw_k125, List.forall_mem_cons.mpr ⟨tw_k126, List.forall_mem_cons.mpr ⟨tw_k127, List.forall_mem_cons.mpr ⟨tw_k128, List.forall_mem_cons.mpr ⟨tw_k129, List.forall_mem_cons.mpr ⟨tw_k130, List.forall_mem_cons.mpr ⟨tw_k131, List.forall_mem_cons.mpr ⟨tw_k132, List.forall_mem_cons.mpr ⟨tw_k133, List.forall_mem_cons.mpr ⟨tw_k134, List.forall_mem_cons.mpr ⟨tw_k135, List.forall_mem_cons.mpr ⟨tw_k136, List.forall_mem_cons.mpr ⟨tw_k137, List.forall_mem_cons.mpr ⟨tw_k138, List.forall_mem_cons.mpr ⟨tw_k139, List.forall_mem_cons.mpr ⟨tw_k140, List.forall_mem_cons.mpr ⟨tw_k141, List.forall_mem_cons.mpr ⟨tw_k142, List.forall_mem_cons.mpr ⟨tw_k143, List.forall_mem_cons.mpr ⟨tw_k144, List.forall_mem_cons.mpr ⟨tw_k145, List.forall_mem_cons.mpr ⟨tw_k146, List.forall_mem_cons.mpr ⟨tw_k147, List.forall_mem_cons.mpr ⟨tw_k148, List.forall_mem_cons.mpr ⟨tw_k149, List.forall_mem_cons.mpr ⟨tw_k150, List.forall_mem_cons.mpr ⟨tw_k151, List.forall_mem_cons.mpr ⟨tw_k152, List.forall_mem_cons.mpr ⟨tw_k153, List.forall_mem_cons.mpr ⟨tw_k154, List.forall_mem_cons.mpr ⟨tw_k155, List.forall_mem_cons.mpr ⟨tw_k156, List.forall_mem_cons.mpr ⟨tw_k157, List.forall_mem_cons.mpr ⟨tw_k158, List.forall_mem_cons.mpr ⟨tw_k159, List.forall_mem_cons.mpr ⟨tw_k160, List.forall_mem_cons.mpr ⟨tw_k161, List.forall_mem_cons.mpr ⟨tw_k162, List.forall_mem_cons.mpr ⟨tw_k163, List.forall_mem_cons.mpr ⟨tw_k164, List.forall_mem_cons.mpr ⟨tw_k165, List.forall_mem_cons.mpr ⟨tw_k166, List.forall_mem_cons.mpr ⟨tw_k167, List.forall_mem_cons.mpr ⟨tw_k168, List.forall_mem_cons.mpr ⟨tw_k169, List.forall_mem_cons.mpr ⟨tw_k170, List.forall_mem_cons.mpr ⟨tw_k171, List.forall_mem_cons.mpr ⟨tw_k172, List.forall_mem_cons.mpr ⟨tw_k173, List.forall_mem_cons.mpr ⟨tw_k174, List.forall_mem_cons.mpr ⟨tw_k175, List.forall_mem_cons.mpr ⟨tw_k176, List.forall_mem_cons.mpr ⟨tw_k177, List.forall_mem_cons.mpr ⟨tw_k178, List.forall_mem_cons.mpr ⟨tw_k179, List.forall_mem_cons.mpr ⟨tw_k180, List.forall_mem_cons.mpr ⟨tw_k181, List.forall_mem_cons.mpr ⟨tw_k182, List.forall_mem_cons.mpr ⟨tw_k183, List.forall_mem_cons.mpr ⟨tw_k184, List.forall_mem_cons.mpr ⟨tw_k185, List.forall_mem_cons.mpr ⟨tw_k186, List.forall_mem_cons.mpr ⟨tw_k187, List.forall_mem_cons.mpr ⟨tw_k188, List.forall_mem_cons.mpr ⟨tw_k189, List.forall_mem_cons.mpr ⟨tw_k190, List.forall_mem_cons.mpr ⟨tw_k191, List.forall_mem_cons.mpr ⟨tw_k192, List.forall_mem_cons.mpr ⟨tw_k193, List.forall_mem_cons.mpr ⟨tw_k194, List.forall_mem_cons.mpr ⟨tw_k195, List.forall_mem_cons.mpr ⟨tw_k196, List.forall_mem_cons.mpr ⟨tw_k197, List.forall_mem_cons.mpr ⟨tw_k198, List.forall_mem_cons.mpr ⟨tw_k199, List.forall_mem_cons.mpr ⟨tw_k200, List.forall_mem_cons.mpr ⟨tw_k201, List.forall_mem_cons.mpr ⟨tw_k202, List.forall_mem_cons.mpr ⟨tw_k203, List.forall_mem_cons.mpr ⟨tw_k204, List.forall_mem_cons.mpr ⟨tw_k205, List.forall_mem_cons.mpr ⟨tw_k206, List.forall_mem_cons.mpr ⟨tw_k207, List.forall_mem_cons.mpr ⟨tw_k208, List.forall_mem_cons.mpr ⟨tw_k209, List.forall_mem_cons.mpr ⟨tw_k210, List.forall_mem_cons.mpr ⟨tw_k211, List.forall_mem_cons.mpr ⟨tw_k212, List.forall_mem_cons.mpr ⟨tw_k213, List.forall_mem_cons.mpr ⟨tw_k214, List.forall_mem_cons.mpr ⟨tw_k215, List.forall_mem_cons.mpr ⟨tw_k216, List.forall_mem_cons.mpr ⟨tw_k217, List.forall_mem_cons.mpr ⟨tw_k218, List.forall_mem_cons.mpr ⟨tw_k219, List.forall_mem_cons.mpr ⟨tw_k220, List.forall_mem_cons.mpr ⟨tw_k221, List.forall_mem_cons.mpr ⟨tw_k222, List.forall_mem_cons.mpr ⟨tw_k223, List.forall_mem_cons.mpr ⟨tw_k224, List.forall_mem_cons.mpr ⟨tw_k225, List.forall_mem_cons.mpr ⟨tw_k226, List.forall_mem_cons.mpr ⟨tw_k227, List.forall_mem_cons.mpr ⟨tw_k228, List.forall_mem_cons.mpr ⟨tw_k229, List.forall_mem_cons.mpr ⟨tw_k230, List.forall_mem_cons.mpr ⟨tw_k231, List.forall_mem_cons.mpr ⟨tw_k232, List.forall_mem_cons.mpr ⟨tw_k233, List.forall_mem_cons.mpr ⟨tw_k234, List.forall_mem_cons.mpr ⟨tw_k235, List.forall_mem_cons.mpr ⟨tw_k236, List.forall_mem_cons.mpr ⟨tw_k237, List.forall_mem_cons.mpr ⟨tw_k238, List.forall_mem_cons.mpr ⟨tw_k239, List.forall_mem_cons.mpr ⟨tw_k240, List.forall_mem_cons.mpr ⟨tw_k241, List.forall_mem_cons.mpr ⟨tw_k242, List.forall_mem_cons.mpr ⟨tw_k243, List.forall_mem_cons.mpr ⟨tw_k244, List.forall_mem_cons.mpr ⟨tw_k245, List.forall_mem_cons.mpr ⟨tw_k246, List.forall_mem_cons.mpr ⟨tw_k247, List.forall_mem_cons.mpr ⟨tw_k248, List.forall_mem_cons.mpr ⟨tw_k249, List.forall_mem_cons.mpr ⟨tw_k250, List.forall_mem_cons.mpr ⟨tw_k251, List.forall_mem_cons.mpr ⟨tw_k252, List.forall_mem_cons.mpr ⟨tw_k253, List.forall_mem_cons.mpr ⟨tw_k254, List.forall_mem_cons.mpr ⟨tw_k255, List.forall_mem_cons.mpr ⟨tw_k256, List.forall_mem_cons.mpr ⟨tw_k257, List.forall_mem_cons.mpr ⟨tw_k258, List.forall_mem_cons.mpr ⟨tw_k259, List.forall_mem_cons.mpr ⟨tw_k260, List.forall_mem_cons.mpr ⟨tw_k261, List.forall_mem_cons.mpr ⟨tw_k262, List.forall_mem_cons.mpr ⟨tw_k263, List.forall_mem_cons.mpr ⟨tw_k264, fun _ h => absurd h List.not_mem_nil⟩⟩⟩⟩⟩⟩⟩⟩⟩⟩⟩⟩⟩⟩⟩⟩⟩⟩⟩⟩⟩⟩⟩⟩⟩⟩⟩⟩⟩⟩⟩⟩⟩⟩⟩⟩⟩⟩⟩⟩⟩⟩⟩⟩⟩⟩⟩⟩⟩⟩⟩⟩⟩⟩⟩⟩⟩⟩⟩⟩⟩⟩⟩⟩⟩⟩⟩⟩⟩⟩⟩⟩⟩⟩⟩⟩⟩⟩⟩⟩⟩⟩⟩⟩⟩⟩⟩⟩⟩⟩⟩⟩⟩⟩⟩⟩⟩⟩⟩⟩⟩⟩⟩⟩⟩⟩⟩⟩⟩⟩⟩⟩⟩⟩⟩⟩⟩⟩⟩⟩⟩⟩⟩⟩⟩⟩⟩⟩⟩⟩⟩⟩⟩⟩⟩⟩⟩⟩⟩⟩⟩⟩⟩⟩⟩⟩⟩⟩⟩⟩⟩⟩⟩⟩⟩⟩⟩⟩⟩⟩⟩⟩⟩⟩⟩⟩⟩⟩⟩⟩⟩⟩⟩⟩⟩⟩⟩⟩⟩⟩⟩⟩⟩⟩⟩⟩⟩⟩⟩⟩⟩⟩⟩⟩⟩⟩⟩⟩⟩⟩⟩⟩⟩⟩⟩⟩⟩⟩⟩⟩⟩⟩⟩⟩⟩⟩⟩⟩⟩⟩⟩⟩⟩⟩⟩⟩⟩⟩⟩⟩⟩⟩⟩⟩⟩⟩⟩⟩⟩⟩⟩⟩⟩⟩⟩⟩⟩⟩⟩⟩⟩⟩⟩⟩⟩⟩⟩⟩⟩⟩⟩⟩⟩⟩⟩
theorem tw_okE_at {m : Nat} (h : m < tw_NM) : tw_okE m := tw_okE_all m (tw_nums ▸ List.mem_range.mpr h)
set_option maxRecDepth 100000 in
theorem tw_c0 : tw_okC 0 := Or.inr rfl
set_option maxRecDepth 100000 in
theorem tw_m0 : tw_okM 0 := Or.inr (by decide +kernel)
set_option maxRecDepth 100000 in
theorem tw_c1 : tw_okC 1 := Or.inr rfl
set_option maxRecDepth 100000 in
theorem tw_m1 : tw_okM 1 := Or.inr (by decide +kernel)
set_option maxRecDepth 100000 in
theorem tw_c2 : tw_okC 2 := Or.inr rfl
set_option maxRecDepth 100000 in
theorem tw_m2 : tw_okM 2 := Or.inr (by decide +kernel)
set_option maxRecDepth 100000 in
theorem tw_c3 : tw_okC 3 := Or.inr rfl
set_option maxRecDepth 100000 in
theorem tw_m3 : tw_okM 3 := Or.inr (by decide +kernel)
set_option maxRecDepth 100000 in
theorem tw_c4 : tw_okC 4 := Or.inr rfl
set_option maxRecDepth 100000 in
theorem tw_m4 : tw_okM 4 := Or.inr (by decide +kernel)
set_option maxRecDepth 100000 in
theorem tw_c5 : tw_okC 5 := Or.inr rfl
set_option maxRecDepth 100000 in
theorem tw_m5 : tw_okM 5 := Or.inr (by decide +kernel)
set_option maxRecDepth 100000 in
theorem tw_c6 : tw_okC 6 := Or.inr rfl
set_option maxRecDepth 100000 in
theorem tw_m6 : tw_okM 6 := Or.inr (by decide +kernel)
set_option maxRecDepth 100000 in
theorem tw_c7 : tw_okC 7 := Or.inr rfl
set_option maxRecDepth 100000 in
theorem tw_m7 : tw_okM 7 := Or.inr (by decide +kernel)
set_option maxRecDepth 100000 in
theorem tw_c8 : tw_okC 8 := Or.inr rfl
set_option maxRecDepth 100000 in
theorem tw_m8 : tw_okM 8 := Or.inr (by decide +kernel)
set_option maxRecDepth 100000 in
theorem tw_c9 : tw_okC 9 := Or.inr rfl
set_option maxRecDepth 100000 in
theorem tw_m9 : tw_okM 9 := Or.inr (by decide +kernel)
set_option maxRecDepth 100000 in
theorem tw_c10 : tw_okC 10 := Or.inr rfl
set_option maxRecDepth 100000 in
theorem tw_m10 : tw_okM 10 := Or.inr (by decide +kernel)
set_option maxRecDepth 100000 in
theorem tw_c11 : tw_okC 11 := Or.inr rfl
set_option maxRecDepth 100000 in
theorem tw_m11 : tw_okM 11 := Or.inr (by decide +kernel)
set_option maxRecDepth 100000 in
theorem tw_c12 : tw_okC 12 := Or.inr rfl
set_option maxRecDepth 100000 in
theorem tw_m12 : tw_okM 12 := Or.inr (by decide +kernel)
set_option maxRecDepth 100000 in
theorem tw_c13 : tw_okC 13 := Or.inr rfl
set_option maxRecDepth 100000 in
theorem tw_m13 : tw_okM 13 := Or.inr (by decide +kernel)
set_option maxRecDepth 100000 in
theorem tw_c14 : tw_okC 14 := Or.inr rfl
set_option maxRecDepth 100000 in
theorem tw_m14 : tw_okM 14 := Or.inr (by decide +kernel)
set_option maxRecDepth 100000 in
theorem tw_c15 : tw_okC 15 := Or.inr rfl
set_option maxRecDepth 100000 in
theorem tw_m15 : tw_okM 15 := Or.inr (by decide +kernel)
set_option maxRecDepth 100000 in
theorem tw_c16 : tw_okC 16 := Or.inr rfl
set_option maxRecDepth 100000 in
theorem tw_m16 : tw_okM 16 := Or.inr (by decide +kernel)
set_option maxRecDepth 100000 in
theorem tw_c17 : tw_okC 17 := Or.inr rfl
set_option maxRecDepth 100000 in
theorem tw_m17 : tw_okM 17 := Or.inr (by decide +kernel)
set_option maxRecDepth 100000 in
theorem tw_c18 : tw_okC 18 := Or.inr rfl
set_option maxRecDepth 100000 in
theorem tw_m18 : tw_okM 18 := Or.inr (by decide +kernel)
set_option maxRecDepth 100000 in
theorem tw_c19 : tw_okC 19 := Or.inr rfl
set_option maxRecDepth 100000 in
theorem tw_m19 : tw_okM 19 := Or.inr (by decide +kernel)
set_option maxRecDepth 100000 in
theorem tw_c20 : tw_okC 20 := Or.inr rfl
set_option maxRecDepth 100000 in
theorem tw_m20 : tw_okM 20 := Or.inr (by decide +kernel)
set_option maxRecDepth 100000 in
theorem tw_c21 : tw_okC 21 := Or.inr rfl
set_option maxRecDepth 100000 in
theorem tw_m21 : tw_okM 21 := Or.inr (by decide +kernel)
set_option maxRecDepth 100000 in
theorem tw_c22 : tw_okC 22 := Or.inr rfl
set_option maxRecDepth 100000 in
theorem tw_m22 : tw_okM 22 := Or.inr (by decide +kernel)
set_option maxRecDepth 100000 in
theorem tw_c23 : tw_okC 23 := Or.inr rfl
set_option maxRecDepth 100000 in
theorem tw_m23 : tw_okM 23 := Or.inr (by decide +kernel)
set_option maxRecDepth 100000 in
theorem tw_c24 : tw_okC 24 := Or.inr rfl
set_option maxRecDepth 100000 in
theorem tw_m24 : tw_okM 24 := Or.inr (by decide +kernel)
set_option maxRecDepth 100000 in
theorem tw_c25 : tw_okC 25 := Or.inr rfl
set_option maxRecDepth 100000 in
theorem tw_m25 : tw_okM 25 := Or.inr (by decide +kernel)
set_option maxRecDepth 100000 in
theorem tw_c26 : tw_okC 26 := Or.inr rfl
set_option maxRecDepth 100000 in
theorem tw_m26 : tw_okM 26 := Or.inr (by decide +kernel)
set_option maxRecDepth 100000 in
theorem tw_c27 : tw_okC 27 := Or.inr rfl
set_option maxRecDepth 100000 in
theorem tw_m27 : tw_okM 27 := Or.inr (by decide +kernel)
set_option maxRecDepth 100000 in
theorem tw_c28 : tw_okC 28 := Or.inr rfl
set_option maxRecDepth 100000 in
theorem tw_m28 : tw_okM 28 := Or.inr (by decide +kernel)
set_option maxRecDepth 100000 in
theorem tw_c29 : tw_okC 29 := Or.inr rfl
set_option maxRecDepth 100000 in
theorem tw_m29 : tw_okM 29 := Or.inr (by decide +kernel)
set_option maxRecDepth 100000 in
theorem tw_c30 : tw_okC 30 := Or.inr rfl
set_option maxRecDepth 100000 in
theorem tw_m30 : tw_okM 30 := Or.inr (by decide +kernel)
set_option maxRecDepth 100000 in
theorem tw_c31 : tw_okC 31 := Or.inr rfl
set_option maxRecDepth 100000 in
theorem tw_m31 : tw_okM 31 := Or.inr (by decide +kernel)
set_option maxRecDepth 100000 in
theorem tw_c32 : tw_okC 32 := Or.inr rfl
set_option maxRecDepth 100000 in
theorem tw_m32 : tw_okM 32 := Or.inr (by decide +kernel)
set_option maxRecDepth 100000 in
theorem tw_c33 : tw_okC 33 := Or.inr rfl
set_option maxRecDepth 100000 in
theorem tw_m33 : tw_okM 33 := Or.inr (by decide +kernel)
set_option maxRecDepth 100000 in
theorem tw_c34 : tw_okC 34 := Or.inr rfl
set_option maxRecDepth 100000 in
theorem tw_m34 : tw_okM 34 := Or.inr (by decide +kernel)
set_option maxRecDepth 100000 in
theorem tw_c35 : tw_okC 35 := Or.inr rfl
set_option maxRecDepth 100000 in
theorem tw_m35 : tw_okM 35 := Or.inr (by decide +kernel)
set_option maxRecDepth 100000 in
theorem tw_c36 : tw_okC 36 := Or.inr rfl
set_option maxRecDepth 100000 in
theorem tw_m36 : tw_okM 36 := Or.inr (by decide +kernel)
set_option maxRecDepth 100000 in
theorem tw_c37 : tw_okC 37 := Or.inr rfl
set_option maxRecDepth 100000 in
theorem tw_m37 : tw_okM 37 := Or.inr (by decide +kernel)
set_option maxRecDepth 100000 in
theorem tw_c38 : tw_okC 38 := Or.inr rfl
set_option maxRecDepth 100000 in
theorem tw_m38 : tw_okM 38 := Or.inr (by decide +kernel)
set_option maxRecDepth 100000 in
theorem tw_c39 : tw_okC 39 := Or.inr rfl
set_option maxRecDepth 100000 in
theorem tw_m39 : tw_okM 39 := Or.inr (by decide +kernel)
set_option maxRecDepth 100000 in
theorem tw_c40 : tw_okC 40 := Or.inr rfl
set_option maxRecDepth 100000 in
theorem tw_m40 : tw_okM 40 := Or.inr (by decide +kernel)
set_option maxRecDepth 100000 in
theorem tw_c41 : tw_okC 41 := Or.inr rfl
set_option maxRecDepth 100000 in
theorem tw_m41 : tw_okM 41 := Or.inr (by decide +kernel)
set_option maxRecDepth 100000 in
theorem tw_c42 : tw_okC 42 := Or.inr rfl
set_option maxRecDepth 100000 in
theorem tw_m42 : tw_okM 42 := Or.inr (by decide +kernel)
set_option maxRecDepth 100000 in
theorem tw_c43 : tw_okC 43 := Or.inr rfl
set_option maxRecDepth 100000 in
theorem tw_m43 : tw_okM 43 := Or.inr (by decide +kernel)
set_option maxRecDepth 100000 in
theorem tw_c44 : tw_okC 44 := Or.inr rfl
set_option maxRecDepth 100000 in
theorem tw_m44 : tw_okM 44 := Or.inr (by decide +kernel)
set_option maxRecDepth 100000 in
theorem tw_c45 : tw_okC 45 := Or.inr rfl
set_option maxRecDepth 100000 in
theorem tw_m45 : tw_okM 45 := Or.inr (by decide +kernel)
set_option maxRecDepth 100000 in
theorem tw_c46 : tw_okC 46 := Or.inr rfl
set_option maxRecDepth 100000 in
theorem tw_m46 : tw_okM 46 := Or.inr (by decide +kernel)
set_option maxRecDepth 100000 in
theorem tw_c47 : tw_okC 47 := Or.inr rfl
set_option maxRecDepth 100000 in
theorem tw_m47 : tw_okM 47 := Or.inr (by decide +kernel)
set_option maxRecDepth 100000 in
theorem tw_c48 : tw_okC 48 := Or.inr rfl
set_option maxRecDepth 100000 in
theorem tw_m48 : tw_okM 48 := Or.inr (by decide +kernel)
set_option maxRecDepth 100000 in
theorem tw_c49 : tw_okC 49 := Or.inr rfl
set_option maxRecDepth 100000 in
theorem tw_m49 : tw_okM 49 := Or.inr (by decide +kernel)
set_option maxRecDepth 100000 in
theorem tw_c50 : tw_okC 50 := Or.inr rfl
set_option maxRecDepth 100000 in
theorem tw_m50 : tw_okM 50 := Or.inr (by decide +kernel)
set_option maxRecDepth 100000 in
theorem tw_c51 : tw_okC 51 := Or.inr rfl
set_option maxRecDepth 100000 in
theorem tw_m51 : tw_okM 51 := Or.inr (by decide +kernel)
set_option maxRecDepth 100000 in
theorem tw_c52 : tw_okC 52 := Or.inr rfl
set_option maxRecDepth 100000 in
theorem tw_m52 : tw_okM 52 := Or.inr (by decide +kernel)
set_option maxRecDepth 100000 in
theorem tw_c53 : tw_okC 53 := Or.inr rfl
set_option maxRecDepth 100000 in
theorem tw_m53 : tw_okM 53 := Or.inr (by decide +kernel)
set_option maxRecDepth 100000 in
theorem tw_c54 : tw_okC 54 := Or.inr rfl
set_option maxRecDepth 100000 in
theorem tw_m54 : tw_okM 54 := Or.inr (by decide +kernel)
set_option maxRecDepth 100000 in
theorem tw_c55 : tw_okC 55 := Or.inr rfl
set_option maxRecDepth 100000 in
theorem tw_m55 : tw_okM 55 := Or.inr (by decide +kernel)
set_option maxRecDepth 100000 in
theorem tw_c56 : tw_okC 56 := Or.inr rfl
set_option maxRecDepth 100000 in
theorem tw_m56 : tw_okM 56 := Or.inr (by decide +kernel)
set_option maxRecDepth 100000 in
theorem tw_c57 : tw_okC 57 := Or.inr rfl
set_option maxRecDepth 100000 in
theorem tw_m57 : tw_okM 57 := Or.inr (by decide +kernel)
set_option maxRecDepth 100000 in
theorem tw_c58 : tw_okC 58 := Or.inr rfl
set_option maxRecDepth 100000 in
theorem tw_m58 : tw_okM 58 := Or.inr (by decide +kernel)
set_option maxRecDepth 100000 in
theorem tw_c59 : tw_okC 59 := Or.inr rfl
set_option maxRecDepth 100000 in
theorem tw_m59 : tw_okM 59 := Or.inr (by decide +kernel)
set_option maxRecDepth 100000 in
theorem tw_c60 : tw_okC 60 := Or.inr rfl
set_option maxRecDepth 100000 in
theorem tw_m60 : tw_okM 60 := Or.inr (by decide +kernel)
set_option maxRecDepth 100000 in
theorem tw_c61 : tw_okC 61 := Or.inr rfl
set_option maxRecDepth 100000 in
theorem tw_m61 : tw_okM 61 := Or.inr (by decide +kernel)
set_option maxRecDepth 100000 in
theorem tw_c62 : tw_okC 62 := Or.inr rfl
set_option maxRecDepth 100000 in
theorem tw_m62 : tw_okM 62 := Or.inr (by decide +kernel)
set_option maxRecDepth 100000 in
theorem tw_c63 : tw_okC 63 := Or.inr rfl
set_option maxRecDepth 100000 in
theorem tw_m63 : tw_okM 63 := Or.inr (by decide +kernel)
set_option maxRecDepth 100000 in
theorem tw_c64 : tw_okC 64 := Or.inr rfl
set_option maxRecDepth 100000 in
theorem tw_m64 : tw_okM 64 := Or.inr (by decide +kernel)
set_option maxRecDepth 100000 in
theorem tw_c65 : tw_okC 65 := Or.inr rfl
set_option maxRecDepth 100000 in
theorem tw_m65 : tw_okM 65 := Or.inr (by decide +kernel)
set_option maxRecDepth 100000 in
theorem tw_c66 : tw_okC 66 := Or.inr rfl
set_option maxRecDepth 100000 in
theorem tw_m66 : tw_okM 66 := Or.inr (by decide +kernel)
set_option maxRecDepth 100000 in
theorem tw_c67 : tw_okC 67 := Or.inr rfl
set_option maxRecDepth 100000 in
theorem tw_m67 : tw_okM 67 := Or.inr (by decide +kernel)
set_option maxRecDepth 100000 in
theorem tw_c68 : tw_okC 68 := Or.inr rfl
set_option maxRecDepth 100000 in
theorem tw_m68 : tw_okM 68 := Or.inr (by decide +kernel)
set_option maxRecDepth 100000 in
theorem tw_c69 : tw_okC 69 := Or.inr rfl
set_option maxRecDepth 100000 in
theorem tw_m69 : tw_okM 69 := Or.inr (by decide +kernel)
set_option maxRecDepth 100000 in
theorem tw_c70 : tw_okC 70 := Or.inr rfl
set_option maxRecDepth 100000 in
theorem tw_m70 : tw_okM 70 := Or.inr (by decide +kernel)
set_option maxRecDepth 100000 in
theorem tw_c71 : tw_okC 71 := Or.inr rfl
set_option maxRecDepth 100000 in
theorem tw_m71 : tw_okM 71 := Or.inr (by decide +kernel)
set_option maxRecDepth 100000 in
theorem tw_c72 : tw_okC 72 := Or.inr rfl
set_option maxRecDepth 100000 in
theorem tw_m72 : tw_okM 72 := Or.inr (by decide +kernel)
set_option maxRecDepth 100000 in
theorem tw_c73 : tw_okC 73 := Or.inr rfl
set_option maxRecDepth 100000 in
theorem tw_m73 : tw_okM 73 := Or.inr (by decide +kernel)
set_option maxRecDepth 100000 in
theorem tw_c74 : tw_okC 74 := Or.inr rfl
set_option maxRecDepth 100000 in
theorem tw_m74 : tw_okM 74 := Or.inr (by decide +kernel)
set_option maxRecDepth 100000 in
theorem tw_c75 : tw_okC 75 := Or.inr rfl
set_option maxRecDepth 100000 in
theorem tw_m75 : tw_okM 75 := Or.inr (by decide +kernel)
set_option maxRecDepth 100000 in
theorem tw_c76 : tw_okC 76 := Or.inr rfl
set_option maxRecDepth 100000 in
theorem tw_m76 : tw_okM 76 := Or.inr (by decide +kernel)
set_option maxRecDepth 100000 in
theorem tw_c77 : tw_okC 77 := Or.inr rfl
set_option maxRecDepth 100000 in
theorem tw_m77 : tw_okM 77 := Or.inr (by decide +kernel)
set_option maxRecDepth 100000 in
theorem tw_c78 : tw_okC 78 := Or.inr rfl
set_option maxRecDepth 100000 in
theorem tw_m78 : tw_okM 78 := Or.inr (by decide +kernel)
set_option maxRecDepth 100000 in
theorem tw_c79 : tw_okC 79 := Or.inr rfl
set_option maxRecDepth 100000 in
theorem tw_m79 : tw_okM 79 := Or.inr (by decide +kernel)
set_option maxRecDepth 100000 in
theorem tw_c80 : tw_okC 80 := Or.inr rfl
set_option maxRecDepth 100000 in
theorem tw_m80 : tw_okM 80 := Or.inr (by decide +kernel)
set_option maxRecDepth 100000 in
theorem tw_c81 : tw_okC 81 := Or.inr rfl
set_option maxRecDepth 100000 in
theorem tw_m81 : tw_okM 81 := Or.inr (by decide +kernel)
set_option maxRecDepth 100000 in
theorem tw_c82 : tw_okC 82 := Or.inr rfl
set_option maxRecDepth 100000 in
theorem tw_m82 : tw_okM 82 := Or.inr (by decide +kernel)
set_option maxRecDepth 100000 in
theorem tw_c83 : tw_okC 83 := Or.inr rfl
set_option maxRecDepth 100000 in
theorem tw_m83 : tw_okM 83 := Or.inr (by decide +kernel)
set_option maxRecDepth 100000 in
theorem tw_c84 : tw_okC 84 := Or.inr rfl
set_option maxRecDepth 100000 in
theorem tw_m84 : tw_okM 84 := Or.inr (by decide +kernel)
set_option maxRecDepth 100000 in
theorem tw_c85 : tw_okC 85 := Or.inr rfl
set_option maxRecDepth 100000 in
theorem tw_m85 : tw_okM 85 := Or.inr (by decide +kernel)
set_option maxRecDepth 100000 in
theorem tw_c86 : tw_okC 86 := Or.inr rfl
set_option maxRecDepth 100000 in
theorem tw_m86 : tw_okM 86 := Or.inr (by decide +kernel)
set_option maxRecDepth 100000 in
theorem tw_c87 : tw_okC 87 := Or.inr rfl
set_option maxRecDepth 100000 in
theorem tw_m87 : tw_okM 87 := Or.inr (by decide +kernel)
set_option maxRecDepth 100000 in
theorem tw_c88 : tw_okC 88 := Or.inr rfl
set_option maxRecDepth 100000 in
theorem tw_m88 : tw_okM 88 := Or.inr (by decide +kernel)
set_option maxRecDepth 100000 in
theorem tw_c89 : tw_okC 89 := Or.inr rfl
set_option maxRecDepth 100000 in
theorem tw_m89 : tw_okM 89 := Or.inr (by decide +kernel)
set_option maxRecDepth 100000 in
theorem tw_c90 : tw_okC 90 := Or.inr rfl
set_option maxRecDepth 100000 in
theorem tw_m90 : tw_okM 90 := Or.inr (by decide +kernel)
set_option maxRecDepth 100000 in
theorem tw_c91 : tw_okC 91 := Or.inr rfl
set_option maxRecDepth 100000 in
theorem tw_m91 : tw_okM 91 := Or.inr (by decide +kernel)
set_option maxRecDepth 100000 in
theorem tw_c92 : tw_okC 92 := Or.inr rfl
set_option maxRecDepth 100000 in
theorem tw_m92 : tw_okM 92 := Or.inr (by decide +kernel)
set_option maxRecDepth 100000 in
theorem tw_c93 : tw_okC 93 := Or.inr rfl
set_option maxRecDepth 100000 in
theorem tw_m93 : tw_okM 93 := Or.inr (by decide +kernel)
set_option maxRecDepth 100000 in
theorem tw_c94 : tw_okC 94 := Or.inr rfl
set_option maxRecDepth 100000 in
theorem tw_m94 : tw_okM 94 := Or.inr (by decide +kernel)
set_option maxRecDepth 100000 in
theorem tw_c95 : tw_okC 95 := Or.inr rfl
set_option maxRecDepth 100000 in
theorem tw_m95 : tw_okM 95 := Or.inr (by decide +kernel)
set_option maxRecDepth 100000 in
theorem tw_c96 : tw_okC 96 := Or.inr rfl
set_option maxRecDepth 100000 in
theorem tw_m96 : tw_okM 96 := Or.inr (by decide +kernel)
set_option maxRecDepth 100000 in
theorem tw_c97 : tw_okC 97 := Or.inr rfl
set_option maxRecDepth 100000 in
theorem tw_m97 : tw_okM 97 := Or.inr (by decide +kernel)
set_option maxRecDepth 100000 in
theorem tw_c98 : tw_okC 98 := Or.inr rfl
set_option maxRecDepth 100000 in
theorem tw_m98 : tw_okM 98 := Or.inr (by decide +kernel)
set_option maxRecDepth 100000 in
theorem tw_c99 : tw_okC 99 := Or.inr rfl
set_option maxRecDepth 100000 in
theorem tw_m99 : tw_okM 99 := Or.inr (by decide +kernel)
set_option maxRecDepth 100000 in
theorem tw_c100 : tw_okC 100 := Or.inr rfl
set_option maxRecDepth 100000 in
theorem tw_m100 : tw_okM 100 := Or.inr (by decide +kernel)
set_option maxRecDepth 100000 in
theorem tw_c101 : tw_okC 101 := Or.inr rfl
set_option maxRecDepth 100000 in
theorem tw_m101 : tw_okM 101 := Or.inr (by decide +kernel)
set_option maxRecDepth 100000 in
theorem tw_c102 : tw_okC 102 := Or.inr rfl
set_option maxRecDepth 100000 in
theorem tw_m102 : tw_okM 102 := Or.inr (by decide +kernel)
set_option maxRecDepth 100000 in
theorem tw_c103 : tw_okC 103 := Or.inr rfl
set_option maxRecDepth 100000 in
theorem tw_m103 : tw_okM 103 := Or.inr (by decide +kernel)
set_option maxRecDepth 100000 in
theorem tw_c104 : tw_okC 104 := Or.inr rfl
set_option maxRecDepth 100000 in
theorem tw_m104 : tw_okM 104 := Or.inr (by decide +kernel)
set_option maxRecDepth 100000 in
theorem tw_c105 : tw_okC 105 := Or.inr rfl
set_option maxRecDepth 100000 in
theorem tw_m105 : tw_okM 105 := Or.inr (by decide +kernel)
set_option maxRecDepth 100000 in
theorem tw_c106 : tw_okC 106 := Or.inr rfl
set_option maxRecDepth 100000 in
theorem tw_m106 : tw_okM 106 := Or.inr (by decide +kernel)
set_option maxRecDepth 100000 in
theorem tw_c107 : tw_okC 107 := Or.inr rfl
set_option maxRecDepth 100000 in
theorem tw_m107 : tw_okM 107 := Or.inr (by decide +kernel)
set_option maxRecDepth 100000 in
theorem tw_c108 : tw_okC 108 := Or.inr rfl
set_option maxRecDepth 100000 in
theorem tw_m108 : tw_okM 108 := Or.inr (by decide +kernel)
set_option maxRecDepth 100000 in
theorem tw_c109 : tw_okC 109 := Or.inr rfl
set_option maxRecDepth 100000 in
theorem tw_m109 : tw_okM 109 := Or.inr (by decide +kernel)
set_option maxRecDepth 100000 in
theorem tw_c110 : tw_okC 110 := Or.inr rfl
set_option maxRecDepth 100000 in
theorem tw_m110 : tw_okM 110 := Or.inr (by decide +kernel)
set_option maxRecDepth 100000 in
theorem tw_c111 : tw_okC 111 := Or.inr rfl
set_option maxRecDepth 100000 in
theorem tw_m111 : tw_okM 111 := Or.inr (by decide +kernel)
set_option maxRecDepth 100000 in
theorem tw_c112 : tw_okC 112 := Or.inr rfl
set_option maxRecDepth 100000 in
theorem tw_m112 : tw_okM 112 := Or.inr (by decide +kernel)
set_option maxRecDepth 100000 in
theorem tw_c113 : tw_okC 113 := Or.inr rfl
set_option maxRecDepth 100000 in
theorem tw_m113 : tw_okM 113 := Or.inr (by decide +kernel)
set_option maxRecDepth 100000 in
theorem tw_c114 : tw_okC 114 := Or.inr rfl
set_option maxRecDepth 100000 in
theorem tw_m114 : tw_okM 114 := Or.inr (by decide +kernel)
set_option maxRecDepth 100000 in
theorem tw_c115 : tw_okC 115 := Or.inr rfl
set_option maxRecDepth 100000 in
theorem tw_m115 : tw_okM 115 := Or.inr (by decide +kernel)
set_option maxRecDepth 100000 in
theorem tw_c116 : tw_okC 116 := Or.inr rfl
set_option maxRecDepth 100000 in
theorem tw_m116 : tw_okM 116 := Or.inr (by decide +kernel)
set_option maxRecDepth 100000 in
theorem tw_c117 : tw_okC 117 := Or.inr rfl
set_option maxRecDepth 100000 in
theorem tw_m117 : tw_okM 117 := Or.inr (by decide +kernel)
set_option maxRecDepth 100000 in
theorem tw_c118 : tw_okC 118 := Or.inr rfl
set_option maxRecDepth 100000 in
theorem tw_m118 : tw_okM 118 := Or.inr (by decide +kernel)
set_option maxRecDepth 100000 in
theorem tw_c119 : tw_okC 119 := Or.inr rfl
set_option maxRecDepth 100000 in
theorem tw_m119 : tw_okM 119 := Or.inr (by decide +kernel)
set_option maxRecDepth 100000 in
theorem tw_c120 : tw_okC 120 := Or.inr rfl
set_option maxRecDepth 100000 in
theorem tw_m120 : tw_okM 120 := Or.inr (by decide +kernel)
set_option maxRecDepth 100000 in
theorem tw_c121 : tw_okC 121 := Or.inr rfl
set_option maxRecDepth 100000 in
theorem tw_m121 : tw_okM 121 := Or.inr (by decide +kernel)
set_option maxRecDepth 100000 in
theorem tw_c122 : tw_okC 122 := Or.inr rfl
set_option maxRecDepth 100000 in
theorem tw_m122 : tw_okM 122 := Or.inr (by decide +kernel)
set_option maxRecDepth 100000 in
theorem tw_c123 : tw_okC 123 := Or.inr rfl
set_option maxRecDepth 100000 in
theorem tw_m123 : tw_okM 123 := Or.inr (by decide +kernel)
set_option maxRecDepth 100000 in
theorem tw_c124 : tw_okC 124 := Or.inr rfl
set_option maxRecDepth 100000 in
theorem tw_m124 : tw_okM 124 := Or.inr (by decide +kernel)
set_option maxRecDepth 100000 in
theorem tw_c125 : tw_okC 125 := Or.inr rfl
set_option maxRecDepth 100000 in
theorem tw_m125 : tw_okM 125 := Or.inr (by decide +kernel)
set_option maxRecDepth 100000 in
theorem tw_c126 : tw_okC 126 := Or.inr rfl
set_option maxRecDepth 100000 in
theorem tw_m126 : tw_okM 126 := Or.inr (by decide +kernel)
set_option maxRecDepth 100000 in
theorem tw_c127 : tw_okC 127 := Or.inr rfl
set_option maxRecDepth 100000 in
theorem tw_m127 : tw_okM 127 := Or.inr (by decide +kernel)
set_option maxRecDepth 100000 in
theorem tw_c128 : tw_okC 128 := Or.inr rfl
set_option maxRecDepth 100000 in
theorem tw_m128 : tw_okM 128 := Or.inr (by decide +kernel)
set_option maxRecDepth 100000 in
theorem tw_c129 : tw_okC 129 := Or.inr rfl
set_option maxRecDepth 100000 in
theorem tw_m129 : tw_okM 129 := Or.inr (by decide +kernel)
set_option maxRecDepth 100000 in
theorem tw_c130 : tw_okC 130 := Or.inr rfl
set_option maxRecDepth 100000 in
theorem tw_m130 : tw_okM 130 := Or.inr (by decide +kernel)
set_option maxRecDepth 100000 in
theorem tw_c131 : tw_okC 131 := Or.inr rfl
set_option maxRecDepth 100000 in
theorem tw_m131 : tw_okM 131 := Or.inr (by decide +kernel)
set_option maxRecDepth 100000 in
theorem tw_c132 : tw_okC 132 := Or.inr rfl
set_option maxRecDepth 100000 in
theorem tw_m132 : tw_okM 132 := Or.inr (by decide +kernel)
set_option maxRecDepth 100000 in
theorem tw_c133 : tw_okC 133 := Or.inr rfl
set_option maxRecDepth 100000 in
theorem tw_m133 : tw_okM 133 := Or.inr (by decide +kernel)
set_option maxRecDepth 100000 in
theorem tw_c134 : tw_okC 134 := Or.inr rfl
set_option maxRecDepth 100000 in
theorem tw_m134 : tw_okM 134 := Or.inr (by decide +kernel)
set_option maxRecDepth 100000 in
theorem tw_c135 : tw_okC 135 := Or.inr rfl
set_option maxRecDepth 100000 in
theorem tw_m135 : tw_okM 135 := Or.inr (by decide +kernel)
set_option maxRecDepth 100000 in
theorem tw_c136 : tw_okC 136 := Or.inr rfl
set_option maxRecDepth 100000 in
theorem tw_m136 : tw_okM 136 := Or.inr (by decide +kernel)
set_option maxRecDepth 100000 in
theorem tw_c137 : tw_okC 137 := Or.inr rfl
set_option maxRecDepth 100000 in
theorem tw_m137 : tw_okM 137 := Or.inr (by decide +kernel)
set_option maxRecDepth 100000 in
theorem tw_c138 : tw_okC 138 := Or.inr rfl
set_option maxRecDepth 100000 in
theorem tw_m138 : tw_okM 138 := Or.inr (by decide +kernel)
set_option maxRecDepth 100000 in
theorem tw_c139 : tw_okC 139 := Or.inr rfl
set_option maxRecDepth 100000 in
theorem tw_m139 : tw_okM 139 := Or.inr (by decide +kernel)
set_option maxRecDepth 100000 in
theorem tw_c140 : tw_okC 140 := Or.inr rfl
set_option maxRecDepth 100000 in
theorem tw_m140 : tw_okM 140 := Or.inr (by decide +kernel)
set_option maxRecDepth 100000 in
theorem tw_c141 : tw_okC 141 := Or.inr rfl
set_option maxRecDepth 100000 in
theorem tw_m141 : tw_okM 141 := Or.inr (by decide +kernel)
set_option maxRecDepth 100000 in
theorem tw_c142 : tw_okC 142 := Or.inr rfl
set_option maxRecDepth 100000 in
theorem tw_m142 : tw_okM 142 := Or.inr (by decide +kernel)
set_option maxRecDepth 100000 in
theorem tw_c143 : tw_okC 143 := Or.inr rfl
set_option maxRecDepth 100000 in
theorem tw_m143 : tw_okM 143 := Or.inr (by decide +kernel)
set_option maxRecDepth 100000 in
theorem tw_c144 : tw_okC 144 := Or.inr rfl
set_option maxRecDepth 100000 in
theorem tw_m144 : tw_okM 144 := Or.inr (by decide +kernel)
set_option maxRecDepth 100000 in
theorem tw_c145 : tw_okC 145 := Or.inr rfl
set_option maxRecDepth 100000 in
theorem tw_m145 : tw_okM 145 := Or.inr (by decide +kernel)
set_option maxRecDepth 100000 in
theorem tw_c146 : tw_okC 146 := Or.inr rfl
set_option maxRecDepth 100000 in
theorem tw_m146 : tw_okM 146 := Or.inr (by decide +kernel)
set_option maxRecDepth 100000 in
theorem tw_c147 : tw_okC 147 := Or.inr rfl
set_option maxRecDepth 100000 in
theorem tw_m147 : tw_okM 147 := Or.inr (by decide +kernel)
set_option maxRecDepth 100000 in
theorem tw_c148 : tw_okC 148 := Or.inr rfl
set_option maxRecDepth 100000 in
theorem tw_m148 : tw_okM 148 := Or.inr (by decide +kernel)
set_option maxRecDepth 100000 in
theorem tw_c149 : tw_okC 149 := Or.inr rfl
set_option maxRecDepth 100000 in
theorem tw_m149 : tw_okM 149 := Or.inr (by decide +kernel)
set_option maxRecDepth 100000 in
theorem tw_c150 : tw_okC 150 := Or.inr rfl
set_option maxRecDepth 100000 in
theorem tw_m150 : tw_okM 150 := Or.inr (by decide +kernel)
set_option maxRecDepth 100000 in
theorem tw_c151 : tw_okC 151 := Or.inr rfl
set_option maxRecDepth 100000 in
theorem tw_m151 : tw_okM 151 := Or.inr (by decide +kernel)
set_option maxRecDepth 100000 in
theorem tw_c152 : tw_okC 152 := Or.inr rfl
set_option maxRecDepth 100000 in
theorem tw_m152 : tw_okM 152 := Or.inr (by decide +kernel)
set_option maxRecDepth 100000 in
theorem tw_c153 : tw_okC 153 := Or.inr rfl
set_option maxRecDepth 100000 in
theorem tw_m153 : tw_okM 153 := Or.inr (by decide +kernel)
set_option maxRecDepth 100000 in
theorem tw_c154 : tw_okC 154 := Or.inr rfl
set_option maxRecDepth 100000 in
theorem tw_m154 : tw_okM 154 := Or.inr (by decide +kernel)
set_option maxRecDepth 100000 in
theorem tw_c155 : tw_okC 155 := Or.inr rfl
set_option maxRecDepth 100000 in
theorem tw_m155 : tw_okM 155 := Or.inr (by decide +kernel)
set_option maxRecDepth 100000 in
theorem tw_c156 : tw_okC 156 := Or.inr rfl
set_option maxRecDepth 100000 in
theorem tw_m156 : tw_okM 156 := Or.inr (by decide +kernel)
set_option maxRecDepth 100000 in
theorem tw_c157 : tw_okC 157 := Or.inr rfl
set_option maxRecDepth 100000 in
theorem tw_m157 : tw_okM 157 := Or.inr (by decide +kernel)
set_option maxRecDepth 100000 in
theorem tw_c158 : tw_okC 158 := Or.inr rfl
set_option maxRecDepth 100000 in
theorem tw_m158 : tw_okM 158 := Or.inr (by decide +kernel)
set_option maxRecDepth 100000 in
theorem tw_c159 : tw_okC 159 := Or.inr rfl
set_option maxRecDepth 100000 in
theorem tw_m159 : tw_okM 159 := Or.inr (by decide +kernel)
set_option maxRecDepth 100000 in
theorem tw_c160 : tw_okC 160 := Or.inr rfl
set_option maxRecDepth 100000 in
theorem tw_m160 : tw_okM 160 := Or.inr (by decide +kernel)
set_option maxRecDepth 100000 in
theorem tw_c161 : tw_okC 161 := Or.inr rfl
set_option maxRecDepth 100000 in
theorem tw_m161 : tw_okM 161 := Or.inr (by decide +kernel)
set_option maxRecDepth 100000 in
theorem tw_c162 : tw_okC 162 := Or.inr rfl
set_option maxRecDepth 100000 in
theorem tw_m162 : tw_okM 162 := Or.inr (by decide +kernel)
set_option maxRecDepth 100000 in
theorem tw_c163 : tw_okC 163 := Or.inr rfl
set_option maxRecDepth 100000 in
theorem tw_m163 : tw_okM 163 := Or.inr (by decide +kernel)
set_option maxRecDepth 100000 in
theorem tw_c164 : tw_okC 164 := Or.inr rfl
set_option maxRecDepth 100000 in
theorem tw_m164 : tw_okM 164 := Or.inr (by decide +kernel)
set_option maxRecDepth 100000 in
theorem tw_c165 : tw_okC 165 := Or.inr rfl
set_option maxRecDepth 100000 in
theorem tw_m165 : tw_okM 165 := Or.inr (by decide +kernel)
set_option maxRecDepth 100000 in
theorem tw_c166 : tw_okC 166 := Or.inr rfl
set_option maxRecDepth 100000 in
theorem tw_m166 : tw_okM 166 := Or.inr (by decide +kernel)
set_option maxRecDepth 100000 in
theorem tw_c167 : tw_okC 167 := Or.inr rfl
set_option maxRecDepth 100000 in
theorem tw_m167 : tw_okM 167 := Or.inr (by decide +kernel)
set_option maxRecDepth 100000 in
theorem tw_c168 : tw_okC 168 := Or.inr rfl
set_option maxRecDepth 100000 in
theorem tw_m168 : tw_okM 168 := Or.inr (by decide +kernel)
set_option maxRecDepth 100000 in
theorem tw_c169 : tw_okC 169 := Or.inr rfl
set_option maxRecDepth 100000 in
theorem tw_m169 : tw_okM 169 := Or.inr (by decide +kernel)
set_option maxRecDepth 100000 in
theorem tw_c170 : tw_okC 170 := Or.inr rfl
set_option maxRecDepth 100000 in
theorem tw_m170 : tw_okM 170 := Or.inr (by decide +kernel)
set_option maxRecDepth 100000 in
theorem tw_c171 : tw_okC 171 := Or.inr rfl
set_option maxRecDepth 100000 in
theorem tw_m171 : tw_okM 171 := Or.inr (by decide +kernel)
set_option maxRecDepth 100000 in
theorem tw_c172 : tw_okC 172 := Or.inr rfl
set_option maxRecDepth 100000 in
theorem tw_m172 : tw_okM 172 := Or.inr (by decide +kernel)
set_option maxRecDepth 100000 in
theorem tw_c173 : tw_okC 173 := Or.inr rfl
set_option maxRecDepth 100000 in
theorem tw_m173 : tw_okM 173 := Or.inr (by decide +kernel)
set_option maxRecDepth 100000 in
theorem tw_c174 : tw_okC 174 := Or.inr rfl
set_option maxRecDepth 100000 in
theorem tw_m174 : tw_okM 174 := Or.inr (by decide +kernel)
set_option maxRecDepth 100000 in
theorem tw_c175 : tw_okC 175 := Or.inr rfl
set_option maxRecDepth 100000 in
theorem tw_m175 : tw_okM 175 := Or.inr (by decide +kernel)
set_option maxRecDepth 100000 in
theorem tw_c176 : tw_okC 176 := Or.inr rfl
set_option maxRecDepth 100000 in
theorem tw_m176 : tw_okM 176 := Or.inr (by decide +kernel)
set_option maxRecDepth 100000 in
theorem tw_c177 : tw_okC 177 := Or.inr rfl
set_option maxRecDepth 100000 in
theorem tw_m177 : tw_okM 177 := Or.inr (by decide +kernel)
set_option maxRecDepth 100000 in
theorem tw_c178 : tw_okC 178 := Or.inr rfl
set_option maxRecDepth 100000 in
theorem tw_m178 : tw_okM 178 := Or.inr (by decide +kernel)
set_option maxRecDepth 100000 in
theorem tw_c179 : tw_okC 179 := Or.inr rfl
set_option maxRecDepth 100000 in
theorem tw_m179 : tw_okM 179 := Or.inr (by decide +kernel)
set_option maxRecDepth 100000 in
theorem tw_c180 : tw_okC 180 := Or.inr rfl
set_option maxRecDepth 100000 in
theorem tw_m180 : tw_okM 180 := Or.inr (by decide +kernel)
set_option maxRecDepth 100000 in
theorem tw_c181 : tw_okC 181 := Or.inr rfl
set_option maxRecDepth 100000 in
theorem tw_m181 : tw_okM 181 := Or.inr (by decide +kernel)
set_option maxRecDepth 100000 in
theorem tw_c182 : tw_okC 182 := Or.inr rfl
set_option maxRecDepth 100000 in
theorem tw_m182 : tw_okM 182 := Or.inr (by decide +kernel)
set_option maxRecDepth 100000 in
theorem tw_c183 : tw_okC 183 := Or.inr rfl
set_option maxRecDepth 100000 in
theorem tw_m183 : tw_okM 183 := Or.inr (by decide +kernel)
set_option maxRecDepth 100000 in
theorem tw_c184 : tw_okC 184 := Or.inr rfl
set_option maxRecDepth 100000 in
theorem tw_m184 : tw_okM 184 := Or.inr (by decide +kernel)
set_option maxRecDepth 100000 in
theorem tw_c185 : tw_okC 185 := Or.inr rfl
set_option maxRecDepth 100000 in
theorem tw_m185 : tw_okM 185 := Or.inr (by decide +kernel)
set_option maxRecDepth 100000 in
theorem tw_c186 : tw_okC 186 := Or.inr rfl
set_option maxRecDepth 100000 in
theorem tw_m186 : tw_okM 186 := Or.inr (by decide +kernel)
set_option maxRecDepth 100000 in
theorem tw_c187 : tw_okC 187 := Or.inr rfl
set_option maxRecDepth 100000 in
theorem tw_m187 : tw_okM 187 := Or.inr (by decide +kernel)
set_option maxRecDepth 100000 in
theorem tw_c188 : tw_okC 188 := Or.inr rfl
set_option maxRecDepth 100000 in
theorem tw_m188 : tw_okM 188 := Or.inr (by decide +kernel)
set_option maxRecDepth 100000 in
theorem tw_c189 : tw_okC 189 := Or.inr rfl
set_option maxRecDepth 100000 in
theorem tw_m189 : tw_okM 189 := Or.inr (by decide +kernel)
set_option maxRecDepth 100000 in
theorem tw_c190 : tw_okC 190 := Or.inr rfl
set_option maxRecDepth 100000 in
theorem tw_m190 : tw_okM 190 := Or.inr (by decide +kernel)
set_option maxRecDepth 100000 in
theorem tw_c191 : tw_okC 191 := Or.inr rfl
set_option maxRecDepth 100000 in
theorem tw_m191 : tw_okM 191 := Or.inr (by decide +kernel)
set_option maxRecDepth 100000 in
theorem tw_c192 : tw_okC 192 := Or.inr rfl
set_option maxRecDepth 100000 in
theorem tw_m192 : tw_okM 192 := Or.inr (by decide +kernel)
set_option maxRecDepth 100000 in
theorem tw_c193 : tw_okC 193 := Or.inr rfl
set_option maxRecDepth 100000 in
theorem tw_m193 : tw_okM 193 := Or.inr (by decide +kernel)
set_option maxRecDepth 100000 in
theorem tw_c194 : tw_okC 194 := Or.inr rfl
set_option maxRecDepth 100000 in
theorem tw_m194 : tw_okM 194 := Or.inr (by decide +kernel)
set_option maxRecDepth 100000 in
theorem tw_c195 : tw_okC 195 := Or.inr rfl
set_option maxRecDepth 100000 in
theorem tw_m195 : tw_okM 195 := Or.inr (by decide +kernel)
set_option maxRecDepth 100000 in
theorem tw_c196 : tw_okC 196 := Or.inr rfl
set_option maxRecDepth 100000 in
theorem tw_m196 : tw_okM 196 := Or.inr (by decide +kernel)
set_option maxRecDepth 100000 in
theorem tw_c197 : tw_okC 197 := Or.inr rfl
set_option maxRecDepth 100000 in
theorem tw_m197 : tw_okM 197 := Or.inr (by decide +kernel)
set_option maxRecDepth 100000 in
theorem tw_c198 : tw_okC 198 := Or.inr rfl
set_option maxRecDepth 100000 in
theorem tw_m198 : tw_okM 198 := Or.inr (by decide +kernel)
set_option maxRecDepth 100000 in
theorem tw_c199 : tw_okC 199 := Or.inr rfl
set_option maxRecDepth 100000 in
theorem tw_m199 : tw_okM 199 := Or.inr (by decide +kernel)
set_option maxRecDepth 100000 in
theorem tw_c200 : tw_okC 200 := Or.inr rfl
set_option maxRecDepth 100000 in
theorem tw_m200 : tw_okM 200 := Or.inr (by decide +kernel)
set_option maxRecDepth 100000 in
theorem tw_c201 : tw_okC 201 := Or.inr rfl
set_option maxRecDepth 100000 in
theorem tw_m201 : tw_okM 201 := Or.inr (by decide +kernel)
set_option maxRecDepth 100000 in
theorem tw_c202 : tw_okC 202 := Or.inr rfl
set_option maxRecDepth 100000 in
theorem tw_m202 : tw_okM 202 := Or.inr (by decide +kernel)
set_option maxRecDepth 100000 in
theorem tw_c203 : tw_okC 203 := Or.inr rfl
set_option maxRecDepth 100000 in
theorem tw_m203 : tw_okM 203 := Or.inr (by decide +kernel)
set_option maxRecDepth 100000 in
theorem tw_c204 : tw_okC 204 := Or.inr rfl
set_option maxRecDepth 100000 in
theorem tw_m204 : tw_okM 204 := Or.inr (by decide +kernel)
set_option maxRecDepth 100000 in
theorem tw_c205 : tw_okC 205 := Or.inr rfl
set_option maxRecDepth 100000 in
theorem tw_m205 : tw_okM 205 := Or.inr (by decide +kernel)
set_option maxRecDepth 100000 in
theorem tw_c206 : tw_okC 206 := Or.inr rfl
set_option maxRecDepth 100000 in
theorem tw_m206 : tw_okM 206 := Or.inr (by decide +kernel)
set_option maxRecDepth 100000 in
theorem tw_c207 : tw_okC 207 := Or.inr rfl
set_option maxRecDepth 100000 in
theorem tw_m207 : tw_okM 207 := Or.inr (by decide +kernel)
set_option maxRecDepth 100000 in
theorem tw_c208 : tw_okC 208 := Or.inr rfl
set_option maxRecDepth 100000 in
theorem tw_m208 : tw_okM 208 := Or.inr (by decide +kernel)
set_option maxRecDepth 100000 in
theorem tw_c209 : tw_okC 209 := Or.inr rfl
set_option maxRecDepth 100000 in
theorem tw_m209 : tw_okM 209 := Or.inr (by decide +kernel)
set_option maxRecDepth 100000 in
theorem tw_c210 : tw_okC 210 := Or.inr rfl
set_option maxRecDepth 100000 in
theorem tw_m210 : tw_okM 210 := Or.inr (by decide +kernel)
set_option maxRecDepth 100000 in
theorem tw_c211 : tw_okC 211 := Or.inr rfl
set_option maxRecDepth 100000 in
theorem tw_m211 : tw_okM 211 := Or.inr (by decide +kernel)
set_option maxRecDepth 100000 in
theorem tw_c212 : tw_okC 212 := Or.inr rfl
set_option maxRecDepth 100000 in
theorem tw_m212 : tw_okM 212 := Or.inr (by decide +kernel)
set_option maxRecDepth 100000 in
theorem tw_c213 : tw_okC 213 := Or.inr rfl
set_option maxRecDepth 100000 in
theorem tw_m213 : tw_okM 213 := Or.inr (by decide +kernel)
set_option maxRecDepth 100000 in
theorem tw_c214 : tw_okC 214 := Or.inr rfl
set_option maxRecDepth 100000 in
theorem tw_m214 : tw_okM 214 := Or.inr (by decide +kernel)
set_option maxRecDepth 100000 in
theorem tw_c215 : tw_okC 215 := Or.inr rfl
set_option maxRecDepth 100000 in
theorem tw_m215 : tw_okM 215 := Or.inr (by decide +kernel)
set_option maxRecDepth 100000 in
theorem tw_c216 : tw_okC 216 := Or.inr rfl
set_option maxRecDepth 100000 in
theorem tw_m216 : tw_okM 216 := Or.inr (by decide +kernel)
set_option maxRecDepth 100000 in
theorem tw_c217 : tw_okC 217 := Or.inr rfl
set_option maxRecDepth 100000 in
theorem tw_m217 : tw_okM 217 := Or.inr (by decide +kernel)
set_option maxRecDepth 100000 in
theorem tw_c218 : tw_okC 218 := Or.inr rfl
set_option maxRecDepth 100000 in
theorem tw_m218 : tw_okM 218 := Or.inr (by decide +kernel)
set_option maxRecDepth 100000 in
theorem tw_c219 : tw_okC 219 := Or.inr rfl
set_option maxRecDepth 100000 in
theorem tw_m219 : tw_okM 219 := Or.inr (by decide +kernel)
set_option maxRecDepth 100000 in
theorem tw_c220 : tw_okC 220 := Or.inr rfl
set_option maxRecDepth 100000 in
theorem tw_m220 : tw_okM 220 := Or.inr (by decide +kernel)
set_option maxRecDepth 100000 in
theorem tw_c221 : tw_okC 221 := Or.inr rfl
set_option maxRecDepth 100000 in
theorem tw_m221 : tw_okM 221 := Or.inr (by decide +kernel)
set_option maxRecDepth 100000 in
theorem tw_c222 : tw_okC 222 := Or.inr rfl
set_option maxRecDepth 100000 in
theorem tw_m222 : tw_okM 222 := Or.inr (by decide +kernel)
set_option maxRecDepth 100000 in
theorem tw_c223 : tw_okC 223 := Or.inr rfl
set_option maxRecDepth 100000 in
theorem tw_m223 : tw_okM 223 := Or.inr (by decide +kernel)
set_option maxRecDepth 100000 in
theorem tw_c224 : tw_okC 224 := Or.inr rfl
set_option maxRecDepth 100000 in
theorem tw_m224 : tw_okM 224 := Or.inr (by decide +kernel)
set_option maxRecDepth 100000 in
theorem tw_c225 : tw_okC 225 := Or.inr rfl
set_option maxRecDepth 100000 in
theorem tw_m225 : tw_okM 225 := Or.inr (by decide +kernel)
set_option maxRecDepth 100000 in
theorem tw_c226 : tw_okC 226 := Or.inr rfl
set_option maxRecDepth 100000 in
theorem tw_m226 : tw_okM 226 := Or.inr (by decide +kernel)
set_option maxRecDepth 100000 in
theorem tw_c227 : tw_okC 227 := Or.inr rfl
set_option maxRecDepth 100000 in
theorem tw_m227 : tw_okM 227 := Or.inr (by decide +kernel)
set_option maxRecDepth 100000 in
theorem tw_c228 : tw_okC 228 := Or.inr rfl
set_option maxRecDepth 100000 in
theorem tw_m228 : tw_okM 228 := Or.inr (by decide +kernel)
set_option maxRecDepth 100000 in
theorem tw_c229 : tw_okC 229 := Or.inr rfl
set_option maxRecDepth 100000 in
theorem tw_m229 : tw_okM 229 := Or.inr (by decide +kernel)
set_option maxRecDepth 100000 in
theorem tw_c230 : tw_okC 230 := Or.inr rfl
set_option maxRecDepth 100000 in
theorem tw_m230 : tw_okM 230 := Or.inr (by decide +kernel)
set_option maxRecDepth 100000 in
theorem tw_c231 : tw_okC 231 := Or.inr rfl
set_option maxRecDepth 100000 in
theorem tw_m231 : tw_okM 231 := Or.inr (by decide +kernel)
set_option maxRecDepth 100000 in
theorem tw_c232 : tw_okC 232 := Or.inr rfl
set_option maxRecDepth 100000 in
theorem tw_m232 : tw_okM 232 := Or.inr (by decide +kernel)
set_option maxRecDepth 100000 in
theorem tw_c233 : tw_okC 233 := Or.inr rfl
set_option maxRecDepth 100000 in
theorem tw_m233 : tw_okM 233 := Or.inr (by decide +kernel)
set_option maxRecDepth 100000 in
theorem tw_c234 : tw_okC 234 := Or.inr rfl
set_option maxRecDepth 100000 in
theorem tw_m234 : tw_okM 234 := Or.inr (by decide +kernel)
set_option maxRecDepth 100000 in
theorem tw_c235 : tw_okC 235 := Or.inr rfl
set_option maxRecDepth 100000 in
theorem tw_m235 : tw_okM 235 := Or.inr (by decide +kernel)
set_option maxRecDepth 100000 in
theorem tw_c236 : tw_okC 236 := Or.inr rfl
set_option maxRecDepth 100000 in
theorem tw_m236 : tw_okM 236 := Or.inr (by decide +kernel)
set_option maxRecDepth 100000 in
theorem tw_c237 : tw_okC 237 := Or.inr rfl
set_option maxRecDepth 100000 in
theorem tw_m237 : tw_okM 237 := Or.inr (by decide +kernel)
set_option maxRecDepth 100000 in
theorem tw_c238 : tw_okC 238 := Or.inr rfl
set_option maxRecDepth 100000 in
theorem tw_m238 : tw_okM 238 := Or.inr (by decide +kernel)
set_option maxRecDepth 100000 in
theorem tw_c239 : tw_okC 239 := Or.inr rfl
set_option maxRecDepth 100000 in
theorem tw_m239 : tw_okM 239 := Or.inr (by decide +kernel)
set_option maxRecDepth 100000 in
theorem tw_c240 : tw_okC 240 := Or.inr rfl
set_option maxRecDepth 100000 in
theorem tw_m240 : tw_okM 240 := Or.inr (by decide +kernel)
set_option maxRecDepth 100000 in
theorem tw_c241 : tw_okC 241 := Or.inr rfl
set_option maxRecDepth 100000 in
theorem tw_m241 : tw_okM 241 := Or.inr (by decide +kernel)
set_option maxRecDepth 100000 in
theorem tw_c242 : tw_okC 242 := Or.inr rfl
set_option maxRecDepth 100000 in
theorem tw_m242 : tw_okM 242 := Or.inr (by decide +kernel)
set_option maxRecDepth 100000 in
theorem tw_c243 : tw_okC 243 := Or.inr rfl
set_option maxRecDepth 100000 in
theorem tw_m243 : tw_okM 243 := Or.inr (by decide +kernel)
set_option maxRecDepth 100000 in
theorem tw_c244 : tw_okC 244 := Or.inr rfl
set_option maxRecDepth 100000 in
theorem tw_m244 : tw_okM 244 := Or.inr (by decide +kernel)
set_option maxRecDepth 100000 in
theorem tw_c245 : tw_okC 245 := Or.inr rfl
set_option maxRecDepth 100000 in
theorem tw_m245 : tw_okM 245 := Or.inr (by decide +kernel)
set_option maxRecDepth 100000 in
theorem tw_c246 : tw_okC 246 := Or.inr rfl
set_option maxRecDepth 100000 in
theorem tw_m246 : tw_okM 246 := Or.inr (by decide +kernel)
set_option maxRecDepth 100000 in
theorem tw_c247 : tw_okC 247 := Or.inr rfl
set_option maxRecDepth 100000 in
theorem tw_m247 : tw_okM 247 := Or.inr (by decide +kernel)
set_option maxRecDepth 100000 in
theorem tw_c248 : tw_okC 248 := Or.inr rfl
set_option maxRecDepth 100000 in
theorem tw_m248 : tw_okM 248 := Or.inr (by decide +kernel)
set_option maxRecDepth 100000 in
theorem tw_c249 : tw_okC 249 := Or.inr rfl
set_option maxRecDepth 100000 in
theorem tw_m249 : tw_okM 249 := Or.inr (by decide +kernel)
set_option maxRecDepth 100000 in
theorem tw_c250 : tw_okC 250 := Or.inr rfl
set_option maxRecDepth 100000 in
theorem tw_m250 : tw_okM 250 := Or.inr (by decide +kernel)
set_option maxRecDepth 100000 in
theorem tw_c251 : tw_okC 251 := Or.inr rfl
set_option maxRecDepth 100000 in
theorem tw_m251 : tw_okM 251 := Or.inr (by decide +kernel)
set_option maxRecDepth 100000 in
theorem tw_c252 : tw_okC 252 := Or.inr rfl
set_option maxRecDepth 100000 in
theorem tw_m252 : tw_okM 252 := Or.inr (by decide +kernel)
set_option maxRecDepth 100000 in
theorem tw_c253 : tw_okC 253 := Or.inr rfl
set_option maxRecDepth 100000 in
theorem tw_m253 : tw_okM 253 := Or.inr (by decide +kernel)
set_option maxRecDepth 100000 in
theorem tw_c254 : tw_okC 254 := Or.inr rfl
set_option maxRecDepth 100000 in
theorem tw_m254 : tw_okM 254 := Or.inr (by decide +kernel)
set_option maxRecDepth 100000 in
theorem tw_c255 : tw_okC 255 := Or.inr rfl
set_option maxRecDepth 100000 in
theorem tw_m255 : tw_okM 255 := Or.inr (by decide +kernel)
set_option maxRecDepth 100000 in
theorem tw_c256 : tw_okC 256 := Or.inr rfl
set_option maxRecDepth 100000 in
theorem tw_m256 : tw_okM 256 := Or.inr (by decide +kernel)
set_option maxRecDepth 100000 in
theorem tw_c257 : tw_okC 257 := Or.inr rfl
set_option maxRecDepth 100000 in
theorem tw_m257 : tw_okM 257 := Or.inr (by decide +kernel)
set_option maxRecDepth 100000 in
theorem tw_c258 : tw_okC 258 := Or.inr rfl
set_option maxRecDepth 100000 in
theorem tw_m258 : tw_okM 258 := Or.inr (by decide +kernel)
set_option maxRecDepth 100000 in
theorem tw_c259 : tw_okC 259 := Or.inr rfl
set_option maxRecDepth 100000 in
theorem tw_m259 : tw_okM 259 := Or.inr (by decide +kernel)
set_option maxRecDepth 100000 in
theorem tw_c260 : tw_okC 260 := Or.inr rfl
set_option maxRecDepth 100000 in
theorem tw_m260 : tw_okM 260 := Or.inr (by decide +kernel)
set_option maxRecDepth 100000 in
theorem tw_c261 : tw_okC 261 := Or.inr rfl
set_option maxRecDepth 100000 in
theorem tw_m261 : tw_okM 261 := Or.inr (by decide +kernel)
set_option maxRecDepth 100000 in
theorem tw_c262 : tw_okC 262 := Or.inr rfl
set_option maxRecDepth 100000 in
theorem tw_m262 : tw_okM 262 := Or.inr (by decide +kernel)
set_option maxRecDepth 100000 in
theorem tw_c263 : tw_okC 263 := Or.inr rfl
set_option maxRecDepth 100000 in
theorem tw_m263 : tw_okM 263 := Or.inr (by decide +kernel)
theorem tw_c264 : tw_okC 264 := Or.inl rfl
theorem tw_m264 : tw_okM 264 := Or.inl rfl
set_option maxRecDepth 100000 in
theorem tw_okC_all : ∀ m ∈ [0, 1, 2, 3, 4, 5, 6, 7, 8, 9, 10, 11, 12, 13, 14, 15, 16, 17, 18, 19, 20, 21, 22, 23, 24, 25, 26, 27, 28, 29, 30, 31, 32, 33, 34, 35, 36, 37, 38, 39, 40, 41, 42, 43, 44, 45, 46, 47, 48, 49, 50, 51, 52, 53, 54, 55, 56, 57, 58, 59, 60, 61, 62, 63, 64, 65, 66, 67, 68, 69, 70, 71, 72, 73, 74, 75, 76, 77, 78, 79, 80, 81, 82, 83, 84, 85, 86, 87, 88, 89, 90, 91, 92, 93, 94, 95, 96, 97, 98, 99, 100, 101, 102, 103, 104, 105, 106, 107, 108, 109, 110, 111, 112, 113, 114, 115, 116, 117, 118, 119, 120, 121, 122, 123, 124, 125, 126, 127, 128, 129, 130, 131, 132, 133, 134, 135, 136, 137, 138, 139, 140, 141, 142, 143, 144, 145, 146, 147, 148, 149, 150, 151, 152, 153, 154, 155, 156, 157, 158, 159, 160, 161, 162, 163, 164, 165, 166, 167, 168, 169, 170, 171, 172, 173, 174, 175, 176, 177, 178, 179, 180, 181, 182, 183, 184, 185, 186, 187, 188, 189, 190, 191, 192, 193, 194, 195, 196, 197, 198, 199, 200, 201, 202, 203, 204, 205, 206, 207, 208, 209, 210, 211, 212, 213, 214, 215, 216, 217, 218, 219, 220, 221, 222, 223, 224, 225, 226, 227, 228, 229, 230, 231, 232, 233, 234, 235, 236, 237, 238, 239, 240, 241, 242, 243, 244, 245, 246, 247, 248, 249, 250, 251, 252, 253, 254, 255, 256, 257, 258, 259, 260, 261, 262, 263, 264], tw_okC m := List.forall_mem_cons.mpr ⟨tw_c0, List.forall_mem_cons.mpr ⟨tw_c1, List.forall_mem_cons.mpr ⟨tw_c2, List.forall_mem_cons.mpr ⟨tw_c3, List.forall_mem_cons.mpr ⟨tw_c4, List.forall_mem_cons.mpr ⟨tw_c5, List.forall_mem_cons.mpr ⟨tw_c6, List.forall_mem_cons.mpr ⟨tw_c7, List.forall_mem_cons.mpr ⟨tw_c8, List.forall_mem_cons.mpr ⟨tw_c9, List.forall_mem_cons.mpr ⟨tw_c10, List.forall_mem_cons.mpr ⟨tw_c11, List.forall_mem_cons.mpr ⟨tw_c12, List.forall_mem_cons.mpr ⟨tw_c13, List.forall_mem_cons.mpr ⟨tw_c14, List.forall_mem_cons.mpr ⟨tw_c15, List.forall_mem_cons.mpr ⟨tw_c16, List.forall_mem_cons.mpr ⟨tw_c17, List.forall_mem_cons.mpr ⟨tw_c18, List.forall_mem_cons.mpr ⟨tw_c19, List.forall_mem_cons.mpr ⟨tw_c20, List.forall_mem_cons.mpr ⟨tw_c21, List.forall_mem_cons.mpr ⟨tw_c22, List.forall_mem_cons.mpr ⟨tw_c23, List.forall_mem_cons.mpr ⟨tw_c24, List.forall_mem_cons.mpr ⟨tw_c25, List.forall_mem_cons.mpr ⟨tw_c26, List.forall_mem_cons.mpr ⟨tw_c27, List.forall_mem_cons.mpr ⟨tw_c28, List.forall_mem_cons.mpr ⟨tw_c29, List.forall_mem_cons.mpr ⟨tw_c30, List.forall_mem_cons.mpr ⟨tw_c31, List.forall_mem_cons.mpr ⟨tw_c32, List.forall_mem_cons.mpr ⟨tw_c33, List.forall_mem_cons.mpr ⟨tw_c34, List.forall_mem_cons.mpr ⟨tw_c35, List.forall_mem_cons.mpr ⟨tw_c36, List.forall_mem_cons.mpr ⟨tw_c37, List.forall_mem_cons.mpr ⟨tw_c38, List.forall_mem_cons.mpr ⟨tw_c39, List.forall_mem_cons.mpr ⟨tw_c40, List.forall_mem_cons.mpr ⟨tw_c41, List.forall_mem_cons.mpr ⟨tw_c42, List.forall_mem_cons.mpr ⟨tw_c43, List.forall_mem_cons.mpr ⟨tw_c44, List.forall_mem_cons.mpr ⟨tw_c45, List.forall_mem_cons.mpr ⟨tw_c46, List.forall_mem_cons.mpr ⟨tw_c47, List.forall_mem_cons.mpr ⟨tw_c48, List.forall_mem_cons.mpr ⟨tw_c49, List.forall_mem_cons.mpr ⟨tw_c50, List.forall_mem_cons.mpr ⟨tw_c51, List.forall_mem_cons.mpr ⟨tw_c52, List.forall_mem_cons.mpr ⟨tw_c53, List.forall_mem_cons.mpr ⟨tw_c54, List.forall_mem_cons.mpr ⟨tw_c55, List.forall_mem_cons.mpr ⟨tw_c56, List.forall_mem_cons.mpr ⟨tw_c57, List.forall_mem_cons.mpr ⟨tw_c58, List.forall_mem_cons.mpr ⟨tw_c59, List.forall_mem_cons.mpr ⟨tw_c60, List.forall_mem_cons.mpr ⟨tw_c61, List.forall_mem_cons.mpr ⟨tw_c62, List.forall_mem_cons.mpr ⟨tw_c63, List.forall_mem_cons.mpr ⟨tw_c64, List.forall_mem_cons.mpr ⟨tw_c65, List.forall_mem_cons.mpr ⟨tw_c66, List.forall_mem_cons.mpr ⟨tw_c67, List.forall_mem_cons.mpr ⟨tw_c68, List.forall_mem_cons.mpr ⟨tw_c69, List.forall_mem_cons.mpr ⟨tw_c70, List.forall_mem_cons.mpr ⟨tw_c71, List.forall_mem_cons.mpr ⟨tw_c72, List.forall_mem_cons.mpr ⟨tw_c73, List.forall_mem_cons.mpr ⟨tw_c74, List.forall_mem_cons.mpr ⟨tw_c75, List.forall_mem_cons.mpr ⟨tw_c76, List.forall_mem_cons.mpr ⟨tw_c77, List.forall_mem_cons.mpr ⟨tw_c78, List.forall_mem_cons.mpr ⟨tw_c79, List.forall_mem_cons.mpr ⟨tw_c80, List.forall_mem_cons.mpr ⟨tw_c81, List.forall_mem_cons.mpr ⟨tw_c82, List.forall_mem_cons.mpr ⟨tw_c83, List.forall_mem_cons.mpr ⟨tw_c84, List.forall_mem_cons.mpr ⟨tw_c85, List.forall_mem_cons.mpr ⟨tw_c86, List.forall_mem_cons.mpr ⟨tw_c87, List.forall_mem_cons.mpr ⟨tw_c88, List.forall_mem_cons.mpr ⟨tw_c89, List.forall_mem_cons.mpr ⟨tw_c90, List.forall_mem_cons.mpr ⟨tw_c91, List.forall_mem_cons.mpr ⟨tw_c92, List.forall_mem_cons.mpr ⟨tw_c93, List.forall_mem_cons.mpr ⟨tw_c94, List.forall_mem_cons.mpr ⟨tw_c95, List.forall_mem_cons.mpr ⟨tw_c96, List.forall_mem_cons.mpr ⟨tw_c97, List.forall_mem_cons.mpr ⟨tw_c98, List.forall_mem_cons.mpr ⟨tw_c99, List.forall_mem_cons.mpr ⟨tw_c100, List.forall_mem_cons.mpr ⟨tw_c101, List.forall_mem_cons.mpr ⟨tw_c102, List.forall_mem_cons.mpr ⟨tw_c103, List.forall_mem_cons.mpr ⟨tw_c104, List.forall_mem_cons.mpr ⟨tw_c105, List.forall_mem_cons.mpr ⟨tw_c106, List.forall_mem_cons.mpr ⟨tw_c107, List.forall_mem_cons.mpr ⟨tw_c108, List.forall_mem_cons.mpr ⟨tw_c109, List.forall_mem_cons.mpr ⟨tw_c110, List.forall_mem_cons.mpr ⟨tw_c111, List.forall_mem_cons.mpr ⟨tw_c112, List.forall_mem_cons.mpr ⟨tw_c113, List.forall_mem_cons.mpr ⟨tw_c114, List.forall_mem_cons.mpr ⟨tw_c115, List.forall_mem_cons.mpr ⟨tw_c116, List.forall_mem_cons.mpr ⟨tw_c117, List.forall_mem_cons.mpr ⟨tw_c118, List.forall_mem_cons.mpr ⟨tw_c119, List.forall_mem_cons.mpr ⟨tw_c120, List.forall_mem_cons.mpr ⟨tw_c121, List.forall_mem_cons.mpr ⟨tw_c122, List.forall_mem_cons.mpr ⟨tw_c123, List.forall_mem_cons.mpr ⟨tw_c124, List.forall_mem_cons.mpr ⟨tw_c125, List.forall_mem_cons.mpr ⟨tw_c126, List.forall_mem_cons.mpr ⟨tw_c127, List.forall_mem_cons.mpr ⟨tw_c128, List.forall_mem_cons.mpr ⟨tw_c129, List.forall_mem_cons.mpr ⟨tw_c130, List.forall_mem_cons.mpr ⟨tw_c131, List.forall_mem_cons.mpr ⟨tw_c132, List.forall_mem_cons.mpr ⟨tw_c133, List.forall_mem_cons.mpr ⟨tw_c134, List.forall_mem_cons.mpr ⟨tw_c135, List.forall_mem_cons.mpr ⟨tw_c136, List.forall_mem_cons.mpr ⟨tw_c137, List.forall_mem_cons.mpr ⟨tw_c138, List.forall_mem_cons.mpr ⟨tw_c139, List.forall_mem_cons.mpr ⟨tw_c140, List.forall_mem_cons.mpr ⟨tw_c141, List.forall_mem_cons.mpr ⟨tw_c142, List.forall_mem_cons.mpr ⟨tw_c143, List.forall_mem_cons.mpr ⟨tw_c144, List.forall_mem_cons.mpr ⟨tw_c145, List.forall_mem_cons.mpr ⟨tw_c146, List.forall_mem_cons.mpr ⟨tw_c147, List.forall_mem_cons.mpr ⟨tw_c148, List.forall_mem_cons.mpr ⟨tw_c149, List.forall_mem_cons.mpr ⟨tw_c150, List.forall_mem_cons.mpr ⟨tw_c151, List.forall_mem_cons.mpr ⟨tw_c152, List.forall_mem_cons.mpr ⟨tw_c153, List.forall_mem_cons.mpr ⟨tw_c154, List.forall_mem_cons.mpr ⟨tw_c155, List.forall_mem_cons.mpr ⟨tw_c156, List.forall_mem_cons.mpr ⟨tw_c157, List.forall_mem_cons.mpr ⟨tw_c158, List.forall_mem_cons.mpr ⟨tw_c159, List.forall_mem_cons.mpr ⟨tw_c160, List.forall_mem_cons.mpr ⟨tw_c161, List.forall_mem_cons.mpr ⟨tw_c162, List.forall_mem_cons.mpr ⟨tw_c163, List.forall_mem_cons.mpr ⟨tw_c164, List.forall_mem_cons.mpr ⟨tw_c165, List.forall_mem_cons.mpr ⟨tw_c166, List.forall_mem_cons.mpr ⟨tw_c167, List.forall_mem_cons.mpr ⟨tw_c168, List.forall_mem_cons.mpr ⟨tw_c169, List.forall_mem_cons.mpr ⟨tw_c170, List.forall_mem_cons.mpr ⟨tw_c171, List.forall_mem_cons.mpr ⟨tw_c172, List.forall_mem_cons.mpr ⟨tw_c173, List.forall_mem_cons.mpr ⟨tw_c174, List.forall_mem_cons.mpr ⟨tw_c175, List.forall_mem_cons.mpr ⟨tw_c176, List.forall_mem_cons.mpr ⟨tw_c177, List.forall_mem_cons.mpr ⟨tw_c178, List.forall_mem_cons.mpr ⟨tw_c179, List.forall_mem_cons.mpr ⟨tw_c180, List.forall_mem_cons.mpr ⟨tw_c181, List.forall_mem_cons.mpr ⟨tw_c182, List.forall_mem_cons.mpr ⟨tw_c183, List.forall_mem_cons.mpr ⟨tw_c184, List.forall_mem_cons.mpr ⟨tw_c185, List.forall_mem_cons.mpr ⟨tw_c186, List.forall_mem_cons.mpr ⟨tw_c187, List.forall_mem_cons.mpr ⟨tw_c188, List.forall_mem_cons.mpr ⟨tw_c189, List.forall_mem_cons.mpr ⟨tw_c190, List.forall_mem_cons.mpr ⟨tw_c191, List.forall_mem_cons.mpr ⟨tw_c192, List.forall_mem_cons.mpr ⟨tw_c193, List.forall_mem_cons.mpr ⟨tw_c194, List.forall_mem_cons.mpr ⟨tw_c195, List.forall_mem_cons.mpr ⟨tw_c196, List.forall_mem_cons.mpr ⟨tw_c197, List.forall_mem_cons.mpr ⟨tw_c198, List.forall_mem_cons.mpr ⟨tw_c199, List.forall_mem_cons.mpr ⟨tw_c200, List.forall_mem_cons.mpr ⟨tw_c201, List.forall_mem_cons.mpr ⟨tw_c202, List.forall_mem_cons.mpr ⟨tw_c203, List.forall_mem_cons.mpr ⟨tw_c204, List.forall_mem_cons.mpr ⟨tw_c205, List.forall_mem_cons.mpr ⟨tw_c206, List.forall_mem_cons.mpr ⟨tw_c207, List.forall_mem_cons.mpr ⟨tw_c208, List.forall_mem_cons.mpr ⟨tw_c209, List.forall_mem_cons.mpr ⟨tw_c210, List.forall_mem_cons.mpr ⟨tw_c211, List.forall_mem_cons.mpr ⟨tw_c212, List.forall_mem_cons.mpr ⟨tw_c213, List.forall_mem_cons.mpr ⟨tw_c214, List.forall_mem_cons.mpr ⟨tw_c215, List.forall_mem_cons.mpr ⟨tw_c216, List.forall_mem_cons.mpr ⟨tw_c217, List.forall_mem_cons.mpr ⟨tw_c218, List.forall_mem_cons.mpr ⟨tw_c219, List.forall_mem_cons.mpr ⟨tw_c220, List.forall_mem_cons.mpr ⟨tw_c221, List.forall_mem_cons.mpr ⟨tw_c222, List.forall_mem_cons.mpr ⟨tw_c223, List.forall_mem_cons.mpr ⟨tw_c224, List.forall_mem_cons.mpr ⟨tw_c225, List.forall_mem_cons.mpr ⟨tw_c226, List.forall_mem_cons.mpr ⟨tw_c227, List.forall_mem_cons.mpr ⟨tw_c228, List.forall_mem_cons.mpr ⟨tw_c229, List.forall_mem_cons.mpr ⟨tw_c230, List.forall_mem_cons.mpr ⟨tw_c231, List.forall_mem_cons.mpr ⟨tw_c232, List.forall_mem_cons.mpr ⟨tw_c233, List.forall_mem_cons.mpr ⟨tw_c234, List.forall_mem_cons.mpr ⟨tw_c235, List.forall_mem_cons.mpr ⟨tw_c236, List.forall_mem_cons.mpr ⟨tw_c237, List.forall_mem_cons.mpr ⟨tw_c238, List.forall_mem_cons.mpr ⟨tw_c239, List.forall_mem_cons.mpr ⟨tw_c240, List.forall_mem_cons.mpr ⟨tw_c241, List.forall_mem_cons.mpr ⟨tw_c242, List.forall_mem_cons.mpr ⟨tw_c243, List.forall_mem_cons.mpr ⟨tw_c244, List.forall_mem_cons.mpr ⟨tw_c245, List.forall_mem_cons.mpr ⟨tw_c246, List.forall_mem_cons.mpr ⟨tw_c247, List.forall_mem_cons.mpr ⟨tw_c248, List.forall_mem_cons.mpr ⟨tw_c249, List.forall_mem_cons.mpr ⟨tw_c250, List.forall_mem_cons.mpr ⟨tw_c251, List.forall_mem_cons.mpr ⟨tw_c252, List.forall_mem_cons.mpr ⟨tw_c253, List.forall_mem_cons.mpr ⟨tw_c254, List.forall_mem_cons.mpr ⟨tw_c255, List.forall_mem_cons.mpr ⟨tw_c256, List.forall_mem_cons.mpr ⟨tw_c257, List.forall_mem_cons.mpr ⟨tw_c258, List.forall_mem_cons.mpr ⟨tw_c259, List.forall_mem_cons.mpr ⟨tw_c260, List.forall_mem_cons.mpr ⟨tw_c261, List.forall_mem_cons.mpr ⟨tw_c262, List.forall_mem_cons.mpr ⟨tw_c263, List.forall_mem_cons.mpr ⟨tw_c264, fun _ h => absurd h List.not_mem_nil⟩⟩⟩⟩⟩⟩⟩⟩⟩⟩⟩⟩⟩⟩⟩⟩⟩⟩⟩⟩⟩⟩⟩⟩⟩⟩⟩⟩⟩⟩⟩⟩⟩⟩⟩⟩⟩⟩⟩⟩⟩⟩⟩⟩⟩⟩⟩⟩⟩⟩⟩⟩⟩⟩⟩⟩⟩⟩⟩⟩⟩⟩⟩⟩⟩⟩⟩⟩⟩⟩⟩⟩⟩⟩⟩⟩⟩⟩⟩⟩⟩⟩⟩⟩⟩⟩⟩⟩⟩⟩⟩⟩⟩⟩⟩⟩⟩⟩⟩⟩⟩⟩⟩⟩⟩⟩⟩⟩⟩⟩⟩⟩⟩⟩⟩⟩⟩⟩⟩⟩⟩⟩⟩⟩⟩⟩⟩⟩⟩⟩⟩⟩⟩⟩⟩⟩⟩⟩⟩⟩⟩⟩⟩⟩⟩⟩⟩⟩⟩⟩⟩⟩⟩⟩⟩⟩⟩⟩⟩⟩⟩⟩⟩⟩⟩⟩⟩⟩⟩⟩⟩⟩⟩⟩⟩⟩⟩⟩⟩⟩⟩⟩⟩⟩⟩⟩⟩⟩⟩⟩⟩⟩⟩⟩⟩⟩⟩⟩⟩⟩⟩⟩⟩⟩⟩⟩⟩⟩⟩⟩⟩⟩⟩⟩⟩⟩⟩⟩⟩⟩⟩⟩⟩⟩⟩⟩⟩⟩⟩⟩⟩⟩⟩⟩⟩⟩⟩⟩⟩⟩⟩⟩⟩⟩⟩⟩⟩⟩⟩⟩⟩⟩⟩⟩⟩⟩⟩⟩⟩⟩⟩⟩⟩⟩⟩
theorem tw_okC_at {m : Nat} (h : m < tw_NM) : tw_okC m := tw_okC_all m (tw_nums ▸ List.mem_range.mpr h)
set_option maxRecDepth 100000 in
theorem tw_okM_all : ∀ m ∈ [0, 1, 2, 3, 4, 5, 6, 7, 8, 9, 10, 11, 12, 13, 14, 15, 16, 17, 18, 19, 20, 21, 22, 23, 24, 25, 26, 27, 28, 29, 30, 31, 32, 33, 34, 35, 36, 37, 38, 39, 40, 41, 42, 43, 44, 45, 46, 47, 48, 49, 50, 51, 52, 53, 54, 55, 56, 57, 58, 59, 60, 61, 62, 63, 64, 65, 66, 67, 68, 69, 70, 71, 72, 73, 74, 75, 76, 77, 78, 79, 80, 81, 82, 83, 84, 85, 86, 87, 88, 89, 90, 91, 92, 93, 94, 95, 96, 97, 98, 99, 100, 101, 102, 103, 104, 105, 106, 107, 108, 109, 110, 111, 112, 113, 114, 115, 116, 117, 118, 119, 120, 121, 122, 123, 124, 125, 126, 127, 128, 129, 130, 131, 132, 133, 134, 135, 136, 137, 138, 139, 140, 141, 142, 143, 144, 145, 146, 147, 148, 149, 150, 151, 152, 153, 154, 155, 156, 157, 158, 159, 160, 161, 162, 163, 164, 165, 166, 167, 168, 169, 170, 171, 172, 173, 174, 175, 176, 177, 178, 179, 180, 181, 182, 183, 184, 185, 186, 187, 188, 189, 190, 191, 192, 193, 194, 195, 196, 197, 198, 199, 200, 201, 202, 203, 204, 205, 206, 207, 208, 209, 210, 211, 212, 213, 214, 215, 216, 217, 218, 219, 220, 221, 222, 223, 224, 225, 226, 227, 228, 229, 230, 231, 232, 233, 234, 235, 236, 237, 238, 239, 240, 241, 242, 243, 244, 245, 246, 247, 248, 249, 250, 251, 252, 253, 254, 255, 256, 257, 258, 259, 260, 261, 262, 263, 264], tw_okM m := List.forall_mem_cons.mpr ⟨tw_m0, List.forall_mem_cons.mpr ⟨tw_m1, List.forall_mem_cons.mpr ⟨tw_m2, List.forall_mem_cons.mpr ⟨tw_m3, List.forall_mem_cons.mpr ⟨tw_m4, List.forall_mem_cons.mpr ⟨tw_m5, List.forall_mem_cons.mpr ⟨tw_m6, List.forall_mem_cons.mpr ⟨tw_m7, List.forall_mem_cons.mpr ⟨tw_m8, List.forall_mem_cons.mpr ⟨tw_m9, List.forall_mem_cons.mpr ⟨tw_m10, List.forall_mem_cons.mpr ⟨tw_m11, List.forall_mem_cons.mpr ⟨tw_m12, List.forall_mem_cons.mpr ⟨tw_m13, List.forall_mem_cons.mpr ⟨tw_m14, List.forall_mem_cons.mpr ⟨tw_m15, List.forall_mem_cons.mpr ⟨tw_m16, List.forall_mem_cons.mpr ⟨tw_m17, List.forall_mem_cons.mpr ⟨tw_m18, List.forall_mem_cons.mpr ⟨tw_m19, List.forall_mem_cons.mpr ⟨tw_m20, List.forall_mem_cons.mpr ⟨tw_m21, List.forall_mem_cons.mpr ⟨tw_m22, List.forall_mem_cons.mpr ⟨tw_m23, List.forall_mem_cons.mpr ⟨tw_m24, List.forall_mem_cons.mpr ⟨tw_m25, List.forall_mem_cons.mpr ⟨tw_m26, List.forall_mem_cons.mpr ⟨tw_m27, List.forall_mem_cons.mpr ⟨tw_m28, List.forall_mem_cons.mpr ⟨tw_m29, List.forall_mem_cons.mpr ⟨tw_m30, List.forall_mem_cons.mpr ⟨tw_m31, List.forall_mem_cons.mpr ⟨tw_m32, List.forall_mem_cons.mpr ⟨tw_m33, List.forall_mem_cons.mpr ⟨tw_m34, List.forall_mem_cons.mpr ⟨tw_m35, List.forall_mem_cons.mpr ⟨tw_m36, List.forall_mem_cons.mpr ⟨tw_m37, List.forall_mem_cons.mpr ⟨tw_m38, List.forall_mem_cons.mpr ⟨tw_m39, List.forall_mem_cons.mpr ⟨tw_m40, List.forall_mem_cons.mpr ⟨tw_m41, List.forall_mem_cons.mpr ⟨tw_m42, List.forall_mem_cons.mpr ⟨tw_m43, List.forall_mem_cons.mpr ⟨tw_m44, List.forall_mem_cons.mpr ⟨tw_m45, List.forall_mem_cons.mpr ⟨tw_m46, List.forall_mem_cons.mpr ⟨tw_m47, List.forall_mem_cons.mpr ⟨tw_m48, List.forall_mem_cons.mpr ⟨tw_m49, List.forall_mem_cons.mpr ⟨tw_m50, List.forall_mem_cons.mpr ⟨tw_m51, List.forall_mem_cons.mpr ⟨tw_m52, List.forall_mem_cons.mpr ⟨tw_m53, List.forall_mem_cons.mpr ⟨tw_m54, List.forall_mem_cons.mpr ⟨tw_m55, List.forall_mem_cons.mpr ⟨tw_m56, List.forall_mem_cons.mpr ⟨tw_m57, List.forall_mem_cons.mpr ⟨tw_m58, List.forall_mem_cons.mpr ⟨tw_m59, List.forall_mem_cons.mpr ⟨tw_m60, List.forall_mem_cons.mpr ⟨tw_m61, List.forall_mem_cons.mpr ⟨tw_m62, List.forall_mem_cons.mpr ⟨tw_m63, List.forall_mem_cons.mpr ⟨tw_m64, List.forall_mem_cons.mpr ⟨tw_m65, List.forall_mem_cons.mpr ⟨tw_m66, List.forall_mem_cons.mpr ⟨tw_m67, List.forall_mem_cons.mpr ⟨tw_m68, List.forall_mem_cons.mpr ⟨tw_m69, List.forall_mem_cons.mpr ⟨tw_m70, List.forall_mem_cons.mpr ⟨tw_m71, List.forall_mem_cons.mpr ⟨tw_m72, List.forall_mem_cons.mpr ⟨tw_m73, List.forall_mem_cons.mpr ⟨tw_m74, List.forall_mem_cons.mpr ⟨tw_m75, List.forall_mem_cons.mpr ⟨tw_m76, List.forall_mem_cons.mpr ⟨tw_m77, List.forall_mem_cons.mpr ⟨tw_m78, List.forall_mem_cons.mpr ⟨tw_m79, List.forall_mem_cons.mpr ⟨tw_m80, List.forall_mem_cons.mpr ⟨tw_m81, List.forall_mem_cons.mpr ⟨tw_m82, List.forall_mem_cons.mpr ⟨tw_m83, List.forall_mem_cons.mpr ⟨tw_m84, List.forall_mem_cons.mpr ⟨tw_m85, List.forall_mem_cons.mpr ⟨tw_m86, List.forall_mem_cons.mpr ⟨tw_m87, List.forall_mem_cons.mpr ⟨tw_m88, List.forall_mem_cons.mpr ⟨tw_m89, List.forall_mem_cons.mpr ⟨tw_m90, List.forall_mem_cons.mpr ⟨tw_m91, List.forall_mem_cons.mpr ⟨tw_m92, List.forall_mem_cons.mpr ⟨tw_m93, List.forall_mem_cons.mpr ⟨tw_m94, List.forall_mem_cons.mpr ⟨tw_m95, List.forall_mem_cons.mpr ⟨tw_m96, List.forall_mem_cons.mpr ⟨tw_m97, List.forall_mem_cons.mpr ⟨tw_m98, List.forall_mem_cons.mpr ⟨tw_m99, List.forall_mem_cons.mpr ⟨tw_m100, List.forall_mem_cons.mpr ⟨tw_m101, List.forall_mem_cons.mpr ⟨tw_m102, List.forall_mem_cons.mpr ⟨tw_m103, List.forall_mem_cons.mpr ⟨tw_m104, List.forall_mem_cons.mpr ⟨tw_m105, List.forall_mem_cons.mpr ⟨tw_m106, List.forall_mem_cons.mpr ⟨tw_m107, List.forall_mem_cons.mpr ⟨tw_m108, List.forall_mem_cons.mpr ⟨tw_m109, List.forall_mem_cons.mpr ⟨tw_m110, List.forall_mem_cons.mpr ⟨tw_m111, List.forall_mem_cons.mpr ⟨tw_m112, List.forall_mem_cons.mpr ⟨tw_m113, List.forall_mem_cons.mpr ⟨tw_m114, List.forall_mem_cons.mpr ⟨tw_m115, List.forall_mem_cons.mpr ⟨tw_m116, List.forall_mem_cons.mpr ⟨tw_m117, List.forall_mem_cons.mpr ⟨tw_m118, List.forall_mem_cons.mpr ⟨tw_m119, List.forall_mem_cons.mpr ⟨tw_m120, List.forall_mem_cons.mpr ⟨tw_m121, List.forall_mem_cons.mpr ⟨tw_m122, List.forall_mem_cons.mpr ⟨tw_m123, List.forall_mem_cons.mpr ⟨tw_m124, List.forall_mem_cons.mpr ⟨tw_m125, List.forall_mem_cons.mpr ⟨tw_m126, List.forall_mem_cons.mpr ⟨tw_m127, List.forall_mem_cons.mpr ⟨tw_m128, List.forall_mem_cons.mpr ⟨tw_m129, List.forall_mem_cons.mpr ⟨tw_m130, List.forall_mem_cons.mpr ⟨tw_m131, List.forall_mem_cons.mpr ⟨tw_m132, List.forall_mem_cons.mpr ⟨tw_m133, List.forall_mem_cons.mpr ⟨tw_m134, List.forall_mem_cons.mpr ⟨tw_m135, List.forall_mem_cons.mpr ⟨tw_m136, List.forall_mem_cons.mpr ⟨tw_m137, List.forall_mem_cons.mpr ⟨tw_m138, List.forall_mem_cons.mpr ⟨tw_m139, List.forall_mem_cons.mpr ⟨tw_m140, List.forall_mem_cons.mpr ⟨tw_m141, List.forall_mem_cons.mpr ⟨tw_m142, List.forall_mem_cons.mpr ⟨tw_m143, List.forall_mem_cons.mpr ⟨tw_m144, List.forall_mem_cons.mpr ⟨tw_m145, List.forall_mem_cons.mpr ⟨tw_m146, List.forall_mem_cons.mpr ⟨tw_m147, List.forall_mem_cons.mpr ⟨tw_m148, List.forall_mem_cons.mpr ⟨tw_m149, List.forall_mem_cons.mpr ⟨tw_m150, List.forall_mem_cons.mpr ⟨tw_m151, List.forall_mem_cons.mpr ⟨tw_m152, List.forall_mem_cons.mpr ⟨tw_m153, List.forall_mem_cons.mpr ⟨tw_m154, List.forall_mem_cons.mpr ⟨tw_m155, List.forall_mem_cons.mpr ⟨tw_m156, List.forall_mem_cons.mpr ⟨tw_m157, List.forall_mem_cons.mpr ⟨tw_m158, List.forall_mem_cons.mpr ⟨tw_m159, List.forall_mem_cons.mpr ⟨tw_m160, List.forall_mem_cons.mpr ⟨tw_m161, List.forall_mem_cons.mpr ⟨tw_m162, List.forall_mem_cons.mpr ⟨tw_m163, List.forall_mem_cons.mpr ⟨tw_m164, List.forall_mem_cons.mpr ⟨tw_m165, List.forall_mem_cons.mpr ⟨tw_m166, List.forall_mem_cons.mpr ⟨tw_m167, List.forall_mem_cons.mpr ⟨tw_m168, List.forall_mem_cons.mpr ⟨tw_m169, List.forall_mem_cons.mpr ⟨tw_m170, List.forall_mem_cons.mpr ⟨tw_m171, List.forall_mem_cons.mpr ⟨tw_m172, List.forall_mem_cons.mpr ⟨tw_m173, List.forall_mem_cons.mpr ⟨tw_m174, List.forall_mem_cons.mpr ⟨tw_m175, List.forall_mem_cons.mpr ⟨tw_m176, List.forall_mem_cons.mpr ⟨tw_m177, List.forall_mem_cons.mpr ⟨tw_m178, List.forall_mem_cons.mpr ⟨tw_m179, List.forall_mem_cons.mpr ⟨tw_m180, List.forall_mem_cons.mpr ⟨tw_m181, List.forall_mem_cons.mpr ⟨tw_m182, List.forall_mem_cons.mpr ⟨tw_m183, List.forall_mem_cons.mpr ⟨tw_m184, List.forall_mem_cons.mpr ⟨tw_m185, List.forall_mem_cons.mpr ⟨tw_m186, List.forall_mem_cons.mpr ⟨tw_m187, List.forall_mem_cons.mpr ⟨tw_m188, List.forall_mem_cons.mpr ⟨tw_m189, List.forall_mem_cons.mpr ⟨tw_m190, List.forall_mem_cons.mpr ⟨tw_m191, List.forall_mem_cons.mpr ⟨tw_m192, List.forall_mem_cons.mpr ⟨tw_m193, List.forall_mem_cons.mpr ⟨tw_m194, List.forall_mem_cons.mpr ⟨tw_m195, List.forall_mem_cons.mpr ⟨tw_m196, List.forall_mem_cons.mpr ⟨tw_m197, List.forall_mem_cons.mpr ⟨tw_m198, List.forall_mem_cons.mpr ⟨tw_m199, List.forall_mem_cons.mpr ⟨tw_m200, List.forall_mem_cons.mpr ⟨tw_m201, List.forall_mem_cons.mpr ⟨tw_m202, List.forall_mem_cons.mpr ⟨tw_m203, List.forall_mem_cons.mpr ⟨tw_m204, List.forall_mem_cons.mpr ⟨tw_m205, List.forall_mem_cons.mpr ⟨tw_m206, List.forall_mem_cons.mpr ⟨tw_m207, List.forall_mem_cons.mpr ⟨tw_m208, List.forall_mem_cons.mpr ⟨tw_m209, List.forall_mem_cons.mpr ⟨tw_m210, List.forall_mem_cons.mpr ⟨tw_m211, List.forall_mem_cons.mpr ⟨tw_m212, List.forall_mem_cons.mpr ⟨tw_m213, List.forall_mem_cons.mpr ⟨tw_m214, List.forall_mem_cons.mpr ⟨tw_m215, List.forall_mem_cons.mpr ⟨tw_m216, List.forall_mem_cons.mpr ⟨tw_m217, List.forall_mem_cons.mpr ⟨tw_m218, List.forall_mem_cons.mpr ⟨tw_m219, List.forall_mem_cons.mpr ⟨tw_m220, List.forall_mem_cons.mpr ⟨tw_m221, List.forall_mem_cons.mpr ⟨tw_m222, List.forall_mem_cons.mpr ⟨tw_m223, List.forall_mem_cons.mpr ⟨tw_m224, List.forall_mem_cons.mpr ⟨tw_m225, List.forall_mem_cons.mpr ⟨tw_m226, List.forall_mem_cons.mpr ⟨tw_m227, List.forall_mem_cons.mpr ⟨tw_m228, List.forall_mem_cons.mpr ⟨tw_m229, List.forall_mem_cons.mpr ⟨tw_m230, List.forall_mem_cons.mpr ⟨tw_m231, List.forall_mem_cons.mpr ⟨tw_m232, List.forall_mem_cons.mpr ⟨tw_m233, List.forall_mem_cons.mpr ⟨tw_m234, List.forall_mem_cons.mpr ⟨tw_m235, List.forall_mem_cons.mpr ⟨tw_m236, List.forall_mem_cons.mpr ⟨tw_m237, List.forall_mem_cons.mpr ⟨tw_m238, List.forall_mem_cons.mpr ⟨tw_m239, List.forall_mem_cons.mpr ⟨tw_m240, List.forall_mem_cons.mpr ⟨tw_m241, List.forall_mem_cons.mpr ⟨tw_m242, List.forall_mem_cons.mpr ⟨tw_m243, List.forall_mem_cons.mpr ⟨tw_m244, List.forall_mem_cons.mpr ⟨tw_m245, List.forall_mem_cons.mpr ⟨tw_m246, List.forall_mem_cons.mpr ⟨tw_m247, List.forall_mem_cons.mpr ⟨tw_m248, List.forall_mem_cons.mpr ⟨tw_m249, List.forall_mem_cons.mpr ⟨tw_m250, List.forall_mem_cons.mpr ⟨tw_m251, List.forall_mem_cons.mpr ⟨tw_m252, List.forall_mem_cons.mpr ⟨tw_m253, List.forall_mem_cons.mpr ⟨tw_m254, List.forall_mem_cons.mpr ⟨tw_m255, List.forall_mem_cons.mpr ⟨tw_m256, List.forall_mem_cons.mpr ⟨tw_m257, List.forall_mem_cons.mpr ⟨tw_m258, List.forall_mem_cons.mpr ⟨tw_m259, List.forall_mem_cons.mpr ⟨tw_m260, List.forall_mem_cons.mpr ⟨tw_m261, List.forall_mem_cons.mpr ⟨tw_m262, List.forall_mem_cons.mpr ⟨tw_m263, List.forall_mem_cons.mpr ⟨tw_m264, fun _ h => absurd h List.not_mem_nil⟩⟩⟩⟩⟩⟩⟩⟩⟩⟩⟩⟩⟩⟩⟩⟩⟩⟩⟩⟩⟩⟩⟩⟩⟩⟩⟩⟩⟩⟩⟩⟩⟩⟩⟩⟩⟩⟩⟩⟩⟩⟩⟩⟩⟩⟩⟩⟩⟩⟩⟩⟩⟩⟩⟩⟩⟩⟩⟩⟩⟩⟩⟩⟩⟩⟩⟩⟩⟩⟩⟩⟩⟩⟩⟩⟩⟩⟩⟩⟩⟩⟩⟩⟩⟩⟩⟩⟩⟩⟩⟩⟩⟩⟩⟩⟩⟩⟩⟩⟩⟩⟩⟩⟩⟩⟩⟩⟩⟩⟩⟩⟩⟩⟩⟩⟩⟩⟩⟩⟩⟩⟩⟩⟩⟩⟩⟩⟩⟩⟩⟩⟩⟩⟩⟩⟩⟩⟩⟩⟩⟩⟩⟩⟩⟩⟩⟩⟩⟩⟩⟩⟩⟩⟩⟩⟩⟩⟩⟩⟩⟩⟩⟩⟩⟩⟩⟩⟩⟩⟩⟩⟩⟩⟩⟩⟩⟩⟩⟩⟩⟩⟩⟩⟩⟩⟩⟩⟩⟩⟩⟩⟩⟩⟩⟩⟩⟩⟩⟩⟩⟩⟩⟩⟩⟩⟩⟩⟩⟩⟩⟩⟩⟩⟩⟩⟩⟩⟩⟩⟩⟩⟩⟩⟩⟩⟩⟩⟩⟩⟩⟩⟩⟩⟩⟩⟩⟩⟩⟩⟩⟩⟩⟩⟩⟩⟩⟩⟩⟩⟩⟩⟩⟩⟩⟩⟩⟩⟩⟩⟩⟩⟩⟩⟩⟩
theorem tw_okM_at {m : Nat} (h : m < tw_NM) : tw_okM m := tw_okM_all m (tw_nums ▸ List.mem_range.mpr h)
end
section
/-! the table machine's cells as cells of the heap: ad gives their addresses, D and aC the numbers of the classes; z: from here on all is ours; b: the script's cell -/
def tw_rel (ad : Nat → Nat) (v : Value) : Value := match v with
  | .ref k => .ref (ad k)
  | v => v
def tw_relO (ad : Nat → Nat) (v : Value) : Option Nat := match v with
  | .ref k => some (ad k)
  | _ => none
def tw_cellE (md : tw_Md) (ad : Nat → Nat) (aC : Nat → ClassId) (σ : tw_Mem) (k : Nat) : va_E :=
  if (tw_sh k).1 < 20 then .inr ((tw_sh k).1, (List.range (tw_sh k).2).map (fun j => tw_rel ad (tw_val md σ k j)))
  else if (tw_sh k).1 = 24 then .inl (aC 4, (tw_sh k).2, .inr (.inr (.inr (.inr (fun j => tw_relO ad (tw_val md σ k j))))))
  else .inl (aC ((tw_sh k).1 - 20), (tw_sh k).2, .inl (fun j => σ k j))
def tw_ws (md : tw_Md) (ad : Nat → Nat) (aC : Nat → ClassId) (σ : tw_Mem) : va_W := (List.range (tw_cn md)).map (fun i => (ad (i + 1), tw_cellE md ad aC σ (i + 1)))
def tw_tys (aC : Nat → ClassId) : List (ClassId × Jvm.ClassFile.FieldType) := [(aC 0, .int), (aC 1, .byte), (aC 2, .char), (aC 3, .boolean), (aC 4, .object "CardLoom$Card")]
theorem tw_ws_at {md : tw_Md} {ad : Nat → Nat} {aC : Nat → ClassId} {σ : tw_Mem} {k : Nat} (h : tw_live k md = true) : (tw_ws md ad aC σ)[k - 1]? = some (ad k, tw_cellE md ad aC σ k) := by
  simp only [tw_live, Bool.and_eq_true, Nat.ble_eq] at h
  obtain ⟨h1, h2⟩ := h
  unfold tw_ws
  rw [List.getElem?_map, List.getElem?_range (by omega)]
  simp only [Option.map_some]
  rw [show k - 1 + 1 = k by omega]
/-- the list with one cell's contents changed -/
theorem tw_ws_set {md : tw_Md} {ad : Nat → Nat} {aC : Nat → ClassId} {σ σ' : tw_Mem} {k : Nat} (h : tw_live k md = true) (ho : ∀ k', 1 ≤ k' → k' ≤ tw_cn md → k' ≠ k → tw_cellE md ad aC σ' k' = tw_cellE md ad aC σ k') : (tw_ws md ad aC σ).set (k - 1) (ad k, tw_cellE md ad aC σ' k) = tw_ws md ad aC σ' := by
  simp only [tw_live, Bool.and_eq_true, Nat.ble_eq] at h
  obtain ⟨h1, h2⟩ := h
  apply List.ext_getElem?
  intro i
  unfold tw_ws
  by_cases hi : i = k - 1
  · subst hi
    rw [List.getElem?_set_self (by simp; omega), List.getElem?_map, List.getElem?_range (by omega)]
    simp only [Option.map_some]
    rw [show k - 1 + 1 = k by omega]
  · rw [List.getElem?_set_ne (Ne.symm hi), List.getElem?_map, List.getElem?_map]
    by_cases hl : i < tw_cn md
    · rw [List.getElem?_range hl]
      simp only [Option.map_some]
      rw [ho (i + 1) (by omega) (by omega) (by omega)]
    · rw [List.getElem?_eq_none (by simp; omega)]
      rfl
/-- which values a place may hold: of a reference, a cell that is there -/
def tw_okv (md : tw_Md) (v : Value) : Prop := match v with
  | .int _ => True
  | .null => True
  | .retAddr _ => True
  | .ref k => (match md with
    | none => True
    | some n => k ≤ n)
  | _ => False
def tw_agr (md : tw_Md) (ad ad1 : Nat → Nat) : Prop := match md with
  | none => ad1 = ad
  | some n => ∀ k, k ≤ n → ad1 k = ad k
theorem tw_agr_rf {md : tw_Md} {ad : Nat → Nat} : tw_agr md ad ad := by
  cases md with
  | none => rfl
  | some n => exact fun _ _ => rfl
theorem tw_rel_agr {md : tw_Md} {ad ad1 : Nat → Nat} {v : Value} (hv : tw_okv md v) (h : tw_agr md ad ad1) : tw_rel ad1 v = tw_rel ad v := by
  cases md with
  | none => rw [show ad1 = ad from h]
  | some n =>
    cases v with
    | ref k => show Value.ref (ad1 k) = Value.ref (ad k); rw [h k hv]
    | _ => rfl
theorem tw_okv_cat {md : tw_Md} {ad : Nat → Nat} {v : Value} (h : tw_okv md v) : (tw_rel ad v).category = 1 := by
  cases v <;> first | rfl | exact absurd h (fun q => q)
theorem tw_map_agr {md : tw_Md} {ad ad1 : Nat → Nat} {st : List Value} (hv : ∀ v ∈ st, tw_okv md v) (h : tw_agr md ad ad1) : st.map (tw_rel ad1) = st.map (tw_rel ad) := List.map_congr_left fun v hm => tw_rel_agr (hv v hm) h
theorem tw_okc {md : tw_Md} {v : Value} {st : List Value} (h : tw_okv md v) (hs : ∀ w ∈ st, tw_okv md w) : ∀ w ∈ v :: st, tw_okv md w := fun w hw => by
  rcases List.mem_cons.mp hw with rfl | hw
  · exact h
  · exact hs w hw
theorem tw_okt {md : tw_Md} {v : Value} {st : List Value} (hs : ∀ w ∈ v :: st, tw_okv md w) : ∀ w ∈ st, tw_okv md w := fun w hw => hs w (List.mem_cons_of_mem _ hw)
theorem tw_okh {md : tw_Md} {v : Value} {st : List Value} (hs : ∀ w ∈ v :: st, tw_okv md w) : tw_okv md v := hs v List.mem_cons_self
/-- the locals: what the list has, but where it has the mark of nothing -/
def tw_Lr (ad : Nat → Nat) (md : tw_Md) (lsA : List Value) (ls : Array Slot) : Prop := ls.size = lsA.length ∧ lv_wf ls ∧ ∀ (i : Nat) (v : Value), lsA[i]? = some v → tw_okv md v ∧ (v = tw_U ∨ ls[i]? = some (.val (tw_rel ad v)))
def tw_asc (ad : Nat → Nat) (lsA : List Value) : List (Nat × Value) := (List.range lsA.length).filterMap (fun i => match lsA[i]? with
  | some v => if v = tw_U then none else some (i, tw_rel ad v)
  | none => none)
theorem tw_asc_mem {ad : Nat → Nat} {lsA : List Value} {q : Nat × Value} : q ∈ tw_asc ad lsA ↔ ∃ v, lsA[q.1]? = some v ∧ v ≠ tw_U ∧ q.2 = tw_rel ad v := by
  unfold tw_asc
  rw [List.mem_filterMap]
  constructor
  · rintro ⟨i, hi, h⟩
    cases hl : lsA[i]? with
    | none => rw [hl] at h; cases h
    | some v =>
      rw [hl] at h
      simp only at h
      by_cases hv : v = tw_U
      · rw [if_pos hv] at h; cases h
      · rw [if_neg hv] at h
        cases h
        exact ⟨v, hl, hv, rfl⟩
  · rintro ⟨v, h1, h2, h3⟩
    refine ⟨q.1, List.mem_range.mpr (List.getElem?_eq_some_iff.mp h1).1, ?_⟩
    rw [h1]
    simp only [if_neg h2]
    rw [← h3]
theorem tw_Lr.has {ad : Nat → Nat} {md : tw_Md} {lsA : List Value} {ls : Array Slot} (h : tw_Lr ad md lsA ls) : lv_has ls lsA.length (tw_asc ad lsA) := by
  refine ⟨h.1, h.2.1, fun q hq => ?_⟩
  obtain ⟨v, h1, h2, h3⟩ := tw_asc_mem.mp hq
  rcases (h.2.2 q.1 v h1).2 with h4 | h4
  · exact absurd h4 h2
  · rw [h3]; exact h4
theorem tw_Lr.at {ad : Nat → Nat} {md : tw_Md} {lsA : List Value} {ls : Array Slot} (h : tw_Lr ad md lsA ls) {i : Nat} {v : Value} (hv : lsA[i]? = some v) (hu : v ≠ tw_U) : ls[i]? = some (.val (tw_rel ad v)) := by
  rcases (h.2.2 i v hv).2 with h4 | h4
  · exact absurd h4 hu
  · exact h4
theorem tw_Lr.set {ad : Nat → Nat} {md : tw_Md} {lsA : List Value} {ls ls1 : Array Slot} (h : tw_Lr ad md lsA ls) {a : Nat} {v : Value} (ha : a < lsA.length) (hv : tw_okv md v) (h1 : lv_has ls1 lsA.length ((a, tw_rel ad v) :: (tw_asc ad lsA).filter (fun q => !(q.1 == a) && !(q.1 + 1 == a && q.2.category == 2)))) : tw_Lr ad md (lsA.set a v) ls1 := by
  refine ⟨by rw [List.length_set]; exact h1.1, h1.2.1, fun i w hw => ?_⟩
  by_cases hi : i = a
  · subst hi
    rw [List.getElem?_set_self ha] at hw
    cases hw
    exact ⟨hv, Or.inr (h1.2.2 (i, tw_rel ad v) List.mem_cons_self)⟩
  · rw [List.getElem?_set_ne (Ne.symm hi)] at hw
    refine ⟨(h.2.2 i w hw).1, ?_⟩
    by_cases hu : w = tw_U
    · exact Or.inl hu
    · refine Or.inr (h1.2.2 (i, tw_rel ad w) (List.mem_cons_of_mem _ (List.mem_filter.mpr ⟨tw_asc_mem.mpr ⟨w, hw, hu, rfl⟩, ?_⟩)))
      have hc : (tw_rel ad w).category = 1 := tw_okv_cat (h.2.2 i w hw).1
      simp [hi, hc]
theorem tw_Lr.agr {ad ad1 : Nat → Nat} {md : tw_Md} {lsA : List Value} {ls : Array Slot} (h : tw_Lr ad md lsA ls) (ha : tw_agr md ad ad1) : tw_Lr ad1 md lsA ls := by
  refine ⟨h.1, h.2.1, fun i v hv => ⟨(h.2.2 i v hv).1, ?_⟩⟩
  rw [tw_rel_agr (h.2.2 i v hv).1 ha]
  exact (h.2.2 i v hv).2
/-- the words that a call hands on, and the links between nest mates, which go another way -/
def tw_isN (w : Jvm.Cond) : Bool := match w with
  | .methodLinkNest _ _ _ _ => true
  | _ => false
def tw_gw : List Jvm.Cond := lw_tbl.filter goodWord
def tw_nw : List Jvm.Cond := lw_tbl.filter tw_isN
def tw_Cx (D : va_G) (aC : Nat → ClassId) (z b L : Nat) (xs : Nat → Int32) (m : Nat) (p : Program) (s : State) (mi : MethodId) (args : Array Value) (meth : Method) (c : Code) : Prop :=
  p.tables.exec = Jvm.exec ∧ c.code = tw_mB m ∧ c.maxLocals = tw_mL m ∧ s.vm.findClass (tw_own m) = some mi.cls ∧ (∀ w ∈ tw_gw, w.before args s = true) ∧ (∀ w ∈ tw_nw, va_Nw w s) ∧ va_AO "CardLoom$Card" s ∧ meth.locks = false ∧ meth.sig.returnType = tw_mR m ∧ (tw_mK m = 2 → meth.name = "<init>") ∧ va_K D vwCl (tw_tys aC) s ∧ va_X b L xs s s.heap ∧ b < z ∧ z ≤ s.heap.size
def tw_Hx (D : va_G) (aC : Nat → ClassId) (z b : Nat) (ad : Nat → Nat) (md : tw_Md) (σ : tw_Mem) (s : State) (H : Heap) (locs : List Loc) : Prop :=
  ad 0 = b ∧ va_P D vwCl (tw_ws md ad aC σ) H ∧ va_D (fun q => z ≤ q) (tw_ws md ad aC σ) ∧ va_S (fun q => z ≤ q) s.heap H locs
def tw_next (m i pc : Nat) : Prop := ∃ e, tw_fetch m i = some e ∧ e.1 = pc
theorem tw_nx_next {m i pc : Nat} (h : tw_nx m i pc = true) : tw_next m i pc := by
  unfold tw_nx at h
  cases he : tw_fetch m i with
  | none => rw [he] at h; cases h
  | some e => rw [he] at h; exact ⟨e, he, Nat.eq_of_beq_eq_true h⟩
theorem tw_tg_next {m a pc : Nat} {off : Int} (h : tw_tg m a pc off = true) : ∃ t : Nat, (pc : Int) + off = (t : Int) ∧ tw_next m a t := by
  unfold tw_tg at h
  cases he : tw_fetch m a with
  | none => rw [he] at h; cases h
  | some e => rw [he] at h; exact ⟨e.1, of_decide_eq_true h, e, he, rfl⟩
theorem tw_w_mem {p : Nat} {w : Jvm.Cond} (h : tw_w p w = true) : w ∈ tw_gw := by
  unfold tw_w at h
  rw [Bool.and_eq_true, decide_eq_true_eq] at h
  exact List.mem_filter.mpr ⟨List.mem_of_getElem? h.1, h.2⟩
theorem tw_wn_mem {p : Nat} {own host : String} {x : Nat} {y : MethodName} (h : tw_wn p (.methodLinkNest own x y host) = true) : Jvm.Cond.methodLinkNest own x y host ∈ tw_nw := List.mem_filter.mpr ⟨List.mem_of_getElem? (of_decide_eq_true h), rfl⟩
theorem tw_ck1 {m i pc ln n : Nat} {ins : Jvm.ClassFile.Instr} (h : (decide (decode (tw_mB m) pc = .ok (ins, ln)) && (Nat.beq ln n && tw_nx m (i + 1) (pc + n))) = true) : decode (tw_mB m) pc = .ok (ins, n) ∧ tw_next m (i + 1) (pc + n) := by
  simp only [Bool.and_eq_true, decide_eq_true_eq] at h
  obtain ⟨h1, h2, h3⟩ := h
  have e := Nat.eq_of_beq_eq_true h2
  subst e
  exact ⟨h1, tw_nx_next h3⟩
theorem tw_ck2 {m i pc ln n : Nat} {ins : Jvm.ClassFile.Instr} {x : Bool} (h : (decide (decode (tw_mB m) pc = .ok (ins, ln)) && (Nat.beq ln n && tw_nx m (i + 1) (pc + n) && x)) = true) : (decode (tw_mB m) pc = .ok (ins, n) ∧ tw_next m (i + 1) (pc + n)) ∧ x = true := by
  simp only [Bool.and_eq_true, decide_eq_true_eq] at h
  obtain ⟨h1, ⟨h2, h3⟩, h4⟩ := h
  have e := Nat.eq_of_beq_eq_true h2
  subst e
  exact ⟨⟨h1, tw_nx_next h3⟩, h4⟩
theorem tw_p1_inv {st : List Value} {f : Int32 → List Value → Option tw_Out} {o : tw_Out} (h : tw_p1 st f = some o) : ∃ x r, st = .int x :: r ∧ f x r = some o := by
  unfold tw_p1 at h
  split at h
  · exact ⟨_, _, rfl, h⟩
  · cases h
theorem tw_p2_inv {st : List Value} {f : Int32 → Int32 → List Value → Option tw_Out} {o : tw_Out} (h : tw_p2 st f = some o) : ∃ x y r, st = .int y :: .int x :: r ∧ f x y r = some o := by
  unfold tw_p2 at h
  split at h
  · exact ⟨_, _, _, rfl, h⟩
  · cases h
theorem tw_pr_inv {st : List Value} {f : Nat → List Value → Option tw_Out} {o : tw_Out} (h : tw_pr st f = some o) : ∃ k r, st = .ref k :: r ∧ f k r = some o := by
  unfold tw_pr at h
  split at h
  · exact ⟨_, _, rfl, h⟩
  · cases h
theorem tw_pir_inv {st : List Value} {f : Int32 → Nat → List Value → Option tw_Out} {o : tw_Out} (h : tw_pir st f = some o) : ∃ j k r, st = .int j :: .ref k :: r ∧ f j k r = some o := by
  unfold tw_pir at h
  split at h
  · exact ⟨_, _, _, rfl, h⟩
  · cases h
theorem tw_piir_inv {st : List Value} {f : Int32 → Int32 → Nat → List Value → Option tw_Out} {o : tw_Out} (h : tw_piir st f = some o) : ∃ x j k r, st = .int x :: .int j :: .ref k :: r ∧ f x j k r = some o := by
  unfold tw_piir at h
  split at h
  · exact ⟨_, _, _, _, rfl, h⟩
  · cases h
end
section
/-! an instruction of the table machine that changes the stack and the locals alone is the machine's instruction -/
section tw_A
variable {D : va_G} {aC : Nat → ClassId} {z b L : Nat} {xs : Nat → Int32} {l : Launch} {md : tw_Md} {σ : tw_Mem} {m pc i : Nat} {ls st r : List Value} {x y v : Int32} {off : Int} {tgt a : Nat}
def tw_AdvS (l : Launch) (D : va_G) (aC : Nat → ClassId) (z b L : Nat) (xs : Nat → Int32) (md : tw_Md) (σ : tw_Mem) (m pc : Nat) (lsA stA : List Value) (i1 : Nat) (lsB stB : List Value) : Prop :=
  ∀ (ad : Nat → Nat) (p : Program) (e : Env) (s : State) (mi : MethodId) (args : Array Value) (below : List Frame) (meth : Method) (c : Code) (H : Heap) (locs : List Loc) (cells slots : Nat) (Rm : Room) (Q : State → Prop) (ls : Array Slot),
    tw_Cx D aC z b L xs m p s mi args meth c → tw_Hx D aC z b ad md σ s H locs → tw_Lr ad md lsA ls → lsA.length = tw_mL m → (∀ v ∈ stA, tw_okv md v) → 1 ≤ Rm.frames → 64 ≤ Rm.locals →
    (∀ (ls1 : Array Slot) (pc1 : Nat), tw_next m i1 pc1 → tw_Lr ad md lsB ls1 → lsB.length = tw_mL m → (∀ v ∈ stB, tw_okv md v) → W p l e Rm s mi args below meth c H locs cells slots Q (F0 mi pc1 ls1 (stB.map (tw_rel ad)))) →
    W p l e Rm s mi args below meth c H locs cells slots Q (F0 mi pc ls (stA.map (tw_rel ad)))
theorem tw_a_iconst {n : Int} (hd : decode (tw_mB m) pc = .ok (.iconst n, 1)) (hn : tw_next m (i + 1) (pc + 1)) (hv : Int32.ofInt n = v) : tw_AdvS l D aC z b L xs md σ m pc ls st (i + 1) ls (.int v :: st) :=
  fun ad p e s mi args below meth c H locs cells slots Rm Q lsC hC hH hL hN hS hf hl k => lv_iconst hC.1 hC.2.1 hd hv (k lsC _ hn hL hN (tw_okc trivial hS))
theorem tw_a_bipush {n : Int} (hd : decode (tw_mB m) pc = .ok (.bipush n, 2)) (hn : tw_next m (i + 1) (pc + 2)) (hv : (Int8.ofInt n).toInt32 = v) : tw_AdvS l D aC z b L xs md σ m pc ls st (i + 1) ls (.int v :: st) :=
  fun ad p e s mi args below meth c H locs cells slots Rm Q lsC hC hH hL hN hS hf hl k => lv_bipush hC.1 hC.2.1 hd hv (k lsC _ hn hL hN (tw_okc trivial hS))
theorem tw_a_sipush {n : Int} (hd : decode (tw_mB m) pc = .ok (.sipush n, 3)) (hn : tw_next m (i + 1) (pc + 3)) (hv : (Int16.ofInt n).toInt32 = v) : tw_AdvS l D aC z b L xs md σ m pc ls st (i + 1) ls (.int v :: st) :=
  fun ad p e s mi args below meth c H locs cells slots Rm Q lsC hC hH hL hN hS hf hl k => lv_sipush hC.1 hC.2.1 hd hv (k lsC _ hn hL hN (tw_okc trivial hS))
theorem tw_a_ldc {q : Nat} (hd : decode (tw_mB m) pc = .ok (.ldc q, 2)) (hn : tw_next m (i + 1) (pc + 2)) (hv : Jvm.Cond.constant (tw_own m) q v ∈ tw_gw) : tw_AdvS l D aC z b L xs md σ m pc ls st (i + 1) ls (.int v :: st) :=
  fun ad p e s mi args below meth c H locs cells slots Rm Q lsC hC hH hL hN hS hf hl k => lv_ldc hC.1 hC.2.1 hC.2.2.2.1 (hC.2.2.2.2.1 _ hv) hd (k lsC _ hn hL hN (tw_okc trivial hS))
theorem tw_a_ldcw {q : Nat} (hd : decode (tw_mB m) pc = .ok (.ldc_w q, 3)) (hn : tw_next m (i + 1) (pc + 3)) (hv : Jvm.Cond.constant (tw_own m) q v ∈ tw_gw) : tw_AdvS l D aC z b L xs md σ m pc ls st (i + 1) ls (.int v :: st) :=
  fun ad p e s mi args below meth c H locs cells slots Rm Q lsC hC hH hL hN hS hf hl k => lv_ldcw hC.1 hC.2.1 hC.2.2.2.1 (hC.2.2.2.2.1 _ hv) hd (k lsC _ hn hL hN (tw_okc trivial hS))
theorem tw_a_null (hd : decode (tw_mB m) pc = .ok (.aconst_null, 1)) (hn : tw_next m (i + 1) (pc + 1)) : tw_AdvS l D aC z b L xs md σ m pc ls st (i + 1) ls (.null :: st) :=
  fun ad p e s mi args below meth c H locs cells slots Rm Q lsC hC hH hL hN hS hf hl k => lv_null hC.1 hC.2.1 hd (k lsC _ hn hL hN (tw_okc trivial hS))
theorem tw_a_iload_n {kk : Fin 4} (hd : decode (tw_mB m) pc = .ok (.iload_n kk, 1)) (hn : tw_next m (i + 1) (pc + 1)) (hk : (kk : Nat) = a) (ha : ls[a]? = some (.int x)) : tw_AdvS l D aC z b L xs md σ m pc ls st (i + 1) ls (.int x :: st) :=
  fun ad p e s mi args below meth c H locs cells slots Rm Q lsC hC hH hL hN hS hf hl k => lv_iload_n hC.1 hC.2.1 hd hk (hL.at ha (fun q => by cases q)) (k lsC _ hn hL hN (tw_okc trivial hS))
theorem tw_a_iload (hd : decode (tw_mB m) pc = .ok (.iload a, 2)) (hn : tw_next m (i + 1) (pc + 2)) (ha : ls[a]? = some (.int x)) : tw_AdvS l D aC z b L xs md σ m pc ls st (i + 1) ls (.int x :: st) :=
  fun ad p e s mi args below meth c H locs cells slots Rm Q lsC hC hH hL hN hS hf hl k => lv_iload hC.1 hC.2.1 hd (hL.at ha (fun q => by cases q)) (k lsC _ hn hL hN (tw_okc trivial hS))
theorem tw_a_aload_n {kk : Fin 4} {q : Nat} (hd : decode (tw_mB m) pc = .ok (.aload_n kk, 1)) (hn : tw_next m (i + 1) (pc + 1)) (hk : (kk : Nat) = a) (ha : ls[a]? = some (.ref q)) : tw_AdvS l D aC z b L xs md σ m pc ls st (i + 1) ls (.ref q :: st) :=
  fun ad p e s mi args below meth c H locs cells slots Rm Q lsC hC hH hL hN hS hf hl k => lv_aload_n hC.1 hC.2.1 hd hk (hL.at ha (fun q => by cases q)) (k lsC _ hn hL hN (tw_okc (hL.2.2 _ _ ha).1 hS))
theorem tw_a_aload {q : Nat} (hd : decode (tw_mB m) pc = .ok (.aload a, 2)) (hn : tw_next m (i + 1) (pc + 2)) (ha : ls[a]? = some (.ref q)) : tw_AdvS l D aC z b L xs md σ m pc ls st (i + 1) ls (.ref q :: st) :=
  fun ad p e s mi args below meth c H locs cells slots Rm Q lsC hC hH hL hN hS hf hl k => lv_aload hC.1 hC.2.1 hd (hL.at ha (fun q => by cases q)) (k lsC _ hn hL hN (tw_okc (hL.2.2 _ _ ha).1 hS))
theorem tw_a_aload_nN {kk : Fin 4} (hd : decode (tw_mB m) pc = .ok (.aload_n kk, 1)) (hn : tw_next m (i + 1) (pc + 1)) (hk : (kk : Nat) = a) (ha : ls[a]? = some (.null)) : tw_AdvS l D aC z b L xs md σ m pc ls st (i + 1) ls (.null :: st) :=
  fun ad p e s mi args below meth c H locs cells slots Rm Q lsC hC hH hL hN hS hf hl k => lv_aload_nN hC.1 hC.2.1 hd hk (hL.at ha (fun q => by cases q)) (k lsC _ hn hL hN (tw_okc trivial hS))
theorem tw_a_aloadN (hd : decode (tw_mB m) pc = .ok (.aload a, 2)) (hn : tw_next m (i + 1) (pc + 2)) (ha : ls[a]? = some (.null)) : tw_AdvS l D aC z b L xs md σ m pc ls st (i + 1) ls (.null :: st) :=
  fun ad p e s mi args below meth c H locs cells slots Rm Q lsC hC hH hL hN hS hf hl k => lv_aloadN hC.1 hC.2.1 hd (hL.at ha (fun q => by cases q)) (k lsC _ hn hL hN (tw_okc trivial hS))
theorem tw_a_istore_n {kk : Fin 4} (hd : decode (tw_mB m) pc = .ok (.istore_n kk, 1)) (hn : tw_next m (i + 1) (pc + 1)) (hk : (kk : Nat) = a) (ha : a < ls.length) : tw_AdvS l D aC z b L xs md σ m pc ls (.int x :: r) (i + 1) (ls.set a (.int x)) r :=
  fun ad p e s mi args below meth c H locs cells slots Rm Q lsC hC hH hL hN hS hf hl k => lv_istore_n hC.1 hC.2.1 hd hk hL.has ha rfl (fun ls1 h1 => k ls1 _ hn (hL.set ha (tw_okh hS) h1) (by rw [List.length_set]; exact hN) (tw_okt hS))
theorem tw_a_istore (hd : decode (tw_mB m) pc = .ok (.istore a, 2)) (hn : tw_next m (i + 1) (pc + 2)) (ha : a < ls.length) : tw_AdvS l D aC z b L xs md σ m pc ls (.int x :: r) (i + 1) (ls.set a (.int x)) r :=
  fun ad p e s mi args below meth c H locs cells slots Rm Q lsC hC hH hL hN hS hf hl k => lv_istore hC.1 hC.2.1 hd hL.has ha rfl (fun ls1 h1 => k ls1 _ hn (hL.set ha (tw_okh hS) h1) (by rw [List.length_set]; exact hN) (tw_okt hS))
theorem tw_a_astore_n {kk : Fin 4} {q : Nat} (hd : decode (tw_mB m) pc = .ok (.astore_n kk, 1)) (hn : tw_next m (i + 1) (pc + 1)) (hk : (kk : Nat) = a) (ha : a < ls.length) : tw_AdvS l D aC z b L xs md σ m pc ls (.ref q :: r) (i + 1) (ls.set a (.ref q)) r :=
  fun ad p e s mi args below meth c H locs cells slots Rm Q lsC hC hH hL hN hS hf hl k => lv_astore_n hC.1 hC.2.1 hd hk hL.has ha rfl (fun ls1 h1 => k ls1 _ hn (hL.set ha (tw_okh hS) h1) (by rw [List.length_set]; exact hN) (tw_okt hS))
theorem tw_a_astore {q : Nat} (hd : decode (tw_mB m) pc = .ok (.astore a, 2)) (hn : tw_next m (i + 1) (pc + 2)) (ha : a < ls.length) : tw_AdvS l D aC z b L xs md σ m pc ls (.ref q :: r) (i + 1) (ls.set a (.ref q)) r :=
  fun ad p e s mi args below meth c H locs cells slots Rm Q lsC hC hH hL hN hS hf hl k => lv_astore hC.1 hC.2.1 hd hL.has ha rfl (fun ls1 h1 => k ls1 _ hn (hL.set ha (tw_okh hS) h1) (by rw [List.length_set]; exact hN) (tw_okt hS))
theorem tw_a_astore_nN {kk : Fin 4} (hd : decode (tw_mB m) pc = .ok (.astore_n kk, 1)) (hn : tw_next m (i + 1) (pc + 1)) (hk : (kk : Nat) = a) (ha : a < ls.length) : tw_AdvS l D aC z b L xs md σ m pc ls (.null :: r) (i + 1) (ls.set a (.null)) r :=
  fun ad p e s mi args below meth c H locs cells slots Rm Q lsC hC hH hL hN hS hf hl k => lv_astore_nN hC.1 hC.2.1 hd hk hL.has ha rfl (fun ls1 h1 => k ls1 _ hn (hL.set ha (tw_okh hS) h1) (by rw [List.length_set]; exact hN) (tw_okt hS))
theorem tw_a_astoreN (hd : decode (tw_mB m) pc = .ok (.astore a, 2)) (hn : tw_next m (i + 1) (pc + 2)) (ha : a < ls.length) : tw_AdvS l D aC z b L xs md σ m pc ls (.null :: r) (i + 1) (ls.set a (.null)) r :=
  fun ad p e s mi args below meth c H locs cells slots Rm Q lsC hC hH hL hN hS hf hl k => lv_astoreN hC.1 hC.2.1 hd hL.has ha rfl (fun ls1 h1 => k ls1 _ hn (hL.set ha (tw_okh hS) h1) (by rw [List.length_set]; exact hN) (tw_okt hS))
theorem tw_a_iinc {n : Int} (hd : decode (tw_mB m) pc = .ok (.iinc a n, 3)) (hn : tw_next m (i + 1) (pc + 3)) (hz : Int32.ofInt n = v) (ha : ls[a]? = some (.int x)) : tw_AdvS l D aC z b L xs md σ m pc ls st (i + 1) (ls.set a (.int (x + v))) st := by
  intro ad p e s mi args below meth c H locs cells slots Rm Q lsC hC hH hL hN hS hf hl k
  have hm : (a, Value.int x) ∈ tw_asc ad ls := tw_asc_mem.mpr ⟨.int x, ha, (fun q => by cases q), rfl⟩
  obtain ⟨j, hj⟩ := List.getElem?_of_mem hm
  have hlt : a < ls.length := (List.getElem?_eq_some_iff.mp ha).1
  subst hz
  exact lv_iinc hC.1 hC.2.1 hd hL.has hj rfl hlt rfl (fun ls1 h1 => k ls1 _ hn (hL.set (v := .int (x + Int32.ofInt n)) hlt trivial h1) (by rw [List.length_set]; exact hN) hS)
theorem tw_a_iadd (hd : decode (tw_mB m) pc = .ok (.iadd, 1)) (hn : tw_next m (i + 1) (pc + 1)) : tw_AdvS l D aC z b L xs md σ m pc ls (.int y :: .int x :: r) (i + 1) ls (.int (x + y) :: r) :=
  fun ad p e s mi args below meth c H locs cells slots Rm Q lsC hC hH hL hN hS hf hl k => lv_iadd hC.1 hC.2.1 hd (k lsC _ hn hL hN (tw_okc trivial (tw_okt (tw_okt hS))))
theorem tw_a_isub (hd : decode (tw_mB m) pc = .ok (.isub, 1)) (hn : tw_next m (i + 1) (pc + 1)) : tw_AdvS l D aC z b L xs md σ m pc ls (.int y :: .int x :: r) (i + 1) ls (.int (x - y) :: r) :=
  fun ad p e s mi args below meth c H locs cells slots Rm Q lsC hC hH hL hN hS hf hl k => lv_isub hC.1 hC.2.1 hd (k lsC _ hn hL hN (tw_okc trivial (tw_okt (tw_okt hS))))
theorem tw_a_imul (hd : decode (tw_mB m) pc = .ok (.imul, 1)) (hn : tw_next m (i + 1) (pc + 1)) : tw_AdvS l D aC z b L xs md σ m pc ls (.int y :: .int x :: r) (i + 1) ls (.int (x * y) :: r) :=
  fun ad p e s mi args below meth c H locs cells slots Rm Q lsC hC hH hL hN hS hf hl k => lv_imul hC.1 hC.2.1 hd (k lsC _ hn hL hN (tw_okc trivial (tw_okt (tw_okt hS))))
theorem tw_a_iand (hd : decode (tw_mB m) pc = .ok (.iand, 1)) (hn : tw_next m (i + 1) (pc + 1)) : tw_AdvS l D aC z b L xs md σ m pc ls (.int y :: .int x :: r) (i + 1) ls (.int (x &&& y) :: r) :=
  fun ad p e s mi args below meth c H locs cells slots Rm Q lsC hC hH hL hN hS hf hl k => lv_iand hC.1 hC.2.1 hd (k lsC _ hn hL hN (tw_okc trivial (tw_okt (tw_okt hS))))
theorem tw_a_ior (hd : decode (tw_mB m) pc = .ok (.ior, 1)) (hn : tw_next m (i + 1) (pc + 1)) : tw_AdvS l D aC z b L xs md σ m pc ls (.int y :: .int x :: r) (i + 1) ls (.int (x ||| y) :: r) :=
  fun ad p e s mi args below meth c H locs cells slots Rm Q lsC hC hH hL hN hS hf hl k => lv_ior hC.1 hC.2.1 hd (k lsC _ hn hL hN (tw_okc trivial (tw_okt (tw_okt hS))))
theorem tw_a_ixor (hd : decode (tw_mB m) pc = .ok (.ixor, 1)) (hn : tw_next m (i + 1) (pc + 1)) : tw_AdvS l D aC z b L xs md σ m pc ls (.int y :: .int x :: r) (i + 1) ls (.int (x ^^^ y) :: r) :=
  fun ad p e s mi args below meth c H locs cells slots Rm Q lsC hC hH hL hN hS hf hl k => lv_ixor hC.1 hC.2.1 hd (k lsC _ hn hL hN (tw_okc trivial (tw_okt (tw_okt hS))))
theorem tw_a_ishl (hd : decode (tw_mB m) pc = .ok (.ishl, 1)) (hn : tw_next m (i + 1) (pc + 1)) : tw_AdvS l D aC z b L xs md σ m pc ls (.int y :: .int x :: r) (i + 1) ls (.int (x <<< (y &&& 31)) :: r) :=
  fun ad p e s mi args below meth c H locs cells slots Rm Q lsC hC hH hL hN hS hf hl k => lv_ishl hC.1 hC.2.1 hd (k lsC _ hn hL hN (tw_okc trivial (tw_okt (tw_okt hS))))
theorem tw_a_ishr (hd : decode (tw_mB m) pc = .ok (.ishr, 1)) (hn : tw_next m (i + 1) (pc + 1)) : tw_AdvS l D aC z b L xs md σ m pc ls (.int y :: .int x :: r) (i + 1) ls (.int (x >>> (y &&& 31)) :: r) :=
  fun ad p e s mi args below meth c H locs cells slots Rm Q lsC hC hH hL hN hS hf hl k => lv_ishr hC.1 hC.2.1 hd (k lsC _ hn hL hN (tw_okc trivial (tw_okt (tw_okt hS))))
theorem tw_a_idiv (hd : decode (tw_mB m) pc = .ok (.idiv, 1)) (hn : tw_next m (i + 1) (pc + 1)) (h0 : ¬ y = 0) : tw_AdvS l D aC z b L xs md σ m pc ls (.int y :: .int x :: r) (i + 1) ls (.int (x / y) :: r) :=
  fun ad p e s mi args below meth c H locs cells slots Rm Q lsC hC hH hL hN hS hf hl k => lv_idiv hC.1 hC.2.1 hd h0 (k lsC _ hn hL hN (tw_okc trivial (tw_okt (tw_okt hS))))
theorem tw_a_irem (hd : decode (tw_mB m) pc = .ok (.irem, 1)) (hn : tw_next m (i + 1) (pc + 1)) (h0 : ¬ y = 0) : tw_AdvS l D aC z b L xs md σ m pc ls (.int y :: .int x :: r) (i + 1) ls (.int (x - x / y * y) :: r) :=
  fun ad p e s mi args below meth c H locs cells slots Rm Q lsC hC hH hL hN hS hf hl k => lv_irem hC.1 hC.2.1 hd h0 (k lsC _ hn hL hN (tw_okc trivial (tw_okt (tw_okt hS))))
theorem tw_a_ineg (hd : decode (tw_mB m) pc = .ok (.ineg, 1)) (hn : tw_next m (i + 1) (pc + 1)) : tw_AdvS l D aC z b L xs md σ m pc ls (.int x :: r) (i + 1) ls (.int (-x) :: r) :=
  fun ad p e s mi args below meth c H locs cells slots Rm Q lsC hC hH hL hN hS hf hl k => lv_ineg hC.1 hC.2.1 hd (k lsC _ hn hL hN (tw_okc trivial (tw_okt hS)))
theorem tw_a_i2b (hd : decode (tw_mB m) pc = .ok (.i2b, 1)) (hn : tw_next m (i + 1) (pc + 1)) : tw_AdvS l D aC z b L xs md σ m pc ls (.int x :: r) (i + 1) ls (.int (x.toInt8.toInt32) :: r) :=
  fun ad p e s mi args below meth c H locs cells slots Rm Q lsC hC hH hL hN hS hf hl k => lv_i2b hC.1 hC.2.1 hd rfl (k lsC _ hn hL hN (tw_okc trivial (tw_okt hS)))
theorem tw_a_i2c (hd : decode (tw_mB m) pc = .ok (.i2c, 1)) (hn : tw_next m (i + 1) (pc + 1)) : tw_AdvS l D aC z b L xs md σ m pc ls (.int x :: r) (i + 1) ls (.int ((x.toUInt32 % 65536).toInt32) :: r) :=
  fun ad p e s mi args below meth c H locs cells slots Rm Q lsC hC hH hL hN hS hf hl k => lv_i2c hC.1 hC.2.1 hd rfl (k lsC _ hn hL hN (tw_okc trivial (tw_okt hS)))
theorem tw_a_dup {u : Value} (hd : decode (tw_mB m) pc = .ok (.dup, 1)) (hn : tw_next m (i + 1) (pc + 1)) : tw_AdvS l D aC z b L xs md σ m pc ls (u :: r) (i + 1) ls (u :: u :: r) :=
  fun ad p e s mi args below meth c H locs cells slots Rm Q lsC hC hH hL hN hS hf hl k => lv_dup hC.1 hC.2.1 hd (tw_okv_cat (tw_okh hS)) (k lsC _ hn hL hN (tw_okc (tw_okh hS) hS))
theorem tw_a_dup2 {u w : Value} (hd : decode (tw_mB m) pc = .ok (.dup2, 1)) (hn : tw_next m (i + 1) (pc + 1)) : tw_AdvS l D aC z b L xs md σ m pc ls (u :: w :: r) (i + 1) ls (u :: w :: u :: w :: r) :=
  fun ad p e s mi args below meth c H locs cells slots Rm Q lsC hC hH hL hN hS hf hl k => lv_dup2_11 hC.1 hC.2.1 hd (tw_okv_cat (tw_okh hS)) (tw_okv_cat (tw_okh (tw_okt hS))) (k lsC _ hn hL hN (tw_okc (tw_okh hS) (tw_okc (tw_okh (tw_okt hS)) hS)))
theorem tw_a_pop {u : Value} (hd : decode (tw_mB m) pc = .ok (.pop, 1)) (hn : tw_next m (i + 1) (pc + 1)) : tw_AdvS l D aC z b L xs md σ m pc ls (u :: r) (i + 1) ls r :=
  fun ad p e s mi args below meth c H locs cells slots Rm Q lsC hC hH hL hN hS hf hl k => lv_pop hC.1 hC.2.1 hd (tw_okv_cat (tw_okh hS)) (k lsC _ hn hL hN (tw_okt hS))
theorem tw_a_icmp_eq (hd : decode (tw_mB m) pc = .ok (.if_icmp .eq off, 3)) (hn : tw_next m (i + 1) (pc + 3)) (ht : (pc : Int) + off = (tgt : Int)) (hg : tw_next m a tgt) : tw_AdvS l D aC z b L xs md σ m pc ls (.int y :: .int x :: r) (if tw_cnd .eq x y then a else i + 1) ls r := by
  intro ad p e s mi args below meth c H locs cells slots Rm Q lsC hC hH hL hN hS hf hl k
  refine lv_icmp_eq hC.1 hC.2.1 hd ht (fun h => ?_) (fun h => ?_)
  · have e1 : tw_cnd .eq x y = true := by unfold tw_cnd; simp only [decide_eq_true_eq]; exact h
    rw [if_pos e1] at k
    exact k lsC _ hg hL hN (tw_okt (tw_okt hS))
  · have e1 : ¬ tw_cnd .eq x y = true := by unfold tw_cnd; simp only [decide_eq_true_eq]; exact h
    rw [if_neg e1] at k
    exact k lsC _ hn hL hN (tw_okt (tw_okt hS))
theorem tw_a_if_eq (hd : decode (tw_mB m) pc = .ok (.ifCond .eq off, 3)) (hn : tw_next m (i + 1) (pc + 3)) (ht : (pc : Int) + off = (tgt : Int)) (hg : tw_next m a tgt) : tw_AdvS l D aC z b L xs md σ m pc ls (.int x :: r) (if tw_cnd .eq x 0 then a else i + 1) ls r := by
  intro ad p e s mi args below meth c H locs cells slots Rm Q lsC hC hH hL hN hS hf hl k
  refine lv_if_eq hC.1 hC.2.1 hd ht (fun h => ?_) (fun h => ?_)
  · have e1 : tw_cnd .eq x 0 = true := by unfold tw_cnd; simp only [decide_eq_true_eq]; exact h
    rw [if_pos e1] at k
    exact k lsC _ hg hL hN (tw_okt hS)
  · have e1 : ¬ tw_cnd .eq x 0 = true := by unfold tw_cnd; simp only [decide_eq_true_eq]; exact h
    rw [if_neg e1] at k
    exact k lsC _ hn hL hN (tw_okt hS)
theorem tw_a_icmp_ne (hd : decode (tw_mB m) pc = .ok (.if_icmp .ne off, 3)) (hn : tw_next m (i + 1) (pc + 3)) (ht : (pc : Int) + off = (tgt : Int)) (hg : tw_next m a tgt) : tw_AdvS l D aC z b L xs md σ m pc ls (.int y :: .int x :: r) (if tw_cnd .ne x y then a else i + 1) ls r := by
  intro ad p e s mi args below meth c H locs cells slots Rm Q lsC hC hH hL hN hS hf hl k
  refine lv_icmp_ne hC.1 hC.2.1 hd ht (fun h => ?_) (fun h => ?_)
  · have e1 : tw_cnd .ne x y = true := by unfold tw_cnd; simp only [Bool.not_eq_true', decide_eq_false_iff_not]; exact h
    rw [if_pos e1] at k
    exact k lsC _ hg hL hN (tw_okt (tw_okt hS))
  · have e1 : ¬ tw_cnd .ne x y = true := by unfold tw_cnd; simp [h]
    rw [if_neg e1] at k
    exact k lsC _ hn hL hN (tw_okt (tw_okt hS))
theorem tw_a_if_ne (hd : decode (tw_mB m) pc = .ok (.ifCond .ne off, 3)) (hn : tw_next m (i + 1) (pc + 3)) (ht : (pc : Int) + off = (tgt : Int)) (hg : tw_next m a tgt) : tw_AdvS l D aC z b L xs md σ m pc ls (.int x :: r) (if tw_cnd .ne x 0 then a else i + 1) ls r := by
  intro ad p e s mi args below meth c H locs cells slots Rm Q lsC hC hH hL hN hS hf hl k
  refine lv_if_ne hC.1 hC.2.1 hd ht (fun h => ?_) (fun h => ?_)
  · have e1 : tw_cnd .ne x 0 = true := by unfold tw_cnd; simp only [Bool.not_eq_true', decide_eq_false_iff_not]; exact h
    rw [if_pos e1] at k
    exact k lsC _ hg hL hN (tw_okt hS)
  · have e1 : ¬ tw_cnd .ne x 0 = true := by unfold tw_cnd; simp [h]
    rw [if_neg e1] at k
    exact k lsC _ hn hL hN (tw_okt hS)
theorem tw_a_icmp_lt (hd : decode (tw_mB m) pc = .ok (.if_icmp .lt off, 3)) (hn : tw_next m (i + 1) (pc + 3)) (ht : (pc : Int) + off = (tgt : Int)) (hg : tw_next m a tgt) : tw_AdvS l D aC z b L xs md σ m pc ls (.int y :: .int x :: r) (if tw_cnd .lt x y then a else i + 1) ls r := by
  intro ad p e s mi args below meth c H locs cells slots Rm Q lsC hC hH hL hN hS hf hl k
  refine lv_icmp_lt hC.1 hC.2.1 hd ht (fun h => ?_) (fun h => ?_)
  · have e1 : tw_cnd .lt x y = true := by unfold tw_cnd; simp only [decide_eq_true_eq]; exact h
    rw [if_pos e1] at k
    exact k lsC _ hg hL hN (tw_okt (tw_okt hS))
  · have e1 : ¬ tw_cnd .lt x y = true := by unfold tw_cnd; simp only [decide_eq_true_eq]; exact h
    rw [if_neg e1] at k
    exact k lsC _ hn hL hN (tw_okt (tw_okt hS))
theorem tw_a_if_lt (hd : decode (tw_mB m) pc = .ok (.ifCond .lt off, 3)) (hn : tw_next m (i + 1) (pc + 3)) (ht : (pc : Int) + off = (tgt : Int)) (hg : tw_next m a tgt) : tw_AdvS l D aC z b L xs md σ m pc ls (.int x :: r) (if tw_cnd .lt x 0 then a else i + 1) ls r := by
  intro ad p e s mi args below meth c H locs cells slots Rm Q lsC hC hH hL hN hS hf hl k
  refine lv_if_lt hC.1 hC.2.1 hd ht (fun h => ?_) (fun h => ?_)
  · have e1 : tw_cnd .lt x 0 = true := by unfold tw_cnd; simp only [decide_eq_true_eq]; exact h
    rw [if_pos e1] at k
    exact k lsC _ hg hL hN (tw_okt hS)
  · have e1 : ¬ tw_cnd .lt x 0 = true := by unfold tw_cnd; simp only [decide_eq_true_eq]; exact h
    rw [if_neg e1] at k
    exact k lsC _ hn hL hN (tw_okt hS)
theorem tw_a_icmp_ge (hd : decode (tw_mB m) pc = .ok (.if_icmp .ge off, 3)) (hn : tw_next m (i + 1) (pc + 3)) (ht : (pc : Int) + off = (tgt : Int)) (hg : tw_next m a tgt) : tw_AdvS l D aC z b L xs md σ m pc ls (.int y :: .int x :: r) (if tw_cnd .ge x y then a else i + 1) ls r := by
  intro ad p e s mi args below meth c H locs cells slots Rm Q lsC hC hH hL hN hS hf hl k
  refine lv_icmp_ge hC.1 hC.2.1 hd ht (fun h => ?_) (fun h => ?_)
  · have e1 : tw_cnd .ge x y = true := by unfold tw_cnd; simp only [decide_eq_true_eq]; exact h
    rw [if_pos e1] at k
    exact k lsC _ hg hL hN (tw_okt (tw_okt hS))
  · have e1 : ¬ tw_cnd .ge x y = true := by unfold tw_cnd; simp only [decide_eq_true_eq]; exact h
    rw [if_neg e1] at k
    exact k lsC _ hn hL hN (tw_okt (tw_okt hS))
theorem tw_a_if_ge (hd : decode (tw_mB m) pc = .ok (.ifCond .ge off, 3)) (hn : tw_next m (i + 1) (pc + 3)) (ht : (pc : Int) + off = (tgt : Int)) (hg : tw_next m a tgt) : tw_AdvS l D aC z b L xs md σ m pc ls (.int x :: r) (if tw_cnd .ge x 0 then a else i + 1) ls r := by
  intro ad p e s mi args below meth c H locs cells slots Rm Q lsC hC hH hL hN hS hf hl k
  refine lv_if_ge hC.1 hC.2.1 hd ht (fun h => ?_) (fun h => ?_)
  · have e1 : tw_cnd .ge x 0 = true := by unfold tw_cnd; simp only [decide_eq_true_eq]; exact h
    rw [if_pos e1] at k
    exact k lsC _ hg hL hN (tw_okt hS)
  · have e1 : ¬ tw_cnd .ge x 0 = true := by unfold tw_cnd; simp only [decide_eq_true_eq]; exact h
    rw [if_neg e1] at k
    exact k lsC _ hn hL hN (tw_okt hS)
theorem tw_a_icmp_gt (hd : decode (tw_mB m) pc = .ok (.if_icmp .gt off, 3)) (hn : tw_next m (i + 1) (pc + 3)) (ht : (pc : Int) + off = (tgt : Int)) (hg : tw_next m a tgt) : tw_AdvS l D aC z b L xs md σ m pc ls (.int y :: .int x :: r) (if tw_cnd .gt x y then a else i + 1) ls r := by
  intro ad p e s mi args below meth c H locs cells slots Rm Q lsC hC hH hL hN hS hf hl k
  refine lv_icmp_gt hC.1 hC.2.1 hd ht (fun h => ?_) (fun h => ?_)
  · have e1 : tw_cnd .gt x y = true := by unfold tw_cnd; simp only [decide_eq_true_eq]; exact h
    rw [if_pos e1] at k
    exact k lsC _ hg hL hN (tw_okt (tw_okt hS))
  · have e1 : ¬ tw_cnd .gt x y = true := by unfold tw_cnd; simp only [decide_eq_true_eq]; exact h
    rw [if_neg e1] at k
    exact k lsC _ hn hL hN (tw_okt (tw_okt hS))
theorem tw_a_if_gt (hd : decode (tw_mB m) pc = .ok (.ifCond .gt off, 3)) (hn : tw_next m (i + 1) (pc + 3)) (ht : (pc : Int) + off = (tgt : Int)) (hg : tw_next m a tgt) : tw_AdvS l D aC z b L xs md σ m pc ls (.int x :: r) (if tw_cnd .gt x 0 then a else i + 1) ls r := by
  intro ad p e s mi args below meth c H locs cells slots Rm Q lsC hC hH hL hN hS hf hl k
  refine lv_if_gt hC.1 hC.2.1 hd ht (fun h => ?_) (fun h => ?_)
  · have e1 : tw_cnd .gt x 0 = true := by unfold tw_cnd; simp only [decide_eq_true_eq]; exact h
    rw [if_pos e1] at k
    exact k lsC _ hg hL hN (tw_okt hS)
  · have e1 : ¬ tw_cnd .gt x 0 = true := by unfold tw_cnd; simp only [decide_eq_true_eq]; exact h
    rw [if_neg e1] at k
    exact k lsC _ hn hL hN (tw_okt hS)
theorem tw_a_icmp_le (hd : decode (tw_mB m) pc = .ok (.if_icmp .le off, 3)) (hn : tw_next m (i + 1) (pc + 3)) (ht : (pc : Int) + off = (tgt : Int)) (hg : tw_next m a tgt) : tw_AdvS l D aC z b L xs md σ m pc ls (.int y :: .int x :: r) (if tw_cnd .le x y then a else i + 1) ls r := by
  intro ad p e s mi args below meth c H locs cells slots Rm Q lsC hC hH hL hN hS hf hl k
  refine lv_icmp_le hC.1 hC.2.1 hd ht (fun h => ?_) (fun h => ?_)
  · have e1 : tw_cnd .le x y = true := by unfold tw_cnd; simp only [decide_eq_true_eq]; exact h
    rw [if_pos e1] at k
    exact k lsC _ hg hL hN (tw_okt (tw_okt hS))
  · have e1 : ¬ tw_cnd .le x y = true := by unfold tw_cnd; simp only [decide_eq_true_eq]; exact h
    rw [if_neg e1] at k
    exact k lsC _ hn hL hN (tw_okt (tw_okt hS))
theorem tw_a_if_le (hd : decode (tw_mB m) pc = .ok (.ifCond .le off, 3)) (hn : tw_next m (i + 1) (pc + 3)) (ht : (pc : Int) + off = (tgt : Int)) (hg : tw_next m a tgt) : tw_AdvS l D aC z b L xs md σ m pc ls (.int x :: r) (if tw_cnd .le x 0 then a else i + 1) ls r := by
  intro ad p e s mi args below meth c H locs cells slots Rm Q lsC hC hH hL hN hS hf hl k
  refine lv_if_le hC.1 hC.2.1 hd ht (fun h => ?_) (fun h => ?_)
  · have e1 : tw_cnd .le x 0 = true := by unfold tw_cnd; simp only [decide_eq_true_eq]; exact h
    rw [if_pos e1] at k
    exact k lsC _ hg hL hN (tw_okt hS)
  · have e1 : ¬ tw_cnd .le x 0 = true := by unfold tw_cnd; simp only [decide_eq_true_eq]; exact h
    rw [if_neg e1] at k
    exact k lsC _ hn hL hN (tw_okt hS)
theorem tw_a_ifnullN {q : Nat} (hd : decode (tw_mB m) pc = .ok (.ifnull off, 3)) (hn : tw_next m (i + 1) (pc + 3)) (ht : (pc : Int) + off = (tgt : Int)) (hg : tw_next m a tgt) : tw_AdvS l D aC z b L xs md σ m pc ls (.null :: r) (a) ls r :=
  fun ad p e s mi args below meth c H locs cells slots Rm Q lsC hC hH hL hN hS hf hl k => lv_ifnullN hC.1 hC.2.1 hd ht (k lsC _ hg hL hN (tw_okt hS))
theorem tw_a_ifnull {q : Nat} (hd : decode (tw_mB m) pc = .ok (.ifnull off, 3)) (hn : tw_next m (i + 1) (pc + 3)) (ht : (pc : Int) + off = (tgt : Int)) (hg : tw_next m a tgt) : tw_AdvS l D aC z b L xs md σ m pc ls (.ref q :: r) (i + 1) ls r :=
  fun ad p e s mi args below meth c H locs cells slots Rm Q lsC hC hH hL hN hS hf hl k => lv_ifnull hC.1 hC.2.1 hd (k lsC _ hn hL hN (tw_okt hS))
theorem tw_a_ifnonnullN {q : Nat} (hd : decode (tw_mB m) pc = .ok (.ifnonnull off, 3)) (hn : tw_next m (i + 1) (pc + 3)) (ht : (pc : Int) + off = (tgt : Int)) (hg : tw_next m a tgt) : tw_AdvS l D aC z b L xs md σ m pc ls (.null :: r) (i + 1) ls r :=
  fun ad p e s mi args below meth c H locs cells slots Rm Q lsC hC hH hL hN hS hf hl k => lv_ifnonnullN hC.1 hC.2.1 hd (k lsC _ hn hL hN (tw_okt hS))
theorem tw_a_ifnonnull {q : Nat} (hd : decode (tw_mB m) pc = .ok (.ifnonnull off, 3)) (hn : tw_next m (i + 1) (pc + 3)) (ht : (pc : Int) + off = (tgt : Int)) (hg : tw_next m a tgt) : tw_AdvS l D aC z b L xs md σ m pc ls (.ref q :: r) (a) ls r :=
  fun ad p e s mi args below meth c H locs cells slots Rm Q lsC hC hH hL hN hS hf hl k => lv_ifnonnull hC.1 hC.2.1 hd ht (k lsC _ hg hL hN (tw_okt hS))
theorem tw_a_goto (hd : decode (tw_mB m) pc = .ok (.goto off, 3)) (ht : (pc : Int) + off = (tgt : Int)) (hg : tw_next m a tgt) : tw_AdvS l D aC z b L xs md σ m pc ls st a ls st :=
  fun ad p e s mi args below meth c H locs cells slots Rm Q lsC hC hH hL hN hS hf hl k => lv_goto hC.1 hC.2.1 hd ht (k lsC _ hg hL hN hS)
theorem tw_a_swOut {dflt lo hi : Int} {offs : Array Int} {len : Nat} (hd : decode (tw_mB m) pc = .ok (.tableswitch dflt lo hi offs, len)) (ht : (pc : Int) + dflt = (tgt : Int)) (hg : tw_next m a tgt) (hx : x.toInt < lo ∨ hi < x.toInt) : tw_AdvS l D aC z b L xs md σ m pc ls (.int x :: r) a ls r :=
  fun ad p e s mi args below meth c H locs cells slots Rm Q lsC hC hH hL hN hS hf hl k => lv_tableOut hC.1 hC.2.1 hd hx ht (k lsC _ hg hL hN (tw_okt hS))
theorem tw_a_swIn {dflt lo hi : Int} {offs : Array Int} {len : Nat} (hd : decode (tw_mB m) pc = .ok (.tableswitch dflt lo hi offs, len)) (h1 : ¬ x.toInt < lo) (h2 : ¬ hi < x.toInt) (ho : offs[(x.toInt - lo).toNat]? = some off) (ht : (pc : Int) + off = (tgt : Int)) (hg : tw_next m a tgt) : tw_AdvS l D aC z b L xs md σ m pc ls (.int x :: r) a ls r :=
  fun ad p e s mi args below meth c H locs cells slots Rm Q lsC hC hH hL hN hS hf hl k => lv_tableIn hC.1 hC.2.1 hd h1 h2 ho ht (k lsC _ hg hL hN (tw_okt hS))
theorem tw_sum1 {ad : Nat → Nat} : ∀ {w : List Value}, (∀ v ∈ w, tw_okv md v) → ((w.map (tw_rel ad)).map fun v => v.category).sum = w.length
  | [], _ => rfl
  | v :: w, h => by
    have h1 := tw_sum1 (ad := ad) (tw_okt h)
    have h2 : (tw_rel ad v).category = 1 := tw_okv_cat (tw_okh h)
    simp only [List.map_cons, List.sum_cons, List.length_cons, h1, h2]
    omega
theorem tw_a_objInit {q idx : Nat} (hd : decode (tw_mB m) pc = .ok (.invokespecial idx, 3)) (hn : tw_next m (i + 1) (pc + 3)) (h1 : Jvm.Cond.methodLink (tw_own m) idx Lib.objectInit ∈ tw_gw) (h2 : Jvm.Cond.instanceMethod Lib.objectInit ∈ tw_gw) (h3 : Jvm.Cond.code Lib.objectInit ⟨#[0xb1]⟩ 1 none ∈ tw_gw) (hr : r.length ≤ 8) : tw_AdvS l D aC z b L xs md σ m pc ls (.ref q :: r) (i + 1) ls r := by
  intro ad p e s mi args below meth c H locs cells slots Rm Q lsC hC hH hL hN hS hf hl k
  have hsum := tw_sum1 (ad := ad) (tw_okt hS)
  exact W.objInit hC.1 hC.2.1 hC.2.2.2.1 (hC.2.2.2.2.1 _ h1) (hC.2.2.2.2.1 _ h2) (hC.2.2.2.2.1 _ h3) rfl (by show lsC.size = _; rw [hL.1, hN, hC.2.2.1]) rfl hd hf (by show 2 * 0 + _ + 12 ≤ _; omega) (k lsC _ hn hL hN (tw_okt hS))
end tw_A
end
section
/-! the classes' words, types and names; the shapes of the cells (looked at by program) -/
theorem tw_cl_at {ci : Nat} (h : ci < vwCl.length) : vwCl[ci]? = some ((tw_cl ci).1, (tw_cl ci).2.1, (tw_cl ci).2.2) := by
  unfold tw_cl
  rw [List.getD_eq_getElem?_getD, List.getElem?_eq_getElem h]
  rfl
theorem tw_places (ws : List Jvm.Cond) (ps : List Nat) (hp : ws = ps.filterMap (fun i => lw_tbl[i]?)) (h : ws.all goodWord = true) : ∀ w ∈ ws, w ∈ tw_gw := by
  intro w hw
  have h1 := List.all_eq_true.mp h w hw
  rw [hp] at hw
  obtain ⟨i, -, hi⟩ := List.mem_filterMap.mp hw
  exact List.mem_filter.mpr ⟨List.mem_of_getElem? hi, h1⟩
set_option maxRecDepth 100000 in
theorem tw_in0 : ∀ w ∈ u_ws RX0 TX0 4, w ∈ tw_gw := tw_places _ [158, 160, 162, 164] (by decide +kernel) (by decide +kernel)
set_option maxRecDepth 100000 in
theorem tw_in1 : ∀ w ∈ u_ws RX1 TX1 5, w ∈ tw_gw := tw_places _ [111, 113, 115, 117, 119] (by decide +kernel) (by decide +kernel)
set_option maxRecDepth 100000 in
theorem tw_in2 : ∀ w ∈ u_ws RX2 TX2 3, w ∈ tw_gw := tw_places _ [242, 244, 246] (by decide +kernel) (by decide +kernel)
set_option maxRecDepth 100000 in
theorem tw_in3 : ∀ w ∈ u_ws RX3 TX3 6, w ∈ tw_gw := tw_places _ [135, 137, 139, 141, 143, 145] (by decide +kernel) (by decide +kernel)
set_option maxRecDepth 100000 in
theorem tw_in4 : ∀ w ∈ u_ws RX4 TX4 4, w ∈ tw_gw := tw_places _ [195, 197, 199, 201] (by decide +kernel) (by decide +kernel)
set_option maxRecDepth 100000 in
theorem tw_in5 : ∀ w ∈ u_ws RX5 TX5 2, w ∈ tw_gw := tw_places _ [257, 259] (by decide +kernel) (by decide +kernel)
set_option maxRecDepth 100000 in
theorem tw_in6 : ∀ w ∈ u_ws RX6 TX6 5, w ∈ tw_gw := tw_places _ [172, 174, 176, 178, 180] (by decide +kernel) (by decide +kernel)
set_option maxRecDepth 100000 in
theorem tw_in7 : ∀ w ∈ u_ws RX7 TX7 3, w ∈ tw_gw := tw_places _ [213, 215, 217] (by decide +kernel) (by decide +kernel)
set_option maxRecDepth 100000 in
theorem tw_in8 : ∀ w ∈ u_ws RX8 TX8 2, w ∈ tw_gw := tw_places _ [228, 230] (by decide +kernel) (by decide +kernel)
set_option maxRecDepth 100000 in
theorem tw_in9 : ∀ w ∈ u_ws RX9 TX9 2, w ∈ tw_gw := tw_places _ [86, 88] (by decide +kernel) (by decide +kernel)
set_option maxRecDepth 100000 in
theorem tw_in10 : ∀ w ∈ u_ws RX11 TX11 10, w ∈ tw_gw := tw_places _ [272, 274, 276, 278, 280, 282, 284, 286, 288, 290] (by decide +kernel) (by decide +kernel)
set_option maxRecDepth 100000 in
theorem tw_in11 : ∀ w ∈ u_ws RX12 TX12 41, w ∈ tw_gw := tw_places _ [1075, 1077, 1079, 1081, 1083, 1085, 1087, 1089, 1091, 1093, 1095, 1097, 1099, 1101, 1103, 1105, 1107, 1109, 1111, 1113, 1115, 1117, 1119, 1121, 1123, 1125, 1127, 1129, 1131, 1133, 1135, 1137, 1139, 1141, 1143, 1145, 1147, 1149, 1151, 1153, 1155] (by decide +kernel) (by decide +kernel)
theorem tw_in : ∀ ci, ci < vwCl.length → ∀ w ∈ u_ws (tw_cl ci).1 (tw_cl ci).2.1 (tw_cl ci).2.2, w ∈ tw_gw
  | 0, _ => tw_in0
  | 1, _ => tw_in1
  | 2, _ => tw_in2
  | 3, _ => tw_in3
  | 4, _ => tw_in4
  | 5, _ => tw_in5
  | 6, _ => tw_in6
  | 7, _ => tw_in7
  | 8, _ => tw_in8
  | 9, _ => tw_in9
  | 10, _ => tw_in10
  | 11, _ => tw_in11
  | n + 12, h => absurd h (by show ¬ n + 12 < 12; omega)
def tw_tyf (ci k : Nat) : Jvm.ClassFile.FieldType := (tw_ty ci k).getD .int
set_option maxRecDepth 100000 in
theorem tw_tyf_ok : ∀ ci, ci < vwCl.length → ∀ k, k < (tw_cl ci).2.2 → parseFieldDescriptor ((tw_cl ci).2.1 k).2.2.1 = some (tw_tyf ci k) := by decide +kernel
set_option maxRecDepth 100000 in
theorem tw_nm : ∀ ci, ci < vwCl.length → ∀ a, a < (tw_cl ci).2.2 → ∀ b, b < (tw_cl ci).2.2 → a ≠ b → ((tw_cl ci).2.1 a).2.1 ≠ ((tw_cl ci).2.1 b).2.1 := by decide +kernel
def tw_shI (k : Nat) : Bool := if Nat.blt (tw_sh k).1 20 then Nat.blt (tw_sh k).1 vwCl.length && Nat.beq (tw_sh k).2 (tw_cl (tw_sh k).1).2.2 &&
    (List.range (tw_sh k).2).all (fun j => (if Nat.beq (tw_kd k j).1 0 then decide (tw_tyf (tw_sh k).1 j = .int) || decide (tw_tyf (tw_sh k).1 j = .boolean) else refKind (tw_tyf (tw_sh k).1 j)))
  else Nat.ble (tw_sh k).1 24 && Nat.ble (tw_sh k).2 4000 && (if Nat.beq (tw_sh k).1 24 then (List.range (tw_sh k).2).all (fun j => Nat.beq (tw_kd k j).1 1) else decide (tw_kdL.getD k [] = []))
set_option maxRecDepth 100000 in
theorem tw_shI_all : (List.range tw_NC).all (fun i => tw_shI (i + 1)) = true := by decide +kernel
theorem tw_shI_at {k : Nat} {md : tw_Md} (hc : tw_cn md ≤ tw_NC) (h : tw_live k md = true) : tw_shI k = true := by
  simp only [tw_live, Bool.and_eq_true, Nat.ble_eq] at h
  have h0 := List.all_eq_true.mp tw_shI_all (k - 1) (List.mem_range.mpr (by omega))
  rwa [show k - 1 + 1 = k by omega] at h0
theorem tw_shI_O {k ci : Nat} {md : tw_Md} (hc : tw_cn md ≤ tw_NC) (h : tw_isO k ci md = true) (hci : ci < 20) : tw_live k md = true ∧ (tw_sh k).1 = ci ∧ ci < vwCl.length ∧ (tw_sh k).2 = (tw_cl ci).2.2 ∧ ∀ j, j < (tw_sh k).2 → ((tw_kd k j).1 = 0 ∧ (tw_tyf ci j = .int ∨ tw_tyf ci j = .boolean)) ∨ ((tw_kd k j).1 ≠ 0 ∧ refKind (tw_tyf ci j) = true) := by
  simp only [tw_isO, Bool.and_eq_true] at h
  obtain ⟨h1, h2⟩ := h
  have h3 := Nat.eq_of_beq_eq_true h2
  have h4 := tw_shI_at hc h1
  unfold tw_shI at h4
  rw [h3, if_pos (by simpa [Nat.blt_eq] using hci)] at h4
  simp only [Bool.and_eq_true, Nat.blt_eq] at h4
  obtain ⟨⟨h5, h6⟩, h7⟩ := h4
  refine ⟨h1, h3, h5, Nat.eq_of_beq_eq_true h6, fun j hj => ?_⟩
  have h8 := List.all_eq_true.mp h7 j (List.mem_range.mpr hj)
  by_cases hz : (tw_kd k j).1 = 0
  · rw [hz, if_pos (by rfl)] at h8
    simp only [Bool.or_eq_true, decide_eq_true_eq] at h8
    exact Or.inl ⟨hz, h8⟩
  · rw [if_neg (fun q => hz (Nat.eq_of_beq_eq_true q))] at h8
    exact Or.inr ⟨hz, h8⟩
theorem tw_isA_at {k tag : Nat} {md : tw_Md} {j : Int32} (h : tw_isA k tag md j = true) : tw_live k md = true ∧ (tw_sh k).1 = tag ∧ vp_in j (tw_sh k).2 := by
  simp only [tw_isA, Bool.and_eq_true, Bool.not_eq_true', decide_eq_false_iff_not, Nat.blt_eq] at h
  obtain ⟨⟨⟨h1, h2⟩, h3⟩, h4⟩ := h
  refine ⟨h1, Nat.eq_of_beq_eq_true h2, fun q => ?_⟩
  rcases q with q | q
  · exact h3 q
  · omega
/-- an array of numbers has no references -/
theorem tw_kd_A {k : Nat} {md : tw_Md} (hc : tw_cn md ≤ tw_NC) (h : tw_live k md = true) (h1 : 20 ≤ (tw_sh k).1) : (tw_sh k).2 ≤ 4000 ∧ (tw_sh k).1 ≤ 24 := by
  have h4 := tw_shI_at hc h
  unfold tw_shI at h4
  rw [if_neg (by simp [Nat.blt_eq]; omega)] at h4
  simp only [Bool.and_eq_true, Nat.ble_eq] at h4
  exact ⟨h4.1.2, h4.1.1⟩
theorem tw_val_congr {md : tw_Md} {σ σ' : tw_Mem} {k j : Nat} (h : σ' k j = σ k j) : tw_val md σ' k j = tw_val md σ k j := by
  unfold tw_val
  rw [h]
theorem tw_cellE_congr {md : tw_Md} {ad : Nat → Nat} {aC : Nat → ClassId} {σ σ' : tw_Mem} {k : Nat} (h : ∀ j, σ' k j = σ k j) : tw_cellE md ad aC σ' k = tw_cellE md ad aC σ k := by
  have h1 : ∀ j, tw_val md σ' k j = tw_val md σ k j := fun j => tw_val_congr (h j)
  unfold tw_cellE
  simp only [h, h1]
theorem tw_upd_ne {σ : tw_Mem} {k j k' : Nat} {x : Int32} (h : k' ≠ k) (j' : Nat) : tw_upd σ k j x k' j' = σ k' j' := by
  unfold tw_upd
  rw [if_neg (fun q => h q.1)]
theorem tw_okv_val {md : tw_Md} {σ : tw_Mem} {k j : Nat} : tw_okv md (tw_val md σ k j) := by
  unfold tw_val
  split
  · trivial
  · split
    · split
      · trivial
      · split <;> trivial
    · split
      · trivial
      · split
        · trivial
        · rename_i h
          exact Nat.not_lt.mp h
end
section
/-! an instruction of the table machine that reads or writes cells is the machine's instruction -/
section tw_B
variable {D : va_G} {aC : Nat → ClassId} {z b L : Nat} {xs : Nat → Int32} {l : Launch} {md : tw_Md} {σ σ1 : tw_Mem} {m pc i : Nat} {ls st r : List Value} {x y v : Int32} {p : Program} {s : State} {mi : MethodId} {args : Array Value} {meth : Method} {c : Code}
def tw_AdvM (l : Launch) (D : va_G) (aC : Nat → ClassId) (z b L : Nat) (xs : Nat → Int32) (md : tw_Md) (σ : tw_Mem) (m pc : Nat) (lsA stA : List Value) (i1 : Nat) (stB : List Value) (σ1 : tw_Mem) : Prop :=
  ∀ (ad : Nat → Nat) (p : Program) (e : Env) (s : State) (mi : MethodId) (args : Array Value) (below : List Frame) (meth : Method) (c : Code) (H : Heap) (locs : List Loc) (cells slots : Nat) (Rm : Room) (Q : State → Prop) (ls : Array Slot),
    tw_Cx D aC z b L xs m p s mi args meth c → tw_Hx D aC z b ad md σ s H locs → tw_Lr ad md lsA ls → lsA.length = tw_mL m → (∀ v ∈ stA, tw_okv md v) → 1 ≤ Rm.frames → 64 ≤ Rm.locals →
    (∀ (H1 : Heap) (locs1 : List Loc) (pc1 : Nat), tw_next m i1 pc1 → tw_Hx D aC z b ad md σ1 s H1 locs1 → (∀ v ∈ stB, tw_okv md v) → W p l e Rm s mi args below meth c H1 locs1 cells slots Q (F0 mi pc1 ls (stB.map (tw_rel ad)))) →
    W p l e Rm s mi args below meth c H locs cells slots Q (F0 mi pc ls (stA.map (tw_rel ad)))
theorem tw_Cx.own (h : tw_Cx D aC z b L xs m p s mi args meth c) : s.vm.findClass (tw_own m) = some mi.cls := h.2.2.2.1
theorem tw_Cx.hts (h : tw_Cx D aC z b L xs m p s mi args meth c) : ∀ w ∈ tw_gw, w.before args s = true := h.2.2.2.2.1
theorem tw_Cx.nest (h : tw_Cx D aC z b L xs m p s mi args meth c) : ∀ w ∈ tw_nw, va_Nw w s := h.2.2.2.2.2.1
theorem tw_Cx.over (h : tw_Cx D aC z b L xs m p s mi args meth c) : va_AO "CardLoom$Card" s := h.2.2.2.2.2.2.1
theorem tw_Cx.locks (h : tw_Cx D aC z b L xs m p s mi args meth c) : meth.locks = false := h.2.2.2.2.2.2.2.1
theorem tw_Cx.ret (h : tw_Cx D aC z b L xs m p s mi args meth c) : meth.sig.returnType = tw_mR m := h.2.2.2.2.2.2.2.2.1
theorem tw_Cx.ini (h : tw_Cx D aC z b L xs m p s mi args meth c) : tw_mK m = 2 → meth.name = "<init>" := h.2.2.2.2.2.2.2.2.2.1
theorem tw_Cx.K (h : tw_Cx D aC z b L xs m p s mi args meth c) : va_K D vwCl (tw_tys aC) s := h.2.2.2.2.2.2.2.2.2.2.1
theorem tw_Cx.X (h : tw_Cx D aC z b L xs m p s mi args meth c) : va_X b L xs s s.heap := h.2.2.2.2.2.2.2.2.2.2.2.1
theorem tw_Cx.bz (h : tw_Cx D aC z b L xs m p s mi args meth c) : b < z := h.2.2.2.2.2.2.2.2.2.2.2.2.1
theorem tw_Cx.zs (h : tw_Cx D aC z b L xs m p s mi args meth c) : z ≤ s.heap.size := h.2.2.2.2.2.2.2.2.2.2.2.2.2
theorem tw_map_set {α : Type} {f g : Nat → α} {n j : Nat} (hj : j < n) (ho : ∀ i, i ≠ j → g i = f i) : ((List.range n).map f).set j (g j) = (List.range n).map g := by
  apply List.ext_getElem?
  intro i
  by_cases hi : i = j
  · subst hi
    rw [List.getElem?_set_self (by simp; exact hj), List.getElem?_map, List.getElem?_range hj]
    rfl
  · rw [List.getElem?_set_ne (Ne.symm hi), List.getElem?_map, List.getElem?_map]
    by_cases hl : i < n
    · rw [List.getElem?_range hl]
      simp only [Option.map_some, ho i hi]
    · rw [List.getElem?_eq_none (by simp; omega)]
      rfl
theorem tw_cellE_O {ad : Nat → Nat} {k ci : Nat} (h : (tw_sh k).1 = ci) (h1 : ci < 20) : tw_cellE md ad aC σ k = .inr (ci, (List.range (tw_sh k).2).map (fun j => tw_rel ad (tw_val md σ k j))) := by
  unfold tw_cellE
  rw [if_pos (by omega), h]
theorem tw_cellE_A {ad : Nat → Nat} {k tag : Nat} (h : (tw_sh k).1 = tag) (h1 : 20 ≤ tag) (h2 : tag < 24) : tw_cellE md ad aC σ k = .inl (aC (tag - 20), (tw_sh k).2, .inl (fun j => σ k j)) := by
  unfold tw_cellE
  rw [if_neg (by omega), if_neg (by omega), h]
theorem tw_cellE_Q {ad : Nat → Nat} {k : Nat} (h : (tw_sh k).1 = 24) : tw_cellE md ad aC σ k = .inl (aC 4, (tw_sh k).2, .inr (.inr (.inr (.inr (fun j => tw_relO ad (tw_val md σ k j)))))) := by
  unfold tw_cellE
  rw [if_neg (by omega), if_pos h]
theorem tw_vwl : vwCl.length = 12 := rfl
def tw_E_of (e : va_E) : va_E := e
theorem tw_a_getfield {idx k ci j : Nat} (hc : tw_cn md ≤ tw_NC) (hd : decode (tw_mB m) pc = .ok (.getfield idx, 3)) (hn : tw_next m (i + 1) (pc + 3)) (hci : ci < vwCl.length) (hw : Jvm.Cond.fieldLink (tw_own m) idx ((tw_cl ci).2.1 j).1 ((tw_cl ci).2.1 j).2.1 ((tw_cl ci).2.1 j).2.2.1 ∈ tw_gw) (hk : tw_isO k ci md = true) (hj : j < (tw_sh k).2) :
    tw_AdvS l D aC z b L xs md σ m pc ls (.ref k :: r) (i + 1) ls (tw_val md σ k j :: r) := by
  intro ad p e s mi args below meth c H locs cells slots Rm Q lsC hC hH hL hN hS hf hl kk
  have hlen := tw_vwl
  obtain ⟨h1, h2, h3, h4, h5⟩ := tw_shI_O hc hk (by omega)
  have hat := tw_ws_at (ad := ad) (aC := aC) (σ := σ) h1
  rw [tw_cellE_O h2 (by omega)] at hat
  refine va_get (own := tw_own m) (C := (tw_cl ci).1) (T := (tw_cl ci).2.1) (N := (tw_cl ci).2.2) (Ts := tw_gw) (v := tw_rel ad (tw_val md σ k j)) hC.1 hC.2.1 hC.hts (tw_in ci h3) hC.own hC.K hH.2.1 (k - 1) hat (tw_cl_at h3) j (by omega) (hC.hts _ hw) (fun _ h => h) ?_ hd (kk lsC _ hn hL hN (tw_okc tw_okv_val (tw_okt hS)))
  rw [List.getElem?_map, List.getElem?_range hj]
  rfl
theorem tw_a_put {idx k ci j : Nat} {u : Value} (hc : tw_cn md ≤ tw_NC) (hd : decode (tw_mB m) pc = .ok (.putfield idx, 3)) (hn : tw_next m (i + 1) (pc + 3)) (hci : ci < vwCl.length) (hw : Jvm.Cond.fieldLink (tw_own m) idx ((tw_cl ci).2.1 j).1 ((tw_cl ci).2.1 j).2.1 ((tw_cl ci).2.1 j).2.2.1 ∈ tw_gw) (hfin : ((tw_cl ci).2.1 j).2.2.2 = false ∨ (((tw_cl ci).2.1 j).2.2.2 = true ∧ tw_mK m = 2 ∧ ((tw_cl ci).2.1 j).1 = tw_own m)) (hk : tw_isO k ci md = true) (hj : j < (tw_sh k).2)
    (hnar : ∀ ad : Nat → Nat, narrow (tw_tyf ci j) (tw_rel ad u) = tw_rel ad u) (hfit : ∀ ad : Nat → Nat, fits (tw_tyf ci j) (tw_rel ad u) = true) (hself : tw_okv md u → tw_val md σ1 k j = u) (hother : ∀ k' j', ¬ (k' = k ∧ j' = j) → σ1 k' j' = σ k' j') :
    tw_AdvM l D aC z b L xs md σ m pc ls (u :: .ref k :: r) (i + 1) r σ1 := by
  intro ad p e s mi args below meth c H locs cells slots Rm Q lsC hC hH hL hN hS hf hl kk
  have hlen := tw_vwl
  obtain ⟨h1, h2, h3, h4, h5⟩ := tw_shI_O hc hk (by omega)
  have hat := tw_ws_at (ad := ad) (aC := aC) (σ := σ) h1
  rw [tw_cellE_O h2 (by omega)] at hat
  have hu := hself (tw_okh hS)
  have e1 : ((List.range (tw_sh k).2).map (fun j => tw_rel ad (tw_val md σ k j))).set j (tw_rel ad u) = (List.range (tw_sh k).2).map (fun j => tw_rel ad (tw_val md σ1 k j)) := by
    rw [← hu]
    exact tw_map_set (g := fun j => tw_rel ad (tw_val md σ1 k j)) hj (fun i0 hi0 => by rw [tw_val_congr (hother k i0 (fun q => hi0 q.2))])
  have e2 : (tw_ws md ad aC σ).set (k - 1) (ad k, .inr (ci, ((List.range (tw_sh k).2).map (fun j => tw_rel ad (tw_val md σ k j))).set j (tw_rel ad u))) = tw_ws md ad aC σ1 := by
    rw [e1, ← tw_cellE_O (aC := aC) h2 (by omega)]
    exact tw_ws_set h1 (fun k' _ _ hne => tw_cellE_congr (fun j' => hother k' j' (fun q => hne q.1)))
  rcases hfin with hfin | ⟨hfin, hK2, hdecl⟩
  · refine va_put (own := tw_own m) (C := (tw_cl ci).1) (T := (tw_cl ci).2.1) (N := (tw_cl ci).2.2) (Ts := tw_gw) (v := tw_rel ad u) (ty := tw_tyf ci j) hC.1 hC.2.1 hC.hts (tw_in ci h3) (tw_tyf ci) (tw_tyf_ok ci h3) (tw_nm ci h3) hC.own hC.K hH.2.1 hH.2.2.1 hH.2.2.2 (k - 1) hat (tw_cl_at h3) j (by omega) (hC.hts _ hw) (fun _ h => h) hfin (tw_tyf_ok ci h3 j (by omega)) (hnar ad) (hfit ad) (by simp; exact hj) hd (fun H1 locs1 hP1 hD1 hS1 => ?_)
    rw [e2] at hP1 hD1
    exact kk H1 locs1 _ hn ⟨hH.1, hP1, hD1, hS1⟩ (tw_okt (tw_okt hS))
  · refine va_putF (own := tw_own m) (C := (tw_cl ci).1) (T := (tw_cl ci).2.1) (N := (tw_cl ci).2.2) (Ts := tw_gw) (v := tw_rel ad u) (ty := tw_tyf ci j) hC.1 hC.2.1 hC.hts (tw_in ci h3) (tw_tyf ci) (tw_tyf_ok ci h3) (tw_nm ci h3) hC.own hC.K hH.2.1 hH.2.2.1 hH.2.2.2 (k - 1) hat (tw_cl_at h3) j (by omega) (hC.hts _ hw) (fun _ h => h) hfin (hC.ini hK2) hdecl (tw_tyf_ok ci h3 j (by omega)) (hnar ad) (hfit ad) (by simp; exact hj) hd (fun H1 locs1 hP1 hD1 hS1 => ?_)
    rw [e2] at hP1 hD1
    exact kk H1 locs1 _ hn ⟨hH.1, hP1, hD1, hS1⟩ (tw_okt (tw_okt hS))
theorem tw_a_putI {idx k ci j : Nat} (hc : tw_cn md ≤ tw_NC) (hd : decode (tw_mB m) pc = .ok (.putfield idx, 3)) (hn : tw_next m (i + 1) (pc + 3)) (hci : ci < vwCl.length) (hw : Jvm.Cond.fieldLink (tw_own m) idx ((tw_cl ci).2.1 j).1 ((tw_cl ci).2.1 j).2.1 ((tw_cl ci).2.1 j).2.2.1 ∈ tw_gw) (hfin : ((tw_cl ci).2.1 j).2.2.2 = false ∨ (((tw_cl ci).2.1 j).2.2.2 = true ∧ tw_mK m = 2 ∧ ((tw_cl ci).2.1 j).1 = tw_own m)) (hk : tw_isO k ci md = true) (hj : j < (tw_sh k).2)
    (hkd : (tw_kd k j).1 = 0) (hb : tw_tyf ci j = .int ∨ (tw_tyf ci j = .boolean ∧ (x = 0 ∨ x = 1))) : tw_AdvM l D aC z b L xs md σ m pc ls (.int x :: .ref k :: r) (i + 1) r (tw_upd σ k j x) := by
  refine tw_a_put hc hd hn hci hw hfin hk hj (fun ad => ?_) (fun ad => ?_) (fun _ => ?_) (fun k' j' h => if_neg h)
  · rcases hb with hb | ⟨hb, hx | hx⟩
    · rw [hb]; rfl
    · rw [hb, hx]; rfl
    · rw [hb, hx]; rfl
  · rcases hb with hb | ⟨hb, hx | hx⟩
    · rw [hb]; rfl
    · rw [hb, hx]; rfl
    · rw [hb, hx]; rfl
  · cases hq : tw_kd k j with
    | mk t1 t2 =>
      rw [hq] at hkd
      have h0 : t1 = 0 := hkd
      subst h0
      unfold tw_val
      rw [hq]
      show Value.int (tw_upd σ k j x k j) = _
      unfold tw_upd
      rw [if_pos ⟨rfl, rfl⟩]
theorem tw_refKind_ok {ty : Jvm.ClassFile.FieldType} (h : refKind ty = true) (a : Nat) : narrow ty (.ref a) = .ref a ∧ fits ty (.ref a) = true := by
  cases ty <;> first | exact ⟨rfl, rfl⟩ | cases h
theorem tw_a_putR {idx k ci j q : Nat} (hc : tw_cn md ≤ tw_NC) (hd : decode (tw_mB m) pc = .ok (.putfield idx, 3)) (hn : tw_next m (i + 1) (pc + 3)) (hci : ci < vwCl.length) (hw : Jvm.Cond.fieldLink (tw_own m) idx ((tw_cl ci).2.1 j).1 ((tw_cl ci).2.1 j).2.1 ((tw_cl ci).2.1 j).2.2.1 ∈ tw_gw) (hfin : ((tw_cl ci).2.1 j).2.2.2 = false ∨ (((tw_cl ci).2.1 j).2.2.2 = true ∧ tw_mK m = 2 ∧ ((tw_cl ci).2.1 j).1 = tw_own m)) (hk : tw_isO k ci md = true) (hj : j < (tw_sh k).2)
    (h1 : 1 ≤ (tw_kd k j).1) (h2 : (tw_kd k j).2 = q) (h3 : md.isSome = true ∨ 2 ≤ (tw_kd k j).1) : tw_AdvM l D aC z b L xs md σ m pc ls (.ref q :: .ref k :: r) (i + 1) r (tw_upd σ k j 1) := by
  have hlen := tw_vwl
  obtain ⟨-, -, -, -, h5⟩ := tw_shI_O hc hk (by omega)
  have hr : refKind (tw_tyf ci j) = true := by
    rcases h5 j hj with ⟨h6, -⟩ | ⟨-, h6⟩
    · omega
    · exact h6
  refine tw_a_put hc hd hn hci hw hfin hk hj (fun ad => (tw_refKind_ok hr _).1) (fun ad => (tw_refKind_ok hr _).2) (fun hu => ?_) (fun k' j' h => if_neg h)
  have e0 : tw_upd σ k j 1 k j = 1 := if_pos ⟨rfl, rfl⟩
  have e9 : ¬ (1 : Int32) = 0 := by decide
  cases hq : tw_kd k j with
  | mk t1 t2 =>
    rw [hq] at h1 h2 h3
    unfold tw_val
    rw [hq, e0]
    cases t1 with
    | zero => exact absurd h1 (Nat.not_succ_le_zero 0)
    | succ t1 =>
      cases md with
      | none =>
        have h4 : ¬ t1 = 0 := by
          rcases h3 with h3 | h3
          · cases h3
          · have h3 : 2 ≤ t1 + 1 := h3
            omega
        simp only [if_neg h4, if_neg e9]
        rw [← h2]
      | some n =>
        have h4 : ¬ n < t2 := by
          have h6 : q ≤ n := hu
          have h7 : t2 = q := h2
          omega
        simp only [if_neg h4, if_neg e9]
        rw [← h2]
theorem tw_a_iald {k : Nat} (hd : decode (tw_mB m) pc = .ok (.iaload, 1)) (hn : tw_next m (i + 1) (pc + 1)) (hk : tw_isA k 20 md x = true) : tw_AdvS l D aC z b L xs md σ m pc ls (.int x :: .ref k :: r) (i + 1) ls (.int (σ k x.toNatClampNeg) :: r) := by
  intro ad p e s mi args below meth c H locs cells slots Rm Q lsC hC hH hL hN hS hf hl kk
  obtain ⟨h1, h2, h3⟩ := tw_isA_at hk
  have hat := tw_ws_at (ad := ad) (aC := aC) (σ := σ) h1
  rw [tw_cellE_A h2 (by omega) (by omega)] at hat
  exact va_iald (f := fun j => σ k j) hC.1 hC.2.1 hC.K hH.2.1 (k - 1) 0 hat rfl h3 hd (kk lsC _ hn hL hN (tw_okc trivial (tw_okt (tw_okt hS))))
theorem tw_a_bald {k : Nat} (hd : decode (tw_mB m) pc = .ok (.baload, 1)) (hn : tw_next m (i + 1) (pc + 1)) (hk : tw_isA k 21 md x = true) : tw_AdvS l D aC z b L xs md σ m pc ls (.int x :: .ref k :: r) (i + 1) ls (.int (σ k x.toNatClampNeg) :: r) := by
  intro ad p e s mi args below meth c H locs cells slots Rm Q lsC hC hH hL hN hS hf hl kk
  obtain ⟨h1, h2, h3⟩ := tw_isA_at hk
  have hat := tw_ws_at (ad := ad) (aC := aC) (σ := σ) h1
  rw [tw_cellE_A h2 (by omega) (by omega)] at hat
  exact va_bald (f := fun j => σ k j) hC.1 hC.2.1 hC.K hH.2.1 (k - 1) 1 hat rfl h3 hd (kk lsC _ hn hL hN (tw_okc trivial (tw_okt (tw_okt hS))))
theorem tw_a_zald {k : Nat} (hd : decode (tw_mB m) pc = .ok (.baload, 1)) (hn : tw_next m (i + 1) (pc + 1)) (hk : tw_isA k 23 md x = true) : tw_AdvS l D aC z b L xs md σ m pc ls (.int x :: .ref k :: r) (i + 1) ls (.int (σ k x.toNatClampNeg) :: r) := by
  intro ad p e s mi args below meth c H locs cells slots Rm Q lsC hC hH hL hN hS hf hl kk
  obtain ⟨h1, h2, h3⟩ := tw_isA_at hk
  have hat := tw_ws_at (ad := ad) (aC := aC) (σ := σ) h1
  rw [tw_cellE_A h2 (by omega) (by omega)] at hat
  exact va_zald (f := fun j => σ k j) hC.1 hC.2.1 hC.K hH.2.1 (k - 1) 3 hat rfl h3 hd (kk lsC _ hn hL hN (tw_okc trivial (tw_okt (tw_okt hS))))
theorem tw_a_cald {k : Nat} (hd : decode (tw_mB m) pc = .ok (.caload, 1)) (hn : tw_next m (i + 1) (pc + 1)) (hk : tw_isA k 22 md x = true) : tw_AdvS l D aC z b L xs md σ m pc ls (.int x :: .ref k :: r) (i + 1) ls (.int (σ k x.toNatClampNeg) :: r) := by
  intro ad p e s mi args below meth c H locs cells slots Rm Q lsC hC hH hL hN hS hf hl kk
  obtain ⟨h1, h2, h3⟩ := tw_isA_at hk
  have hat := tw_ws_at (ad := ad) (aC := aC) (σ := σ) h1
  rw [tw_cellE_A h2 (by omega) (by omega)] at hat
  exact va_cald (f := fun j => σ k j) hC.1 hC.2.1 hC.K hH.2.1 (k - 1) 2 hat rfl h3 hd (kk lsC _ hn hL hN (tw_okc trivial (tw_okt (tw_okt hS))))
theorem tw_a_iast {k : Nat} (hd : decode (tw_mB m) pc = .ok (.iastore, 1)) (hn : tw_next m (i + 1) (pc + 1)) (hk : tw_isA k 20 md y = true) : tw_AdvM l D aC z b L xs md σ m pc ls (.int x :: .int y :: .ref k :: r) (i + 1) r (tw_upd σ k y.toNatClampNeg x) := by
  intro ad p e s mi args below meth c H locs cells slots Rm Q lsC hC hH hL hN hS hf hl kk
  obtain ⟨h1, h2, h3⟩ := tw_isA_at hk
  have hat := tw_ws_at (ad := ad) (aC := aC) (σ := σ) h1
  rw [tw_cellE_A h2 (by omega) (by omega)] at hat
  have e2 : (tw_ws md ad aC σ).set (k - 1) (ad k, .inl (aC 0, (tw_sh k).2, .inl (upd (fun j => σ k j) y.toNatClampNeg x))) = tw_ws md ad aC (tw_upd σ k y.toNatClampNeg x) := by
    have e1 : (tw_E_of (.inl (aC 0, (tw_sh k).2, .inl (upd (fun j => σ k j) y.toNatClampNeg x)))) = tw_cellE md ad aC (tw_upd σ k y.toNatClampNeg x) k := by
      rw [tw_cellE_A h2 (by omega) (by omega)]
      unfold tw_E_of
      congr 4
      funext j
      unfold upd tw_upd
      by_cases hj : j = y.toNatClampNeg
      · rw [if_pos hj, if_pos ⟨rfl, hj⟩]
      · rw [if_neg hj, if_neg (fun q => hj q.2)]
    unfold tw_E_of at e1
    rw [e1]
    exact tw_ws_set h1 (fun k' _ _ hne => tw_cellE_congr (fun j' => tw_upd_ne hne j'))
  refine va_iast (f := fun j => σ k j) hC.1 hC.2.1 hC.K hH.2.1 hH.2.2.1 hH.2.2.2 (k - 1) 0 hat rfl h3 hd (fun H1 locs1 hP1 hD1 hS1 => ?_)
  rw [e2] at hP1 hD1
  exact kk H1 locs1 _ hn ⟨hH.1, hP1, hD1, hS1⟩ (tw_okt (tw_okt (tw_okt hS)))
theorem tw_a_bast {k : Nat} (hd : decode (tw_mB m) pc = .ok (.bastore, 1)) (hn : tw_next m (i + 1) (pc + 1)) (hk : tw_isA k 21 md y = true) : tw_AdvM l D aC z b L xs md σ m pc ls (.int x :: .int y :: .ref k :: r) (i + 1) r (tw_upd σ k y.toNatClampNeg (vp_nar .byte x)) := by
  intro ad p e s mi args below meth c H locs cells slots Rm Q lsC hC hH hL hN hS hf hl kk
  obtain ⟨h1, h2, h3⟩ := tw_isA_at hk
  have hat := tw_ws_at (ad := ad) (aC := aC) (σ := σ) h1
  rw [tw_cellE_A h2 (by omega) (by omega)] at hat
  have e2 : (tw_ws md ad aC σ).set (k - 1) (ad k, .inl (aC 1, (tw_sh k).2, .inl (upd (fun j => σ k j) y.toNatClampNeg (vp_nar .byte x)))) = tw_ws md ad aC (tw_upd σ k y.toNatClampNeg (vp_nar .byte x)) := by
    have e1 : (tw_E_of (.inl (aC 1, (tw_sh k).2, .inl (upd (fun j => σ k j) y.toNatClampNeg (vp_nar .byte x))))) = tw_cellE md ad aC (tw_upd σ k y.toNatClampNeg (vp_nar .byte x)) k := by
      rw [tw_cellE_A h2 (by omega) (by omega)]
      unfold tw_E_of
      congr 4
      funext j
      unfold upd tw_upd
      by_cases hj : j = y.toNatClampNeg
      · rw [if_pos hj, if_pos ⟨rfl, hj⟩]
      · rw [if_neg hj, if_neg (fun q => hj q.2)]
    unfold tw_E_of at e1
    rw [e1]
    exact tw_ws_set h1 (fun k' _ _ hne => tw_cellE_congr (fun j' => tw_upd_ne hne j'))
  refine va_bast (f := fun j => σ k j) hC.1 hC.2.1 hC.K hH.2.1 hH.2.2.1 hH.2.2.2 (k - 1) 1 hat rfl h3 hd (fun H1 locs1 hP1 hD1 hS1 => ?_)
  rw [e2] at hP1 hD1
  exact kk H1 locs1 _ hn ⟨hH.1, hP1, hD1, hS1⟩ (tw_okt (tw_okt (tw_okt hS)))
theorem tw_a_zast {k : Nat} (hd : decode (tw_mB m) pc = .ok (.bastore, 1)) (hn : tw_next m (i + 1) (pc + 1)) (hk : tw_isA k 23 md y = true) : tw_AdvM l D aC z b L xs md σ m pc ls (.int x :: .int y :: .ref k :: r) (i + 1) r (tw_upd σ k y.toNatClampNeg (vp_nar .boolean x)) := by
  intro ad p e s mi args below meth c H locs cells slots Rm Q lsC hC hH hL hN hS hf hl kk
  obtain ⟨h1, h2, h3⟩ := tw_isA_at hk
  have hat := tw_ws_at (ad := ad) (aC := aC) (σ := σ) h1
  rw [tw_cellE_A h2 (by omega) (by omega)] at hat
  have e2 : (tw_ws md ad aC σ).set (k - 1) (ad k, .inl (aC 3, (tw_sh k).2, .inl (upd (fun j => σ k j) y.toNatClampNeg (vp_nar .boolean x)))) = tw_ws md ad aC (tw_upd σ k y.toNatClampNeg (vp_nar .boolean x)) := by
    have e1 : (tw_E_of (.inl (aC 3, (tw_sh k).2, .inl (upd (fun j => σ k j) y.toNatClampNeg (vp_nar .boolean x))))) = tw_cellE md ad aC (tw_upd σ k y.toNatClampNeg (vp_nar .boolean x)) k := by
      rw [tw_cellE_A h2 (by omega) (by omega)]
      unfold tw_E_of
      congr 4
      funext j
      unfold upd tw_upd
      by_cases hj : j = y.toNatClampNeg
      · rw [if_pos hj, if_pos ⟨rfl, hj⟩]
      · rw [if_neg hj, if_neg (fun q => hj q.2)]
    unfold tw_E_of at e1
    rw [e1]
    exact tw_ws_set h1 (fun k' _ _ hne => tw_cellE_congr (fun j' => tw_upd_ne hne j'))
  refine va_zast (f := fun j => σ k j) hC.1 hC.2.1 hC.K hH.2.1 hH.2.2.1 hH.2.2.2 (k - 1) 3 hat rfl h3 hd (fun H1 locs1 hP1 hD1 hS1 => ?_)
  rw [e2] at hP1 hD1
  exact kk H1 locs1 _ hn ⟨hH.1, hP1, hD1, hS1⟩ (tw_okt (tw_okt (tw_okt hS)))
theorem tw_a_cast {k : Nat} (hd : decode (tw_mB m) pc = .ok (.castore, 1)) (hn : tw_next m (i + 1) (pc + 1)) (hk : tw_isA k 22 md y = true) : tw_AdvM l D aC z b L xs md σ m pc ls (.int x :: .int y :: .ref k :: r) (i + 1) r (tw_upd σ k y.toNatClampNeg (vp_nar .char x)) := by
  intro ad p e s mi args below meth c H locs cells slots Rm Q lsC hC hH hL hN hS hf hl kk
  obtain ⟨h1, h2, h3⟩ := tw_isA_at hk
  have hat := tw_ws_at (ad := ad) (aC := aC) (σ := σ) h1
  rw [tw_cellE_A h2 (by omega) (by omega)] at hat
  have e2 : (tw_ws md ad aC σ).set (k - 1) (ad k, .inl (aC 2, (tw_sh k).2, .inl (upd (fun j => σ k j) y.toNatClampNeg (vp_nar .char x)))) = tw_ws md ad aC (tw_upd σ k y.toNatClampNeg (vp_nar .char x)) := by
    have e1 : (tw_E_of (.inl (aC 2, (tw_sh k).2, .inl (upd (fun j => σ k j) y.toNatClampNeg (vp_nar .char x))))) = tw_cellE md ad aC (tw_upd σ k y.toNatClampNeg (vp_nar .char x)) k := by
      rw [tw_cellE_A h2 (by omega) (by omega)]
      unfold tw_E_of
      congr 4
      funext j
      unfold upd tw_upd
      by_cases hj : j = y.toNatClampNeg
      · rw [if_pos hj, if_pos ⟨rfl, hj⟩]
      · rw [if_neg hj, if_neg (fun q => hj q.2)]
    unfold tw_E_of at e1
    rw [e1]
    exact tw_ws_set h1 (fun k' _ _ hne => tw_cellE_congr (fun j' => tw_upd_ne hne j'))
  refine va_cast (f := fun j => σ k j) hC.1 hC.2.1 hC.K hH.2.1 hH.2.2.1 hH.2.2.2 (k - 1) 2 hat rfl h3 hd (fun H1 locs1 hP1 hD1 hS1 => ?_)
  rw [e2] at hP1 hD1
  exact kk H1 locs1 _ hn ⟨hH.1, hP1, hD1, hS1⟩ (tw_okt (tw_okt (tw_okt hS)))
theorem tw_kd_Q {k j : Nat} (hc : tw_cn md ≤ tw_NC) (h : tw_live k md = true) (h1 : (tw_sh k).1 = 24) (hj : j < (tw_sh k).2) : (tw_kd k j).1 = 1 := by
  have h4 := tw_shI_at hc h
  unfold tw_shI at h4
  rw [if_neg (by simp [Nat.blt_eq, h1])] at h4
  simp only [Bool.and_eq_true] at h4
  have h5 := h4.2
  rw [h1, if_pos (by rfl)] at h5
  exact Nat.eq_of_beq_eq_true (List.all_eq_true.mp h5 j (List.mem_range.mpr hj))
theorem tw_rfO {ad : Nat → Nat} {k j : Nat} (h : (tw_kd k j).1 = 1) : va_rf (tw_relO ad (tw_val md σ k j)) = tw_rel ad (tw_val md σ k j) := by
  cases hq : tw_kd k j with
  | mk t1 t2 =>
    rw [hq] at h
    have h0 : t1 = 1 := h
    subst h0
    unfold tw_val
    rw [hq]
    cases md with
    | none => rfl
    | some n =>
      by_cases h1 : σ k j = 0
      · simp only [if_pos h1]; rfl
      · by_cases h2 : n < t2
        · simp only [if_neg h1, if_pos h2]; rfl
        · simp only [if_neg h1, if_neg h2]; rfl
theorem tw_a_aald {k : Nat} (hc : tw_cn md ≤ tw_NC) (hd : decode (tw_mB m) pc = .ok (.aaload, 1)) (hn : tw_next m (i + 1) (pc + 1)) (hk : tw_isA k 24 md x = true) : tw_AdvS l D aC z b L xs md σ m pc ls (.int x :: .ref k :: r) (i + 1) ls (tw_val md σ k x.toNatClampNeg :: r) := by
  intro ad p e s mi args below meth c H locs cells slots Rm Q lsC hC hH hL hN hS hf hl kk
  obtain ⟨h1, h2, h3⟩ := tw_isA_at hk
  have hat := tw_ws_at (ad := ad) (aC := aC) (σ := σ) h1
  rw [tw_cellE_Q h2] at hat
  have hlt : x.toNatClampNeg < (tw_sh k).2 := Nat.not_le.mp fun q => h3 (Or.inr q)
  have hv := tw_rfO (md := md) (σ := σ) (ad := ad) (tw_kd_Q hc h1 h2 hlt)
  refine va_aldq (f := fun j => tw_relO ad (tw_val md σ k j)) hC.1 hC.2.1 hC.K hH.2.1 (k - 1) 4 hat rfl h3 hd ?_
  show W p l e Rm s mi args below meth c H locs cells slots Q (F0 mi (pc + 1) lsC (va_rf (tw_relO ad (tw_val md σ k x.toNatClampNeg)) :: r.map (tw_rel ad)))
  rw [hv]
  exact kk lsC _ hn hL hN (tw_okc tw_okv_val (tw_okt (tw_okt hS)))
theorem tw_a_aast {k q : Nat} (hc : tw_cn md ≤ tw_NC) (hd : decode (tw_mB m) pc = .ok (.aastore, 1)) (hn : tw_next m (i + 1) (pc + 1)) (hk : tw_isA k 24 md y = true) (hq : tw_isO q 0 md = true) (hq1 : (tw_kd k y.toNatClampNeg).1 = 1) (hq2 : (tw_kd k y.toNatClampNeg).2 = q) (hm : md.isSome = true) : tw_AdvM l D aC z b L xs md σ m pc ls (.ref q :: .int y :: .ref k :: r) (i + 1) r (tw_upd σ k y.toNatClampNeg 1) := by
  intro ad p e s mi args below meth c H locs cells slots Rm Q lsC hC hH hL hN hS hf hl kk
  obtain ⟨h1, h2, h3⟩ := tw_isA_at hk
  have hat := tw_ws_at (ad := ad) (aC := aC) (σ := σ) h1
  rw [tw_cellE_Q h2] at hat
  obtain ⟨g1, g2, -⟩ := tw_shI_O hc hq (by decide)
  have hatq := tw_ws_at (ad := ad) (aC := aC) (σ := σ) g1
  rw [tw_cellE_O g2 (by decide)] at hatq
  have hlt : y.toNatClampNeg < (tw_sh k).2 := Nat.not_le.mp fun q => h3 (Or.inr q)
  have hself : tw_relO ad (tw_val md (tw_upd σ k y.toNatClampNeg 1) k y.toNatClampNeg) = some (ad q) := by
    have e0 : tw_upd σ k y.toNatClampNeg 1 k y.toNatClampNeg = 1 := if_pos ⟨rfl, rfl⟩
    have e9 : ¬ (1 : Int32) = 0 := by decide
    cases hz : tw_kd k y.toNatClampNeg with
    | mk t1 t2 =>
      rw [hz] at hq1 hq2
      have h8 : t1 = 1 := hq1
      have h9 : t2 = q := hq2
      subst h8; subst h9
      unfold tw_val
      rw [hz, e0]
      cases md with
      | none => cases hm
      | some n =>
        have h4 : ¬ n < t2 := by
          have h6 : t2 ≤ n := tw_okh hS
          omega
        simp only [if_neg h4, if_neg e9]
        rfl
  have e2 : (tw_ws md ad aC σ).set (k - 1) (ad k, .inl (aC 4, (tw_sh k).2, .inr (.inr (.inr (.inr (va_up (fun j => tw_relO ad (tw_val md σ k j)) y.toNatClampNeg (some (ad q)))))))) = tw_ws md ad aC (tw_upd σ k y.toNatClampNeg 1) := by
    have e1 : (tw_E_of (.inl (aC 4, (tw_sh k).2, .inr (.inr (.inr (.inr (va_up (fun j => tw_relO ad (tw_val md σ k j)) y.toNatClampNeg (some (ad q))))))))) = tw_cellE md ad aC (tw_upd σ k y.toNatClampNeg 1) k := by
      rw [tw_cellE_Q h2]
      unfold tw_E_of
      congr 7
      funext j
      unfold va_up
      by_cases hj : j = y.toNatClampNeg
      · rw [if_pos hj, hj, hself]
      · rw [if_neg hj, tw_val_congr (σ := σ) (σ' := tw_upd σ k y.toNatClampNeg 1) (if_neg (fun q => hj q.2))]
    unfold tw_E_of at e1
    rw [e1]
    exact tw_ws_set h1 (fun k' _ _ hne => tw_cellE_congr (fun j' => tw_upd_ne hne j'))
  refine va_astq (f := fun j => tw_relO ad (tw_val md σ k j)) hC.1 hC.2.1 hC.K hH.2.1 hH.2.2.1 hH.2.2.2 (k - 1) 4 (q - 1) 0 hat rfl hatq rfl h3 hd (fun H1 locs1 hP1 hD1 hS1 => ?_)
  rw [e2] at hP1 hD1
  exact kk H1 locs1 _ hn ⟨hH.1, hP1, hD1, hS1⟩ (tw_okt (tw_okt (tw_okt hS)))
theorem tw_a_alen {k : Nat} (hc : tw_cn md ≤ tw_NC) (hd : decode (tw_mB m) pc = .ok (.arraylength, 1)) (hn : tw_next m (i + 1) (pc + 1)) (hk : tw_live k md = true) (ht : 20 ≤ (tw_sh k).1) : tw_AdvS l D aC z b L xs md σ m pc ls (.ref k :: r) (i + 1) ls (.int (Int32.ofNat (tw_sh k).2) :: r) := by
  intro ad p e s mi args below meth c H locs cells slots Rm Q lsC hC hH hL hN hS hf hl kk
  have hat := tw_ws_at (ad := ad) (aC := aC) (σ := σ) hk
  have h9 := (tw_kd_A hc hk ht).2
  have kk1 := kk lsC _ hn hL hN (tw_okc (v := .int (Int32.ofNat (tw_sh k).2)) trivial (tw_okt hS))
  rcases (show (tw_sh k).1 = 20 ∨ (tw_sh k).1 = 21 ∨ (tw_sh k).1 = 22 ∨ (tw_sh k).1 = 23 ∨ (tw_sh k).1 = 24 by omega) with h2 | h2 | h2 | h2 | h2
  · rw [tw_cellE_A h2 (by omega) (by omega)] at hat
    exact va_alen (ty := .int) hC.1 hC.2.1 hC.K hH.2.1 (k - 1) 0 hat rfl rfl hd kk1
  · rw [tw_cellE_A h2 (by omega) (by omega)] at hat
    exact va_alen (ty := .byte) hC.1 hC.2.1 hC.K hH.2.1 (k - 1) 1 hat rfl rfl hd kk1
  · rw [tw_cellE_A h2 (by omega) (by omega)] at hat
    exact va_alen (ty := .char) hC.1 hC.2.1 hC.K hH.2.1 (k - 1) 2 hat rfl rfl hd kk1
  · rw [tw_cellE_A h2 (by omega) (by omega)] at hat
    exact va_alen (ty := .boolean) hC.1 hC.2.1 hC.K hH.2.1 (k - 1) 3 hat rfl rfl hd kk1
  · rw [tw_cellE_Q h2] at hat
    exact va_alen (ty := .object "CardLoom$Card") hC.1 hC.2.1 hC.K hH.2.1 (k - 1) 4 hat rfl rfl hd kk1
theorem tw_a_sld (hd : decode (tw_mB m) pc = .ok (.iaload, 1)) (hn : tw_next m (i + 1) (pc + 1)) (hx : vp_in x L) : tw_AdvS l D aC z b L xs md σ m pc ls (.int x :: .ref 0 :: r) (i + 1) ls (.int (xs x.toNatClampNeg) :: r) := by
  intro ad p e s mi args below meth c H locs cells slots Rm Q lsC hC hH hL hN hS hf hl kk
  have h0 : (.int x :: .ref 0 :: r : List Value).map (tw_rel ad) = .int x :: .ref b :: r.map (tw_rel ad) := by
    rw [← hH.1]; rfl
  rw [h0]
  have hbz := hC.bz
  have hzs := hC.zs
  exact va_sld hC.1 hC.2.1 hC.X (by omega) (by omega) hH.2.2.2 hx hd (kk lsC _ hn hL hN (tw_okc trivial (tw_okt (tw_okt hS))))
theorem tw_a_slen (hd : decode (tw_mB m) pc = .ok (.arraylength, 1)) (hn : tw_next m (i + 1) (pc + 1)) : tw_AdvS l D aC z b L xs md σ m pc ls (.ref 0 :: r) (i + 1) ls (.int (Int32.ofNat L) :: r) := by
  intro ad p e s mi args below meth c H locs cells slots Rm Q lsC hC hH hL hN hS hf hl kk
  have h0 : (.ref 0 :: r : List Value).map (tw_rel ad) = .ref b :: r.map (tw_rel ad) := by
    rw [← hH.1]; rfl
  rw [h0]
  have hbz := hC.bz
  have hzs := hC.zs
  exact va_slen hC.1 hC.2.1 hC.X (by omega) (by omega) hH.2.2.2 hd (kk lsC _ hn hL hN (tw_okc trivial (tw_okt hS)))
end tw_B
end
section
/-! the instructions that make cells -/
section tw_C
variable {D : va_G} {aC : Nat → ClassId} {z b L : Nat} {xs : Nat → Int32} {l : Launch} {md : tw_Md} {σ σ1 : tw_Mem} {m pc i n : Nat} {ls st r : List Value} {x y v : Int32} {p : Program} {s : State} {mi : MethodId} {args : Array Value} {meth : Method} {c : Code}
def tw_AdvN (l : Launch) (D : va_G) (aC : Nat → ClassId) (z b L : Nat) (xs : Nat → Int32) (n : Nat) (σ : tw_Mem) (m pc : Nat) (lsA stA : List Value) (i1 : Nat) (stB : List Value) : Prop :=
  ∀ (ad : Nat → Nat) (p : Program) (e : Env) (s : State) (mi : MethodId) (args : Array Value) (below : List Frame) (meth : Method) (c : Code) (H : Heap) (locs : List Loc) (cells slots : Nat) (Rm : Room) (Q : State → Prop) (ls : Array Slot),
    tw_Cx D aC z b L xs m p s mi args meth c → tw_Hx D aC z b ad (some n) σ s H locs → tw_Lr ad (some n) lsA ls → lsA.length = tw_mL m → (∀ v ∈ stA, tw_okv (some n) v) → 1 ≤ Rm.frames → 64 ≤ Rm.locals → cells + 1 ≤ Rm.cells → slots + (tw_sh (n + 1)).2 ≤ Rm.slots →
    (∀ (ad1 : Nat → Nat) (H1 : Heap) (pc1 : Nat), tw_agr (some n) ad ad1 → tw_next m i1 pc1 → tw_Hx D aC z b ad1 (some (n + 1)) (tw_born σ (n + 1)) s H1 locs → W p l e Rm s mi args below meth c H1 locs (cells + 1) (slots + (tw_sh (n + 1)).2) Q (F0 mi pc1 ls (stB.map (tw_rel ad1)))) →
    W p l e Rm s mi args below meth c H locs cells slots Q (F0 mi pc ls (stA.map (tw_rel ad)))
def tw_adq (ad : Nat → Nat) (n q : Nat) : Nat → Nat := fun k => if k = n + 1 then q else ad k
theorem tw_adq_self {ad : Nat → Nat} {n q : Nat} : tw_adq ad n q (n + 1) = q := if_pos rfl
theorem tw_adq_agr {ad : Nat → Nat} {n q : Nat} : tw_agr (some n) ad (tw_adq ad n q) := fun k hk => if_neg (by omega)
/-- an old place reads as before -/
theorem tw_born_val {ad : Nat → Nat} {n q k j : Nat} (hk : k ≤ n) : tw_rel (tw_adq ad n q) (tw_val (some (n + 1)) (tw_born σ (n + 1)) k j) = tw_rel ad (tw_val (some n) σ k j) := by
  have hk1 : ¬ k = n + 1 := by omega
  cases hq : tw_kd k j with
  | mk t1 t2 =>
    have hb : tw_born σ (n + 1) k j = if t2 = n + 1 ∧ t1 ≠ 0 then 0 else σ k j := by
      unfold tw_born
      rw [hq]
      by_cases h : t2 = n + 1 ∧ t1 ≠ 0
      · rw [if_pos (Or.inr h), if_pos h]
      · rw [if_neg (fun g => g.elim hk1 h), if_neg h]
    unfold tw_val
    rw [hq, hb]
    cases t1 with
    | zero =>
      have : ¬ (t2 = n + 1 ∧ (0 : Nat) ≠ 0) := fun g => g.2 rfl
      rw [if_neg this]
      rfl
    | succ t1 =>
      by_cases ht : t2 = n + 1
      · rw [if_pos ⟨ht, by omega⟩]
        simp only [if_true]
        by_cases h0 : σ k j = 0
        · rw [if_pos h0]; rfl
        · rw [if_neg h0, if_pos (by omega)]; rfl
      · rw [if_neg (fun g => ht g.1)]
        by_cases h0 : σ k j = 0
        · simp only [if_pos h0]; rfl
        · simp only [if_neg h0]
          by_cases h1 : n < t2
          · rw [if_pos (show n + 1 < t2 by omega), if_pos h1]; rfl
          · rw [if_neg (show ¬ n + 1 < t2 by omega), if_neg h1]
            show Value.ref (tw_adq ad n q t2) = Value.ref (ad t2)
            unfold tw_adq
            rw [if_neg ht]
theorem tw_relO_rel {ad : Nat → Nat} {v : Value} : tw_relO ad v = (match tw_rel ad v with
  | .ref a => some a
  | _ => none) := by
  cases v <;> rfl
theorem tw_kd_N {k : Nat} {md : tw_Md} (hc : tw_cn md ≤ tw_NC) (h : tw_live k md = true) (h1 : 20 ≤ (tw_sh k).1) (h2 : (tw_sh k).1 ≠ 24) (j : Nat) : (tw_kd k j).1 = 0 := by
  have h4 := tw_shI_at hc h
  unfold tw_shI at h4
  rw [if_neg (by simp [Nat.blt_eq]; omega)] at h4
  simp only [Bool.and_eq_true] at h4
  have h5 := h4.2
  rw [if_neg (fun g => h2 (Nat.eq_of_beq_eq_true g))] at h5
  unfold tw_kd
  rw [of_decide_eq_true h5]
  rfl
theorem tw_born_cell {ad : Nat → Nat} {n q k : Nat} (hn : n < tw_NC) (h1 : 1 ≤ k) (hk : k ≤ n) : tw_cellE (some (n + 1)) (tw_adq ad n q) aC (tw_born σ (n + 1)) k = tw_cellE (some n) ad aC σ k := by
  have hl : tw_live k (some n) = true := by simp only [tw_live, Bool.and_eq_true, Nat.ble_eq]; exact ⟨h1, hk⟩
  unfold tw_cellE
  by_cases a : (tw_sh k).1 < 20
  · rw [if_pos a, if_pos a]
    simp only [tw_born_val hk]
  · rw [if_neg a, if_neg a]
    by_cases a2 : (tw_sh k).1 = 24
    · rw [if_pos a2, if_pos a2]
      simp only [tw_relO_rel, tw_born_val hk]
    · rw [if_neg a2, if_neg a2]
      have h5 : ∀ j, tw_born σ (n + 1) k j = σ k j := fun j => by
        unfold tw_born
        rw [if_neg (fun g => g.elim (by omega) (fun g => g.2 (tw_kd_N (md := some n) (Nat.le_of_lt hn) hl (by omega) a2 j)))]
      simp only [h5]
theorem tw_born_ws {ad : Nat → Nat} {n q : Nat} {E : va_E} (hn : n < tw_NC) (hE : tw_cellE (some (n + 1)) (tw_adq ad n q) aC (tw_born σ (n + 1)) (n + 1) = E) : tw_ws (some n) ad aC σ ++ [(q, E)] = tw_ws (some (n + 1)) (tw_adq ad n q) aC (tw_born σ (n + 1)) := by
  unfold tw_ws
  show _ = (List.range (n + 1)).map _
  rw [List.range_succ, List.map_append]
  congr 1
  · refine List.map_congr_left fun i hi => ?_
    have hi := List.mem_range.mp hi
    have hi : i < n := hi
    rw [tw_born_cell hn (by omega) (by omega)]
    unfold tw_adq
    rw [if_neg (by omega)]
  · simp only [List.map_cons, List.map_nil]
    rw [hE, tw_adq_self]
theorem tw_born_new {n j : Nat} : tw_born σ (n + 1) (n + 1) j = 0 := if_pos (Or.inl rfl)
theorem tw_a_new {idx ci : Nat} (hc : n < tw_NC) (hd : decode (tw_mB m) pc = .ok (.new idx, 3)) (hn : tw_next m (i + 1) (pc + 3)) (hci : ci < vwCl.length) (h1 : Jvm.Cond.classLink (tw_own m) idx (tw_cl ci).1 ∈ tw_gw) (h2 : Jvm.Cond.instantiable (tw_cl ci).1 (tw_cl ci).2.2 ∈ tw_gw) (h3 : Jvm.Cond.initialized (tw_cl ci).1 ∈ tw_gw) (hsh : (tw_sh (n + 1)).1 = ci) :
    tw_AdvN l D aC z b L xs n σ m pc ls st (i + 1) (.ref (n + 1) :: st) := by
  intro ad p e s mi args below meth c H locs cells slots Rm Q lsC hC hH hL hN hS hf hl hce hsl kk
  have hlen := tw_vwl
  have hk : tw_isO (n + 1) ci (some (n + 1)) = true := by
    simp only [tw_isO, tw_live, Bool.and_eq_true, Nat.ble_eq]
    exact ⟨⟨by omega, Nat.le_refl _⟩, by rw [hsh]; exact Nat.beq_refl _⟩
  obtain ⟨-, -, -, g4, g5⟩ := tw_shI_O (show tw_cn (some (n + 1)) ≤ tw_NC from hc) hk (by omega)
  refine va_new (own := tw_own m) (C := (tw_cl ci).1) (T := (tw_cl ci).2.1) (N := (tw_cl ci).2.2) (Ts := tw_gw) (ci := ci) (fs := (List.range (tw_sh (n + 1)).2).map (fun j => tw_rel ad (tw_val (some (n + 1)) (tw_born σ (n + 1)) (n + 1) j))) hC.1 hC.2.1 hC.hts (tw_in ci hci) (tw_tyf ci) (tw_tyf_ok ci hci) hC.own (hC.hts _ h1) (hC.hts _ h2) (hC.hts _ h3) hC.K hH.2.1 hH.2.2.1 hH.2.2.2 (fun q hq => Nat.le_trans hC.zs hq) (tw_cl_at hci) (fun j hj => ?_) hce (by rw [← g4]; exact hsl) hd (fun q H1 hP1 hD1 hS1 => ?_)
  · rw [← g4] at hj
    unfold vp_V
    rw [List.getD_eq_getElem?_getD, List.getElem?_map, List.getElem?_range hj]
    simp only [Option.map_some, Option.getD_some]
    unfold tw_val
    rw [tw_born_new]
    rcases g5 j hj with ⟨e1, e2⟩ | ⟨e1, e2⟩
    · cases hq : tw_kd (n + 1) j with
      | mk t1 t2 =>
        rw [hq] at e1
        have e1 : t1 = 0 := e1
        subst e1
        rcases e2 with e2 | e2 <;> rw [e2] <;> rfl
    · cases hq : tw_kd (n + 1) j with
      | mk t1 t2 =>
        rw [hq] at e1
        cases t1 with
        | zero => exact absurd rfl e1
        | succ t1 =>
          simp only [if_true]
          generalize tw_tyf ci j = ty at e2
          cases ty <;> first | rfl | cases e2
  · have e1 : tw_cellE (some (n + 1)) (tw_adq ad n q) aC (tw_born σ (n + 1)) (n + 1) = .inr (ci, (List.range (tw_sh (n + 1)).2).map (fun j => tw_rel ad (tw_val (some (n + 1)) (tw_born σ (n + 1)) (n + 1) j))) := by
      rw [tw_cellE_O hsh (by omega)]
      congr 2
      refine List.map_congr_left fun j _ => ?_
      have e2 : tw_val (some (n + 1)) (tw_born σ (n + 1)) (n + 1) j = .int 0 ∨ tw_val (some (n + 1)) (tw_born σ (n + 1)) (n + 1) j = .null := by
        unfold tw_val
        rw [tw_born_new]
        cases tw_kd (n + 1) j with
        | mk t1 t2 =>
          cases t1 with
          | zero => exact Or.inl rfl
          | succ t1 => exact Or.inr (if_pos rfl)
      rcases e2 with e2 | e2 <;> rw [e2] <;> rfl
    rw [tw_born_ws hc e1] at hP1 hD1
    have k1 := kk (tw_adq ad n q) H1 _ tw_adq_agr hn ⟨by rw [← hH.1]; exact if_neg (by omega), hP1, hD1, hS1⟩
    rw [← g4]
    have e3 : (.ref (n + 1) :: st : List Value).map (tw_rel (tw_adq ad n q)) = .ref q :: st.map (tw_rel ad) := by
      rw [List.map_cons, tw_map_agr hS tw_adq_agr]
      show Value.ref (tw_adq ad n q (n + 1)) :: _ = _
      rw [tw_adq_self]
    rw [e3] at k1
    exact k1
theorem tw_RA_eq {c1 c2 : ClassId} {ty : Jvm.ClassFile.FieldType} (h1 : va_RA s c1 ty) (h2 : va_RA s c2 ty) : c1 = c2 := by
  cases ty with
  | object C =>
    obtain ⟨_, _, -, -, -, h1⟩ := h1
    obtain ⟨_, _, -, -, -, h2⟩ := h2
    exact Option.some.inj (h1.symm.trans h2)
  | _ => exact Option.some.inj ((show s.vm.findClass _ = some c1 from h1).symm.trans h2)
theorem tw_K_last {cA : ClassId} {ty : Jvm.ClassFile.FieldType} (h : va_K D vwCl (tw_tys aC ++ [(cA, ty)]) s) {t : Nat} (ht : (tw_tys aC)[t]? = some (aC t, ty)) (hl : t < 5) : cA = aC t := by
  have h1 := (h.2 5 (cA, ty) rfl).2
  have h2 := (h.2 t (aC t, ty) (by rw [List.getElem?_append_left (by exact hl)]; exact ht)).2
  exact tw_RA_eq h1 h2
theorem tw_a_newarr {tag : Nat} {atype : Jvm.ClassFile.ArrayType} {ty : Jvm.ClassFile.FieldType} (hc : n < tw_NC) (hd : decode (tw_mB m) pc = .ok (.newarray atype, 2)) (hn : tw_next m (i + 1) (pc + 2)) (hty : newarray.typeOf atype = ty) (hw : Jvm.Cond.arrayClass ty ∈ tw_gw) (hsh : (tw_sh (n + 1)).1 = tag) (h20 : 20 ≤ tag) (h24 : tag < 24)
    (htys : ∀ aC : Nat → ClassId, (tw_tys aC)[tag - 20]? = some (aC (tag - 20), ty)) (hdef : defaultValue ty = .int 0) (hby : componentBytes ty ≤ 8) (hx0 : ¬ x < 0) (hx : x.toNatClampNeg = (tw_sh (n + 1)).2) :
    tw_AdvN l D aC z b L xs n σ m pc ls (.int x :: st) (i + 1) (.ref (n + 1) :: st) := by
  intro ad p e s mi args below meth c H locs cells slots Rm Q lsC hC hH hL hN hS hf hl hce hsl kk
  have hlv : tw_live (n + 1) (some (n + 1)) = true := by
    simp only [tw_live, Bool.and_eq_true, Nat.ble_eq]
    exact ⟨by omega, Nat.le_refl _⟩
  have h4 := (tw_kd_A (show tw_cn (some (n + 1)) ≤ tw_NC from hc) hlv (by omega)).1
  refine va_newa (N' := (tw_sh (n + 1)).2) (a0 := ((tw_sh (n + 1)).2, .inl (fun _ => 0))) (ty := ty) hC.1 hC.2.1 (by rw [hty]; exact hC.hts _ hw) hty hC.K hH.2.1 hH.2.2.1 hH.2.2.2 (fun q hq => Nat.le_trans hC.zs hq) (fun cA => by rw [hdef]; rfl) hx0 hx (Nat.le_trans (Nat.mul_le_mul h4 hby) (by decide)) hce hsl hd (fun q cA H1 hK1 hP1 hD1 hS1 => ?_)
  have e0 := tw_K_last hK1 (htys aC) (by omega)
  have e1 : tw_cellE (some (n + 1)) (tw_adq ad n q) aC (tw_born σ (n + 1)) (n + 1) = .inl (cA, (tw_sh (n + 1)).2, .inl (fun _ => 0)) := by
    rw [tw_cellE_A hsh h20 h24, e0]
    simp only [tw_born_new]
  rw [tw_born_ws hc e1] at hP1 hD1
  have k1 := kk (tw_adq ad n q) H1 _ tw_adq_agr hn ⟨by rw [← hH.1]; exact if_neg (by omega), hP1, hD1, hS1⟩
  have e3 : (.ref (n + 1) :: st : List Value).map (tw_rel (tw_adq ad n q)) = .ref q :: st.map (tw_rel ad) := by
    rw [List.map_cons, tw_map_agr (tw_okt hS) tw_adq_agr]
    show Value.ref (tw_adq ad n q (n + 1)) :: _ = _
    rw [tw_adq_self]
  rw [e3] at k1
  exact k1
theorem tw_a_newq {idx : Nat} (hc : n < tw_NC) (hd : decode (tw_mB m) pc = .ok (.anewarray idx, 3)) (hn : tw_next m (i + 1) (pc + 3)) (hw : Jvm.Cond.classLink (tw_own m) idx "CardLoom$Card" ∈ tw_gw) (hsh : (tw_sh (n + 1)).1 = 24) (hx0 : ¬ x < 0) (hx : x.toNatClampNeg = (tw_sh (n + 1)).2) :
    tw_AdvN l D aC z b L xs n σ m pc ls (.int x :: st) (i + 1) (.ref (n + 1) :: st) := by
  intro ad p e s mi args below meth c H locs cells slots Rm Q lsC hC hH hL hN hS hf hl hce hsl kk
  have hlv : tw_live (n + 1) (some (n + 1)) = true := by
    simp only [tw_live, Bool.and_eq_true, Nat.ble_eq]
    exact ⟨by omega, Nat.le_refl _⟩
  have h4 := (tw_kd_A (show tw_cn (some (n + 1)) ≤ tw_NC from hc) hlv (by omega)).1
  refine va_newq (N' := (tw_sh (n + 1)).2) hC.1 hC.2.1 hC.own (hC.hts _ hw) hC.over hC.K hH.2.1 hH.2.2.1 hH.2.2.2 (fun q hq => Nat.le_trans hC.zs hq) hx0 hx (Nat.le_trans (Nat.mul_le_mul h4 (Nat.le_refl 4)) (by decide)) hce hsl hd (fun q cA H1 hK1 hP1 hD1 hS1 => ?_)
  have e0 := tw_K_last (t := 4) hK1 rfl (by omega)
  have e1 : tw_cellE (some (n + 1)) (tw_adq ad n q) aC (tw_born σ (n + 1)) (n + 1) = .inl (cA, (tw_sh (n + 1)).2, .inr (.inr (.inr (.inr (fun _ => none))))) := by
    rw [tw_cellE_Q hsh, e0]
    congr 7
    funext j
    have e2 : tw_val (some (n + 1)) (tw_born σ (n + 1)) (n + 1) j = .int 0 ∨ tw_val (some (n + 1)) (tw_born σ (n + 1)) (n + 1) j = .null := by
      unfold tw_val
      rw [tw_born_new]
      cases tw_kd (n + 1) j with
      | mk t1 t2 =>
        cases t1 with
        | zero => exact Or.inl rfl
        | succ t1 => exact Or.inr (if_pos rfl)
    rcases e2 with e2 | e2 <;> rw [e2] <;> rfl
  rw [tw_born_ws hc e1] at hP1 hD1
  have k1 := kk (tw_adq ad n q) H1 _ tw_adq_agr hn ⟨by rw [← hH.1]; exact if_neg (by omega), hP1, hD1, hS1⟩
  have e3 : (.ref (n + 1) :: st : List Value).map (tw_rel (tw_adq ad n q)) = .ref q :: st.map (tw_rel ad) := by
    rw [List.map_cons, tw_map_agr (tw_okt hS) tw_adq_agr]
    show Value.ref (tw_adq ad n q (n + 1)) :: _ = _
    rw [tw_adq_self]
  rw [e3] at k1
  exact k1
end tw_C
end
section
/-! one step of the table machine is a stretch of the machine's run -/
section tw_D
variable {D : va_G} {aC : Nat → ClassId} {z b L : Nat} {xs : Nat → Int32} {l : Launch} {md : tw_Md} {σ σ1 : tw_Mem} {m pc i i1 n : Nat} {ls lsB st stB r : List Value} {x y v : Int32}
def tw_Adv (l : Launch) (D : va_G) (aC : Nat → ClassId) (z b L : Nat) (xs : Nat → Int32) (m pc : Nat) (lsA stA : List Value) (md : tw_Md) (σ : tw_Mem) (g : tw_Cfg) : Prop :=
  tw_cn md ≤ tw_cn g.2.2.2.1 ∧ tw_sl md ≤ tw_sl g.2.2.2.1 ∧ tw_cn g.2.2.2.1 ≤ tw_NC ∧ (md = none → g.2.2.2.1 = none) ∧
  ∀ (ad : Nat → Nat) (p : Program) (e : Env) (s : State) (mi : MethodId) (args : Array Value) (below : List Frame) (meth : Method) (c : Code) (H : Heap) (locs : List Loc) (cells slots : Nat) (Rm : Room) (Q : State → Prop) (ls : Array Slot),
    tw_Cx D aC z b L xs m p s mi args meth c → tw_Hx D aC z b ad md σ s H locs → tw_Lr ad md lsA ls → lsA.length = tw_mL m → (∀ v ∈ stA, tw_okv md v) → 1 ≤ Rm.frames → 64 ≤ Rm.locals →
    cells + (tw_cn g.2.2.2.1 - tw_cn md) ≤ Rm.cells → slots + (tw_sl g.2.2.2.1 - tw_sl md) ≤ Rm.slots →
    (∀ (ad1 : Nat → Nat) (H1 : Heap) (locs1 : List Loc) (ls1 : Array Slot) (pc1 : Nat), tw_agr md ad ad1 → tw_next m g.1 pc1 → tw_Hx D aC z b ad1 g.2.2.2.1 g.2.2.2.2 s H1 locs1 → tw_Lr ad1 g.2.2.2.1 g.2.1 ls1 → g.2.1.length = tw_mL m → (∀ v ∈ g.2.2.1, tw_okv g.2.2.2.1 v) →
      W p l e Rm s mi args below meth c H1 locs1 (cells + (tw_cn g.2.2.2.1 - tw_cn md)) (slots + (tw_sl g.2.2.2.1 - tw_sl md)) Q (F0 mi pc1 ls1 (g.2.2.1.map (tw_rel ad1)))) →
    W p l e Rm s mi args below meth c H locs cells slots Q (F0 mi pc ls (stA.map (tw_rel ad)))
theorem tw_AdvS.adv (hc : tw_cn md ≤ tw_NC) (h : tw_AdvS l D aC z b L xs md σ m pc ls st i1 lsB stB) : tw_Adv l D aC z b L xs m pc ls st md σ (i1, lsB, stB, md, σ) := by
  refine ⟨Nat.le_refl _, Nat.le_refl _, hc, fun q => q, ?_⟩
  intro ad p e s mi args below meth c H locs cells slots Rm Q lsC hC hH hL hN hS hf hl hce hsl k
  refine h ad p e s mi args below meth c H locs cells slots Rm Q lsC hC hH hL hN hS hf hl (fun ls1 pc1 g1 g2 g3 g4 => ?_)
  exact W.cs (by simp) (by simp) (k ad H locs ls1 pc1 tw_agr_rf g1 hH g2 g3 g4)
theorem tw_AdvM.adv (hc : tw_cn md ≤ tw_NC) (h : tw_AdvM l D aC z b L xs md σ m pc ls st i1 stB σ1) : tw_Adv l D aC z b L xs m pc ls st md σ (i1, ls, stB, md, σ1) := by
  refine ⟨Nat.le_refl _, Nat.le_refl _, hc, fun q => q, ?_⟩
  intro ad p e s mi args below meth c H locs cells slots Rm Q lsC hC hH hL hN hS hf hl hce hsl k
  refine h ad p e s mi args below meth c H locs cells slots Rm Q lsC hC hH hL hN hS hf hl (fun H1 locs1 pc1 g1 g2 g3 => ?_)
  exact W.cs (by simp) (by simp) (k ad H1 locs1 lsC pc1 tw_agr_rf g1 g2 hL hN g3)
theorem tw_okv_up {v : Value} (h : tw_okv (some n) v) : tw_okv (some (n + 1)) v := by
  cases v <;> first | exact h | exact Nat.le_succ_of_le h
theorem tw_Lr.up {ad ad1 : Nat → Nat} {ls0 : Array Slot} (h : tw_Lr ad (some n) ls ls0) (ha : tw_agr (some n) ad ad1) : tw_Lr ad1 (some (n + 1)) ls ls0 := by
  have h1 := h.agr ha
  exact ⟨h1.1, h1.2.1, fun i v hv => ⟨tw_okv_up (h1.2.2 i v hv).1, (h1.2.2 i v hv).2⟩⟩
theorem tw_AdvN.adv (hc : n < tw_NC) (ht : ∀ v ∈ stB, v = .ref (n + 1) ∨ v ∈ st) (h : tw_AdvN l D aC z b L xs n σ m pc ls st i1 stB) : tw_Adv l D aC z b L xs m pc ls st (some n) σ (i1, ls, stB, some (n + 1), tw_born σ (n + 1)) := by
  have e1 : tw_cn (some (n + 1)) - tw_cn (some n) = 1 := by show n + 1 - n = 1; omega
  have e2 : tw_sl (some (n + 1)) = tw_sl (some n) + (tw_sh (n + 1)).2 := rfl
  refine ⟨Nat.le_succ n, by rw [e2]; omega, hc, (fun q => by cases q), ?_⟩
  intro ad p e s mi args below meth c H locs cells slots Rm Q lsC hC hH hL hN hS hf hl hce hsl k
  have e3 : tw_sl (some (n + 1)) - tw_sl (some n) = (tw_sh (n + 1)).2 := by rw [e2]; omega
  refine h ad p e s mi args below meth c H locs cells slots Rm Q lsC hC hH hL hN hS hf hl (by rw [← e1]; exact hce) (by rw [← e3]; exact hsl) (fun ad1 H1 pc1 g1 g2 g3 => ?_)
  refine W.cs (show cells + 1 = cells + (tw_cn (some (n + 1)) - tw_cn (some n)) by rw [e1]) (show slots + (tw_sh (n + 1)).2 = slots + (tw_sl (some (n + 1)) - tw_sl (some n)) by rw [e3]) (k ad1 H1 locs lsC pc1 g1 g2 g3 (hL.up g1) hN (fun v hv => ?_))
  rcases ht v hv with rfl | hv
  · exact Nat.le_refl _
  · exact tw_okv_up (hS v hv)
theorem tw_ck_tg {ln : Nat} {ins : Jvm.ClassFile.Instr} {off : Int} {a : Nat} (h : (decide (decode (tw_mB m) pc = .ok (ins, ln)) && (Nat.beq ln 3 && tw_nx m (i + 1) (pc + 3) && tw_tg m a pc off)) = true) : decode (tw_mB m) pc = .ok (ins, 3) ∧ tw_next m (i + 1) (pc + 3) ∧ ∃ t : Nat, (pc : Int) + off = (t : Int) ∧ tw_next m a t := by
  obtain ⟨⟨h1, h2⟩, h3⟩ := tw_ck2 h
  exact ⟨h1, h2, tw_tg_next h3⟩
theorem tw_bit_ok {x : Int32} (h : tw_bit x = true) : x = 0 ∨ x = 1 := by
  unfold tw_bit at h
  rw [Bool.or_eq_true, decide_eq_true_eq, decide_eq_true_eq] at h
  exact h
/-- a load -/
theorem tw_ldi_inv {a : Nat} {g : tw_Cfg} (h : tw_ldi i a ls st md σ = some (.inl g)) : ∃ x, ls[a]? = some (.int x) ∧ g = (i + 1, ls, .int x :: st, md, σ) := by
  unfold tw_ldi at h
  split at h
  · rename_i x hx
    cases h
    exact ⟨x, hx, rfl⟩
  · cases h
theorem tw_lda_inv {a : Nat} {g : tw_Cfg} (h : tw_lda i a ls st md σ = some (.inl g)) : (∃ k, ls[a]? = some (.ref k) ∧ g = (i + 1, ls, .ref k :: st, md, σ)) ∨ (ls[a]? = some .null ∧ g = (i + 1, ls, .null :: st, md, σ)) := by
  unfold tw_lda at h
  split at h
  · rename_i x hx
    cases h
    exact Or.inl ⟨x, hx, rfl⟩
  · rename_i hx
    cases h
    exact Or.inr ⟨hx, rfl⟩
  · cases h
theorem tw_sti_inv {a : Nat} {g : tw_Cfg} (h : tw_sti i a ls st md σ = some (.inl g)) : ∃ x r, st = .int x :: r ∧ a < ls.length ∧ g = (i + 1, ls.set a (.int x), r, md, σ) := by
  unfold tw_sti at h
  split at h
  · split at h
    · rename_i hx
      cases h
      exact ⟨_, _, rfl, by simpa [Nat.blt_eq] using hx, rfl⟩
    · cases h
  · cases h
theorem tw_sta_inv {a : Nat} {g : tw_Cfg} (h : tw_sta i a ls st md σ = some (.inl g)) : (∃ x r, st = .ref x :: r ∧ a < ls.length ∧ g = (i + 1, ls.set a (.ref x), r, md, σ)) ∨ (∃ r, st = .null :: r ∧ a < ls.length ∧ g = (i + 1, ls.set a .null, r, md, σ)) := by
  unfold tw_sta at h
  split at h
  · split at h
    · rename_i hx
      cases h
      exact Or.inl ⟨_, _, rfl, by simpa [Nat.blt_eq] using hx, rfl⟩
    · cases h
  · split at h
    · rename_i hx
      cases h
      exact Or.inr ⟨_, rfl, by simpa [Nat.blt_eq] using hx, rfl⟩
    · cases h
  · cases h
end tw_D
end
section
/-! every instruction: what the table machine does in one step the machine does -/
section tw_E1
variable {D : va_G} {aC : Nat → ClassId} {z b L : Nat} {xs : Nat → Int32} {l : Launch} {md : tw_Md} {σ : tw_Mem} {m pc ln i a bb : Nat} {ls st : List Value} {zz : Int32} {ts : List Nat} {g : tw_Cfg}
theorem tw_x_iconst {q : Int} (hc : tw_cn md ≤ tw_NC) (hk : tw_chkI m i (pc, ln, (.iconst q), a, bb, zz, ts) = true) (hs : tw_step L xs (.iconst q) a bb zz ts i ls st md σ = some (.inl g)) : tw_Adv l D aC z b L xs m pc ls st md σ g := by
  obtain ⟨⟨hd, hn⟩, hz⟩ := tw_ck2 hk
  cases hs
  exact (tw_a_iconst hd hn (of_decide_eq_true hz)).adv hc
theorem tw_x_bipush {q : Int} (hc : tw_cn md ≤ tw_NC) (hk : tw_chkI m i (pc, ln, (.bipush q), a, bb, zz, ts) = true) (hs : tw_step L xs (.bipush q) a bb zz ts i ls st md σ = some (.inl g)) : tw_Adv l D aC z b L xs m pc ls st md σ g := by
  obtain ⟨⟨hd, hn⟩, hz⟩ := tw_ck2 hk
  cases hs
  exact (tw_a_bipush hd hn (of_decide_eq_true hz)).adv hc
theorem tw_x_sipush {q : Int} (hc : tw_cn md ≤ tw_NC) (hk : tw_chkI m i (pc, ln, (.sipush q), a, bb, zz, ts) = true) (hs : tw_step L xs (.sipush q) a bb zz ts i ls st md σ = some (.inl g)) : tw_Adv l D aC z b L xs m pc ls st md σ g := by
  obtain ⟨⟨hd, hn⟩, hz⟩ := tw_ck2 hk
  cases hs
  exact (tw_a_sipush hd hn (of_decide_eq_true hz)).adv hc
theorem tw_x_ldc {q : Nat} (hc : tw_cn md ≤ tw_NC) (hk : tw_chkI m i (pc, ln, (.ldc q), a, bb, zz, ts) = true) (hs : tw_step L xs (.ldc q) a bb zz ts i ls st md σ = some (.inl g)) : tw_Adv l D aC z b L xs m pc ls st md σ g := by
  obtain ⟨⟨hd, hn⟩, hz⟩ := tw_ck2 hk
  cases hs
  exact (tw_a_ldc hd hn (tw_w_mem hz)).adv hc
theorem tw_x_ldcw {q : Nat} (hc : tw_cn md ≤ tw_NC) (hk : tw_chkI m i (pc, ln, (.ldc_w q), a, bb, zz, ts) = true) (hs : tw_step L xs (.ldc_w q) a bb zz ts i ls st md σ = some (.inl g)) : tw_Adv l D aC z b L xs m pc ls st md σ g := by
  obtain ⟨⟨hd, hn⟩, hz⟩ := tw_ck2 hk
  cases hs
  exact (tw_a_ldcw hd hn (tw_w_mem hz)).adv hc
theorem tw_x_null (hc : tw_cn md ≤ tw_NC) (hk : tw_chkI m i (pc, ln, .aconst_null, a, bb, zz, ts) = true) (hs : tw_step L xs .aconst_null a bb zz ts i ls st md σ = some (.inl g)) : tw_Adv l D aC z b L xs m pc ls st md σ g := by
  obtain ⟨hd, hn⟩ := tw_ck1 hk
  cases hs
  exact (tw_a_null hd hn).adv hc
theorem tw_x_iload_n {q : Fin 4} (hc : tw_cn md ≤ tw_NC) (hk : tw_chkI m i (pc, ln, (.iload_n q), a, bb, zz, ts) = true) (hs : tw_step L xs (.iload_n q) a bb zz ts i ls st md σ = some (.inl g)) : tw_Adv l D aC z b L xs m pc ls st md σ g := by
  obtain ⟨⟨hd, hn⟩, hq⟩ := tw_ck2 hk
  have hq := Nat.eq_of_beq_eq_true hq
  obtain ⟨x, hx, rfl⟩ := tw_ldi_inv hs
  exact (tw_a_iload_n hd hn hq hx).adv hc
theorem tw_x_iload {q : Nat} (hc : tw_cn md ≤ tw_NC) (hk : tw_chkI m i (pc, ln, (.iload q), a, bb, zz, ts) = true) (hs : tw_step L xs (.iload q) a bb zz ts i ls st md σ = some (.inl g)) : tw_Adv l D aC z b L xs m pc ls st md σ g := by
  obtain ⟨⟨hd, hn⟩, hq⟩ := tw_ck2 hk
  have hq := Nat.eq_of_beq_eq_true hq
  subst hq
  obtain ⟨x, hx, rfl⟩ := tw_ldi_inv hs
  exact (tw_a_iload hd hn hx).adv hc
theorem tw_x_aload_n {q : Fin 4} (hc : tw_cn md ≤ tw_NC) (hk : tw_chkI m i (pc, ln, (.aload_n q), a, bb, zz, ts) = true) (hs : tw_step L xs (.aload_n q) a bb zz ts i ls st md σ = some (.inl g)) : tw_Adv l D aC z b L xs m pc ls st md σ g := by
  obtain ⟨⟨hd, hn⟩, hq⟩ := tw_ck2 hk
  have hq := Nat.eq_of_beq_eq_true hq
  rcases tw_lda_inv hs with ⟨x, hx, rfl⟩ | ⟨hx, rfl⟩
  · exact (tw_a_aload_n hd hn hq hx).adv hc
  · exact (tw_a_aload_nN hd hn hq hx).adv hc
theorem tw_x_aload {q : Nat} (hc : tw_cn md ≤ tw_NC) (hk : tw_chkI m i (pc, ln, (.aload q), a, bb, zz, ts) = true) (hs : tw_step L xs (.aload q) a bb zz ts i ls st md σ = some (.inl g)) : tw_Adv l D aC z b L xs m pc ls st md σ g := by
  obtain ⟨⟨hd, hn⟩, hq⟩ := tw_ck2 hk
  have hq := Nat.eq_of_beq_eq_true hq
  subst hq
  rcases tw_lda_inv hs with ⟨x, hx, rfl⟩ | ⟨hx, rfl⟩
  · exact (tw_a_aload hd hn hx).adv hc
  · exact (tw_a_aloadN hd hn hx).adv hc
theorem tw_x_istore_n {q : Fin 4} (hc : tw_cn md ≤ tw_NC) (hk : tw_chkI m i (pc, ln, (.istore_n q), a, bb, zz, ts) = true) (hs : tw_step L xs (.istore_n q) a bb zz ts i ls st md σ = some (.inl g)) : tw_Adv l D aC z b L xs m pc ls st md σ g := by
  obtain ⟨⟨hd, hn⟩, hq⟩ := tw_ck2 hk
  have hq := Nat.eq_of_beq_eq_true hq
  obtain ⟨x, r, rfl, hx, rfl⟩ := tw_sti_inv hs
  exact (tw_a_istore_n hd hn hq hx).adv hc
theorem tw_x_istore {q : Nat} (hc : tw_cn md ≤ tw_NC) (hk : tw_chkI m i (pc, ln, (.istore q), a, bb, zz, ts) = true) (hs : tw_step L xs (.istore q) a bb zz ts i ls st md σ = some (.inl g)) : tw_Adv l D aC z b L xs m pc ls st md σ g := by
  obtain ⟨⟨hd, hn⟩, hq⟩ := tw_ck2 hk
  have hq := Nat.eq_of_beq_eq_true hq
  subst hq
  obtain ⟨x, r, rfl, hx, rfl⟩ := tw_sti_inv hs
  exact (tw_a_istore hd hn hx).adv hc
theorem tw_x_astore_n {q : Fin 4} (hc : tw_cn md ≤ tw_NC) (hk : tw_chkI m i (pc, ln, (.astore_n q), a, bb, zz, ts) = true) (hs : tw_step L xs (.astore_n q) a bb zz ts i ls st md σ = some (.inl g)) : tw_Adv l D aC z b L xs m pc ls st md σ g := by
  obtain ⟨⟨hd, hn⟩, hq⟩ := tw_ck2 hk
  have hq := Nat.eq_of_beq_eq_true hq
  rcases tw_sta_inv hs with ⟨x, r, rfl, hx, rfl⟩ | ⟨r, rfl, hx, rfl⟩
  · exact (tw_a_astore_n hd hn hq hx).adv hc
  · exact (tw_a_astore_nN hd hn hq hx).adv hc
theorem tw_x_astore {q : Nat} (hc : tw_cn md ≤ tw_NC) (hk : tw_chkI m i (pc, ln, (.astore q), a, bb, zz, ts) = true) (hs : tw_step L xs (.astore q) a bb zz ts i ls st md σ = some (.inl g)) : tw_Adv l D aC z b L xs m pc ls st md σ g := by
  obtain ⟨⟨hd, hn⟩, hq⟩ := tw_ck2 hk
  have hq := Nat.eq_of_beq_eq_true hq
  subst hq
  rcases tw_sta_inv hs with ⟨x, r, rfl, hx, rfl⟩ | ⟨r, rfl, hx, rfl⟩
  · exact (tw_a_astore hd hn hx).adv hc
  · exact (tw_a_astoreN hd hn hx).adv hc
theorem tw_x_iinc {q : Nat} {w : Int} (hc : tw_cn md ≤ tw_NC) (hk : tw_chkI m i (pc, ln, (.iinc q w), a, bb, zz, ts) = true) (hs : tw_step L xs (.iinc q w) a bb zz ts i ls st md σ = some (.inl g)) : tw_Adv l D aC z b L xs m pc ls st md σ g := by
  have h0 := hk
  unfold tw_chkI at h0
  simp only [Bool.and_eq_true, decide_eq_true_eq] at h0
  obtain ⟨hd, ⟨⟨hl, hn⟩, hq⟩, hw⟩ := h0
  have e := Nat.eq_of_beq_eq_true hl
  subst e
  have hn := tw_nx_next hn
  have hq := Nat.eq_of_beq_eq_true hq
  subst hq
  have hs1 : (match ls[q]? with
    | some (.int x) => tw_go (i + 1) (ls.set q (.int (x + zz))) st md σ
    | _ => none) = some (.inl g) := hs
  split at hs1
  · rename_i x hx
    cases hs1
    exact (tw_a_iinc hd hn hw hx).adv hc
  · cases hs1
theorem tw_x_iadd (hc : tw_cn md ≤ tw_NC) (hk : tw_chkI m i (pc, ln, .iadd, a, bb, zz, ts) = true) (hs : tw_step L xs .iadd a bb zz ts i ls st md σ = some (.inl g)) : tw_Adv l D aC z b L xs m pc ls st md σ g := by
  obtain ⟨hd, hn⟩ := tw_ck1 hk
  obtain ⟨x, y, r, rfl, h⟩ := tw_p2_inv hs
  cases h
  exact (tw_a_iadd hd hn).adv hc
theorem tw_x_isub (hc : tw_cn md ≤ tw_NC) (hk : tw_chkI m i (pc, ln, .isub, a, bb, zz, ts) = true) (hs : tw_step L xs .isub a bb zz ts i ls st md σ = some (.inl g)) : tw_Adv l D aC z b L xs m pc ls st md σ g := by
  obtain ⟨hd, hn⟩ := tw_ck1 hk
  obtain ⟨x, y, r, rfl, h⟩ := tw_p2_inv hs
  cases h
  exact (tw_a_isub hd hn).adv hc
theorem tw_x_imul (hc : tw_cn md ≤ tw_NC) (hk : tw_chkI m i (pc, ln, .imul, a, bb, zz, ts) = true) (hs : tw_step L xs .imul a bb zz ts i ls st md σ = some (.inl g)) : tw_Adv l D aC z b L xs m pc ls st md σ g := by
  obtain ⟨hd, hn⟩ := tw_ck1 hk
  obtain ⟨x, y, r, rfl, h⟩ := tw_p2_inv hs
  cases h
  exact (tw_a_imul hd hn).adv hc
theorem tw_x_iand (hc : tw_cn md ≤ tw_NC) (hk : tw_chkI m i (pc, ln, .iand, a, bb, zz, ts) = true) (hs : tw_step L xs .iand a bb zz ts i ls st md σ = some (.inl g)) : tw_Adv l D aC z b L xs m pc ls st md σ g := by
  obtain ⟨hd, hn⟩ := tw_ck1 hk
  obtain ⟨x, y, r, rfl, h⟩ := tw_p2_inv hs
  cases h
  exact (tw_a_iand hd hn).adv hc
theorem tw_x_ior (hc : tw_cn md ≤ tw_NC) (hk : tw_chkI m i (pc, ln, .ior, a, bb, zz, ts) = true) (hs : tw_step L xs .ior a bb zz ts i ls st md σ = some (.inl g)) : tw_Adv l D aC z b L xs m pc ls st md σ g := by
  obtain ⟨hd, hn⟩ := tw_ck1 hk
  obtain ⟨x, y, r, rfl, h⟩ := tw_p2_inv hs
  cases h
  exact (tw_a_ior hd hn).adv hc
theorem tw_x_ixor (hc : tw_cn md ≤ tw_NC) (hk : tw_chkI m i (pc, ln, .ixor, a, bb, zz, ts) = true) (hs : tw_step L xs .ixor a bb zz ts i ls st md σ = some (.inl g)) : tw_Adv l D aC z b L xs m pc ls st md σ g := by
  obtain ⟨hd, hn⟩ := tw_ck1 hk
  obtain ⟨x, y, r, rfl, h⟩ := tw_p2_inv hs
  cases h
  exact (tw_a_ixor hd hn).adv hc
theorem tw_x_ishl (hc : tw_cn md ≤ tw_NC) (hk : tw_chkI m i (pc, ln, .ishl, a, bb, zz, ts) = true) (hs : tw_step L xs .ishl a bb zz ts i ls st md σ = some (.inl g)) : tw_Adv l D aC z b L xs m pc ls st md σ g := by
  obtain ⟨hd, hn⟩ := tw_ck1 hk
  obtain ⟨x, y, r, rfl, h⟩ := tw_p2_inv hs
  cases h
  exact (tw_a_ishl hd hn).adv hc
theorem tw_x_ishr (hc : tw_cn md ≤ tw_NC) (hk : tw_chkI m i (pc, ln, .ishr, a, bb, zz, ts) = true) (hs : tw_step L xs .ishr a bb zz ts i ls st md σ = some (.inl g)) : tw_Adv l D aC z b L xs m pc ls st md σ g := by
  obtain ⟨hd, hn⟩ := tw_ck1 hk
  obtain ⟨x, y, r, rfl, h⟩ := tw_p2_inv hs
  cases h
  exact (tw_a_ishr hd hn).adv hc
theorem tw_x_idiv (hc : tw_cn md ≤ tw_NC) (hk : tw_chkI m i (pc, ln, .idiv, a, bb, zz, ts) = true) (hs : tw_step L xs .idiv a bb zz ts i ls st md σ = some (.inl g)) : tw_Adv l D aC z b L xs m pc ls st md σ g := by
  obtain ⟨hd, hn⟩ := tw_ck1 hk
  obtain ⟨x, y, r, rfl, h⟩ := tw_p2_inv hs
  split at h
  · cases h
  · rename_i h0
    cases h
    exact (tw_a_idiv hd hn h0).adv hc
theorem tw_x_irem (hc : tw_cn md ≤ tw_NC) (hk : tw_chkI m i (pc, ln, .irem, a, bb, zz, ts) = true) (hs : tw_step L xs .irem a bb zz ts i ls st md σ = some (.inl g)) : tw_Adv l D aC z b L xs m pc ls st md σ g := by
  obtain ⟨hd, hn⟩ := tw_ck1 hk
  obtain ⟨x, y, r, rfl, h⟩ := tw_p2_inv hs
  split at h
  · cases h
  · rename_i h0
    cases h
    exact (tw_a_irem hd hn h0).adv hc
theorem tw_x_ineg (hc : tw_cn md ≤ tw_NC) (hk : tw_chkI m i (pc, ln, .ineg, a, bb, zz, ts) = true) (hs : tw_step L xs .ineg a bb zz ts i ls st md σ = some (.inl g)) : tw_Adv l D aC z b L xs m pc ls st md σ g := by
  obtain ⟨hd, hn⟩ := tw_ck1 hk
  obtain ⟨x, r, rfl, h⟩ := tw_p1_inv hs
  cases h
  exact (tw_a_ineg hd hn).adv hc
theorem tw_x_i2b (hc : tw_cn md ≤ tw_NC) (hk : tw_chkI m i (pc, ln, .i2b, a, bb, zz, ts) = true) (hs : tw_step L xs .i2b a bb zz ts i ls st md σ = some (.inl g)) : tw_Adv l D aC z b L xs m pc ls st md σ g := by
  obtain ⟨hd, hn⟩ := tw_ck1 hk
  obtain ⟨x, r, rfl, h⟩ := tw_p1_inv hs
  cases h
  exact (tw_a_i2b hd hn).adv hc
theorem tw_x_i2c (hc : tw_cn md ≤ tw_NC) (hk : tw_chkI m i (pc, ln, .i2c, a, bb, zz, ts) = true) (hs : tw_step L xs .i2c a bb zz ts i ls st md σ = some (.inl g)) : tw_Adv l D aC z b L xs m pc ls st md σ g := by
  obtain ⟨hd, hn⟩ := tw_ck1 hk
  obtain ⟨x, r, rfl, h⟩ := tw_p1_inv hs
  cases h
  exact (tw_a_i2c hd hn).adv hc
theorem tw_x_dup (hc : tw_cn md ≤ tw_NC) (hk : tw_chkI m i (pc, ln, .dup, a, bb, zz, ts) = true) (hs : tw_step L xs .dup a bb zz ts i ls st md σ = some (.inl g)) : tw_Adv l D aC z b L xs m pc ls st md σ g := by
  obtain ⟨hd, hn⟩ := tw_ck1 hk
  rcases st with _ | ⟨u, _ | ⟨w, r⟩⟩
  · cases hs
  · cases hs
    exact (tw_a_dup hd hn).adv hc
  · cases hs
    exact (tw_a_dup hd hn).adv hc
theorem tw_x_dup2 (hc : tw_cn md ≤ tw_NC) (hk : tw_chkI m i (pc, ln, .dup2, a, bb, zz, ts) = true) (hs : tw_step L xs .dup2 a bb zz ts i ls st md σ = some (.inl g)) : tw_Adv l D aC z b L xs m pc ls st md σ g := by
  obtain ⟨hd, hn⟩ := tw_ck1 hk
  rcases st with _ | ⟨u, _ | ⟨w, r⟩⟩
  · cases hs
  · cases hs
  · cases hs
    exact (tw_a_dup2 hd hn).adv hc
theorem tw_x_pop (hc : tw_cn md ≤ tw_NC) (hk : tw_chkI m i (pc, ln, .pop, a, bb, zz, ts) = true) (hs : tw_step L xs .pop a bb zz ts i ls st md σ = some (.inl g)) : tw_Adv l D aC z b L xs m pc ls st md σ g := by
  obtain ⟨hd, hn⟩ := tw_ck1 hk
  rcases st with _ | ⟨u, _ | ⟨w, r⟩⟩
  · cases hs
  · cases hs
    exact (tw_a_pop hd hn).adv hc
  · cases hs
    exact (tw_a_pop hd hn).adv hc
theorem tw_x_if {c0 : Jvm.ClassFile.Cond} {off : Int} (hc : tw_cn md ≤ tw_NC) (hk : tw_chkI m i (pc, ln, (.ifCond c0 off), a, bb, zz, ts) = true) (hs : tw_step L xs (.ifCond c0 off) a bb zz ts i ls st md σ = some (.inl g)) : tw_Adv l D aC z b L xs m pc ls st md σ g := by
  obtain ⟨hd, hn, t, ht, hg⟩ := tw_ck_tg hk
  obtain ⟨x, r, rfl, h⟩ := tw_p1_inv hs
  cases h
  cases c0
  · exact (tw_a_if_eq hd hn ht hg).adv hc
  · exact (tw_a_if_ne hd hn ht hg).adv hc
  · exact (tw_a_if_lt hd hn ht hg).adv hc
  · exact (tw_a_if_ge hd hn ht hg).adv hc
  · exact (tw_a_if_gt hd hn ht hg).adv hc
  · exact (tw_a_if_le hd hn ht hg).adv hc
theorem tw_x_icmp {c0 : Jvm.ClassFile.Cond} {off : Int} (hc : tw_cn md ≤ tw_NC) (hk : tw_chkI m i (pc, ln, (.if_icmp c0 off), a, bb, zz, ts) = true) (hs : tw_step L xs (.if_icmp c0 off) a bb zz ts i ls st md σ = some (.inl g)) : tw_Adv l D aC z b L xs m pc ls st md σ g := by
  obtain ⟨hd, hn, t, ht, hg⟩ := tw_ck_tg hk
  obtain ⟨x, y, r, rfl, h⟩ := tw_p2_inv hs
  cases h
  cases c0
  · exact (tw_a_icmp_eq hd hn ht hg).adv hc
  · exact (tw_a_icmp_ne hd hn ht hg).adv hc
  · exact (tw_a_icmp_lt hd hn ht hg).adv hc
  · exact (tw_a_icmp_ge hd hn ht hg).adv hc
  · exact (tw_a_icmp_gt hd hn ht hg).adv hc
  · exact (tw_a_icmp_le hd hn ht hg).adv hc
theorem tw_x_ifnull {off : Int} (hc : tw_cn md ≤ tw_NC) (hk : tw_chkI m i (pc, ln, (.ifnull off), a, bb, zz, ts) = true) (hs : tw_step L xs (.ifnull off) a bb zz ts i ls st md σ = some (.inl g)) : tw_Adv l D aC z b L xs m pc ls st md σ g := by
  obtain ⟨hd, hn, t, ht, hg⟩ := tw_ck_tg hk
  rcases st with _ | ⟨u, r⟩
  · cases hs
  · cases u <;> first | (cases hs; done) | (cases hs; exact (tw_a_ifnullN (q := 0) hd hn ht hg).adv hc) | (cases hs; exact (tw_a_ifnull hd hn ht hg).adv hc)
theorem tw_x_ifnonnull {off : Int} (hc : tw_cn md ≤ tw_NC) (hk : tw_chkI m i (pc, ln, (.ifnonnull off), a, bb, zz, ts) = true) (hs : tw_step L xs (.ifnonnull off) a bb zz ts i ls st md σ = some (.inl g)) : tw_Adv l D aC z b L xs m pc ls st md σ g := by
  obtain ⟨hd, hn, t, ht, hg⟩ := tw_ck_tg hk
  rcases st with _ | ⟨u, r⟩
  · cases hs
  · cases u <;> first | (cases hs; done) | (cases hs; exact (tw_a_ifnonnullN (q := 0) hd hn ht hg).adv hc) | (cases hs; exact (tw_a_ifnonnull hd hn ht hg).adv hc)
theorem tw_x_goto {off : Int} (hc : tw_cn md ≤ tw_NC) (hk : tw_chkI m i (pc, ln, (.goto off), a, bb, zz, ts) = true) (hs : tw_step L xs (.goto off) a bb zz ts i ls st md σ = some (.inl g)) : tw_Adv l D aC z b L xs m pc ls st md σ g := by
  have h0 := hk
  unfold tw_chkI at h0
  simp only [Bool.and_eq_true, decide_eq_true_eq] at h0
  obtain ⟨h1, h2, h3⟩ := h0
  have e := Nat.eq_of_beq_eq_true h2
  subst e
  obtain ⟨t, ht, hg⟩ := tw_tg_next h3
  cases hs
  exact (tw_a_goto h1 ht hg).adv hc
theorem tw_x_switch {dflt lo hi : Int} {offs : Array Int} (hc : tw_cn md ≤ tw_NC) (hk : tw_chkI m i (pc, ln, (.tableswitch dflt lo hi offs), a, bb, zz, ts) = true) (hs : tw_step L xs (.tableswitch dflt lo hi offs) a bb zz ts i ls st md σ = some (.inl g)) : tw_Adv l D aC z b L xs m pc ls st md σ g := by
  have h0 := hk
  unfold tw_chkI at h0
  simp only [Bool.and_eq_true, decide_eq_true_eq] at h0
  obtain ⟨h1, ⟨⟨⟨h2, h3⟩, h4⟩, h5⟩, h6⟩ := h0
  have h6 := Nat.eq_of_beq_eq_true h6
  obtain ⟨t, ht, hg⟩ := tw_tg_next h2
  obtain ⟨x, r, rfl, h⟩ := tw_p1_inv hs
  split at h
  · rename_i hx
    cases h
    exact (tw_a_swOut h1 ht hg (by rw [← h3, ← h4]; exact hx)).adv hc
  · rename_i hx
    split at h
    · rename_i t1 ht1
      cases h
      have hlt := (List.getElem?_eq_some_iff.mp ht1).1
      have h7 := List.all_eq_true.mp h5 _ (List.mem_range.mpr hlt)
      have h8 : ts.getD (x.toInt - zz.toInt).toNat 0 = t1 := by rw [List.getD_eq_getElem?_getD, ht1]; rfl
      rw [h8] at h7
      obtain ⟨t2, ht2, hg2⟩ := tw_tg_next h7
      refine (tw_a_swIn h1 (by rw [← h3]; omega) (by rw [← h4]; omega) (off := offs.getD (x.toInt - zz.toInt).toNat 0) ?_ ht2 hg2).adv hc
      rw [← h3, Array.getD_eq_getD_getElem?, Array.getElem?_eq_getElem (by omega)]
      rfl
    · cases h
theorem tw_x_getfield {q : Nat} (hc : tw_cn md ≤ tw_NC) (hk : tw_chkI m i (pc, ln, (.getfield q), a, bb, zz, ts) = true) (hs : tw_step L xs (.getfield q) a bb zz ts i ls st md σ = some (.inl g)) : tw_Adv l D aC z b L xs m pc ls st md σ g := by
  have h0 := hk
  unfold tw_chkI at h0
  simp only [Bool.and_eq_true, decide_eq_true_eq, Nat.blt_eq] at h0
  obtain ⟨hd, ⟨⟨⟨⟨hl, hn⟩, h1⟩, h2⟩, h3⟩⟩ := h0
  have e := Nat.eq_of_beq_eq_true hl
  subst e
  have hn := tw_nx_next hn
  obtain ⟨k, r, rfl, h⟩ := tw_pr_inv hs
  split at h
  · rename_i h4
    rw [Bool.and_eq_true] at h4
    cases h
    exact (tw_a_getfield hc hd hn h1 (tw_w_mem h3) h4.1 (by simpa [Nat.blt_eq] using h4.2)).adv hc
  · cases h
theorem tw_x_putfield {q : Nat} (hc : tw_cn md ≤ tw_NC) (hk : tw_chkI m i (pc, ln, (.putfield q), a, bb, zz, ts) = true) (hs : tw_step L xs (.putfield q) a bb zz ts i ls st md σ = some (.inl g)) : tw_Adv l D aC z b L xs m pc ls st md σ g := by
  have h0 := hk
  unfold tw_chkI at h0
  simp only [Bool.and_eq_true, decide_eq_true_eq, Nat.blt_eq] at h0
  obtain ⟨hd, ⟨⟨⟨⟨⟨⟨hl, hn⟩, h1⟩, h2⟩, h3⟩, h4⟩, h5⟩⟩ := h0
  have e := Nat.eq_of_beq_eq_true hl
  subst e
  have hn := tw_nx_next hn
  have hfin : ((tw_cl a).2.1 bb).2.2.2 = false ∨ (((tw_cl a).2.1 bb).2.2.2 = true ∧ tw_mK m = 2 ∧ ((tw_cl a).2.1 bb).1 = tw_own m) := by
    cases hf : ((tw_cl a).2.1 bb).2.2.2 with
    | false => exact Or.inl rfl
    | true =>
      rw [hf] at h4
      simp only [Bool.not_true, Bool.false_or, Bool.and_eq_true, decide_eq_true_eq] at h4
      exact Or.inr ⟨rfl, Nat.eq_of_beq_eq_true h4.1, h4.2⟩
  have hty : ∀ t, tw_ty a bb = some t → tw_tyf a bb = t := fun t ht => by unfold tw_tyf; rw [ht]; rfl
  have hs1 : (match st with
    | .int x :: .ref k :: r => if tw_isO k a md && Nat.blt bb (tw_sh k).2 && Nat.beq (tw_kd k bb).1 0 && (decide (zz = 0) || tw_bit x) then tw_go (i + 1) ls r md (tw_upd σ k bb x) else none
    | .ref q :: .ref k :: r => if tw_isO k a md && Nat.blt bb (tw_sh k).2 && Nat.ble 1 (tw_kd k bb).1 && Nat.beq (tw_kd k bb).2 q && (md.isSome || Nat.ble 2 (tw_kd k bb).1) then tw_go (i + 1) ls r md (tw_upd σ k bb 1) else none
    | _ => none) = some (.inl g) := hs
  split at hs1
  · split at hs1
    · rename_i x k r h6
      simp only [Bool.and_eq_true, Nat.blt_eq] at h6
      obtain ⟨⟨⟨g1, g2⟩, g3⟩, g4⟩ := h6
      have g3 := Nat.eq_of_beq_eq_true g3
      cases hs1
      refine (tw_a_putI hc hd hn h1 (tw_w_mem h3) hfin g1 g2 g3 ?_).adv hc
      obtain ⟨-, -, -, -, w5⟩ := tw_shI_O hc g1 (by have := tw_vwl; omega)
      rcases w5 bb g2 with ⟨-, w⟩ | ⟨w, -⟩
      · rcases w with w | w
        · exact Or.inl w
        · refine Or.inr ⟨w, ?_⟩
          rw [Bool.or_eq_true, Bool.or_eq_true, decide_eq_true_eq, decide_eq_true_eq] at h5
          rcases h5 with (h5 | h5) | h5
          · rw [hty _ h5] at w; cases w
          · rw [Bool.or_eq_true, decide_eq_true_eq] at g4
            rcases g4 with g4 | g4
            · exact absurd g4 h5.2
            · exact tw_bit_ok g4
          · cases hq0 : tw_ty a bb with
            | none => rw [hq0] at h5; cases h5
            | some t0 => rw [hq0] at h5; rw [hty _ hq0] at w; subst w; cases h5
      · exact absurd g3 w
    · cases hs1
  · split at hs1
    · rename_i q0 k r h6
      simp only [Bool.and_eq_true, Nat.blt_eq, Nat.ble_eq, Bool.or_eq_true] at h6
      obtain ⟨⟨⟨⟨g1, g2⟩, g3⟩, g4⟩, g5⟩ := h6
      cases hs1
      exact (tw_a_putR hc hd hn h1 (tw_w_mem h3) hfin g1 g2 g3 (Nat.eq_of_beq_eq_true g4) g5).adv hc
    · cases hs1
  · cases hs1
end tw_E1
end
section
/-! every instruction, the arrays and what is made; then all of them together -/
section tw_E2
variable {D : va_G} {aC : Nat → ClassId} {z b L : Nat} {xs : Nat → Int32} {l : Launch} {md : tw_Md} {σ : tw_Mem} {m pc ln i a bb : Nat} {ls st : List Value} {zz : Int32} {ts : List Nat} {g : tw_Cfg}
theorem tw_x_iaload (hc : tw_cn md ≤ tw_NC) (hk : tw_chkI m i (pc, ln, .iaload, a, bb, zz, ts) = true) (hs : tw_step L xs .iaload a bb zz ts i ls st md σ = some (.inl g)) : tw_Adv l D aC z b L xs m pc ls st md σ g := by
  obtain ⟨hd, hn⟩ := tw_ck1 hk
  obtain ⟨j, k, r, rfl, h⟩ := tw_pir_inv hs
  split at h
  · rename_i h0
    have h0 := Nat.eq_of_beq_eq_true h0
    subst h0
    split at h
    · rename_i h1
      simp only [Bool.and_eq_true, Bool.not_eq_true', decide_eq_false_iff_not, Nat.blt_eq] at h1
      cases h
      exact (tw_a_sld hd hn (fun q => q.elim h1.1 (fun q => by omega))).adv hc
    · cases h
  · split at h
    · rename_i h1
      cases h
      exact (tw_a_iald hd hn h1).adv hc
    · cases h
theorem tw_x_baload (hc : tw_cn md ≤ tw_NC) (hk : tw_chkI m i (pc, ln, .baload, a, bb, zz, ts) = true) (hs : tw_step L xs .baload a bb zz ts i ls st md σ = some (.inl g)) : tw_Adv l D aC z b L xs m pc ls st md σ g := by
  obtain ⟨hd, hn⟩ := tw_ck1 hk
  obtain ⟨j, k, r, rfl, h⟩ := tw_pir_inv hs
  split at h
  · rename_i h1
    rw [Bool.or_eq_true] at h1
    cases h
    rcases h1 with h1 | h1
    · exact (tw_a_bald hd hn h1).adv hc
    · exact (tw_a_zald hd hn h1).adv hc
  · cases h
theorem tw_x_caload (hc : tw_cn md ≤ tw_NC) (hk : tw_chkI m i (pc, ln, .caload, a, bb, zz, ts) = true) (hs : tw_step L xs .caload a bb zz ts i ls st md σ = some (.inl g)) : tw_Adv l D aC z b L xs m pc ls st md σ g := by
  obtain ⟨hd, hn⟩ := tw_ck1 hk
  obtain ⟨j, k, r, rfl, h⟩ := tw_pir_inv hs
  split at h
  · rename_i h1
    cases h
    exact (tw_a_cald hd hn h1).adv hc
  · cases h
theorem tw_x_aaload (hc : tw_cn md ≤ tw_NC) (hk : tw_chkI m i (pc, ln, .aaload, a, bb, zz, ts) = true) (hs : tw_step L xs .aaload a bb zz ts i ls st md σ = some (.inl g)) : tw_Adv l D aC z b L xs m pc ls st md σ g := by
  obtain ⟨hd, hn⟩ := tw_ck1 hk
  obtain ⟨j, k, r, rfl, h⟩ := tw_pir_inv hs
  split at h
  · rename_i h1
    cases h
    exact (tw_a_aald hc hd hn h1).adv hc
  · cases h
theorem tw_x_iastore (hc : tw_cn md ≤ tw_NC) (hk : tw_chkI m i (pc, ln, .iastore, a, bb, zz, ts) = true) (hs : tw_step L xs .iastore a bb zz ts i ls st md σ = some (.inl g)) : tw_Adv l D aC z b L xs m pc ls st md σ g := by
  obtain ⟨hd, hn⟩ := tw_ck1 hk
  obtain ⟨x, j, k, r, rfl, h⟩ := tw_piir_inv hs
  split at h
  · rename_i h1
    cases h
    exact (tw_a_iast hd hn h1).adv hc
  · cases h
theorem tw_x_castore (hc : tw_cn md ≤ tw_NC) (hk : tw_chkI m i (pc, ln, .castore, a, bb, zz, ts) = true) (hs : tw_step L xs .castore a bb zz ts i ls st md σ = some (.inl g)) : tw_Adv l D aC z b L xs m pc ls st md σ g := by
  obtain ⟨hd, hn⟩ := tw_ck1 hk
  obtain ⟨x, j, k, r, rfl, h⟩ := tw_piir_inv hs
  split at h
  · rename_i h1
    cases h
    exact (tw_a_cast hd hn h1).adv hc
  · cases h
theorem tw_x_bastore (hc : tw_cn md ≤ tw_NC) (hk : tw_chkI m i (pc, ln, .bastore, a, bb, zz, ts) = true) (hs : tw_step L xs .bastore a bb zz ts i ls st md σ = some (.inl g)) : tw_Adv l D aC z b L xs m pc ls st md σ g := by
  obtain ⟨hd, hn⟩ := tw_ck1 hk
  obtain ⟨x, j, k, r, rfl, h⟩ := tw_piir_inv hs
  split at h
  · rename_i h1
    cases h
    exact (tw_a_bast hd hn h1).adv hc
  · split at h
    · rename_i h1
      cases h
      exact (tw_a_zast hd hn h1).adv hc
    · cases h
theorem tw_x_aastore (hc : tw_cn md ≤ tw_NC) (hk : tw_chkI m i (pc, ln, .aastore, a, bb, zz, ts) = true) (hs : tw_step L xs .aastore a bb zz ts i ls st md σ = some (.inl g)) : tw_Adv l D aC z b L xs m pc ls st md σ g := by
  obtain ⟨hd, hn⟩ := tw_ck1 hk
  have hs1 : (match st with
    | .ref q :: .int j :: .ref k :: r => if tw_isA k 24 md j && tw_isO q 0 md && Nat.beq (tw_kd k j.toNatClampNeg).1 1 && Nat.beq (tw_kd k j.toNatClampNeg).2 q && md.isSome then tw_go (i + 1) ls r md (tw_upd σ k j.toNatClampNeg 1) else none
    | _ => none) = some (.inl g) := hs
  split at hs1
  · split at hs1
    · rename_i q j k r h1
      simp only [Bool.and_eq_true] at h1
      obtain ⟨⟨⟨⟨g1, g2⟩, g3⟩, g4⟩, g5⟩ := h1
      cases hs1
      exact (tw_a_aast hc hd hn g1 g2 (Nat.eq_of_beq_eq_true g3) (Nat.eq_of_beq_eq_true g4) g5).adv hc
    · cases hs1
  · cases hs1
theorem tw_x_alen (hc : tw_cn md ≤ tw_NC) (hk : tw_chkI m i (pc, ln, .arraylength, a, bb, zz, ts) = true) (hs : tw_step L xs .arraylength a bb zz ts i ls st md σ = some (.inl g)) : tw_Adv l D aC z b L xs m pc ls st md σ g := by
  obtain ⟨hd, hn⟩ := tw_ck1 hk
  obtain ⟨k, r, rfl, h⟩ := tw_pr_inv hs
  split at h
  · rename_i h0
    have h0 := Nat.eq_of_beq_eq_true h0
    subst h0
    cases h
    exact (tw_a_slen hd hn).adv hc
  · split at h
    · rename_i h1
      rw [Bool.and_eq_true, Nat.ble_eq] at h1
      cases h
      exact (tw_a_alen hc hd hn h1.1 h1.2).adv hc
    · cases h
theorem tw_x_new {q : Nat} (hc : tw_cn md ≤ tw_NC) (hk : tw_chkI m i (pc, ln, (.new q), a, bb, zz, ts) = true) (hs : tw_step L xs (.new q) a bb zz ts i ls st md σ = some (.inl g)) : tw_Adv l D aC z b L xs m pc ls st md σ g := by
  have h0 := hk
  unfold tw_chkI at h0
  simp only [Bool.and_eq_true, decide_eq_true_eq, Nat.blt_eq] at h0
  obtain ⟨hd, ⟨⟨⟨⟨⟨hl, hn⟩, h1⟩, h2⟩, h3⟩, h4⟩⟩ := h0
  have e := Nat.eq_of_beq_eq_true hl
  subst e
  have hn := tw_nx_next hn
  cases md with
  | none => cases hs
  | some n =>
    have hs1 : (if Nat.blt n tw_NC && Nat.beq (tw_sh (n + 1)).1 a then tw_go (i + 1) ls (.ref (n + 1) :: st) (some (n + 1)) (tw_born σ (n + 1)) else none) = some (.inl g) := hs
    split at hs1
    · rename_i h5
      rw [Bool.and_eq_true, Nat.blt_eq] at h5
      cases hs1
      exact (tw_a_new h5.1 hd hn h1 (tw_w_mem h2) (tw_w_mem h3) (tw_w_mem h4) (Nat.eq_of_beq_eq_true h5.2)).adv h5.1 (fun v hv => List.mem_cons.mp hv)
    · cases hs1
theorem tw_x_newarray {t : Jvm.ClassFile.ArrayType} (hc : tw_cn md ≤ tw_NC) (hk : tw_chkI m i (pc, ln, (.newarray t), a, bb, zz, ts) = true) (hs : tw_step L xs (.newarray t) a bb zz ts i ls st md σ = some (.inl g)) : tw_Adv l D aC z b L xs m pc ls st md σ g := by
  have h0 := hk
  unfold tw_chkI at h0
  simp only [Bool.and_eq_true, decide_eq_true_eq, Nat.blt_eq, Nat.ble_eq] at h0
  obtain ⟨hd, ⟨⟨⟨⟨⟨hl, hn⟩, h1⟩, h2⟩, h3⟩, h4⟩⟩ := h0
  have e := Nat.eq_of_beq_eq_true hl
  subst e
  have hn := tw_nx_next hn
  obtain ⟨x, r, rfl, h⟩ := tw_p1_inv hs
  cases md with
  | none => cases h
  | some n =>
    have hs1 : (if Nat.blt n tw_NC && Nat.beq (tw_sh (n + 1)).1 a && !(decide (x < 0)) && Nat.beq x.toNatClampNeg (tw_sh (n + 1)).2 then tw_go (i + 1) ls (.ref (n + 1) :: r) (some (n + 1)) (tw_born σ (n + 1)) else none) = some (.inl g) := h
    split at hs1
    · rename_i h5
      simp only [Bool.and_eq_true, Nat.blt_eq, Bool.not_eq_true', decide_eq_false_iff_not] at h5
      obtain ⟨⟨⟨g1, g2⟩, g3⟩, g4⟩ := h5
      have g2 := Nat.eq_of_beq_eq_true g2
      have g4 := Nat.eq_of_beq_eq_true g4
      cases hs1
      have hv : ∀ v ∈ (Value.ref (n + 1) :: r : List Value), v = .ref (n + 1) ∨ v ∈ (Value.int x :: r : List Value) := fun v hv => (List.mem_cons.mp hv).imp id (List.mem_cons_of_mem _)
      rcases (show a = 20 ∨ a = 21 ∨ a = 22 ∨ a = 23 by omega) with rfl | rfl | rfl | rfl
      · exact (tw_a_newarr (tag := 20) g1 hd hn h3 (tw_w_mem h4) g2 (by decide) (by decide) (fun _ => rfl) rfl (by decide) g3 g4).adv g1 hv
      · exact (tw_a_newarr (tag := 21) g1 hd hn h3 (tw_w_mem h4) g2 (by decide) (by decide) (fun _ => rfl) rfl (by decide) g3 g4).adv g1 hv
      · exact (tw_a_newarr (tag := 22) g1 hd hn h3 (tw_w_mem h4) g2 (by decide) (by decide) (fun _ => rfl) rfl (by decide) g3 g4).adv g1 hv
      · exact (tw_a_newarr (tag := 23) g1 hd hn h3 (tw_w_mem h4) g2 (by decide) (by decide) (fun _ => rfl) rfl (by decide) g3 g4).adv g1 hv
    · cases hs1
theorem tw_x_anewarray {q : Nat} (hc : tw_cn md ≤ tw_NC) (hk : tw_chkI m i (pc, ln, (.anewarray q), a, bb, zz, ts) = true) (hs : tw_step L xs (.anewarray q) a bb zz ts i ls st md σ = some (.inl g)) : tw_Adv l D aC z b L xs m pc ls st md σ g := by
  obtain ⟨⟨hd, hn⟩, hz⟩ := tw_ck2 hk
  obtain ⟨x, r, rfl, h⟩ := tw_p1_inv hs
  cases md with
  | none => cases h
  | some n =>
    have hs1 : (if Nat.blt n tw_NC && Nat.beq (tw_sh (n + 1)).1 24 && !(decide (x < 0)) && Nat.beq x.toNatClampNeg (tw_sh (n + 1)).2 then tw_go (i + 1) ls (.ref (n + 1) :: r) (some (n + 1)) (tw_born σ (n + 1)) else none) = some (.inl g) := h
    split at hs1
    · rename_i h5
      simp only [Bool.and_eq_true, Nat.blt_eq, Bool.not_eq_true', decide_eq_false_iff_not] at h5
      obtain ⟨⟨⟨g1, g2⟩, g3⟩, g4⟩ := h5
      cases hs1
      exact (tw_a_newq g1 hd hn (tw_w_mem hz) (Nat.eq_of_beq_eq_true g2) g3 (Nat.eq_of_beq_eq_true g4)).adv g1 (fun v hv => (List.mem_cons.mp hv).imp id (List.mem_cons_of_mem _))
    · cases hs1
theorem tw_x_special {q : Nat} (hc : tw_cn md ≤ tw_NC) (hk : tw_chkI m i (pc, ln, (.invokespecial q), a, bb, zz, ts) = true) (hs : tw_step L xs (.invokespecial q) a bb zz ts i ls st md σ = some (.inl g)) : tw_Adv l D aC z b L xs m pc ls st md σ g := by
  have hs1 : (if Nat.beq a 999 then tw_pr st fun _ r => if Nat.ble r.length 8 then tw_go (i + 1) ls r md σ else none else tw_inv a bb st md) = some (.inl g) := hs
  split at hs1
  · rename_i h9
    have h0 := hk
    unfold tw_chkI at h0
    simp only [Bool.and_eq_true, decide_eq_true_eq, h9, if_true] at h0
    obtain ⟨hd, ⟨⟨hl, hn⟩, ⟨⟨h1, h2⟩, h3⟩⟩⟩ := h0
    have e := Nat.eq_of_beq_eq_true hl
    subst e
    have hn := tw_nx_next hn
    obtain ⟨k, r, rfl, h⟩ := tw_pr_inv hs1
    split at h
    · rename_i h5
      rw [Nat.ble_eq] at h5
      cases h
      exact (tw_a_objInit hd hn (tw_w_mem h1) (tw_w_mem h2) (tw_w_mem h3) h5).adv hc
    · cases h
  · unfold tw_inv at hs1
    split at hs1
    · split at hs1 <;> cases hs1
    · cases hs1
theorem tw_adv1 {ins : Jvm.ClassFile.Instr} (hc : tw_cn md ≤ tw_NC) (hk : tw_chkI m i (pc, ln, ins, a, bb, zz, ts) = true) (hs : tw_step L xs ins a bb zz ts i ls st md σ = some (.inl g)) : tw_Adv l D aC z b L xs m pc ls st md σ g := by
  cases ins with
  | iconst _ => exact tw_x_iconst hc hk hs
  | bipush _ => exact tw_x_bipush hc hk hs
  | sipush _ => exact tw_x_sipush hc hk hs
  | ldc _ => exact tw_x_ldc hc hk hs
  | ldc_w _ => exact tw_x_ldcw hc hk hs
  | aconst_null => exact tw_x_null hc hk hs
  | iload_n _ => exact tw_x_iload_n hc hk hs
  | iload _ => exact tw_x_iload hc hk hs
  | aload_n _ => exact tw_x_aload_n hc hk hs
  | aload _ => exact tw_x_aload hc hk hs
  | istore_n _ => exact tw_x_istore_n hc hk hs
  | istore _ => exact tw_x_istore hc hk hs
  | astore_n _ => exact tw_x_astore_n hc hk hs
  | astore _ => exact tw_x_astore hc hk hs
  | iinc _ _ => exact tw_x_iinc hc hk hs
  | iadd => exact tw_x_iadd hc hk hs
  | isub => exact tw_x_isub hc hk hs
  | imul => exact tw_x_imul hc hk hs
  | iand => exact tw_x_iand hc hk hs
  | ior => exact tw_x_ior hc hk hs
  | ixor => exact tw_x_ixor hc hk hs
  | ishl => exact tw_x_ishl hc hk hs
  | ishr => exact tw_x_ishr hc hk hs
  | idiv => exact tw_x_idiv hc hk hs
  | irem => exact tw_x_irem hc hk hs
  | ineg => exact tw_x_ineg hc hk hs
  | i2b => exact tw_x_i2b hc hk hs
  | i2c => exact tw_x_i2c hc hk hs
  | dup => exact tw_x_dup hc hk hs
  | dup2 => exact tw_x_dup2 hc hk hs
  | pop => exact tw_x_pop hc hk hs
  | ifCond _ _ => exact tw_x_if hc hk hs
  | if_icmp _ _ => exact tw_x_icmp hc hk hs
  | ifnull _ => exact tw_x_ifnull hc hk hs
  | ifnonnull _ => exact tw_x_ifnonnull hc hk hs
  | goto _ => exact tw_x_goto hc hk hs
  | tableswitch _ _ _ _ => exact tw_x_switch hc hk hs
  | getfield _ => exact tw_x_getfield hc hk hs
  | putfield _ => exact tw_x_putfield hc hk hs
  | iaload => exact tw_x_iaload hc hk hs
  | baload => exact tw_x_baload hc hk hs
  | caload => exact tw_x_caload hc hk hs
  | aaload => exact tw_x_aaload hc hk hs
  | iastore => exact tw_x_iastore hc hk hs
  | castore => exact tw_x_castore hc hk hs
  | bastore => exact tw_x_bastore hc hk hs
  | aastore => exact tw_x_aastore hc hk hs
  | arraylength => exact tw_x_alen hc hk hs
  | new _ => exact tw_x_new hc hk hs
  | newarray _ => exact tw_x_newarray hc hk hs
  | anewarray _ => exact tw_x_anewarray hc hk hs
  | invokespecial _ => exact tw_x_special hc hk hs
  | ireturn =>
    rcases st with _ | ⟨u, _ | ⟨w, r⟩⟩
    · cases hs
    · cases u with
      | int x =>
        have hs1 : (if Nat.beq a 0 || tw_bit x then (some (.inr (.inl (some (.int x)))) : Option tw_Out) else none) = some (.inl g) := hs
        split at hs1 <;> cases hs1
      | _ => cases hs
    · cases u <;> cases hs
  | areturn =>
    rcases st with _ | ⟨u, _ | ⟨w, r⟩⟩
    · cases hs
    · cases u <;> cases hs
    · cases u <;> cases hs
  | return_ =>
    rcases st with _ | ⟨u, r⟩
    · cases hs
    · cases hs
  | invokevirtual q =>
    have hs1 : tw_inv a bb st md = some (.inl g) := hs
    unfold tw_inv at hs1
    split at hs1
    · split at hs1 <;> cases hs1
    · cases hs1
  | invokestatic q =>
    have hs1 : (if Nat.beq a 998 then none else if Nat.ble bb st.length && Nat.ble (st.drop bb).length 8 then some (.inr (.inr (a, (st.take bb).reverse, st.drop bb))) else none) = some (Sum.inl g : tw_Out) := hs
    split at hs1
    · cases hs1
    · split at hs1 <;> cases hs1
  | _ => exact absurd (show (none : Option tw_Out) = some (Sum.inl g) from hs) (fun q => by cases q)
end tw_E2
end
section
/-! what a run of the table machine comes to, the machine comes to -/
section tw_F
variable {D : va_G} {aC : Nat → ClassId} {z b L : Nat} {xs : Nat → Int32} {l : Launch} {md md1 : tw_Md} {σ σ1 : tw_Mem} {d m pc ln i a bb : Nat} {ls st : List Value} {zz : Int32} {ts : List Nat} {g : tw_Cfg} {r : tw_Ret}
def tw_retk (m pc : Nat) (v : Option Value) : Prop :=
  (decode (tw_mB m) pc = .ok (.ireturn, 1) ∧ ∃ x : Int32, v = some (.int x) ∧ (tw_mR m = some .int ∨ (tw_mR m = some .boolean ∧ (x = 0 ∨ x = 1)))) ∨
  (decode (tw_mB m) pc = .ok (.areturn, 1) ∧ (tw_mR m).any refKind = true ∧ (v = some .null ∨ ∃ k, v = some (.ref k))) ∨
  (decode (tw_mB m) pc = .ok (.return_, 1) ∧ tw_mR m = none ∧ v = none)
def tw_Sd (l : Launch) (D : va_G) (aC : Nat → ClassId) (z b L : Nat) (xs : Nat → Int32) (d m : Nat) (g : tw_Cfg) (r : tw_Ret) : Prop :=
  m < tw_NM → tw_cn g.2.2.2.1 ≤ tw_NC →
  tw_cn g.2.2.2.1 ≤ tw_cn r.2.1 ∧ tw_sl g.2.2.2.1 ≤ tw_sl r.2.1 ∧ tw_cn r.2.1 ≤ tw_NC ∧ (g.2.2.2.1 = none → r.2.1 = none) ∧
  ∀ (ad : Nat → Nat) (p : Program) (e : Env) (s : State) (mi : MethodId) (args : Array Value) (below : List Frame) (meth : Method) (c : Code) (H : Heap) (locs : List Loc) (cells slots : Nat) (Rm : Room) (Q : State → Prop) (ls : Array Slot) (pc : Nat),
    tw_Cx D aC z b L xs m p s mi args meth c → tw_Hx D aC z b ad g.2.2.2.1 g.2.2.2.2 s H locs → tw_Lr ad g.2.2.2.1 g.2.1 ls → g.2.1.length = tw_mL m → (∀ v ∈ g.2.2.1, tw_okv g.2.2.2.1 v) → tw_next m g.1 pc → d + 1 ≤ Rm.frames → 64 * (d + 1) ≤ Rm.locals →
    cells + (tw_cn r.2.1 - tw_cn g.2.2.2.1) ≤ Rm.cells → slots + (tw_sl r.2.1 - tw_sl g.2.2.2.1) ≤ Rm.slots →
    (∀ (ad1 : Nat → Nat) (H1 : Heap) (locs1 : List Loc) (ls1 : Array Slot) (pc1 : Nat), tw_agr g.2.2.2.1 ad ad1 → tw_Hx D aC z b ad1 r.2.1 r.2.2 s H1 locs1 → tw_retk m pc1 r.1 → (∀ v, r.1 = some v → tw_okv r.2.1 v) →
      W p l e Rm s mi args below meth c H1 locs1 (cells + (tw_cn r.2.1 - tw_cn g.2.2.2.1)) (slots + (tw_sl r.2.1 - tw_sl g.2.2.2.1)) Q (F0 mi pc1 ls1 (r.1.toList.map (tw_rel ad1)))) →
    W p l e Rm s mi args below meth c H locs cells slots Q (F0 mi pc ls (g.2.2.1.map (tw_rel ad)))
theorem tw_agr_trans {ad ad1 ad2 : Nat → Nat} (h1 : tw_agr md ad ad1) (h2 : tw_agr md1 ad1 ad2) (h3 : md = none → md1 = none) (h4 : tw_cn md ≤ tw_cn md1) : tw_agr md ad ad2 := by
  cases md with
  | none =>
    rw [h3 rfl] at h2
    exact Eq.trans h2 h1
  | some n =>
    cases md1 with
    | none => rw [show ad2 = ad1 from h2]; exact h1
    | some n1 => exact fun k hk => (h2 k (Nat.le_trans hk h4)).trans (h1 k hk)
theorem tw_s_step {e : tw_Ent} (he : tw_fetch m i = some e) (hs : tw_stepE L xs e i ls st md σ = some (.inl g)) (ih : tw_Sd l D aC z b L xs d m g r) : tw_Sd l D aC z b L xs d m (i, ls, st, md, σ) r := by
  obtain ⟨gi, gl, gs, gm, gσ⟩ := g
  obtain ⟨rv, rm, rσ⟩ := r
  intro hm hc
  obtain ⟨pc0, ln, ins, a, bb, zz, ts⟩ := e
  have hk := tw_okE_at hm i _ he
  obtain ⟨a1, a2, a3, a4, a5⟩ := tw_adv1 (l := l) (D := D) (aC := aC) (z := z) (b := b) (L := L) (xs := xs) hc hk hs
  obtain ⟨b1, b2, b3, b4, b5⟩ := ih hm a3
  refine ⟨Nat.le_trans a1 b1, Nat.le_trans a2 b2, b3, fun q => b4 (a4 q), ?_⟩
  intro ad p e s mi args below meth c H locs cells slots Rm Q lsC pc hC hH hL hN hS hpc hf hl hce hsl k
  obtain ⟨e1, he1, rfl⟩ := hpc
  rw [he] at he1
  cases he1
  dsimp only at a1 a2 b1 b2 hce hsl hf hl hS hL hH k ⊢
  refine a5 ad p e s mi args below meth c H locs cells slots Rm Q lsC hC hH hL hN hS (by omega) (by omega) (by dsimp only; omega) (by dsimp only; omega) (fun ad1 H1 locs1 ls1 pc1 g1 g2 g3 g4 g5 g6 => ?_)
  refine b5 ad1 p e s mi args below meth c H1 locs1 _ _ Rm Q ls1 pc1 hC g3 g4 g5 g6 g2 hf hl (by dsimp only; omega) (by dsimp only; omega) (fun ad2 H2 locs2 ls2 pc2 k1 k2 k3 k4 => ?_)
  exact W.cs (by dsimp only; omega) (by dsimp only; omega) (k ad2 H2 locs2 ls2 pc2 (tw_agr_trans g1 k1 a4 a1) k2 k3 k4)
/-- what isn't a step is an end or a call -/
theorem tw_inr_inv {ins : Jvm.ClassFile.Instr} {q : Option Value ⊕ (Nat × List Value × List Value)} (hs : tw_step L xs ins a bb zz ts i ls st md σ = some (.inr q)) :
    (∃ v, q = .inl v ∧ st = v.toList ∧ ((ins = .ireturn ∧ ∃ x, v = some (.int x) ∧ (a = 0 ∨ x = 0 ∨ x = 1)) ∨ (ins = .areturn ∧ (v = some .null ∨ ∃ k, v = some (.ref k))) ∨ (ins = .return_ ∧ v = none))) ∨
    (∃ x, (ins = .invokevirtual x ∨ (ins = .invokespecial x ∧ ¬ Nat.beq a 999 = true)) ∧ tw_inv a bb st md = some (.inr q)) ∨
    (∃ x, ins = .invokestatic x ∧ ¬ Nat.beq a 998 = true ∧ bb ≤ st.length ∧ (st.drop bb).length ≤ 8 ∧ q = .inr (a, (st.take bb).reverse, st.drop bb)) := by
  cases ins with
  | ireturn =>
    rcases st with _ | ⟨u, _ | ⟨w, r⟩⟩
    · cases hs
    · cases u with
      | int x =>
        have hs1 : (if Nat.beq a 0 || tw_bit x then (some (.inr (.inl (some (.int x)))) : Option tw_Out) else none) = some (.inr q) := hs
        split at hs1
        · rename_i h
          cases hs1
          refine Or.inl ⟨_, rfl, rfl, Or.inl ⟨rfl, x, rfl, ?_⟩⟩
          rw [Bool.or_eq_true] at h
          exact h.imp Nat.eq_of_beq_eq_true tw_bit_ok
        · cases hs1
      | _ => cases hs
    · cases u <;> cases hs
  | areturn =>
    rcases st with _ | ⟨u, _ | ⟨w, r⟩⟩
    · cases hs
    · cases u with
      | null => cases hs; exact Or.inl ⟨_, rfl, rfl, Or.inr (Or.inl ⟨rfl, Or.inl rfl⟩)⟩
      | ref k => cases hs; exact Or.inl ⟨_, rfl, rfl, Or.inr (Or.inl ⟨rfl, Or.inr ⟨k, rfl⟩⟩)⟩
      | _ => cases hs
    · cases u <;> cases hs
  | return_ =>
    rcases st with _ | ⟨u, r⟩
    · cases hs; exact Or.inl ⟨_, rfl, rfl, Or.inr (Or.inr ⟨rfl, rfl⟩)⟩
    · cases hs
  | invokevirtual x => exact Or.inr (Or.inl ⟨x, Or.inl rfl, hs⟩)
  | invokespecial x =>
    have hs1 : (if Nat.beq a 999 then tw_pr st fun _ r => if Nat.ble r.length 8 then tw_go (i + 1) ls r md σ else none else tw_inv a bb st md) = some (.inr q) := hs
    split at hs1
    · obtain ⟨k, r, rfl, h⟩ := tw_pr_inv hs1
      split at h <;> cases h
    · rename_i h
      exact Or.inr (Or.inl ⟨x, Or.inr ⟨rfl, h⟩, hs1⟩)
  | invokestatic x =>
    have hs1 : (if Nat.beq a 998 then none else if Nat.ble bb st.length && Nat.ble (st.drop bb).length 8 then some (.inr (.inr (a, (st.take bb).reverse, st.drop bb))) else none) = some (Sum.inr q : tw_Out) := hs
    split at hs1
    · cases hs1
    · rename_i h
      split at hs1
      · rename_i h1
        rw [Bool.and_eq_true, Nat.ble_eq, Nat.ble_eq] at h1
        cases hs1
        exact Or.inr (Or.inr ⟨x, rfl, h, h1.1, h1.2, rfl⟩)
      · cases hs1
  | _ =>
    exfalso
    dsimp only [tw_step, tw_p1, tw_p2, tw_pr, tw_pir, tw_piir, tw_go, tw_ldi, tw_lda, tw_sti, tw_sta] at hs
    repeat' split at hs
    all_goals cases hs
theorem tw_s_ret {e : tw_Ent} {v : Option Value} (he : tw_fetch m i = some e) (hs : tw_stepE L xs e i ls st md σ = some (.inr (.inl v))) : tw_Sd l D aC z b L xs d m (i, ls, st, md, σ) (v, md, σ) := by
  intro hm hc
  obtain ⟨pc0, ln, ins, a, bb, zz, ts⟩ := e
  have hk := tw_okE_at hm i _ he
  refine ⟨Nat.le_refl _, Nat.le_refl _, hc, fun q => q, ?_⟩
  intro ad p e s mi args below meth c H locs cells slots Rm Q lsC pc hC hH hL hN hS hpc hf hl hce hsl k
  obtain ⟨e1, he1, rfl⟩ := hpc
  rw [he] at he1
  cases he1
  have key : st = v.toList ∧ tw_retk m pc0 v := by
    rcases tw_inr_inv hs with ⟨v1, h1, h2, h3⟩ | ⟨x, -, h2⟩ | ⟨x, -, -, -, -, h2⟩
    · cases h1
      refine ⟨h2, ?_⟩
      rcases h3 with ⟨rfl, x, hx, hx2⟩ | ⟨rfl, hx⟩ | ⟨rfl, hx⟩
      · have h0 : (decide (decode (tw_mB m) pc0 = .ok (.ireturn, ln)) && (Nat.beq ln 1 && (if Nat.beq a 0 then decide (tw_mR m = some .int) else decide (tw_mR m = some .boolean)))) = true := hk
        simp only [Bool.and_eq_true, decide_eq_true_eq] at h0
        obtain ⟨g1, g2, g3⟩ := h0
        have g2 := Nat.eq_of_beq_eq_true g2
        subst g2
        refine Or.inl ⟨g1, x, hx, ?_⟩
        split at g3
        · exact Or.inl (of_decide_eq_true g3)
        · rename_i hna
          refine Or.inr ⟨of_decide_eq_true g3, ?_⟩
          rcases hx2 with hx2 | hx2
          · exact absurd (by rw [show a = 0 from hx2]; rfl) hna
          · exact hx2
      · have h0 : (decide (decode (tw_mB m) pc0 = .ok (.areturn, ln)) && (Nat.beq ln 1 && ((tw_mR m).any refKind))) = true := hk
        simp only [Bool.and_eq_true, decide_eq_true_eq] at h0
        obtain ⟨g1, g2, g3⟩ := h0
        have g2 := Nat.eq_of_beq_eq_true g2
        subst g2
        exact Or.inr (Or.inl ⟨g1, g3, hx⟩)
      · have h0 : (decide (decode (tw_mB m) pc0 = .ok (.return_, ln)) && (Nat.beq ln 1 && decide (tw_mR m = none))) = true := hk
        simp only [Bool.and_eq_true, decide_eq_true_eq] at h0
        obtain ⟨g1, g2, g3⟩ := h0
        have g2 := Nat.eq_of_beq_eq_true g2
        subst g2
        exact Or.inr (Or.inr ⟨g1, g3, hx⟩)
    · unfold tw_inv at h2
      split at h2
      · split at h2 <;> cases h2
      · cases h2
    · cases h2
  obtain ⟨k1, k2⟩ := key
  subst k1
  refine W.cs (by simp) (by simp) (k ad H locs lsC _ tw_agr_rf hH k2 (fun u hu => ?_))
  exact hS u (by show u ∈ v.toList; rw [show v = some u from hu]; exact List.mem_cons_self)
end tw_F
end
section
/-! calls: a method's contract out of what the table machine says of it; and what a caller has of it -/
set_option maxRecDepth 100000 in
theorem tw_pc0 : (List.range tw_NM).all (fun m => tw_nx m 0 0) = true := by decide +kernel
theorem tw_pc0_at {m : Nat} (h : m < tw_NM) : tw_next m 0 0 := tw_nx_next (List.all_eq_true.mp tw_pc0 m (List.mem_range.mpr h))
section tw_G
variable {D : va_G} {aC : Nat → ClassId} {z b L : Nat} {xs : Nat → Int32} {l : Launch} {md md1 : tw_Md} {σ σ1 : tw_Mem} {d d1 m pc ln i a bb y : Nat} {ls st as rest : List Value} {zz : Int32} {ts : List Nat} {v : Option Value} {ad : Nat → Nat}
def tw_Ws (y : Nat) : List Jvm.Cond := Jvm.Cond.code (tw_mY y) (tw_mB y) (tw_mL y) (tw_mR y) :: tw_gw
theorem tw_Ws_good (hy : y < tw_NM) (hl : y ≠ tw_LAW) : GoodIn tw_gw (tw_Ws y) := by
  intro w hw
  rcases List.mem_cons.mp hw with rfl | hw
  · rcases tw_okC_at hy with h | h
    · exact absurd h hl
    · have hg : goodWord (Jvm.Cond.code (tw_mY y) (tw_mB y) (tw_mL y) (tw_mR y)) = true := rfl
      exact ⟨List.mem_filter.mpr ⟨List.mem_of_getElem? h, hg⟩, good_of_word hg⟩
  · exact ⟨hw, good_of_word (List.mem_filter.mp hw).2⟩
def tw_Pc (D : va_G) (aC : Nat → ClassId) (z b L : Nat) (xs : Nat → Int32) (ad : Nat → Nat) (md : tw_Md) (σ : tw_Mem) (as : List Value) : Array Value → State → Prop := fun v U =>
  v = (as.map (tw_rel ad)).toArray ∧ z ≤ U.heap.size ∧ b < z ∧ ad 0 = b ∧ va_P D vwCl (tw_ws md ad aC σ) U.heap ∧ va_D (fun q => z ≤ q) (tw_ws md ad aC σ) ∧ va_K D vwCl (tw_tys aC) U ∧ va_X b L xs U U.heap ∧ (∀ w ∈ tw_nw, va_Nw w U) ∧ va_AO "CardLoom$Card" U
def tw_Qc (D : va_G) (aC : Nat → ClassId) (z b : Nat) (ad : Nat → Nat) (md : tw_Md) (v : Option Value) (md1 : tw_Md) (σ1 : tw_Mem) : Array Value → State → Outcome → State → Prop := fun _ st o t =>
  ∃ ad1 : Nat → Nat, tw_agr md ad ad1 ∧ (∀ u, v = some u → tw_okv md1 u) ∧ o = .returned (v.map (tw_rel ad1)) ∧ ad1 0 = b ∧ va_P D vwCl (tw_ws md1 ad1 aC σ1) t.heap ∧ va_D (fun q => z ≤ q) (tw_ws md1 ad1 aC σ1) ∧ va_F (fun q => z ≤ q) st t
theorem tw_Pc_blind : FrameBlind (tw_Pc D aC z b L xs ad md σ as) := by
  intro a U g mk q
  obtain ⟨h1, h2, h3, h4, h5, h6, h7, h8, h9, h10⟩ := q
  exact ⟨h1, h2, h3, h4, h5, h6, va_K.moved (u := U) (U := U.calling g mk a) (Vm.Alike.refl U.vm) h7, va_X.moved (u := U) (U := U.calling g mk a) (Vm.Alike.refl U.vm) h8, fun w hw => va_Nw.same (by
    have hn := (List.mem_filter.mp hw).2
    cases w <;> first | rfl | cases hn) (u := U) (U := U.calling g mk a) rfl (h9 w hw), va_AO.moved (u := U) (U := U.calling g mk a) (Vm.Alike.refl U.vm) h10⟩
theorem tw_ckm_spec (hy : y < tw_NM) (hl : y ≠ tw_LAW) : Jvm.Cond.initialized (tw_own y) ∈ tw_gw ∧ tw_own y ≠ "java/lang/invoke/MethodHandle" ∧ tw_own y ≠ "java/lang/invoke/VarHandle" ∧ plainFor (tw_mY y) = true ∧ (parseMethodDescriptor (tw_mY y).desc).map (fun q => q.parameters.length) = some (tw_mN y) ∧ tw_mL y ≤ 30 ∧ tw_mN y + (if Nat.beq (tw_mK y) 0 then 0 else 1) ≤ tw_mL y ∧
    (tw_mK y = 0 → Jvm.Cond.static (tw_mY y) ∈ tw_gw) ∧ (tw_mK y ≠ 0 → Jvm.Cond.instanceMethod (tw_mY y) ∈ tw_gw ∧ tw_mC y < vwCl.length ∧ (tw_cl (tw_mC y)).1 = tw_own y) ∧ (tw_mK y = 1 → Jvm.Cond.selects (tw_own y) (tw_mY y) (tw_mY y) ∈ tw_gw) ∧ (tw_mK y = 2 → (tw_mY y).name = "<init>" ∧ tw_mR y = none) := by
  rcases tw_okM_at hy with h | h
  · exact absurd h hl
  unfold tw_chkM at h
  simp only [Bool.and_eq_true, decide_eq_true_eq, Nat.ble_eq] at h
  obtain ⟨⟨⟨⟨⟨⟨⟨⟨⟨⟨h1, h2⟩, h3⟩, h4⟩, h5⟩, h6⟩, h7⟩, h8⟩, h9⟩, h10⟩, h11⟩ := h
  refine ⟨tw_w_mem h1, h2, h3, h4, h5, h6, h7, fun q => ?_, fun q => ?_, fun q => ?_, fun q => ?_⟩
  · rw [q, if_pos (by rfl)] at h9
    exact tw_w_mem h9
  · rw [if_neg (fun g => q (Nat.eq_of_beq_eq_true g))] at h9
    simp only [Bool.and_eq_true, decide_eq_true_eq, Nat.blt_eq] at h9
    exact ⟨tw_w_mem h9.1.1, h9.1.2, h9.2⟩
  · rw [q, if_pos (by rfl)] at h10
    exact tw_w_mem h10
  · rw [q, if_pos (by rfl)] at h11
    simp only [Bool.and_eq_true, decide_eq_true_eq] at h11
    exact h11
theorem tw_Lr_ent {n : Nat} (has : ∀ u ∈ as, tw_okv md u) (hn : as.length ≤ n) : tw_Lr ad md (as ++ List.replicate (n - as.length) tw_U) (((as.map (tw_rel ad)).map Slot.val ++ List.replicate (n - (as.map (tw_rel ad)).length) Slot.unset).toArray) := by
  have key : ∀ (i : Nat) (w : Slot), ((as.map (tw_rel ad)).map Slot.val ++ List.replicate (n - (as.map (tw_rel ad)).length) Slot.unset)[i]? = some w → (∃ u ∈ as, w = .val (tw_rel ad u)) ∨ w = .unset := by
    intro i w h
    rcases List.mem_append.mp (List.mem_of_getElem? h) with h | h
    · rw [List.map_map] at h
      obtain ⟨u, hu, rfl⟩ := List.mem_map.mp h
      exact Or.inl ⟨u, hu, rfl⟩
    · exact Or.inr (List.eq_of_mem_replicate h)
  refine ⟨by simp, ⟨fun i w h hc => ?_, fun i h => ?_⟩, fun i w h => ?_⟩
  · rw [List.getElem?_toArray] at h
    rcases key i _ h with ⟨u, hu, e⟩ | e
    · cases e
      have := tw_okv_cat (ad := ad) (has u hu)
      omega
    · cases e
  · rw [List.getElem?_toArray] at h
    rcases key i _ h with ⟨u, hu, e⟩ | e <;> cases e
  · by_cases hi : i < as.length
    · rw [List.getElem?_append_left hi] at h
      refine ⟨has w (List.mem_of_getElem? h), Or.inr ?_⟩
      rw [List.getElem?_toArray, List.getElem?_append_left (by simp; exact hi), List.getElem?_map, List.getElem?_map, h]
      rfl
    · rw [List.getElem?_append_right (by omega)] at h
      have h2 := List.eq_of_mem_replicate (List.mem_of_getElem? h)
      subst h2
      exact ⟨trivial, Or.inl rfl⟩
theorem tw_met (hy : y < tw_NM) (hl : y ≠ tw_LAW) (hc : tw_cn md ≤ tw_NC) (has : ∀ u ∈ as, tw_okv md u) (hlen : as.length ≤ tw_mL y) (hS : tw_Sd l D aC z b L xs d1 y (0, tw_ent y as, [], md, σ) (v, md1, σ1)) :
    Met l (tw_mY y) (tw_Ws y) ({ frames := d1 + 1, cells := tw_cn md1 - tw_cn md, slots := tw_sl md1 - tw_sl md, locals := 64 * (d1 + 1) }) (tw_Pc D aC z b L xs ad md σ as) (tw_Qc D aC z b ad md v md1 σ1) (tw_cn md1 - tw_cn md) (tw_sl md1 - tw_sl md) (fun q => z ≤ q) := by
  obtain ⟨w1, w2, w3, w4, w5, w6, w7, w8, w9, w10, w11⟩ := tw_ckm_spec hy hl
  obtain ⟨-, -, -, -, hS⟩ := hS hy hc
  refine va_MetF (cc := tw_mB y) (maxL := tw_mL y) (ret := tw_mR y) w4 rfl ?_
  intro p e s m args below meth c s₁ B hml hv
  obtain ⟨rfl, h2, h3, h4, h5, h6, h7, h8, h9, h10⟩ := hv
  have hts := atoms_spec (ws := tw_Ws y) B.pre
  have hC : tw_Cx D aC z b L xs y p s m ((as.map (tw_rel ad)).toArray) meth c := ⟨B.exec, B.bytes, hml, findClass_of_methodNamed B.named, fun w hw => hts w (List.mem_cons_of_mem _ hw), h9, h10, B.notSynchronized, B.returns, fun q => (name_of_methodNamed B.named B.method).1.trans (w11 q).1, h7, h8, h3, h2⟩
  have hcat : ∀ u ∈ as.map (tw_rel ad), u.category = 1 := fun u hu => by
    obtain ⟨u0, hu0, rfl⟩ := List.mem_map.mp hu
    exact tw_okv_cat (has u0 hu0)
  rw [entry_eq m (as.map (tw_rel ad)) hcat]
  have hH : tw_Hx D aC z b ad md σ s s.heap [] := ⟨h4, h5, h6, va_S.rf⟩
  refine hS ad p e s m _ below meth c s.heap [] 0 0 _ _ _ 0 hC hH (tw_Lr_ent has hlen) (by show (as ++ _).length = _; simp; omega) (fun u hu => by cases hu) (tw_pc0_at hy) (Nat.le_refl _) (Nat.le_refl _) (by show 0 + _ ≤ _; exact Nat.le_of_eq (Nat.zero_add _)) (by show 0 + _ ≤ _; exact Nat.le_of_eq (Nat.zero_add _)) (fun ad1 H1 locs1 ls1 pc1 g1 g2 g3 g4 => ?_)
  refine W.cs (Nat.zero_add _) (Nat.zero_add _) ?_
  have hq : ∀ t : State, t.heap = H1 → tw_Qc D aC z b ad md v md1 σ1 ((as.map (tw_rel ad)).toArray) s (.returned (v.map (tw_rel ad1))) t := fun t ht => ⟨ad1, g1, g4, rfl, g2.1, by rw [ht]; exact g2.2.1, g2.2.2.1, g2.2.2.2.F ht⟩
  have hlk := hC.locks
  rcases g3 with ⟨k1, x, rfl, k2 | ⟨k2, k3⟩⟩ | ⟨k1, k2, k3⟩ | ⟨k1, k2, rfl⟩
  · exact W.iret hC.1 hC.2.1 (hC.ret.trans k2) (fun t ht _ => hq t ht) g2.2.2.2.2.2 k1 hlk
  · exact W.zret (ty := .boolean) hC.1 hC.2.1 (hC.ret.trans k2) (by rcases k3 with rfl | rfl <;> rfl) (fun t ht _ => hq t ht) g2.2.2.2.2.2 k1 hlk
  · cases hr : tw_mR y with
    | none => rw [hr] at k2; cases k2
    | some rt =>
      rw [hr] at k2
      have hrt : (∃ n, rt = .object n) ∨ ∃ t, rt = .array t := by
        cases rt <;> first | exact Or.inl ⟨_, rfl⟩ | exact Or.inr ⟨_, rfl⟩ | cases k2
      rcases k3 with rfl | ⟨k, rfl⟩
      · exact W.aret hC.1 hC.2.1 (hC.ret.trans hr) hrt (Or.inl rfl) (fun t ht _ => hq t ht) g2.2.2.2.2.2 k1 hlk
      · exact W.aret hC.1 hC.2.1 (hC.ret.trans hr) hrt (Or.inr ⟨_, rfl⟩) (fun t ht _ => hq t ht) g2.2.2.2.2.2 k1 hlk
  · exact W.vret hC.1 hC.2.1 (hC.ret.trans k2) (fun t ht _ => hq t ht) g2.2.2.2.2.2 k1 hlk
end tw_G
end
section
/-! calls, copies and the change of mode; all rules together -/
def tw_isCall (ins : Jvm.ClassFile.Instr) : Bool := match ins with
  | .invokevirtual _ => true
  | .invokespecial _ => true
  | .invokestatic _ => true
  | _ => false
set_option maxRecDepth 100000 in
theorem tw_nolaw : (List.range tw_NM).all (fun m => (tw_mE m).all (fun e => !(tw_isCall e.2.2.1) || !(Nat.beq e.2.2.2.1 tw_LAW))) = true := by decide +kernel
theorem tw_nolaw_at {m i : Nat} {e : tw_Ent} (h : m < tw_NM) (he : tw_fetch m i = some e) (hc : tw_isCall e.2.2.1 = true) : e.2.2.2.1 ≠ tw_LAW := by
  have h1 := List.all_eq_true.mp (List.all_eq_true.mp tw_nolaw m (List.mem_range.mpr h)) e (List.mem_of_getElem? he)
  rw [hc] at h1
  intro q
  rw [q] at h1
  exact absurd h1 (by decide)
section tw_H
variable {D : va_G} {aC : Nat → ClassId} {z b L : Nat} {xs : Nat → Int32} {l : Launch} {md md1 : tw_Md} {σ σ1 : tw_Mem} {d d1 m pc ln i a bb y mc ms : Nat} {ls st as rest restC st0 : List Value} {zz : Int32} {ts : List Nat} {v : Option Value} {ad : Nat → Nat} {r : tw_Ret}
  {p : Program} {e : Env} {s : State} {mi : MethodId} {args a0 : Array Value} {below : List Frame} {meth : Method} {c : Code} {H : Heap} {locs : List Loc} {cells slots : Nat} {Rm : Room} {Q : State → Prop} {lsC : Array Slot}
theorem tw_after (hH : tw_Hx D aC z b ad md σ s H locs) (hr : va_Run p l e Rm s mi args below meth c H locs cells slots mc ms (F0 mi pc lsC st0) restC (tw_Qc D aC z b ad md v md1 σ1 a0) (fun q => z ≤ q))
    (kk : ∀ (ad1 : Nat → Nat) (H1 : Heap) (locs1 : List Loc), tw_agr md ad ad1 → (∀ u, v = some u → tw_okv md1 u) → tw_Hx D aC z b ad1 md1 σ1 s H1 locs1 → W p l e Rm s mi args below meth c H1 locs1 (cells + mc) (slots + ms) Q (F0 mi (pc + 3) lsC ((v.map (tw_rel ad1)).toList ++ restC))) :
    W p l e Rm s mi args below meth c H locs cells slots Q (F0 mi pc lsC st0) := by
  intro T hT X
  obtain ⟨v', st₀, t, T', L', h0, X', hL', e1, e2, ⟨ad1, q1, q2, q3, q4, q5, q6, hz, hkk⟩, stp⟩ := hr T hT X
  have q3 := Outcome.returned.inj q3
  subst q3
  rw [h0] at hz hkk
  obtain ⟨-, -, -, hS⟩ := hH
  obtain ⟨t2, a1, b1⟩ := kk ad1 T'.heap (locs ++ L') q1 q2 ⟨q4, by rw [e1]; exact q5, q6, Nat.le_trans hS.1 (by rw [e1]; exact hz), fun q h1 h2 => by rw [e1, hkk q (Nat.lt_of_lt_of_le h1 hS.1) h2]; exact hS.2.1 q h1 h2, fun q hq => (List.mem_append.mp hq).elim (hS.2.2 q) (fun h => hL' q h)⟩ T' rfl X'
  exact ⟨t2, stp t2 a1, b1⟩
theorem tw_pre (hC : tw_Cx D aC z b L xs m p s mi args meth c) (hH : tw_Hx D aC z b ad md σ s H locs) : ∀ U : State, U.heap = H → s.WarmedH U.vm → tw_Pc D aC z b L xs ad md σ as ((as.map (tw_rel ad)).toArray) U := by
  intro U hU hW
  obtain ⟨h1, h2, h3, h4⟩ := hH
  have hzs := hC.zs
  have hbz := hC.bz
  refine ⟨rfl, by rw [hU]; exact Nat.le_trans hzs h4.1, hbz, h1, by rw [hU]; exact h2, h3, va_K.moved hW.alike hC.K, (va_X.moved hW.alike hC.X).kept (by rw [hU]; exact h4.2.1 b (by omega) (by omega)), fun w hw => ?_, va_AO.moved hW.alike hC.over⟩
  have hn := hC.nest w hw
  have hi := (List.mem_filter.mp hw).2
  cases w with
  | methodLinkNest _ _ _ _ => exact va_Nw.warmM hW hn
  | _ => cases hi
theorem tw_okv_mono {u : Value} (h : tw_okv md u) (h1 : md = none → md1 = none) (h2 : tw_cn md ≤ tw_cn md1) : tw_okv md1 u := by
  cases u with
  | ref k =>
    cases md1 with
    | none => trivial
    | some n1 =>
      cases md with
      | none => cases h1 rfl
      | some n => exact Nat.le_trans h h2
  | _ => exact h
theorem tw_s_call {e0 : tw_Ent} (he : tw_fetch m i = some e0) (hs : tw_stepE L xs e0 i ls st md σ = some (.inr (.inr (y, as, rest)))) (hd : d1 < d) (ihc : tw_Sd l D aC z b L xs d1 y (0, tw_ent y as, [], md, σ) (v, md1, σ1)) (ih : tw_Sd l D aC z b L xs d m (i + 1, ls, v.toList ++ rest, md1, σ1) r) : tw_Sd l D aC z b L xs d m (i, ls, st, md, σ) r := by
  obtain ⟨rv, rm, rσ⟩ := r
  intro hm hc
  obtain ⟨pc0, ln, ins, a, bb, zz, ts⟩ := e0
  have hk := tw_okE_at hm i _ he
  -- what the call is
  have key : a = y ∧ y < tw_NM ∧ y ≠ tw_LAW ∧ rest.length ≤ 8 ∧ tw_next m (i + 1) (pc0 + 3) ∧ as.length = tw_mN y + (if Nat.beq (tw_mK y) 0 then 0 else 1) ∧ st = as.reverse ++ rest ∧
      ((∃ x k ar, decode (tw_mB m) pc0 = .ok (.invokevirtual x, 3) ∧ tw_mK y = 1 ∧ as = .ref k :: ar ∧ tw_isO k (tw_mC y) md = true ∧ Jvm.Cond.methodLink (tw_own m) x (tw_mY y) ∈ tw_gw) ∨
       (∃ x k ar, decode (tw_mB m) pc0 = .ok (.invokespecial x, 3) ∧ tw_mK y = 2 ∧ as = .ref k :: ar ∧ (Jvm.Cond.methodLink (tw_own m) x (tw_mY y) ∈ tw_gw ∨ Jvm.Cond.methodLinkNest (tw_own m) x (tw_mY y) "CardLoom" ∈ tw_nw)) ∨
       (∃ x, decode (tw_mB m) pc0 = .ok (.invokestatic x, 3) ∧ tw_mK y = 0 ∧ (Jvm.Cond.methodLink (tw_own m) x (tw_mY y) ∈ tw_gw ∨ Jvm.Cond.methodLinkNest (tw_own m) x (tw_mY y) "CardLoom" ∈ tw_nw))) := by
    have inv : ∀ {bb : Nat}, tw_inv a bb st md = some (.inr (.inr (y, as, rest))) → a = y ∧ rest.length ≤ 8 ∧ as.length = bb + 1 ∧ st = as.reverse ++ rest ∧ ∃ k ar, as = .ref k :: ar ∧ tw_isO k (tw_mC y) md = true := by
      intro bb h
      unfold tw_inv at h
      split at h
      · rename_i k r hdrop
        split at h
        · rename_i h1
          cases h
          rw [Bool.and_eq_true, Nat.ble_eq] at h1
          have hl : bb < st.length := by
            rcases Nat.lt_or_ge bb st.length with q | q
            · exact q
            · rw [List.drop_eq_nil_of_le q] at hdrop; cases hdrop
          refine ⟨rfl, h1.1, ?_, ?_, k, _, rfl, h1.2⟩
          · simp only [List.length_cons, List.length_reverse, List.length_take]
            omega
          · rw [List.reverse_cons, List.reverse_reverse, List.append_assoc, List.singleton_append, ← hdrop, List.take_append_drop]
        · cases h
      · cases h
    rcases tw_inr_inv hs with ⟨v1, h1, -⟩ | ⟨x, h1, h2⟩ | ⟨x, h1, h2, h3, h4, h5⟩
    · cases h1
    · dsimp only at h1 h2
      obtain ⟨g1, g2, g3, g4, k, ar, g5, g6⟩ := inv h2
      subst g1
      rcases h1 with rfl | ⟨rfl, h9⟩
      · have hlaw := tw_nolaw_at hm he rfl
        have h0 := hk
        unfold tw_chkI at h0
        simp only [Bool.and_eq_true, decide_eq_true_eq, Nat.blt_eq] at h0
        obtain ⟨w1, ⟨⟨⟨⟨w2, w3⟩, w4⟩, w5⟩, w6⟩, w7⟩ := h0
        have w2 := Nat.eq_of_beq_eq_true w2
        subst w2
        have w5 := Nat.eq_of_beq_eq_true w5
        have w6 := Nat.eq_of_beq_eq_true w6
        exact ⟨rfl, w4, hlaw, g2, tw_nx_next w3, by rw [g3, w6, w5]; rfl, g4, Or.inl ⟨x, k, ar, w1, w5, g5, g6, tw_w_mem w7⟩⟩
      · have hlaw := tw_nolaw_at hm he rfl
        have h0 := hk
        unfold tw_chkI at h0
        simp only [Bool.and_eq_true, decide_eq_true_eq, Nat.blt_eq, h9, if_false, Bool.false_eq_true] at h0
        obtain ⟨w1, ⟨⟨w2, w3⟩, ⟨⟨⟨w4, w5⟩, w6⟩, w7⟩⟩⟩ := h0
        have w2 := Nat.eq_of_beq_eq_true w2
        subst w2
        have w5 := Nat.eq_of_beq_eq_true w5
        have w6 := Nat.eq_of_beq_eq_true w6
        refine ⟨rfl, w4, hlaw, g2, tw_nx_next w3, by rw [g3, w6, w5]; rfl, g4, Or.inr (Or.inl ⟨x, k, ar, w1, w5, g5, ?_⟩)⟩
        split at w7
        · exact Or.inl (tw_w_mem w7)
        · exact Or.inr (tw_wn_mem w7)
    · dsimp only at h1 h2 h3 h4 h5
      cases h5
      subst h1
      have hlaw := tw_nolaw_at hm he rfl
      have h0 := hk
      unfold tw_chkI at h0
      simp only [Bool.and_eq_true, decide_eq_true_eq, Nat.blt_eq, h2, if_false, Bool.false_eq_true] at h0
      obtain ⟨w1, ⟨⟨w2, w3⟩, ⟨⟨⟨w4, w5⟩, w6⟩, w7⟩⟩⟩ := h0
      have w2 := Nat.eq_of_beq_eq_true w2
      subst w2
      have w5 := Nat.eq_of_beq_eq_true w5
      have w6 := Nat.eq_of_beq_eq_true w6
      refine ⟨rfl, w4, hlaw, h4, tw_nx_next w3, ?_, by rw [List.reverse_reverse, List.take_append_drop], Or.inr (Or.inr ⟨x, w1, w5, ?_⟩)⟩
      · rw [w6, w5, if_pos (by rfl)]
        simp only [List.length_reverse, List.length_take]
        omega
      · split at w7
        · exact Or.inl (tw_w_mem w7)
        · exact Or.inr (tw_wn_mem w7)
  obtain ⟨ka, hy, hyl, hrl, hnx, hal, hst, hkind⟩ := key
  subst ka
  obtain ⟨c1, c2, c3, c4, -⟩ := ihc hy hc
  obtain ⟨b1, b2, b3, b4, b5⟩ := ih hm c3
  refine ⟨Nat.le_trans c1 b1, Nat.le_trans c2 b2, b3, fun q => b4 (c4 q), ?_⟩
  intro ad p e s mi args below meth c H locs cells slots Rm Q lsC pc hC hH hL hN hS hpc hf hl hce hsl k
  obtain ⟨e1, he1, rfl⟩ := hpc
  rw [he] at he1
  cases he1
  dsimp only at b1 b2 c1 c2 hce hsl hf hl hS hL hH k b5 hN ⊢
  have hasv : ∀ u ∈ as, tw_okv md u := fun u hu => hS u (by rw [hst]; exact List.mem_append_left _ (List.mem_reverse.mpr hu))
  have hrst : ∀ u ∈ rest, tw_okv md u := fun u hu => hS u (by rw [hst]; exact List.mem_append_right _ hu)
  obtain ⟨w1, w2, w3, w4, w5, w6, w7, w8, w9, w10, w11⟩ := tw_ckm_spec hy hyl
  have hM := tw_met (l := l) (D := D) (aC := aC) (z := z) (b := b) (L := L) (xs := xs) (ad := ad) hy hyl hc hasv (by omega) ihc
  have hcat := tw_sum1 (ad := ad) hrst
  have hsz : lsC.size = tw_mL m := hL.1.trans hN
  have hfix : CallFix p mi c (tw_mB m) (tw_mL m) s args tw_gw (tw_own m) := ⟨hC.1, hC.2.1, hC.2.2.1, hC.own, hC.hts⟩
  have hroom : d1 + 1 + 1 ≤ Rm.frames ∧ 8 + (tw_mL a + 11) + 64 * (d1 + 1) ≤ Rm.locals := ⟨by omega, by omega⟩
  have hfit : cells + (tw_cn md1 - tw_cn md) ≤ Rm.cells ∧ slots + (tw_sl md1 - tw_sl md) ≤ Rm.slots := ⟨by omega, by omega⟩
  have hpre := tw_pre (as := as) hC hH
  have hgo : ∀ (a0 : Array Value), va_Run p l e Rm s mi args below meth c H locs cells slots (tw_cn md1 - tw_cn md) (tw_sl md1 - tw_sl md) (F0 mi pc0 lsC (st.map (tw_rel ad))) (rest.map (tw_rel ad)) (tw_Qc D aC z b ad md v md1 σ1 a0) (fun q => z ≤ q) → W p l e Rm s mi args below meth c H locs cells slots Q (F0 mi pc0 lsC (st.map (tw_rel ad))) := by
    intro a0 hr
    refine tw_after hH hr (fun ad1 H1 locs1 g1 g2 g3 => ?_)
    have e3 : (v.map (tw_rel ad1)).toList ++ rest.map (tw_rel ad) = (v.toList ++ rest).map (tw_rel ad1) := by
      rw [List.map_append, ← tw_map_agr hrst g1]
      cases v <;> rfl
    rw [e3]
    have hL1 := hL.agr g1
    refine b5 ad1 p e s mi args below meth c H1 locs1 _ _ Rm Q lsC (pc0 + 3) hC g3 ⟨hL1.1, hL1.2.1, fun j u hu => ⟨tw_okv_mono (hL1.2.2 j u hu).1 c4 c1, (hL1.2.2 j u hu).2⟩⟩ hN (fun u hu => ?_) hnx hf hl (by omega) (by omega) (fun ad2 H2 locs2 ls2 pc2 k1 k2 k3 k4 => ?_)
    · rcases List.mem_append.mp hu with hu | hu
      · refine g2 u ?_
        cases v with
        | none => cases hu
        | some u0 => rw [List.mem_singleton.mp hu]
      · exact tw_okv_mono (hrst u hu) c4 c1
    · exact W.cs (by omega) (by omega) (k ad2 H2 locs2 ls2 pc2 (tw_agr_trans g1 k1 c4 c1) k2 k3 k4)
  have hstm : st.map (tw_rel ad) = (as.map (tw_rel ad)).reverse ++ rest.map (tw_rel ad) := by
    rw [hst, List.map_append, List.map_reverse]
  have hW8 : 2 * (F0 mi pc0 lsC (st.map (tw_rel ad))).monitorRoom + ((rest.map (tw_rel ad)).map fun v => v.category).sum ≤ 8 := by
    show 2 * 0 + _ ≤ 8
    omega
  rcases hkind with ⟨x, k0, ar, g1, g2, rfl, g4, g5⟩ | ⟨x, k0, ar, g1, g2, rfl, g5⟩ | ⟨x, g1, g2, g5⟩
  · obtain ⟨i1, i2, i3⟩ := w9 (by omega)
    have hal1 : (ar.map (tw_rel ad)).length = tw_mN a := by
      rw [g2] at hal
      simp only [List.length_cons] at hal
      rw [List.length_map]
      have : (if Nat.beq 1 0 then 0 else 1) = 1 := rfl
      omega
    have hO := tw_shI_O hc g4 (by have := tw_vwl; omega)
    have hat := tw_ws_at (ad := ad) (aC := aC) (σ := σ) hO.1
    rw [tw_cellE_O hO.2.1 (by have := tw_vwl; omega)] at hat
    have hrecv := va_recv hC.K hH.2.1 (tw_cl_at i2) hat
    rw [show ((tw_cl (tw_mC a)).1, (tw_cl (tw_mC a)).2.1, (tw_cl (tw_mC a)).2.2).1 = tw_own a from i3] at hrecv
    refine hgo _ (va_runV (n := tw_mN a) (C := tw_own a) (As := ar.map (tw_rel ad)) (b := ad k0) hfix hM ⟨callB_of (tw_mN a) hC.hts (tw_Ws_good hy hyl) rfl rfl rfl (hC.hts _ w1) (hC.hts _ g5) ⟨w2, w3, w5⟩ hroom, hC.hts _ i1, hC.hts _ (w10 g2)⟩ ⟨tw_Pc_blind, hrecv, hpre⟩ rfl hal1 hsz ?_ hW8 g1 hfit)
    rw [hstm]
    simp [tw_rel]
  · obtain ⟨i1, i2, i3⟩ := w9 (by omega)
    have hal1 : (ar.map (tw_rel ad)).length = tw_mN a := by
      rw [g2] at hal
      simp only [List.length_cons] at hal
      rw [List.length_map]
      have : (if Nat.beq 2 0 then 0 else 1) = 1 := rfl
      omega
    have hret := (w11 g2).2
    have hw : tw_Ws a = Jvm.Cond.code (tw_mY a) (tw_mB a) (tw_mL a) none :: tw_gw := by unfold tw_Ws; rw [hret]
    have hstk : st.map (tw_rel ad) = (ar.map (tw_rel ad)).reverse ++ .ref (ad k0) :: rest.map (tw_rel ad) := by
      rw [hstm]
      simp [tw_rel]
    rcases g5 with g5 | g5
    · exact hgo _ (va_runI (n := tw_mN a) (As := ar.map (tw_rel ad)) (b := ad k0) hfix hM ⟨callB_of (tw_mN a) hC.hts (tw_Ws_good hy hyl) hw rfl rfl (hC.hts _ w1) (hC.hts _ g5) ⟨w2, w3, w5⟩ hroom, (w11 g2).1, hC.hts _ i1⟩ ⟨tw_Pc_blind, hpre⟩ rfl hal1 hsz hstk hW8 g1 hfit)
    · exact hgo _ (va_runIN (n := tw_mN a) (As := ar.map (tw_rel ad)) (b := ad k0) (host := "CardLoom") hfix hM ⟨va_cnB (tw_mN a) hC.hts (tw_Ws_good hy hyl) hw rfl rfl (hC.nest _ g5) (hC.hts _ w1) ⟨w2, w3, w5⟩ hroom, (w11 g2).1, hC.hts _ i1⟩ ⟨tw_Pc_blind, hpre⟩ rfl hal1 hsz hstk hW8 g1 hfit)
  · have hal1 : (as.map (tw_rel ad)).length = tw_mN a := by
      rw [g2] at hal
      rw [List.length_map, hal]
      rfl
    rcases g5 with g5 | g5
    · exact hgo _ (va_runS (n := tw_mN a) (As := as.map (tw_rel ad)) hfix hM ⟨callB_of (tw_mN a) hC.hts (tw_Ws_good hy hyl) rfl rfl rfl (hC.hts _ w1) (hC.hts _ g5) ⟨w2, w3, w5⟩ hroom, hC.hts _ (w8 g2)⟩ ⟨tw_Pc_blind, hpre⟩ rfl hal1 hsz hstm hW8 g1 hfit)
    · exact hgo _ (va_runSN (n := tw_mN a) (As := as.map (tw_rel ad)) (host := "CardLoom") hfix hM ⟨va_cnB (tw_mN a) hC.hts (tw_Ws_good hy hyl) rfl rfl rfl (hC.nest _ g5) (hC.hts _ w1) ⟨w2, w3, w5⟩ hroom, hC.hts _ (w8 g2), trivial⟩ ⟨tw_Pc_blind, hpre⟩ rfl hal1 hsz hstm hW8 g1 hfit)
end tw_H
end
section
/-! copies of rows, the change of mode, all rules together; the law's walk out of a run of the table machine -/
section tw_I
variable {D : va_G} {aC : Nat → ClassId} {z b L : Nat} {xs : Nat → Int32} {l : Launch} {md md1 : tw_Md} {σ σ1 : tw_Mem} {d d1 m pc ln i a bb y mc ms : Nat} {ls st as rest restC st0 : List Value} {zz : Int32} {ts : List Nat} {v : Option Value} {r : tw_Ret}
theorem tw_cpy_ne {k q k' : Nat} {sp dp n : Nat} (h : k' ≠ q) (j : Nat) : tw_cpy σ k q sp dp n k' j = σ k' j := by
  unfold tw_cpy
  rw [if_neg (fun g => h g.1)]
theorem tw_s_copy {idx : Nat} {k q : Nat} {sp dp n : Int32} (he : tw_fetch m i = some (pc, ln, .invokestatic idx, 998, bb, zz, ts)) (h2 : rest.length ≤ 8) (h3 : tw_live k none = true) (h4 : tw_live q none = true) (h5 : (tw_sh q).1 = (tw_sh k).1) (h6 : 20 ≤ (tw_sh k).1) (h7 : (tw_sh k).1 ≤ 23) (h8 : k ≠ q)
    (h9 : 0 ≤ sp) (h10 : 0 ≤ dp) (h11 : 0 ≤ n) (h12 : sp.toNatClampNeg + n.toNatClampNeg ≤ (tw_sh k).2) (h13 : dp.toNatClampNeg + n.toNatClampNeg ≤ (tw_sh q).2) (h14 : (tw_sh k).1 = 20 ∨ (tw_sh k).1 = 22 ∧ ∀ j, j < n.toNatClampNeg → 0 ≤ σ k (sp.toNatClampNeg + j) ∧ σ k (sp.toNatClampNeg + j) ≤ 65535)
    (ih : tw_Sd l D aC z b L xs d m (i + 1, ls, rest, none, tw_cpy σ k q sp.toNatClampNeg dp.toNatClampNeg n.toNatClampNeg) r) : tw_Sd l D aC z b L xs d m (i, ls, .int n :: .int dp :: .ref q :: .int sp :: .ref k :: rest, none, σ) r := by
  obtain ⟨rv, rm, rσ⟩ := r
  intro hm hc
  have hk := tw_okE_at hm i _ he
  have h0 := hk
  unfold tw_chkI at h0
  simp only [Bool.and_eq_true, decide_eq_true_eq, show Nat.beq 998 998 = true from rfl, if_true] at h0
  obtain ⟨w1, ⟨⟨w2, w3⟩, ⟨⟨⟨w4, w5⟩, w6⟩, w7⟩⟩⟩ := h0
  have w2 := Nat.eq_of_beq_eq_true w2
  subst w2
  obtain ⟨b1, b2, b3, b4, b5⟩ := ih hm hc
  refine ⟨b1, b2, b3, b4, ?_⟩
  intro ad p e s mi args below meth c H locs cells slots Rm Q lsC pc1 hC hH hL hN hS hpc hf hl hce hsl kk
  obtain ⟨e1, he1, rfl⟩ := hpc
  rw [he] at he1
  cases he1
  dsimp only at hS hL hN hH b5
  have hr : ∀ u ∈ rest, tw_okv none u := tw_okt (tw_okt (tw_okt (tw_okt (tw_okt hS))))
  have hcat := tw_sum1 (ad := ad) hr
  have hatk := tw_ws_at (ad := ad) (aC := aC) (σ := σ) h3
  have hatq := tw_ws_at (ad := ad) (aC := aC) (σ := σ) h4
  rw [tw_cellE_A rfl h6 (by omega)] at hatk
  rw [tw_cellE_A h5 h6 (by omega)] at hatq
  have e2 : (tw_ws none ad aC σ).set (q - 1) (ad q, .inl (aC ((tw_sh k).1 - 20), (tw_sh q).2, .inl (va_cpy (fun j => σ k j) (fun j => σ q j) sp.toNatClampNeg dp.toNatClampNeg n.toNatClampNeg))) = tw_ws none ad aC (tw_cpy σ k q sp.toNatClampNeg dp.toNatClampNeg n.toNatClampNeg) := by
    have e1 : (tw_E_of (.inl (aC ((tw_sh k).1 - 20), (tw_sh q).2, .inl (va_cpy (fun j => σ k j) (fun j => σ q j) sp.toNatClampNeg dp.toNatClampNeg n.toNatClampNeg)))) = tw_cellE none ad aC (tw_cpy σ k q sp.toNatClampNeg dp.toNatClampNeg n.toNatClampNeg) q := by
      rw [tw_cellE_A h5 h6 (by omega)]
      unfold tw_E_of
      congr 4
      funext j
      unfold va_cpy tw_cpy
      by_cases hj : dp.toNatClampNeg ≤ j ∧ j < dp.toNatClampNeg + n.toNatClampNeg
      · rw [if_pos hj, if_pos ⟨rfl, hj.1, hj.2⟩]
      · rw [if_neg hj, if_neg (fun g => hj g.2)]
    unfold tw_E_of at e1
    rw [e1]
    exact tw_ws_set h4 (fun k' _ _ hne => tw_cellE_congr (fun j' => tw_cpy_ne hne j'))
  have hfw : nativeFrameWords "java/lang/System" "arraycopy" 5 + 11 ≤ 40 := by decide +kernel
  have nn : ∀ u : Int32, 0 ≤ u → ¬ u < 0 := fun u h g => by
    rw [Int32.le_iff_toInt_le] at h
    rw [Int32.lt_iff_toInt_lt] at g
    omega
  have hgo : ∀ (t0 : Nat) (ty : Jvm.ClassFile.FieldType), (tw_tys aC)[t0]? = some (aC ((tw_sh k).1 - 20), ty) → refKind ty = false → (∀ j, j < n.toNatClampNeg → fits ty (.int (σ k (sp.toNatClampNeg + j))) = true) → W p l e Rm s mi args below meth c H locs cells slots Q (F0 mi pc lsC ((.int n :: .int dp :: .ref q :: .int sp :: .ref k :: rest : List Value).map (tw_rel ad))) := by
    intro t0 ty ht hprim hfit
    refine va_copyi (f := fun j => σ k j) (g := fun j => σ q j) hC.1 hC.2.1 (hC.2.2.1.trans (hN.symm.trans hL.1.symm)) hC.own (hC.hts _ (tw_w_mem w4)) (hC.hts _ (tw_w_mem w5)) (hC.hts _ (tw_w_mem w6)) (hC.hts _ (tw_w_mem w7)) hC.K hH.2.1 hH.2.2.1 hH.2.2.2 (k - 1) (q - 1) t0 t0 hatk hatq ht ht hprim (nn _ h9) (nn _ h10) (nn _ h11) h12 h13 hfit (by omega) (by omega) w1 (fun H1 locs1 hP1 hD1 hS1 => ?_)
    rw [e2] at hP1 hD1
    refine b5 ad p e s mi args below meth c H1 locs1 cells slots Rm Q lsC _ hC ⟨hH.1, hP1, hD1, hS1⟩ hL hN hr (tw_nx_next w3) hf hl hce hsl (fun ad2 H2 locs2 ls2 pc2 k1 k2 k3 k4 => ?_)
    exact kk ad2 H2 locs2 ls2 pc2 k1 k2 k3 k4
  rcases h14 with h14 | ⟨h14, h15⟩
  · exact hgo 0 .int (by rw [h14]; rfl) rfl (fun _ _ => rfl)
  · refine hgo 2 .char (by rw [h14]; rfl) rfl (fun j hj => ?_)
    have h16 := h15 j hj
    show (decide _ && decide _) = true
    rw [Bool.and_eq_true, decide_eq_true_eq, decide_eq_true_eq]
    exact h16
set_option maxRecDepth 100000 in
theorem tw_kd_le : (List.range (tw_NC + 1)).all (fun k => (tw_kdL.getD k []).all (fun q => Nat.ble q.2 tw_NC && Nat.ble q.1 2)) = true := by decide +kernel
theorem tw_kd_bd {k j : Nat} (h : k ≤ tw_NC) : (tw_kd k j).2 ≤ tw_NC ∧ (tw_kd k j).1 ≤ 2 := by
  unfold tw_kd
  rw [List.getD_eq_getElem?_getD]
  cases hj : (tw_kdL.getD k [])[j]? with
  | none => exact ⟨Nat.zero_le _, Nat.zero_le _⟩
  | some q =>
    have h1 := List.all_eq_true.mp (List.all_eq_true.mp tw_kd_le k (List.mem_range.mpr (by omega))) q (List.mem_of_getElem? hj)
    rw [Bool.and_eq_true, Nat.ble_eq, Nat.ble_eq] at h1
    exact h1
theorem tw_full_val {k j : Nat} (hf : tw_full σ) (h : k ≤ tw_NC) : tw_val none σ k j = tw_val (some tw_NC) σ k j := by
  have hb := (tw_kd_bd (j := j) h).1
  have hq := hf k h j
  unfold tw_val
  cases ht : tw_kd k j with
  | mk t1 t2 =>
    rw [ht] at hb hq
    cases t1 with
    | zero => rfl
    | succ t1 =>
      have hb2 : ¬ tw_NC < t2 := Nat.not_lt.mpr hb
      by_cases h0 : t1 = 0
      · subst h0
        simp only [if_true, if_neg hb2, if_neg (hq rfl)]
      · simp only [if_neg h0, if_neg hb2]
theorem tw_s_full (hf : tw_full σ) (ih : tw_Sd l D aC z b L xs d m (i, ls, st, none, σ) r) : tw_Sd l D aC z b L xs d m (i, ls, st, some tw_NC, σ) r := by
  obtain ⟨rv, rm, rσ⟩ := r
  intro hm hc
  obtain ⟨b1, b2, b3, b4, b5⟩ := ih hm (Nat.le_refl _)
  refine ⟨b1, b2, b3, (fun q => by cases q), ?_⟩
  intro ad p e s mi args below meth c H locs cells slots Rm Q lsC pc1 hC hH hL hN hS hpc hf1 hl hce hsl kk
  have ew : tw_ws none ad aC σ = tw_ws (some tw_NC) ad aC σ := by
    unfold tw_ws
    show (List.range tw_NC).map _ = (List.range tw_NC).map _
    refine List.map_congr_left fun j hj => ?_
    have hj := List.mem_range.mp hj
    have hv : ∀ j', tw_val none σ (j + 1) j' = tw_val (some tw_NC) σ (j + 1) j' := fun j' => tw_full_val hf (by omega)
    unfold tw_cellE
    simp only [hv]
  have ok : ∀ u, tw_okv (some tw_NC) u → tw_okv none u := fun u hu => by
    cases u <;> first | exact hu | trivial
  refine b5 ad p e s mi args below meth c H locs cells slots Rm Q lsC pc1 hC ⟨hH.1, by rw [ew]; exact hH.2.1, by rw [ew]; exact hH.2.2.1, hH.2.2.2⟩ ⟨hL.1, hL.2.1, fun j u hu => ⟨ok u (hL.2.2 j u hu).1, (hL.2.2 j u hu).2⟩⟩ hN (fun u hu => ok u (hS u hu)) hpc hf1 hl hce hsl (fun ad2 H2 locs2 ls2 pc2 k1 k2 k3 k4 => ?_)
  exact kk ad2 H2 locs2 ls2 pc2 (by rw [show ad2 = ad from k1]; exact tw_agr_rf) k2 k3 k4
/-- SOUND: what the table machine's run comes to -/
theorem tw_sound {d m : Nat} {g : tw_Cfg} {r : tw_Ret} (h : tw_R L xs d m g r) : tw_Sd l D aC z b L xs d m g r := by
  refine h (tw_Sd l D aC z b L xs) ⟨?_, ?_, ?_, ?_, ?_⟩
  · intro d m i ls st md σ e g r h1 h2 h3
    exact tw_s_step h1 h2 h3
  · intro d m i ls st md σ e v h1 h2
    exact tw_s_ret h1 h2
  · intro d d1 m i ls st md σ e y as rest v md1 σ1 r h1 h2 h3 h4 h5
    exact tw_s_call h1 h2 h3 h4 h5
  · intro d m i ls rest σ pc ln idx b0 z0 ts k q sp dp n r h1 h2 h3 h4 h5 h6 h7 h8 h9 h10 h11 h12 h13 h14 h15
    exact tw_s_copy h1 h2 h3 h4 h5 h6 h7 h8 h9 h10 h11 h12 h13 h14 h15
  · intro d m i ls st σ r h1 h2
    exact tw_s_full h1 h2
end tw_I
end
section
/-! the law's walk, out of a run of the table machine -/
theorem tw_inst0 : Jvm.Cond.instantiable (tw_cl 0).1 (tw_cl 0).2.2 ∈ tw_gw := tw_w_mem (p := 149) (by decide +kernel)
theorem tw_inst1 : Jvm.Cond.instantiable (tw_cl 1).1 (tw_cl 1).2.2 ∈ tw_gw := tw_w_mem (p := 101) (by decide +kernel)
theorem tw_inst2 : Jvm.Cond.instantiable (tw_cl 2).1 (tw_cl 2).2.2 ∈ tw_gw := tw_w_mem (p := 234) (by decide +kernel)
theorem tw_inst3 : Jvm.Cond.instantiable (tw_cl 3).1 (tw_cl 3).2.2 ∈ tw_gw := tw_w_mem (p := 124) (by decide +kernel)
theorem tw_inst4 : Jvm.Cond.instantiable (tw_cl 4).1 (tw_cl 4).2.2 ∈ tw_gw := tw_w_mem (p := 184) (by decide +kernel)
theorem tw_inst5 : Jvm.Cond.instantiable (tw_cl 5).1 (tw_cl 5).2.2 ∈ tw_gw := tw_w_mem (p := 250) (by decide +kernel)
theorem tw_inst6 : Jvm.Cond.instantiable (tw_cl 6).1 (tw_cl 6).2.2 ∈ tw_gw := tw_w_mem (p := 93) (by decide +kernel)
theorem tw_inst7 : Jvm.Cond.instantiable (tw_cl 7).1 (tw_cl 7).2.2 ∈ tw_gw := tw_w_mem (p := 205) (by decide +kernel)
theorem tw_inst8 : Jvm.Cond.instantiable (tw_cl 8).1 (tw_cl 8).2.2 ∈ tw_gw := tw_w_mem (p := 221) (by decide +kernel)
theorem tw_inst9 : Jvm.Cond.instantiable (tw_cl 9).1 (tw_cl 9).2.2 ∈ tw_gw := tw_w_mem (p := 79) (by decide +kernel)
theorem tw_inst10 : Jvm.Cond.instantiable (tw_cl 10).1 (tw_cl 10).2.2 ∈ tw_gw := tw_w_mem (p := 71) (by decide +kernel)
theorem tw_inst11 : Jvm.Cond.instantiable (tw_cl 11).1 (tw_cl 11).2.2 ∈ tw_gw := tw_w_mem (p := 1030) (by decide +kernel)
theorem tw_inst : ∀ ci, ci < vwCl.length → Jvm.Cond.instantiable (tw_cl ci).1 (tw_cl ci).2.2 ∈ tw_gw
  | 0, _ => tw_inst0
  | 1, _ => tw_inst1
  | 2, _ => tw_inst2
  | 3, _ => tw_inst3
  | 4, _ => tw_inst4
  | 5, _ => tw_inst5
  | 6, _ => tw_inst6
  | 7, _ => tw_inst7
  | 8, _ => tw_inst8
  | 9, _ => tw_inst9
  | 10, _ => tw_inst10
  | 11, _ => tw_inst11
  | n + 12, h => absurd h (by show ¬ n + 12 < 12; omega)
theorem tw_arr_int : Jvm.Cond.arrayClass .int ∈ tw_gw := tw_w_mem (p := 122) (by decide +kernel)
theorem tw_arr_byte : Jvm.Cond.arrayClass .byte ∈ tw_gw := tw_w_mem (p := 91) (by decide +kernel)
theorem tw_arr_char : Jvm.Cond.arrayClass .char ∈ tw_gw := tw_w_mem (p := 148) (by decide +kernel)
theorem tw_arr_boolean : Jvm.Cond.arrayClass .boolean ∈ tw_gw := tw_w_mem (p := 1158) (by decide +kernel)
theorem tw_overw : lw_tbl[99]? = some (Jvm.Cond.arrayOver (.object "CardLoom$Card")) := by decide +kernel
theorem tw_arrK {s : State} {args : Array Value} {ty : Jvm.ClassFile.FieldType} (hr : refKind ty = false) (h : (Jvm.Cond.arrayClass ty).before args s = true) : ∃ cA, ArrOfT s cA ty ∧ va_RA s cA ty := by
  obtain ⟨cA, kA, comp, h1, h2, h3⟩ := Cond.arrayClass_spec h
  refine ⟨cA, fun n z => ⟨fun k h => (by cases h), kA, h2, comp, h3⟩, ?_⟩
  cases ty <;> first | exact h1 | cases hr
theorem tw_arrQ {s : State} {C : String} (h : va_AO C s) : ∃ cA, ArrOfT s cA (.object C) ∧ va_RA s cA (.object C) := by
  obtain ⟨comp, c, k, h1, h2, h3, h4, h5⟩ := Cond.arrayOver_spec h
  exact ⟨c, fun n z => ⟨fun k h => (by cases h), k, h3, comp, h4⟩, k, comp, h3, h4, h1, h5⟩
theorem tw_K_all {s : State} {args : Array Value} (hts : ∀ w ∈ tw_gw, w.before args s = true) (hao : va_AO "CardLoom$Card" s) : ∃ (D : va_G) (aC : Nat → ClassId), va_K D vwCl (tw_tys aC) s := by
  have hc : ∀ ci : Nat, ∃ q : ClassId × (Nat → Nat), ci < vwCl.length → u_Kn s (tw_cl ci).1 (tw_cl ci).2.1 (tw_cl ci).2.2 q.1 q.2 := fun ci => by
    by_cases h : ci < vwCl.length
    · obtain ⟨cC, iS, hk⟩ := u_known (C := (tw_cl ci).1) (T := (tw_cl ci).2.1) (N := (tw_cl ci).2.2) hts (tw_in ci h) (hts _ (tw_inst ci h))
      exact ⟨(cC, iS), fun _ => hk⟩
    · exact ⟨(0, fun _ => 0), fun g => absurd g h⟩
  obtain ⟨a0, g0⟩ := tw_arrK (ty := .int) rfl (hts _ tw_arr_int)
  obtain ⟨a1, g1⟩ := tw_arrK (ty := .byte) rfl (hts _ tw_arr_byte)
  obtain ⟨a2, g2⟩ := tw_arrK (ty := .char) rfl (hts _ tw_arr_char)
  obtain ⟨a3, g3⟩ := tw_arrK (ty := .boolean) rfl (hts _ tw_arr_boolean)
  obtain ⟨a4, g4⟩ := tw_arrQ hao
  refine ⟨(fun ci => (Classical.choose (hc ci)).1, fun ci => (Classical.choose (hc ci)).2), fun t => match t with
    | 0 => a0
    | 1 => a1
    | 2 => a2
    | 3 => a3
    | _ => a4, fun ci q hq => ?_, fun k q hq => ?_⟩
  · have hl := (List.getElem?_eq_some_iff.mp hq).1
    have h1 := tw_cl_at hl
    rw [hq] at h1
    cases h1
    exact Classical.choose_spec (hc ci) hl
  · match k, hq with
    | 0, hq => cases hq; exact g0
    | 1, hq => cases hq; exact g1
    | 2, hq => cases hq; exact g2
    | 3, hq => cases hq; exact g3
    | 4, hq => cases hq; exact g4
    | k + 5, hq => cases hq
theorem tw_law_mB : tw_mB tw_LAW = code := rfl
theorem tw_law_mR : tw_mR tw_LAW = some .boolean := rfl
theorem tw_law_lt : tw_LAW < tw_NM := by decide
theorem tw_start {p : Program} {e : Env} {s : State} {m : MethodId} {below : List Frame} {meth : Method} {c : Code} (l : Launch) {b L : Nat} {xs : Nat → Int32} {Z : State → Prop} {σ1 : tw_Mem}
    (hx : p.tables.exec = Jvm.exec) (hb : c.code = code) (hr : meth.sig.returnType = ret) (hml : c.maxLocals = 4) (hown : s.vm.findClass "CardLoomLaw" = some m.cls) (hts : ∀ w ∈ lw_tbl, w.before #[Value.ref b] s = true) (hX : va_X b L xs s s.heap) (hbl : b < s.heap.size) (hlocks : meth.locks = false)
    (hp : tw_R L xs 100 tw_LAW (0, tw_ent tw_LAW [.ref 0], [], some 0, fun _ _ => 0) (some (.int 1), none, σ1))
    (hend : ∀ (pc : Nat) (H : Heap) (ls : Array Slot), decode code pc = .ok (.ireturn, 1) → W p l e room_1 s m #[Value.ref b] below meth c H [] 600000 7302250 Z (F0 m pc ls [.int 1])) :
    W p l e room_1 s m #[Value.ref b] below meth c s.heap [] 0 0 Z (entryFrame m ([Value.ref b] : List Value).toArray 4) := by
  have htg : ∀ w ∈ tw_gw, w.before #[Value.ref b] s = true := fun w hw => hts w (List.mem_filter.mp hw).1
  have hao : va_AO "CardLoom$Card" s := va_AO.of (hts _ (List.mem_of_getElem? tw_overw))
  have hnw : ∀ w ∈ tw_nw, va_Nw w s := fun w hw => va_Nw.of (by
    have hn := (List.mem_filter.mp hw).2
    cases w <;> first | rfl | cases hn) (hts w (List.mem_filter.mp hw).1)
  obtain ⟨D, aC, hK⟩ := tw_K_all htg hao
  have hS := tw_sound (l := l) (D := D) (aC := aC) (z := s.heap.size) (b := b) hp
  obtain ⟨-, -, -, -, hS⟩ := hS tw_law_lt (Nat.zero_le _)
  have hC : tw_Cx D aC s.heap.size b L xs tw_LAW p s m #[Value.ref b] meth c := ⟨hx, hb, hml, hown, htg, hnw, hao, hlocks, hr, (fun q => by cases q), hK, hX, hbl, Nat.le_refl _⟩
  have hH : tw_Hx D aC s.heap.size b (fun _ => b) (some 0) (fun _ _ => 0) s s.heap [] := by
    have hw : tw_ws (some 0) (fun _ => b) aC (fun _ _ => 0) = [] := rfl
    refine ⟨rfl, ?_, ?_, va_S.rf⟩
    · rw [hw]
      intro k q h
      simp at h
    · rw [hw]
      refine ⟨?_, ?_⟩
      · intro i j p q h
        simp at h
      · intro k q h
        simp at h
  have hL := tw_Lr_ent (ad := fun _ => b) (md := some 0) (as := [Value.ref 0]) (n := 4) (fun u hu => by rw [List.mem_singleton.mp hu]; exact Nat.le_refl 0) (by decide)
  rw [show ([Value.ref b] : List Value).toArray = (([Value.ref 0] : List Value).map (tw_rel (fun _ => b))).toArray from rfl, entry_eq m (([Value.ref 0] : List Value).map (tw_rel (fun _ => b))) (fun v hv => by rw [List.mem_singleton.mp hv]; rfl)]
  refine hS (fun _ => b) p e s m #[Value.ref b] below meth c s.heap [] 0 0 room_1 Z _ 0 hC hH hL rfl (fun u hu => by cases hu) (tw_pc0_at tw_law_lt) (by decide) (by decide) (show 0 + (tw_cn none - tw_cn (some 0)) ≤ room_1.cells by decide +kernel) (show 0 + (tw_sl none - tw_sl (some 0)) ≤ room_1.slots by decide +kernel) (fun ad1 H1 locs1 ls1 pc1 k1 k2 k3 k4 => ?_)
  rcases k3 with ⟨g1, -⟩ | ⟨-, -, g3 | ⟨k, g3⟩⟩ | ⟨-, -, g3⟩
  · refine va_forget k2.2.2.2.2.2 (W.widen (k := 600000) (n := 7302250) ?_ ?_ (hend pc1 H1 ls1 g1))
    · show 0 + (tw_cn none - tw_cn (some 0)) ≤ 600000
      decide +kernel
    · show 0 + (tw_sl none - tw_sl (some 0)) ≤ 7302250
      decide +kernel
  · cases g3
  · cases g3
  · cases g3
end
section
/-! from here on: the table machine alone. tw_P: from here the run ends, with Q of its answer and memory -/
def tw_adv (L : Nat) (xs : Nat → Int32) (m : Nat) : Nat → tw_Cfg → Option tw_Cfg
  | 0, g => some g
  | n + 1, g => match tw_fetch m g.1 with
    | some e => (match tw_stepE L xs e g.1 g.2.1 g.2.2.1 g.2.2.2.1 g.2.2.2.2 with
      | some (.inl g1) => tw_adv L xs m n g1
      | _ => none)
    | none => none
theorem tw_adv_R {L : Nat} {xs : Nat → Int32} {d m : Nat} {r : tw_Ret} : ∀ (n : Nat) (g g1 : tw_Cfg), tw_adv L xs m n g = some g1 → tw_R L xs d m g1 r → tw_R L xs d m g r
  | 0, g, g1, h, hr => by
    have h : some g = some g1 := h
    cases h
    exact hr
  | n + 1, (i, ls, st, md, σ), g1, h, hr => by
    unfold tw_adv at h
    split at h
    · rename_i e he
      split at h
      · rename_i g2 hg
        exact tw_go1 he hg (tw_adv_R n g2 g1 h hr)
      · cases h
    · cases h
section tw_J
variable {L : Nat} {xs : Nat → Int32} {d d1 m i i1 n : Nat} {ls ls1 st st1 rest as : List Value} {σ σ1 : tw_Mem} {Q Q1 : Option Value → tw_Mem → Prop} {pc ln a b y k : Nat} {z : Int32} {ts : List Nat} {u w : Int32}
def tw_P (L : Nat) (xs : Nat → Int32) (d m i : Nat) (ls st : List Value) (σ : tw_Mem) (Q : Option Value → tw_Mem → Prop) : Prop := ∃ v σ1, tw_R L xs d m (i, ls, st, none, σ) (v, none, σ1) ∧ Q v σ1
def tw_E (L : Nat) (xs : Nat → Int32) (d m : Nat) (as : List Value) (σ : tw_Mem) (Q : Option Value → tw_Mem → Prop) : Prop := tw_P L xs d m 0 (tw_ent m as) [] σ Q
theorem tw_sg (n : Nat) (h : tw_adv L xs m n (i, ls, st, none, σ) = some (i1, ls1, st1, none, σ1)) (k : tw_P L xs d m i1 ls1 st1 σ1 Q) : tw_P L xs d m i ls st σ Q := by
  obtain ⟨v, σ2, h1, h2⟩ := k
  exact ⟨v, σ2, tw_adv_R n _ _ h h1, h2⟩
theorem tw_sgn (n : Nat) {ls0 st0 : List Value} {σ0 : tw_Mem} (h : tw_adv L xs m n (i, ls, st, none, σ) = some (i1, ls0, st0, none, σ0)) (e1 : ls0 = ls1) (e2 : st0 = st1) (e3 : σ0 = σ1) (k : tw_P L xs d m i1 ls1 st1 σ1 Q) : tw_P L xs d m i ls st σ Q := by
  subst e1; subst e2; subst e3
  exact tw_sg n h k
theorem tw_E_mono {Q Q1 : Option Value → tw_Mem → Prop} (h : tw_E L xs d m as σ Q) (k : ∀ v σ1, Q v σ1 → Q1 v σ1) : tw_E L xs d m as σ Q1 := by
  obtain ⟨v, σ2, h1, h2⟩ := h
  exact ⟨v, σ2, h1, k v σ2 h2⟩
theorem tw_P_mono {Q Q1 : Option Value → tw_Mem → Prop} (h : tw_P L xs d m i ls st σ Q) (k : ∀ v σ1, Q v σ1 → Q1 v σ1) : tw_P L xs d m i ls st σ Q1 := by
  obtain ⟨v, σ2, h1, h2⟩ := h
  exact ⟨v, σ2, h1, k v σ2 h2⟩
/-- the ends -/
theorem tw_ri (h : tw_fetch m i = some (pc, ln, .ireturn, a, b, z, ts)) (hb : (Nat.beq a 0 || tw_bit u) = true) (k : Q (some (.int u)) σ) : tw_P L xs d m i ls [.int u] σ Q := by
  refine ⟨_, _, tw_ret1 h ?_, k⟩
  show (if Nat.beq a 0 || tw_bit u then (some (.inr (.inl (some (.int u)))) : Option tw_Out) else none) = _
  rw [if_pos hb]
theorem tw_ra (h : tw_fetch m i = some (pc, ln, .areturn, a, b, z, ts)) (k0 : Q (some (.ref k)) σ) : tw_P L xs d m i ls [.ref k] σ Q := ⟨_, _, tw_ret1 h rfl, k0⟩
theorem tw_rn (h : tw_fetch m i = some (pc, ln, .areturn, a, b, z, ts)) (k0 : Q (some .null) σ) : tw_P L xs d m i ls [.null] σ Q := ⟨_, _, tw_ret1 h rfl, k0⟩
theorem tw_rv (h : tw_fetch m i = some (pc, ln, .return_, a, b, z, ts)) (k0 : Q none σ) : tw_P L xs d m i ls [] σ Q := ⟨_, _, tw_ret1 h rfl, k0⟩
/-- a call of which something is known -/
theorem tw_cl1 {e : tw_Ent} (h : tw_fetch m i = some e) (hs : tw_stepE L xs e i ls st none σ = some (.inr (.inr (y, as, rest)))) (hd : d1 < d) (hE : tw_E L xs d1 y as σ Q1) (k : ∀ v σ1, Q1 v σ1 → tw_P L xs d m (i + 1) ls (v.toList ++ rest) σ1 Q) : tw_P L xs d m i ls st σ Q := by
  obtain ⟨v, σ1, h1, h2⟩ := hE
  obtain ⟨v2, σ2, h3, h4⟩ := k v σ1 h2
  exact ⟨v2, σ2, tw_call1 h hs hd h1 h3, h4⟩
/-- a call that is walked here -/
theorem tw_cl0 (d1 : Nat) {e : tw_Ent} (h : tw_fetch m i = some e) (hs : tw_stepE L xs e i ls st none σ = some (.inr (.inr (y, as, rest)))) (hd : d1 < d) (hE : tw_P L xs d1 y 0 (tw_ent y as) [] σ (fun v σ1 => tw_P L xs d m (i + 1) ls (v.toList ++ rest) σ1 Q)) : tw_P L xs d m i ls st σ Q := tw_cl1 h hs hd hE (fun _ _ h => h)
theorem tw_onestep {e : tw_Ent} (h : tw_fetch m i = some e) (hs : tw_stepE L xs e i ls st none σ = some (.inl (i1, ls1, st1, none, σ1))) (k : tw_P L xs d m i1 ls1 st1 σ1 Q) : tw_P L xs d m i ls st σ Q := by
  obtain ⟨v, σ2, h1, h2⟩ := k
  exact ⟨v, σ2, tw_go1 h hs h1, h2⟩
/-- branches -/
theorem tw_bi {c : Jvm.ClassFile.Cond} {off : Int} (h : tw_fetch m i = some (pc, ln, .if_icmp c off, a, b, z, ts)) (kt : tw_cnd c u w = true → tw_P L xs d m a ls st σ Q) (kf : tw_cnd c u w = false → tw_P L xs d m (i + 1) ls st σ Q) : tw_P L xs d m i ls (.int w :: .int u :: st) σ Q := by
  cases hc : tw_cnd c u w with
  | true => exact tw_onestep h (show some (Sum.inl (if tw_cnd c u w then a else i + 1, ls, st, none, σ)) = some (Sum.inl (a, ls, st, none, σ)) by rw [if_pos hc]) (kt hc)
  | false => exact tw_onestep h (show some (Sum.inl (if tw_cnd c u w then a else i + 1, ls, st, none, σ)) = some (Sum.inl (i + 1, ls, st, none, σ)) by rw [if_neg (by rw [hc]; decide)]) (kf hc)
theorem tw_bz {c : Jvm.ClassFile.Cond} {off : Int} (h : tw_fetch m i = some (pc, ln, .ifCond c off, a, b, z, ts)) (kt : tw_cnd c u (nI 0) = true → tw_P L xs d m a ls st σ Q) (kf : tw_cnd c u (nI 0) = false → tw_P L xs d m (i + 1) ls st σ Q) : tw_P L xs d m i ls (.int u :: st) σ Q := by
  cases hc : tw_cnd c u 0 with
  | true => exact tw_onestep h (show some (Sum.inl (if tw_cnd c u 0 then a else i + 1, ls, st, none, σ)) = some (Sum.inl (a, ls, st, none, σ)) by rw [if_pos hc]) (kt hc)
  | false => exact tw_onestep h (show some (Sum.inl (if tw_cnd c u 0 then a else i + 1, ls, st, none, σ)) = some (Sum.inl (i + 1, ls, st, none, σ)) by rw [if_neg (by rw [hc]; decide)]) (kf hc)
theorem tw_biT {c : Jvm.ClassFile.Cond} {off : Int} (h : tw_fetch m i = some (pc, ln, .if_icmp c off, a, b, z, ts)) (hc : tw_cnd c u w = true) (k : tw_P L xs d m a ls st σ Q) : tw_P L xs d m i ls (.int w :: .int u :: st) σ Q := tw_bi h (fun _ => k) (fun g => by rw [hc] at g; cases g)
theorem tw_biF {c : Jvm.ClassFile.Cond} {off : Int} (h : tw_fetch m i = some (pc, ln, .if_icmp c off, a, b, z, ts)) (hc : tw_cnd c u w = false) (k : tw_P L xs d m (i + 1) ls st σ Q) : tw_P L xs d m i ls (.int w :: .int u :: st) σ Q := tw_bi h (fun g => by rw [hc] at g; cases g) (fun _ => k)
theorem tw_bzT {c : Jvm.ClassFile.Cond} {off : Int} (h : tw_fetch m i = some (pc, ln, .ifCond c off, a, b, z, ts)) (hc : tw_cnd c u (nI 0) = true) (k : tw_P L xs d m a ls st σ Q) : tw_P L xs d m i ls (.int u :: st) σ Q := tw_bz h (fun _ => k) (fun g => by rw [hc] at g; cases g)
theorem tw_bzF {c : Jvm.ClassFile.Cond} {off : Int} (h : tw_fetch m i = some (pc, ln, .ifCond c off, a, b, z, ts)) (hc : tw_cnd c u (nI 0) = false) (k : tw_P L xs d m (i + 1) ls st σ Q) : tw_P L xs d m i ls (.int u :: st) σ Q := tw_bz h (fun g => by rw [hc] at g; cases g) (fun _ => k)
theorem tw_ceq {u w : Int32} : (tw_cnd .eq u w = true) = (u = w) := by unfold tw_cnd; exact decide_eq_true_eq
theorem tw_cne {u w : Int32} : (tw_cnd .ne u w = true) = (¬ u = w) := by unfold tw_cnd; simp
theorem tw_clt {u w : Int32} : (tw_cnd .lt u w = true) = (u < w) := by unfold tw_cnd; exact decide_eq_true_eq
theorem tw_cge {u w : Int32} : (tw_cnd .ge u w = true) = (w ≤ u) := by unfold tw_cnd; exact decide_eq_true_eq
theorem tw_cgt {u w : Int32} : (tw_cnd .gt u w = true) = (w < u) := by unfold tw_cnd; exact decide_eq_true_eq
theorem tw_cle {u w : Int32} : (tw_cnd .le u w = true) = (u ≤ w) := by unfold tw_cnd; exact decide_eq_true_eq
theorem tw_ceq' {u w : Int32} : (tw_cnd .eq u w = false) = (¬ u = w) := by unfold tw_cnd; simp
theorem tw_cne' {u w : Int32} : (tw_cnd .ne u w = false) = (u = w) := by unfold tw_cnd; simp
theorem tw_clt' {u w : Int32} : (tw_cnd .lt u w = false) = (¬ u < w) := by unfold tw_cnd; exact propext decide_eq_false_iff_not
theorem tw_cge' {u w : Int32} : (tw_cnd .ge u w = false) = (¬ w ≤ u) := by unfold tw_cnd; exact propext decide_eq_false_iff_not
theorem tw_cgt' {u w : Int32} : (tw_cnd .gt u w = false) = (¬ w < u) := by unfold tw_cnd; exact propext decide_eq_false_iff_not
theorem tw_cle' {u w : Int32} : (tw_cnd .le u w = false) = (¬ u ≤ w) := by unfold tw_cnd; exact propext decide_eq_false_iff_not
/-- arrays at a place that is a number -/
theorem tw_isA_nI {k tag j len : Nat} (hs : tw_sh k = (tag, len)) (hl : tw_live k none = true) (hj : j < len) (hm : len < 2147483648) : tw_isA k tag none (nI j) = true := by
  have e1 : (nI j).toNatClampNeg = j := by unfold nI; exact Int32.toNatClampNeg_ofNat_of_lt (by omega)
  have e2 : ¬ nI j < 0 := by
    rw [Int32.lt_iff_toInt_lt, nI_toInt (by omega), Int32.toInt_zero]
    omega
  unfold tw_isA
  rw [hl, hs, e1]
  simp [e2, Nat.blt_eq, hj]
theorem tw_al {x : Int32} {j len : Nat} (h : tw_fetch m i = some (pc, ln, .iaload, a, b, z, ts)) (hk : Nat.beq k 0 = false) (hs : tw_sh k = (20, len)) (hl : tw_live k none = true) (hx : x = nI j) (hj : j < len) (hm : len < 2147483648) (kk : tw_P L xs d m (i + 1) ls (.int (σ k j) :: st) σ Q) : tw_P L xs d m i ls (.int x :: .ref k :: st) σ Q := by
  subst hx
  refine tw_onestep h ?_ kk
  show (if Nat.beq k 0 then _ else if tw_isA k 20 none (nI j) then tw_go (i + 1) ls (.int (σ k (nI j).toNatClampNeg) :: st) none σ else none) = _
  rw [hk, if_neg (by decide), if_pos (tw_isA_nI hs hl hj hm)]
  have e1 : (nI j).toNatClampNeg = j := by unfold nI; exact Int32.toNatClampNeg_ofNat_of_lt (by omega)
  rw [e1]
  rfl
theorem tw_as {x v : Int32} {j len : Nat} (h : tw_fetch m i = some (pc, ln, .iastore, a, b, z, ts)) (hs : tw_sh k = (20, len)) (hl : tw_live k none = true) (hx : x = nI j) (hj : j < len) (hm : len < 2147483648) (kk : tw_P L xs d m (i + 1) ls st (tw_upd σ k j v) Q) : tw_P L xs d m i ls (.int v :: .int x :: .ref k :: st) σ Q := by
  subst hx
  refine tw_onestep h ?_ kk
  show (if tw_isA k 20 none (nI j) then tw_go (i + 1) ls st none (tw_upd σ k (nI j).toNatClampNeg v) else none) = _
  rw [if_pos (tw_isA_nI hs hl hj hm)]
  have e1 : (nI j).toNatClampNeg = j := by unfold nI; exact Int32.toNatClampNeg_ofNat_of_lt (by omega)
  rw [e1]
  rfl
/-- an array of bytes, of booleans, of chars -/
theorem tw_alb {x : Int32} {j len tag : Nat} (h : tw_fetch m i = some (pc, ln, .baload, a, b, z, ts)) (hs : tw_sh k = (tag, len)) (ht : tag = 21 ∨ tag = 23) (hl : tw_live k none = true) (hx : x = nI j) (hj : j < len) (hm : len < 2147483648) (kk : tw_P L xs d m (i + 1) ls (.int (σ k j) :: st) σ Q) : tw_P L xs d m i ls (.int x :: .ref k :: st) σ Q := by
  subst hx
  refine tw_onestep h ?_ kk
  show (if tw_isA k 21 none (nI j) || tw_isA k 23 none (nI j) then tw_go (i + 1) ls (.int (σ k (nI j).toNatClampNeg) :: st) none σ else none) = _
  have e1 : (nI j).toNatClampNeg = j := by unfold nI; exact Int32.toNatClampNeg_ofNat_of_lt (by omega)
  rw [if_pos, e1]
  · rfl
  · rcases ht with rfl | rfl <;> simp [tw_isA_nI hs hl hj hm]
theorem tw_alc {x : Int32} {j len : Nat} (h : tw_fetch m i = some (pc, ln, .caload, a, b, z, ts)) (hs : tw_sh k = (22, len)) (hl : tw_live k none = true) (hx : x = nI j) (hj : j < len) (hm : len < 2147483648) (kk : tw_P L xs d m (i + 1) ls (.int (σ k j) :: st) σ Q) : tw_P L xs d m i ls (.int x :: .ref k :: st) σ Q := by
  subst hx
  refine tw_onestep h ?_ kk
  show (if tw_isA k 22 none (nI j) then tw_go (i + 1) ls (.int (σ k (nI j).toNatClampNeg) :: st) none σ else none) = _
  rw [if_pos (tw_isA_nI hs hl hj hm)]
  have e1 : (nI j).toNatClampNeg = j := by unfold nI; exact Int32.toNatClampNeg_ofNat_of_lt (by omega)
  rw [e1]
  rfl
theorem tw_inv_ok {k : Nat} {r : List Value} (h1 : st.drop b = .ref k :: r) (h2 : Nat.ble r.length 8 = true) (h3 : tw_isO k (tw_mC y) none = true) : tw_inv y b st none = some (.inr (.inr (y, .ref k :: (st.take b).reverse, r))) := by
  unfold tw_inv
  rw [h1]
  show (if Nat.ble r.length 8 && tw_isO k (tw_mC y) none then _ else none) = _
  rw [h2, h3]
  rfl
/-- fields of a cell that isn't written out -/
theorem tw_gf {idx j : Nat} {v : Value} (h : tw_fetch m i = some (pc, ln, .getfield idx, a, j, z, ts)) (hO : tw_isO k a none = true) (hj : Nat.blt j (tw_sh k).2 = true) (hv : tw_val none σ k j = v) (kk : tw_P L xs d m (i + 1) ls (v :: st) σ Q) : tw_P L xs d m i ls (.ref k :: st) σ Q := by
  subst hv
  refine tw_onestep h ?_ kk
  show (if tw_isO k a none && Nat.blt j (tw_sh k).2 then tw_go (i + 1) ls (tw_val none σ k j :: st) none σ else none) = _
  rw [hO, hj]
  rfl
theorem tw_pf {idx j : Nat} {v : Int32} (h : tw_fetch m i = some (pc, ln, .putfield idx, a, j, 0, ts)) (hO : tw_isO k a none = true) (hj : Nat.blt j (tw_sh k).2 = true) (hv : (tw_kd k j).1 = 0) (kk : tw_P L xs d m (i + 1) ls st (tw_upd σ k j v) Q) : tw_P L xs d m i ls (.int v :: .ref k :: st) σ Q := by
  refine tw_onestep h ?_ kk
  show (if tw_isO k a none && Nat.blt j (tw_sh k).2 && Nat.beq (tw_kd k j).1 0 && (decide ((0 : Int32) = 0) || tw_bit v) then tw_go (i + 1) ls st none (tw_upd σ k j v) else none) = _
  rw [hO, hj, hv]
  rfl
theorem tw_aal {x : Int32} {j len t : Nat} (h : tw_fetch m i = some (pc, ln, .aaload, a, b, z, ts)) (hs : tw_sh k = (24, len)) (hl : tw_live k none = true) (hx : x = nI j) (hj : j < len) (hm : len < 2147483648) (hv : tw_val none σ k j = .ref t) (kk : tw_P L xs d m (i + 1) ls (.ref t :: st) σ Q) : tw_P L xs d m i ls (.int x :: .ref k :: st) σ Q := by
  subst hx
  refine tw_onestep h ?_ kk
  show (if tw_isA k 24 none (nI j) then tw_go (i + 1) ls (tw_val none σ k (nI j).toNatClampNeg :: st) none σ else none) = _
  rw [if_pos (tw_isA_nI hs hl hj hm)]
  have e1 : (nI j).toNatClampNeg = j := by unfold nI; exact Int32.toNatClampNeg_ofNat_of_lt (by omega)
  rw [e1, hv]
  rfl
/-- the division -/
theorem tw_dv (h : tw_fetch m i = some (pc, ln, .idiv, a, b, z, ts)) (hw : ¬ w = 0) (kk : tw_P L xs d m (i + 1) ls (.int (u / w) :: st) σ Q) : tw_P L xs d m i ls (.int w :: .int u :: st) σ Q := by
  refine tw_onestep h ?_ kk
  show (if w = 0 then none else tw_go (i + 1) ls (.int (u / w) :: st) none σ) = _
  rw [if_neg hw]
  rfl
theorem tw_rm (h : tw_fetch m i = some (pc, ln, .irem, a, b, z, ts)) (hw : ¬ w = 0) (kk : tw_P L xs d m (i + 1) ls (.int (u - u / w * w) :: st) σ Q) : tw_P L xs d m i ls (.int w :: .int u :: st) σ Q := by
  refine tw_onestep h ?_ kk
  show (if w = 0 then none else tw_go (i + 1) ls (.int (u - u / w * w) :: st) none σ) = _
  rw [if_neg hw]
  rfl
/-- the switches -/
theorem tw_sw {dflt lo hi : Int} {offs : Array Int} {t : Nat} (h : tw_fetch m i = some (pc, ln, .tableswitch dflt lo hi offs, a, b, nI 0, ts)) {j : Nat} (hj : u = nI j) (hj2 : j ≤ b) (hb : b < 2147483648) (ht : ts[j]? = some t) (kk : tw_P L xs d m t ls st σ Q) : tw_P L xs d m i ls (.int u :: st) σ Q := by
  subst hj
  refine tw_onestep h ?_ kk
  have e0 : (nI j).toInt = (j : Int) := nI_toInt (by omega)
  have e1 : (nI 0).toInt = 0 := by decide
  show (if (nI j).toInt < (nI 0).toInt ∨ (b : Int) < (nI j).toInt then tw_go a ls st none σ else (match ts[((nI j).toInt - (nI 0).toInt).toNat]? with
    | some t => tw_go t ls st none σ
    | none => none)) = _
  rw [e0, e1, if_neg (by omega), show ((j : Int) - 0).toNat = j by omega, ht]
  rfl
theorem tw_swo {dflt lo hi : Int} {offs : Array Int} (h : tw_fetch m i = some (pc, ln, .tableswitch dflt lo hi offs, a, b, nI 0, ts)) (hj : u < nI 0 ∨ nI b < u) (hb : b < 2147483648) (kk : tw_P L xs d m a ls st σ Q) : tw_P L xs d m i ls (.int u :: st) σ Q := by
  refine tw_onestep h ?_ kk
  have e1 : (nI 0).toInt = 0 := by decide
  have e2 : (nI b).toInt = (b : Int) := nI_toInt hb
  rw [Int32.lt_iff_toInt_lt, Int32.lt_iff_toInt_lt, e2] at hj
  show (if u.toInt < (nI 0).toInt ∨ (b : Int) < u.toInt then tw_go a ls st none σ else (match ts[(u.toInt - (nI 0).toInt).toNat]? with
    | some t => tw_go t ls st none σ
    | none => none)) = _
  rw [if_pos hj]
  rfl
end tw_J
/-! small numbers as numbers -/
theorem tw_nadd (a b : Nat) : nI a + nI b = nI (a + b) := by
  unfold nI
  exact (Int32.ofNat_add a b).symm
theorem tw_nmul (a b : Nat) : nI a * nI b = nI (a * b) := by
  unfold nI
  exact (Int32.ofNat_mul a b).symm
theorem tw_ntoI {n : Nat} (h : n < 2147483648) : (nI n).toInt = (n : Int) := nI_toInt h
theorem tw_nsub {a b : Nat} (h : b ≤ a) : nI a - nI b = nI (a - b) := by
  have e : a = (a - b) + b := by omega
  rw [e, ← tw_nadd, Nat.add_sub_cancel, Int32.add_sub_cancel]
theorem tw_nlt {a b : Nat} (ha : a < 2147483648) (hb : b < 2147483648) : (nI a < nI b) = (a < b) := by
  rw [Int32.lt_iff_toInt_lt, tw_ntoI ha, tw_ntoI hb]
  exact propext Int.ofNat_lt
theorem tw_nle {a b : Nat} (ha : a < 2147483648) (hb : b < 2147483648) : (nI a ≤ nI b) = (a ≤ b) := by
  rw [Int32.le_iff_toInt_le, tw_ntoI ha, tw_ntoI hb]
  exact propext Int.ofNat_le
theorem tw_neq {a b : Nat} (ha : a < 2147483648) (hb : b < 2147483648) : (nI a = nI b) = (a = b) := by
  refine propext ⟨fun h => ?_, fun h => by rw [h]⟩
  have h1 := congrArg Int32.toInt h
  rw [tw_ntoI ha, tw_ntoI hb] at h1
  exact Int.ofNat.inj h1
theorem tw_nge0 {a : Nat} (ha : a < 2147483648) : ¬ nI a < 0 := by
  rw [show (0 : Int32) = nI 0 from rfl, tw_nlt ha (by decide)]
  omega
theorem tw_nclamp {a : Nat} (ha : a < 2147483648) : (nI a).toNatClampNeg = a := by
  unfold nI
  exact Int32.toNatClampNeg_ofNat_of_lt ha
theorem tw_ninj {a b : Nat} (ha : a < 2147483648) (hb : b < 2147483648) (h : nI a = nI b) : a = b := by rwa [tw_neq ha hb] at h
/-- any number is below 0, or such a number -/
theorem tw_nany (x : Int32) : x < nI 0 ∨ ∃ a, a < 2147483648 ∧ x = nI a := by
  by_cases h : x < nI 0
  · exact Or.inl h
  · right
    have h : ¬ x < 0 := h
    rw [Int32.lt_iff_toInt_lt, Int32.toInt_zero] at h
    have h1 := Int32.toInt_lt x
    refine ⟨x.toInt.toNat, by omega, ?_⟩
    apply Int32.toInt.inj
    rw [nI_toInt (by omega)]
    omega
/-- within so many, or not -/
theorem tw_within (x : Int32) (n : Nat) (hn : n < 2147483648) : (∃ a, a < n ∧ x = nI a) ∨ (x < nI 0 ∨ (¬ x < nI 0 ∧ nI n ≤ x)) := by
  rcases tw_nany x with h | ⟨a, h1, rfl⟩
  · exact Or.inr (Or.inl h)
  · by_cases h2 : a < n
    · exact Or.inl ⟨a, h2, rfl⟩
    · refine Or.inr (Or.inr ⟨tw_nge0 h1, ?_⟩)
      rw [tw_nle hn h1]
      omega
theorem tw_neg_not_le {x : Int32} {n : Nat} (h : x < nI 0) (hn : n < 2147483648) : ¬ nI n ≤ x := by
  rw [Int32.lt_iff_toInt_lt] at h
  rw [Int32.le_iff_toInt_le, tw_ntoI hn]
  rw [tw_ntoI (by decide)] at h
  omega
theorem tw_neg_lt {x : Int32} {n : Nat} (h : x < nI 0) (hn : n < 2147483648) : x < nI n := by
  rw [Int32.lt_iff_toInt_lt] at h ⊢
  rw [tw_ntoI (by decide)] at h
  rw [tw_ntoI hn]
  omega
theorem tw_lt_of_le {x y w : Int32} (h1 : x ≤ y) (h2 : y < w) : x < w := by
  rw [Int32.lt_iff_toInt_lt] at h2 ⊢
  rw [Int32.le_iff_toInt_le] at h1
  omega
theorem tw_not_lt {x y : Int32} : ¬ x < y ↔ y ≤ x := by
  rw [Int32.lt_iff_toInt_lt, Int32.le_iff_toInt_le]
  omega
theorem tw_not_le {x y : Int32} : ¬ x ≤ y ↔ y < x := by
  rw [Int32.lt_iff_toInt_lt, Int32.le_iff_toInt_le]
  omega
/-- what isn't below 0 is such a number -/
theorem tw_nof {x : Int32} (h : ¬ x < 0) : ∃ a, a < 2147483648 ∧ x = nI a := by
  rw [Int32.lt_iff_toInt_lt, Int32.toInt_zero] at h
  have h1 := Int32.toInt_lt x
  refine ⟨x.toInt.toNat, by omega, ?_⟩
  apply Int32.toInt.inj
  rw [tw_ntoI (by omega)]
  omega
end
section
/-! what the class's cells and the reference's have to do with each other. A loom of the class at cell B (6: the loom, 38: the image), the reference's half H (0, 1); n CARDS, r ROWS -/
def tw_iCards (σ : tw_Mem) (B H n : Nat) : Prop := ∀ c, c < n → (∀ h, h < 4 → σ (2 * c + (B + 13)) h = σ 91 (4 * c + h + 40 * H) ∧ ∃ q, q < 10 ∧ σ 91 (4 * c + h + 40 * H) = nI q) ∧ (σ (2 * c + (B + 12)) 1 = σ 92 (c + 10 * H) ∧ ∃ q, q < 2 ∧ σ 92 (c + 10 * H) = nI q) ∧ (σ (2 * c + (B + 12)) 2 = σ 93 (c + 10 * H) ∧ ∃ q, q < 4 ∧ σ 93 (c + 10 * H) = nI q) ∧ σ (2 * c + (B + 12)) 3 = σ 94 (c + 10 * H)
def tw_iRows (σ : tw_Mem) (B H n r : Nat) : Prop := ∀ i, i < r → ∀ c, c < n → σ (B + 4) ((i * 10 + c) * 4 + 0) = σ 95 (10 * i + c + 500 * H) ∧ σ (B + 4) ((i * 10 + c) * 4 + 1) = σ 96 (10 * i + c + 500 * H) ∧ σ (B + 4) ((i * 10 + c) * 4 + 2) = σ 97 (10 * i + c + 500 * H) ∧ σ (B + 4) ((i * 10 + c) * 4 + 3) = σ 98 (10 * i + c + 500 * H) ∧ ∃ q, q < 4 ∧ σ 98 (10 * i + c + 500 * H) = nI q
def tw_leaf (ch : Nat) : Prop := ch = 105 ∨ ch = 102 ∨ ch = 98 ∨ ch = 104
def tw_numd (ch : Nat) : Prop := ch = 107 ∨ ch = 99 ∨ ch = 120 ∨ ch = 115
def tw_pair (ch : Nat) : Prop := ch = 107 ∨ ch = 99 ∨ ch = 120 ∨ ch = 116
def tw_oper (ch : Nat) : Prop := tw_numd ch ∨ ch = 100 ∨ ch = 114 ∨ ch = 109 ∨ ch = 116
/-- a law's tree from a node on, at most so deep: nodes below k -/
def tw_tree (σ : tw_Mem) (B H k : Nat) : Nat → Nat → Prop
  | 0, _ => False
  | f + 1, nd => nd < k ∧ ∃ ch, ch < 128 ∧ σ (B + 8) nd = nI ch ∧ σ 99 (nd + 80 * H) = nI ch ∧ (tw_leaf ch ∨ (tw_oper ch ∧ (∃ q, q < 100 ∧ σ (B + 9) nd = nI q ∧ σ 100 (nd + 80 * H) = nI q ∧ (ch = 107 ∨ ch = 120 → 1 ≤ q)) ∧
      (∃ a, σ (B + 10) nd = nI a ∧ σ 101 (nd + 80 * H) = nI a ∧ tw_tree σ B H k f a) ∧ (tw_pair ch → ∃ a, σ (B + 11) nd = nI a ∧ σ 102 (nd + 80 * H) = nI a ∧ tw_tree σ B H k f a)))
def tw_iLaw (σ : tw_Mem) (B H : Nat) : Prop := (σ (B + 7) 4 = nI 0 ∧ σ 99 (80 * H) = nI 105) ∨ ∃ k, k ≤ 80 ∧ σ (B + 7) 4 = nI k ∧ tw_tree σ B H k 7 0
def tw_iChars (σ : tw_Mem) (K : Nat) : Prop := ∀ j, j < 80 → ∃ q, q < 65536 ∧ σ K j = nI q
def tw_iLoom (σ : tw_Mem) (B H n r : Nat) : Prop := (n ≤ 10 ∧ r ≤ 50) ∧ (σ B 4 = nI n ∧ σ 89 H = nI n) ∧ (σ (B + 3) 3 = nI r ∧ σ (B + 3) 4 = nI n ∧ σ 90 H = nI r) ∧ tw_iCards σ B H n ∧ tw_iRows σ B H n r ∧ tw_iLaw σ B H
def tw_iTape (σ : tw_Mem) : Prop := ∃ k, k ≤ 80 ∧ σ 2 1 = nI k ∧ σ 88 17 = nI k ∧ ∀ j, j < k → σ 3 j = σ 103 j ∧ ∃ q, 1 ≤ q ∧ q < 128 ∧ σ 103 j = nI q
def tw_iPaper (σ : tw_Mem) : Prop := ∃ k, k ≤ 59 ∧ σ 4 1 = nI k ∧ σ 88 37 = nI k ∧ ∀ j, j < k → σ 5 j = σ 116 j
def tw_iPic (σ : tw_Mem) : Prop := ∃ h, h ≤ 8 ∧ σ 79 1 = nI h ∧ σ 88 32 = nI h ∧ (∀ j, j < 10 * h → σ 80 j = σ 113 j) ∧ ∀ j, 10 * h ≤ j → j < 80 → σ 113 j = nI 0
def tw_iLists (σ : tw_Mem) : Prop := ∀ l, l < 4 → (σ 87 l = (-1) ∧ σ 117 l = nI 0) ∨ ∃ s, s ≤ 20 ∧ σ 87 l = nI s ∧ σ 117 l = nI 1 ∧ σ 118 l = nI s ∧ ∀ i, i < s → σ 86 (l * 20 + i) = σ 119 (20 * l + i)
def tw_iImg (σ : tw_Mem) : Prop := (σ 1 9 = nI 0 ∧ σ 88 11 = nI 0) ∨ (σ 1 9 = nI 1 ∧ σ 88 11 = nI 1 ∧ ∃ n r, tw_iLoom σ 38 1 n r)
def tw_Inv (σ : tw_Mem) : Prop := (∃ n r, tw_iLoom σ 6 0 n r) ∧ tw_iTape σ ∧ tw_iPaper σ ∧ tw_iPic σ ∧ tw_iLists σ ∧ tw_iImg σ ∧ tw_iChars σ 14 ∧ tw_iChars σ 46 ∧ tw_iChars σ 72
-- what each part rests on
section tw_K
variable {σ τ : tw_Mem} {B H n r k : Nat}
theorem tw_iCards.to (h : tw_iCards σ B H n) (h1 : ∀ c, c < n → τ (2 * c + (B + 12)) = σ (2 * c + (B + 12)) ∧ τ (2 * c + (B + 13)) = σ (2 * c + (B + 13))) (h2 : τ 91 = σ 91) (h3 : τ 92 = σ 92) (h4 : τ 93 = σ 93) (h5 : τ 94 = σ 94) : tw_iCards τ B H n := by
  intro c hc
  obtain ⟨e1, e2⟩ := h1 c hc
  rw [e1, e2, h2, h3, h4, h5]
  exact h c hc
theorem tw_iRows.to (h : tw_iRows σ B H n r) (h1 : τ (B + 4) = σ (B + 4)) (h2 : τ 95 = σ 95) (h3 : τ 96 = σ 96) (h4 : τ 97 = σ 97) (h5 : τ 98 = σ 98) : tw_iRows τ B H n r := by
  intro i hi c hc
  rw [h1, h2, h3, h4, h5]
  exact h i hi c hc
theorem tw_tree.to (h1 : τ (B + 8) = σ (B + 8)) (h2 : τ (B + 9) = σ (B + 9)) (h3 : τ (B + 10) = σ (B + 10)) (h4 : τ (B + 11) = σ (B + 11)) (g1 : τ 99 = σ 99) (g2 : τ 100 = σ 100) (g3 : τ 101 = σ 101) (g4 : τ 102 = σ 102) : ∀ (f nd : Nat), tw_tree σ B H k f nd → tw_tree τ B H k f nd
  | 0, _, h => h
  | f + 1, nd, ⟨e1, ch, e2, e3, e4, e5⟩ => by
    refine ⟨e1, ch, e2, by rw [h1]; exact e3, by rw [g1]; exact e4, ?_⟩
    rcases e5 with e5 | ⟨e5, ⟨q, q1, q2, q3, q4⟩, ⟨a, a1, a2, a3⟩, e6⟩
    · exact Or.inl e5
    · refine Or.inr ⟨e5, ⟨q, q1, by rw [h2]; exact q2, by rw [g2]; exact q3, q4⟩, ⟨a, by rw [h3]; exact a1, by rw [g3]; exact a2, tw_tree.to h1 h2 h3 h4 g1 g2 g3 g4 f a a3⟩, fun hp => ?_⟩
      obtain ⟨c, c1, c2, c3⟩ := e6 hp
      exact ⟨c, by rw [h4]; exact c1, by rw [g4]; exact c2, tw_tree.to h1 h2 h3 h4 g1 g2 g3 g4 f c c3⟩
theorem tw_iLaw.to (h : tw_iLaw σ B H) (h0 : τ (B + 7) 4 = σ (B + 7) 4) (h1 : τ (B + 8) = σ (B + 8)) (h2 : τ (B + 9) = σ (B + 9)) (h3 : τ (B + 10) = σ (B + 10)) (h4 : τ (B + 11) = σ (B + 11)) (g1 : τ 99 = σ 99) (g2 : τ 100 = σ 100) (g3 : τ 101 = σ 101) (g4 : τ 102 = σ 102) : tw_iLaw τ B H := by
  rcases h with ⟨e1, e2⟩ | ⟨k, e1, e2, e3⟩
  · exact Or.inl ⟨by rw [h0]; exact e1, by rw [g1]; exact e2⟩
  · exact Or.inr ⟨k, e1, by rw [h0]; exact e2, tw_tree.to h1 h2 h3 h4 g1 g2 g3 g4 7 0 e3⟩
end tw_K
/-- the places that tell nothing between two calls -/
def tw_scr (k j : Nat) : Prop := k = 8 ∨ k = 11 ∨ k = 12 ∨ k = 40 ∨ k = 43 ∨ k = 44 ∨ k = 70 ∨ k = 71 ∨ (73 ≤ k ∧ k ≤ 78) ∨ (82 ≤ k ∧ k ≤ 84) ∨ (104 ≤ k ∧ k ≤ 112) ∨ k = 114 ∨ k = 115 ∨ (k = 88 ∧ 18 ≤ j ∧ j ≤ 22)
def tw_keep (σ τ : tw_Mem) : Prop := ∀ k j, ¬ tw_scr k j → τ k j = σ k j
section tw_K2
variable {σ τ υ : tw_Mem} {B H n r k : Nat}
theorem tw_keep.rf : tw_keep σ σ := fun _ _ _ => rfl
theorem tw_keep.tr (h1 : tw_keep σ τ) (h2 : tw_keep τ υ) : tw_keep σ υ := fun k j h => (h2 k j h).trans (h1 k j h)
theorem tw_keep.row (h : tw_keep σ τ) {k : Nat} (hk : ∀ j, ¬ tw_scr k j) : τ k = σ k := funext fun j => h k j (hk j)
theorem tw_keep.upd (h : tw_keep σ τ) {k j : Nat} {x : Int32} (hk : tw_scr k j) : tw_keep σ (tw_upd τ k j x) := fun k' j' h' => by
  unfold tw_upd
  rw [if_neg (fun q => h' (by rw [q.1, q.2]; exact hk))]
  exact h k' j' h'
theorem tw_iLoom.keep (h : tw_iLoom σ B H n r) (hB : B = 6 ∨ B = 38) (hk : tw_keep σ τ) : tw_iLoom τ B H n r := by
  obtain ⟨h1, h2, h3, h4, h5, h6⟩ := h
  have hr : ∀ k, (∀ j, ¬ tw_scr k j) → τ k = σ k := fun k hh => hk.row hh
  have e89 := hr 89 (fun j => by unfold tw_scr; omega)
  have e90 := hr 90 (fun j => by unfold tw_scr; omega)
  have eB := hr B (fun j => by unfold tw_scr; omega)
  have eB3 := hr (B + 3) (fun j => by unfold tw_scr; omega)
  refine ⟨h1, by rw [eB, e89]; exact h2, by rw [eB3, e90]; exact h3, h4.to (fun c hc => ⟨hr _ (fun j => by unfold tw_scr; omega), hr _ (fun j => by unfold tw_scr; omega)⟩) (hr _ (fun j => by unfold tw_scr; omega)) (hr _ (fun j => by unfold tw_scr; omega)) (hr _ (fun j => by unfold tw_scr; omega)) (hr _ (fun j => by unfold tw_scr; omega)),
    h5.to (hr _ (fun j => by unfold tw_scr; omega)) (hr _ (fun j => by unfold tw_scr; omega)) (hr _ (fun j => by unfold tw_scr; omega)) (hr _ (fun j => by unfold tw_scr; omega)) (hr _ (fun j => by unfold tw_scr; omega)),
    h6.to (by rw [hr (B + 7) (fun j => by unfold tw_scr; omega)]) (hr _ (fun j => by unfold tw_scr; omega)) (hr _ (fun j => by unfold tw_scr; omega)) (hr _ (fun j => by unfold tw_scr; omega)) (hr _ (fun j => by unfold tw_scr; omega)) (hr _ (fun j => by unfold tw_scr; omega)) (hr _ (fun j => by unfold tw_scr; omega)) (hr _ (fun j => by unfold tw_scr; omega)) (hr _ (fun j => by unfold tw_scr; omega))⟩
theorem tw_Inv.keep (h : tw_Inv σ) (hk : tw_keep σ τ) : tw_Inv τ := by
  obtain ⟨⟨n, r, h1⟩, h2, h3, h4, h5, h6, h7, h8, h9⟩ := h
  have hr : ∀ k, (∀ j, ¬ tw_scr k j) → τ k = σ k := fun k hh => hk.row hh
  have hs : ∀ k j, ¬ tw_scr k j → τ k j = σ k j := hk
  refine ⟨⟨n, r, h1.keep (Or.inl rfl) hk⟩, ?_, ?_, ?_, ?_, ?_, ?_, ?_, ?_⟩
  · unfold tw_iTape
    rw [hr 2 (fun j => by unfold tw_scr; omega), hs 88 17 (by unfold tw_scr; omega), hr 3 (fun j => by unfold tw_scr; omega), hr 103 (fun j => by unfold tw_scr; omega)]
    exact h2
  · unfold tw_iPaper
    rw [hr 4 (fun j => by unfold tw_scr; omega), hs 88 37 (by unfold tw_scr; omega), hr 5 (fun j => by unfold tw_scr; omega), hr 116 (fun j => by unfold tw_scr; omega)]
    exact h3
  · unfold tw_iPic
    rw [hr 79 (fun j => by unfold tw_scr; omega), hs 88 32 (by unfold tw_scr; omega), hr 80 (fun j => by unfold tw_scr; omega), hr 113 (fun j => by unfold tw_scr; omega)]
    exact h4
  · unfold tw_iLists
    rw [hr 87 (fun j => by unfold tw_scr; omega), hr 117 (fun j => by unfold tw_scr; omega), hr 118 (fun j => by unfold tw_scr; omega), hr 86 (fun j => by unfold tw_scr; omega), hr 119 (fun j => by unfold tw_scr; omega)]
    exact h5
  · unfold tw_iImg
    rw [hr 1 (fun j => by unfold tw_scr; omega), hs 88 11 (by unfold tw_scr; omega)]
    rcases h6 with h6 | ⟨h6, h7, n1, r1, h8⟩
    · exact Or.inl h6
    · exact Or.inr ⟨h6, h7, n1, r1, h8.keep (Or.inr rfl) hk⟩
  · unfold tw_iChars
    rw [hr 14 (fun j => by unfold tw_scr; omega)]
    exact h7
  · unfold tw_iChars
    rw [hr 46 (fun j => by unfold tw_scr; omega)]
    exact h8
  · unfold tw_iChars
    rw [hr 72 (fun j => by unfold tw_scr; omega)]
    exact h9
/-- a row of the memory that a store leaves alone -/
theorem tw_upd_row {k0 j0 k : Nat} {x : Int32} (h : k ≠ k0) : tw_upd σ k0 j0 x k = σ k := funext fun j => by
  unfold tw_upd
  rw [if_neg (fun q => h q.1)]
theorem tw_upd_at {k j : Nat} {x : Int32} : tw_upd σ k j x k j = x := if_pos ⟨rfl, rfl⟩
theorem tw_upd_off {k0 j0 k j : Nat} {x : Int32} (h : ¬ (k = k0 ∧ j = j0)) : tw_upd σ k0 j0 x k j = σ k j := if_neg h
end tw_K2
/-- what a call of both has to do: the same answer, and the state goes on -/
def tw_op (L : Nat) (xs : Nat → Int32) (mc mm : Nat) (as : List Value) : Prop := ∀ σ, tw_Inv σ → tw_E L xs 60 mc (.ref 1 :: as) σ (fun v σ1 => ∃ u : Int32, v = some (.int u) ∧ tw_E L xs 60 mm (.ref 88 :: as) σ1 (fun v2 σ2 => v2 = some (.int u) ∧ tw_Inv σ2))
end
section
/-! the two constructors, run by the kernel; the state at the start -/
def tw_xs0 : Nat → Int32 := fun _ => 0
/-- a run that doesn't touch the script is one with any script -/
def tw_nosc (st : List Value) : Bool := st.all (fun v => match v with
  | .ref k => !(Nat.beq k 0)
  | _ => true)
theorem tw_step_any {L : Nat} {xs : Nat → Int32} {ins : Jvm.ClassFile.Instr} {a b : Nat} {z : Int32} {ts : List Nat} {i : Nat} {ls st : List Value} {md : tw_Md} {σ : tw_Mem} (h : tw_nosc st = true) : tw_step L xs ins a b z ts i ls st md σ = tw_step 0 tw_xs0 ins a b z ts i ls st md σ := by
  have key : ∀ k, Value.ref k ∈ st → Nat.beq k 0 = false := fun k hk => by
    have h1 := List.all_eq_true.mp h _ hk
    simpa using h1
  cases ins with
  | iaload =>
    show tw_pir st _ = tw_pir st _
    unfold tw_pir
    split
    · rename_i j k r
      have h1 := key k (List.mem_cons_of_mem _ List.mem_cons_self)
      simp only [h1]
      rfl
    · rfl
  | arraylength =>
    show tw_pr st _ = tw_pr st _
    unfold tw_pr
    split
    · rename_i k r
      have h1 := key k List.mem_cons_self
      simp only [h1]
      rfl
    · rfl
  | _ => rfl
def tw_evg : Nat → Nat → Nat → tw_Cfg → Option tw_Ret
  | 0, _, _, _ => none
  | n + 1, d, m, g => if tw_nosc g.2.2.1 = true then (match tw_fetch m g.1 with
    | none => none
    | some e => (match tw_stepE 0 tw_xs0 e g.1 g.2.1 g.2.2.1 g.2.2.2.1 g.2.2.2.2 with
      | none => none
      | some (.inl g1) => tw_evg n d m g1
      | some (.inr (.inl v)) => some (v, g.2.2.2.1, g.2.2.2.2)
      | some (.inr (.inr c)) => (match d with
        | 0 => none
        | d1 + 1 => (match tw_evg n d1 c.1 (0, tw_ent c.1 c.2.1, [], g.2.2.2.1, g.2.2.2.2) with
          | none => none
          | some r => tw_evg n (d1 + 1) m (g.1 + 1, g.2.1, r.1.toList ++ c.2.2, r.2.1, r.2.2))))) else none
theorem tw_evg_R {L : Nat} {xs : Nat → Int32} : ∀ (n d m : Nat) (g : tw_Cfg) (r : tw_Ret), tw_evg n d m g = some r → tw_R L xs d m g r
  | 0, _, _, _, _, h => by cases h
  | n + 1, d, m, (i, ls, st, md, σ), r, h => by
    unfold tw_evg at h
    split at h
    · rename_i hn
      split at h
      · cases h
      · rename_i e he
        have hst : tw_stepE L xs e i ls st md σ = tw_stepE 0 tw_xs0 e i ls st md σ := tw_step_any hn
        split at h
        · cases h
        · rename_i g1 hg
          exact tw_go1 he (hst.trans hg) (tw_evg_R n d m g1 r h)
        · rename_i v hv
          cases h
          exact tw_ret1 he (hst.trans hv)
        · rename_i c hc
          obtain ⟨y, as, rest⟩ := c
          split at h
          · cases h
          · rename_i d1
            split at h
            · cases h
            · rename_i r1 hr1
              obtain ⟨v1, md1, σ1⟩ := r1
              exact tw_call1 he (hst.trans hc) (Nat.lt_succ_self d1) (tw_evg_R n d1 y _ _ hr1) (tw_evg_R n (d1 + 1) m _ r h)
    · cases h
/-- the object's own constructor, with its cell made; then the reference's -/
def tw_cA : Option tw_Ret := tw_evg 2000 20 131 (0, tw_ent 131 [.ref 1], [], some 1, tw_born (fun _ _ => 0) 1)
def tw_sA : tw_Mem := match tw_cA with
  | some r => r.2.2
  | none => fun _ _ => 0
def tw_cB : Option tw_Ret := tw_evg 2000 20 183 (0, tw_ent 183 [.ref 88], [], some 88, tw_born tw_sA 88)
def tw_sB : tw_Mem := match tw_cB with
  | some r => r.2.2
  | none => fun _ _ => 0
set_option maxRecDepth 100000 in
theorem tw_cA_ok : tw_cA.map (fun r => (r.1, r.2.1)) = some (none, some 87) := by decide +kernel
set_option maxRecDepth 100000 in
theorem tw_cB_ok : tw_cB.map (fun r => (r.1, r.2.1)) = some (none, some 119) := by decide +kernel
theorem tw_cA_eq : tw_cA = some (none, some 87, tw_sA) := by
  have h := tw_cA_ok
  unfold tw_sA
  cases hc : tw_cA with
  | none => rw [hc] at h; cases h
  | some r =>
    obtain ⟨r1, r2, r3⟩ := r
    rw [hc] at h
    have h : some (r1, r2) = some (none, some 87) := h
    cases h
    rfl
theorem tw_cB_eq : tw_cB = some (none, some 119, tw_sB) := by
  have h := tw_cB_ok
  unfold tw_sB
  cases hc : tw_cB with
  | none => rw [hc] at h; cases h
  | some r =>
    obtain ⟨r1, r2, r3⟩ := r
    rw [hc] at h
    have h : some (r1, r2) = some (none, some 119) := h
    cases h
    rfl
set_option maxRecDepth 100000 in
theorem tw_sB_full0 : (List.range (tw_NC + 1)).all (fun k => (List.range (tw_kdL.getD k []).length).all (fun j => !(Nat.beq (tw_kd k j).1 1) || !(decide (tw_sB k j = 0)))) = true := by decide +kernel
theorem tw_sB_full : tw_full tw_sB := by
  intro k hk j hj h0
  have hl : j < (tw_kdL.getD k []).length := by
    rcases Nat.lt_or_ge j (tw_kdL.getD k []).length with h | h
    · exact h
    · unfold tw_kd at hj
      rw [List.getD_eq_getElem?_getD, List.getElem?_eq_none h] at hj
      cases hj
  have h1 := List.all_eq_true.mp (List.all_eq_true.mp tw_sB_full0 k (List.mem_range.mpr (by omega))) j (List.mem_range.mpr hl)
  rw [hj, h0] at h1
  exact absurd h1 (by decide)
set_option maxRecDepth 100000 in
theorem tw_sB_vals : ([(6, 4), (89, 0), (9, 3), (9, 4), (90, 0), (13, 4), (2, 1), (88, 17), (4, 1), (88, 37), (79, 1), (88, 32), (117, 0), (117, 1), (117, 2), (117, 3), (1, 9), (88, 11)].all (fun q => decide (tw_sB q.1 q.2 = nI 0)) && decide (tw_sB 99 0 = nI 105) && (List.range 4).all (fun l => decide (tw_sB 87 l = (-1))) && (List.range 80).all (fun j => decide (tw_sB 113 j = nI 0) && decide (tw_sB 14 j = nI 0) && decide (tw_sB 46 j = nI 0) && decide (tw_sB 72 j = nI 0))) = true := by decide +kernel
theorem tw_Inv0 : tw_Inv tw_sB := by
  have h := tw_sB_vals
  simp only [Bool.and_eq_true, decide_eq_true_eq] at h
  obtain ⟨⟨⟨h1, h2⟩, h3⟩, h4⟩ := h
  have hz : ∀ k j, (k, j) ∈ ([(6, 4), (89, 0), (9, 3), (9, 4), (90, 0), (13, 4), (2, 1), (88, 17), (4, 1), (88, 37), (79, 1), (88, 32), (117, 0), (117, 1), (117, 2), (117, 3), (1, 9), (88, 11)] : List (Nat × Nat)) → tw_sB k j = nI 0 := fun k j hm => of_decide_eq_true (List.all_eq_true.mp h1 _ hm)
  have hl : ∀ l, l < 4 → tw_sB 87 l = (-1) := fun l hl => of_decide_eq_true (List.all_eq_true.mp h3 l (List.mem_range.mpr hl))
  have hj : ∀ j, j < 80 → ((tw_sB 113 j = nI 0 ∧ tw_sB 14 j = nI 0) ∧ tw_sB 46 j = nI 0) ∧ tw_sB 72 j = nI 0 := fun j hj => by
    have h5 := List.all_eq_true.mp h4 j (List.mem_range.mpr hj)
    simpa only [Bool.and_eq_true, decide_eq_true_eq] using h5
  refine ⟨⟨0, 0, ⟨by decide, by decide⟩, ⟨hz 6 4 (by decide), hz 89 0 (by decide)⟩, ⟨hz 9 3 (by decide), hz 9 4 (by decide), hz 90 0 (by decide)⟩, fun c hc => absurd hc (Nat.not_lt_zero _), fun i hi => absurd hi (Nat.not_lt_zero _), Or.inl ⟨hz 13 4 (by decide), h2⟩⟩, ?_, ?_, ?_, ?_, Or.inl ⟨hz 1 9 (by decide), hz 88 11 (by decide)⟩, ?_, ?_, ?_⟩
  · exact ⟨0, by decide, hz 2 1 (by decide), hz 88 17 (by decide), fun j hj => absurd hj (Nat.not_lt_zero _)⟩
  · exact ⟨0, by decide, hz 4 1 (by decide), hz 88 37 (by decide), fun j hj => absurd hj (Nat.not_lt_zero _)⟩
  · exact ⟨0, by decide, hz 79 1 (by decide), hz 88 32 (by decide), fun j hj => absurd hj (Nat.not_lt_zero _), fun j _ h => (hj j h).1.1.1⟩
  · intro l h
    refine Or.inl ⟨hl l h, ?_⟩
    rcases (show l = 0 ∨ l = 1 ∨ l = 2 ∨ l = 3 by omega) with rfl | rfl | rfl | rfl <;> exact hz _ _ (by decide)
  · exact fun j h => ⟨0, by decide, (hj j h).1.1.2⟩
  · exact fun j h => ⟨0, by decide, (hj j h).1.2⟩
  · exact fun j h => ⟨0, by decide, (hj j h).2⟩
end
section
/-! small methods -/
section tw_s24
variable {L : Nat} {xs : Nat → Int32} {σ : tw_Mem} {x y w : Int32} {n r i c k h q a b e : Nat}
set_option maxHeartbeats 4000000 in
set_option maxRecDepth 100000 in
theorem tw_e_in  : tw_E L xs 0 182 [.int x, .int y, .int w] σ (fun v σ1 => v = some (.int (if x < y ∨ w < x then nI 0 else nI 1)) ∧ σ = σ1) := by
  show tw_P L xs _ 182 0 [.int x, .int y, .int w] [] σ _
  refine tw_sg 2 (i1 := 2) (ls1 := [.int x, .int y, .int w]) (st1 := [.int y, .int x]) (σ1 := σ) rfl ?_
  refine tw_bi (c := .lt) rfl (fun h1 => ?_) (fun h1 => ?_)
  · rw [tw_clt] at h1
    refine tw_sg 1 (i1 := 9) (ls1 := [.int x, .int y, .int w]) (st1 := [.int (nI 0)]) (σ1 := σ) rfl ?_
    refine tw_ri rfl (rfl) ?_
    exact ⟨by first | (simp [*]; done) | (split <;> first | rfl | (rename_i g; rcases g with g | g <;> contradiction)), rfl⟩
  · rw [tw_clt'] at h1
    refine tw_sg 2 (i1 := 5) (ls1 := [.int x, .int y, .int w]) (st1 := [.int w, .int x]) (σ1 := σ) rfl ?_
    refine tw_bi (c := .gt) rfl (fun h2 => ?_) (fun h2 => ?_)
    · rw [tw_cgt] at h2
      refine tw_sg 1 (i1 := 9) (ls1 := [.int x, .int y, .int w]) (st1 := [.int (nI 0)]) (σ1 := σ) rfl ?_
      refine tw_ri rfl (rfl) ?_
      exact ⟨by first | (simp [*]; done) | (split <;> first | rfl | (rename_i g; rcases g with g | g <;> contradiction)), rfl⟩
    · rw [tw_cgt'] at h2
      refine tw_sg 2 (i1 := 9) (ls1 := [.int x, .int y, .int w]) (st1 := [.int (nI 1)]) (σ1 := σ) rfl ?_
      refine tw_ri rfl (rfl) ?_
      exact ⟨by first | (simp [*]; done) | (split <;> first | rfl | (rename_i g; rcases g with g | g <;> contradiction)), rfl⟩
set_option maxHeartbeats 4000000 in
set_option maxRecDepth 100000 in
theorem tw_e_in1 (h1 : ¬ x < y) (h2 : ¬ w < x) : tw_E L xs 0 182 [.int x, .int y, .int w] σ (fun v σ1 => v = some (.int (nI 1)) ∧ σ = σ1) := by
  show tw_P L xs _ 182 0 [.int x, .int y, .int w] [] σ _
  refine tw_sg 2 (i1 := 2) (ls1 := [.int x, .int y, .int w]) (st1 := [.int y, .int x]) (σ1 := σ) rfl ?_
  refine tw_biF (c := .lt) rfl (by rw [tw_clt']; exact h1) ?_
  show tw_P L xs _ 182 3 [.int x, .int y, .int w] [] σ _
  refine tw_sg 2 (i1 := 5) (ls1 := [.int x, .int y, .int w]) (st1 := [.int w, .int x]) (σ1 := σ) rfl ?_
  refine tw_biF (c := .gt) rfl (by rw [tw_cgt']; exact h2) ?_
  show tw_P L xs _ 182 6 [.int x, .int y, .int w] [] σ _
  refine tw_sg 2 (i1 := 9) (ls1 := [.int x, .int y, .int w]) (st1 := [.int (nI 1)]) (σ1 := σ) rfl ?_
  refine tw_ri rfl (rfl) ?_
  exact ⟨rfl, rfl⟩
set_option maxHeartbeats 4000000 in
set_option maxRecDepth 100000 in
theorem tw_e_in0a (h1 : x < y) : tw_E L xs 0 182 [.int x, .int y, .int w] σ (fun v σ1 => v = some (.int (nI 0)) ∧ σ = σ1) := by
  show tw_P L xs _ 182 0 [.int x, .int y, .int w] [] σ _
  refine tw_sg 2 (i1 := 2) (ls1 := [.int x, .int y, .int w]) (st1 := [.int y, .int x]) (σ1 := σ) rfl ?_
  refine tw_biT (c := .lt) rfl (by rw [tw_clt]; exact h1) ?_
  show tw_P L xs _ 182 8 [.int x, .int y, .int w] [] σ _
  refine tw_sg 1 (i1 := 9) (ls1 := [.int x, .int y, .int w]) (st1 := [.int (nI 0)]) (σ1 := σ) rfl ?_
  refine tw_ri rfl (rfl) ?_
  exact ⟨rfl, rfl⟩
set_option maxHeartbeats 4000000 in
set_option maxRecDepth 100000 in
theorem tw_e_in0b (h1 : ¬ x < y) (h2 : w < x) : tw_E L xs 0 182 [.int x, .int y, .int w] σ (fun v σ1 => v = some (.int (nI 0)) ∧ σ = σ1) := by
  show tw_P L xs _ 182 0 [.int x, .int y, .int w] [] σ _
  refine tw_sg 2 (i1 := 2) (ls1 := [.int x, .int y, .int w]) (st1 := [.int y, .int x]) (σ1 := σ) rfl ?_
  refine tw_biF (c := .lt) rfl (by rw [tw_clt']; exact h1) ?_
  show tw_P L xs _ 182 3 [.int x, .int y, .int w] [] σ _
  refine tw_sg 2 (i1 := 5) (ls1 := [.int x, .int y, .int w]) (st1 := [.int w, .int x]) (σ1 := σ) rfl ?_
  refine tw_biT (c := .gt) rfl (by rw [tw_cgt]; exact h2) ?_
  show tw_P L xs _ 182 8 [.int x, .int y, .int w] [] σ _
  refine tw_sg 1 (i1 := 9) (ls1 := [.int x, .int y, .int w]) (st1 := [.int (nI 0)]) (σ1 := σ) rfl ?_
  refine tw_ri rfl (rfl) ?_
  exact ⟨rfl, rfl⟩
set_option maxHeartbeats 4000000 in
set_option maxRecDepth 100000 in
theorem tw_e_isColour  : tw_E L xs 0 177 [.int x] σ (fun v σ1 => v = some (.int (if x < nI 0 ∨ nI 10 ≤ x then nI 0 else nI 1)) ∧ σ = σ1) := by
  show tw_P L xs _ 177 0 [.int x] [] σ _
  refine tw_sg 1 (i1 := 1) (ls1 := [.int x]) (st1 := [.int x]) (σ1 := σ) rfl ?_
  refine tw_bz (c := .lt) rfl (fun h1 => ?_) (fun h1 => ?_)
  · rw [tw_clt] at h1
    refine tw_sg 1 (i1 := 8) (ls1 := [.int x]) (st1 := [.int (nI 0)]) (σ1 := σ) rfl ?_
    refine tw_ri rfl (rfl) ?_
    exact ⟨by first | (simp [*]; done) | (split <;> first | rfl | (rename_i g; rcases g with g | g <;> contradiction)), rfl⟩
  · rw [tw_clt'] at h1
    refine tw_sg 2 (i1 := 4) (ls1 := [.int x]) (st1 := [.int (nI 10), .int x]) (σ1 := σ) rfl ?_
    refine tw_bi (c := .ge) rfl (fun h2 => ?_) (fun h2 => ?_)
    · rw [tw_cge] at h2
      refine tw_sg 1 (i1 := 8) (ls1 := [.int x]) (st1 := [.int (nI 0)]) (σ1 := σ) rfl ?_
      refine tw_ri rfl (rfl) ?_
      exact ⟨by first | (simp [*]; done) | (split <;> first | rfl | (rename_i g; rcases g with g | g <;> contradiction)), rfl⟩
    · rw [tw_cge'] at h2
      refine tw_sg 2 (i1 := 8) (ls1 := [.int x]) (st1 := [.int (nI 1)]) (σ1 := σ) rfl ?_
      refine tw_ri rfl (rfl) ?_
      exact ⟨by first | (simp [*]; done) | (split <;> first | rfl | (rename_i g; rcases g with g | g <;> contradiction)), rfl⟩
set_option maxHeartbeats 4000000 in
set_option maxRecDepth 100000 in
theorem tw_e_isTurning  : tw_E L xs 0 178 [.int x] σ (fun v σ1 => v = some (.int (if x < nI 0 ∨ nI 3 < x then nI 0 else nI 1)) ∧ σ = σ1) := by
  show tw_P L xs _ 178 0 [.int x] [] σ _
  refine tw_sg 1 (i1 := 1) (ls1 := [.int x]) (st1 := [.int x]) (σ1 := σ) rfl ?_
  refine tw_bz (c := .lt) rfl (fun h1 => ?_) (fun h1 => ?_)
  · rw [tw_clt] at h1
    refine tw_sg 1 (i1 := 8) (ls1 := [.int x]) (st1 := [.int (nI 0)]) (σ1 := σ) rfl ?_
    refine tw_ri rfl (rfl) ?_
    exact ⟨by first | (simp [*]; done) | (split <;> first | rfl | (rename_i g; rcases g with g | g <;> contradiction)), rfl⟩
  · rw [tw_clt'] at h1
    refine tw_sg 2 (i1 := 4) (ls1 := [.int x]) (st1 := [.int (nI 3), .int x]) (σ1 := σ) rfl ?_
    refine tw_bi (c := .gt) rfl (fun h2 => ?_) (fun h2 => ?_)
    · rw [tw_cgt] at h2
      refine tw_sg 1 (i1 := 8) (ls1 := [.int x]) (st1 := [.int (nI 0)]) (σ1 := σ) rfl ?_
      refine tw_ri rfl (rfl) ?_
      exact ⟨by first | (simp [*]; done) | (split <;> first | rfl | (rename_i g; rcases g with g | g <;> contradiction)), rfl⟩
    · rw [tw_cgt'] at h2
      refine tw_sg 2 (i1 := 8) (ls1 := [.int x]) (st1 := [.int (nI 1)]) (σ1 := σ) rfl ?_
      refine tw_ri rfl (rfl) ?_
      exact ⟨by first | (simp [*]; done) | (split <;> first | rfl | (rename_i g; rcases g with g | g <;> contradiction)), rfl⟩
set_option maxHeartbeats 4000000 in
set_option maxRecDepth 100000 in
theorem tw_e_isTooTwisted  : tw_E L xs 0 181 [.int x] σ (fun v σ1 => v = some (.int (if x < (-99) ∨ ¬ x ≤ nI 99 then nI 1 else nI 0)) ∧ σ = σ1) := by
  show tw_P L xs _ 181 0 [.int x] [] σ _
  refine tw_sg 2 (i1 := 2) (ls1 := [.int x]) (st1 := [.int (-99), .int x]) (σ1 := σ) rfl ?_
  refine tw_bi (c := .lt) rfl (fun h1 => ?_) (fun h1 => ?_)
  · rw [tw_clt] at h1
    refine tw_sg 2 (i1 := 9) (ls1 := [.int x]) (st1 := [.int (nI 1)]) (σ1 := σ) rfl ?_
    refine tw_ri rfl (rfl) ?_
    exact ⟨by first | (simp [*]; done) | (split <;> first | rfl | (rename_i g; rcases g with g | g <;> contradiction)), rfl⟩
  · rw [tw_clt'] at h1
    refine tw_sg 2 (i1 := 5) (ls1 := [.int x]) (st1 := [.int (nI 99), .int x]) (σ1 := σ) rfl ?_
    refine tw_bi (c := .le) rfl (fun h2 => ?_) (fun h2 => ?_)
    · rw [tw_cle] at h2
      refine tw_sg 1 (i1 := 9) (ls1 := [.int x]) (st1 := [.int (nI 0)]) (σ1 := σ) rfl ?_
      refine tw_ri rfl (rfl) ?_
      exact ⟨by first | (simp [*]; done) | (split <;> first | rfl | (rename_i g; rcases g with g | g <;> contradiction)), rfl⟩
    · rw [tw_cle'] at h2
      refine tw_sg 2 (i1 := 9) (ls1 := [.int x]) (st1 := [.int (nI 1)]) (σ1 := σ) rfl ?_
      refine tw_ri rfl (rfl) ?_
      exact ⟨by first | (simp [*]; done) | (split <;> first | rfl | (rename_i g; rcases g with g | g <;> contradiction)), rfl⟩
set_option maxHeartbeats 4000000 in
set_option maxRecDepth 100000 in
theorem tw_e_max  : tw_E L xs 0 262 [.int x, .int y] σ (fun v σ1 => v = some (.int (if x < y then y else x)) ∧ σ = σ1) := by
  show tw_P L xs _ 262 0 [.int x, .int y] [] σ _
  refine tw_sg 2 (i1 := 2) (ls1 := [.int x, .int y]) (st1 := [.int y, .int x]) (σ1 := σ) rfl ?_
  refine tw_bi (c := .lt) rfl (fun h1 => ?_) (fun h1 => ?_)
  · rw [tw_clt] at h1
    refine tw_sg 1 (i1 := 6) (ls1 := [.int x, .int y]) (st1 := [.int y]) (σ1 := σ) rfl ?_
    refine tw_ri rfl (rfl) ?_
    exact ⟨by first | (simp [*]; done) | (split <;> first | rfl | (rename_i g; rcases g with g | g <;> contradiction)), rfl⟩
  · rw [tw_clt'] at h1
    refine tw_sg 2 (i1 := 6) (ls1 := [.int x, .int y]) (st1 := [.int x]) (σ1 := σ) rfl ?_
    refine tw_ri rfl (rfl) ?_
    exact ⟨by first | (simp [*]; done) | (split <;> first | rfl | (rename_i g; rcases g with g | g <;> contradiction)), rfl⟩
set_option maxHeartbeats 4000000 in
set_option maxRecDepth 100000 in
theorem tw_e_min  : tw_E L xs 0 263 [.int x, .int y] σ (fun v σ1 => v = some (.int (if y < x then y else x)) ∧ σ = σ1) := by
  show tw_P L xs _ 263 0 [.int x, .int y] [] σ _
  refine tw_sg 2 (i1 := 2) (ls1 := [.int x, .int y]) (st1 := [.int y, .int x]) (σ1 := σ) rfl ?_
  refine tw_bi (c := .gt) rfl (fun h1 => ?_) (fun h1 => ?_)
  · rw [tw_cgt] at h1
    refine tw_sg 1 (i1 := 6) (ls1 := [.int x, .int y]) (st1 := [.int y]) (σ1 := σ) rfl ?_
    refine tw_ri rfl (rfl) ?_
    exact ⟨by first | (simp [*]; done) | (split <;> first | rfl | (rename_i g; rcases g with g | g <;> contradiction)), rfl⟩
  · rw [tw_cgt'] at h1
    refine tw_sg 2 (i1 := 6) (ls1 := [.int x, .int y]) (st1 := [.int x]) (σ1 := σ) rfl ?_
    refine tw_ri rfl (rfl) ?_
    exact ⟨by first | (simp [*]; done) | (split <;> first | rfl | (rename_i g; rcases g with g | g <;> contradiction)), rfl⟩
set_option maxHeartbeats 4000000 in
set_option maxRecDepth 100000 in
theorem tw_e_abs  : tw_E L xs 0 261 [.int x] σ (fun v σ1 => v = some (.int (if nI 0 ≤ x then x else -x)) ∧ σ = σ1) := by
  show tw_P L xs _ 261 0 [.int x] [] σ _
  refine tw_sg 1 (i1 := 1) (ls1 := [.int x]) (st1 := [.int x]) (σ1 := σ) rfl ?_
  refine tw_bz (c := .ge) rfl (fun h1 => ?_) (fun h1 => ?_)
  · rw [tw_cge] at h1
    refine tw_sg 1 (i1 := 6) (ls1 := [.int x]) (st1 := [.int x]) (σ1 := σ) rfl ?_
    refine tw_ri rfl (rfl) ?_
    exact ⟨by first | (simp [*]; done) | (split <;> first | rfl | (rename_i g; rcases g with g | g <;> contradiction)), rfl⟩
  · rw [tw_cge'] at h1
    refine tw_sg 3 (i1 := 6) (ls1 := [.int x]) (st1 := [.int (-x)]) (σ1 := σ) rfl ?_
    refine tw_ri rfl (rfl) ?_
    exact ⟨by first | (simp [*]; done) | (split <;> first | rfl | (rename_i g; rcases g with g | g <;> contradiction)), rfl⟩
set_option maxHeartbeats 4000000 in
set_option maxRecDepth 100000 in
theorem tw_e_mIsColour  : tw_E L xs 1 186 [.int x] σ (fun v σ1 => v = some (.int (if x < nI 0 ∨ nI 9 < x then nI 0 else nI 1)) ∧ σ = σ1) := by
  show tw_P L xs _ 186 0 [.int x] [] σ _
  refine tw_sg 3 (i1 := 3) (ls1 := [.int x]) (st1 := [.int (nI 9), .int (nI 0), .int x]) (σ1 := σ) rfl ?_
  refine tw_cl1 rfl (rfl) (by decide) (tw_e_in) ?_
  rintro _ _ ⟨rfl, rfl⟩
  show tw_P L xs _ 186 4 [.int x] [.int (if x < nI 0 ∨ nI 9 < x then nI 0 else nI 1)] σ _
  refine tw_ri rfl (by split <;> rfl) ?_
  exact ⟨rfl, rfl⟩
theorem tw_e_maxN {a b : Nat} (ha : a < 2147483648) (hb : b < 2147483648) : tw_E L xs 0 262 [.int (nI a), .int (nI b)] σ (fun v σ1 => v = some (.int (nI (max a b))) ∧ σ = σ1) := by
  refine tw_E_mono tw_e_max (fun v σ1 h => ⟨?_, h.2⟩)
  rw [h.1]
  by_cases h0 : a < b
  · rw [if_pos (by rw [tw_nlt ha hb]; exact h0), Nat.max_eq_right (by omega)]
  · rw [if_neg (by rw [tw_nlt ha hb]; exact h0), Nat.max_eq_left (by omega)]
theorem tw_e_minN {a b : Nat} (ha : a < 2147483648) (hb : b < 2147483648) : tw_E L xs 0 263 [.int (nI a), .int (nI b)] σ (fun v σ1 => v = some (.int (nI (min a b))) ∧ σ = σ1) := by
  refine tw_E_mono tw_e_min (fun v σ1 h => ⟨?_, h.2⟩)
  rw [h.1]
  by_cases h0 : b < a
  · rw [if_pos (by rw [tw_nlt hb ha]; exact h0), Nat.min_eq_right (by omega)]
  · rw [if_neg (by rw [tw_nlt hb ha]; exact h0), Nat.min_eq_left (by omega)]
/-- one less than a number, against any other -/
theorem tw_lt_pred {x : Int32} (hn : n < 2147483648) (hx : ¬ x < nI 0) : (nI n - nI 1 < x) = (nI n ≤ x) := by
  rcases tw_nany x with h | ⟨a, ha, rfl⟩
  · exact absurd h hx
  · by_cases h0 : n = 0
    · subst h0
      have e : nI 0 - nI 1 < nI 0 := by decide
      rw [tw_nle (by decide) ha]
      exact propext ⟨fun _ => Nat.zero_le _, fun _ => tw_neg_lt e ha⟩
    · rw [tw_nsub (by omega), tw_nlt (by omega) ha, tw_nle hn ha]
      exact propext (by omega)
theorem tw_e_inN1 (ha : a < n) (hn : n < 2147483648) : tw_E L xs 0 182 [.int (nI a), .int (nI 0), .int (nI n - nI 1)] σ (fun v σ1 => v = some (.int (nI 1)) ∧ σ = σ1) :=
  tw_e_in1 (tw_nge0 (by omega)) (by rw [tw_lt_pred hn (tw_nge0 (by omega)), tw_nle hn (by omega)]; omega)
theorem tw_e_inN0 (hn : n < 2147483648) (hx : x < nI 0 ∨ (¬ x < nI 0 ∧ nI n ≤ x)) : tw_E L xs 0 182 [.int x, .int (nI 0), .int (nI n - nI 1)] σ (fun v σ1 => v = some (.int (nI 0)) ∧ σ = σ1) := by
  rcases hx with hx | ⟨hx, hy⟩
  · exact tw_e_in0a hx
  · exact tw_e_in0b hx (by rw [tw_lt_pred hn hx]; exact hy)
set_option maxHeartbeats 4000000 in
set_option maxRecDepth 100000 in
theorem tw_e_isCard1 (hn : σ 89 0 = nI n) (hle : n ≤ 10) (ha : a < n) : tw_E L xs 1 184 [.ref 88, .int (nI a)] σ (fun v σ1 => v = some (.int (nI 1)) ∧ σ = σ1) := by
  show tw_P L xs _ 184 0 [.ref 88, .int (nI a)] [] σ _
  refine tw_sg 5 (i1 := 5) (ls1 := [.ref 88, .int (nI a)]) (st1 := [.int (nI 0), .ref 89, .int (nI 0), .int (nI a)]) (σ1 := σ) rfl ?_
  refine tw_al (k := 89) (j := 0) (len := 2) rfl rfl rfl rfl (rfl) (by omega) (by decide) ?_
  rw [hn]
  refine tw_sg 2 (i1 := 8) (ls1 := [.ref 88, .int (nI a)]) (st1 := [.int (nI n - nI 1), .int (nI 0), .int (nI a)]) (σ1 := σ) rfl ?_
  refine tw_cl1 rfl (rfl) (by decide) (tw_e_inN1 ha (by omega)) ?_
  rintro _ _ ⟨rfl, rfl⟩
  show tw_P L xs _ 184 9 [.ref 88, .int (nI a)] [.int (nI 1)] σ _
  refine tw_ri rfl (rfl) ?_
  exact ⟨rfl, rfl⟩
set_option maxHeartbeats 4000000 in
set_option maxRecDepth 100000 in
theorem tw_e_isCard0 (hn : σ 89 0 = nI n) (hle : n ≤ 10) (hx : x < nI 0 ∨ (¬ x < nI 0 ∧ nI n ≤ x)) : tw_E L xs 1 184 [.ref 88, .int x] σ (fun v σ1 => v = some (.int (nI 0)) ∧ σ = σ1) := by
  show tw_P L xs _ 184 0 [.ref 88, .int x] [] σ _
  refine tw_sg 5 (i1 := 5) (ls1 := [.ref 88, .int x]) (st1 := [.int (nI 0), .ref 89, .int (nI 0), .int x]) (σ1 := σ) rfl ?_
  refine tw_al (k := 89) (j := 0) (len := 2) rfl rfl rfl rfl (rfl) (by omega) (by decide) ?_
  rw [hn]
  refine tw_sg 2 (i1 := 8) (ls1 := [.ref 88, .int x]) (st1 := [.int (nI n - nI 1), .int (nI 0), .int x]) (σ1 := σ) rfl ?_
  refine tw_cl1 rfl (rfl) (by decide) (tw_e_inN0 (by omega) hx) ?_
  rintro _ _ ⟨rfl, rfl⟩
  show tw_P L xs _ 184 9 [.ref 88, .int x] [.int (nI 0)] σ _
  refine tw_ri rfl (rfl) ?_
  exact ⟨rfl, rfl⟩
set_option maxHeartbeats 4000000 in
set_option maxRecDepth 100000 in
theorem tw_e_isRow1 (hr : σ 90 0 = nI r) (hle : r ≤ 50) (ha : a < r) : tw_E L xs 1 185 [.ref 88, .int (nI a)] σ (fun v σ1 => v = some (.int (nI 1)) ∧ σ = σ1) := by
  show tw_P L xs _ 185 0 [.ref 88, .int (nI a)] [] σ _
  refine tw_sg 5 (i1 := 5) (ls1 := [.ref 88, .int (nI a)]) (st1 := [.int (nI 0), .ref 90, .int (nI 0), .int (nI a)]) (σ1 := σ) rfl ?_
  refine tw_al (k := 90) (j := 0) (len := 2) rfl rfl rfl rfl (rfl) (by omega) (by decide) ?_
  rw [hr]
  refine tw_sg 2 (i1 := 8) (ls1 := [.ref 88, .int (nI a)]) (st1 := [.int (nI r - nI 1), .int (nI 0), .int (nI a)]) (σ1 := σ) rfl ?_
  refine tw_cl1 rfl (rfl) (by decide) (tw_e_inN1 ha (by omega)) ?_
  rintro _ _ ⟨rfl, rfl⟩
  show tw_P L xs _ 185 9 [.ref 88, .int (nI a)] [.int (nI 1)] σ _
  refine tw_ri rfl (rfl) ?_
  exact ⟨rfl, rfl⟩
set_option maxHeartbeats 4000000 in
set_option maxRecDepth 100000 in
theorem tw_e_isRow0 (hr : σ 90 0 = nI r) (hle : r ≤ 50) (hx : x < nI 0 ∨ (¬ x < nI 0 ∧ nI r ≤ x)) : tw_E L xs 1 185 [.ref 88, .int x] σ (fun v σ1 => v = some (.int (nI 0)) ∧ σ = σ1) := by
  show tw_P L xs _ 185 0 [.ref 88, .int x] [] σ _
  refine tw_sg 5 (i1 := 5) (ls1 := [.ref 88, .int x]) (st1 := [.int (nI 0), .ref 90, .int (nI 0), .int x]) (σ1 := σ) rfl ?_
  refine tw_al (k := 90) (j := 0) (len := 2) rfl rfl rfl rfl (rfl) (by omega) (by decide) ?_
  rw [hr]
  refine tw_sg 2 (i1 := 8) (ls1 := [.ref 88, .int x]) (st1 := [.int (nI r - nI 1), .int (nI 0), .int x]) (σ1 := σ) rfl ?_
  refine tw_cl1 rfl (rfl) (by decide) (tw_e_inN0 (by omega) hx) ?_
  rintro _ _ ⟨rfl, rfl⟩
  show tw_P L xs _ 185 9 [.ref 88, .int x] [.int (nI 0)] σ _
  refine tw_ri rfl (rfl) ?_
  exact ⟨rfl, rfl⟩
set_option maxHeartbeats 4000000 in
set_option maxRecDepth 100000 in
theorem tw_e_hasRow1 (hr : σ 9 3 = nI r) (hle : r ≤ 50) (hi : i < r) : tw_E L xs 0 20 [.ref 9, .int (nI i)] σ (fun v σ1 => v = some (.int (nI 1)) ∧ σ = σ1) := by
  show tw_P L xs _ 20 0 [.ref 9, .int (nI i)] [] σ _
  refine tw_sg 1 (i1 := 1) (ls1 := [.ref 9, .int (nI i)]) (st1 := [.int (nI i)]) (σ1 := σ) rfl ?_
  refine tw_bzF (c := .lt) rfl (by rw [tw_clt', tw_nlt (by omega) (by omega)] <;> omega) ?_
  show tw_P L xs _ 20 2 [.ref 9, .int (nI i)] [] σ _
  refine tw_sgn 3 (i1 := 5) (ls0 := [.ref 9, .int (nI i)]) (st0 := [.int (σ 9 3), .int (nI i)]) (σ0 := σ) (ls1 := [.ref 9, .int (nI i)]) (st1 := [.int (nI r), .int (nI i)]) (σ1 := σ) rfl (rfl) (by simp only [hr, tw_nadd, tw_nmul]) (rfl) ?_
  refine tw_biF (c := .ge) rfl (by rw [tw_cge', tw_nle (by omega) (by omega)] <;> omega) ?_
  show tw_P L xs _ 20 6 [.ref 9, .int (nI i)] [] σ _
  refine tw_sg 2 (i1 := 9) (ls1 := [.ref 9, .int (nI i)]) (st1 := [.int (nI 1)]) (σ1 := σ) rfl ?_
  refine tw_ri rfl (rfl) ?_
  exact ⟨rfl, rfl⟩
set_option maxHeartbeats 4000000 in
set_option maxRecDepth 100000 in
theorem tw_e_hasRow0a (hx : x < nI 0) : tw_E L xs 0 20 [.ref 9, .int x] σ (fun v σ1 => v = some (.int (nI 0)) ∧ σ = σ1) := by
  show tw_P L xs _ 20 0 [.ref 9, .int x] [] σ _
  refine tw_sg 1 (i1 := 1) (ls1 := [.ref 9, .int x]) (st1 := [.int x]) (σ1 := σ) rfl ?_
  refine tw_bzT (c := .lt) rfl (by rw [tw_clt]; exact hx) ?_
  show tw_P L xs _ 20 8 [.ref 9, .int x] [] σ _
  refine tw_sg 1 (i1 := 9) (ls1 := [.ref 9, .int x]) (st1 := [.int (nI 0)]) (σ1 := σ) rfl ?_
  refine tw_ri rfl (rfl) ?_
  exact ⟨rfl, rfl⟩
set_option maxHeartbeats 4000000 in
set_option maxRecDepth 100000 in
theorem tw_e_hasRow0b (hr : σ 9 3 = nI r) (hx : ¬ x < nI 0) (hy : nI r ≤ x) : tw_E L xs 0 20 [.ref 9, .int x] σ (fun v σ1 => v = some (.int (nI 0)) ∧ σ = σ1) := by
  show tw_P L xs _ 20 0 [.ref 9, .int x] [] σ _
  refine tw_sg 1 (i1 := 1) (ls1 := [.ref 9, .int x]) (st1 := [.int x]) (σ1 := σ) rfl ?_
  refine tw_bzF (c := .lt) rfl (by rw [tw_clt']; exact hx) ?_
  show tw_P L xs _ 20 2 [.ref 9, .int x] [] σ _
  refine tw_sgn 3 (i1 := 5) (ls0 := [.ref 9, .int x]) (st0 := [.int (σ 9 3), .int x]) (σ0 := σ) (ls1 := [.ref 9, .int x]) (st1 := [.int (nI r), .int x]) (σ1 := σ) rfl (rfl) (by simp only [hr, tw_nadd, tw_nmul]) (rfl) ?_
  refine tw_biT (c := .ge) rfl (by rw [tw_cge]; exact hy) ?_
  show tw_P L xs _ 20 8 [.ref 9, .int x] [] σ _
  refine tw_sg 1 (i1 := 9) (ls1 := [.ref 9, .int x]) (st1 := [.int (nI 0)]) (σ1 := σ) rfl ?_
  refine tw_ri rfl (rfl) ?_
  exact ⟨rfl, rfl⟩
end tw_s24
end
section
/-! the rows: front, back, lean, turning -/
section tw_s25
variable {L : Nat} {xs : Nat → Int32} {σ : tw_Mem} {x y w : Int32} {n r i c k h q a b e : Nat}
set_option maxHeartbeats 4000000 in
set_option maxRecDepth 100000 in
theorem tw_e_cell1 (hr9 : σ 9 3 = nI r) (hw9 : σ 9 4 = nI n) (h50 : r ≤ 50) (h10 : n ≤ 10) (hi : i < r) (hc : c < n) (hq : q < 4) : tw_E L xs 2 21 [.ref 9, .int (nI i), .int (nI c), .int (nI q)] σ (fun v σ1 => v = some (.int (σ 10 ((i * 10 + c) * 4 + q))) ∧ σ = σ1) := by
  show tw_P L xs _ 21 0 [.ref 9, .int (nI i), .int (nI c), .int (nI q), tw_U] [] σ _
  refine tw_sg 2 (i1 := 2) (ls1 := [.ref 9, .int (nI i), .int (nI c), .int (nI q), tw_U]) (st1 := [.int (nI i), .ref 9]) (σ1 := σ) rfl ?_
  refine tw_cl1 rfl (rfl) (by decide) (tw_e_hasRow1 hr9 h50 hi) ?_
  rintro _ _ ⟨rfl, rfl⟩
  show tw_P L xs _ 21 3 [.ref 9, .int (nI i), .int (nI c), .int (nI q), tw_U] [.int (nI 1)] σ _
  refine tw_bzF (c := .eq) rfl (by rw [tw_ceq', tw_neq (by omega) (by omega)] <;> omega) ?_
  show tw_P L xs _ 21 4 [.ref 9, .int (nI i), .int (nI c), .int (nI q), tw_U] [] σ _
  refine tw_sg 1 (i1 := 5) (ls1 := [.ref 9, .int (nI i), .int (nI c), .int (nI q), tw_U]) (st1 := [.int (nI c)]) (σ1 := σ) rfl ?_
  refine tw_bzF (c := .lt) rfl (by rw [tw_clt', tw_nlt (by omega) (by omega)] <;> omega) ?_
  show tw_P L xs _ 21 6 [.ref 9, .int (nI i), .int (nI c), .int (nI q), tw_U] [] σ _
  refine tw_sgn 3 (i1 := 9) (ls0 := [.ref 9, .int (nI i), .int (nI c), .int (nI q), tw_U]) (st0 := [.int (σ 9 4), .int (nI c)]) (σ0 := σ) (ls1 := [.ref 9, .int (nI i), .int (nI c), .int (nI q), tw_U]) (st1 := [.int (nI n), .int (nI c)]) (σ1 := σ) rfl (rfl) (by simp only [hw9, tw_nadd, tw_nmul]) (rfl) ?_
  refine tw_biT (c := .lt) rfl (by rw [tw_clt, tw_nlt (by omega) (by omega)] <;> omega) ?_
  show tw_P L xs _ 21 12 [.ref 9, .int (nI i), .int (nI c), .int (nI q), tw_U] [] σ _
  refine tw_sgn 11 (i1 := 23) (ls0 := [.ref 9, .int (nI i), .int (nI c), .int (nI q), .int ((((nI i * nI 10) + nI c) * nI 4) + nI q)]) (st0 := [.int ((((nI i * nI 10) + nI c) * nI 4) + nI q)]) (σ0 := σ) (ls1 := [.ref 9, .int (nI i), .int (nI c), .int (nI q), .int (nI ((((i * 10) + c) * 4) + q))]) (st1 := [.int (nI ((((i * 10) + c) * 4) + q))]) (σ1 := σ) rfl (by simp only [tw_nadd, tw_nmul]) (by simp only [tw_nadd, tw_nmul]) (rfl) ?_
  refine tw_bzF (c := .lt) rfl (by rw [tw_clt', tw_nlt (by omega) (by omega)] <;> omega) ?_
  show tw_P L xs _ 21 24 [.ref 9, .int (nI i), .int (nI c), .int (nI q), .int (nI ((((i * 10) + c) * 4) + q))] [] σ _
  refine tw_sg 4 (i1 := 28) (ls1 := [.ref 9, .int (nI i), .int (nI c), .int (nI q), .int (nI ((((i * 10) + c) * 4) + q))]) (st1 := [.int (nI 2000), .int (nI ((((i * 10) + c) * 4) + q))]) (σ1 := σ) rfl ?_
  refine tw_biF (c := .ge) rfl (by rw [tw_cge', tw_nle (by omega) (by omega)] <;> omega) ?_
  show tw_P L xs _ 21 29 [.ref 9, .int (nI i), .int (nI c), .int (nI q), .int (nI ((((i * 10) + c) * 4) + q))] [] σ _
  refine tw_sg 3 (i1 := 32) (ls1 := [.ref 9, .int (nI i), .int (nI c), .int (nI q), .int (nI ((((i * 10) + c) * 4) + q))]) (st1 := [.int (nI ((((i * 10) + c) * 4) + q)), .ref 10]) (σ1 := σ) rfl ?_
  refine tw_al (k := 10) (j := ((((i * 10) + c) * 4) + q)) (len := 2000) rfl rfl rfl rfl (rfl) (by omega) (by decide) ?_
  refine tw_sg 1 (i1 := 35) (ls1 := [.ref 9, .int (nI i), .int (nI c), .int (nI q), .int (nI ((((i * 10) + c) * 4) + q))]) (st1 := [.int (σ 10 ((((i * 10) + c) * 4) + q))]) (σ1 := σ) rfl ?_
  refine tw_ri rfl (rfl) ?_
  exact ⟨rfl, rfl⟩
theorem tw_e_hasRow0 (hr9 : σ 9 3 = nI r) (hx : x < nI 0 ∨ (¬ x < nI 0 ∧ nI r ≤ x)) : tw_E L xs 0 20 [.ref 9, .int x] σ (fun v σ1 => v = some (.int (nI 0)) ∧ σ = σ1) := by
  rcases hx with hx | ⟨hx, hy⟩
  · exact tw_e_hasRow0a hx
  · exact tw_e_hasRow0b hr9 hx hy
set_option maxHeartbeats 4000000 in
set_option maxRecDepth 100000 in
theorem tw_e_cell0a (hr9 : σ 9 3 = nI r) (hx : x < nI 0 ∨ (¬ x < nI 0 ∧ nI r ≤ x)) : tw_E L xs 2 21 [.ref 9, .int x, .int y, .int w] σ (fun v σ1 => v = some (.int (-1)) ∧ σ = σ1) := by
  show tw_P L xs _ 21 0 [.ref 9, .int x, .int y, .int w, tw_U] [] σ _
  refine tw_sg 2 (i1 := 2) (ls1 := [.ref 9, .int x, .int y, .int w, tw_U]) (st1 := [.int x, .ref 9]) (σ1 := σ) rfl ?_
  refine tw_cl1 rfl (rfl) (by decide) (tw_e_hasRow0 hr9 hx) ?_
  rintro _ _ ⟨rfl, rfl⟩
  show tw_P L xs _ 21 3 [.ref 9, .int x, .int y, .int w, tw_U] [.int (nI 0)] σ _
  refine tw_bzT (c := .eq) rfl (by rw [tw_ceq, tw_neq (by omega) (by omega)] <;> omega) ?_
  show tw_P L xs _ 21 10 [.ref 9, .int x, .int y, .int w, tw_U] [] σ _
  refine tw_sg 1 (i1 := 11) (ls1 := [.ref 9, .int x, .int y, .int w, tw_U]) (st1 := [.int (-1)]) (σ1 := σ) rfl ?_
  refine tw_ri rfl (rfl) ?_
  exact ⟨rfl, rfl⟩
set_option maxHeartbeats 4000000 in
set_option maxRecDepth 100000 in
theorem tw_e_cell0b (hr9 : σ 9 3 = nI r) (hw9 : σ 9 4 = nI n) (h50 : r ≤ 50) (h10 : n ≤ 10) (hi : i < r) (hy : y < nI 0) : tw_E L xs 2 21 [.ref 9, .int (nI i), .int y, .int w] σ (fun v σ1 => v = some (.int (-1)) ∧ σ = σ1) := by
  show tw_P L xs _ 21 0 [.ref 9, .int (nI i), .int y, .int w, tw_U] [] σ _
  refine tw_sg 2 (i1 := 2) (ls1 := [.ref 9, .int (nI i), .int y, .int w, tw_U]) (st1 := [.int (nI i), .ref 9]) (σ1 := σ) rfl ?_
  refine tw_cl1 rfl (rfl) (by decide) (tw_e_hasRow1 hr9 h50 hi) ?_
  rintro _ _ ⟨rfl, rfl⟩
  show tw_P L xs _ 21 3 [.ref 9, .int (nI i), .int y, .int w, tw_U] [.int (nI 1)] σ _
  refine tw_bzF (c := .eq) rfl (by rw [tw_ceq', tw_neq (by omega) (by omega)] <;> omega) ?_
  show tw_P L xs _ 21 4 [.ref 9, .int (nI i), .int y, .int w, tw_U] [] σ _
  refine tw_sg 1 (i1 := 5) (ls1 := [.ref 9, .int (nI i), .int y, .int w, tw_U]) (st1 := [.int y]) (σ1 := σ) rfl ?_
  refine tw_bzT (c := .lt) rfl (by rw [tw_clt]; exact hy) ?_
  show tw_P L xs _ 21 10 [.ref 9, .int (nI i), .int y, .int w, tw_U] [] σ _
  refine tw_sg 1 (i1 := 11) (ls1 := [.ref 9, .int (nI i), .int y, .int w, tw_U]) (st1 := [.int (-1)]) (σ1 := σ) rfl ?_
  refine tw_ri rfl (rfl) ?_
  exact ⟨rfl, rfl⟩
set_option maxHeartbeats 4000000 in
set_option maxRecDepth 100000 in
theorem tw_e_cell0c (hr9 : σ 9 3 = nI r) (hw9 : σ 9 4 = nI n) (h50 : r ≤ 50) (h10 : n ≤ 10) (hi : i < r) (hy : ¬ y < nI 0) (hy2 : nI n ≤ y) : tw_E L xs 2 21 [.ref 9, .int (nI i), .int y, .int w] σ (fun v σ1 => v = some (.int (-1)) ∧ σ = σ1) := by
  show tw_P L xs _ 21 0 [.ref 9, .int (nI i), .int y, .int w, tw_U] [] σ _
  refine tw_sg 2 (i1 := 2) (ls1 := [.ref 9, .int (nI i), .int y, .int w, tw_U]) (st1 := [.int (nI i), .ref 9]) (σ1 := σ) rfl ?_
  refine tw_cl1 rfl (rfl) (by decide) (tw_e_hasRow1 hr9 h50 hi) ?_
  rintro _ _ ⟨rfl, rfl⟩
  show tw_P L xs _ 21 3 [.ref 9, .int (nI i), .int y, .int w, tw_U] [.int (nI 1)] σ _
  refine tw_bzF (c := .eq) rfl (by rw [tw_ceq', tw_neq (by omega) (by omega)] <;> omega) ?_
  show tw_P L xs _ 21 4 [.ref 9, .int (nI i), .int y, .int w, tw_U] [] σ _
  refine tw_sg 1 (i1 := 5) (ls1 := [.ref 9, .int (nI i), .int y, .int w, tw_U]) (st1 := [.int y]) (σ1 := σ) rfl ?_
  refine tw_bzF (c := .lt) rfl (by rw [tw_clt']; exact hy) ?_
  show tw_P L xs _ 21 6 [.ref 9, .int (nI i), .int y, .int w, tw_U] [] σ _
  refine tw_sgn 3 (i1 := 9) (ls0 := [.ref 9, .int (nI i), .int y, .int w, tw_U]) (st0 := [.int (σ 9 4), .int y]) (σ0 := σ) (ls1 := [.ref 9, .int (nI i), .int y, .int w, tw_U]) (st1 := [.int (nI n), .int y]) (σ1 := σ) rfl (rfl) (by simp only [hw9, tw_nadd, tw_nmul]) (rfl) ?_
  refine tw_biF (c := .lt) rfl (by rw [tw_clt']; exact tw_not_lt.mpr hy2) ?_
  show tw_P L xs _ 21 10 [.ref 9, .int (nI i), .int y, .int w, tw_U] [] σ _
  refine tw_sg 1 (i1 := 11) (ls1 := [.ref 9, .int (nI i), .int y, .int w, tw_U]) (st1 := [.int (-1)]) (σ1 := σ) rfl ?_
  refine tw_ri rfl (rfl) ?_
  exact ⟨rfl, rfl⟩
set_option maxHeartbeats 4000000 in
set_option maxRecDepth 100000 in
theorem tw_e_asked1_95 (hn89 : σ 89 0 = nI n) (hr90 : σ 90 0 = nI r) (h50 : r ≤ 50) (h10 : n ≤ 10) (hi : i < r) (hc : c < n) : tw_E L xs 2 214 [.ref 88, .ref 95, .int (nI i), .int (nI c)] σ (fun v σ1 => v = some (.int (σ 95 (10 * i + c))) ∧ σ = σ1) := by
  show tw_P L xs _ 214 0 [.ref 88, .ref 95, .int (nI i), .int (nI c)] [] σ _
  refine tw_sg 2 (i1 := 2) (ls1 := [.ref 88, .ref 95, .int (nI i), .int (nI c)]) (st1 := [.int (nI i), .ref 88]) (σ1 := σ) rfl ?_
  refine tw_cl1 rfl (rfl) (by decide) (tw_e_isRow1 hr90 h50 hi) ?_
  rintro _ _ ⟨rfl, rfl⟩
  show tw_P L xs _ 214 3 [.ref 88, .ref 95, .int (nI i), .int (nI c)] [.int (nI 1)] σ _
  refine tw_bzF (c := .eq) rfl (by rw [tw_ceq', tw_neq (by omega) (by omega)] <;> omega) ?_
  show tw_P L xs _ 214 4 [.ref 88, .ref 95, .int (nI i), .int (nI c)] [] σ _
  refine tw_sg 2 (i1 := 6) (ls1 := [.ref 88, .ref 95, .int (nI i), .int (nI c)]) (st1 := [.int (nI c), .ref 88]) (σ1 := σ) rfl ?_
  refine tw_cl1 rfl (rfl) (by decide) (tw_e_isCard1 hn89 h10 hc) ?_
  rintro _ _ ⟨rfl, rfl⟩
  show tw_P L xs _ 214 7 [.ref 88, .ref 95, .int (nI i), .int (nI c)] [.int (nI 1)] σ _
  refine tw_bzF (c := .eq) rfl (by rw [tw_ceq', tw_neq (by omega) (by omega)] <;> omega) ?_
  show tw_P L xs _ 214 8 [.ref 88, .ref 95, .int (nI i), .int (nI c)] [] σ _
  refine tw_sgn 6 (i1 := 14) (ls0 := [.ref 88, .ref 95, .int (nI i), .int (nI c)]) (st0 := [.int ((nI 10 * nI i) + nI c), .ref 95]) (σ0 := σ) (ls1 := [.ref 88, .ref 95, .int (nI i), .int (nI c)]) (st1 := [.int (nI ((10 * i) + c)), .ref 95]) (σ1 := σ) rfl (rfl) (by simp only [tw_nadd, tw_nmul]) (rfl) ?_
  refine tw_al (k := 95) (j := ((10 * i) + c)) (len := 1000) rfl rfl rfl rfl (rfl) (by omega) (by decide) ?_
  refine tw_sg 1 (i1 := 17) (ls1 := [.ref 88, .ref 95, .int (nI i), .int (nI c)]) (st1 := [.int (σ 95 ((10 * i) + c))]) (σ1 := σ) rfl ?_
  refine tw_ri rfl (rfl) ?_
  exact ⟨rfl, rfl⟩
set_option maxHeartbeats 4000000 in
set_option maxRecDepth 100000 in
theorem tw_e_asked0a_95 (hr90 : σ 90 0 = nI r) (h50 : r ≤ 50) (hx : x < nI 0 ∨ (¬ x < nI 0 ∧ nI r ≤ x)) : tw_E L xs 2 214 [.ref 88, .ref 95, .int x, .int y] σ (fun v σ1 => v = some (.int (-1)) ∧ σ = σ1) := by
  show tw_P L xs _ 214 0 [.ref 88, .ref 95, .int x, .int y] [] σ _
  refine tw_sg 2 (i1 := 2) (ls1 := [.ref 88, .ref 95, .int x, .int y]) (st1 := [.int x, .ref 88]) (σ1 := σ) rfl ?_
  refine tw_cl1 rfl (rfl) (by decide) (tw_e_isRow0 hr90 h50 hx) ?_
  rintro _ _ ⟨rfl, rfl⟩
  show tw_P L xs _ 214 3 [.ref 88, .ref 95, .int x, .int y] [.int (nI 0)] σ _
  refine tw_bzT (c := .eq) rfl (by rw [tw_ceq, tw_neq (by omega) (by omega)] <;> omega) ?_
  show tw_P L xs _ 214 16 [.ref 88, .ref 95, .int x, .int y] [] σ _
  refine tw_sg 1 (i1 := 17) (ls1 := [.ref 88, .ref 95, .int x, .int y]) (st1 := [.int (-1)]) (σ1 := σ) rfl ?_
  refine tw_ri rfl (rfl) ?_
  exact ⟨rfl, rfl⟩
set_option maxHeartbeats 4000000 in
set_option maxRecDepth 100000 in
theorem tw_e_asked0b_95 (hn89 : σ 89 0 = nI n) (hr90 : σ 90 0 = nI r) (h50 : r ≤ 50) (h10 : n ≤ 10) (hi : i < r) (hy : y < nI 0 ∨ (¬ y < nI 0 ∧ nI n ≤ y)) : tw_E L xs 2 214 [.ref 88, .ref 95, .int (nI i), .int y] σ (fun v σ1 => v = some (.int (-1)) ∧ σ = σ1) := by
  show tw_P L xs _ 214 0 [.ref 88, .ref 95, .int (nI i), .int y] [] σ _
  refine tw_sg 2 (i1 := 2) (ls1 := [.ref 88, .ref 95, .int (nI i), .int y]) (st1 := [.int (nI i), .ref 88]) (σ1 := σ) rfl ?_
  refine tw_cl1 rfl (rfl) (by decide) (tw_e_isRow1 hr90 h50 hi) ?_
  rintro _ _ ⟨rfl, rfl⟩
  show tw_P L xs _ 214 3 [.ref 88, .ref 95, .int (nI i), .int y] [.int (nI 1)] σ _
  refine tw_bzF (c := .eq) rfl (by rw [tw_ceq', tw_neq (by omega) (by omega)] <;> omega) ?_
  show tw_P L xs _ 214 4 [.ref 88, .ref 95, .int (nI i), .int y] [] σ _
  refine tw_sg 2 (i1 := 6) (ls1 := [.ref 88, .ref 95, .int (nI i), .int y]) (st1 := [.int y, .ref 88]) (σ1 := σ) rfl ?_
  refine tw_cl1 rfl (rfl) (by decide) (tw_e_isCard0 hn89 h10 hy) ?_
  rintro _ _ ⟨rfl, rfl⟩
  show tw_P L xs _ 214 7 [.ref 88, .ref 95, .int (nI i), .int y] [.int (nI 0)] σ _
  refine tw_bzT (c := .eq) rfl (by rw [tw_ceq, tw_neq (by omega) (by omega)] <;> omega) ?_
  show tw_P L xs _ 214 16 [.ref 88, .ref 95, .int (nI i), .int y] [] σ _
  refine tw_sg 1 (i1 := 17) (ls1 := [.ref 88, .ref 95, .int (nI i), .int y]) (st1 := [.int (-1)]) (σ1 := σ) rfl ?_
  refine tw_ri rfl (rfl) ?_
  exact ⟨rfl, rfl⟩
set_option maxHeartbeats 4000000 in
set_option maxRecDepth 100000 in
theorem tw_e_asked1_96 (hn89 : σ 89 0 = nI n) (hr90 : σ 90 0 = nI r) (h50 : r ≤ 50) (h10 : n ≤ 10) (hi : i < r) (hc : c < n) : tw_E L xs 2 214 [.ref 88, .ref 96, .int (nI i), .int (nI c)] σ (fun v σ1 => v = some (.int (σ 96 (10 * i + c))) ∧ σ = σ1) := by
  show tw_P L xs _ 214 0 [.ref 88, .ref 96, .int (nI i), .int (nI c)] [] σ _
  refine tw_sg 2 (i1 := 2) (ls1 := [.ref 88, .ref 96, .int (nI i), .int (nI c)]) (st1 := [.int (nI i), .ref 88]) (σ1 := σ) rfl ?_
  refine tw_cl1 rfl (rfl) (by decide) (tw_e_isRow1 hr90 h50 hi) ?_
  rintro _ _ ⟨rfl, rfl⟩
  show tw_P L xs _ 214 3 [.ref 88, .ref 96, .int (nI i), .int (nI c)] [.int (nI 1)] σ _
  refine tw_bzF (c := .eq) rfl (by rw [tw_ceq', tw_neq (by omega) (by omega)] <;> omega) ?_
  show tw_P L xs _ 214 4 [.ref 88, .ref 96, .int (nI i), .int (nI c)] [] σ _
  refine tw_sg 2 (i1 := 6) (ls1 := [.ref 88, .ref 96, .int (nI i), .int (nI c)]) (st1 := [.int (nI c), .ref 88]) (σ1 := σ) rfl ?_
  refine tw_cl1 rfl (rfl) (by decide) (tw_e_isCard1 hn89 h10 hc) ?_
  rintro _ _ ⟨rfl, rfl⟩
  show tw_P L xs _ 214 7 [.ref 88, .ref 96, .int (nI i), .int (nI c)] [.int (nI 1)] σ _
  refine tw_bzF (c := .eq) rfl (by rw [tw_ceq', tw_neq (by omega) (by omega)] <;> omega) ?_
  show tw_P L xs _ 214 8 [.ref 88, .ref 96, .int (nI i), .int (nI c)] [] σ _
  refine tw_sgn 6 (i1 := 14) (ls0 := [.ref 88, .ref 96, .int (nI i), .int (nI c)]) (st0 := [.int ((nI 10 * nI i) + nI c), .ref 96]) (σ0 := σ) (ls1 := [.ref 88, .ref 96, .int (nI i), .int (nI c)]) (st1 := [.int (nI ((10 * i) + c)), .ref 96]) (σ1 := σ) rfl (rfl) (by simp only [tw_nadd, tw_nmul]) (rfl) ?_
  refine tw_al (k := 96) (j := ((10 * i) + c)) (len := 1000) rfl rfl rfl rfl (rfl) (by omega) (by decide) ?_
  refine tw_sg 1 (i1 := 17) (ls1 := [.ref 88, .ref 96, .int (nI i), .int (nI c)]) (st1 := [.int (σ 96 ((10 * i) + c))]) (σ1 := σ) rfl ?_
  refine tw_ri rfl (rfl) ?_
  exact ⟨rfl, rfl⟩
set_option maxHeartbeats 4000000 in
set_option maxRecDepth 100000 in
theorem tw_e_asked0a_96 (hr90 : σ 90 0 = nI r) (h50 : r ≤ 50) (hx : x < nI 0 ∨ (¬ x < nI 0 ∧ nI r ≤ x)) : tw_E L xs 2 214 [.ref 88, .ref 96, .int x, .int y] σ (fun v σ1 => v = some (.int (-1)) ∧ σ = σ1) := by
  show tw_P L xs _ 214 0 [.ref 88, .ref 96, .int x, .int y] [] σ _
  refine tw_sg 2 (i1 := 2) (ls1 := [.ref 88, .ref 96, .int x, .int y]) (st1 := [.int x, .ref 88]) (σ1 := σ) rfl ?_
  refine tw_cl1 rfl (rfl) (by decide) (tw_e_isRow0 hr90 h50 hx) ?_
  rintro _ _ ⟨rfl, rfl⟩
  show tw_P L xs _ 214 3 [.ref 88, .ref 96, .int x, .int y] [.int (nI 0)] σ _
  refine tw_bzT (c := .eq) rfl (by rw [tw_ceq, tw_neq (by omega) (by omega)] <;> omega) ?_
  show tw_P L xs _ 214 16 [.ref 88, .ref 96, .int x, .int y] [] σ _
  refine tw_sg 1 (i1 := 17) (ls1 := [.ref 88, .ref 96, .int x, .int y]) (st1 := [.int (-1)]) (σ1 := σ) rfl ?_
  refine tw_ri rfl (rfl) ?_
  exact ⟨rfl, rfl⟩
set_option maxHeartbeats 4000000 in
set_option maxRecDepth 100000 in
theorem tw_e_asked0b_96 (hn89 : σ 89 0 = nI n) (hr90 : σ 90 0 = nI r) (h50 : r ≤ 50) (h10 : n ≤ 10) (hi : i < r) (hy : y < nI 0 ∨ (¬ y < nI 0 ∧ nI n ≤ y)) : tw_E L xs 2 214 [.ref 88, .ref 96, .int (nI i), .int y] σ (fun v σ1 => v = some (.int (-1)) ∧ σ = σ1) := by
  show tw_P L xs _ 214 0 [.ref 88, .ref 96, .int (nI i), .int y] [] σ _
  refine tw_sg 2 (i1 := 2) (ls1 := [.ref 88, .ref 96, .int (nI i), .int y]) (st1 := [.int (nI i), .ref 88]) (σ1 := σ) rfl ?_
  refine tw_cl1 rfl (rfl) (by decide) (tw_e_isRow1 hr90 h50 hi) ?_
  rintro _ _ ⟨rfl, rfl⟩
  show tw_P L xs _ 214 3 [.ref 88, .ref 96, .int (nI i), .int y] [.int (nI 1)] σ _
  refine tw_bzF (c := .eq) rfl (by rw [tw_ceq', tw_neq (by omega) (by omega)] <;> omega) ?_
  show tw_P L xs _ 214 4 [.ref 88, .ref 96, .int (nI i), .int y] [] σ _
  refine tw_sg 2 (i1 := 6) (ls1 := [.ref 88, .ref 96, .int (nI i), .int y]) (st1 := [.int y, .ref 88]) (σ1 := σ) rfl ?_
  refine tw_cl1 rfl (rfl) (by decide) (tw_e_isCard0 hn89 h10 hy) ?_
  rintro _ _ ⟨rfl, rfl⟩
  show tw_P L xs _ 214 7 [.ref 88, .ref 96, .int (nI i), .int y] [.int (nI 0)] σ _
  refine tw_bzT (c := .eq) rfl (by rw [tw_ceq, tw_neq (by omega) (by omega)] <;> omega) ?_
  show tw_P L xs _ 214 16 [.ref 88, .ref 96, .int (nI i), .int y] [] σ _
  refine tw_sg 1 (i1 := 17) (ls1 := [.ref 88, .ref 96, .int (nI i), .int y]) (st1 := [.int (-1)]) (σ1 := σ) rfl ?_
  refine tw_ri rfl (rfl) ?_
  exact ⟨rfl, rfl⟩
set_option maxHeartbeats 4000000 in
set_option maxRecDepth 100000 in
theorem tw_e_asked1_97 (hn89 : σ 89 0 = nI n) (hr90 : σ 90 0 = nI r) (h50 : r ≤ 50) (h10 : n ≤ 10) (hi : i < r) (hc : c < n) : tw_E L xs 2 214 [.ref 88, .ref 97, .int (nI i), .int (nI c)] σ (fun v σ1 => v = some (.int (σ 97 (10 * i + c))) ∧ σ = σ1) := by
  show tw_P L xs _ 214 0 [.ref 88, .ref 97, .int (nI i), .int (nI c)] [] σ _
  refine tw_sg 2 (i1 := 2) (ls1 := [.ref 88, .ref 97, .int (nI i), .int (nI c)]) (st1 := [.int (nI i), .ref 88]) (σ1 := σ) rfl ?_
  refine tw_cl1 rfl (rfl) (by decide) (tw_e_isRow1 hr90 h50 hi) ?_
  rintro _ _ ⟨rfl, rfl⟩
  show tw_P L xs _ 214 3 [.ref 88, .ref 97, .int (nI i), .int (nI c)] [.int (nI 1)] σ _
  refine tw_bzF (c := .eq) rfl (by rw [tw_ceq', tw_neq (by omega) (by omega)] <;> omega) ?_
  show tw_P L xs _ 214 4 [.ref 88, .ref 97, .int (nI i), .int (nI c)] [] σ _
  refine tw_sg 2 (i1 := 6) (ls1 := [.ref 88, .ref 97, .int (nI i), .int (nI c)]) (st1 := [.int (nI c), .ref 88]) (σ1 := σ) rfl ?_
  refine tw_cl1 rfl (rfl) (by decide) (tw_e_isCard1 hn89 h10 hc) ?_
  rintro _ _ ⟨rfl, rfl⟩
  show tw_P L xs _ 214 7 [.ref 88, .ref 97, .int (nI i), .int (nI c)] [.int (nI 1)] σ _
  refine tw_bzF (c := .eq) rfl (by rw [tw_ceq', tw_neq (by omega) (by omega)] <;> omega) ?_
  show tw_P L xs _ 214 8 [.ref 88, .ref 97, .int (nI i), .int (nI c)] [] σ _
  refine tw_sgn 6 (i1 := 14) (ls0 := [.ref 88, .ref 97, .int (nI i), .int (nI c)]) (st0 := [.int ((nI 10 * nI i) + nI c), .ref 97]) (σ0 := σ) (ls1 := [.ref 88, .ref 97, .int (nI i), .int (nI c)]) (st1 := [.int (nI ((10 * i) + c)), .ref 97]) (σ1 := σ) rfl (rfl) (by simp only [tw_nadd, tw_nmul]) (rfl) ?_
  refine tw_al (k := 97) (j := ((10 * i) + c)) (len := 1000) rfl rfl rfl rfl (rfl) (by omega) (by decide) ?_
  refine tw_sg 1 (i1 := 17) (ls1 := [.ref 88, .ref 97, .int (nI i), .int (nI c)]) (st1 := [.int (σ 97 ((10 * i) + c))]) (σ1 := σ) rfl ?_
  refine tw_ri rfl (rfl) ?_
  exact ⟨rfl, rfl⟩
set_option maxHeartbeats 4000000 in
set_option maxRecDepth 100000 in
theorem tw_e_asked0a_97 (hr90 : σ 90 0 = nI r) (h50 : r ≤ 50) (hx : x < nI 0 ∨ (¬ x < nI 0 ∧ nI r ≤ x)) : tw_E L xs 2 214 [.ref 88, .ref 97, .int x, .int y] σ (fun v σ1 => v = some (.int (-1)) ∧ σ = σ1) := by
  show tw_P L xs _ 214 0 [.ref 88, .ref 97, .int x, .int y] [] σ _
  refine tw_sg 2 (i1 := 2) (ls1 := [.ref 88, .ref 97, .int x, .int y]) (st1 := [.int x, .ref 88]) (σ1 := σ) rfl ?_
  refine tw_cl1 rfl (rfl) (by decide) (tw_e_isRow0 hr90 h50 hx) ?_
  rintro _ _ ⟨rfl, rfl⟩
  show tw_P L xs _ 214 3 [.ref 88, .ref 97, .int x, .int y] [.int (nI 0)] σ _
  refine tw_bzT (c := .eq) rfl (by rw [tw_ceq, tw_neq (by omega) (by omega)] <;> omega) ?_
  show tw_P L xs _ 214 16 [.ref 88, .ref 97, .int x, .int y] [] σ _
  refine tw_sg 1 (i1 := 17) (ls1 := [.ref 88, .ref 97, .int x, .int y]) (st1 := [.int (-1)]) (σ1 := σ) rfl ?_
  refine tw_ri rfl (rfl) ?_
  exact ⟨rfl, rfl⟩
set_option maxHeartbeats 4000000 in
set_option maxRecDepth 100000 in
theorem tw_e_asked0b_97 (hn89 : σ 89 0 = nI n) (hr90 : σ 90 0 = nI r) (h50 : r ≤ 50) (h10 : n ≤ 10) (hi : i < r) (hy : y < nI 0 ∨ (¬ y < nI 0 ∧ nI n ≤ y)) : tw_E L xs 2 214 [.ref 88, .ref 97, .int (nI i), .int y] σ (fun v σ1 => v = some (.int (-1)) ∧ σ = σ1) := by
  show tw_P L xs _ 214 0 [.ref 88, .ref 97, .int (nI i), .int y] [] σ _
  refine tw_sg 2 (i1 := 2) (ls1 := [.ref 88, .ref 97, .int (nI i), .int y]) (st1 := [.int (nI i), .ref 88]) (σ1 := σ) rfl ?_
  refine tw_cl1 rfl (rfl) (by decide) (tw_e_isRow1 hr90 h50 hi) ?_
  rintro _ _ ⟨rfl, rfl⟩
  show tw_P L xs _ 214 3 [.ref 88, .ref 97, .int (nI i), .int y] [.int (nI 1)] σ _
  refine tw_bzF (c := .eq) rfl (by rw [tw_ceq', tw_neq (by omega) (by omega)] <;> omega) ?_
  show tw_P L xs _ 214 4 [.ref 88, .ref 97, .int (nI i), .int y] [] σ _
  refine tw_sg 2 (i1 := 6) (ls1 := [.ref 88, .ref 97, .int (nI i), .int y]) (st1 := [.int y, .ref 88]) (σ1 := σ) rfl ?_
  refine tw_cl1 rfl (rfl) (by decide) (tw_e_isCard0 hn89 h10 hy) ?_
  rintro _ _ ⟨rfl, rfl⟩
  show tw_P L xs _ 214 7 [.ref 88, .ref 97, .int (nI i), .int y] [.int (nI 0)] σ _
  refine tw_bzT (c := .eq) rfl (by rw [tw_ceq, tw_neq (by omega) (by omega)] <;> omega) ?_
  show tw_P L xs _ 214 16 [.ref 88, .ref 97, .int (nI i), .int y] [] σ _
  refine tw_sg 1 (i1 := 17) (ls1 := [.ref 88, .ref 97, .int (nI i), .int y]) (st1 := [.int (-1)]) (σ1 := σ) rfl ?_
  refine tw_ri rfl (rfl) ?_
  exact ⟨rfl, rfl⟩
set_option maxHeartbeats 4000000 in
set_option maxRecDepth 100000 in
theorem tw_e_asked1_98 (hn89 : σ 89 0 = nI n) (hr90 : σ 90 0 = nI r) (h50 : r ≤ 50) (h10 : n ≤ 10) (hi : i < r) (hc : c < n) : tw_E L xs 2 214 [.ref 88, .ref 98, .int (nI i), .int (nI c)] σ (fun v σ1 => v = some (.int (σ 98 (10 * i + c))) ∧ σ = σ1) := by
  show tw_P L xs _ 214 0 [.ref 88, .ref 98, .int (nI i), .int (nI c)] [] σ _
  refine tw_sg 2 (i1 := 2) (ls1 := [.ref 88, .ref 98, .int (nI i), .int (nI c)]) (st1 := [.int (nI i), .ref 88]) (σ1 := σ) rfl ?_
  refine tw_cl1 rfl (rfl) (by decide) (tw_e_isRow1 hr90 h50 hi) ?_
  rintro _ _ ⟨rfl, rfl⟩
  show tw_P L xs _ 214 3 [.ref 88, .ref 98, .int (nI i), .int (nI c)] [.int (nI 1)] σ _
  refine tw_bzF (c := .eq) rfl (by rw [tw_ceq', tw_neq (by omega) (by omega)] <;> omega) ?_
  show tw_P L xs _ 214 4 [.ref 88, .ref 98, .int (nI i), .int (nI c)] [] σ _
  refine tw_sg 2 (i1 := 6) (ls1 := [.ref 88, .ref 98, .int (nI i), .int (nI c)]) (st1 := [.int (nI c), .ref 88]) (σ1 := σ) rfl ?_
  refine tw_cl1 rfl (rfl) (by decide) (tw_e_isCard1 hn89 h10 hc) ?_
  rintro _ _ ⟨rfl, rfl⟩
  show tw_P L xs _ 214 7 [.ref 88, .ref 98, .int (nI i), .int (nI c)] [.int (nI 1)] σ _
  refine tw_bzF (c := .eq) rfl (by rw [tw_ceq', tw_neq (by omega) (by omega)] <;> omega) ?_
  show tw_P L xs _ 214 8 [.ref 88, .ref 98, .int (nI i), .int (nI c)] [] σ _
  refine tw_sgn 6 (i1 := 14) (ls0 := [.ref 88, .ref 98, .int (nI i), .int (nI c)]) (st0 := [.int ((nI 10 * nI i) + nI c), .ref 98]) (σ0 := σ) (ls1 := [.ref 88, .ref 98, .int (nI i), .int (nI c)]) (st1 := [.int (nI ((10 * i) + c)), .ref 98]) (σ1 := σ) rfl (rfl) (by simp only [tw_nadd, tw_nmul]) (rfl) ?_
  refine tw_al (k := 98) (j := ((10 * i) + c)) (len := 1000) rfl rfl rfl rfl (rfl) (by omega) (by decide) ?_
  refine tw_sg 1 (i1 := 17) (ls1 := [.ref 88, .ref 98, .int (nI i), .int (nI c)]) (st1 := [.int (σ 98 ((10 * i) + c))]) (σ1 := σ) rfl ?_
  refine tw_ri rfl (rfl) ?_
  exact ⟨rfl, rfl⟩
set_option maxHeartbeats 4000000 in
set_option maxRecDepth 100000 in
theorem tw_e_asked0a_98 (hr90 : σ 90 0 = nI r) (h50 : r ≤ 50) (hx : x < nI 0 ∨ (¬ x < nI 0 ∧ nI r ≤ x)) : tw_E L xs 2 214 [.ref 88, .ref 98, .int x, .int y] σ (fun v σ1 => v = some (.int (-1)) ∧ σ = σ1) := by
  show tw_P L xs _ 214 0 [.ref 88, .ref 98, .int x, .int y] [] σ _
  refine tw_sg 2 (i1 := 2) (ls1 := [.ref 88, .ref 98, .int x, .int y]) (st1 := [.int x, .ref 88]) (σ1 := σ) rfl ?_
  refine tw_cl1 rfl (rfl) (by decide) (tw_e_isRow0 hr90 h50 hx) ?_
  rintro _ _ ⟨rfl, rfl⟩
  show tw_P L xs _ 214 3 [.ref 88, .ref 98, .int x, .int y] [.int (nI 0)] σ _
  refine tw_bzT (c := .eq) rfl (by rw [tw_ceq, tw_neq (by omega) (by omega)] <;> omega) ?_
  show tw_P L xs _ 214 16 [.ref 88, .ref 98, .int x, .int y] [] σ _
  refine tw_sg 1 (i1 := 17) (ls1 := [.ref 88, .ref 98, .int x, .int y]) (st1 := [.int (-1)]) (σ1 := σ) rfl ?_
  refine tw_ri rfl (rfl) ?_
  exact ⟨rfl, rfl⟩
set_option maxHeartbeats 4000000 in
set_option maxRecDepth 100000 in
theorem tw_e_asked0b_98 (hn89 : σ 89 0 = nI n) (hr90 : σ 90 0 = nI r) (h50 : r ≤ 50) (h10 : n ≤ 10) (hi : i < r) (hy : y < nI 0 ∨ (¬ y < nI 0 ∧ nI n ≤ y)) : tw_E L xs 2 214 [.ref 88, .ref 98, .int (nI i), .int y] σ (fun v σ1 => v = some (.int (-1)) ∧ σ = σ1) := by
  show tw_P L xs _ 214 0 [.ref 88, .ref 98, .int (nI i), .int y] [] σ _
  refine tw_sg 2 (i1 := 2) (ls1 := [.ref 88, .ref 98, .int (nI i), .int y]) (st1 := [.int (nI i), .ref 88]) (σ1 := σ) rfl ?_
  refine tw_cl1 rfl (rfl) (by decide) (tw_e_isRow1 hr90 h50 hi) ?_
  rintro _ _ ⟨rfl, rfl⟩
  show tw_P L xs _ 214 3 [.ref 88, .ref 98, .int (nI i), .int y] [.int (nI 1)] σ _
  refine tw_bzF (c := .eq) rfl (by rw [tw_ceq', tw_neq (by omega) (by omega)] <;> omega) ?_
  show tw_P L xs _ 214 4 [.ref 88, .ref 98, .int (nI i), .int y] [] σ _
  refine tw_sg 2 (i1 := 6) (ls1 := [.ref 88, .ref 98, .int (nI i), .int y]) (st1 := [.int y, .ref 88]) (σ1 := σ) rfl ?_
  refine tw_cl1 rfl (rfl) (by decide) (tw_e_isCard0 hn89 h10 hy) ?_
  rintro _ _ ⟨rfl, rfl⟩
  show tw_P L xs _ 214 7 [.ref 88, .ref 98, .int (nI i), .int y] [.int (nI 0)] σ _
  refine tw_bzT (c := .eq) rfl (by rw [tw_ceq, tw_neq (by omega) (by omega)] <;> omega) ?_
  show tw_P L xs _ 214 16 [.ref 88, .ref 98, .int (nI i), .int y] [] σ _
  refine tw_sg 1 (i1 := 17) (ls1 := [.ref 88, .ref 98, .int (nI i), .int y]) (st1 := [.int (-1)]) (σ1 := σ) rfl ?_
  refine tw_ri rfl (rfl) ?_
  exact ⟨rfl, rfl⟩
set_option maxHeartbeats 4000000 in
set_option maxRecDepth 100000 in
theorem tw_o_front {L : Nat} {xs : Nat → Int32} (x : Int32) (y : Int32) : tw_op L xs 145 215 [.int x, .int y] := by
  intro σ hI
  obtain ⟨⟨n, r, hL⟩, hT, hPp, hPc, hLs, hIm, hC14, hC46, hC72⟩ := id hI
  obtain ⟨⟨hn10, hr50⟩, ⟨hn6, hn89⟩, ⟨hr9, hw9, hr90⟩, hCa, hRo, hLa⟩ := hL
  have hn6 : σ 6 4 = nI n := hn6
  have hn89 : σ 89 0 = nI n := hn89
  have hr9 : σ 9 3 = nI r := hr9
  have hw9 : σ 9 4 = nI n := hw9
  have hr90 : σ 90 0 = nI r := hr90
  rcases tw_within x r (by omega) with ⟨i, hi, rfl⟩ | hx
  · rcases tw_within y n (by omega) with ⟨c, hc, rfl⟩ | hy
    · have e := (hRo i hi c hc).1
      show tw_P L xs _ 145 0 [.ref 1, .int (nI i), .int (nI c)] [] σ _
      refine tw_sg 2 (i1 := 2) (ls1 := [.ref 1, .int (nI i), .int (nI c)]) (st1 := [.ref 6]) (σ1 := σ) rfl ?_
      refine tw_cl0 59 rfl (rfl) (by decide) ?_
      show tw_P L xs _ 83 0 [.ref 6] [] σ _
      refine tw_sg 2 (i1 := 2) (ls1 := [.ref 6]) (st1 := [.ref 9]) (σ1 := σ) rfl ?_
      refine tw_ra rfl ?_
      show tw_P L xs _ 145 3 [.ref 1, .int (nI i), .int (nI c)] [.ref 9] σ _
      refine tw_sg 3 (i1 := 6) (ls1 := [.ref 1, .int (nI i), .int (nI c)]) (st1 := [.int (nI 0), .int (nI c), .int (nI i), .ref 9]) (σ1 := σ) rfl ?_
      refine tw_cl1 rfl (rfl) (by decide) (tw_e_cell1 hr9 hw9 hr50 hn10 hi hc (by decide)) ?_
      rintro _ _ ⟨rfl, rfl⟩
      show tw_P L xs _ 145 7 [.ref 1, .int (nI i), .int (nI c)] [.int (σ 10 ((i * 10 + c) * 4 + 0))] σ _
      refine tw_ri rfl (rfl) ?_
      refine ⟨_, rfl, ?_⟩
      show tw_P L xs _ 215 0 [.ref 88, .int (nI i), .int (nI c)] [] σ _
      refine tw_sg 5 (i1 := 5) (ls1 := [.ref 88, .int (nI i), .int (nI c)]) (st1 := [.int (nI c), .int (nI i), .ref 95, .ref 88]) (σ1 := σ) rfl ?_
      refine tw_cl1 rfl (rfl) (by decide) (tw_e_asked1_95 hn89 hr90 hr50 hn10 hi hc) ?_
      rintro _ _ ⟨rfl, rfl⟩
      show tw_P L xs _ 215 6 [.ref 88, .int (nI i), .int (nI c)] [.int (σ 95 (10 * i + c))] σ _
      refine tw_ri rfl (rfl) ?_
      exact ⟨by rw [show σ 10 ((i * 10 + c) * 4 + 0) = σ 95 (10 * i + c) from e], hI⟩
    · have e : tw_E L xs 2 21 [.ref 9, .int (nI i), .int y, .int (nI 0)] σ (fun v σ1 => v = some (.int (-1)) ∧ σ = σ1) := hy.elim (fun h => tw_e_cell0b hr9 hw9 hr50 hn10 hi h) (fun h => tw_e_cell0c hr9 hw9 hr50 hn10 hi h.1 h.2)
      show tw_P L xs _ 145 0 [.ref 1, .int (nI i), .int y] [] σ _
      refine tw_sg 2 (i1 := 2) (ls1 := [.ref 1, .int (nI i), .int y]) (st1 := [.ref 6]) (σ1 := σ) rfl ?_
      refine tw_cl0 59 rfl (rfl) (by decide) ?_
      show tw_P L xs _ 83 0 [.ref 6] [] σ _
      refine tw_sg 2 (i1 := 2) (ls1 := [.ref 6]) (st1 := [.ref 9]) (σ1 := σ) rfl ?_
      refine tw_ra rfl ?_
      show tw_P L xs _ 145 3 [.ref 1, .int (nI i), .int y] [.ref 9] σ _
      refine tw_sg 3 (i1 := 6) (ls1 := [.ref 1, .int (nI i), .int y]) (st1 := [.int (nI 0), .int y, .int (nI i), .ref 9]) (σ1 := σ) rfl ?_
      refine tw_cl1 rfl (rfl) (by decide) (e) ?_
      rintro _ _ ⟨rfl, rfl⟩
      show tw_P L xs _ 145 7 [.ref 1, .int (nI i), .int y] [.int (-1)] σ _
      refine tw_ri rfl (rfl) ?_
      refine ⟨_, rfl, ?_⟩
      show tw_P L xs _ 215 0 [.ref 88, .int (nI i), .int y] [] σ _
      refine tw_sg 5 (i1 := 5) (ls1 := [.ref 88, .int (nI i), .int y]) (st1 := [.int y, .int (nI i), .ref 95, .ref 88]) (σ1 := σ) rfl ?_
      refine tw_cl1 rfl (rfl) (by decide) (tw_e_asked0b_95 hn89 hr90 hr50 hn10 hi hy) ?_
      rintro _ _ ⟨rfl, rfl⟩
      show tw_P L xs _ 215 6 [.ref 88, .int (nI i), .int y] [.int (-1)] σ _
      refine tw_ri rfl (rfl) ?_
      exact ⟨rfl, hI⟩
  · skip
    show tw_P L xs _ 145 0 [.ref 1, .int x, .int y] [] σ _
    refine tw_sg 2 (i1 := 2) (ls1 := [.ref 1, .int x, .int y]) (st1 := [.ref 6]) (σ1 := σ) rfl ?_
    refine tw_cl0 59 rfl (rfl) (by decide) ?_
    show tw_P L xs _ 83 0 [.ref 6] [] σ _
    refine tw_sg 2 (i1 := 2) (ls1 := [.ref 6]) (st1 := [.ref 9]) (σ1 := σ) rfl ?_
    refine tw_ra rfl ?_
    show tw_P L xs _ 145 3 [.ref 1, .int x, .int y] [.ref 9] σ _
    refine tw_sg 3 (i1 := 6) (ls1 := [.ref 1, .int x, .int y]) (st1 := [.int (nI 0), .int y, .int x, .ref 9]) (σ1 := σ) rfl ?_
    refine tw_cl1 rfl (rfl) (by decide) (tw_e_cell0a hr9 hx) ?_
    rintro _ _ ⟨rfl, rfl⟩
    show tw_P L xs _ 145 7 [.ref 1, .int x, .int y] [.int (-1)] σ _
    refine tw_ri rfl (rfl) ?_
    refine ⟨_, rfl, ?_⟩
    show tw_P L xs _ 215 0 [.ref 88, .int x, .int y] [] σ _
    refine tw_sg 5 (i1 := 5) (ls1 := [.ref 88, .int x, .int y]) (st1 := [.int y, .int x, .ref 95, .ref 88]) (σ1 := σ) rfl ?_
    refine tw_cl1 rfl (rfl) (by decide) (tw_e_asked0a_95 hr90 hr50 hx) ?_
    rintro _ _ ⟨rfl, rfl⟩
    show tw_P L xs _ 215 6 [.ref 88, .int x, .int y] [.int (-1)] σ _
    refine tw_ri rfl (rfl) ?_
    exact ⟨rfl, hI⟩
set_option maxHeartbeats 4000000 in
set_option maxRecDepth 100000 in
theorem tw_o_back {L : Nat} {xs : Nat → Int32} (x : Int32) (y : Int32) : tw_op L xs 146 216 [.int x, .int y] := by
  intro σ hI
  obtain ⟨⟨n, r, hL⟩, hT, hPp, hPc, hLs, hIm, hC14, hC46, hC72⟩ := id hI
  obtain ⟨⟨hn10, hr50⟩, ⟨hn6, hn89⟩, ⟨hr9, hw9, hr90⟩, hCa, hRo, hLa⟩ := hL
  have hn6 : σ 6 4 = nI n := hn6
  have hn89 : σ 89 0 = nI n := hn89
  have hr9 : σ 9 3 = nI r := hr9
  have hw9 : σ 9 4 = nI n := hw9
  have hr90 : σ 90 0 = nI r := hr90
  rcases tw_within x r (by omega) with ⟨i, hi, rfl⟩ | hx
  · rcases tw_within y n (by omega) with ⟨c, hc, rfl⟩ | hy
    · have e := (hRo i hi c hc).2.1
      show tw_P L xs _ 146 0 [.ref 1, .int (nI i), .int (nI c)] [] σ _
      refine tw_sg 2 (i1 := 2) (ls1 := [.ref 1, .int (nI i), .int (nI c)]) (st1 := [.ref 6]) (σ1 := σ) rfl ?_
      refine tw_cl0 59 rfl (rfl) (by decide) ?_
      show tw_P L xs _ 83 0 [.ref 6] [] σ _
      refine tw_sg 2 (i1 := 2) (ls1 := [.ref 6]) (st1 := [.ref 9]) (σ1 := σ) rfl ?_
      refine tw_ra rfl ?_
      show tw_P L xs _ 146 3 [.ref 1, .int (nI i), .int (nI c)] [.ref 9] σ _
      refine tw_sg 3 (i1 := 6) (ls1 := [.ref 1, .int (nI i), .int (nI c)]) (st1 := [.int (nI 1), .int (nI c), .int (nI i), .ref 9]) (σ1 := σ) rfl ?_
      refine tw_cl1 rfl (rfl) (by decide) (tw_e_cell1 hr9 hw9 hr50 hn10 hi hc (by decide)) ?_
      rintro _ _ ⟨rfl, rfl⟩
      show tw_P L xs _ 146 7 [.ref 1, .int (nI i), .int (nI c)] [.int (σ 10 ((i * 10 + c) * 4 + 1))] σ _
      refine tw_ri rfl (rfl) ?_
      refine ⟨_, rfl, ?_⟩
      show tw_P L xs _ 216 0 [.ref 88, .int (nI i), .int (nI c)] [] σ _
      refine tw_sg 5 (i1 := 5) (ls1 := [.ref 88, .int (nI i), .int (nI c)]) (st1 := [.int (nI c), .int (nI i), .ref 96, .ref 88]) (σ1 := σ) rfl ?_
      refine tw_cl1 rfl (rfl) (by decide) (tw_e_asked1_96 hn89 hr90 hr50 hn10 hi hc) ?_
      rintro _ _ ⟨rfl, rfl⟩
      show tw_P L xs _ 216 6 [.ref 88, .int (nI i), .int (nI c)] [.int (σ 96 (10 * i + c))] σ _
      refine tw_ri rfl (rfl) ?_
      exact ⟨by rw [show σ 10 ((i * 10 + c) * 4 + 1) = σ 96 (10 * i + c) from e], hI⟩
    · have e : tw_E L xs 2 21 [.ref 9, .int (nI i), .int y, .int (nI 1)] σ (fun v σ1 => v = some (.int (-1)) ∧ σ = σ1) := hy.elim (fun h => tw_e_cell0b hr9 hw9 hr50 hn10 hi h) (fun h => tw_e_cell0c hr9 hw9 hr50 hn10 hi h.1 h.2)
      show tw_P L xs _ 146 0 [.ref 1, .int (nI i), .int y] [] σ _
      refine tw_sg 2 (i1 := 2) (ls1 := [.ref 1, .int (nI i), .int y]) (st1 := [.ref 6]) (σ1 := σ) rfl ?_
      refine tw_cl0 59 rfl (rfl) (by decide) ?_
      show tw_P L xs _ 83 0 [.ref 6] [] σ _
      refine tw_sg 2 (i1 := 2) (ls1 := [.ref 6]) (st1 := [.ref 9]) (σ1 := σ) rfl ?_
      refine tw_ra rfl ?_
      show tw_P L xs _ 146 3 [.ref 1, .int (nI i), .int y] [.ref 9] σ _
      refine tw_sg 3 (i1 := 6) (ls1 := [.ref 1, .int (nI i), .int y]) (st1 := [.int (nI 1), .int y, .int (nI i), .ref 9]) (σ1 := σ) rfl ?_
      refine tw_cl1 rfl (rfl) (by decide) (e) ?_
      rintro _ _ ⟨rfl, rfl⟩
      show tw_P L xs _ 146 7 [.ref 1, .int (nI i), .int y] [.int (-1)] σ _
      refine tw_ri rfl (rfl) ?_
      refine ⟨_, rfl, ?_⟩
      show tw_P L xs _ 216 0 [.ref 88, .int (nI i), .int y] [] σ _
      refine tw_sg 5 (i1 := 5) (ls1 := [.ref 88, .int (nI i), .int y]) (st1 := [.int y, .int (nI i), .ref 96, .ref 88]) (σ1 := σ) rfl ?_
      refine tw_cl1 rfl (rfl) (by decide) (tw_e_asked0b_96 hn89 hr90 hr50 hn10 hi hy) ?_
      rintro _ _ ⟨rfl, rfl⟩
      show tw_P L xs _ 216 6 [.ref 88, .int (nI i), .int y] [.int (-1)] σ _
      refine tw_ri rfl (rfl) ?_
      exact ⟨rfl, hI⟩
  · skip
    show tw_P L xs _ 146 0 [.ref 1, .int x, .int y] [] σ _
    refine tw_sg 2 (i1 := 2) (ls1 := [.ref 1, .int x, .int y]) (st1 := [.ref 6]) (σ1 := σ) rfl ?_
    refine tw_cl0 59 rfl (rfl) (by decide) ?_
    show tw_P L xs _ 83 0 [.ref 6] [] σ _
    refine tw_sg 2 (i1 := 2) (ls1 := [.ref 6]) (st1 := [.ref 9]) (σ1 := σ) rfl ?_
    refine tw_ra rfl ?_
    show tw_P L xs _ 146 3 [.ref 1, .int x, .int y] [.ref 9] σ _
    refine tw_sg 3 (i1 := 6) (ls1 := [.ref 1, .int x, .int y]) (st1 := [.int (nI 1), .int y, .int x, .ref 9]) (σ1 := σ) rfl ?_
    refine tw_cl1 rfl (rfl) (by decide) (tw_e_cell0a hr9 hx) ?_
    rintro _ _ ⟨rfl, rfl⟩
    show tw_P L xs _ 146 7 [.ref 1, .int x, .int y] [.int (-1)] σ _
    refine tw_ri rfl (rfl) ?_
    refine ⟨_, rfl, ?_⟩
    show tw_P L xs _ 216 0 [.ref 88, .int x, .int y] [] σ _
    refine tw_sg 5 (i1 := 5) (ls1 := [.ref 88, .int x, .int y]) (st1 := [.int y, .int x, .ref 96, .ref 88]) (σ1 := σ) rfl ?_
    refine tw_cl1 rfl (rfl) (by decide) (tw_e_asked0a_96 hr90 hr50 hx) ?_
    rintro _ _ ⟨rfl, rfl⟩
    show tw_P L xs _ 216 6 [.ref 88, .int x, .int y] [.int (-1)] σ _
    refine tw_ri rfl (rfl) ?_
    exact ⟨rfl, hI⟩
set_option maxHeartbeats 4000000 in
set_option maxRecDepth 100000 in
theorem tw_o_lean {L : Nat} {xs : Nat → Int32} (x : Int32) (y : Int32) : tw_op L xs 147 217 [.int x, .int y] := by
  intro σ hI
  obtain ⟨⟨n, r, hL⟩, hT, hPp, hPc, hLs, hIm, hC14, hC46, hC72⟩ := id hI
  obtain ⟨⟨hn10, hr50⟩, ⟨hn6, hn89⟩, ⟨hr9, hw9, hr90⟩, hCa, hRo, hLa⟩ := hL
  have hn6 : σ 6 4 = nI n := hn6
  have hn89 : σ 89 0 = nI n := hn89
  have hr9 : σ 9 3 = nI r := hr9
  have hw9 : σ 9 4 = nI n := hw9
  have hr90 : σ 90 0 = nI r := hr90
  rcases tw_within x r (by omega) with ⟨i, hi, rfl⟩ | hx
  · rcases tw_within y n (by omega) with ⟨c, hc, rfl⟩ | hy
    · have e := (hRo i hi c hc).2.2.1
      show tw_P L xs _ 147 0 [.ref 1, .int (nI i), .int (nI c)] [] σ _
      refine tw_sg 2 (i1 := 2) (ls1 := [.ref 1, .int (nI i), .int (nI c)]) (st1 := [.ref 6]) (σ1 := σ) rfl ?_
      refine tw_cl0 59 rfl (rfl) (by decide) ?_
      show tw_P L xs _ 83 0 [.ref 6] [] σ _
      refine tw_sg 2 (i1 := 2) (ls1 := [.ref 6]) (st1 := [.ref 9]) (σ1 := σ) rfl ?_
      refine tw_ra rfl ?_
      show tw_P L xs _ 147 3 [.ref 1, .int (nI i), .int (nI c)] [.ref 9] σ _
      refine tw_sg 3 (i1 := 6) (ls1 := [.ref 1, .int (nI i), .int (nI c)]) (st1 := [.int (nI 2), .int (nI c), .int (nI i), .ref 9]) (σ1 := σ) rfl ?_
      refine tw_cl1 rfl (rfl) (by decide) (tw_e_cell1 hr9 hw9 hr50 hn10 hi hc (by decide)) ?_
      rintro _ _ ⟨rfl, rfl⟩
      show tw_P L xs _ 147 7 [.ref 1, .int (nI i), .int (nI c)] [.int (σ 10 ((i * 10 + c) * 4 + 2))] σ _
      refine tw_ri rfl (rfl) ?_
      refine ⟨_, rfl, ?_⟩
      show tw_P L xs _ 217 0 [.ref 88, .int (nI i), .int (nI c)] [] σ _
      refine tw_sg 5 (i1 := 5) (ls1 := [.ref 88, .int (nI i), .int (nI c)]) (st1 := [.int (nI c), .int (nI i), .ref 97, .ref 88]) (σ1 := σ) rfl ?_
      refine tw_cl1 rfl (rfl) (by decide) (tw_e_asked1_97 hn89 hr90 hr50 hn10 hi hc) ?_
      rintro _ _ ⟨rfl, rfl⟩
      show tw_P L xs _ 217 6 [.ref 88, .int (nI i), .int (nI c)] [.int (σ 97 (10 * i + c))] σ _
      refine tw_ri rfl (rfl) ?_
      exact ⟨by rw [show σ 10 ((i * 10 + c) * 4 + 2) = σ 97 (10 * i + c) from e], hI⟩
    · have e : tw_E L xs 2 21 [.ref 9, .int (nI i), .int y, .int (nI 2)] σ (fun v σ1 => v = some (.int (-1)) ∧ σ = σ1) := hy.elim (fun h => tw_e_cell0b hr9 hw9 hr50 hn10 hi h) (fun h => tw_e_cell0c hr9 hw9 hr50 hn10 hi h.1 h.2)
      show tw_P L xs _ 147 0 [.ref 1, .int (nI i), .int y] [] σ _
      refine tw_sg 2 (i1 := 2) (ls1 := [.ref 1, .int (nI i), .int y]) (st1 := [.ref 6]) (σ1 := σ) rfl ?_
      refine tw_cl0 59 rfl (rfl) (by decide) ?_
      show tw_P L xs _ 83 0 [.ref 6] [] σ _
      refine tw_sg 2 (i1 := 2) (ls1 := [.ref 6]) (st1 := [.ref 9]) (σ1 := σ) rfl ?_
      refine tw_ra rfl ?_
      show tw_P L xs _ 147 3 [.ref 1, .int (nI i), .int y] [.ref 9] σ _
      refine tw_sg 3 (i1 := 6) (ls1 := [.ref 1, .int (nI i), .int y]) (st1 := [.int (nI 2), .int y, .int (nI i), .ref 9]) (σ1 := σ) rfl ?_
      refine tw_cl1 rfl (rfl) (by decide) (e) ?_
      rintro _ _ ⟨rfl, rfl⟩
      show tw_P L xs _ 147 7 [.ref 1, .int (nI i), .int y] [.int (-1)] σ _
      refine tw_ri rfl (rfl) ?_
      refine ⟨_, rfl, ?_⟩
      show tw_P L xs _ 217 0 [.ref 88, .int (nI i), .int y] [] σ _
      refine tw_sg 5 (i1 := 5) (ls1 := [.ref 88, .int (nI i), .int y]) (st1 := [.int y, .int (nI i), .ref 97, .ref 88]) (σ1 := σ) rfl ?_
      refine tw_cl1 rfl (rfl) (by decide) (tw_e_asked0b_97 hn89 hr90 hr50 hn10 hi hy) ?_
      rintro _ _ ⟨rfl, rfl⟩
      show tw_P L xs _ 217 6 [.ref 88, .int (nI i), .int y] [.int (-1)] σ _
      refine tw_ri rfl (rfl) ?_
      exact ⟨rfl, hI⟩
  · skip
    show tw_P L xs _ 147 0 [.ref 1, .int x, .int y] [] σ _
    refine tw_sg 2 (i1 := 2) (ls1 := [.ref 1, .int x, .int y]) (st1 := [.ref 6]) (σ1 := σ) rfl ?_
    refine tw_cl0 59 rfl (rfl) (by decide) ?_
    show tw_P L xs _ 83 0 [.ref 6] [] σ _
    refine tw_sg 2 (i1 := 2) (ls1 := [.ref 6]) (st1 := [.ref 9]) (σ1 := σ) rfl ?_
    refine tw_ra rfl ?_
    show tw_P L xs _ 147 3 [.ref 1, .int x, .int y] [.ref 9] σ _
    refine tw_sg 3 (i1 := 6) (ls1 := [.ref 1, .int x, .int y]) (st1 := [.int (nI 2), .int y, .int x, .ref 9]) (σ1 := σ) rfl ?_
    refine tw_cl1 rfl (rfl) (by decide) (tw_e_cell0a hr9 hx) ?_
    rintro _ _ ⟨rfl, rfl⟩
    show tw_P L xs _ 147 7 [.ref 1, .int x, .int y] [.int (-1)] σ _
    refine tw_ri rfl (rfl) ?_
    refine ⟨_, rfl, ?_⟩
    show tw_P L xs _ 217 0 [.ref 88, .int x, .int y] [] σ _
    refine tw_sg 5 (i1 := 5) (ls1 := [.ref 88, .int x, .int y]) (st1 := [.int y, .int x, .ref 97, .ref 88]) (σ1 := σ) rfl ?_
    refine tw_cl1 rfl (rfl) (by decide) (tw_e_asked0a_97 hr90 hr50 hx) ?_
    rintro _ _ ⟨rfl, rfl⟩
    show tw_P L xs _ 217 6 [.ref 88, .int x, .int y] [.int (-1)] σ _
    refine tw_ri rfl (rfl) ?_
    exact ⟨rfl, hI⟩
set_option maxHeartbeats 4000000 in
set_option maxRecDepth 100000 in
theorem tw_o_turning {L : Nat} {xs : Nat → Int32} (x : Int32) (y : Int32) : tw_op L xs 148 218 [.int x, .int y] := by
  intro σ hI
  obtain ⟨⟨n, r, hL⟩, hT, hPp, hPc, hLs, hIm, hC14, hC46, hC72⟩ := id hI
  obtain ⟨⟨hn10, hr50⟩, ⟨hn6, hn89⟩, ⟨hr9, hw9, hr90⟩, hCa, hRo, hLa⟩ := hL
  have hn6 : σ 6 4 = nI n := hn6
  have hn89 : σ 89 0 = nI n := hn89
  have hr9 : σ 9 3 = nI r := hr9
  have hw9 : σ 9 4 = nI n := hw9
  have hr90 : σ 90 0 = nI r := hr90
  rcases tw_within x r (by omega) with ⟨i, hi, rfl⟩ | hx
  · rcases tw_within y n (by omega) with ⟨c, hc, rfl⟩ | hy
    · have e := (hRo i hi c hc).2.2.2.1
      show tw_P L xs _ 148 0 [.ref 1, .int (nI i), .int (nI c)] [] σ _
      refine tw_sg 2 (i1 := 2) (ls1 := [.ref 1, .int (nI i), .int (nI c)]) (st1 := [.ref 6]) (σ1 := σ) rfl ?_
      refine tw_cl0 59 rfl (rfl) (by decide) ?_
      show tw_P L xs _ 83 0 [.ref 6] [] σ _
      refine tw_sg 2 (i1 := 2) (ls1 := [.ref 6]) (st1 := [.ref 9]) (σ1 := σ) rfl ?_
      refine tw_ra rfl ?_
      show tw_P L xs _ 148 3 [.ref 1, .int (nI i), .int (nI c)] [.ref 9] σ _
      refine tw_sg 3 (i1 := 6) (ls1 := [.ref 1, .int (nI i), .int (nI c)]) (st1 := [.int (nI 3), .int (nI c), .int (nI i), .ref 9]) (σ1 := σ) rfl ?_
      refine tw_cl1 rfl (rfl) (by decide) (tw_e_cell1 hr9 hw9 hr50 hn10 hi hc (by decide)) ?_
      rintro _ _ ⟨rfl, rfl⟩
      show tw_P L xs _ 148 7 [.ref 1, .int (nI i), .int (nI c)] [.int (σ 10 ((i * 10 + c) * 4 + 3))] σ _
      refine tw_ri rfl (rfl) ?_
      refine ⟨_, rfl, ?_⟩
      show tw_P L xs _ 218 0 [.ref 88, .int (nI i), .int (nI c)] [] σ _
      refine tw_sg 5 (i1 := 5) (ls1 := [.ref 88, .int (nI i), .int (nI c)]) (st1 := [.int (nI c), .int (nI i), .ref 98, .ref 88]) (σ1 := σ) rfl ?_
      refine tw_cl1 rfl (rfl) (by decide) (tw_e_asked1_98 hn89 hr90 hr50 hn10 hi hc) ?_
      rintro _ _ ⟨rfl, rfl⟩
      show tw_P L xs _ 218 6 [.ref 88, .int (nI i), .int (nI c)] [.int (σ 98 (10 * i + c))] σ _
      refine tw_ri rfl (rfl) ?_
      exact ⟨by rw [show σ 10 ((i * 10 + c) * 4 + 3) = σ 98 (10 * i + c) from e], hI⟩
    · have e : tw_E L xs 2 21 [.ref 9, .int (nI i), .int y, .int (nI 3)] σ (fun v σ1 => v = some (.int (-1)) ∧ σ = σ1) := hy.elim (fun h => tw_e_cell0b hr9 hw9 hr50 hn10 hi h) (fun h => tw_e_cell0c hr9 hw9 hr50 hn10 hi h.1 h.2)
      show tw_P L xs _ 148 0 [.ref 1, .int (nI i), .int y] [] σ _
      refine tw_sg 2 (i1 := 2) (ls1 := [.ref 1, .int (nI i), .int y]) (st1 := [.ref 6]) (σ1 := σ) rfl ?_
      refine tw_cl0 59 rfl (rfl) (by decide) ?_
      show tw_P L xs _ 83 0 [.ref 6] [] σ _
      refine tw_sg 2 (i1 := 2) (ls1 := [.ref 6]) (st1 := [.ref 9]) (σ1 := σ) rfl ?_
      refine tw_ra rfl ?_
      show tw_P L xs _ 148 3 [.ref 1, .int (nI i), .int y] [.ref 9] σ _
      refine tw_sg 3 (i1 := 6) (ls1 := [.ref 1, .int (nI i), .int y]) (st1 := [.int (nI 3), .int y, .int (nI i), .ref 9]) (σ1 := σ) rfl ?_
      refine tw_cl1 rfl (rfl) (by decide) (e) ?_
      rintro _ _ ⟨rfl, rfl⟩
      show tw_P L xs _ 148 7 [.ref 1, .int (nI i), .int y] [.int (-1)] σ _
      refine tw_ri rfl (rfl) ?_
      refine ⟨_, rfl, ?_⟩
      show tw_P L xs _ 218 0 [.ref 88, .int (nI i), .int y] [] σ _
      refine tw_sg 5 (i1 := 5) (ls1 := [.ref 88, .int (nI i), .int y]) (st1 := [.int y, .int (nI i), .ref 98, .ref 88]) (σ1 := σ) rfl ?_
      refine tw_cl1 rfl (rfl) (by decide) (tw_e_asked0b_98 hn89 hr90 hr50 hn10 hi hy) ?_
      rintro _ _ ⟨rfl, rfl⟩
      show tw_P L xs _ 218 6 [.ref 88, .int (nI i), .int y] [.int (-1)] σ _
      refine tw_ri rfl (rfl) ?_
      exact ⟨rfl, hI⟩
  · skip
    show tw_P L xs _ 148 0 [.ref 1, .int x, .int y] [] σ _
    refine tw_sg 2 (i1 := 2) (ls1 := [.ref 1, .int x, .int y]) (st1 := [.ref 6]) (σ1 := σ) rfl ?_
    refine tw_cl0 59 rfl (rfl) (by decide) ?_
    show tw_P L xs _ 83 0 [.ref 6] [] σ _
    refine tw_sg 2 (i1 := 2) (ls1 := [.ref 6]) (st1 := [.ref 9]) (σ1 := σ) rfl ?_
    refine tw_ra rfl ?_
    show tw_P L xs _ 148 3 [.ref 1, .int x, .int y] [.ref 9] σ _
    refine tw_sg 3 (i1 := 6) (ls1 := [.ref 1, .int x, .int y]) (st1 := [.int (nI 3), .int y, .int x, .ref 9]) (σ1 := σ) rfl ?_
    refine tw_cl1 rfl (rfl) (by decide) (tw_e_cell0a hr9 hx) ?_
    rintro _ _ ⟨rfl, rfl⟩
    show tw_P L xs _ 148 7 [.ref 1, .int x, .int y] [.int (-1)] σ _
    refine tw_ri rfl (rfl) ?_
    refine ⟨_, rfl, ?_⟩
    show tw_P L xs _ 218 0 [.ref 88, .int x, .int y] [] σ _
    refine tw_sg 5 (i1 := 5) (ls1 := [.ref 88, .int x, .int y]) (st1 := [.int y, .int x, .ref 98, .ref 88]) (σ1 := σ) rfl ?_
    refine tw_cl1 rfl (rfl) (by decide) (tw_e_asked0a_98 hr90 hr50 hx) ?_
    rintro _ _ ⟨rfl, rfl⟩
    show tw_P L xs _ 218 6 [.ref 88, .int x, .int y] [.int (-1)] σ _
    refine tw_ri rfl (rfl) ?_
    exact ⟨rfl, hI⟩
end tw_s25
end
section
/-! what is still owed of single calls -/
theorem tw_o_feed {L : Nat} {xs : Nat → Int32} (x : Int32) : tw_op L xs 132 187 [.int x] := sorry
theorem tw_o_clear {L : Nat} {xs : Nat → Int32} : tw_op L xs 133 188 [] := sorry
theorem tw_o_thread {L : Nat} {xs : Nat → Int32} : tw_op L xs 134 197 [] := sorry
theorem tw_o_law {L : Nat} {xs : Nat → Int32} : tw_op L xs 135 194 [] := sorry
theorem tw_o_card {L : Nat} {xs : Nat → Int32} (x : Int32) (y : Int32) : tw_op L xs 136 199 [.int x, .int y] := sorry
theorem tw_o_slant {L : Nat} {xs : Nat → Int32} (x : Int32) : tw_op L xs 137 200 [.int x] := sorry
theorem tw_o_place {L : Nat} {xs : Nat → Int32} (x : Int32) (y : Int32) : tw_op L xs 138 201 [.int x, .int y] := sorry
theorem tw_o_recolour {L : Nat} {xs : Nat → Int32} (x : Int32) (y : Int32) (w : Int32) : tw_op L xs 139 202 [.int x, .int y, .int w] := sorry
theorem tw_o_turn {L : Nat} {xs : Nat → Int32} (x : Int32) (y : Int32) : tw_op L xs 140 209 [.int x, .int y] := sorry
theorem tw_o_pack {L : Nat} {xs : Nat → Int32} (x : Int32) (y : Int32) : tw_op L xs 141 210 [.int x, .int y] := sorry
theorem tw_o_weave {L : Nat} {xs : Nat → Int32} (x : Int32) : tw_op L xs 143 212 [.int x] := sorry
theorem tw_o_unweave {L : Nat} {xs : Nat → Int32} (x : Int32) : tw_op L xs 144 213 [.int x] := sorry
theorem tw_o_returns {L : Nat} {xs : Nat → Int32} : tw_op L xs 149 223 [] := sorry
theorem tw_o_flat {L : Nat} {xs : Nat → Int32} : tw_op L xs 150 224 [] := sorry
theorem tw_o_jam {L : Nat} {xs : Nat → Int32} : tw_op L xs 151 225 [] := sorry
theorem tw_o_undoing {L : Nat} {xs : Nat → Int32} (x : Int32) (y : Int32) : tw_op L xs 152 227 [.int x, .int y] := sorry
theorem tw_o_paint {L : Nat} {xs : Nat → Int32} (x : Int32) (y : Int32) (w : Int32) : tw_op L xs 153 228 [.int x, .int y, .int w] := sorry
theorem tw_o_lines {L : Nat} {xs : Nat → Int32} (x : Int32) : tw_op L xs 154 229 [.int x] := sorry
theorem tw_o_draft {L : Nat} {xs : Nat → Int32} (x : Int32) (y : Int32) : tw_op L xs 155 233 [.int x, .int y] := sorry
theorem tw_o_fewest {L : Nat} {xs : Nat → Int32} (x : Int32) : tw_op L xs 156 234 [.int x] := sorry
theorem tw_o_weaveDraft {L : Nat} {xs : Nat → Int32} : tw_op L xs 158 235 [] := sorry
theorem tw_o_matches {L : Nat} {xs : Nat → Int32} (x : Int32) : tw_op L xs 159 236 [.int x] := sorry
theorem tw_o_period {L : Nat} {xs : Nat → Int32} : tw_op L xs 160 238 [] := sorry
theorem tw_o_mirrors {L : Nat} {xs : Nat → Int32} : tw_op L xs 161 239 [] := sorry
theorem tw_o_run {L : Nat} {xs : Nat → Int32} (x : Int32) : tw_op L xs 162 240 [.int x] := sorry
theorem tw_o_colours {L : Nat} {xs : Nat → Int32} (x : Int32) (y : Int32) : tw_op L xs 163 242 [.int x, .int y] := sorry
theorem tw_o_ranked {L : Nat} {xs : Nat → Int32} (x : Int32) : tw_op L xs 164 244 [.int x] := sorry
theorem tw_o_alike {L : Nat} {xs : Nat → Int32} (x : Int32) (y : Int32) : tw_op L xs 165 245 [.int x, .int y] := sorry
theorem tw_o_faces {L : Nat} {xs : Nat → Int32} (x : Int32) : tw_op L xs 166 246 [.int x] := sorry
theorem tw_o_spell {L : Nat} {xs : Nat → Int32} : tw_op L xs 167 247 [] := sorry
theorem tw_o_paper {L : Nat} {xs : Nat → Int32} (x : Int32) : tw_op L xs 168 248 [.int x] := sorry
theorem tw_o_told {L : Nat} {xs : Nat → Int32} (x : Int32) : tw_op L xs 169 249 [.int x] := sorry
theorem tw_o_list {L : Nat} {xs : Nat → Int32} (x : Int32) (y : Int32) : tw_op L xs 170 251 [.int x, .int y] := sorry
theorem tw_o_set {L : Nat} {xs : Nat → Int32} (x : Int32) (y : Int32) (w : Int32) : tw_op L xs 171 252 [.int x, .int y, .int w] := sorry
theorem tw_o_get {L : Nat} {xs : Nat → Int32} (x : Int32) (y : Int32) : tw_op L xs 172 253 [.int x, .int y] := sorry
theorem tw_o_lay {L : Nat} {xs : Nat → Int32} (x : Int32) (y : Int32) (w : Int32) : tw_op L xs 173 254 [.int x, .int y, .int w] := sorry
theorem tw_o_judge {L : Nat} {xs : Nat → Int32} (x : Int32) (y : Int32) (w : Int32) : tw_op L xs 174 255 [.int x, .int y, .int w] := sorry
theorem tw_o_image {L : Nat} {xs : Nat → Int32} : tw_op L xs 175 258 [] := sorry
theorem tw_o_undo {L : Nat} {xs : Nat → Int32} : tw_op L xs 176 259 [] := sorry
end
section
/-! the law's loop, its calls one by one (laid by program), and the whole run -/
section tw_L
variable {L : Nat} {xs : Nat → Int32} {σ : tw_Mem} {Q : Option Value → tw_Mem → Prop} {d m i pc ln a b j : Nat} {z x : Int32} {ts : List Nat} {ls st : List Value}
theorem tw_sl0 (h : tw_fetch m i = some (pc, ln, .iaload, a, b, z, ts)) (hx : x = nI j) (hj : j < L) (hL : L ≤ 2048) (kk : tw_P L xs d m (i + 1) ls (.int (xs j) :: st) σ Q) : tw_P L xs d m i ls (.int x :: .ref 0 :: st) σ Q := by
  subst hx
  refine tw_onestep h ?_ kk
  have e1 : (nI j).toNatClampNeg = j := tw_nclamp (by omega)
  have e2 : ¬ nI j < 0 := tw_nge0 (by omega)
  show (if Nat.beq 0 0 then (if !(decide (nI j < 0)) && Nat.blt (nI j).toNatClampNeg L then tw_go (i + 1) ls (.int (xs (nI j).toNatClampNeg) :: st) none σ else none) else if tw_isA 0 20 none (nI j) then tw_go (i + 1) ls (.int (σ 0 (nI j).toNatClampNeg) :: st) none σ else none) = _
  rw [if_pos (by rfl), e1, if_pos (by simp [e2, Nat.blt_eq, hj])]
  rfl
theorem tw_slen0 (h : tw_fetch m i = some (pc, ln, .arraylength, a, b, z, ts)) (kk : tw_P L xs d m (i + 1) ls (.int (nI L) :: st) σ Q) : tw_P L xs d m i ls (.ref 0 :: st) σ Q := tw_onestep h rfl kk
theorem tw_lm4 (h : L ≤ 2048) (hi : i ≤ 4096) : (nI L - nI 4 < nI i) = (L < i + 4) := by
  by_cases h4 : 4 ≤ L
  · rw [tw_nsub h4, tw_nlt (by omega) (by omega)]
    exact propext (by omega)
  · have : L = 0 ∨ L = 1 ∨ L = 2 ∨ L = 3 := by omega
    have e : nI L - nI 4 < nI 0 := by rcases this with rfl | rfl | rfl | rfl <;> decide
    have e2 := tw_neg_lt (n := i) e (by omega)
    exact propext ⟨fun _ => by omega, fun _ => e2⟩
theorem tw_lt_of_le' {u : Int32} (h : nI 43 ≤ u) : nI 42 < u := by
  rw [Int32.le_iff_toInt_le, tw_ntoI (by decide)] at h
  rw [Int32.lt_iff_toInt_lt, tw_ntoI (by decide)]
  omega
set_option maxRecDepth 100000 in
theorem tw_case0 (hI : tw_Inv σ) (hi : i + 4 ≤ L) (hL : L ≤ 2048) (hop : tw_op L xs 132 187 [.int (xs (i + 1))]) (kk : ∀ σ2, tw_Inv σ2 → tw_P L xs 100 264 873 [.ref 0, .ref 1, .ref 88, .int (nI i)] [] σ2 Q) : tw_P L xs 100 264 22 [.ref 0, .ref 1, .ref 88, .int (nI i)] [] σ Q := by
  refine tw_sgn 5 (i1 := 27) (ls0 := [.ref 0, .ref 1, .ref 88, .int (nI i)]) (st0 := [.int (nI i + nI 1), .ref 0, .ref 1]) (σ0 := _) (ls1 := [.ref 0, .ref 1, .ref 88, .int (nI i)]) (st1 := [.int (nI (i + 1)), .ref 0, .ref 1]) (σ1 := _) rfl rfl (by rw [tw_nadd]) rfl ?_
  refine tw_sl0 rfl rfl (by omega) hL ?_
  refine tw_cl1 rfl rfl (by decide) (hop σ hI) ?_
  rintro _ σ1 ⟨u, rfl, hE⟩
  show tw_P L xs _ 264 29 [.ref 0, .ref 1, .ref 88, .int (nI i)] [.int u] σ1 _
  refine tw_sgn 5 (i1 := 34) (ls0 := [.ref 0, .ref 1, .ref 88, .int (nI i)]) (st0 := [.int (nI i + nI 1), .ref 0, .ref 88, .int u]) (σ0 := _) (ls1 := [.ref 0, .ref 1, .ref 88, .int (nI i)]) (st1 := [.int (nI (i + 1)), .ref 0, .ref 88, .int u]) (σ1 := _) rfl rfl (by rw [tw_nadd]) rfl ?_
  refine tw_sl0 rfl rfl (by omega) hL ?_
  refine tw_cl1 rfl rfl (by decide) hE ?_
  rintro _ σ2 ⟨rfl, hI2⟩
  show tw_P L xs _ 264 36 [.ref 0, .ref 1, .ref 88, .int (nI i)] [.int u, .int u] σ2 _
  exact tw_biT (c := .eq) rfl (by rw [tw_ceq]) (kk σ2 hI2)
set_option maxRecDepth 100000 in
theorem tw_case1 (hI : tw_Inv σ) (hi : i + 4 ≤ L) (hL : L ≤ 2048) (hop : tw_op L xs 133 188 []) (kk : ∀ σ2, tw_Inv σ2 → tw_P L xs 100 264 873 [.ref 0, .ref 1, .ref 88, .int (nI i)] [] σ2 Q) : tw_P L xs 100 264 39 [.ref 0, .ref 1, .ref 88, .int (nI i)] [] σ Q := by
  refine tw_sg 1 (i1 := 40) (ls1 := [.ref 0, .ref 1, .ref 88, .int (nI i)]) (st1 := [.ref 1]) (σ1 := _) rfl ?_
  refine tw_cl1 rfl rfl (by decide) (hop σ hI) ?_
  rintro _ σ1 ⟨u, rfl, hE⟩
  show tw_P L xs _ 264 41 [.ref 0, .ref 1, .ref 88, .int (nI i)] [.int u] σ1 _
  refine tw_sg 1 (i1 := 42) (ls1 := [.ref 0, .ref 1, .ref 88, .int (nI i)]) (st1 := [.ref 88, .int u]) (σ1 := _) rfl ?_
  refine tw_cl1 rfl rfl (by decide) hE ?_
  rintro _ σ2 ⟨rfl, hI2⟩
  show tw_P L xs _ 264 43 [.ref 0, .ref 1, .ref 88, .int (nI i)] [.int u, .int u] σ2 _
  exact tw_biT (c := .eq) rfl (by rw [tw_ceq]) (kk σ2 hI2)
set_option maxRecDepth 100000 in
theorem tw_case2 (hI : tw_Inv σ) (hi : i + 4 ≤ L) (hL : L ≤ 2048) (hop : tw_op L xs 134 197 []) (kk : ∀ σ2, tw_Inv σ2 → tw_P L xs 100 264 873 [.ref 0, .ref 1, .ref 88, .int (nI i)] [] σ2 Q) : tw_P L xs 100 264 46 [.ref 0, .ref 1, .ref 88, .int (nI i)] [] σ Q := by
  refine tw_sg 1 (i1 := 47) (ls1 := [.ref 0, .ref 1, .ref 88, .int (nI i)]) (st1 := [.ref 1]) (σ1 := _) rfl ?_
  refine tw_cl1 rfl rfl (by decide) (hop σ hI) ?_
  rintro _ σ1 ⟨u, rfl, hE⟩
  show tw_P L xs _ 264 48 [.ref 0, .ref 1, .ref 88, .int (nI i)] [.int u] σ1 _
  refine tw_sg 1 (i1 := 49) (ls1 := [.ref 0, .ref 1, .ref 88, .int (nI i)]) (st1 := [.ref 88, .int u]) (σ1 := _) rfl ?_
  refine tw_cl1 rfl rfl (by decide) hE ?_
  rintro _ σ2 ⟨rfl, hI2⟩
  show tw_P L xs _ 264 50 [.ref 0, .ref 1, .ref 88, .int (nI i)] [.int u, .int u] σ2 _
  exact tw_biT (c := .eq) rfl (by rw [tw_ceq]) (kk σ2 hI2)
set_option maxRecDepth 100000 in
theorem tw_case3 (hI : tw_Inv σ) (hi : i + 4 ≤ L) (hL : L ≤ 2048) (hop : tw_op L xs 135 194 []) (kk : ∀ σ2, tw_Inv σ2 → tw_P L xs 100 264 873 [.ref 0, .ref 1, .ref 88, .int (nI i)] [] σ2 Q) : tw_P L xs 100 264 53 [.ref 0, .ref 1, .ref 88, .int (nI i)] [] σ Q := by
  refine tw_sg 1 (i1 := 54) (ls1 := [.ref 0, .ref 1, .ref 88, .int (nI i)]) (st1 := [.ref 1]) (σ1 := _) rfl ?_
  refine tw_cl1 rfl rfl (by decide) (hop σ hI) ?_
  rintro _ σ1 ⟨u, rfl, hE⟩
  show tw_P L xs _ 264 55 [.ref 0, .ref 1, .ref 88, .int (nI i)] [.int u] σ1 _
  refine tw_sg 1 (i1 := 56) (ls1 := [.ref 0, .ref 1, .ref 88, .int (nI i)]) (st1 := [.ref 88, .int u]) (σ1 := _) rfl ?_
  refine tw_cl1 rfl rfl (by decide) hE ?_
  rintro _ σ2 ⟨rfl, hI2⟩
  show tw_P L xs _ 264 57 [.ref 0, .ref 1, .ref 88, .int (nI i)] [.int u, .int u] σ2 _
  exact tw_biT (c := .eq) rfl (by rw [tw_ceq]) (kk σ2 hI2)
set_option maxRecDepth 100000 in
theorem tw_case4 (hI : tw_Inv σ) (hi : i + 4 ≤ L) (hL : L ≤ 2048) (hop : tw_op L xs 136 199 [.int (xs (i + 1)), .int (xs (i + 2))]) (kk : ∀ σ2, tw_Inv σ2 → tw_P L xs 100 264 873 [.ref 0, .ref 1, .ref 88, .int (nI i)] [] σ2 Q) : tw_P L xs 100 264 60 [.ref 0, .ref 1, .ref 88, .int (nI i)] [] σ Q := by
  refine tw_sgn 5 (i1 := 65) (ls0 := [.ref 0, .ref 1, .ref 88, .int (nI i)]) (st0 := [.int (nI i + nI 1), .ref 0, .ref 1]) (σ0 := _) (ls1 := [.ref 0, .ref 1, .ref 88, .int (nI i)]) (st1 := [.int (nI (i + 1)), .ref 0, .ref 1]) (σ1 := _) rfl rfl (by rw [tw_nadd]) rfl ?_
  refine tw_sl0 rfl rfl (by omega) hL ?_
  refine tw_sgn 4 (i1 := 70) (ls0 := [.ref 0, .ref 1, .ref 88, .int (nI i)]) (st0 := [.int (nI i + nI 2), .ref 0, .int (xs (i + 1)), .ref 1]) (σ0 := _) (ls1 := [.ref 0, .ref 1, .ref 88, .int (nI i)]) (st1 := [.int (nI (i + 2)), .ref 0, .int (xs (i + 1)), .ref 1]) (σ1 := _) rfl rfl (by rw [tw_nadd]) rfl ?_
  refine tw_sl0 rfl rfl (by omega) hL ?_
  refine tw_cl1 rfl rfl (by decide) (hop σ hI) ?_
  rintro _ σ1 ⟨u, rfl, hE⟩
  show tw_P L xs _ 264 72 [.ref 0, .ref 1, .ref 88, .int (nI i)] [.int u] σ1 _
  refine tw_sgn 5 (i1 := 77) (ls0 := [.ref 0, .ref 1, .ref 88, .int (nI i)]) (st0 := [.int (nI i + nI 1), .ref 0, .ref 88, .int u]) (σ0 := _) (ls1 := [.ref 0, .ref 1, .ref 88, .int (nI i)]) (st1 := [.int (nI (i + 1)), .ref 0, .ref 88, .int u]) (σ1 := _) rfl rfl (by rw [tw_nadd]) rfl ?_
  refine tw_sl0 rfl rfl (by omega) hL ?_
  refine tw_sgn 4 (i1 := 82) (ls0 := [.ref 0, .ref 1, .ref 88, .int (nI i)]) (st0 := [.int (nI i + nI 2), .ref 0, .int (xs (i + 1)), .ref 88, .int u]) (σ0 := _) (ls1 := [.ref 0, .ref 1, .ref 88, .int (nI i)]) (st1 := [.int (nI (i + 2)), .ref 0, .int (xs (i + 1)), .ref 88, .int u]) (σ1 := _) rfl rfl (by rw [tw_nadd]) rfl ?_
  refine tw_sl0 rfl rfl (by omega) hL ?_
  refine tw_cl1 rfl rfl (by decide) hE ?_
  rintro _ σ2 ⟨rfl, hI2⟩
  show tw_P L xs _ 264 84 [.ref 0, .ref 1, .ref 88, .int (nI i)] [.int u, .int u] σ2 _
  exact tw_biT (c := .eq) rfl (by rw [tw_ceq]) (kk σ2 hI2)
set_option maxRecDepth 100000 in
theorem tw_case5 (hI : tw_Inv σ) (hi : i + 4 ≤ L) (hL : L ≤ 2048) (hop : tw_op L xs 137 200 [.int (xs (i + 1))]) (kk : ∀ σ2, tw_Inv σ2 → tw_P L xs 100 264 873 [.ref 0, .ref 1, .ref 88, .int (nI i)] [] σ2 Q) : tw_P L xs 100 264 87 [.ref 0, .ref 1, .ref 88, .int (nI i)] [] σ Q := by
  refine tw_sgn 5 (i1 := 92) (ls0 := [.ref 0, .ref 1, .ref 88, .int (nI i)]) (st0 := [.int (nI i + nI 1), .ref 0, .ref 1]) (σ0 := _) (ls1 := [.ref 0, .ref 1, .ref 88, .int (nI i)]) (st1 := [.int (nI (i + 1)), .ref 0, .ref 1]) (σ1 := _) rfl rfl (by rw [tw_nadd]) rfl ?_
  refine tw_sl0 rfl rfl (by omega) hL ?_
  refine tw_cl1 rfl rfl (by decide) (hop σ hI) ?_
  rintro _ σ1 ⟨u, rfl, hE⟩
  show tw_P L xs _ 264 94 [.ref 0, .ref 1, .ref 88, .int (nI i)] [.int u] σ1 _
  refine tw_sgn 5 (i1 := 99) (ls0 := [.ref 0, .ref 1, .ref 88, .int (nI i)]) (st0 := [.int (nI i + nI 1), .ref 0, .ref 88, .int u]) (σ0 := _) (ls1 := [.ref 0, .ref 1, .ref 88, .int (nI i)]) (st1 := [.int (nI (i + 1)), .ref 0, .ref 88, .int u]) (σ1 := _) rfl rfl (by rw [tw_nadd]) rfl ?_
  refine tw_sl0 rfl rfl (by omega) hL ?_
  refine tw_cl1 rfl rfl (by decide) hE ?_
  rintro _ σ2 ⟨rfl, hI2⟩
  show tw_P L xs _ 264 101 [.ref 0, .ref 1, .ref 88, .int (nI i)] [.int u, .int u] σ2 _
  exact tw_biT (c := .eq) rfl (by rw [tw_ceq]) (kk σ2 hI2)
set_option maxRecDepth 100000 in
theorem tw_case6 (hI : tw_Inv σ) (hi : i + 4 ≤ L) (hL : L ≤ 2048) (hop : tw_op L xs 138 201 [.int (xs (i + 1)), .int (xs (i + 2))]) (kk : ∀ σ2, tw_Inv σ2 → tw_P L xs 100 264 873 [.ref 0, .ref 1, .ref 88, .int (nI i)] [] σ2 Q) : tw_P L xs 100 264 104 [.ref 0, .ref 1, .ref 88, .int (nI i)] [] σ Q := by
  refine tw_sgn 5 (i1 := 109) (ls0 := [.ref 0, .ref 1, .ref 88, .int (nI i)]) (st0 := [.int (nI i + nI 1), .ref 0, .ref 1]) (σ0 := _) (ls1 := [.ref 0, .ref 1, .ref 88, .int (nI i)]) (st1 := [.int (nI (i + 1)), .ref 0, .ref 1]) (σ1 := _) rfl rfl (by rw [tw_nadd]) rfl ?_
  refine tw_sl0 rfl rfl (by omega) hL ?_
  refine tw_sgn 4 (i1 := 114) (ls0 := [.ref 0, .ref 1, .ref 88, .int (nI i)]) (st0 := [.int (nI i + nI 2), .ref 0, .int (xs (i + 1)), .ref 1]) (σ0 := _) (ls1 := [.ref 0, .ref 1, .ref 88, .int (nI i)]) (st1 := [.int (nI (i + 2)), .ref 0, .int (xs (i + 1)), .ref 1]) (σ1 := _) rfl rfl (by rw [tw_nadd]) rfl ?_
  refine tw_sl0 rfl rfl (by omega) hL ?_
  refine tw_cl1 rfl rfl (by decide) (hop σ hI) ?_
  rintro _ σ1 ⟨u, rfl, hE⟩
  show tw_P L xs _ 264 116 [.ref 0, .ref 1, .ref 88, .int (nI i)] [.int u] σ1 _
  refine tw_sgn 5 (i1 := 121) (ls0 := [.ref 0, .ref 1, .ref 88, .int (nI i)]) (st0 := [.int (nI i + nI 1), .ref 0, .ref 88, .int u]) (σ0 := _) (ls1 := [.ref 0, .ref 1, .ref 88, .int (nI i)]) (st1 := [.int (nI (i + 1)), .ref 0, .ref 88, .int u]) (σ1 := _) rfl rfl (by rw [tw_nadd]) rfl ?_
  refine tw_sl0 rfl rfl (by omega) hL ?_
  refine tw_sgn 4 (i1 := 126) (ls0 := [.ref 0, .ref 1, .ref 88, .int (nI i)]) (st0 := [.int (nI i + nI 2), .ref 0, .int (xs (i + 1)), .ref 88, .int u]) (σ0 := _) (ls1 := [.ref 0, .ref 1, .ref 88, .int (nI i)]) (st1 := [.int (nI (i + 2)), .ref 0, .int (xs (i + 1)), .ref 88, .int u]) (σ1 := _) rfl rfl (by rw [tw_nadd]) rfl ?_
  refine tw_sl0 rfl rfl (by omega) hL ?_
  refine tw_cl1 rfl rfl (by decide) hE ?_
  rintro _ σ2 ⟨rfl, hI2⟩
  show tw_P L xs _ 264 128 [.ref 0, .ref 1, .ref 88, .int (nI i)] [.int u, .int u] σ2 _
  exact tw_biT (c := .eq) rfl (by rw [tw_ceq]) (kk σ2 hI2)
set_option maxRecDepth 100000 in
theorem tw_case7 (hI : tw_Inv σ) (hi : i + 4 ≤ L) (hL : L ≤ 2048) (hop : tw_op L xs 139 202 [.int (xs (i + 1)), .int (xs (i + 2)), .int (xs (i + 3))]) (kk : ∀ σ2, tw_Inv σ2 → tw_P L xs 100 264 873 [.ref 0, .ref 1, .ref 88, .int (nI i)] [] σ2 Q) : tw_P L xs 100 264 131 [.ref 0, .ref 1, .ref 88, .int (nI i)] [] σ Q := by
  refine tw_sgn 5 (i1 := 136) (ls0 := [.ref 0, .ref 1, .ref 88, .int (nI i)]) (st0 := [.int (nI i + nI 1), .ref 0, .ref 1]) (σ0 := _) (ls1 := [.ref 0, .ref 1, .ref 88, .int (nI i)]) (st1 := [.int (nI (i + 1)), .ref 0, .ref 1]) (σ1 := _) rfl rfl (by rw [tw_nadd]) rfl ?_
  refine tw_sl0 rfl rfl (by omega) hL ?_
  refine tw_sgn 4 (i1 := 141) (ls0 := [.ref 0, .ref 1, .ref 88, .int (nI i)]) (st0 := [.int (nI i + nI 2), .ref 0, .int (xs (i + 1)), .ref 1]) (σ0 := _) (ls1 := [.ref 0, .ref 1, .ref 88, .int (nI i)]) (st1 := [.int (nI (i + 2)), .ref 0, .int (xs (i + 1)), .ref 1]) (σ1 := _) rfl rfl (by rw [tw_nadd]) rfl ?_
  refine tw_sl0 rfl rfl (by omega) hL ?_
  refine tw_sgn 4 (i1 := 146) (ls0 := [.ref 0, .ref 1, .ref 88, .int (nI i)]) (st0 := [.int (nI i + nI 3), .ref 0, .int (xs (i + 2)), .int (xs (i + 1)), .ref 1]) (σ0 := _) (ls1 := [.ref 0, .ref 1, .ref 88, .int (nI i)]) (st1 := [.int (nI (i + 3)), .ref 0, .int (xs (i + 2)), .int (xs (i + 1)), .ref 1]) (σ1 := _) rfl rfl (by rw [tw_nadd]) rfl ?_
  refine tw_sl0 rfl rfl (by omega) hL ?_
  refine tw_cl1 rfl rfl (by decide) (hop σ hI) ?_
  rintro _ σ1 ⟨u, rfl, hE⟩
  show tw_P L xs _ 264 148 [.ref 0, .ref 1, .ref 88, .int (nI i)] [.int u] σ1 _
  refine tw_sgn 5 (i1 := 153) (ls0 := [.ref 0, .ref 1, .ref 88, .int (nI i)]) (st0 := [.int (nI i + nI 1), .ref 0, .ref 88, .int u]) (σ0 := _) (ls1 := [.ref 0, .ref 1, .ref 88, .int (nI i)]) (st1 := [.int (nI (i + 1)), .ref 0, .ref 88, .int u]) (σ1 := _) rfl rfl (by rw [tw_nadd]) rfl ?_
  refine tw_sl0 rfl rfl (by omega) hL ?_
  refine tw_sgn 4 (i1 := 158) (ls0 := [.ref 0, .ref 1, .ref 88, .int (nI i)]) (st0 := [.int (nI i + nI 2), .ref 0, .int (xs (i + 1)), .ref 88, .int u]) (σ0 := _) (ls1 := [.ref 0, .ref 1, .ref 88, .int (nI i)]) (st1 := [.int (nI (i + 2)), .ref 0, .int (xs (i + 1)), .ref 88, .int u]) (σ1 := _) rfl rfl (by rw [tw_nadd]) rfl ?_
  refine tw_sl0 rfl rfl (by omega) hL ?_
  refine tw_sgn 4 (i1 := 163) (ls0 := [.ref 0, .ref 1, .ref 88, .int (nI i)]) (st0 := [.int (nI i + nI 3), .ref 0, .int (xs (i + 2)), .int (xs (i + 1)), .ref 88, .int u]) (σ0 := _) (ls1 := [.ref 0, .ref 1, .ref 88, .int (nI i)]) (st1 := [.int (nI (i + 3)), .ref 0, .int (xs (i + 2)), .int (xs (i + 1)), .ref 88, .int u]) (σ1 := _) rfl rfl (by rw [tw_nadd]) rfl ?_
  refine tw_sl0 rfl rfl (by omega) hL ?_
  refine tw_cl1 rfl rfl (by decide) hE ?_
  rintro _ σ2 ⟨rfl, hI2⟩
  show tw_P L xs _ 264 165 [.ref 0, .ref 1, .ref 88, .int (nI i)] [.int u, .int u] σ2 _
  exact tw_biT (c := .eq) rfl (by rw [tw_ceq]) (kk σ2 hI2)
set_option maxRecDepth 100000 in
theorem tw_case8 (hI : tw_Inv σ) (hi : i + 4 ≤ L) (hL : L ≤ 2048) (hop : tw_op L xs 140 209 [.int (xs (i + 1)), .int (xs (i + 2))]) (kk : ∀ σ2, tw_Inv σ2 → tw_P L xs 100 264 873 [.ref 0, .ref 1, .ref 88, .int (nI i)] [] σ2 Q) : tw_P L xs 100 264 168 [.ref 0, .ref 1, .ref 88, .int (nI i)] [] σ Q := by
  refine tw_sgn 5 (i1 := 173) (ls0 := [.ref 0, .ref 1, .ref 88, .int (nI i)]) (st0 := [.int (nI i + nI 1), .ref 0, .ref 1]) (σ0 := _) (ls1 := [.ref 0, .ref 1, .ref 88, .int (nI i)]) (st1 := [.int (nI (i + 1)), .ref 0, .ref 1]) (σ1 := _) rfl rfl (by rw [tw_nadd]) rfl ?_
  refine tw_sl0 rfl rfl (by omega) hL ?_
  refine tw_sgn 4 (i1 := 178) (ls0 := [.ref 0, .ref 1, .ref 88, .int (nI i)]) (st0 := [.int (nI i + nI 2), .ref 0, .int (xs (i + 1)), .ref 1]) (σ0 := _) (ls1 := [.ref 0, .ref 1, .ref 88, .int (nI i)]) (st1 := [.int (nI (i + 2)), .ref 0, .int (xs (i + 1)), .ref 1]) (σ1 := _) rfl rfl (by rw [tw_nadd]) rfl ?_
  refine tw_sl0 rfl rfl (by omega) hL ?_
  refine tw_cl1 rfl rfl (by decide) (hop σ hI) ?_
  rintro _ σ1 ⟨u, rfl, hE⟩
  show tw_P L xs _ 264 180 [.ref 0, .ref 1, .ref 88, .int (nI i)] [.int u] σ1 _
  refine tw_sgn 5 (i1 := 185) (ls0 := [.ref 0, .ref 1, .ref 88, .int (nI i)]) (st0 := [.int (nI i + nI 1), .ref 0, .ref 88, .int u]) (σ0 := _) (ls1 := [.ref 0, .ref 1, .ref 88, .int (nI i)]) (st1 := [.int (nI (i + 1)), .ref 0, .ref 88, .int u]) (σ1 := _) rfl rfl (by rw [tw_nadd]) rfl ?_
  refine tw_sl0 rfl rfl (by omega) hL ?_
  refine tw_sgn 4 (i1 := 190) (ls0 := [.ref 0, .ref 1, .ref 88, .int (nI i)]) (st0 := [.int (nI i + nI 2), .ref 0, .int (xs (i + 1)), .ref 88, .int u]) (σ0 := _) (ls1 := [.ref 0, .ref 1, .ref 88, .int (nI i)]) (st1 := [.int (nI (i + 2)), .ref 0, .int (xs (i + 1)), .ref 88, .int u]) (σ1 := _) rfl rfl (by rw [tw_nadd]) rfl ?_
  refine tw_sl0 rfl rfl (by omega) hL ?_
  refine tw_cl1 rfl rfl (by decide) hE ?_
  rintro _ σ2 ⟨rfl, hI2⟩
  show tw_P L xs _ 264 192 [.ref 0, .ref 1, .ref 88, .int (nI i)] [.int u, .int u] σ2 _
  exact tw_biT (c := .eq) rfl (by rw [tw_ceq]) (kk σ2 hI2)
set_option maxRecDepth 100000 in
theorem tw_case9 (hI : tw_Inv σ) (hi : i + 4 ≤ L) (hL : L ≤ 2048) (hop : tw_op L xs 141 210 [.int (xs (i + 1)), .int (xs (i + 2))]) (kk : ∀ σ2, tw_Inv σ2 → tw_P L xs 100 264 873 [.ref 0, .ref 1, .ref 88, .int (nI i)] [] σ2 Q) : tw_P L xs 100 264 195 [.ref 0, .ref 1, .ref 88, .int (nI i)] [] σ Q := by
  refine tw_sgn 5 (i1 := 200) (ls0 := [.ref 0, .ref 1, .ref 88, .int (nI i)]) (st0 := [.int (nI i + nI 1), .ref 0, .ref 1]) (σ0 := _) (ls1 := [.ref 0, .ref 1, .ref 88, .int (nI i)]) (st1 := [.int (nI (i + 1)), .ref 0, .ref 1]) (σ1 := _) rfl rfl (by rw [tw_nadd]) rfl ?_
  refine tw_sl0 rfl rfl (by omega) hL ?_
  refine tw_sgn 4 (i1 := 205) (ls0 := [.ref 0, .ref 1, .ref 88, .int (nI i)]) (st0 := [.int (nI i + nI 2), .ref 0, .int (xs (i + 1)), .ref 1]) (σ0 := _) (ls1 := [.ref 0, .ref 1, .ref 88, .int (nI i)]) (st1 := [.int (nI (i + 2)), .ref 0, .int (xs (i + 1)), .ref 1]) (σ1 := _) rfl rfl (by rw [tw_nadd]) rfl ?_
  refine tw_sl0 rfl rfl (by omega) hL ?_
  refine tw_cl1 rfl rfl (by decide) (hop σ hI) ?_
  rintro _ σ1 ⟨u, rfl, hE⟩
  show tw_P L xs _ 264 207 [.ref 0, .ref 1, .ref 88, .int (nI i)] [.int u] σ1 _
  refine tw_sgn 5 (i1 := 212) (ls0 := [.ref 0, .ref 1, .ref 88, .int (nI i)]) (st0 := [.int (nI i + nI 1), .ref 0, .ref 88, .int u]) (σ0 := _) (ls1 := [.ref 0, .ref 1, .ref 88, .int (nI i)]) (st1 := [.int (nI (i + 1)), .ref 0, .ref 88, .int u]) (σ1 := _) rfl rfl (by rw [tw_nadd]) rfl ?_
  refine tw_sl0 rfl rfl (by omega) hL ?_
  refine tw_sgn 4 (i1 := 217) (ls0 := [.ref 0, .ref 1, .ref 88, .int (nI i)]) (st0 := [.int (nI i + nI 2), .ref 0, .int (xs (i + 1)), .ref 88, .int u]) (σ0 := _) (ls1 := [.ref 0, .ref 1, .ref 88, .int (nI i)]) (st1 := [.int (nI (i + 2)), .ref 0, .int (xs (i + 1)), .ref 88, .int u]) (σ1 := _) rfl rfl (by rw [tw_nadd]) rfl ?_
  refine tw_sl0 rfl rfl (by omega) hL ?_
  refine tw_cl1 rfl rfl (by decide) hE ?_
  rintro _ σ2 ⟨rfl, hI2⟩
  show tw_P L xs _ 264 219 [.ref 0, .ref 1, .ref 88, .int (nI i)] [.int u, .int u] σ2 _
  exact tw_biT (c := .eq) rfl (by rw [tw_ceq]) (kk σ2 hI2)
set_option maxRecDepth 100000 in
theorem tw_case10 (hI : tw_Inv σ) (hi : i + 4 ≤ L) (hL : L ≤ 2048) (hop : tw_op L xs 143 212 [.int (xs (i + 1))]) (kk : ∀ σ2, tw_Inv σ2 → tw_P L xs 100 264 873 [.ref 0, .ref 1, .ref 88, .int (nI i)] [] σ2 Q) : tw_P L xs 100 264 222 [.ref 0, .ref 1, .ref 88, .int (nI i)] [] σ Q := by
  refine tw_sgn 5 (i1 := 227) (ls0 := [.ref 0, .ref 1, .ref 88, .int (nI i)]) (st0 := [.int (nI i + nI 1), .ref 0, .ref 1]) (σ0 := _) (ls1 := [.ref 0, .ref 1, .ref 88, .int (nI i)]) (st1 := [.int (nI (i + 1)), .ref 0, .ref 1]) (σ1 := _) rfl rfl (by rw [tw_nadd]) rfl ?_
  refine tw_sl0 rfl rfl (by omega) hL ?_
  refine tw_cl1 rfl rfl (by decide) (hop σ hI) ?_
  rintro _ σ1 ⟨u, rfl, hE⟩
  show tw_P L xs _ 264 229 [.ref 0, .ref 1, .ref 88, .int (nI i)] [.int u] σ1 _
  refine tw_sgn 5 (i1 := 234) (ls0 := [.ref 0, .ref 1, .ref 88, .int (nI i)]) (st0 := [.int (nI i + nI 1), .ref 0, .ref 88, .int u]) (σ0 := _) (ls1 := [.ref 0, .ref 1, .ref 88, .int (nI i)]) (st1 := [.int (nI (i + 1)), .ref 0, .ref 88, .int u]) (σ1 := _) rfl rfl (by rw [tw_nadd]) rfl ?_
  refine tw_sl0 rfl rfl (by omega) hL ?_
  refine tw_cl1 rfl rfl (by decide) hE ?_
  rintro _ σ2 ⟨rfl, hI2⟩
  show tw_P L xs _ 264 236 [.ref 0, .ref 1, .ref 88, .int (nI i)] [.int u, .int u] σ2 _
  exact tw_biT (c := .eq) rfl (by rw [tw_ceq]) (kk σ2 hI2)
set_option maxRecDepth 100000 in
theorem tw_case11 (hI : tw_Inv σ) (hi : i + 4 ≤ L) (hL : L ≤ 2048) (hop : tw_op L xs 144 213 [.int (xs (i + 1))]) (kk : ∀ σ2, tw_Inv σ2 → tw_P L xs 100 264 873 [.ref 0, .ref 1, .ref 88, .int (nI i)] [] σ2 Q) : tw_P L xs 100 264 239 [.ref 0, .ref 1, .ref 88, .int (nI i)] [] σ Q := by
  refine tw_sgn 5 (i1 := 244) (ls0 := [.ref 0, .ref 1, .ref 88, .int (nI i)]) (st0 := [.int (nI i + nI 1), .ref 0, .ref 1]) (σ0 := _) (ls1 := [.ref 0, .ref 1, .ref 88, .int (nI i)]) (st1 := [.int (nI (i + 1)), .ref 0, .ref 1]) (σ1 := _) rfl rfl (by rw [tw_nadd]) rfl ?_
  refine tw_sl0 rfl rfl (by omega) hL ?_
  refine tw_cl1 rfl rfl (by decide) (hop σ hI) ?_
  rintro _ σ1 ⟨u, rfl, hE⟩
  show tw_P L xs _ 264 246 [.ref 0, .ref 1, .ref 88, .int (nI i)] [.int u] σ1 _
  refine tw_sgn 5 (i1 := 251) (ls0 := [.ref 0, .ref 1, .ref 88, .int (nI i)]) (st0 := [.int (nI i + nI 1), .ref 0, .ref 88, .int u]) (σ0 := _) (ls1 := [.ref 0, .ref 1, .ref 88, .int (nI i)]) (st1 := [.int (nI (i + 1)), .ref 0, .ref 88, .int u]) (σ1 := _) rfl rfl (by rw [tw_nadd]) rfl ?_
  refine tw_sl0 rfl rfl (by omega) hL ?_
  refine tw_cl1 rfl rfl (by decide) hE ?_
  rintro _ σ2 ⟨rfl, hI2⟩
  show tw_P L xs _ 264 253 [.ref 0, .ref 1, .ref 88, .int (nI i)] [.int u, .int u] σ2 _
  exact tw_biT (c := .eq) rfl (by rw [tw_ceq]) (kk σ2 hI2)
set_option maxRecDepth 100000 in
theorem tw_case12 (hI : tw_Inv σ) (hi : i + 4 ≤ L) (hL : L ≤ 2048) (hop : tw_op L xs 145 215 [.int (xs (i + 1)), .int (xs (i + 2))]) (kk : ∀ σ2, tw_Inv σ2 → tw_P L xs 100 264 873 [.ref 0, .ref 1, .ref 88, .int (nI i)] [] σ2 Q) : tw_P L xs 100 264 256 [.ref 0, .ref 1, .ref 88, .int (nI i)] [] σ Q := by
  refine tw_sgn 5 (i1 := 261) (ls0 := [.ref 0, .ref 1, .ref 88, .int (nI i)]) (st0 := [.int (nI i + nI 1), .ref 0, .ref 1]) (σ0 := _) (ls1 := [.ref 0, .ref 1, .ref 88, .int (nI i)]) (st1 := [.int (nI (i + 1)), .ref 0, .ref 1]) (σ1 := _) rfl rfl (by rw [tw_nadd]) rfl ?_
  refine tw_sl0 rfl rfl (by omega) hL ?_
  refine tw_sgn 4 (i1 := 266) (ls0 := [.ref 0, .ref 1, .ref 88, .int (nI i)]) (st0 := [.int (nI i + nI 2), .ref 0, .int (xs (i + 1)), .ref 1]) (σ0 := _) (ls1 := [.ref 0, .ref 1, .ref 88, .int (nI i)]) (st1 := [.int (nI (i + 2)), .ref 0, .int (xs (i + 1)), .ref 1]) (σ1 := _) rfl rfl (by rw [tw_nadd]) rfl ?_
  refine tw_sl0 rfl rfl (by omega) hL ?_
  refine tw_cl1 rfl rfl (by decide) (hop σ hI) ?_
  rintro _ σ1 ⟨u, rfl, hE⟩
  show tw_P L xs _ 264 268 [.ref 0, .ref 1, .ref 88, .int (nI i)] [.int u] σ1 _
  refine tw_sgn 5 (i1 := 273) (ls0 := [.ref 0, .ref 1, .ref 88, .int (nI i)]) (st0 := [.int (nI i + nI 1), .ref 0, .ref 88, .int u]) (σ0 := _) (ls1 := [.ref 0, .ref 1, .ref 88, .int (nI i)]) (st1 := [.int (nI (i + 1)), .ref 0, .ref 88, .int u]) (σ1 := _) rfl rfl (by rw [tw_nadd]) rfl ?_
  refine tw_sl0 rfl rfl (by omega) hL ?_
  refine tw_sgn 4 (i1 := 278) (ls0 := [.ref 0, .ref 1, .ref 88, .int (nI i)]) (st0 := [.int (nI i + nI 2), .ref 0, .int (xs (i + 1)), .ref 88, .int u]) (σ0 := _) (ls1 := [.ref 0, .ref 1, .ref 88, .int (nI i)]) (st1 := [.int (nI (i + 2)), .ref 0, .int (xs (i + 1)), .ref 88, .int u]) (σ1 := _) rfl rfl (by rw [tw_nadd]) rfl ?_
  refine tw_sl0 rfl rfl (by omega) hL ?_
  refine tw_cl1 rfl rfl (by decide) hE ?_
  rintro _ σ2 ⟨rfl, hI2⟩
  show tw_P L xs _ 264 280 [.ref 0, .ref 1, .ref 88, .int (nI i)] [.int u, .int u] σ2 _
  exact tw_biT (c := .eq) rfl (by rw [tw_ceq]) (kk σ2 hI2)
set_option maxRecDepth 100000 in
theorem tw_case13 (hI : tw_Inv σ) (hi : i + 4 ≤ L) (hL : L ≤ 2048) (hop : tw_op L xs 146 216 [.int (xs (i + 1)), .int (xs (i + 2))]) (kk : ∀ σ2, tw_Inv σ2 → tw_P L xs 100 264 873 [.ref 0, .ref 1, .ref 88, .int (nI i)] [] σ2 Q) : tw_P L xs 100 264 283 [.ref 0, .ref 1, .ref 88, .int (nI i)] [] σ Q := by
  refine tw_sgn 5 (i1 := 288) (ls0 := [.ref 0, .ref 1, .ref 88, .int (nI i)]) (st0 := [.int (nI i + nI 1), .ref 0, .ref 1]) (σ0 := _) (ls1 := [.ref 0, .ref 1, .ref 88, .int (nI i)]) (st1 := [.int (nI (i + 1)), .ref 0, .ref 1]) (σ1 := _) rfl rfl (by rw [tw_nadd]) rfl ?_
  refine tw_sl0 rfl rfl (by omega) hL ?_
  refine tw_sgn 4 (i1 := 293) (ls0 := [.ref 0, .ref 1, .ref 88, .int (nI i)]) (st0 := [.int (nI i + nI 2), .ref 0, .int (xs (i + 1)), .ref 1]) (σ0 := _) (ls1 := [.ref 0, .ref 1, .ref 88, .int (nI i)]) (st1 := [.int (nI (i + 2)), .ref 0, .int (xs (i + 1)), .ref 1]) (σ1 := _) rfl rfl (by rw [tw_nadd]) rfl ?_
  refine tw_sl0 rfl rfl (by omega) hL ?_
  refine tw_cl1 rfl rfl (by decide) (hop σ hI) ?_
  rintro _ σ1 ⟨u, rfl, hE⟩
  show tw_P L xs _ 264 295 [.ref 0, .ref 1, .ref 88, .int (nI i)] [.int u] σ1 _
  refine tw_sgn 5 (i1 := 300) (ls0 := [.ref 0, .ref 1, .ref 88, .int (nI i)]) (st0 := [.int (nI i + nI 1), .ref 0, .ref 88, .int u]) (σ0 := _) (ls1 := [.ref 0, .ref 1, .ref 88, .int (nI i)]) (st1 := [.int (nI (i + 1)), .ref 0, .ref 88, .int u]) (σ1 := _) rfl rfl (by rw [tw_nadd]) rfl ?_
  refine tw_sl0 rfl rfl (by omega) hL ?_
  refine tw_sgn 4 (i1 := 305) (ls0 := [.ref 0, .ref 1, .ref 88, .int (nI i)]) (st0 := [.int (nI i + nI 2), .ref 0, .int (xs (i + 1)), .ref 88, .int u]) (σ0 := _) (ls1 := [.ref 0, .ref 1, .ref 88, .int (nI i)]) (st1 := [.int (nI (i + 2)), .ref 0, .int (xs (i + 1)), .ref 88, .int u]) (σ1 := _) rfl rfl (by rw [tw_nadd]) rfl ?_
  refine tw_sl0 rfl rfl (by omega) hL ?_
  refine tw_cl1 rfl rfl (by decide) hE ?_
  rintro _ σ2 ⟨rfl, hI2⟩
  show tw_P L xs _ 264 307 [.ref 0, .ref 1, .ref 88, .int (nI i)] [.int u, .int u] σ2 _
  exact tw_biT (c := .eq) rfl (by rw [tw_ceq]) (kk σ2 hI2)
set_option maxRecDepth 100000 in
theorem tw_case14 (hI : tw_Inv σ) (hi : i + 4 ≤ L) (hL : L ≤ 2048) (hop : tw_op L xs 147 217 [.int (xs (i + 1)), .int (xs (i + 2))]) (kk : ∀ σ2, tw_Inv σ2 → tw_P L xs 100 264 873 [.ref 0, .ref 1, .ref 88, .int (nI i)] [] σ2 Q) : tw_P L xs 100 264 310 [.ref 0, .ref 1, .ref 88, .int (nI i)] [] σ Q := by
  refine tw_sgn 5 (i1 := 315) (ls0 := [.ref 0, .ref 1, .ref 88, .int (nI i)]) (st0 := [.int (nI i + nI 1), .ref 0, .ref 1]) (σ0 := _) (ls1 := [.ref 0, .ref 1, .ref 88, .int (nI i)]) (st1 := [.int (nI (i + 1)), .ref 0, .ref 1]) (σ1 := _) rfl rfl (by rw [tw_nadd]) rfl ?_
  refine tw_sl0 rfl rfl (by omega) hL ?_
  refine tw_sgn 4 (i1 := 320) (ls0 := [.ref 0, .ref 1, .ref 88, .int (nI i)]) (st0 := [.int (nI i + nI 2), .ref 0, .int (xs (i + 1)), .ref 1]) (σ0 := _) (ls1 := [.ref 0, .ref 1, .ref 88, .int (nI i)]) (st1 := [.int (nI (i + 2)), .ref 0, .int (xs (i + 1)), .ref 1]) (σ1 := _) rfl rfl (by rw [tw_nadd]) rfl ?_
  refine tw_sl0 rfl rfl (by omega) hL ?_
  refine tw_cl1 rfl rfl (by decide) (hop σ hI) ?_
  rintro _ σ1 ⟨u, rfl, hE⟩
  show tw_P L xs _ 264 322 [.ref 0, .ref 1, .ref 88, .int (nI i)] [.int u] σ1 _
  refine tw_sgn 5 (i1 := 327) (ls0 := [.ref 0, .ref 1, .ref 88, .int (nI i)]) (st0 := [.int (nI i + nI 1), .ref 0, .ref 88, .int u]) (σ0 := _) (ls1 := [.ref 0, .ref 1, .ref 88, .int (nI i)]) (st1 := [.int (nI (i + 1)), .ref 0, .ref 88, .int u]) (σ1 := _) rfl rfl (by rw [tw_nadd]) rfl ?_
  refine tw_sl0 rfl rfl (by omega) hL ?_
  refine tw_sgn 4 (i1 := 332) (ls0 := [.ref 0, .ref 1, .ref 88, .int (nI i)]) (st0 := [.int (nI i + nI 2), .ref 0, .int (xs (i + 1)), .ref 88, .int u]) (σ0 := _) (ls1 := [.ref 0, .ref 1, .ref 88, .int (nI i)]) (st1 := [.int (nI (i + 2)), .ref 0, .int (xs (i + 1)), .ref 88, .int u]) (σ1 := _) rfl rfl (by rw [tw_nadd]) rfl ?_
  refine tw_sl0 rfl rfl (by omega) hL ?_
  refine tw_cl1 rfl rfl (by decide) hE ?_
  rintro _ σ2 ⟨rfl, hI2⟩
  show tw_P L xs _ 264 334 [.ref 0, .ref 1, .ref 88, .int (nI i)] [.int u, .int u] σ2 _
  exact tw_biT (c := .eq) rfl (by rw [tw_ceq]) (kk σ2 hI2)
set_option maxRecDepth 100000 in
theorem tw_case15 (hI : tw_Inv σ) (hi : i + 4 ≤ L) (hL : L ≤ 2048) (hop : tw_op L xs 148 218 [.int (xs (i + 1)), .int (xs (i + 2))]) (kk : ∀ σ2, tw_Inv σ2 → tw_P L xs 100 264 873 [.ref 0, .ref 1, .ref 88, .int (nI i)] [] σ2 Q) : tw_P L xs 100 264 337 [.ref 0, .ref 1, .ref 88, .int (nI i)] [] σ Q := by
  refine tw_sgn 5 (i1 := 342) (ls0 := [.ref 0, .ref 1, .ref 88, .int (nI i)]) (st0 := [.int (nI i + nI 1), .ref 0, .ref 1]) (σ0 := _) (ls1 := [.ref 0, .ref 1, .ref 88, .int (nI i)]) (st1 := [.int (nI (i + 1)), .ref 0, .ref 1]) (σ1 := _) rfl rfl (by rw [tw_nadd]) rfl ?_
  refine tw_sl0 rfl rfl (by omega) hL ?_
  refine tw_sgn 4 (i1 := 347) (ls0 := [.ref 0, .ref 1, .ref 88, .int (nI i)]) (st0 := [.int (nI i + nI 2), .ref 0, .int (xs (i + 1)), .ref 1]) (σ0 := _) (ls1 := [.ref 0, .ref 1, .ref 88, .int (nI i)]) (st1 := [.int (nI (i + 2)), .ref 0, .int (xs (i + 1)), .ref 1]) (σ1 := _) rfl rfl (by rw [tw_nadd]) rfl ?_
  refine tw_sl0 rfl rfl (by omega) hL ?_
  refine tw_cl1 rfl rfl (by decide) (hop σ hI) ?_
  rintro _ σ1 ⟨u, rfl, hE⟩
  show tw_P L xs _ 264 349 [.ref 0, .ref 1, .ref 88, .int (nI i)] [.int u] σ1 _
  refine tw_sgn 5 (i1 := 354) (ls0 := [.ref 0, .ref 1, .ref 88, .int (nI i)]) (st0 := [.int (nI i + nI 1), .ref 0, .ref 88, .int u]) (σ0 := _) (ls1 := [.ref 0, .ref 1, .ref 88, .int (nI i)]) (st1 := [.int (nI (i + 1)), .ref 0, .ref 88, .int u]) (σ1 := _) rfl rfl (by rw [tw_nadd]) rfl ?_
  refine tw_sl0 rfl rfl (by omega) hL ?_
  refine tw_sgn 4 (i1 := 359) (ls0 := [.ref 0, .ref 1, .ref 88, .int (nI i)]) (st0 := [.int (nI i + nI 2), .ref 0, .int (xs (i + 1)), .ref 88, .int u]) (σ0 := _) (ls1 := [.ref 0, .ref 1, .ref 88, .int (nI i)]) (st1 := [.int (nI (i + 2)), .ref 0, .int (xs (i + 1)), .ref 88, .int u]) (σ1 := _) rfl rfl (by rw [tw_nadd]) rfl ?_
  refine tw_sl0 rfl rfl (by omega) hL ?_
  refine tw_cl1 rfl rfl (by decide) hE ?_
  rintro _ σ2 ⟨rfl, hI2⟩
  show tw_P L xs _ 264 361 [.ref 0, .ref 1, .ref 88, .int (nI i)] [.int u, .int u] σ2 _
  exact tw_biT (c := .eq) rfl (by rw [tw_ceq]) (kk σ2 hI2)
set_option maxRecDepth 100000 in
theorem tw_case16 (hI : tw_Inv σ) (hi : i + 4 ≤ L) (hL : L ≤ 2048) (hop : tw_op L xs 149 223 []) (kk : ∀ σ2, tw_Inv σ2 → tw_P L xs 100 264 873 [.ref 0, .ref 1, .ref 88, .int (nI i)] [] σ2 Q) : tw_P L xs 100 264 364 [.ref 0, .ref 1, .ref 88, .int (nI i)] [] σ Q := by
  refine tw_sg 1 (i1 := 365) (ls1 := [.ref 0, .ref 1, .ref 88, .int (nI i)]) (st1 := [.ref 1]) (σ1 := _) rfl ?_
  refine tw_cl1 rfl rfl (by decide) (hop σ hI) ?_
  rintro _ σ1 ⟨u, rfl, hE⟩
  show tw_P L xs _ 264 366 [.ref 0, .ref 1, .ref 88, .int (nI i)] [.int u] σ1 _
  refine tw_sg 1 (i1 := 367) (ls1 := [.ref 0, .ref 1, .ref 88, .int (nI i)]) (st1 := [.ref 88, .int u]) (σ1 := _) rfl ?_
  refine tw_cl1 rfl rfl (by decide) hE ?_
  rintro _ σ2 ⟨rfl, hI2⟩
  show tw_P L xs _ 264 368 [.ref 0, .ref 1, .ref 88, .int (nI i)] [.int u, .int u] σ2 _
  exact tw_biT (c := .eq) rfl (by rw [tw_ceq]) (kk σ2 hI2)
set_option maxRecDepth 100000 in
theorem tw_case17 (hI : tw_Inv σ) (hi : i + 4 ≤ L) (hL : L ≤ 2048) (hop : tw_op L xs 150 224 []) (kk : ∀ σ2, tw_Inv σ2 → tw_P L xs 100 264 873 [.ref 0, .ref 1, .ref 88, .int (nI i)] [] σ2 Q) : tw_P L xs 100 264 371 [.ref 0, .ref 1, .ref 88, .int (nI i)] [] σ Q := by
  refine tw_sg 1 (i1 := 372) (ls1 := [.ref 0, .ref 1, .ref 88, .int (nI i)]) (st1 := [.ref 1]) (σ1 := _) rfl ?_
  refine tw_cl1 rfl rfl (by decide) (hop σ hI) ?_
  rintro _ σ1 ⟨u, rfl, hE⟩
  show tw_P L xs _ 264 373 [.ref 0, .ref 1, .ref 88, .int (nI i)] [.int u] σ1 _
  refine tw_sg 1 (i1 := 374) (ls1 := [.ref 0, .ref 1, .ref 88, .int (nI i)]) (st1 := [.ref 88, .int u]) (σ1 := _) rfl ?_
  refine tw_cl1 rfl rfl (by decide) hE ?_
  rintro _ σ2 ⟨rfl, hI2⟩
  show tw_P L xs _ 264 375 [.ref 0, .ref 1, .ref 88, .int (nI i)] [.int u, .int u] σ2 _
  exact tw_biT (c := .eq) rfl (by rw [tw_ceq]) (kk σ2 hI2)
set_option maxRecDepth 100000 in
theorem tw_case18 (hI : tw_Inv σ) (hi : i + 4 ≤ L) (hL : L ≤ 2048) (hop : tw_op L xs 151 225 []) (kk : ∀ σ2, tw_Inv σ2 → tw_P L xs 100 264 873 [.ref 0, .ref 1, .ref 88, .int (nI i)] [] σ2 Q) : tw_P L xs 100 264 378 [.ref 0, .ref 1, .ref 88, .int (nI i)] [] σ Q := by
  refine tw_sg 1 (i1 := 379) (ls1 := [.ref 0, .ref 1, .ref 88, .int (nI i)]) (st1 := [.ref 1]) (σ1 := _) rfl ?_
  refine tw_cl1 rfl rfl (by decide) (hop σ hI) ?_
  rintro _ σ1 ⟨u, rfl, hE⟩
  show tw_P L xs _ 264 380 [.ref 0, .ref 1, .ref 88, .int (nI i)] [.int u] σ1 _
  refine tw_sg 1 (i1 := 381) (ls1 := [.ref 0, .ref 1, .ref 88, .int (nI i)]) (st1 := [.ref 88, .int u]) (σ1 := _) rfl ?_
  refine tw_cl1 rfl rfl (by decide) hE ?_
  rintro _ σ2 ⟨rfl, hI2⟩
  show tw_P L xs _ 264 382 [.ref 0, .ref 1, .ref 88, .int (nI i)] [.int u, .int u] σ2 _
  exact tw_biT (c := .eq) rfl (by rw [tw_ceq]) (kk σ2 hI2)
set_option maxRecDepth 100000 in
theorem tw_case19 (hI : tw_Inv σ) (hi : i + 4 ≤ L) (hL : L ≤ 2048) (hop : tw_op L xs 152 227 [.int (xs (i + 1)), .int (xs (i + 2))]) (kk : ∀ σ2, tw_Inv σ2 → tw_P L xs 100 264 873 [.ref 0, .ref 1, .ref 88, .int (nI i)] [] σ2 Q) : tw_P L xs 100 264 385 [.ref 0, .ref 1, .ref 88, .int (nI i)] [] σ Q := by
  refine tw_sgn 5 (i1 := 390) (ls0 := [.ref 0, .ref 1, .ref 88, .int (nI i)]) (st0 := [.int (nI i + nI 1), .ref 0, .ref 1]) (σ0 := _) (ls1 := [.ref 0, .ref 1, .ref 88, .int (nI i)]) (st1 := [.int (nI (i + 1)), .ref 0, .ref 1]) (σ1 := _) rfl rfl (by rw [tw_nadd]) rfl ?_
  refine tw_sl0 rfl rfl (by omega) hL ?_
  refine tw_sgn 4 (i1 := 395) (ls0 := [.ref 0, .ref 1, .ref 88, .int (nI i)]) (st0 := [.int (nI i + nI 2), .ref 0, .int (xs (i + 1)), .ref 1]) (σ0 := _) (ls1 := [.ref 0, .ref 1, .ref 88, .int (nI i)]) (st1 := [.int (nI (i + 2)), .ref 0, .int (xs (i + 1)), .ref 1]) (σ1 := _) rfl rfl (by rw [tw_nadd]) rfl ?_
  refine tw_sl0 rfl rfl (by omega) hL ?_
  refine tw_cl1 rfl rfl (by decide) (hop σ hI) ?_
  rintro _ σ1 ⟨u, rfl, hE⟩
  show tw_P L xs _ 264 397 [.ref 0, .ref 1, .ref 88, .int (nI i)] [.int u] σ1 _
  refine tw_sgn 5 (i1 := 402) (ls0 := [.ref 0, .ref 1, .ref 88, .int (nI i)]) (st0 := [.int (nI i + nI 1), .ref 0, .ref 88, .int u]) (σ0 := _) (ls1 := [.ref 0, .ref 1, .ref 88, .int (nI i)]) (st1 := [.int (nI (i + 1)), .ref 0, .ref 88, .int u]) (σ1 := _) rfl rfl (by rw [tw_nadd]) rfl ?_
  refine tw_sl0 rfl rfl (by omega) hL ?_
  refine tw_sgn 4 (i1 := 407) (ls0 := [.ref 0, .ref 1, .ref 88, .int (nI i)]) (st0 := [.int (nI i + nI 2), .ref 0, .int (xs (i + 1)), .ref 88, .int u]) (σ0 := _) (ls1 := [.ref 0, .ref 1, .ref 88, .int (nI i)]) (st1 := [.int (nI (i + 2)), .ref 0, .int (xs (i + 1)), .ref 88, .int u]) (σ1 := _) rfl rfl (by rw [tw_nadd]) rfl ?_
  refine tw_sl0 rfl rfl (by omega) hL ?_
  refine tw_cl1 rfl rfl (by decide) hE ?_
  rintro _ σ2 ⟨rfl, hI2⟩
  show tw_P L xs _ 264 409 [.ref 0, .ref 1, .ref 88, .int (nI i)] [.int u, .int u] σ2 _
  exact tw_biT (c := .eq) rfl (by rw [tw_ceq]) (kk σ2 hI2)
set_option maxRecDepth 100000 in
theorem tw_case20 (hI : tw_Inv σ) (hi : i + 4 ≤ L) (hL : L ≤ 2048) (hop : tw_op L xs 153 228 [.int (xs (i + 1)), .int (xs (i + 2)), .int (xs (i + 3))]) (kk : ∀ σ2, tw_Inv σ2 → tw_P L xs 100 264 873 [.ref 0, .ref 1, .ref 88, .int (nI i)] [] σ2 Q) : tw_P L xs 100 264 412 [.ref 0, .ref 1, .ref 88, .int (nI i)] [] σ Q := by
  refine tw_sgn 5 (i1 := 417) (ls0 := [.ref 0, .ref 1, .ref 88, .int (nI i)]) (st0 := [.int (nI i + nI 1), .ref 0, .ref 1]) (σ0 := _) (ls1 := [.ref 0, .ref 1, .ref 88, .int (nI i)]) (st1 := [.int (nI (i + 1)), .ref 0, .ref 1]) (σ1 := _) rfl rfl (by rw [tw_nadd]) rfl ?_
  refine tw_sl0 rfl rfl (by omega) hL ?_
  refine tw_sgn 4 (i1 := 422) (ls0 := [.ref 0, .ref 1, .ref 88, .int (nI i)]) (st0 := [.int (nI i + nI 2), .ref 0, .int (xs (i + 1)), .ref 1]) (σ0 := _) (ls1 := [.ref 0, .ref 1, .ref 88, .int (nI i)]) (st1 := [.int (nI (i + 2)), .ref 0, .int (xs (i + 1)), .ref 1]) (σ1 := _) rfl rfl (by rw [tw_nadd]) rfl ?_
  refine tw_sl0 rfl rfl (by omega) hL ?_
  refine tw_sgn 4 (i1 := 427) (ls0 := [.ref 0, .ref 1, .ref 88, .int (nI i)]) (st0 := [.int (nI i + nI 3), .ref 0, .int (xs (i + 2)), .int (xs (i + 1)), .ref 1]) (σ0 := _) (ls1 := [.ref 0, .ref 1, .ref 88, .int (nI i)]) (st1 := [.int (nI (i + 3)), .ref 0, .int (xs (i + 2)), .int (xs (i + 1)), .ref 1]) (σ1 := _) rfl rfl (by rw [tw_nadd]) rfl ?_
  refine tw_sl0 rfl rfl (by omega) hL ?_
  refine tw_cl1 rfl rfl (by decide) (hop σ hI) ?_
  rintro _ σ1 ⟨u, rfl, hE⟩
  show tw_P L xs _ 264 429 [.ref 0, .ref 1, .ref 88, .int (nI i)] [.int u] σ1 _
  refine tw_sgn 5 (i1 := 434) (ls0 := [.ref 0, .ref 1, .ref 88, .int (nI i)]) (st0 := [.int (nI i + nI 1), .ref 0, .ref 88, .int u]) (σ0 := _) (ls1 := [.ref 0, .ref 1, .ref 88, .int (nI i)]) (st1 := [.int (nI (i + 1)), .ref 0, .ref 88, .int u]) (σ1 := _) rfl rfl (by rw [tw_nadd]) rfl ?_
  refine tw_sl0 rfl rfl (by omega) hL ?_
  refine tw_sgn 4 (i1 := 439) (ls0 := [.ref 0, .ref 1, .ref 88, .int (nI i)]) (st0 := [.int (nI i + nI 2), .ref 0, .int (xs (i + 1)), .ref 88, .int u]) (σ0 := _) (ls1 := [.ref 0, .ref 1, .ref 88, .int (nI i)]) (st1 := [.int (nI (i + 2)), .ref 0, .int (xs (i + 1)), .ref 88, .int u]) (σ1 := _) rfl rfl (by rw [tw_nadd]) rfl ?_
  refine tw_sl0 rfl rfl (by omega) hL ?_
  refine tw_sgn 4 (i1 := 444) (ls0 := [.ref 0, .ref 1, .ref 88, .int (nI i)]) (st0 := [.int (nI i + nI 3), .ref 0, .int (xs (i + 2)), .int (xs (i + 1)), .ref 88, .int u]) (σ0 := _) (ls1 := [.ref 0, .ref 1, .ref 88, .int (nI i)]) (st1 := [.int (nI (i + 3)), .ref 0, .int (xs (i + 2)), .int (xs (i + 1)), .ref 88, .int u]) (σ1 := _) rfl rfl (by rw [tw_nadd]) rfl ?_
  refine tw_sl0 rfl rfl (by omega) hL ?_
  refine tw_cl1 rfl rfl (by decide) hE ?_
  rintro _ σ2 ⟨rfl, hI2⟩
  show tw_P L xs _ 264 446 [.ref 0, .ref 1, .ref 88, .int (nI i)] [.int u, .int u] σ2 _
  exact tw_biT (c := .eq) rfl (by rw [tw_ceq]) (kk σ2 hI2)
set_option maxRecDepth 100000 in
theorem tw_case21 (hI : tw_Inv σ) (hi : i + 4 ≤ L) (hL : L ≤ 2048) (hop : tw_op L xs 154 229 [.int (xs (i + 1))]) (kk : ∀ σ2, tw_Inv σ2 → tw_P L xs 100 264 873 [.ref 0, .ref 1, .ref 88, .int (nI i)] [] σ2 Q) : tw_P L xs 100 264 449 [.ref 0, .ref 1, .ref 88, .int (nI i)] [] σ Q := by
  refine tw_sgn 5 (i1 := 454) (ls0 := [.ref 0, .ref 1, .ref 88, .int (nI i)]) (st0 := [.int (nI i + nI 1), .ref 0, .ref 1]) (σ0 := _) (ls1 := [.ref 0, .ref 1, .ref 88, .int (nI i)]) (st1 := [.int (nI (i + 1)), .ref 0, .ref 1]) (σ1 := _) rfl rfl (by rw [tw_nadd]) rfl ?_
  refine tw_sl0 rfl rfl (by omega) hL ?_
  refine tw_cl1 rfl rfl (by decide) (hop σ hI) ?_
  rintro _ σ1 ⟨u, rfl, hE⟩
  show tw_P L xs _ 264 456 [.ref 0, .ref 1, .ref 88, .int (nI i)] [.int u] σ1 _
  refine tw_sgn 5 (i1 := 461) (ls0 := [.ref 0, .ref 1, .ref 88, .int (nI i)]) (st0 := [.int (nI i + nI 1), .ref 0, .ref 88, .int u]) (σ0 := _) (ls1 := [.ref 0, .ref 1, .ref 88, .int (nI i)]) (st1 := [.int (nI (i + 1)), .ref 0, .ref 88, .int u]) (σ1 := _) rfl rfl (by rw [tw_nadd]) rfl ?_
  refine tw_sl0 rfl rfl (by omega) hL ?_
  refine tw_cl1 rfl rfl (by decide) hE ?_
  rintro _ σ2 ⟨rfl, hI2⟩
  show tw_P L xs _ 264 463 [.ref 0, .ref 1, .ref 88, .int (nI i)] [.int u, .int u] σ2 _
  exact tw_biT (c := .eq) rfl (by rw [tw_ceq]) (kk σ2 hI2)
set_option maxRecDepth 100000 in
theorem tw_case22 (hI : tw_Inv σ) (hi : i + 4 ≤ L) (hL : L ≤ 2048) (hop : tw_op L xs 155 233 [.int (xs (i + 1)), .int (xs (i + 2))]) (kk : ∀ σ2, tw_Inv σ2 → tw_P L xs 100 264 873 [.ref 0, .ref 1, .ref 88, .int (nI i)] [] σ2 Q) : tw_P L xs 100 264 466 [.ref 0, .ref 1, .ref 88, .int (nI i)] [] σ Q := by
  refine tw_sgn 5 (i1 := 471) (ls0 := [.ref 0, .ref 1, .ref 88, .int (nI i)]) (st0 := [.int (nI i + nI 1), .ref 0, .ref 1]) (σ0 := _) (ls1 := [.ref 0, .ref 1, .ref 88, .int (nI i)]) (st1 := [.int (nI (i + 1)), .ref 0, .ref 1]) (σ1 := _) rfl rfl (by rw [tw_nadd]) rfl ?_
  refine tw_sl0 rfl rfl (by omega) hL ?_
  refine tw_sgn 4 (i1 := 476) (ls0 := [.ref 0, .ref 1, .ref 88, .int (nI i)]) (st0 := [.int (nI i + nI 2), .ref 0, .int (xs (i + 1)), .ref 1]) (σ0 := _) (ls1 := [.ref 0, .ref 1, .ref 88, .int (nI i)]) (st1 := [.int (nI (i + 2)), .ref 0, .int (xs (i + 1)), .ref 1]) (σ1 := _) rfl rfl (by rw [tw_nadd]) rfl ?_
  refine tw_sl0 rfl rfl (by omega) hL ?_
  refine tw_cl1 rfl rfl (by decide) (hop σ hI) ?_
  rintro _ σ1 ⟨u, rfl, hE⟩
  show tw_P L xs _ 264 478 [.ref 0, .ref 1, .ref 88, .int (nI i)] [.int u] σ1 _
  refine tw_sgn 5 (i1 := 483) (ls0 := [.ref 0, .ref 1, .ref 88, .int (nI i)]) (st0 := [.int (nI i + nI 1), .ref 0, .ref 88, .int u]) (σ0 := _) (ls1 := [.ref 0, .ref 1, .ref 88, .int (nI i)]) (st1 := [.int (nI (i + 1)), .ref 0, .ref 88, .int u]) (σ1 := _) rfl rfl (by rw [tw_nadd]) rfl ?_
  refine tw_sl0 rfl rfl (by omega) hL ?_
  refine tw_sgn 4 (i1 := 488) (ls0 := [.ref 0, .ref 1, .ref 88, .int (nI i)]) (st0 := [.int (nI i + nI 2), .ref 0, .int (xs (i + 1)), .ref 88, .int u]) (σ0 := _) (ls1 := [.ref 0, .ref 1, .ref 88, .int (nI i)]) (st1 := [.int (nI (i + 2)), .ref 0, .int (xs (i + 1)), .ref 88, .int u]) (σ1 := _) rfl rfl (by rw [tw_nadd]) rfl ?_
  refine tw_sl0 rfl rfl (by omega) hL ?_
  refine tw_cl1 rfl rfl (by decide) hE ?_
  rintro _ σ2 ⟨rfl, hI2⟩
  show tw_P L xs _ 264 490 [.ref 0, .ref 1, .ref 88, .int (nI i)] [.int u, .int u] σ2 _
  exact tw_biT (c := .eq) rfl (by rw [tw_ceq]) (kk σ2 hI2)
set_option maxRecDepth 100000 in
theorem tw_case23 (hI : tw_Inv σ) (hi : i + 4 ≤ L) (hL : L ≤ 2048) (hop : tw_op L xs 156 234 [.int (xs (i + 1))]) (kk : ∀ σ2, tw_Inv σ2 → tw_P L xs 100 264 873 [.ref 0, .ref 1, .ref 88, .int (nI i)] [] σ2 Q) : tw_P L xs 100 264 493 [.ref 0, .ref 1, .ref 88, .int (nI i)] [] σ Q := by
  refine tw_sgn 5 (i1 := 498) (ls0 := [.ref 0, .ref 1, .ref 88, .int (nI i)]) (st0 := [.int (nI i + nI 1), .ref 0, .ref 1]) (σ0 := _) (ls1 := [.ref 0, .ref 1, .ref 88, .int (nI i)]) (st1 := [.int (nI (i + 1)), .ref 0, .ref 1]) (σ1 := _) rfl rfl (by rw [tw_nadd]) rfl ?_
  refine tw_sl0 rfl rfl (by omega) hL ?_
  refine tw_cl1 rfl rfl (by decide) (hop σ hI) ?_
  rintro _ σ1 ⟨u, rfl, hE⟩
  show tw_P L xs _ 264 500 [.ref 0, .ref 1, .ref 88, .int (nI i)] [.int u] σ1 _
  refine tw_sgn 5 (i1 := 505) (ls0 := [.ref 0, .ref 1, .ref 88, .int (nI i)]) (st0 := [.int (nI i + nI 1), .ref 0, .ref 88, .int u]) (σ0 := _) (ls1 := [.ref 0, .ref 1, .ref 88, .int (nI i)]) (st1 := [.int (nI (i + 1)), .ref 0, .ref 88, .int u]) (σ1 := _) rfl rfl (by rw [tw_nadd]) rfl ?_
  refine tw_sl0 rfl rfl (by omega) hL ?_
  refine tw_cl1 rfl rfl (by decide) hE ?_
  rintro _ σ2 ⟨rfl, hI2⟩
  show tw_P L xs _ 264 507 [.ref 0, .ref 1, .ref 88, .int (nI i)] [.int u, .int u] σ2 _
  exact tw_biT (c := .eq) rfl (by rw [tw_ceq]) (kk σ2 hI2)
set_option maxRecDepth 100000 in
theorem tw_case24 (hI : tw_Inv σ) (hi : i + 4 ≤ L) (hL : L ≤ 2048) (hop : tw_op L xs 158 235 []) (kk : ∀ σ2, tw_Inv σ2 → tw_P L xs 100 264 873 [.ref 0, .ref 1, .ref 88, .int (nI i)] [] σ2 Q) : tw_P L xs 100 264 510 [.ref 0, .ref 1, .ref 88, .int (nI i)] [] σ Q := by
  refine tw_sg 1 (i1 := 511) (ls1 := [.ref 0, .ref 1, .ref 88, .int (nI i)]) (st1 := [.ref 1]) (σ1 := _) rfl ?_
  refine tw_cl1 rfl rfl (by decide) (hop σ hI) ?_
  rintro _ σ1 ⟨u, rfl, hE⟩
  show tw_P L xs _ 264 512 [.ref 0, .ref 1, .ref 88, .int (nI i)] [.int u] σ1 _
  refine tw_sg 1 (i1 := 513) (ls1 := [.ref 0, .ref 1, .ref 88, .int (nI i)]) (st1 := [.ref 88, .int u]) (σ1 := _) rfl ?_
  refine tw_cl1 rfl rfl (by decide) hE ?_
  rintro _ σ2 ⟨rfl, hI2⟩
  show tw_P L xs _ 264 514 [.ref 0, .ref 1, .ref 88, .int (nI i)] [.int u, .int u] σ2 _
  exact tw_biT (c := .eq) rfl (by rw [tw_ceq]) (kk σ2 hI2)
set_option maxRecDepth 100000 in
theorem tw_case25 (hI : tw_Inv σ) (hi : i + 4 ≤ L) (hL : L ≤ 2048) (hop : tw_op L xs 159 236 [.int (xs (i + 1))]) (kk : ∀ σ2, tw_Inv σ2 → tw_P L xs 100 264 873 [.ref 0, .ref 1, .ref 88, .int (nI i)] [] σ2 Q) : tw_P L xs 100 264 517 [.ref 0, .ref 1, .ref 88, .int (nI i)] [] σ Q := by
  refine tw_sgn 5 (i1 := 522) (ls0 := [.ref 0, .ref 1, .ref 88, .int (nI i)]) (st0 := [.int (nI i + nI 1), .ref 0, .ref 1]) (σ0 := _) (ls1 := [.ref 0, .ref 1, .ref 88, .int (nI i)]) (st1 := [.int (nI (i + 1)), .ref 0, .ref 1]) (σ1 := _) rfl rfl (by rw [tw_nadd]) rfl ?_
  refine tw_sl0 rfl rfl (by omega) hL ?_
  refine tw_cl1 rfl rfl (by decide) (hop σ hI) ?_
  rintro _ σ1 ⟨u, rfl, hE⟩
  show tw_P L xs _ 264 524 [.ref 0, .ref 1, .ref 88, .int (nI i)] [.int u] σ1 _
  refine tw_sgn 5 (i1 := 529) (ls0 := [.ref 0, .ref 1, .ref 88, .int (nI i)]) (st0 := [.int (nI i + nI 1), .ref 0, .ref 88, .int u]) (σ0 := _) (ls1 := [.ref 0, .ref 1, .ref 88, .int (nI i)]) (st1 := [.int (nI (i + 1)), .ref 0, .ref 88, .int u]) (σ1 := _) rfl rfl (by rw [tw_nadd]) rfl ?_
  refine tw_sl0 rfl rfl (by omega) hL ?_
  refine tw_cl1 rfl rfl (by decide) hE ?_
  rintro _ σ2 ⟨rfl, hI2⟩
  show tw_P L xs _ 264 531 [.ref 0, .ref 1, .ref 88, .int (nI i)] [.int u, .int u] σ2 _
  exact tw_biT (c := .eq) rfl (by rw [tw_ceq]) (kk σ2 hI2)
set_option maxRecDepth 100000 in
theorem tw_case26 (hI : tw_Inv σ) (hi : i + 4 ≤ L) (hL : L ≤ 2048) (hop : tw_op L xs 160 238 []) (kk : ∀ σ2, tw_Inv σ2 → tw_P L xs 100 264 873 [.ref 0, .ref 1, .ref 88, .int (nI i)] [] σ2 Q) : tw_P L xs 100 264 534 [.ref 0, .ref 1, .ref 88, .int (nI i)] [] σ Q := by
  refine tw_sg 1 (i1 := 535) (ls1 := [.ref 0, .ref 1, .ref 88, .int (nI i)]) (st1 := [.ref 1]) (σ1 := _) rfl ?_
  refine tw_cl1 rfl rfl (by decide) (hop σ hI) ?_
  rintro _ σ1 ⟨u, rfl, hE⟩
  show tw_P L xs _ 264 536 [.ref 0, .ref 1, .ref 88, .int (nI i)] [.int u] σ1 _
  refine tw_sg 1 (i1 := 537) (ls1 := [.ref 0, .ref 1, .ref 88, .int (nI i)]) (st1 := [.ref 88, .int u]) (σ1 := _) rfl ?_
  refine tw_cl1 rfl rfl (by decide) hE ?_
  rintro _ σ2 ⟨rfl, hI2⟩
  show tw_P L xs _ 264 538 [.ref 0, .ref 1, .ref 88, .int (nI i)] [.int u, .int u] σ2 _
  exact tw_biT (c := .eq) rfl (by rw [tw_ceq]) (kk σ2 hI2)
set_option maxRecDepth 100000 in
theorem tw_case27 (hI : tw_Inv σ) (hi : i + 4 ≤ L) (hL : L ≤ 2048) (hop : tw_op L xs 161 239 []) (kk : ∀ σ2, tw_Inv σ2 → tw_P L xs 100 264 873 [.ref 0, .ref 1, .ref 88, .int (nI i)] [] σ2 Q) : tw_P L xs 100 264 541 [.ref 0, .ref 1, .ref 88, .int (nI i)] [] σ Q := by
  refine tw_sg 1 (i1 := 542) (ls1 := [.ref 0, .ref 1, .ref 88, .int (nI i)]) (st1 := [.ref 1]) (σ1 := _) rfl ?_
  refine tw_cl1 rfl rfl (by decide) (hop σ hI) ?_
  rintro _ σ1 ⟨u, rfl, hE⟩
  show tw_P L xs _ 264 543 [.ref 0, .ref 1, .ref 88, .int (nI i)] [.int u] σ1 _
  refine tw_sg 1 (i1 := 544) (ls1 := [.ref 0, .ref 1, .ref 88, .int (nI i)]) (st1 := [.ref 88, .int u]) (σ1 := _) rfl ?_
  refine tw_cl1 rfl rfl (by decide) hE ?_
  rintro _ σ2 ⟨rfl, hI2⟩
  show tw_P L xs _ 264 545 [.ref 0, .ref 1, .ref 88, .int (nI i)] [.int u, .int u] σ2 _
  exact tw_biT (c := .eq) rfl (by rw [tw_ceq]) (kk σ2 hI2)
set_option maxRecDepth 100000 in
theorem tw_case28 (hI : tw_Inv σ) (hi : i + 4 ≤ L) (hL : L ≤ 2048) (hop : tw_op L xs 162 240 [.int (xs (i + 1))]) (kk : ∀ σ2, tw_Inv σ2 → tw_P L xs 100 264 873 [.ref 0, .ref 1, .ref 88, .int (nI i)] [] σ2 Q) : tw_P L xs 100 264 548 [.ref 0, .ref 1, .ref 88, .int (nI i)] [] σ Q := by
  refine tw_sgn 5 (i1 := 553) (ls0 := [.ref 0, .ref 1, .ref 88, .int (nI i)]) (st0 := [.int (nI i + nI 1), .ref 0, .ref 1]) (σ0 := _) (ls1 := [.ref 0, .ref 1, .ref 88, .int (nI i)]) (st1 := [.int (nI (i + 1)), .ref 0, .ref 1]) (σ1 := _) rfl rfl (by rw [tw_nadd]) rfl ?_
  refine tw_sl0 rfl rfl (by omega) hL ?_
  refine tw_cl1 rfl rfl (by decide) (hop σ hI) ?_
  rintro _ σ1 ⟨u, rfl, hE⟩
  show tw_P L xs _ 264 555 [.ref 0, .ref 1, .ref 88, .int (nI i)] [.int u] σ1 _
  refine tw_sgn 5 (i1 := 560) (ls0 := [.ref 0, .ref 1, .ref 88, .int (nI i)]) (st0 := [.int (nI i + nI 1), .ref 0, .ref 88, .int u]) (σ0 := _) (ls1 := [.ref 0, .ref 1, .ref 88, .int (nI i)]) (st1 := [.int (nI (i + 1)), .ref 0, .ref 88, .int u]) (σ1 := _) rfl rfl (by rw [tw_nadd]) rfl ?_
  refine tw_sl0 rfl rfl (by omega) hL ?_
  refine tw_cl1 rfl rfl (by decide) hE ?_
  rintro _ σ2 ⟨rfl, hI2⟩
  show tw_P L xs _ 264 562 [.ref 0, .ref 1, .ref 88, .int (nI i)] [.int u, .int u] σ2 _
  exact tw_biT (c := .eq) rfl (by rw [tw_ceq]) (kk σ2 hI2)
set_option maxRecDepth 100000 in
theorem tw_case29 (hI : tw_Inv σ) (hi : i + 4 ≤ L) (hL : L ≤ 2048) (hop : tw_op L xs 163 242 [.int (xs (i + 1)), .int (xs (i + 2))]) (kk : ∀ σ2, tw_Inv σ2 → tw_P L xs 100 264 873 [.ref 0, .ref 1, .ref 88, .int (nI i)] [] σ2 Q) : tw_P L xs 100 264 565 [.ref 0, .ref 1, .ref 88, .int (nI i)] [] σ Q := by
  refine tw_sgn 5 (i1 := 570) (ls0 := [.ref 0, .ref 1, .ref 88, .int (nI i)]) (st0 := [.int (nI i + nI 1), .ref 0, .ref 1]) (σ0 := _) (ls1 := [.ref 0, .ref 1, .ref 88, .int (nI i)]) (st1 := [.int (nI (i + 1)), .ref 0, .ref 1]) (σ1 := _) rfl rfl (by rw [tw_nadd]) rfl ?_
  refine tw_sl0 rfl rfl (by omega) hL ?_
  refine tw_sgn 4 (i1 := 575) (ls0 := [.ref 0, .ref 1, .ref 88, .int (nI i)]) (st0 := [.int (nI i + nI 2), .ref 0, .int (xs (i + 1)), .ref 1]) (σ0 := _) (ls1 := [.ref 0, .ref 1, .ref 88, .int (nI i)]) (st1 := [.int (nI (i + 2)), .ref 0, .int (xs (i + 1)), .ref 1]) (σ1 := _) rfl rfl (by rw [tw_nadd]) rfl ?_
  refine tw_sl0 rfl rfl (by omega) hL ?_
  refine tw_cl1 rfl rfl (by decide) (hop σ hI) ?_
  rintro _ σ1 ⟨u, rfl, hE⟩
  show tw_P L xs _ 264 577 [.ref 0, .ref 1, .ref 88, .int (nI i)] [.int u] σ1 _
  refine tw_sgn 5 (i1 := 582) (ls0 := [.ref 0, .ref 1, .ref 88, .int (nI i)]) (st0 := [.int (nI i + nI 1), .ref 0, .ref 88, .int u]) (σ0 := _) (ls1 := [.ref 0, .ref 1, .ref 88, .int (nI i)]) (st1 := [.int (nI (i + 1)), .ref 0, .ref 88, .int u]) (σ1 := _) rfl rfl (by rw [tw_nadd]) rfl ?_
  refine tw_sl0 rfl rfl (by omega) hL ?_
  refine tw_sgn 4 (i1 := 587) (ls0 := [.ref 0, .ref 1, .ref 88, .int (nI i)]) (st0 := [.int (nI i + nI 2), .ref 0, .int (xs (i + 1)), .ref 88, .int u]) (σ0 := _) (ls1 := [.ref 0, .ref 1, .ref 88, .int (nI i)]) (st1 := [.int (nI (i + 2)), .ref 0, .int (xs (i + 1)), .ref 88, .int u]) (σ1 := _) rfl rfl (by rw [tw_nadd]) rfl ?_
  refine tw_sl0 rfl rfl (by omega) hL ?_
  refine tw_cl1 rfl rfl (by decide) hE ?_
  rintro _ σ2 ⟨rfl, hI2⟩
  show tw_P L xs _ 264 589 [.ref 0, .ref 1, .ref 88, .int (nI i)] [.int u, .int u] σ2 _
  exact tw_biT (c := .eq) rfl (by rw [tw_ceq]) (kk σ2 hI2)
set_option maxRecDepth 100000 in
theorem tw_case30 (hI : tw_Inv σ) (hi : i + 4 ≤ L) (hL : L ≤ 2048) (hop : tw_op L xs 164 244 [.int (xs (i + 1))]) (kk : ∀ σ2, tw_Inv σ2 → tw_P L xs 100 264 873 [.ref 0, .ref 1, .ref 88, .int (nI i)] [] σ2 Q) : tw_P L xs 100 264 592 [.ref 0, .ref 1, .ref 88, .int (nI i)] [] σ Q := by
  refine tw_sgn 5 (i1 := 597) (ls0 := [.ref 0, .ref 1, .ref 88, .int (nI i)]) (st0 := [.int (nI i + nI 1), .ref 0, .ref 1]) (σ0 := _) (ls1 := [.ref 0, .ref 1, .ref 88, .int (nI i)]) (st1 := [.int (nI (i + 1)), .ref 0, .ref 1]) (σ1 := _) rfl rfl (by rw [tw_nadd]) rfl ?_
  refine tw_sl0 rfl rfl (by omega) hL ?_
  refine tw_cl1 rfl rfl (by decide) (hop σ hI) ?_
  rintro _ σ1 ⟨u, rfl, hE⟩
  show tw_P L xs _ 264 599 [.ref 0, .ref 1, .ref 88, .int (nI i)] [.int u] σ1 _
  refine tw_sgn 5 (i1 := 604) (ls0 := [.ref 0, .ref 1, .ref 88, .int (nI i)]) (st0 := [.int (nI i + nI 1), .ref 0, .ref 88, .int u]) (σ0 := _) (ls1 := [.ref 0, .ref 1, .ref 88, .int (nI i)]) (st1 := [.int (nI (i + 1)), .ref 0, .ref 88, .int u]) (σ1 := _) rfl rfl (by rw [tw_nadd]) rfl ?_
  refine tw_sl0 rfl rfl (by omega) hL ?_
  refine tw_cl1 rfl rfl (by decide) hE ?_
  rintro _ σ2 ⟨rfl, hI2⟩
  show tw_P L xs _ 264 606 [.ref 0, .ref 1, .ref 88, .int (nI i)] [.int u, .int u] σ2 _
  exact tw_biT (c := .eq) rfl (by rw [tw_ceq]) (kk σ2 hI2)
set_option maxRecDepth 100000 in
theorem tw_case31 (hI : tw_Inv σ) (hi : i + 4 ≤ L) (hL : L ≤ 2048) (hop : tw_op L xs 165 245 [.int (xs (i + 1)), .int (xs (i + 2))]) (kk : ∀ σ2, tw_Inv σ2 → tw_P L xs 100 264 873 [.ref 0, .ref 1, .ref 88, .int (nI i)] [] σ2 Q) : tw_P L xs 100 264 609 [.ref 0, .ref 1, .ref 88, .int (nI i)] [] σ Q := by
  refine tw_sgn 5 (i1 := 614) (ls0 := [.ref 0, .ref 1, .ref 88, .int (nI i)]) (st0 := [.int (nI i + nI 1), .ref 0, .ref 1]) (σ0 := _) (ls1 := [.ref 0, .ref 1, .ref 88, .int (nI i)]) (st1 := [.int (nI (i + 1)), .ref 0, .ref 1]) (σ1 := _) rfl rfl (by rw [tw_nadd]) rfl ?_
  refine tw_sl0 rfl rfl (by omega) hL ?_
  refine tw_sgn 4 (i1 := 619) (ls0 := [.ref 0, .ref 1, .ref 88, .int (nI i)]) (st0 := [.int (nI i + nI 2), .ref 0, .int (xs (i + 1)), .ref 1]) (σ0 := _) (ls1 := [.ref 0, .ref 1, .ref 88, .int (nI i)]) (st1 := [.int (nI (i + 2)), .ref 0, .int (xs (i + 1)), .ref 1]) (σ1 := _) rfl rfl (by rw [tw_nadd]) rfl ?_
  refine tw_sl0 rfl rfl (by omega) hL ?_
  refine tw_cl1 rfl rfl (by decide) (hop σ hI) ?_
  rintro _ σ1 ⟨u, rfl, hE⟩
  show tw_P L xs _ 264 621 [.ref 0, .ref 1, .ref 88, .int (nI i)] [.int u] σ1 _
  refine tw_sgn 5 (i1 := 626) (ls0 := [.ref 0, .ref 1, .ref 88, .int (nI i)]) (st0 := [.int (nI i + nI 1), .ref 0, .ref 88, .int u]) (σ0 := _) (ls1 := [.ref 0, .ref 1, .ref 88, .int (nI i)]) (st1 := [.int (nI (i + 1)), .ref 0, .ref 88, .int u]) (σ1 := _) rfl rfl (by rw [tw_nadd]) rfl ?_
  refine tw_sl0 rfl rfl (by omega) hL ?_
  refine tw_sgn 4 (i1 := 631) (ls0 := [.ref 0, .ref 1, .ref 88, .int (nI i)]) (st0 := [.int (nI i + nI 2), .ref 0, .int (xs (i + 1)), .ref 88, .int u]) (σ0 := _) (ls1 := [.ref 0, .ref 1, .ref 88, .int (nI i)]) (st1 := [.int (nI (i + 2)), .ref 0, .int (xs (i + 1)), .ref 88, .int u]) (σ1 := _) rfl rfl (by rw [tw_nadd]) rfl ?_
  refine tw_sl0 rfl rfl (by omega) hL ?_
  refine tw_cl1 rfl rfl (by decide) hE ?_
  rintro _ σ2 ⟨rfl, hI2⟩
  show tw_P L xs _ 264 633 [.ref 0, .ref 1, .ref 88, .int (nI i)] [.int u, .int u] σ2 _
  exact tw_biT (c := .eq) rfl (by rw [tw_ceq]) (kk σ2 hI2)
set_option maxRecDepth 100000 in
theorem tw_case32 (hI : tw_Inv σ) (hi : i + 4 ≤ L) (hL : L ≤ 2048) (hop : tw_op L xs 166 246 [.int (xs (i + 1))]) (kk : ∀ σ2, tw_Inv σ2 → tw_P L xs 100 264 873 [.ref 0, .ref 1, .ref 88, .int (nI i)] [] σ2 Q) : tw_P L xs 100 264 636 [.ref 0, .ref 1, .ref 88, .int (nI i)] [] σ Q := by
  refine tw_sgn 5 (i1 := 641) (ls0 := [.ref 0, .ref 1, .ref 88, .int (nI i)]) (st0 := [.int (nI i + nI 1), .ref 0, .ref 1]) (σ0 := _) (ls1 := [.ref 0, .ref 1, .ref 88, .int (nI i)]) (st1 := [.int (nI (i + 1)), .ref 0, .ref 1]) (σ1 := _) rfl rfl (by rw [tw_nadd]) rfl ?_
  refine tw_sl0 rfl rfl (by omega) hL ?_
  refine tw_cl1 rfl rfl (by decide) (hop σ hI) ?_
  rintro _ σ1 ⟨u, rfl, hE⟩
  show tw_P L xs _ 264 643 [.ref 0, .ref 1, .ref 88, .int (nI i)] [.int u] σ1 _
  refine tw_sgn 5 (i1 := 648) (ls0 := [.ref 0, .ref 1, .ref 88, .int (nI i)]) (st0 := [.int (nI i + nI 1), .ref 0, .ref 88, .int u]) (σ0 := _) (ls1 := [.ref 0, .ref 1, .ref 88, .int (nI i)]) (st1 := [.int (nI (i + 1)), .ref 0, .ref 88, .int u]) (σ1 := _) rfl rfl (by rw [tw_nadd]) rfl ?_
  refine tw_sl0 rfl rfl (by omega) hL ?_
  refine tw_cl1 rfl rfl (by decide) hE ?_
  rintro _ σ2 ⟨rfl, hI2⟩
  show tw_P L xs _ 264 650 [.ref 0, .ref 1, .ref 88, .int (nI i)] [.int u, .int u] σ2 _
  exact tw_biT (c := .eq) rfl (by rw [tw_ceq]) (kk σ2 hI2)
set_option maxRecDepth 100000 in
theorem tw_case33 (hI : tw_Inv σ) (hi : i + 4 ≤ L) (hL : L ≤ 2048) (hop : tw_op L xs 167 247 []) (kk : ∀ σ2, tw_Inv σ2 → tw_P L xs 100 264 873 [.ref 0, .ref 1, .ref 88, .int (nI i)] [] σ2 Q) : tw_P L xs 100 264 653 [.ref 0, .ref 1, .ref 88, .int (nI i)] [] σ Q := by
  refine tw_sg 1 (i1 := 654) (ls1 := [.ref 0, .ref 1, .ref 88, .int (nI i)]) (st1 := [.ref 1]) (σ1 := _) rfl ?_
  refine tw_cl1 rfl rfl (by decide) (hop σ hI) ?_
  rintro _ σ1 ⟨u, rfl, hE⟩
  show tw_P L xs _ 264 655 [.ref 0, .ref 1, .ref 88, .int (nI i)] [.int u] σ1 _
  refine tw_sg 1 (i1 := 656) (ls1 := [.ref 0, .ref 1, .ref 88, .int (nI i)]) (st1 := [.ref 88, .int u]) (σ1 := _) rfl ?_
  refine tw_cl1 rfl rfl (by decide) hE ?_
  rintro _ σ2 ⟨rfl, hI2⟩
  show tw_P L xs _ 264 657 [.ref 0, .ref 1, .ref 88, .int (nI i)] [.int u, .int u] σ2 _
  exact tw_biT (c := .eq) rfl (by rw [tw_ceq]) (kk σ2 hI2)
set_option maxRecDepth 100000 in
theorem tw_case34 (hI : tw_Inv σ) (hi : i + 4 ≤ L) (hL : L ≤ 2048) (hop : tw_op L xs 168 248 [.int (xs (i + 1))]) (kk : ∀ σ2, tw_Inv σ2 → tw_P L xs 100 264 873 [.ref 0, .ref 1, .ref 88, .int (nI i)] [] σ2 Q) : tw_P L xs 100 264 660 [.ref 0, .ref 1, .ref 88, .int (nI i)] [] σ Q := by
  refine tw_sgn 5 (i1 := 665) (ls0 := [.ref 0, .ref 1, .ref 88, .int (nI i)]) (st0 := [.int (nI i + nI 1), .ref 0, .ref 1]) (σ0 := _) (ls1 := [.ref 0, .ref 1, .ref 88, .int (nI i)]) (st1 := [.int (nI (i + 1)), .ref 0, .ref 1]) (σ1 := _) rfl rfl (by rw [tw_nadd]) rfl ?_
  refine tw_sl0 rfl rfl (by omega) hL ?_
  refine tw_cl1 rfl rfl (by decide) (hop σ hI) ?_
  rintro _ σ1 ⟨u, rfl, hE⟩
  show tw_P L xs _ 264 667 [.ref 0, .ref 1, .ref 88, .int (nI i)] [.int u] σ1 _
  refine tw_sgn 5 (i1 := 672) (ls0 := [.ref 0, .ref 1, .ref 88, .int (nI i)]) (st0 := [.int (nI i + nI 1), .ref 0, .ref 88, .int u]) (σ0 := _) (ls1 := [.ref 0, .ref 1, .ref 88, .int (nI i)]) (st1 := [.int (nI (i + 1)), .ref 0, .ref 88, .int u]) (σ1 := _) rfl rfl (by rw [tw_nadd]) rfl ?_
  refine tw_sl0 rfl rfl (by omega) hL ?_
  refine tw_cl1 rfl rfl (by decide) hE ?_
  rintro _ σ2 ⟨rfl, hI2⟩
  show tw_P L xs _ 264 674 [.ref 0, .ref 1, .ref 88, .int (nI i)] [.int u, .int u] σ2 _
  exact tw_biT (c := .eq) rfl (by rw [tw_ceq]) (kk σ2 hI2)
set_option maxRecDepth 100000 in
theorem tw_case35 (hI : tw_Inv σ) (hi : i + 4 ≤ L) (hL : L ≤ 2048) (hop : tw_op L xs 169 249 [.int (xs (i + 1))]) (kk : ∀ σ2, tw_Inv σ2 → tw_P L xs 100 264 873 [.ref 0, .ref 1, .ref 88, .int (nI i)] [] σ2 Q) : tw_P L xs 100 264 677 [.ref 0, .ref 1, .ref 88, .int (nI i)] [] σ Q := by
  refine tw_sgn 5 (i1 := 682) (ls0 := [.ref 0, .ref 1, .ref 88, .int (nI i)]) (st0 := [.int (nI i + nI 1), .ref 0, .ref 1]) (σ0 := _) (ls1 := [.ref 0, .ref 1, .ref 88, .int (nI i)]) (st1 := [.int (nI (i + 1)), .ref 0, .ref 1]) (σ1 := _) rfl rfl (by rw [tw_nadd]) rfl ?_
  refine tw_sl0 rfl rfl (by omega) hL ?_
  refine tw_cl1 rfl rfl (by decide) (hop σ hI) ?_
  rintro _ σ1 ⟨u, rfl, hE⟩
  show tw_P L xs _ 264 684 [.ref 0, .ref 1, .ref 88, .int (nI i)] [.int u] σ1 _
  refine tw_sgn 5 (i1 := 689) (ls0 := [.ref 0, .ref 1, .ref 88, .int (nI i)]) (st0 := [.int (nI i + nI 1), .ref 0, .ref 88, .int u]) (σ0 := _) (ls1 := [.ref 0, .ref 1, .ref 88, .int (nI i)]) (st1 := [.int (nI (i + 1)), .ref 0, .ref 88, .int u]) (σ1 := _) rfl rfl (by rw [tw_nadd]) rfl ?_
  refine tw_sl0 rfl rfl (by omega) hL ?_
  refine tw_cl1 rfl rfl (by decide) hE ?_
  rintro _ σ2 ⟨rfl, hI2⟩
  show tw_P L xs _ 264 691 [.ref 0, .ref 1, .ref 88, .int (nI i)] [.int u, .int u] σ2 _
  exact tw_biT (c := .eq) rfl (by rw [tw_ceq]) (kk σ2 hI2)
set_option maxRecDepth 100000 in
theorem tw_case36 (hI : tw_Inv σ) (hi : i + 4 ≤ L) (hL : L ≤ 2048) (hop : tw_op L xs 170 251 [.int (xs (i + 1)), .int (xs (i + 2))]) (kk : ∀ σ2, tw_Inv σ2 → tw_P L xs 100 264 873 [.ref 0, .ref 1, .ref 88, .int (nI i)] [] σ2 Q) : tw_P L xs 100 264 694 [.ref 0, .ref 1, .ref 88, .int (nI i)] [] σ Q := by
  refine tw_sgn 5 (i1 := 699) (ls0 := [.ref 0, .ref 1, .ref 88, .int (nI i)]) (st0 := [.int (nI i + nI 1), .ref 0, .ref 1]) (σ0 := _) (ls1 := [.ref 0, .ref 1, .ref 88, .int (nI i)]) (st1 := [.int (nI (i + 1)), .ref 0, .ref 1]) (σ1 := _) rfl rfl (by rw [tw_nadd]) rfl ?_
  refine tw_sl0 rfl rfl (by omega) hL ?_
  refine tw_sgn 4 (i1 := 704) (ls0 := [.ref 0, .ref 1, .ref 88, .int (nI i)]) (st0 := [.int (nI i + nI 2), .ref 0, .int (xs (i + 1)), .ref 1]) (σ0 := _) (ls1 := [.ref 0, .ref 1, .ref 88, .int (nI i)]) (st1 := [.int (nI (i + 2)), .ref 0, .int (xs (i + 1)), .ref 1]) (σ1 := _) rfl rfl (by rw [tw_nadd]) rfl ?_
  refine tw_sl0 rfl rfl (by omega) hL ?_
  refine tw_cl1 rfl rfl (by decide) (hop σ hI) ?_
  rintro _ σ1 ⟨u, rfl, hE⟩
  show tw_P L xs _ 264 706 [.ref 0, .ref 1, .ref 88, .int (nI i)] [.int u] σ1 _
  refine tw_sgn 5 (i1 := 711) (ls0 := [.ref 0, .ref 1, .ref 88, .int (nI i)]) (st0 := [.int (nI i + nI 1), .ref 0, .ref 88, .int u]) (σ0 := _) (ls1 := [.ref 0, .ref 1, .ref 88, .int (nI i)]) (st1 := [.int (nI (i + 1)), .ref 0, .ref 88, .int u]) (σ1 := _) rfl rfl (by rw [tw_nadd]) rfl ?_
  refine tw_sl0 rfl rfl (by omega) hL ?_
  refine tw_sgn 4 (i1 := 716) (ls0 := [.ref 0, .ref 1, .ref 88, .int (nI i)]) (st0 := [.int (nI i + nI 2), .ref 0, .int (xs (i + 1)), .ref 88, .int u]) (σ0 := _) (ls1 := [.ref 0, .ref 1, .ref 88, .int (nI i)]) (st1 := [.int (nI (i + 2)), .ref 0, .int (xs (i + 1)), .ref 88, .int u]) (σ1 := _) rfl rfl (by rw [tw_nadd]) rfl ?_
  refine tw_sl0 rfl rfl (by omega) hL ?_
  refine tw_cl1 rfl rfl (by decide) hE ?_
  rintro _ σ2 ⟨rfl, hI2⟩
  show tw_P L xs _ 264 718 [.ref 0, .ref 1, .ref 88, .int (nI i)] [.int u, .int u] σ2 _
  exact tw_biT (c := .eq) rfl (by rw [tw_ceq]) (kk σ2 hI2)
set_option maxRecDepth 100000 in
theorem tw_case37 (hI : tw_Inv σ) (hi : i + 4 ≤ L) (hL : L ≤ 2048) (hop : tw_op L xs 171 252 [.int (xs (i + 1)), .int (xs (i + 2)), .int (xs (i + 3))]) (kk : ∀ σ2, tw_Inv σ2 → tw_P L xs 100 264 873 [.ref 0, .ref 1, .ref 88, .int (nI i)] [] σ2 Q) : tw_P L xs 100 264 721 [.ref 0, .ref 1, .ref 88, .int (nI i)] [] σ Q := by
  refine tw_sgn 5 (i1 := 726) (ls0 := [.ref 0, .ref 1, .ref 88, .int (nI i)]) (st0 := [.int (nI i + nI 1), .ref 0, .ref 1]) (σ0 := _) (ls1 := [.ref 0, .ref 1, .ref 88, .int (nI i)]) (st1 := [.int (nI (i + 1)), .ref 0, .ref 1]) (σ1 := _) rfl rfl (by rw [tw_nadd]) rfl ?_
  refine tw_sl0 rfl rfl (by omega) hL ?_
  refine tw_sgn 4 (i1 := 731) (ls0 := [.ref 0, .ref 1, .ref 88, .int (nI i)]) (st0 := [.int (nI i + nI 2), .ref 0, .int (xs (i + 1)), .ref 1]) (σ0 := _) (ls1 := [.ref 0, .ref 1, .ref 88, .int (nI i)]) (st1 := [.int (nI (i + 2)), .ref 0, .int (xs (i + 1)), .ref 1]) (σ1 := _) rfl rfl (by rw [tw_nadd]) rfl ?_
  refine tw_sl0 rfl rfl (by omega) hL ?_
  refine tw_sgn 4 (i1 := 736) (ls0 := [.ref 0, .ref 1, .ref 88, .int (nI i)]) (st0 := [.int (nI i + nI 3), .ref 0, .int (xs (i + 2)), .int (xs (i + 1)), .ref 1]) (σ0 := _) (ls1 := [.ref 0, .ref 1, .ref 88, .int (nI i)]) (st1 := [.int (nI (i + 3)), .ref 0, .int (xs (i + 2)), .int (xs (i + 1)), .ref 1]) (σ1 := _) rfl rfl (by rw [tw_nadd]) rfl ?_
  refine tw_sl0 rfl rfl (by omega) hL ?_
  refine tw_cl1 rfl rfl (by decide) (hop σ hI) ?_
  rintro _ σ1 ⟨u, rfl, hE⟩
  show tw_P L xs _ 264 738 [.ref 0, .ref 1, .ref 88, .int (nI i)] [.int u] σ1 _
  refine tw_sgn 5 (i1 := 743) (ls0 := [.ref 0, .ref 1, .ref 88, .int (nI i)]) (st0 := [.int (nI i + nI 1), .ref 0, .ref 88, .int u]) (σ0 := _) (ls1 := [.ref 0, .ref 1, .ref 88, .int (nI i)]) (st1 := [.int (nI (i + 1)), .ref 0, .ref 88, .int u]) (σ1 := _) rfl rfl (by rw [tw_nadd]) rfl ?_
  refine tw_sl0 rfl rfl (by omega) hL ?_
  refine tw_sgn 4 (i1 := 748) (ls0 := [.ref 0, .ref 1, .ref 88, .int (nI i)]) (st0 := [.int (nI i + nI 2), .ref 0, .int (xs (i + 1)), .ref 88, .int u]) (σ0 := _) (ls1 := [.ref 0, .ref 1, .ref 88, .int (nI i)]) (st1 := [.int (nI (i + 2)), .ref 0, .int (xs (i + 1)), .ref 88, .int u]) (σ1 := _) rfl rfl (by rw [tw_nadd]) rfl ?_
  refine tw_sl0 rfl rfl (by omega) hL ?_
  refine tw_sgn 4 (i1 := 753) (ls0 := [.ref 0, .ref 1, .ref 88, .int (nI i)]) (st0 := [.int (nI i + nI 3), .ref 0, .int (xs (i + 2)), .int (xs (i + 1)), .ref 88, .int u]) (σ0 := _) (ls1 := [.ref 0, .ref 1, .ref 88, .int (nI i)]) (st1 := [.int (nI (i + 3)), .ref 0, .int (xs (i + 2)), .int (xs (i + 1)), .ref 88, .int u]) (σ1 := _) rfl rfl (by rw [tw_nadd]) rfl ?_
  refine tw_sl0 rfl rfl (by omega) hL ?_
  refine tw_cl1 rfl rfl (by decide) hE ?_
  rintro _ σ2 ⟨rfl, hI2⟩
  show tw_P L xs _ 264 755 [.ref 0, .ref 1, .ref 88, .int (nI i)] [.int u, .int u] σ2 _
  exact tw_biT (c := .eq) rfl (by rw [tw_ceq]) (kk σ2 hI2)
set_option maxRecDepth 100000 in
theorem tw_case38 (hI : tw_Inv σ) (hi : i + 4 ≤ L) (hL : L ≤ 2048) (hop : tw_op L xs 172 253 [.int (xs (i + 1)), .int (xs (i + 2))]) (kk : ∀ σ2, tw_Inv σ2 → tw_P L xs 100 264 873 [.ref 0, .ref 1, .ref 88, .int (nI i)] [] σ2 Q) : tw_P L xs 100 264 758 [.ref 0, .ref 1, .ref 88, .int (nI i)] [] σ Q := by
  refine tw_sgn 5 (i1 := 763) (ls0 := [.ref 0, .ref 1, .ref 88, .int (nI i)]) (st0 := [.int (nI i + nI 1), .ref 0, .ref 1]) (σ0 := _) (ls1 := [.ref 0, .ref 1, .ref 88, .int (nI i)]) (st1 := [.int (nI (i + 1)), .ref 0, .ref 1]) (σ1 := _) rfl rfl (by rw [tw_nadd]) rfl ?_
  refine tw_sl0 rfl rfl (by omega) hL ?_
  refine tw_sgn 4 (i1 := 768) (ls0 := [.ref 0, .ref 1, .ref 88, .int (nI i)]) (st0 := [.int (nI i + nI 2), .ref 0, .int (xs (i + 1)), .ref 1]) (σ0 := _) (ls1 := [.ref 0, .ref 1, .ref 88, .int (nI i)]) (st1 := [.int (nI (i + 2)), .ref 0, .int (xs (i + 1)), .ref 1]) (σ1 := _) rfl rfl (by rw [tw_nadd]) rfl ?_
  refine tw_sl0 rfl rfl (by omega) hL ?_
  refine tw_cl1 rfl rfl (by decide) (hop σ hI) ?_
  rintro _ σ1 ⟨u, rfl, hE⟩
  show tw_P L xs _ 264 770 [.ref 0, .ref 1, .ref 88, .int (nI i)] [.int u] σ1 _
  refine tw_sgn 5 (i1 := 775) (ls0 := [.ref 0, .ref 1, .ref 88, .int (nI i)]) (st0 := [.int (nI i + nI 1), .ref 0, .ref 88, .int u]) (σ0 := _) (ls1 := [.ref 0, .ref 1, .ref 88, .int (nI i)]) (st1 := [.int (nI (i + 1)), .ref 0, .ref 88, .int u]) (σ1 := _) rfl rfl (by rw [tw_nadd]) rfl ?_
  refine tw_sl0 rfl rfl (by omega) hL ?_
  refine tw_sgn 4 (i1 := 780) (ls0 := [.ref 0, .ref 1, .ref 88, .int (nI i)]) (st0 := [.int (nI i + nI 2), .ref 0, .int (xs (i + 1)), .ref 88, .int u]) (σ0 := _) (ls1 := [.ref 0, .ref 1, .ref 88, .int (nI i)]) (st1 := [.int (nI (i + 2)), .ref 0, .int (xs (i + 1)), .ref 88, .int u]) (σ1 := _) rfl rfl (by rw [tw_nadd]) rfl ?_
  refine tw_sl0 rfl rfl (by omega) hL ?_
  refine tw_cl1 rfl rfl (by decide) hE ?_
  rintro _ σ2 ⟨rfl, hI2⟩
  show tw_P L xs _ 264 782 [.ref 0, .ref 1, .ref 88, .int (nI i)] [.int u, .int u] σ2 _
  exact tw_biT (c := .eq) rfl (by rw [tw_ceq]) (kk σ2 hI2)
set_option maxRecDepth 100000 in
theorem tw_case39 (hI : tw_Inv σ) (hi : i + 4 ≤ L) (hL : L ≤ 2048) (hop : tw_op L xs 173 254 [.int (xs (i + 1)), .int (xs (i + 2)), .int (xs (i + 3))]) (kk : ∀ σ2, tw_Inv σ2 → tw_P L xs 100 264 873 [.ref 0, .ref 1, .ref 88, .int (nI i)] [] σ2 Q) : tw_P L xs 100 264 785 [.ref 0, .ref 1, .ref 88, .int (nI i)] [] σ Q := by
  refine tw_sgn 5 (i1 := 790) (ls0 := [.ref 0, .ref 1, .ref 88, .int (nI i)]) (st0 := [.int (nI i + nI 1), .ref 0, .ref 1]) (σ0 := _) (ls1 := [.ref 0, .ref 1, .ref 88, .int (nI i)]) (st1 := [.int (nI (i + 1)), .ref 0, .ref 1]) (σ1 := _) rfl rfl (by rw [tw_nadd]) rfl ?_
  refine tw_sl0 rfl rfl (by omega) hL ?_
  refine tw_sgn 4 (i1 := 795) (ls0 := [.ref 0, .ref 1, .ref 88, .int (nI i)]) (st0 := [.int (nI i + nI 2), .ref 0, .int (xs (i + 1)), .ref 1]) (σ0 := _) (ls1 := [.ref 0, .ref 1, .ref 88, .int (nI i)]) (st1 := [.int (nI (i + 2)), .ref 0, .int (xs (i + 1)), .ref 1]) (σ1 := _) rfl rfl (by rw [tw_nadd]) rfl ?_
  refine tw_sl0 rfl rfl (by omega) hL ?_
  refine tw_sgn 4 (i1 := 800) (ls0 := [.ref 0, .ref 1, .ref 88, .int (nI i)]) (st0 := [.int (nI i + nI 3), .ref 0, .int (xs (i + 2)), .int (xs (i + 1)), .ref 1]) (σ0 := _) (ls1 := [.ref 0, .ref 1, .ref 88, .int (nI i)]) (st1 := [.int (nI (i + 3)), .ref 0, .int (xs (i + 2)), .int (xs (i + 1)), .ref 1]) (σ1 := _) rfl rfl (by rw [tw_nadd]) rfl ?_
  refine tw_sl0 rfl rfl (by omega) hL ?_
  refine tw_cl1 rfl rfl (by decide) (hop σ hI) ?_
  rintro _ σ1 ⟨u, rfl, hE⟩
  show tw_P L xs _ 264 802 [.ref 0, .ref 1, .ref 88, .int (nI i)] [.int u] σ1 _
  refine tw_sgn 5 (i1 := 807) (ls0 := [.ref 0, .ref 1, .ref 88, .int (nI i)]) (st0 := [.int (nI i + nI 1), .ref 0, .ref 88, .int u]) (σ0 := _) (ls1 := [.ref 0, .ref 1, .ref 88, .int (nI i)]) (st1 := [.int (nI (i + 1)), .ref 0, .ref 88, .int u]) (σ1 := _) rfl rfl (by rw [tw_nadd]) rfl ?_
  refine tw_sl0 rfl rfl (by omega) hL ?_
  refine tw_sgn 4 (i1 := 812) (ls0 := [.ref 0, .ref 1, .ref 88, .int (nI i)]) (st0 := [.int (nI i + nI 2), .ref 0, .int (xs (i + 1)), .ref 88, .int u]) (σ0 := _) (ls1 := [.ref 0, .ref 1, .ref 88, .int (nI i)]) (st1 := [.int (nI (i + 2)), .ref 0, .int (xs (i + 1)), .ref 88, .int u]) (σ1 := _) rfl rfl (by rw [tw_nadd]) rfl ?_
  refine tw_sl0 rfl rfl (by omega) hL ?_
  refine tw_sgn 4 (i1 := 817) (ls0 := [.ref 0, .ref 1, .ref 88, .int (nI i)]) (st0 := [.int (nI i + nI 3), .ref 0, .int (xs (i + 2)), .int (xs (i + 1)), .ref 88, .int u]) (σ0 := _) (ls1 := [.ref 0, .ref 1, .ref 88, .int (nI i)]) (st1 := [.int (nI (i + 3)), .ref 0, .int (xs (i + 2)), .int (xs (i + 1)), .ref 88, .int u]) (σ1 := _) rfl rfl (by rw [tw_nadd]) rfl ?_
  refine tw_sl0 rfl rfl (by omega) hL ?_
  refine tw_cl1 rfl rfl (by decide) hE ?_
  rintro _ σ2 ⟨rfl, hI2⟩
  show tw_P L xs _ 264 819 [.ref 0, .ref 1, .ref 88, .int (nI i)] [.int u, .int u] σ2 _
  exact tw_biT (c := .eq) rfl (by rw [tw_ceq]) (kk σ2 hI2)
set_option maxRecDepth 100000 in
theorem tw_case40 (hI : tw_Inv σ) (hi : i + 4 ≤ L) (hL : L ≤ 2048) (hop : tw_op L xs 174 255 [.int (xs (i + 1)), .int (xs (i + 2)), .int (xs (i + 3))]) (kk : ∀ σ2, tw_Inv σ2 → tw_P L xs 100 264 873 [.ref 0, .ref 1, .ref 88, .int (nI i)] [] σ2 Q) : tw_P L xs 100 264 822 [.ref 0, .ref 1, .ref 88, .int (nI i)] [] σ Q := by
  refine tw_sgn 5 (i1 := 827) (ls0 := [.ref 0, .ref 1, .ref 88, .int (nI i)]) (st0 := [.int (nI i + nI 1), .ref 0, .ref 1]) (σ0 := _) (ls1 := [.ref 0, .ref 1, .ref 88, .int (nI i)]) (st1 := [.int (nI (i + 1)), .ref 0, .ref 1]) (σ1 := _) rfl rfl (by rw [tw_nadd]) rfl ?_
  refine tw_sl0 rfl rfl (by omega) hL ?_
  refine tw_sgn 4 (i1 := 832) (ls0 := [.ref 0, .ref 1, .ref 88, .int (nI i)]) (st0 := [.int (nI i + nI 2), .ref 0, .int (xs (i + 1)), .ref 1]) (σ0 := _) (ls1 := [.ref 0, .ref 1, .ref 88, .int (nI i)]) (st1 := [.int (nI (i + 2)), .ref 0, .int (xs (i + 1)), .ref 1]) (σ1 := _) rfl rfl (by rw [tw_nadd]) rfl ?_
  refine tw_sl0 rfl rfl (by omega) hL ?_
  refine tw_sgn 4 (i1 := 837) (ls0 := [.ref 0, .ref 1, .ref 88, .int (nI i)]) (st0 := [.int (nI i + nI 3), .ref 0, .int (xs (i + 2)), .int (xs (i + 1)), .ref 1]) (σ0 := _) (ls1 := [.ref 0, .ref 1, .ref 88, .int (nI i)]) (st1 := [.int (nI (i + 3)), .ref 0, .int (xs (i + 2)), .int (xs (i + 1)), .ref 1]) (σ1 := _) rfl rfl (by rw [tw_nadd]) rfl ?_
  refine tw_sl0 rfl rfl (by omega) hL ?_
  refine tw_cl1 rfl rfl (by decide) (hop σ hI) ?_
  rintro _ σ1 ⟨u, rfl, hE⟩
  show tw_P L xs _ 264 839 [.ref 0, .ref 1, .ref 88, .int (nI i)] [.int u] σ1 _
  refine tw_sgn 5 (i1 := 844) (ls0 := [.ref 0, .ref 1, .ref 88, .int (nI i)]) (st0 := [.int (nI i + nI 1), .ref 0, .ref 88, .int u]) (σ0 := _) (ls1 := [.ref 0, .ref 1, .ref 88, .int (nI i)]) (st1 := [.int (nI (i + 1)), .ref 0, .ref 88, .int u]) (σ1 := _) rfl rfl (by rw [tw_nadd]) rfl ?_
  refine tw_sl0 rfl rfl (by omega) hL ?_
  refine tw_sgn 4 (i1 := 849) (ls0 := [.ref 0, .ref 1, .ref 88, .int (nI i)]) (st0 := [.int (nI i + nI 2), .ref 0, .int (xs (i + 1)), .ref 88, .int u]) (σ0 := _) (ls1 := [.ref 0, .ref 1, .ref 88, .int (nI i)]) (st1 := [.int (nI (i + 2)), .ref 0, .int (xs (i + 1)), .ref 88, .int u]) (σ1 := _) rfl rfl (by rw [tw_nadd]) rfl ?_
  refine tw_sl0 rfl rfl (by omega) hL ?_
  refine tw_sgn 4 (i1 := 854) (ls0 := [.ref 0, .ref 1, .ref 88, .int (nI i)]) (st0 := [.int (nI i + nI 3), .ref 0, .int (xs (i + 2)), .int (xs (i + 1)), .ref 88, .int u]) (σ0 := _) (ls1 := [.ref 0, .ref 1, .ref 88, .int (nI i)]) (st1 := [.int (nI (i + 3)), .ref 0, .int (xs (i + 2)), .int (xs (i + 1)), .ref 88, .int u]) (σ1 := _) rfl rfl (by rw [tw_nadd]) rfl ?_
  refine tw_sl0 rfl rfl (by omega) hL ?_
  refine tw_cl1 rfl rfl (by decide) hE ?_
  rintro _ σ2 ⟨rfl, hI2⟩
  show tw_P L xs _ 264 856 [.ref 0, .ref 1, .ref 88, .int (nI i)] [.int u, .int u] σ2 _
  exact tw_biT (c := .eq) rfl (by rw [tw_ceq]) (kk σ2 hI2)
set_option maxRecDepth 100000 in
theorem tw_case41 (hI : tw_Inv σ) (hi : i + 4 ≤ L) (hL : L ≤ 2048) (hop : tw_op L xs 175 258 []) (kk : ∀ σ2, tw_Inv σ2 → tw_P L xs 100 264 873 [.ref 0, .ref 1, .ref 88, .int (nI i)] [] σ2 Q) : tw_P L xs 100 264 859 [.ref 0, .ref 1, .ref 88, .int (nI i)] [] σ Q := by
  refine tw_sg 1 (i1 := 860) (ls1 := [.ref 0, .ref 1, .ref 88, .int (nI i)]) (st1 := [.ref 1]) (σ1 := _) rfl ?_
  refine tw_cl1 rfl rfl (by decide) (hop σ hI) ?_
  rintro _ σ1 ⟨u, rfl, hE⟩
  show tw_P L xs _ 264 861 [.ref 0, .ref 1, .ref 88, .int (nI i)] [.int u] σ1 _
  refine tw_sg 1 (i1 := 862) (ls1 := [.ref 0, .ref 1, .ref 88, .int (nI i)]) (st1 := [.ref 88, .int u]) (σ1 := _) rfl ?_
  refine tw_cl1 rfl rfl (by decide) hE ?_
  rintro _ σ2 ⟨rfl, hI2⟩
  show tw_P L xs _ 264 863 [.ref 0, .ref 1, .ref 88, .int (nI i)] [.int u, .int u] σ2 _
  exact tw_biT (c := .eq) rfl (by rw [tw_ceq]) (kk σ2 hI2)
set_option maxRecDepth 100000 in
theorem tw_case42 (hI : tw_Inv σ) (hi : i + 4 ≤ L) (hL : L ≤ 2048) (hop : tw_op L xs 176 259 []) (kk : ∀ σ2, tw_Inv σ2 → tw_P L xs 100 264 873 [.ref 0, .ref 1, .ref 88, .int (nI i)] [] σ2 Q) : tw_P L xs 100 264 866 [.ref 0, .ref 1, .ref 88, .int (nI i)] [] σ Q := by
  refine tw_sg 1 (i1 := 867) (ls1 := [.ref 0, .ref 1, .ref 88, .int (nI i)]) (st1 := [.ref 1]) (σ1 := _) rfl ?_
  refine tw_cl1 rfl rfl (by decide) (hop σ hI) ?_
  rintro _ σ1 ⟨u, rfl, hE⟩
  show tw_P L xs _ 264 868 [.ref 0, .ref 1, .ref 88, .int (nI i)] [.int u] σ1 _
  refine tw_sg 1 (i1 := 869) (ls1 := [.ref 0, .ref 1, .ref 88, .int (nI i)]) (st1 := [.ref 88, .int u]) (σ1 := _) rfl ?_
  refine tw_cl1 rfl rfl (by decide) hE ?_
  rintro _ σ2 ⟨rfl, hI2⟩
  show tw_P L xs _ 264 870 [.ref 0, .ref 1, .ref 88, .int (nI i)] [.int u, .int u] σ2 _
  exact tw_biT (c := .eq) rfl (by rw [tw_ceq]) (kk σ2 hI2)
set_option maxRecDepth 100000 in
theorem tw_law_loop (hL : L ≤ 2048) : ∀ (k i : Nat) (σ : tw_Mem), L + 4 - i ≤ k → i ≤ 4000 → tw_Inv σ → tw_P L xs 100 264 10 [.ref 0, .ref 1, .ref 88, .int (nI i)] [] σ (fun v _ => v = some (.int (nI 1))) := by
  intro k
  induction k with
  | zero =>
    intro i σ hk hi hI
    refine tw_sg 2 (i1 := 12) (ls1 := [.ref 0, .ref 1, .ref 88, .int (nI i)]) (st1 := [.ref 0, .int (nI i)]) (σ1 := σ) rfl ?_
    refine tw_slen0 rfl ?_
    refine tw_sg 2 (i1 := 15) (ls1 := [.ref 0, .ref 1, .ref 88, .int (nI i)]) (st1 := [.int (nI L - nI 4), .int (nI i)]) (σ1 := σ) rfl ?_
    refine tw_biT (c := .gt) rfl (by rw [tw_cgt, tw_lm4 hL (by omega)]; omega) ?_
    show tw_P L xs _ 264 875 [.ref 0, .ref 1, .ref 88, .int (nI i)] [] σ _
    refine tw_sg 1 (i1 := 876) (ls1 := [.ref 0, .ref 1, .ref 88, .int (nI i)]) (st1 := [.int (nI 1)]) (σ1 := σ) rfl ?_
    exact tw_ri rfl rfl rfl
  | succ k ih =>
    intro i σ hk hi hI
    refine tw_sg 2 (i1 := 12) (ls1 := [.ref 0, .ref 1, .ref 88, .int (nI i)]) (st1 := [.ref 0, .int (nI i)]) (σ1 := σ) rfl ?_
    refine tw_slen0 rfl ?_
    refine tw_sg 2 (i1 := 15) (ls1 := [.ref 0, .ref 1, .ref 88, .int (nI i)]) (st1 := [.int (nI L - nI 4), .int (nI i)]) (σ1 := σ) rfl ?_
    refine tw_bi (c := .gt) rfl (fun h => ?_) (fun h => ?_)
    · show tw_P L xs _ 264 875 [.ref 0, .ref 1, .ref 88, .int (nI i)] [] σ _
      refine tw_sg 1 (i1 := 876) (ls1 := [.ref 0, .ref 1, .ref 88, .int (nI i)]) (st1 := [.int (nI 1)]) (σ1 := σ) rfl ?_
      exact tw_ri rfl rfl rfl
    · rw [tw_cgt', tw_lm4 hL (by omega)] at h
      have hn : ∀ σ2, tw_Inv σ2 → tw_P L xs 100 264 873 [.ref 0, .ref 1, .ref 88, .int (nI i)] [] σ2 (fun v _ => v = some (.int (nI 1))) := fun σ2 hI2 => by
        refine tw_sgn 2 (i1 := 10) (ls0 := [.ref 0, .ref 1, .ref 88, .int (nI i + nI 4)]) (st0 := []) (σ0 := σ2) (ls1 := [.ref 0, .ref 1, .ref 88, .int (nI (i + 4))]) (st1 := []) (σ1 := σ2) rfl (by rw [tw_nadd]) rfl rfl ?_
        exact ih (i + 4) σ2 (by omega) (by omega) hI2
      refine tw_sg 2 (i1 := 18) (ls1 := [.ref 0, .ref 1, .ref 88, .int (nI i)]) (st1 := [.int (nI i), .ref 0]) (σ1 := σ) rfl ?_
      refine tw_sl0 rfl rfl (by omega) hL ?_
      refine tw_sg 2 (i1 := 21) (ls1 := [.ref 0, .ref 1, .ref 88, .int (nI i)]) (st1 := [.int (xs i &&& nI 63)]) (σ1 := σ) rfl ?_
      rcases tw_within (xs i &&& nI 63) 43 (by decide) with ⟨q, hq, hu⟩ | hu
      · rcases (show q = 0 ∨ q = 1 ∨ q = 2 ∨ q = 3 ∨ q = 4 ∨ q = 5 ∨ q = 6 ∨ q = 7 ∨ q = 8 ∨ q = 9 ∨ q = 10 ∨ q = 11 ∨ q = 12 ∨ q = 13 ∨ q = 14 ∨ q = 15 ∨ q = 16 ∨ q = 17 ∨ q = 18 ∨ q = 19 ∨ q = 20 ∨ q = 21 ∨ q = 22 ∨ q = 23 ∨ q = 24 ∨ q = 25 ∨ q = 26 ∨ q = 27 ∨ q = 28 ∨ q = 29 ∨ q = 30 ∨ q = 31 ∨ q = 32 ∨ q = 33 ∨ q = 34 ∨ q = 35 ∨ q = 36 ∨ q = 37 ∨ q = 38 ∨ q = 39 ∨ q = 40 ∨ q = 41 ∨ q = 42 by omega) with rfl | rfl | rfl | rfl | rfl | rfl | rfl | rfl | rfl | rfl | rfl | rfl | rfl | rfl | rfl | rfl | rfl | rfl | rfl | rfl | rfl | rfl | rfl | rfl | rfl | rfl | rfl | rfl | rfl | rfl | rfl | rfl | rfl | rfl | rfl | rfl | rfl | rfl | rfl | rfl | rfl | rfl | rfl
        · exact tw_sw (j := 0) rfl hu (by decide) (by decide) rfl (tw_case0 hI (by omega) hL (tw_o_feed _) hn)
        · exact tw_sw (j := 1) rfl hu (by decide) (by decide) rfl (tw_case1 hI (by omega) hL (tw_o_clear) hn)
        · exact tw_sw (j := 2) rfl hu (by decide) (by decide) rfl (tw_case2 hI (by omega) hL (tw_o_thread) hn)
        · exact tw_sw (j := 3) rfl hu (by decide) (by decide) rfl (tw_case3 hI (by omega) hL (tw_o_law) hn)
        · exact tw_sw (j := 4) rfl hu (by decide) (by decide) rfl (tw_case4 hI (by omega) hL (tw_o_card _ _) hn)
        · exact tw_sw (j := 5) rfl hu (by decide) (by decide) rfl (tw_case5 hI (by omega) hL (tw_o_slant _) hn)
        · exact tw_sw (j := 6) rfl hu (by decide) (by decide) rfl (tw_case6 hI (by omega) hL (tw_o_place _ _) hn)
        · exact tw_sw (j := 7) rfl hu (by decide) (by decide) rfl (tw_case7 hI (by omega) hL (tw_o_recolour _ _ _) hn)
        · exact tw_sw (j := 8) rfl hu (by decide) (by decide) rfl (tw_case8 hI (by omega) hL (tw_o_turn _ _) hn)
        · exact tw_sw (j := 9) rfl hu (by decide) (by decide) rfl (tw_case9 hI (by omega) hL (tw_o_pack _ _) hn)
        · exact tw_sw (j := 10) rfl hu (by decide) (by decide) rfl (tw_case10 hI (by omega) hL (tw_o_weave _) hn)
        · exact tw_sw (j := 11) rfl hu (by decide) (by decide) rfl (tw_case11 hI (by omega) hL (tw_o_unweave _) hn)
        · exact tw_sw (j := 12) rfl hu (by decide) (by decide) rfl (tw_case12 hI (by omega) hL (tw_o_front _ _) hn)
        · exact tw_sw (j := 13) rfl hu (by decide) (by decide) rfl (tw_case13 hI (by omega) hL (tw_o_back _ _) hn)
        · exact tw_sw (j := 14) rfl hu (by decide) (by decide) rfl (tw_case14 hI (by omega) hL (tw_o_lean _ _) hn)
        · exact tw_sw (j := 15) rfl hu (by decide) (by decide) rfl (tw_case15 hI (by omega) hL (tw_o_turning _ _) hn)
        · exact tw_sw (j := 16) rfl hu (by decide) (by decide) rfl (tw_case16 hI (by omega) hL (tw_o_returns) hn)
        · exact tw_sw (j := 17) rfl hu (by decide) (by decide) rfl (tw_case17 hI (by omega) hL (tw_o_flat) hn)
        · exact tw_sw (j := 18) rfl hu (by decide) (by decide) rfl (tw_case18 hI (by omega) hL (tw_o_jam) hn)
        · exact tw_sw (j := 19) rfl hu (by decide) (by decide) rfl (tw_case19 hI (by omega) hL (tw_o_undoing _ _) hn)
        · exact tw_sw (j := 20) rfl hu (by decide) (by decide) rfl (tw_case20 hI (by omega) hL (tw_o_paint _ _ _) hn)
        · exact tw_sw (j := 21) rfl hu (by decide) (by decide) rfl (tw_case21 hI (by omega) hL (tw_o_lines _) hn)
        · exact tw_sw (j := 22) rfl hu (by decide) (by decide) rfl (tw_case22 hI (by omega) hL (tw_o_draft _ _) hn)
        · exact tw_sw (j := 23) rfl hu (by decide) (by decide) rfl (tw_case23 hI (by omega) hL (tw_o_fewest _) hn)
        · exact tw_sw (j := 24) rfl hu (by decide) (by decide) rfl (tw_case24 hI (by omega) hL (tw_o_weaveDraft) hn)
        · exact tw_sw (j := 25) rfl hu (by decide) (by decide) rfl (tw_case25 hI (by omega) hL (tw_o_matches _) hn)
        · exact tw_sw (j := 26) rfl hu (by decide) (by decide) rfl (tw_case26 hI (by omega) hL (tw_o_period) hn)
        · exact tw_sw (j := 27) rfl hu (by decide) (by decide) rfl (tw_case27 hI (by omega) hL (tw_o_mirrors) hn)
        · exact tw_sw (j := 28) rfl hu (by decide) (by decide) rfl (tw_case28 hI (by omega) hL (tw_o_run _) hn)
        · exact tw_sw (j := 29) rfl hu (by decide) (by decide) rfl (tw_case29 hI (by omega) hL (tw_o_colours _ _) hn)
        · exact tw_sw (j := 30) rfl hu (by decide) (by decide) rfl (tw_case30 hI (by omega) hL (tw_o_ranked _) hn)
        · exact tw_sw (j := 31) rfl hu (by decide) (by decide) rfl (tw_case31 hI (by omega) hL (tw_o_alike _ _) hn)
        · exact tw_sw (j := 32) rfl hu (by decide) (by decide) rfl (tw_case32 hI (by omega) hL (tw_o_faces _) hn)
        · exact tw_sw (j := 33) rfl hu (by decide) (by decide) rfl (tw_case33 hI (by omega) hL (tw_o_spell) hn)
        · exact tw_sw (j := 34) rfl hu (by decide) (by decide) rfl (tw_case34 hI (by omega) hL (tw_o_paper _) hn)
        · exact tw_sw (j := 35) rfl hu (by decide) (by decide) rfl (tw_case35 hI (by omega) hL (tw_o_told _) hn)
        · exact tw_sw (j := 36) rfl hu (by decide) (by decide) rfl (tw_case36 hI (by omega) hL (tw_o_list _ _) hn)
        · exact tw_sw (j := 37) rfl hu (by decide) (by decide) rfl (tw_case37 hI (by omega) hL (tw_o_set _ _ _) hn)
        · exact tw_sw (j := 38) rfl hu (by decide) (by decide) rfl (tw_case38 hI (by omega) hL (tw_o_get _ _) hn)
        · exact tw_sw (j := 39) rfl hu (by decide) (by decide) rfl (tw_case39 hI (by omega) hL (tw_o_lay _ _ _) hn)
        · exact tw_sw (j := 40) rfl hu (by decide) (by decide) rfl (tw_case40 hI (by omega) hL (tw_o_judge _ _ _) hn)
        · exact tw_sw (j := 41) rfl hu (by decide) (by decide) rfl (tw_case41 hI (by omega) hL (tw_o_image) hn)
        · exact tw_sw (j := 42) rfl hu (by decide) (by decide) rfl (tw_case42 hI (by omega) hL (tw_o_undo) hn)
      · refine tw_swo rfl (hu.imp id (fun h => tw_lt_of_le' h.2)) (by decide) ?_
        exact hn σ hI
set_option maxRecDepth 100000 in
theorem tw_pure (L : Nat) (xs : Nat → Int32) (hL : L ≤ 2048) : ∃ σ1, tw_R L xs 100 tw_LAW (0, tw_ent tw_LAW [.ref 0], [], some 0, fun _ _ => 0) (some (.int 1), none, σ1) := by
  obtain ⟨v, σ1, h1, h2⟩ := tw_law_loop (xs := xs) hL (L + 4) 0 tw_sB (by omega) (by omega) tw_Inv0
  subst h2
  refine ⟨σ1, ?_⟩
  refine tw_go1 (g := (1, [.ref 0, tw_U, tw_U, tw_U], [.ref 1], some 1, tw_born (fun _ _ => 0) 1)) rfl rfl ?_
  refine tw_go1 (g := (2, [.ref 0, tw_U, tw_U, tw_U], [.ref 1, .ref 1], some 1, tw_born (fun _ _ => 0) 1)) rfl rfl ?_
  refine tw_call1 (d1 := 20) rfl rfl (by decide) (tw_evg_R 2000 20 131 _ _ tw_cA_eq) ?_
  show tw_R L xs _ _ (3, [.ref 0, tw_U, tw_U, tw_U], [.ref 1], some 87, tw_sA) _
  refine tw_go1 (g := (4, [.ref 0, .ref 1, tw_U, tw_U], [], some 87, tw_sA)) rfl rfl ?_
  refine tw_go1 (g := (5, [.ref 0, .ref 1, tw_U, tw_U], [.ref 88], some 88, tw_born tw_sA 88)) rfl rfl ?_
  refine tw_go1 (g := (6, [.ref 0, .ref 1, tw_U, tw_U], [.ref 88, .ref 88], some 88, tw_born tw_sA 88)) rfl rfl ?_
  refine tw_call1 (d1 := 20) rfl rfl (by decide) (tw_evg_R 2000 20 183 _ _ tw_cB_eq) ?_
  show tw_R L xs _ _ (7, [.ref 0, .ref 1, tw_U, tw_U], [.ref 88], some tw_NC, tw_sB) _
  refine tw_full1 tw_sB_full ?_
  refine tw_go1 (g := (8, [.ref 0, .ref 1, .ref 88, tw_U], [], none, tw_sB)) rfl rfl ?_
  refine tw_go1 (g := (9, [.ref 0, .ref 1, .ref 88, tw_U], [.int (nI 0)], none, tw_sB)) rfl rfl ?_
  refine tw_go1 (g := (10, [.ref 0, .ref 1, .ref 88, .int (nI 0)], [], none, tw_sB)) rfl rfl ?_
  exact h1
end tw_L
end
section
/-! the claim out of the law's walk: begun from kit/laws/SKELETON.whole.lean.txt -/
def R_law : String := "CardLoomLaw"
def lw_P (b : Addr) (xs : List Int32) (args : Array Value) (s : State) : Prop := args = #[.ref b] ∧ s.IntsAt b xs ∧ xs.length ≤ 2048 ∧ (Jvm.Cond.and given_1 narrow_1).before args s = true
def lw_Q (_ : Array Value) (s : State) (o : Outcome) (t : State) : Prop := o = .returned (some (.int 1)) ∧ Framed s o t [] 600000 7302250
def lw_Z (below : List Frame) (a : Array Value) (s : State) : State → Prop := fun t => ∃ o, t.status = .running ∧ Ended t below o ∧ lw_Q a s o t
/-- the law's own end, with 1 on the stack, nothing written that was there before, its room as the claim has it -/
theorem lw_ret {p : Program} {l : Launch} {e : Env} {s : State} {m : MethodId} {below : List Frame} {meth : Method} {c : Code} {b : Nat} (hx : p.tables.exec = Jvm.exec) (hb : c.code = code) (hr : meth.sig.returnType = ret) (hlocks : meth.locks = false) {pc : Nat} {H : Heap} {ls : Array Slot} (hdg : decode code pc = .ok (.ireturn, 1)) : W p l e room_1 s m #[Value.ref b] below meth c H [] 600000 7302250 (lw_Z below #[Value.ref b] s) (F0 m pc ls [.int 1]) := by
  intro T hT X
  obtain ⟨fs, hret, hrun, hended, hW, hframe⟩ := X.leave (v := some (.int 1)) (hlocks := hlocks) (fun h => by rw [hr] at h; cases h)
  have hmeth' : T.vm.method? m = some meth := X.method'
  refine ⟨T.setFrames fs, ?_, .returned (some (.int 1)), hrun, hended, rfl, ⟨_, rfl⟩, hW, hframe⟩
  jvm_step X.here [X.here.top, hx, hb, hdg, hmeth', hr, ret, narrow_b1]
  (try refine ⟨rfl, ?_⟩); (try refine ⟨rfl, ?_⟩)
  first | (intro acts; rw [hret _ acts rfl rfl rfl]) | rw [hret _ _ rfl rfl rfl]
  exact Steps.refl _
/-- what holds at the law's entry: the machine, the code, the tables' words (any of lw_tbl by 'hts w (by decide +kernel)'), the script of L ints xs at the cell b, what the Statement gives of the start (any of its parts by flat_of_before) -/
def lw_At (p : Program) (s : State) (m : MethodId) (meth : Method) (c : Code) (b L : Nat) (xs : Nat → Int32) : Prop :=
  p.tables.exec = Jvm.exec ∧ c.code = code ∧ meth.sig.returnType = ret ∧ c.maxLocals = 4 ∧ s.vm.findClass R_law = some m.cls ∧ (∀ w ∈ lw_tbl, w.before #[Value.ref b] s = true) ∧ va_X b L xs s s.heap ∧ b < s.heap.size ∧ meth.locks = false ∧ (Jvm.Cond.and given_1 narrow_1).before #[Value.ref b] s = true
theorem whole_start {p : Program} {e : Env} {s : State} {m : MethodId} {below : List Frame} {meth : Method} {c : Code} (l : Launch) (hflags : l.flags = flags0) {b L : Nat} {xs : Nat → Int32} (hL : L ≤ 2048) (C0 : lw_At p s m meth c b L xs) : W p l e room_1 s m #[Value.ref b] below meth c s.heap [] 0 0 (lw_Z below #[Value.ref b] s) (entryFrame m ([Value.ref b] : List Value).toArray 4) := by
  obtain ⟨hx, hb, hr, hml, hown, hts, hX, hbl, hlocks, hgv⟩ := C0
  obtain ⟨σ1, hp⟩ := tw_pure L xs hL
  exact tw_start l hx hb hr hml hown hts hX hbl hlocks hp (fun pc H ls hd => lw_ret hx hb hr hlocks hd)
set_option maxHeartbeats 4000000 in
theorem lw_walk (l : Launch) (hflags : l.flags = flags0) (b : Addr) (xs : List Int32) : MetFree l x (headSpec (Jvm.Cond.code x code maxLocals ret :: tables_1) room_1) (lw_P b xs) (fun _ _ _ _ _ => True) lw_Q := by
  refine MetFree.of_bodyS (code := code) (maxLocals := maxLocals) (ret := ret) (by decide) ?_ ?_
  · intro args s m h hn
    obtain ⟨meth, c, h1, h2, h3, h4, h5, h6, -, -⟩ := Cond.code_spec hn (atoms_spec (ws := Jvm.Cond.code x code maxLocals ret :: tables_1) h _ List.mem_cons_self)
    exact ⟨meth, c, h1, h2, h3, h4, h5, h6⟩
  · intro p e s m args below meth c s₁ B hml0 hP _
    obtain ⟨rfl, hx, hbd, hgv⟩ := hP
    obtain ⟨scr, harrAt, hlist, hof, hsmall⟩ := hx
    obtain ⟨hcb, hkn, -, -⟩ := State.arrayAt?_spec harrAt
    have hown : s.vm.findClass R_law = some m.cls := findClass_of_methodNamed B.named
    have hts0 : ∀ c ∈ (Jvm.Cond.code x code maxLocals ret :: tables_1), c.before #[Value.ref b] s = true := atoms_spec (ws := Jvm.Cond.code x code maxLocals ret :: tables_1) B.pre
    have hts : ∀ w ∈ lw_tbl, w.before #[Value.ref b] s = true := k2_hts_sels lw_privs (fun w hw => hts0 w (List.mem_cons_of_mem _ hw)) lw_privs_ok
    have hml : c.maxLocals = 4 := B.maxLocals_eq (hts0 _ List.mem_cons_self)
    have X₀ : Stand p l e room_1 s m #[Value.ref b] below meth c s₁ [] 0 0 := Stand.of_body B
    have hh0 : s₁.heap = s.heap := by rw [B.state]; rfl
    have hsz : scr.slots.size = xs.length := by rw [← Array.length_toList, hlist, List.length_map]
    have hval : ∀ j : Nat, j < xs.length → scr.slots[j]? = some (.int (xs.getD j 0)) := fun j hj => by
      rw [← Array.getElem?_toList, hlist]
      simp [hj]
    have hbl : b < s.heap.size := (Array.getElem?_eq_some_iff.mp hcb).1
    have hX : va_X b xs.length (fun j => xs.getD j 0) s s.heap := ⟨scr, hcb, hof, hkn, hsz, hval⟩
    have K : W p l e room_1 s m #[Value.ref b] below meth c s₁.heap [] 0 0 (lw_Z below #[Value.ref b] s) (entryFrame m ([Value.ref b] : List Value).toArray 4) := by
      rw [hh0]
      exact whole_start l hflags hbd ⟨B.exec, B.bytes, B.returns, hml, hown, hts, hX, hbl, B.notSynchronized, hgv⟩
    obtain ⟨t, a1, o, b1, b2, b3⟩ := K s₁ rfl X₀
    exact ⟨t, o, a1, b1, b2, b3⟩
theorem lw_pre_spec {args : Array Value} {s : State} (h : (Jvm.Cond.and given_1 narrow_1).before args s = true) (hr : rest_1_c.before args s = true) : ∃ (b : Addr) (xs : List Int32), lw_P b xs args s := by
  have hs := flat_of_before _ h
  have hq := flat_of_before _ hr
  have hc : (Cond.count 1).before args s = true := hs _ (by decide +kernel)
  have harr : (Cond.arrayOf (.arg 0) .int).before args s = true := hs _ (by decide +kernel)
  have hle : (Cond.le (.length (.arg 0)) (.int 2048)).before args s = true := hs _ (by decide +kernel)
  have hlen : (Cond.isInt (.length (.arg 0))).before args s = true := hq _ (by decide +kernel)
  have hall : (Cond.all (.arg 0) (.isInt (.elem (.arg 0) (.index 0)))).before args s = true := hq _ (by decide +kernel)
  obtain ⟨b, xs, hb, hx⟩ := State.ints_of_pre rfl harr hlen hall
  have hsm : xs.length < 2 ^ 31 := hx.choose_spec.2.2.2
  have hev : (Term.length (.arg 0)).eval args s none [] s = some (.int xs.length.toInt32) := hx.length_eval hb
  have hv := Cond.le_ints hev (show (Term.int 2048).eval args s none [] s = some (.int 2048) from rfl)
  have hd : xs.length.toInt32 ≤ 2048 := by
    simpa [Cond.before, Cond.holds, hv] using hle
  have hN : xs.length ≤ 2048 := (Int32.ofNat_le_ofNat hsm (by decide)).mp (show Int32.ofNat xs.length ≤ Int32.ofNat 2048 from hd)
  exact ⟨b, xs, Cond.one_arg hc (show args[0]? = some (.ref b) from hb), hx, hN, h⟩
theorem lw_comes (l : Launch) (hflags : l.flags = flags0) : Comes l x (Jvm.Cond.code x code maxLocals ret :: tables_1) room_1 (fun tb e args s => Calls_1 tb e args s ∧ rest_1 tb e args s ∧ Pre_1 tb e args s)
    (fun _ _ args s o t => lw_Q args s o t) := by
  intro p e ha hc hk s m args below hf hfit hheap happ hpre
  obtain ⟨b, xs, hP⟩ := lw_pre_spec hpre.2.2 hpre.2.1
  obtain ⟨k, o, h1, h2, h3, hQ⟩ := lw_walk l hflags b xs p e ha hc hk s m args below hf ((Spec.applies_iff_loose hf).mp happ).1 hP trivial
  exact ⟨k, o, h1, h2, h3, hQ⟩
theorem lw_frame {s t : State} {o : Outcome} {args : Array Value} (h : Framed s o t [] 600000 7302250) :
    Framed s o t (fieldLocs frame_1_writes args s ++ arrayLocs frame_1_arrays args s ++ staticLocs frame_1_statics s) 600000 7302250 := h
theorem lw_limb (L : Cond) (hL : ∀ (args : Array Value) (s t : State), L.after args s (.returned (some (.int 1))) t = true) :
    ArmFor flags0 classFile x code maxLocals ret World_1 tables_1 room_1 Calls_1 rest_1 Pre_1
      (fun tb e a s o t => postC L tb e a s o t ∧ Framed s o t (fieldLocs frame_1_writes a s ++ arrayLocs frame_1_arrays a s ++ staticLocs frame_1_statics s) 600000 7302250) := by
  intro l hflags _ _ p e ha hc hk s m args below hf hfit hheap happ hpre
  obtain ⟨k, o, h1, h2, h3, rfl, hF⟩ := lw_comes l hflags p e ha hc hk s m args below hf hfit hheap happ hpre
  exact ⟨k, _, h1, h2, h3, hL args s _, lw_frame hF⟩
theorem i_vc : Claimed_1_1 ∧ Claimed_1_2 := ⟨lw_limb limb_1_1 (fun args s t => by simp [limb_1_1, Cond.after, Cond.holds, Cond.value]), lw_limb limb_1_2 (fun args s t => Cond.after_iff.mpr (by
  first | (rw [show limb_1_2 = Cond.eq .result (.int 1) from rfl, Cond.eq_ints (x := 1) (y := 1) rfl rfl]; simp; done) | (simp [limb_1_2, Cond.value, Term.eval]; done)))⟩
end
