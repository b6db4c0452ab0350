section
-- ===== PART A: goes FIRST, ahead of the names: the tables' words, and 'selects' of the private methods out of them =====
/-- a private method of a class that the tables say can be made, by its rows of tables_1 -/
def lw_okq (q : MethodName × Nat) : Prop := (q.1.cls ≠ "java/lang/invoke/MethodHandle" ∧ q.1.cls ≠ "java/lang/invoke/VarHandle") ∧ Cond.instantiable q.1.cls q.2 ∈ tables_1 ∧ Cond.privateMethod q.1 ∈ tables_1 ∧ Cond.instanceMethod q.1 ∈ tables_1
theorem lw_p0 : lw_okq (⟨"TurnedPosts$Reader", "skipBlanks", "()V"⟩, 5) := ⟨⟨by decide +kernel, by decide +kernel⟩, List.mem_of_getElem? (i := 90) (by decide +kernel), List.mem_of_getElem? (i := 333) (by decide +kernel), List.mem_of_getElem? (i := 334) (by decide +kernel)⟩
theorem lw_p1 : lw_okq (⟨"TurnedPosts$Reader", "readClause", "()V"⟩, 5) := ⟨⟨by decide +kernel, by decide +kernel⟩, List.mem_of_getElem? (i := 90) (by decide +kernel), List.mem_of_getElem? (i := 342) (by decide +kernel), List.mem_of_getElem? (i := 343) (by decide +kernel)⟩
theorem lw_p2 : lw_okq (⟨"TurnedPosts$Reader", "skipWord", "()V"⟩, 5) := ⟨⟨by decide +kernel, by decide +kernel⟩, List.mem_of_getElem? (i := 90) (by decide +kernel), List.mem_of_getElem? (i := 346) (by decide +kernel), List.mem_of_getElem? (i := 347) (by decide +kernel)⟩
theorem lw_p3 : lw_okq (⟨"TurnedPosts$Reader", "isWord", "(ILjava/lang/String;)Z"⟩, 5) := ⟨⟨by decide +kernel, by decide +kernel⟩, List.mem_of_getElem? (i := 90) (by decide +kernel), List.mem_of_getElem? (i := 354) (by decide +kernel), List.mem_of_getElem? (i := 355) (by decide +kernel)⟩
theorem lw_p4 : lw_okq (⟨"TurnedPosts$Reader", "readPlaces", "(I)V"⟩, 5) := ⟨⟨by decide +kernel, by decide +kernel⟩, List.mem_of_getElem? (i := 90) (by decide +kernel), List.mem_of_getElem? (i := 406) (by decide +kernel), List.mem_of_getElem? (i := 407) (by decide +kernel)⟩
theorem lw_p5 : lw_okq (⟨"TurnedPosts$Reader", "blame", "(II)V"⟩, 5) := ⟨⟨by decide +kernel, by decide +kernel⟩, List.mem_of_getElem? (i := 90) (by decide +kernel), List.mem_of_getElem? (i := 414) (by decide +kernel), List.mem_of_getElem? (i := 415) (by decide +kernel)⟩
theorem lw_p6 : lw_okq (⟨"TurnedPosts$Reader", "readNumber", "(II)I"⟩, 5) := ⟨⟨by decide +kernel, by decide +kernel⟩, List.mem_of_getElem? (i := 90) (by decide +kernel), List.mem_of_getElem? (i := 418) (by decide +kernel), List.mem_of_getElem? (i := 419) (by decide +kernel)⟩
theorem lw_p7 : lw_okq (⟨"TurnedPosts$Reader", "readEnd", "()V"⟩, 5) := ⟨⟨by decide +kernel, by decide +kernel⟩, List.mem_of_getElem? (i := 90) (by decide +kernel), List.mem_of_getElem? (i := 428) (by decide +kernel), List.mem_of_getElem? (i := 429) (by decide +kernel)⟩
theorem lw_p8 : lw_okq (⟨"TurnedPosts$Reader", "readRoad", "(I)V"⟩, 5) := ⟨⟨by decide +kernel, by decide +kernel⟩, List.mem_of_getElem? (i := 90) (by decide +kernel), List.mem_of_getElem? (i := 437) (by decide +kernel), List.mem_of_getElem? (i := 438) (by decide +kernel)⟩
theorem lw_p9 : lw_okq (⟨"TurnedPosts$Land", "isJoined", "(II)Z"⟩, 13) := ⟨⟨by decide +kernel, by decide +kernel⟩, List.mem_of_getElem? (i := 44) (by decide +kernel), List.mem_of_getElem? (i := 449) (by decide +kernel), List.mem_of_getElem? (i := 450) (by decide +kernel)⟩
theorem lw_p10 : lw_okq (⟨"TurnedPosts$Land", "addSide", "(II)V"⟩, 13) := ⟨⟨by decide +kernel, by decide +kernel⟩, List.mem_of_getElem? (i := 44) (by decide +kernel), List.mem_of_getElem? (i := 465) (by decide +kernel), List.mem_of_getElem? (i := 466) (by decide +kernel)⟩
theorem lw_p11 : lw_okq (⟨"TurnedPosts$Reader", "readTravel", "(I)V"⟩, 5) := ⟨⟨by decide +kernel, by decide +kernel⟩, List.mem_of_getElem? (i := 90) (by decide +kernel), List.mem_of_getElem? (i := 470) (by decide +kernel), List.mem_of_getElem? (i := 471) (by decide +kernel)⟩
theorem lw_p12 : lw_okq (⟨"TurnedPosts$Land", "startDistances", "()V"⟩, 13) := ⟨⟨by decide +kernel, by decide +kernel⟩, List.mem_of_getElem? (i := 44) (by decide +kernel), List.mem_of_getElem? (i := 486) (by decide +kernel), List.mem_of_getElem? (i := 487) (by decide +kernel)⟩
theorem lw_p13 : lw_okq (⟨"TurnedPosts$Land", "shortenOver", "(I)V"⟩, 13) := ⟨⟨by decide +kernel, by decide +kernel⟩, List.mem_of_getElem? (i := 44) (by decide +kernel), List.mem_of_getElem? (i := 507) (by decide +kernel), List.mem_of_getElem? (i := 508) (by decide +kernel)⟩
theorem lw_p14 : lw_okq (⟨"TurnedPosts$Land", "leastTrueArm", "(II)I"⟩, 13) := ⟨⟨by decide +kernel, by decide +kernel⟩, List.mem_of_getElem? (i := 44) (by decide +kernel), List.mem_of_getElem? (i := 512) (by decide +kernel), List.mem_of_getElem? (i := 513) (by decide +kernel)⟩
theorem lw_p15 : lw_okq (⟨"TurnedPosts$Posts", "paintedMiles", "(II)I"⟩, 4) := ⟨⟨by decide +kernel, by decide +kernel⟩, List.mem_of_getElem? (i := 112) (by decide +kernel), List.mem_of_getElem? (i := 712) (by decide +kernel), List.mem_of_getElem? (i := 713) (by decide +kernel)⟩
def lw_privs_1 : List (MethodName × Nat) := [(⟨"TurnedPosts$Reader", "skipBlanks", "()V"⟩, 5), (⟨"TurnedPosts$Reader", "readClause", "()V"⟩, 5), (⟨"TurnedPosts$Reader", "skipWord", "()V"⟩, 5), (⟨"TurnedPosts$Reader", "isWord", "(ILjava/lang/String;)Z"⟩, 5), (⟨"TurnedPosts$Reader", "readPlaces", "(I)V"⟩, 5), (⟨"TurnedPosts$Reader", "blame", "(II)V"⟩, 5), (⟨"TurnedPosts$Reader", "readNumber", "(II)I"⟩, 5), (⟨"TurnedPosts$Reader", "readEnd", "()V"⟩, 5), (⟨"TurnedPosts$Reader", "readRoad", "(I)V"⟩, 5), (⟨"TurnedPosts$Land", "isJoined", "(II)Z"⟩, 13), (⟨"TurnedPosts$Land", "addSide", "(II)V"⟩, 13), (⟨"TurnedPosts$Reader", "readTravel", "(I)V"⟩, 5), (⟨"TurnedPosts$Land", "startDistances", "()V"⟩, 13), (⟨"TurnedPosts$Land", "shortenOver", "(I)V"⟩, 13), (⟨"TurnedPosts$Land", "leastTrueArm", "(II)I"⟩, 13), (⟨"TurnedPosts$Posts", "paintedMiles", "(II)I"⟩, 4)]
theorem lw_r1 : ∀ q ∈ lw_privs_1, lw_okq q := List.forall_mem_cons.mpr ⟨lw_p0, List.forall_mem_cons.mpr ⟨lw_p1, List.forall_mem_cons.mpr ⟨lw_p2, List.forall_mem_cons.mpr ⟨lw_p3, List.forall_mem_cons.mpr ⟨lw_p4, List.forall_mem_cons.mpr ⟨lw_p5, List.forall_mem_cons.mpr ⟨lw_p6, List.forall_mem_cons.mpr ⟨lw_p7, List.forall_mem_cons.mpr ⟨lw_p8, List.forall_mem_cons.mpr ⟨lw_p9, List.forall_mem_cons.mpr ⟨lw_p10, List.forall_mem_cons.mpr ⟨lw_p11, List.forall_mem_cons.mpr ⟨lw_p12, List.forall_mem_cons.mpr ⟨lw_p13, List.forall_mem_cons.mpr ⟨lw_p14, List.forall_mem_cons.mpr ⟨lw_p15, fun _ h => absurd h List.not_mem_nil⟩⟩⟩⟩⟩⟩⟩⟩⟩⟩⟩⟩⟩⟩⟩⟩
theorem lw_p16 : lw_okq (⟨"TurnedPosts$Posts", "leadsAstray", "(I)Z"⟩, 4) := ⟨⟨by decide +kernel, by decide +kernel⟩, List.mem_of_getElem? (i := 112) (by decide +kernel), List.mem_of_getElem? (i := 756) (by decide +kernel), List.mem_of_getElem? (i := 757) (by decide +kernel)⟩
theorem lw_p17 : lw_okq (⟨"TurnedPosts$Night", "shareThatComes", "(IIJI)J"⟩, 4) := ⟨⟨by decide +kernel, by decide +kernel⟩, List.mem_of_getElem? (i := 172) (by decide +kernel), List.mem_of_getElem? (i := 864) (by decide +kernel), List.mem_of_getElem? (i := 865) (by decide +kernel)⟩
theorem lw_p18 : lw_okq (⟨"TurnedPosts$Night", "shareByTurns", "(IIJI)J"⟩, 4) := ⟨⟨by decide +kernel, by decide +kernel⟩, List.mem_of_getElem? (i := 172) (by decide +kernel), List.mem_of_getElem? (i := 870) (by decide +kernel), List.mem_of_getElem? (i := 871) (by decide +kernel)⟩
theorem lw_p19 : lw_okq (⟨"TurnedPosts$Day", "markArmsOfTheWay", "(I)V"⟩, 3) := ⟨⟨by decide +kernel, by decide +kernel⟩, List.mem_of_getElem? (i := 156) (by decide +kernel), List.mem_of_getElem? (i := 889) (by decide +kernel), List.mem_of_getElem? (i := 890) (by decide +kernel)⟩
theorem lw_p20 : lw_okq (⟨"TurnedPosts", "driftOneNight", "(I)V"⟩, 13) := ⟨⟨by decide +kernel, by decide +kernel⟩, List.mem_of_getElem? (i := 22) (by decide +kernel), List.mem_of_getElem? (i := 932) (by decide +kernel), List.mem_of_getElem? (i := 933) (by decide +kernel)⟩
theorem lw_p21 : lw_okq (⟨"TurnedPosts", "imageOf", "(I)LTurnedPosts$Image;"⟩, 13) := ⟨⟨by decide +kernel, by decide +kernel⟩, List.mem_of_getElem? (i := 22) (by decide +kernel), List.mem_of_getElem? (i := 960) (by decide +kernel), List.mem_of_getElem? (i := 961) (by decide +kernel)⟩
theorem lw_p22 : lw_okq (⟨"TurnedPostsModel", "here", "()I"⟩, 56) := ⟨⟨by decide +kernel, by decide +kernel⟩, List.mem_of_getElem? (i := 987) (by decide +kernel), List.mem_of_getElem? (i := 1178) (by decide +kernel), List.mem_of_getElem? (i := 1179) (by decide +kernel)⟩
theorem lw_p23 : lw_okq (⟨"TurnedPostsModel", "takeClause", "()I"⟩, 56) := ⟨⟨by decide +kernel, by decide +kernel⟩, List.mem_of_getElem? (i := 987) (by decide +kernel), List.mem_of_getElem? (i := 1182) (by decide +kernel), List.mem_of_getElem? (i := 1183) (by decide +kernel)⟩
theorem lw_p24 : lw_okq (⟨"TurnedPostsModel", "readWord", "()V"⟩, 56) := ⟨⟨by decide +kernel, by decide +kernel⟩, List.mem_of_getElem? (i := 987) (by decide +kernel), List.mem_of_getElem? (i := 1186) (by decide +kernel), List.mem_of_getElem? (i := 1187) (by decide +kernel)⟩
theorem lw_p25 : lw_okq (⟨"TurnedPostsModel", "fails", "(II)I"⟩, 56) := ⟨⟨by decide +kernel, by decide +kernel⟩, List.mem_of_getElem? (i := 987) (by decide +kernel), List.mem_of_getElem? (i := 1201) (by decide +kernel), List.mem_of_getElem? (i := 1202) (by decide +kernel)⟩
theorem lw_p26 : lw_okq (⟨"TurnedPostsModel", "takeNumber", "(II)I"⟩, 56) := ⟨⟨by decide +kernel, by decide +kernel⟩, List.mem_of_getElem? (i := 987) (by decide +kernel), List.mem_of_getElem? (i := 1205) (by decide +kernel), List.mem_of_getElem? (i := 1206) (by decide +kernel)⟩
theorem lw_p27 : lw_okq (⟨"TurnedPostsModel", "takeRoad", "()I"⟩, 56) := ⟨⟨by decide +kernel, by decide +kernel⟩, List.mem_of_getElem? (i := 987) (by decide +kernel), List.mem_of_getElem? (i := 1211) (by decide +kernel), List.mem_of_getElem? (i := 1212) (by decide +kernel)⟩
theorem lw_p28 : lw_okq (⟨"TurnedPostsModel", "into", "([IIII)I"⟩, 56) := ⟨⟨by decide +kernel, by decide +kernel⟩, List.mem_of_getElem? (i := 987) (by decide +kernel), List.mem_of_getElem? (i := 1215) (by decide +kernel), List.mem_of_getElem? (i := 1216) (by decide +kernel)⟩
theorem lw_p29 : lw_okq (⟨"TurnedPostsModel", "readAt", "(I)I"⟩, 56) := ⟨⟨by decide +kernel, by decide +kernel⟩, List.mem_of_getElem? (i := 987) (by decide +kernel), List.mem_of_getElem? (i := 1219) (by decide +kernel), List.mem_of_getElem? (i := 1220) (by decide +kernel)⟩
theorem lw_p30 : lw_okq (⟨"TurnedPostsModel", "takeTravel", "()I"⟩, 56) := ⟨⟨by decide +kernel, by decide +kernel⟩, List.mem_of_getElem? (i := 987) (by decide +kernel), List.mem_of_getElem? (i := 1223) (by decide +kernel), List.mem_of_getElem? (i := 1224) (by decide +kernel)⟩
theorem lw_p31 : lw_okq (⟨"TurnedPostsModel", "findLand", "()V"⟩, 56) := ⟨⟨by decide +kernel, by decide +kernel⟩, List.mem_of_getElem? (i := 987) (by decide +kernel), List.mem_of_getElem? (i := 1227) (by decide +kernel), List.mem_of_getElem? (i := 1228) (by decide +kernel)⟩
def lw_privs_2 : List (MethodName × Nat) := [(⟨"TurnedPosts$Posts", "leadsAstray", "(I)Z"⟩, 4), (⟨"TurnedPosts$Night", "shareThatComes", "(IIJI)J"⟩, 4), (⟨"TurnedPosts$Night", "shareByTurns", "(IIJI)J"⟩, 4), (⟨"TurnedPosts$Day", "markArmsOfTheWay", "(I)V"⟩, 3), (⟨"TurnedPosts", "driftOneNight", "(I)V"⟩, 13), (⟨"TurnedPosts", "imageOf", "(I)LTurnedPosts$Image;"⟩, 13), (⟨"TurnedPostsModel", "here", "()I"⟩, 56), (⟨"TurnedPostsModel", "takeClause", "()I"⟩, 56), (⟨"TurnedPostsModel", "readWord", "()V"⟩, 56), (⟨"TurnedPostsModel", "fails", "(II)I"⟩, 56), (⟨"TurnedPostsModel", "takeNumber", "(II)I"⟩, 56), (⟨"TurnedPostsModel", "takeRoad", "()I"⟩, 56), (⟨"TurnedPostsModel", "into", "([IIII)I"⟩, 56), (⟨"TurnedPostsModel", "readAt", "(I)I"⟩, 56), (⟨"TurnedPostsModel", "takeTravel", "()I"⟩, 56), (⟨"TurnedPostsModel", "findLand", "()V"⟩, 56)]
theorem lw_r2 : ∀ q ∈ lw_privs_2, lw_okq q := List.forall_mem_cons.mpr ⟨lw_p16, List.forall_mem_cons.mpr ⟨lw_p17, List.forall_mem_cons.mpr ⟨lw_p18, List.forall_mem_cons.mpr ⟨lw_p19, List.forall_mem_cons.mpr ⟨lw_p20, List.forall_mem_cons.mpr ⟨lw_p21, List.forall_mem_cons.mpr ⟨lw_p22, List.forall_mem_cons.mpr ⟨lw_p23, List.forall_mem_cons.mpr ⟨lw_p24, List.forall_mem_cons.mpr ⟨lw_p25, List.forall_mem_cons.mpr ⟨lw_p26, List.forall_mem_cons.mpr ⟨lw_p27, List.forall_mem_cons.mpr ⟨lw_p28, List.forall_mem_cons.mpr ⟨lw_p29, List.forall_mem_cons.mpr ⟨lw_p30, List.forall_mem_cons.mpr ⟨lw_p31, fun _ h => absurd h List.not_mem_nil⟩⟩⟩⟩⟩⟩⟩⟩⟩⟩⟩⟩⟩⟩⟩⟩
theorem lw_p32 : lw_okq (⟨"TurnedPostsModel", "otherEnd", "(II)I"⟩, 56) := ⟨⟨by decide +kernel, by decide +kernel⟩, List.mem_of_getElem? (i := 987) (by decide +kernel), List.mem_of_getElem? (i := 1232) (by decide +kernel), List.mem_of_getElem? (i := 1233) (by decide +kernel)⟩
theorem lw_p33 : lw_okq (⟨"TurnedPostsModel", "setRight", "(I)I"⟩, 56) := ⟨⟨by decide +kernel, by decide +kernel⟩, List.mem_of_getElem? (i := 987) (by decide +kernel), List.mem_of_getElem? (i := 1236) (by decide +kernel), List.mem_of_getElem? (i := 1237) (by decide +kernel)⟩
theorem lw_p34 : lw_okq (⟨"TurnedPostsModel", "costNow", "()I"⟩, 56) := ⟨⟨by decide +kernel, by decide +kernel⟩, List.mem_of_getElem? (i := 987) (by decide +kernel), List.mem_of_getElem? (i := 1251) (by decide +kernel), List.mem_of_getElem? (i := 1252) (by decide +kernel)⟩
theorem lw_p35 : lw_okq (⟨"TurnedPostsModel", "costBy", "(I)I"⟩, 56) := ⟨⟨by decide +kernel, by decide +kernel⟩, List.mem_of_getElem? (i := 987) (by decide +kernel), List.mem_of_getElem? (i := 1255) (by decide +kernel), List.mem_of_getElem? (i := 1256) (by decide +kernel)⟩
theorem lw_p36 : lw_okq (⟨"TurnedPostsModel", "walkNow", "(III)V"⟩, 56) := ⟨⟨by decide +kernel, by decide +kernel⟩, List.mem_of_getElem? (i := 987) (by decide +kernel), List.mem_of_getElem? (i := 1259) (by decide +kernel), List.mem_of_getElem? (i := 1260) (by decide +kernel)⟩
theorem lw_p37 : lw_okq (⟨"TurnedPostsModel", "stands", "(III)I"⟩, 56) := ⟨⟨by decide +kernel, by decide +kernel⟩, List.mem_of_getElem? (i := 987) (by decide +kernel), List.mem_of_getElem? (i := 1263) (by decide +kernel), List.mem_of_getElem? (i := 1264) (by decide +kernel)⟩
theorem lw_p38 : lw_okq (⟨"TurnedPostsModel", "turnedSet", "()I"⟩, 56) := ⟨⟨by decide +kernel, by decide +kernel⟩, List.mem_of_getElem? (i := 987) (by decide +kernel), List.mem_of_getElem? (i := 1267) (by decide +kernel), List.mem_of_getElem? (i := 1268) (by decide +kernel)⟩
theorem lw_p39 : lw_okq (⟨"TurnedPostsModel", "areTwo", "(II)Z"⟩, 56) := ⟨⟨by decide +kernel, by decide +kernel⟩, List.mem_of_getElem? (i := 987) (by decide +kernel), List.mem_of_getElem? (i := 1280) (by decide +kernel), List.mem_of_getElem? (i := 1281) (by decide +kernel)⟩
theorem lw_p40 : lw_okq (⟨"TurnedPostsModel", "isPlace", "(I)Z"⟩, 56) := ⟨⟨by decide +kernel, by decide +kernel⟩, List.mem_of_getElem? (i := 987) (by decide +kernel), List.mem_of_getElem? (i := 1284) (by decide +kernel), List.mem_of_getElem? (i := 1285) (by decide +kernel)⟩
theorem lw_p41 : lw_okq (⟨"TurnedPostsModel", "toldBy", "(II)I"⟩, 56) := ⟨⟨by decide +kernel, by decide +kernel⟩, List.mem_of_getElem? (i := 987) (by decide +kernel), List.mem_of_getElem? (i := 1297) (by decide +kernel), List.mem_of_getElem? (i := 1298) (by decide +kernel)⟩
theorem lw_p42 : lw_okq (⟨"TurnedPostsModel", "isTold", "(II)Z"⟩, 56) := ⟨⟨by decide +kernel, by decide +kernel⟩, List.mem_of_getElem? (i := 987) (by decide +kernel), List.mem_of_getElem? (i := 1305) (by decide +kernel), List.mem_of_getElem? (i := 1306) (by decide +kernel)⟩
theorem lw_p43 : lw_okq (⟨"TurnedPostsModel", "isSet", "(I)Z"⟩, 56) := ⟨⟨by decide +kernel, by decide +kernel⟩, List.mem_of_getElem? (i := 987) (by decide +kernel), List.mem_of_getElem? (i := 1328) (by decide +kernel), List.mem_of_getElem? (i := 1329) (by decide +kernel)⟩
theorem lw_p44 : lw_okq (⟨"TurnedPostsModel", "isBeside", "(II)Z"⟩, 56) := ⟨⟨by decide +kernel, by decide +kernel⟩, List.mem_of_getElem? (i := 987) (by decide +kernel), List.mem_of_getElem? (i := 1344) (by decide +kernel), List.mem_of_getElem? (i := 1345) (by decide +kernel)⟩
theorem lw_p45 : lw_okq (⟨"TurnedPostsModel", "fitsOf", "(I)I"⟩, 56) := ⟨⟨by decide +kernel, by decide +kernel⟩, List.mem_of_getElem? (i := 987) (by decide +kernel), List.mem_of_getElem? (i := 1356) (by decide +kernel), List.mem_of_getElem? (i := 1357) (by decide +kernel)⟩
theorem lw_p46 : lw_okq (⟨"TurnedPostsModel", "isQuarrel", "(IIZ)Z"⟩, 56) := ⟨⟨by decide +kernel, by decide +kernel⟩, List.mem_of_getElem? (i := 987) (by decide +kernel), List.mem_of_getElem? (i := 1371) (by decide +kernel), List.mem_of_getElem? (i := 1372) (by decide +kernel)⟩
theorem lw_p47 : lw_okq (⟨"TurnedPostsModel", "allCome", "(I)Z"⟩, 56) := ⟨⟨by decide +kernel, by decide +kernel⟩, List.mem_of_getElem? (i := 987) (by decide +kernel), List.mem_of_getElem? (i := 1379) (by decide +kernel), List.mem_of_getElem? (i := 1380) (by decide +kernel)⟩
def lw_privs_3 : List (MethodName × Nat) := [(⟨"TurnedPostsModel", "otherEnd", "(II)I"⟩, 56), (⟨"TurnedPostsModel", "setRight", "(I)I"⟩, 56), (⟨"TurnedPostsModel", "costNow", "()I"⟩, 56), (⟨"TurnedPostsModel", "costBy", "(I)I"⟩, 56), (⟨"TurnedPostsModel", "walkNow", "(III)V"⟩, 56), (⟨"TurnedPostsModel", "stands", "(III)I"⟩, 56), (⟨"TurnedPostsModel", "turnedSet", "()I"⟩, 56), (⟨"TurnedPostsModel", "areTwo", "(II)Z"⟩, 56), (⟨"TurnedPostsModel", "isPlace", "(I)Z"⟩, 56), (⟨"TurnedPostsModel", "toldBy", "(II)I"⟩, 56), (⟨"TurnedPostsModel", "isTold", "(II)Z"⟩, 56), (⟨"TurnedPostsModel", "isSet", "(I)Z"⟩, 56), (⟨"TurnedPostsModel", "isBeside", "(II)Z"⟩, 56), (⟨"TurnedPostsModel", "fitsOf", "(I)I"⟩, 56), (⟨"TurnedPostsModel", "isQuarrel", "(IIZ)Z"⟩, 56), (⟨"TurnedPostsModel", "allCome", "(I)Z"⟩, 56)]
theorem lw_r3 : ∀ q ∈ lw_privs_3, lw_okq q := List.forall_mem_cons.mpr ⟨lw_p32, List.forall_mem_cons.mpr ⟨lw_p33, List.forall_mem_cons.mpr ⟨lw_p34, List.forall_mem_cons.mpr ⟨lw_p35, List.forall_mem_cons.mpr ⟨lw_p36, List.forall_mem_cons.mpr ⟨lw_p37, List.forall_mem_cons.mpr ⟨lw_p38, List.forall_mem_cons.mpr ⟨lw_p39, List.forall_mem_cons.mpr ⟨lw_p40, List.forall_mem_cons.mpr ⟨lw_p41, List.forall_mem_cons.mpr ⟨lw_p42, List.forall_mem_cons.mpr ⟨lw_p43, List.forall_mem_cons.mpr ⟨lw_p44, List.forall_mem_cons.mpr ⟨lw_p45, List.forall_mem_cons.mpr ⟨lw_p46, List.forall_mem_cons.mpr ⟨lw_p47, fun _ h => absurd h List.not_mem_nil⟩⟩⟩⟩⟩⟩⟩⟩⟩⟩⟩⟩⟩⟩⟩⟩
theorem lw_p48 : lw_okq (⟨"TurnedPostsModel", "addWay", "(IIJ)V"⟩, 56) := ⟨⟨by decide +kernel, by decide +kernel⟩, List.mem_of_getElem? (i := 987) (by decide +kernel), List.mem_of_getElem? (i := 1394) (by decide +kernel), List.mem_of_getElem? (i := 1395) (by decide +kernel)⟩
theorem lw_p49 : lw_okq (⟨"TurnedPostsModel", "partWay", "(II)J"⟩, 56) := ⟨⟨by decide +kernel, by decide +kernel⟩, List.mem_of_getElem? (i := 987) (by decide +kernel), List.mem_of_getElem? (i := 1398) (by decide +kernel), List.mem_of_getElem? (i := 1399) (by decide +kernel)⟩
theorem lw_p50 : lw_okq (⟨"TurnedPostsModel", "neededAt", "(I)I"⟩, 56) := ⟨⟨by decide +kernel, by decide +kernel⟩, List.mem_of_getElem? (i := 987) (by decide +kernel), List.mem_of_getElem? (i := 1406) (by decide +kernel), List.mem_of_getElem? (i := 1407) (by decide +kernel)⟩
theorem lw_p51 : lw_okq (⟨"TurnedPostsModel", "draw", "(I)I"⟩, 56) := ⟨⟨by decide +kernel, by decide +kernel⟩, List.mem_of_getElem? (i := 987) (by decide +kernel), List.mem_of_getElem? (i := 1428) (by decide +kernel), List.mem_of_getElem? (i := 1429) (by decide +kernel)⟩
def lw_privs_4 : List (MethodName × Nat) := [(⟨"TurnedPostsModel", "addWay", "(IIJ)V"⟩, 56), (⟨"TurnedPostsModel", "partWay", "(II)J"⟩, 56), (⟨"TurnedPostsModel", "neededAt", "(I)I"⟩, 56), (⟨"TurnedPostsModel", "draw", "(I)I"⟩, 56)]
theorem lw_r4 : ∀ q ∈ lw_privs_4, lw_okq q := List.forall_mem_cons.mpr ⟨lw_p48, List.forall_mem_cons.mpr ⟨lw_p49, List.forall_mem_cons.mpr ⟨lw_p50, List.forall_mem_cons.mpr ⟨lw_p51, fun _ h => absurd h List.not_mem_nil⟩⟩⟩⟩
def lw_privs : List (MethodName × Nat) := lw_privs_1 ++ (lw_privs_2 ++ (lw_privs_3 ++ (lw_privs_4)))
def lw_tbl : List Cond := k2_sels lw_privs ++ tables_1
theorem lw_privs_ok : ∀ q ∈ lw_privs, lw_okq q := by
  show ∀ q ∈ lw_privs_1 ++ (lw_privs_2 ++ (lw_privs_3 ++ (lw_privs_4))), lw_okq q
  exact List.forall_mem_append.mpr ⟨lw_r1, List.forall_mem_append.mpr ⟨lw_r2, List.forall_mem_append.mpr ⟨lw_r3, lw_r4⟩⟩⟩
end
section
def RX0 : String := "TurnedPosts$Book"
def TX0 : u_T := fun k => match k with
  | 0 => ("TurnedPosts$Book", "starts", "[I", true)
  | 1 => ("TurnedPosts$Book", "aims", "[I", true)
  | 2 => ("TurnedPosts$Book", "endings", "[I", true)
  | 3 => ("TurnedPosts$Book", "lengths", "[I", true)
  | _ => ("TurnedPosts$Book", "count", "I", false)
def tyX0 : Nat → FieldType := fun k => match k with
  | 0 => .array .int
  | 1 => .array .int
  | 2 => .array .int
  | 3 => .array .int
  | _ => .int
abbrev wsX00 : List Cond := u_ws RX0 TX0 5
theorem nmX0 : ∀ a, a < 5 → ∀ b, b < 5 → a ≠ b → (TX0 a).2.1 ≠ (TX0 b).2.1 := by decide +kernel
theorem tyX0_ok : ∀ k, k < 5 → parseFieldDescriptor (TX0 k).2.2.1 = some (tyX0 k) := by decide +kernel
abbrev cX0_init : ByteArray := prog_2_method_1_code
def yX0_init : MethodName := ⟨RX0, "<init>", "()V"⟩
abbrev cX0_size : ByteArray := prog_2_method_2_code
def yX0_size : MethodName := ⟨RX0, "size", "()I"⟩
abbrev cX0_isFull : ByteArray := prog_2_method_3_code
def yX0_isFull : MethodName := ⟨RX0, "isFull", "()Z"⟩
abbrev cX0_clear : ByteArray := prog_2_method_4_code
def yX0_clear : MethodName := ⟨RX0, "clear", "()V"⟩
abbrev cX0_append : ByteArray := prog_2_method_5_code
def yX0_append : MethodName := ⟨RX0, "append", "(IIII)V"⟩
abbrev cX0_firstWrong : ByteArray := prog_2_method_6_code
def yX0_firstWrong : MethodName := ⟨RX0, "firstWrong", "(LTurnedPosts$Stranger;)I"⟩
def RX1 : String := "TurnedPosts$Day"
def TX1 : u_T := fun k => match k with
  | 0 => ("TurnedPosts$Day", "land", "LTurnedPosts$Land;", true)
  | 1 => ("TurnedPosts$Day", "stranger", "LTurnedPosts$Stranger;", true)
  | _ => ("TurnedPosts$Day", "used", "[I", true)
def tyX1 : Nat → FieldType := fun k => match k with
  | 0 => .object "TurnedPosts$Land"
  | 1 => .object "TurnedPosts$Stranger"
  | _ => .array .int
abbrev wsX10 : List Cond := u_ws RX1 TX1 3
theorem nmX1 : ∀ a, a < 3 → ∀ b, b < 3 → a ≠ b → (TX1 a).2.1 ≠ (TX1 b).2.1 := by decide +kernel
theorem tyX1_ok : ∀ k, k < 3 → parseFieldDescriptor (TX1 k).2.2.1 = some (tyX1 k) := by decide +kernel
abbrev cX1_init : ByteArray := prog_3_method_1_code
def yX1_init : MethodName := ⟨RX1, "<init>", "(LTurnedPosts$Land;LTurnedPosts$Stranger;)V"⟩
abbrev cX1_costIfRight : ByteArray := prog_3_method_2_code
def yX1_costIfRight : MethodName := ⟨RX1, "costIfRight", "(I)I"⟩
abbrev cX1_allComeIfRight : ByteArray := prog_3_method_3_code
def yX1_allComeIfRight : MethodName := ⟨RX1, "allComeIfRight", "(I)Z"⟩
abbrev cX1_markNeededArms : ByteArray := prog_3_method_4_code
def yX1_markNeededArms : MethodName := ⟨RX1, "markNeededArms", "()V"⟩
abbrev cX1_markArmsOfTheWay : ByteArray := prog_3_method_5_code
def yX1_markArmsOfTheWay : MethodName := ⟨RX1, "markArmsOfTheWay", "(I)V"⟩
abbrev cX1_neededArms : ByteArray := prog_3_method_6_code
def yX1_neededArms : MethodName := ⟨RX1, "neededArms", "(I)I"⟩
def RX2 : String := "TurnedPosts$Draws"
def TX2 : u_T := fun k => match k with
  | _ => ("TurnedPosts$Draws", "now", "I", false)
def tyX2 : Nat → FieldType := fun k => match k with
  | _ => .int
abbrev wsX20 : List Cond := u_ws RX2 TX2 1
theorem nmX2 : ∀ a, a < 1 → ∀ b, b < 1 → a ≠ b → (TX2 a).2.1 ≠ (TX2 b).2.1 := by decide +kernel
theorem tyX2_ok : ∀ k, k < 1 → parseFieldDescriptor (TX2 k).2.2.1 = some (tyX2 k) := by decide +kernel
abbrev cX2_init : ByteArray := prog_4_method_1_code
def yX2_init : MethodName := ⟨RX2, "<init>", "()V"⟩
abbrev cX2_state : ByteArray := prog_4_method_2_code
def yX2_state : MethodName := ⟨RX2, "state", "()I"⟩
abbrev cX2_startFrom : ByteArray := prog_4_method_3_code
def yX2_startFrom : MethodName := ⟨RX2, "startFrom", "(I)V"⟩
abbrev cX2_next : ByteArray := prog_4_method_4_code
def yX2_next : MethodName := ⟨RX2, "next", "(I)I"⟩
def RX3 : String := "TurnedPosts$Image"
def TX3 : u_T := fun k => match k with
  | 0 => ("TurnedPosts$Image", "kept", "LTurnedPosts$Posts;", true)
  | 1 => ("TurnedPosts$Image", "drawn", "I", false)
  | _ => ("TurnedPosts$Image", "is", "Z", false)
def tyX3 : Nat → FieldType := fun k => match k with
  | 0 => .object "TurnedPosts$Posts"
  | 1 => .int
  | _ => .boolean
abbrev wsX30 : List Cond := u_ws RX3 TX3 3
theorem nmX3 : ∀ a, a < 3 → ∀ b, b < 3 → a ≠ b → (TX3 a).2.1 ≠ (TX3 b).2.1 := by decide +kernel
theorem tyX3_ok : ∀ k, k < 3 → parseFieldDescriptor (TX3 k).2.2.1 = some (tyX3 k) := by decide +kernel
abbrev cX3_init : ByteArray := prog_5_method_1_code
def yX3_init : MethodName := ⟨RX3, "<init>", "(LTurnedPosts$Land;)V"⟩
abbrev cX3_isKept : ByteArray := prog_5_method_2_code
def yX3_isKept : MethodName := ⟨RX3, "isKept", "()Z"⟩
abbrev cX3_drop : ByteArray := prog_5_method_3_code
def yX3_drop : MethodName := ⟨RX3, "drop", "()V"⟩
abbrev cX3_take : ByteArray := prog_5_method_4_code
def yX3_take : MethodName := ⟨RX3, "take", "(LTurnedPosts$Posts;LTurnedPosts$Draws;)V"⟩
abbrev cX3_giveBack : ByteArray := prog_5_method_5_code
def yX3_giveBack : MethodName := ⟨RX3, "giveBack", "(LTurnedPosts$Posts;LTurnedPosts$Draws;)V"⟩
def RX4 : String := "TurnedPosts$Land"
def TX4 : u_T := fun k => match k with
  | 0 => ("TurnedPosts$Land", "places", "I", false)
  | 1 => ("TurnedPosts$Land", "roads", "I", false)
  | 2 => ("TurnedPosts$Land", "travels", "I", false)
  | 3 => ("TurnedPosts$Land", "starts", "[I", true)
  | 4 => ("TurnedPosts$Land", "ends", "[I", true)
  | 5 => ("TurnedPosts$Land", "lengths", "[I", true)
  | 6 => ("TurnedPosts$Land", "goers", "[I", true)
  | 7 => ("TurnedPosts$Land", "aims", "[I", true)
  | 8 => ("TurnedPosts$Land", "heads", "[I", true)
  | 9 => ("TurnedPosts$Land", "sides", "[I", true)
  | 10 => ("TurnedPosts$Land", "sideRoads", "[I", true)
  | 11 => ("TurnedPosts$Land", "distances", "[I", true)
  | _ => ("TurnedPosts$Land", "trueArms", "[I", true)
def tyX4 : Nat → FieldType := fun k => match k with
  | 0 => .int
  | 1 => .int
  | 2 => .int
  | 3 => .array .int
  | 4 => .array .int
  | 5 => .array .int
  | 6 => .array .int
  | 7 => .array .int
  | 8 => .array .int
  | 9 => .array .int
  | 10 => .array .int
  | 11 => .array .int
  | _ => .array .int
abbrev wsX40 : List Cond := u_ws RX4 TX4 13
theorem nmX4 : ∀ a, a < 13 → ∀ b, b < 13 → a ≠ b → (TX4 a).2.1 ≠ (TX4 b).2.1 := by decide +kernel
theorem tyX4_ok : ∀ k, k < 13 → parseFieldDescriptor (TX4 k).2.2.1 = some (tyX4 k) := by decide +kernel
abbrev cX4_init : ByteArray := prog_6_method_1_code
def yX4_init : MethodName := ⟨RX4, "<init>", "()V"⟩
abbrev cX4_clear : ByteArray := prog_6_method_2_code
def yX4_clear : MethodName := ⟨RX4, "clear", "()V"⟩
abbrev cX4_become : ByteArray := prog_6_method_3_code
def yX4_become : MethodName := ⟨RX4, "become", "(LTurnedPosts$Land;)V"⟩
abbrev cX4_places : ByteArray := prog_6_method_4_code
def yX4_places : MethodName := ⟨RX4, "places", "()I"⟩
abbrev cX4_roads : ByteArray := prog_6_method_5_code
def yX4_roads : MethodName := ⟨RX4, "roads", "()I"⟩
abbrev cX4_travels : ByteArray := prog_6_method_6_code
def yX4_travels : MethodName := ⟨RX4, "travels", "()I"⟩
abbrev cX4_hasPlace : ByteArray := prog_6_method_7_code
def yX4_hasPlace : MethodName := ⟨RX4, "hasPlace", "(I)Z"⟩
abbrev cX4_hasAllPlaces : ByteArray := prog_6_method_8_code
def yX4_hasAllPlaces : MethodName := ⟨RX4, "hasAllPlaces", "(I)Z"⟩
abbrev cX4_hasRoad : ByteArray := prog_6_method_9_code
def yX4_hasRoad : MethodName := ⟨RX4, "hasRoad", "(I)Z"⟩
abbrev cX4_hasTravel : ByteArray := prog_6_method_10_code
def yX4_hasTravel : MethodName := ⟨RX4, "hasTravel", "(I)Z"⟩
abbrev cX4_hasSide : ByteArray := prog_6_method_11_code
def yX4_hasSide : MethodName := ⟨RX4, "hasSide", "(II)Z"⟩
abbrev cX4_sidesOf : ByteArray := prog_6_method_12_code
def yX4_sidesOf : MethodName := ⟨RX4, "sidesOf", "(I)I"⟩
abbrev cX4_roadStart : ByteArray := prog_6_method_13_code
def yX4_roadStart : MethodName := ⟨RX4, "roadStart", "(I)I"⟩
abbrev cX4_roadEnd : ByteArray := prog_6_method_14_code
def yX4_roadEnd : MethodName := ⟨RX4, "roadEnd", "(I)I"⟩
abbrev cX4_roadMiles : ByteArray := prog_6_method_15_code
def yX4_roadMiles : MethodName := ⟨RX4, "roadMiles", "(I)I"⟩
abbrev cX4_travelFrom : ByteArray := prog_6_method_16_code
def yX4_travelFrom : MethodName := ⟨RX4, "travelFrom", "(I)I"⟩
abbrev cX4_travelTo : ByteArray := prog_6_method_17_code
def yX4_travelTo : MethodName := ⟨RX4, "travelTo", "(I)I"⟩
abbrev cX4_travelHeads : ByteArray := prog_6_method_18_code
def yX4_travelHeads : MethodName := ⟨RX4, "travelHeads", "(I)I"⟩
abbrev cX4_roadAtSide : ByteArray := prog_6_method_19_code
def yX4_roadAtSide : MethodName := ⟨RX4, "roadAtSide", "(II)I"⟩
abbrev cX4_beyondRoad : ByteArray := prog_6_method_20_code
def yX4_beyondRoad : MethodName := ⟨RX4, "beyondRoad", "(II)I"⟩
abbrev cX4_sideTowards : ByteArray := prog_6_method_21_code
def yX4_sideTowards : MethodName := ⟨RX4, "sideTowards", "(II)I"⟩
abbrev cX4_fewestMiles : ByteArray := prog_6_method_22_code
def yX4_fewestMiles : MethodName := ⟨RX4, "fewestMiles", "(II)I"⟩
abbrev cX4_trueArm : ByteArray := prog_6_method_23_code
def yX4_trueArm : MethodName := ⟨RX4, "trueArm", "(II)I"⟩
abbrev cX4_placesByArm : ByteArray := prog_6_method_24_code
def yX4_placesByArm : MethodName := ⟨RX4, "placesByArm", "(II)I"⟩
abbrev cX4_setPlaces : ByteArray := prog_6_method_25_code
def yX4_setPlaces : MethodName := ⟨RX4, "setPlaces", "(I)V"⟩
abbrev cX4_mayJoin : ByteArray := prog_6_method_26_code
def yX4_mayJoin : MethodName := ⟨RX4, "mayJoin", "(II)Z"⟩
abbrev cX4_isJoined : ByteArray := prog_6_method_27_code
def yX4_isJoined : MethodName := ⟨RX4, "isJoined", "(II)Z"⟩
abbrev cX4_addRoad : ByteArray := prog_6_method_28_code
def yX4_addRoad : MethodName := ⟨RX4, "addRoad", "(III)V"⟩
abbrev cX4_addSide : ByteArray := prog_6_method_29_code
def yX4_addSide : MethodName := ⟨RX4, "addSide", "(II)V"⟩
abbrev cX4_addTravel : ByteArray := prog_6_method_30_code
def yX4_addTravel : MethodName := ⟨RX4, "addTravel", "(III)V"⟩
abbrev cX4_survey : ByteArray := prog_6_method_31_code
def yX4_survey : MethodName := ⟨RX4, "survey", "()V"⟩
abbrev cX4_startDistances : ByteArray := prog_6_method_32_code
def yX4_startDistances : MethodName := ⟨RX4, "startDistances", "()V"⟩
abbrev cX4_shortenOver : ByteArray := prog_6_method_33_code
def yX4_shortenOver : MethodName := ⟨RX4, "shortenOver", "(I)V"⟩
abbrev cX4_leastTrueArm : ByteArray := prog_6_method_34_code
def yX4_leastTrueArm : MethodName := ⟨RX4, "leastTrueArm", "(II)I"⟩
def RX5 : String := "TurnedPosts$Night"
def TX5 : u_T := fun k => match k with
  | 0 => ("TurnedPosts$Night", "land", "LTurnedPosts$Land;", true)
  | 1 => ("TurnedPosts$Night", "posts", "LTurnedPosts$Posts;", true)
  | 2 => ("TurnedPosts$Night", "to", "I", false)
  | _ => ("TurnedPosts$Night", "odds", "I", false)
def tyX5 : Nat → FieldType := fun k => match k with
  | 0 => .object "TurnedPosts$Land"
  | 1 => .object "TurnedPosts$Posts"
  | 2 => .int
  | _ => .int
abbrev wsX50 : List Cond := u_ws RX5 TX5 4
theorem nmX5 : ∀ a, a < 4 → ∀ b, b < 4 → a ≠ b → (TX5 a).2.1 ≠ (TX5 b).2.1 := by decide +kernel
theorem tyX5_ok : ∀ k, k < 4 → parseFieldDescriptor (TX5 k).2.2.1 = some (tyX5 k) := by decide +kernel
abbrev cX5_init : ByteArray := prog_7_method_1_code
def yX5_init : MethodName := ⟨RX5, "<init>", "(LTurnedPosts$Land;LTurnedPosts$Posts;)V"⟩
abbrev cX5_oddsToCome : ByteArray := prog_7_method_2_code
def yX5_oddsToCome : MethodName := ⟨RX5, "oddsToCome", "(III)I"⟩
abbrev cX5_shareThatComes : ByteArray := prog_7_method_3_code
def yX5_shareThatComes : MethodName := ⟨RX5, "shareThatComes", "(IIJI)J"⟩
abbrev cX5_shareByTurns : ByteArray := prog_7_method_4_code
def yX5_shareByTurns : MethodName := ⟨RX5, "shareByTurns", "(IIJI)J"⟩
def RX6 : String := "TurnedPosts$Posts"
def TX6 : u_T := fun k => match k with
  | 0 => ("TurnedPosts$Posts", "land", "LTurnedPosts$Land;", true)
  | 1 => ("TurnedPosts$Posts", "turns", "[I", true)
  | 2 => ("TurnedPosts$Posts", "fallen", "[I", true)
  | _ => ("TurnedPosts$Posts", "told", "[I", true)
def tyX6 : Nat → FieldType := fun k => match k with
  | 0 => .object "TurnedPosts$Land"
  | 1 => .array .int
  | 2 => .array .int
  | _ => .array .int
abbrev wsX60 : List Cond := u_ws RX6 TX6 4
theorem nmX6 : ∀ a, a < 4 → ∀ b, b < 4 → a ≠ b → (TX6 a).2.1 ≠ (TX6 b).2.1 := by decide +kernel
theorem tyX6_ok : ∀ k, k < 4 → parseFieldDescriptor (TX6 k).2.2.1 = some (tyX6 k) := by decide +kernel
abbrev cX6_init : ByteArray := prog_8_method_1_code
def yX6_init : MethodName := ⟨RX6, "<init>", "(LTurnedPosts$Land;)V"⟩
abbrev cX6_become : ByteArray := prog_8_method_2_code
def yX6_become : MethodName := ⟨RX6, "become", "(LTurnedPosts$Posts;)V"⟩
abbrev cX6_setAllRight : ByteArray := prog_8_method_3_code
def yX6_setAllRight : MethodName := ⟨RX6, "setAllRight", "()V"⟩
abbrev cX6_setRight : ByteArray := prog_8_method_4_code
def yX6_setRight : MethodName := ⟨RX6, "setRight", "(I)V"⟩
abbrev cX6_isRight : ByteArray := prog_8_method_5_code
def yX6_isRight : MethodName := ⟨RX6, "isRight", "(I)Z"⟩
abbrev cX6_leadsAstray : ByteArray := prog_8_method_6_code
def yX6_leadsAstray : MethodName := ⟨RX6, "leadsAstray", "(I)Z"⟩
abbrev cX6_turnOf : ByteArray := prog_8_method_7_code
def yX6_turnOf : MethodName := ⟨RX6, "turnOf", "(I)I"⟩
abbrev cX6_fallenSet : ByteArray := prog_8_method_8_code
def yX6_fallenSet : MethodName := ⟨RX6, "fallenSet", "(I)I"⟩
abbrev cX6_hasFallen : ByteArray := prog_8_method_9_code
def yX6_hasFallen : MethodName := ⟨RX6, "hasFallen", "(II)Z"⟩
abbrev cX6_astraySet : ByteArray := prog_8_method_10_code
def yX6_astraySet : MethodName := ⟨RX6, "astraySet", "()I"⟩
abbrev cX6_turnedSet : ByteArray := prog_8_method_11_code
def yX6_turnedSet : MethodName := ⟨RX6, "turnedSet", "()I"⟩
abbrev cX6_turnFurther : ByteArray := prog_8_method_12_code
def yX6_turnFurther : MethodName := ⟨RX6, "turnFurther", "(II)V"⟩
abbrev cX6_setFallen : ByteArray := prog_8_method_13_code
def yX6_setFallen : MethodName := ⟨RX6, "setFallen", "(IIZ)V"⟩
abbrev cX6_tellMiles : ByteArray := prog_8_method_14_code
def yX6_tellMiles : MethodName := ⟨RX6, "tellMiles", "(III)V"⟩
abbrev cX6_paintedMiles : ByteArray := prog_8_method_15_code
def yX6_paintedMiles : MethodName := ⟨RX6, "paintedMiles", "(II)I"⟩
abbrev cX6_milesTold : ByteArray := prog_8_method_16_code
def yX6_milesTold : MethodName := ⟨RX6, "milesTold", "(II)I"⟩
abbrev cX6_armThatTells : ByteArray := prog_8_method_17_code
def yX6_armThatTells : MethodName := ⟨RX6, "armThatTells", "(III)I"⟩
abbrev cX6_sideOfArm : ByteArray := prog_8_method_18_code
def yX6_sideOfArm : MethodName := ⟨RX6, "sideOfArm", "(III)I"⟩
abbrev cX6_roadToTake : ByteArray := prog_8_method_19_code
def yX6_roadToTake : MethodName := ⟨RX6, "roadToTake", "(III)I"⟩
abbrev cX6_quarrelsWithLand : ByteArray := prog_8_method_20_code
def yX6_quarrelsWithLand : MethodName := ⟨RX6, "quarrelsWithLand", "(II)Z"⟩
abbrev cX6_quarrelsOnTheWay : ByteArray := prog_8_method_21_code
def yX6_quarrelsOnTheWay : MethodName := ⟨RX6, "quarrelsOnTheWay", "(II)Z"⟩
def RX7 : String := "TurnedPosts$Reader"
def TX7 : u_T := fun k => match k with
  | 0 => ("TurnedPosts$Reader", "text", "LTurnedPosts$Text;", true)
  | 1 => ("TurnedPosts$Reader", "draft", "LTurnedPosts$Land;", true)
  | 2 => ("TurnedPosts$Reader", "at", "I", false)
  | 3 => ("TurnedPosts$Reader", "kind", "I", false)
  | _ => ("TurnedPosts$Reader", "faultAt", "I", false)
def tyX7 : Nat → FieldType := fun k => match k with
  | 0 => .object "TurnedPosts$Text"
  | 1 => .object "TurnedPosts$Land"
  | 2 => .int
  | 3 => .int
  | _ => .int
abbrev wsX70 : List Cond := u_ws RX7 TX7 5
theorem nmX7 : ∀ a, a < 5 → ∀ b, b < 5 → a ≠ b → (TX7 a).2.1 ≠ (TX7 b).2.1 := by decide +kernel
theorem tyX7_ok : ∀ k, k < 5 → parseFieldDescriptor (TX7 k).2.2.1 = some (tyX7 k) := by decide +kernel
abbrev cX7_init : ByteArray := prog_9_method_1_code
def yX7_init : MethodName := ⟨RX7, "<init>", "(LTurnedPosts$Text;LTurnedPosts$Land;)V"⟩
abbrev cX7_faultKind : ByteArray := prog_9_method_2_code
def yX7_faultKind : MethodName := ⟨RX7, "faultKind", "()I"⟩
abbrev cX7_faultByte : ByteArray := prog_9_method_3_code
def yX7_faultByte : MethodName := ⟨RX7, "faultByte", "()I"⟩
abbrev cX7_readAll : ByteArray := prog_9_method_4_code
def yX7_readAll : MethodName := ⟨RX7, "readAll", "()V"⟩
abbrev cX7_blame : ByteArray := prog_9_method_5_code
def yX7_blame : MethodName := ⟨RX7, "blame", "(II)V"⟩
abbrev cX7_readClause : ByteArray := prog_9_method_6_code
def yX7_readClause : MethodName := ⟨RX7, "readClause", "()V"⟩
abbrev cX7_readPlaces : ByteArray := prog_9_method_7_code
def yX7_readPlaces : MethodName := ⟨RX7, "readPlaces", "(I)V"⟩
abbrev cX7_readRoad : ByteArray := prog_9_method_8_code
def yX7_readRoad : MethodName := ⟨RX7, "readRoad", "(I)V"⟩
abbrev cX7_readTravel : ByteArray := prog_9_method_9_code
def yX7_readTravel : MethodName := ⟨RX7, "readTravel", "(I)V"⟩
abbrev cX7_readNumber : ByteArray := prog_9_method_10_code
def yX7_readNumber : MethodName := ⟨RX7, "readNumber", "(II)I"⟩
abbrev cX7_readEnd : ByteArray := prog_9_method_11_code
def yX7_readEnd : MethodName := ⟨RX7, "readEnd", "()V"⟩
abbrev cX7_skipBlanks : ByteArray := prog_9_method_12_code
def yX7_skipBlanks : MethodName := ⟨RX7, "skipBlanks", "()V"⟩
abbrev cX7_skipWord : ByteArray := prog_9_method_13_code
def yX7_skipWord : MethodName := ⟨RX7, "skipWord", "()V"⟩
abbrev cX7_isWord : ByteArray := prog_9_method_14_code
def yX7_isWord : MethodName := ⟨RX7, "isWord", "(ILjava/lang/String;)Z"⟩
abbrev cX7_isFigure : ByteArray := prog_9_method_15_code
def yX7_isFigure : MethodName := ⟨RX7, "isFigure", "(I)Z"⟩
abbrev cX7_isLetter : ByteArray := prog_9_method_16_code
def yX7_isLetter : MethodName := ⟨RX7, "isLetter", "(I)Z"⟩
def RX8 : String := "TurnedPosts$Sightings"
def TX8 : u_T := fun k => match k with
  | 0 => ("TurnedPosts$Sightings", "land", "LTurnedPosts$Land;", true)
  | 1 => ("TurnedPosts$Sightings", "posts", "[I", true)
  | 2 => ("TurnedPosts$Sightings", "names", "[I", true)
  | 3 => ("TurnedPosts$Sightings", "towards", "[I", true)
  | _ => ("TurnedPosts$Sightings", "count", "I", false)
def tyX8 : Nat → FieldType := fun k => match k with
  | 0 => .object "TurnedPosts$Land"
  | 1 => .array .int
  | 2 => .array .int
  | 3 => .array .int
  | _ => .int
abbrev wsX80 : List Cond := u_ws RX8 TX8 5
theorem nmX8 : ∀ a, a < 5 → ∀ b, b < 5 → a ≠ b → (TX8 a).2.1 ≠ (TX8 b).2.1 := by decide +kernel
theorem tyX8_ok : ∀ k, k < 5 → parseFieldDescriptor (TX8 k).2.2.1 = some (tyX8 k) := by decide +kernel
abbrev cX8_init : ByteArray := prog_10_method_1_code
def yX8_init : MethodName := ⟨RX8, "<init>", "(LTurnedPosts$Land;)V"⟩
abbrev cX8_size : ByteArray := prog_10_method_2_code
def yX8_size : MethodName := ⟨RX8, "size", "()I"⟩
abbrev cX8_isFull : ByteArray := prog_10_method_3_code
def yX8_isFull : MethodName := ⟨RX8, "isFull", "()Z"⟩
abbrev cX8_clear : ByteArray := prog_10_method_4_code
def yX8_clear : MethodName := ⟨RX8, "clear", "()V"⟩
abbrev cX8_append : ByteArray := prog_10_method_5_code
def yX8_append : MethodName := ⟨RX8, "append", "(III)V"⟩
abbrev cX8_fittingTurns : ByteArray := prog_10_method_6_code
def yX8_fittingTurns : MethodName := ⟨RX8, "fittingTurns", "(I)I"⟩
def RX9 : String := "TurnedPosts$Stranger"
def TX9 : u_T := fun k => match k with
  | 0 => ("TurnedPosts$Stranger", "land", "LTurnedPosts$Land;", true)
  | 1 => ("TurnedPosts$Stranger", "posts", "LTurnedPosts$Posts;", true)
  | 2 => ("TurnedPosts$Stranger", "way", "[I", true)
  | 3 => ("TurnedPosts$Stranger", "gone", "I", false)
  | 4 => ("TurnedPosts$Stranger", "miles", "I", false)
  | _ => ("TurnedPosts$Stranger", "end", "I", false)
def tyX9 : Nat → FieldType := fun k => match k with
  | 0 => .object "TurnedPosts$Land"
  | 1 => .object "TurnedPosts$Posts"
  | 2 => .array .int
  | 3 => .int
  | 4 => .int
  | _ => .int
abbrev wsX90 : List Cond := u_ws RX9 TX9 6
theorem nmX9 : ∀ a, a < 6 → ∀ b, b < 6 → a ≠ b → (TX9 a).2.1 ≠ (TX9 b).2.1 := by decide +kernel
theorem tyX9_ok : ∀ k, k < 6 → parseFieldDescriptor (TX9 k).2.2.1 = some (tyX9 k) := by decide +kernel
abbrev cX9_init : ByteArray := prog_11_method_1_code
def yX9_init : MethodName := ⟨RX9, "<init>", "(LTurnedPosts$Land;LTurnedPosts$Posts;)V"⟩
abbrev cX9_ending : ByteArray := prog_11_method_2_code
def yX9_ending : MethodName := ⟨RX9, "ending", "()I"⟩
abbrev cX9_milesGone : ByteArray := prog_11_method_3_code
def yX9_milesGone : MethodName := ⟨RX9, "milesGone", "()I"⟩
abbrev cX9_roadsGone : ByteArray := prog_11_method_4_code
def yX9_roadsGone : MethodName := ⟨RX9, "roadsGone", "()I"⟩
abbrev cX9_placeBehind : ByteArray := prog_11_method_5_code
def yX9_placeBehind : MethodName := ⟨RX9, "placeBehind", "(I)I"⟩
abbrev cX9_goFromTo : ByteArray := prog_11_method_6_code
def yX9_goFromTo : MethodName := ⟨RX9, "goFromTo", "(III)V"⟩
def RX10 : String := "TurnedPosts$Text"
def TX10 : u_T := fun k => match k with
  | 0 => ("TurnedPosts$Text", "bytes", "[I", true)
  | _ => ("TurnedPosts$Text", "count", "I", false)
def tyX10 : Nat → FieldType := fun k => match k with
  | 0 => .array .int
  | _ => .int
abbrev wsX100 : List Cond := u_ws RX10 TX10 2
theorem nmX10 : ∀ a, a < 2 → ∀ b, b < 2 → a ≠ b → (TX10 a).2.1 ≠ (TX10 b).2.1 := by decide +kernel
theorem tyX10_ok : ∀ k, k < 2 → parseFieldDescriptor (TX10 k).2.2.1 = some (tyX10 k) := by decide +kernel
abbrev cX10_init : ByteArray := prog_12_method_1_code
def yX10_init : MethodName := ⟨RX10, "<init>", "()V"⟩
abbrev cX10_length : ByteArray := prog_12_method_2_code
def yX10_length : MethodName := ⟨RX10, "length", "()I"⟩
abbrev cX10_hasRoomFor : ByteArray := prog_12_method_3_code
def yX10_hasRoomFor : MethodName := ⟨RX10, "hasRoomFor", "(I)Z"⟩
abbrev cX10_append : ByteArray := prog_12_method_4_code
def yX10_append : MethodName := ⟨RX10, "append", "(I)V"⟩
abbrev cX10_signAt : ByteArray := prog_12_method_5_code
def yX10_signAt : MethodName := ⟨RX10, "signAt", "(I)I"⟩
abbrev cX10_clear : ByteArray := prog_12_method_6_code
def yX10_clear : MethodName := ⟨RX10, "clear", "()V"⟩
def RX11 : String := "TurnedPosts"
def TX11 : u_T := fun k => match k with
  | 0 => ("TurnedPosts", "text", "LTurnedPosts$Text;", true)
  | 1 => ("TurnedPosts", "ground", "LTurnedPosts$Land;", true)
  | 2 => ("TurnedPosts", "draft", "LTurnedPosts$Land;", true)
  | 3 => ("TurnedPosts", "reader", "LTurnedPosts$Reader;", true)
  | 4 => ("TurnedPosts", "posts", "LTurnedPosts$Posts;", true)
  | 5 => ("TurnedPosts", "stranger", "LTurnedPosts$Stranger;", true)
  | 6 => ("TurnedPosts", "day", "LTurnedPosts$Day;", true)
  | 7 => ("TurnedPosts", "night", "LTurnedPosts$Night;", true)
  | 8 => ("TurnedPosts", "sightings", "LTurnedPosts$Sightings;", true)
  | 9 => ("TurnedPosts", "book", "LTurnedPosts$Book;", true)
  | 10 => ("TurnedPosts", "draws", "LTurnedPosts$Draws;", true)
  | 11 => ("TurnedPosts", "firstImage", "LTurnedPosts$Image;", true)
  | _ => ("TurnedPosts", "secondImage", "LTurnedPosts$Image;", true)
def tyX11 : Nat → FieldType := fun k => match k with
  | 0 => .object "TurnedPosts$Text"
  | 1 => .object "TurnedPosts$Land"
  | 2 => .object "TurnedPosts$Land"
  | 3 => .object "TurnedPosts$Reader"
  | 4 => .object "TurnedPosts$Posts"
  | 5 => .object "TurnedPosts$Stranger"
  | 6 => .object "TurnedPosts$Day"
  | 7 => .object "TurnedPosts$Night"
  | 8 => .object "TurnedPosts$Sightings"
  | 9 => .object "TurnedPosts$Book"
  | 10 => .object "TurnedPosts$Draws"
  | 11 => .object "TurnedPosts$Image"
  | _ => .object "TurnedPosts$Image"
abbrev wsX110 : List Cond := u_ws RX11 TX11 13
theorem nmX11 : ∀ a, a < 13 → ∀ b, b < 13 → a ≠ b → (TX11 a).2.1 ≠ (TX11 b).2.1 := by decide +kernel
theorem tyX11_ok : ∀ k, k < 13 → parseFieldDescriptor (TX11 k).2.2.1 = some (tyX11 k) := by decide +kernel
abbrev cX11_init : ByteArray := prog_1_method_1_code
def yX11_init : MethodName := ⟨RX11, "<init>", "()V"⟩
abbrev cX11_feed : ByteArray := prog_1_method_2_code
def yX11_feed : MethodName := ⟨RX11, "feed", "(IJ)I"⟩
abbrev cX11_land : ByteArray := prog_1_method_3_code
def yX11_land : MethodName := ⟨RX11, "land", "()I"⟩
abbrev cX11_fault : ByteArray := prog_1_method_4_code
def yX11_fault : MethodName := ⟨RX11, "fault", "()I"⟩
abbrev cX11_told : ByteArray := prog_1_method_5_code
def yX11_told : MethodName := ⟨RX11, "told", "(I)I"⟩
abbrev cX11_road : ByteArray := prog_1_method_6_code
def yX11_road : MethodName := ⟨RX11, "road", "(II)I"⟩
abbrev cX11_far : ByteArray := prog_1_method_7_code
def yX11_far : MethodName := ⟨RX11, "far", "(II)I"⟩
abbrev cX11_post : ByteArray := prog_1_method_8_code
def yX11_post : MethodName := ⟨RX11, "post", "(II)I"⟩
abbrev cX11_arm : ByteArray := prog_1_method_9_code
def yX11_arm : MethodName := ⟨RX11, "arm", "(III)I"⟩
abbrev cX11_miles : ByteArray := prog_1_method_10_code
def yX11_miles : MethodName := ⟨RX11, "miles", "(II)I"⟩
abbrev cX11_turn : ByteArray := prog_1_method_11_code
def yX11_turn : MethodName := ⟨RX11, "turn", "(II)I"⟩
abbrev cX11_fell : ByteArray := prog_1_method_12_code
def yX11_fell : MethodName := ⟨RX11, "fell", "(IIZ)I"⟩
abbrev cX11_paint : ByteArray := prog_1_method_13_code
def yX11_paint : MethodName := ⟨RX11, "paint", "(III)I"⟩
abbrev cX11_right : ByteArray := prog_1_method_14_code
def yX11_right : MethodName := ⟨RX11, "right", "(I)I"⟩
abbrev cX11_walk : ByteArray := prog_1_method_15_code
def yX11_walk : MethodName := ⟨RX11, "walk", "(III)I"⟩
abbrev cX11_way : ByteArray := prog_1_method_16_code
def yX11_way : MethodName := ⟨RX11, "way", "(III)I"⟩
abbrev cX11_seen : ByteArray := prog_1_method_17_code
def yX11_seen : MethodName := ⟨RX11, "seen", "(III)I"⟩
abbrev cX11_forget : ByteArray := prog_1_method_18_code
def yX11_forget : MethodName := ⟨RX11, "forget", "()I"⟩
abbrev cX11_fits : ByteArray := prog_1_method_19_code
def yX11_fits : MethodName := ⟨RX11, "fits", "(I)I"⟩
abbrev cX11_sure : ByteArray := prog_1_method_20_code
def yX11_sure : MethodName := ⟨RX11, "sure", "()I"⟩
abbrev cX11_quarrel : ByteArray := prog_1_method_21_code
def yX11_quarrel : MethodName := ⟨RX11, "quarrel", "(Z)I"⟩
abbrev cX11_fewest : ByteArray := prog_1_method_22_code
def yX11_fewest : MethodName := ⟨RX11, "fewest", "()I"⟩
abbrev cX11_best : ByteArray := prog_1_method_23_code
def yX11_best : MethodName := ⟨RX11, "best", "(I)I"⟩
abbrev cX11_odds : ByteArray := prog_1_method_24_code
def yX11_odds : MethodName := ⟨RX11, "odds", "(III)I"⟩
abbrev cX11_needed : ByteArray := prog_1_method_25_code
def yX11_needed : MethodName := ⟨RX11, "needed", "(I)I"⟩
abbrev cX11_write : ByteArray := prog_1_method_26_code
def yX11_write : MethodName := ⟨RX11, "write", "(IIII)I"⟩
abbrev cX11_tear : ByteArray := prog_1_method_27_code
def yX11_tear : MethodName := ⟨RX11, "tear", "()I"⟩
abbrev cX11_judge : ByteArray := prog_1_method_28_code
def yX11_judge : MethodName := ⟨RX11, "judge", "()I"⟩
abbrev cX11_drift : ByteArray := prog_1_method_29_code
def yX11_drift : MethodName := ⟨RX11, "drift", "(II)I"⟩
abbrev cX11_driftOneNight : ByteArray := prog_1_method_30_code
def yX11_driftOneNight : MethodName := ⟨RX11, "driftOneNight", "(I)V"⟩
abbrev cX11_seed : ByteArray := prog_1_method_31_code
def yX11_seed : MethodName := ⟨RX11, "seed", "(I)I"⟩
abbrev cX11_keep : ByteArray := prog_1_method_32_code
def yX11_keep : MethodName := ⟨RX11, "keep", "(I)I"⟩
abbrev cX11_goBack : ByteArray := prog_1_method_33_code
def yX11_goBack : MethodName := ⟨RX11, "goBack", "(I)I"⟩
abbrev cX11_imageOf : ByteArray := prog_1_method_34_code
def yX11_imageOf : MethodName := ⟨RX11, "imageOf", "(I)LTurnedPosts$Image;"⟩
abbrev cX11_isIn : ByteArray := prog_1_method_35_code
def yX11_isIn : MethodName := ⟨RX11, "isIn", "(II)Z"⟩
def RX12 : String := "TurnedPostsModel"
def TX12 : u_T := fun k => match k with
  | 0 => ("TurnedPostsModel", "places", "I", false)
  | 1 => ("TurnedPostsModel", "roads", "I", false)
  | 2 => ("TurnedPostsModel", "roadOne", "[I", true)
  | 3 => ("TurnedPostsModel", "roadTwo", "[I", true)
  | 4 => ("TurnedPostsModel", "roadLong", "[I", true)
  | 5 => ("TurnedPostsModel", "travels", "I", false)
  | 6 => ("TurnedPostsModel", "goesFrom", "[I", true)
  | 7 => ("TurnedPostsModel", "goesTo", "[I", true)
  | 8 => ("TurnedPostsModel", "goesMany", "[I", true)
  | 9 => ("TurnedPostsModel", "sides", "[I", true)
  | 10 => ("TurnedPostsModel", "sideRoad", "[I", true)
  | 11 => ("TurnedPostsModel", "far", "[I", true)
  | 12 => ("TurnedPostsModel", "armFor", "[I", true)
  | 13 => ("TurnedPostsModel", "turned", "[I", true)
  | 14 => ("TurnedPostsModel", "fallen", "[I", true)
  | 15 => ("TurnedPostsModel", "tells", "[I", true)
  | 16 => ("TurnedPostsModel", "seed", "I", false)
  | 17 => ("TurnedPostsModel", "text", "[I", true)
  | 18 => ("TurnedPostsModel", "texted", "I", false)
  | 19 => ("TurnedPostsModel", "faultPlace", "I", false)
  | 20 => ("TurnedPostsModel", "at0", "I", false)
  | 21 => ("TurnedPostsModel", "said", "J", false)
  | 22 => ("TurnedPostsModel", "wordEnd", "I", false)
  | 23 => ("TurnedPostsModel", "number", "I", false)
  | 24 => ("TurnedPostsModel", "numberAt", "I", false)
  | 25 => ("TurnedPostsModel", "readPlaces", "I", false)
  | 26 => ("TurnedPostsModel", "readRoads", "I", false)
  | 27 => ("TurnedPostsModel", "readOne", "[I", true)
  | 28 => ("TurnedPostsModel", "readTwo", "[I", true)
  | 29 => ("TurnedPostsModel", "readLong", "[I", true)
  | 30 => ("TurnedPostsModel", "readTravels", "I", false)
  | 31 => ("TurnedPostsModel", "readFrom", "[I", true)
  | 32 => ("TurnedPostsModel", "readTo", "[I", true)
  | 33 => ("TurnedPostsModel", "readMany", "[I", true)
  | 34 => ("TurnedPostsModel", "endNow", "I", false)
  | 35 => ("TurnedPostsModel", "milesNow", "I", false)
  | 36 => ("TurnedPostsModel", "placeNow", "I", false)
  | 37 => ("TurnedPostsModel", "stepsNow", "I", false)
  | 38 => ("TurnedPostsModel", "armsNow", "I", false)
  | 39 => ("TurnedPostsModel", "passed", "[I", true)
  | 40 => ("TurnedPostsModel", "usedArm", "[I", true)
  | 41 => ("TurnedPostsModel", "sights", "I", false)
  | 42 => ("TurnedPostsModel", "sightAt", "[I", true)
  | 43 => ("TurnedPostsModel", "sightFor", "[I", true)
  | 44 => ("TurnedPostsModel", "sightTo", "[I", true)
  | 45 => ("TurnedPostsModel", "wayAt", "[I", true)
  | 46 => ("TurnedPostsModel", "wayWas", "[I", true)
  | 47 => ("TurnedPostsModel", "wayOdds", "[J", true)
  | 48 => ("TurnedPostsModel", "ways", "I", false)
  | 49 => ("TurnedPostsModel", "booked", "I", false)
  | 50 => ("TurnedPostsModel", "bookFrom", "[I", true)
  | 51 => ("TurnedPostsModel", "bookTo", "[I", true)
  | 52 => ("TurnedPostsModel", "bookEnd", "[I", true)
  | 53 => ("TurnedPostsModel", "bookMiles", "[I", true)
  | 54 => ("TurnedPostsModel", "images", "[I", true)
  | _ => ("TurnedPostsModel", "isKept", "[Z", true)
def tyX12 : Nat → FieldType := fun k => match k with
  | 0 => .int
  | 1 => .int
  | 2 => .array .int
  | 3 => .array .int
  | 4 => .array .int
  | 5 => .int
  | 6 => .array .int
  | 7 => .array .int
  | 8 => .array .int
  | 9 => .array .int
  | 10 => .array .int
  | 11 => .array .int
  | 12 => .array .int
  | 13 => .array .int
  | 14 => .array .int
  | 15 => .array .int
  | 16 => .int
  | 17 => .array .int
  | 18 => .int
  | 19 => .int
  | 20 => .int
  | 21 => .long
  | 22 => .int
  | 23 => .int
  | 24 => .int
  | 25 => .int
  | 26 => .int
  | 27 => .array .int
  | 28 => .array .int
  | 29 => .array .int
  | 30 => .int
  | 31 => .array .int
  | 32 => .array .int
  | 33 => .array .int
  | 34 => .int
  | 35 => .int
  | 36 => .int
  | 37 => .int
  | 38 => .int
  | 39 => .array .int
  | 40 => .array .int
  | 41 => .int
  | 42 => .array .int
  | 43 => .array .int
  | 44 => .array .int
  | 45 => .array .int
  | 46 => .array .int
  | 47 => .array .long
  | 48 => .int
  | 49 => .int
  | 50 => .array .int
  | 51 => .array .int
  | 52 => .array .int
  | 53 => .array .int
  | 54 => .array .int
  | _ => .array .boolean
abbrev wsX120 : List Cond := u_ws RX12 TX12 56
theorem nmX12 : ∀ a, a < 56 → ∀ b, b < 56 → a ≠ b → (TX12 a).2.1 ≠ (TX12 b).2.1 := by decide +kernel
theorem tyX12_ok : ∀ k, k < 56 → parseFieldDescriptor (TX12 k).2.2.1 = some (tyX12 k) := by decide +kernel
abbrev cX12_init : ByteArray := prog_14_method_1_code
def yX12_init : MethodName := ⟨RX12, "<init>", "()V"⟩
abbrev cX12_in : ByteArray := prog_14_method_3_code
def yX12_in : MethodName := ⟨RX12, "in", "(JJJ)Z"⟩
abbrev cX12_has : ByteArray := prog_14_method_4_code
def yX12_has : MethodName := ⟨RX12, "has", "(II)Z"⟩
abbrev cX12_bits : ByteArray := prog_14_method_5_code
def yX12_bits : MethodName := ⟨RX12, "bits", "(I)I"⟩
abbrev cX12_isPlace : ByteArray := prog_14_method_6_code
def yX12_isPlace : MethodName := ⟨RX12, "isPlace", "(I)Z"⟩
abbrev cX12_areTwo : ByteArray := prog_14_method_7_code
def yX12_areTwo : MethodName := ⟨RX12, "areTwo", "(II)Z"⟩
abbrev cX12_isSet : ByteArray := prog_14_method_8_code
def yX12_isSet : MethodName := ⟨RX12, "isSet", "(I)Z"⟩
abbrev cX12_otherEnd : ByteArray := prog_14_method_9_code
def yX12_otherEnd : MethodName := ⟨RX12, "otherEnd", "(II)I"⟩
abbrev cX12_feed : ByteArray := prog_14_method_10_code
def yX12_feed : MethodName := ⟨RX12, "feed", "(IJ)I"⟩
abbrev cX12_here : ByteArray := prog_14_method_11_code
def yX12_here : MethodName := ⟨RX12, "here", "()I"⟩
abbrev cX12_fails : ByteArray := prog_14_method_12_code
def yX12_fails : MethodName := ⟨RX12, "fails", "(II)I"⟩
abbrev cX12_readWord : ByteArray := prog_14_method_13_code
def yX12_readWord : MethodName := ⟨RX12, "readWord", "()V"⟩
abbrev cX12_code : ByteArray := prog_14_method_14_code
def yX12_code : MethodName := ⟨RX12, "code", "(IIII)J"⟩
abbrev cX12_takeNumber : ByteArray := prog_14_method_15_code
def yX12_takeNumber : MethodName := ⟨RX12, "takeNumber", "(II)I"⟩
abbrev cX12_into : ByteArray := prog_14_method_16_code
def yX12_into : MethodName := ⟨RX12, "into", "([IIII)I"⟩
abbrev cX12_readAt : ByteArray := prog_14_method_17_code
def yX12_readAt : MethodName := ⟨RX12, "readAt", "(I)I"⟩
abbrev cX12_takeRoad : ByteArray := prog_14_method_18_code
def yX12_takeRoad : MethodName := ⟨RX12, "takeRoad", "()I"⟩
abbrev cX12_takeTravel : ByteArray := prog_14_method_19_code
def yX12_takeTravel : MethodName := ⟨RX12, "takeTravel", "()I"⟩
abbrev cX12_takeClause : ByteArray := prog_14_method_20_code
def yX12_takeClause : MethodName := ⟨RX12, "takeClause", "()I"⟩
abbrev cX12_land : ByteArray := prog_14_method_21_code
def yX12_land : MethodName := ⟨RX12, "land", "()I"⟩
abbrev cX12_findLand : ByteArray := prog_14_method_22_code
def yX12_findLand : MethodName := ⟨RX12, "findLand", "()V"⟩
abbrev cX12_fault : ByteArray := prog_14_method_23_code
def yX12_fault : MethodName := ⟨RX12, "fault", "()I"⟩
abbrev cX12_turnedSet : ByteArray := prog_14_method_24_code
def yX12_turnedSet : MethodName := ⟨RX12, "turnedSet", "()I"⟩
abbrev cX12_told : ByteArray := prog_14_method_25_code
def yX12_told : MethodName := ⟨RX12, "told", "(I)I"⟩
abbrev cX12_road : ByteArray := prog_14_method_26_code
def yX12_road : MethodName := ⟨RX12, "road", "(II)I"⟩
abbrev cX12_far : ByteArray := prog_14_method_27_code
def yX12_far : MethodName := ⟨RX12, "far", "(II)I"⟩
abbrev cX12_post : ByteArray := prog_14_method_28_code
def yX12_post : MethodName := ⟨RX12, "post", "(II)I"⟩
abbrev cX12_stands : ByteArray := prog_14_method_29_code
def yX12_stands : MethodName := ⟨RX12, "stands", "(III)I"⟩
abbrev cX12_toldBy : ByteArray := prog_14_method_30_code
def yX12_toldBy : MethodName := ⟨RX12, "toldBy", "(II)I"⟩
abbrev cX12_arm : ByteArray := prog_14_method_31_code
def yX12_arm : MethodName := ⟨RX12, "arm", "(III)I"⟩
abbrev cX12_isTold : ByteArray := prog_14_method_32_code
def yX12_isTold : MethodName := ⟨RX12, "isTold", "(II)Z"⟩
abbrev cX12_miles : ByteArray := prog_14_method_33_code
def yX12_miles : MethodName := ⟨RX12, "miles", "(II)I"⟩
abbrev cX12_turn : ByteArray := prog_14_method_34_code
def yX12_turn : MethodName := ⟨RX12, "turn", "(II)I"⟩
abbrev cX12_fell : ByteArray := prog_14_method_35_code
def yX12_fell : MethodName := ⟨RX12, "fell", "(IIZ)I"⟩
abbrev cX12_paint : ByteArray := prog_14_method_36_code
def yX12_paint : MethodName := ⟨RX12, "paint", "(III)I"⟩
abbrev cX12_setRight : ByteArray := prog_14_method_37_code
def yX12_setRight : MethodName := ⟨RX12, "setRight", "(I)I"⟩
abbrev cX12_right : ByteArray := prog_14_method_38_code
def yX12_right : MethodName := ⟨RX12, "right", "(I)I"⟩
abbrev cX12_walkNow : ByteArray := prog_14_method_39_code
def yX12_walkNow : MethodName := ⟨RX12, "walkNow", "(III)V"⟩
abbrev cX12_walk : ByteArray := prog_14_method_40_code
def yX12_walk : MethodName := ⟨RX12, "walk", "(III)I"⟩
abbrev cX12_way : ByteArray := prog_14_method_41_code
def yX12_way : MethodName := ⟨RX12, "way", "(III)I"⟩
abbrev cX12_costBy : ByteArray := prog_14_method_42_code
def yX12_costBy : MethodName := ⟨RX12, "costBy", "(I)I"⟩
abbrev cX12_costNow : ByteArray := prog_14_method_43_code
def yX12_costNow : MethodName := ⟨RX12, "costNow", "()I"⟩
abbrev cX12_isBeside : ByteArray := prog_14_method_44_code
def yX12_isBeside : MethodName := ⟨RX12, "isBeside", "(II)Z"⟩
abbrev cX12_seen : ByteArray := prog_14_method_45_code
def yX12_seen : MethodName := ⟨RX12, "seen", "(III)I"⟩
abbrev cX12_forget : ByteArray := prog_14_method_46_code
def yX12_forget : MethodName := ⟨RX12, "forget", "()I"⟩
abbrev cX12_fitsOf : ByteArray := prog_14_method_47_code
def yX12_fitsOf : MethodName := ⟨RX12, "fitsOf", "(I)I"⟩
abbrev cX12_fits : ByteArray := prog_14_method_48_code
def yX12_fits : MethodName := ⟨RX12, "fits", "(I)I"⟩
abbrev cX12_sure : ByteArray := prog_14_method_49_code
def yX12_sure : MethodName := ⟨RX12, "sure", "()I"⟩
abbrev cX12_isQuarrel : ByteArray := prog_14_method_50_code
def yX12_isQuarrel : MethodName := ⟨RX12, "isQuarrel", "(IIZ)Z"⟩
abbrev cX12_quarrel : ByteArray := prog_14_method_51_code
def yX12_quarrel : MethodName := ⟨RX12, "quarrel", "(Z)I"⟩
abbrev cX12_allCome : ByteArray := prog_14_method_52_code
def yX12_allCome : MethodName := ⟨RX12, "allCome", "(I)Z"⟩
abbrev cX12_fewest : ByteArray := prog_14_method_53_code
def yX12_fewest : MethodName := ⟨RX12, "fewest", "()I"⟩
abbrev cX12_best : ByteArray := prog_14_method_54_code
def yX12_best : MethodName := ⟨RX12, "best", "(I)I"⟩
abbrev cX12_addWay : ByteArray := prog_14_method_55_code
def yX12_addWay : MethodName := ⟨RX12, "addWay", "(IIJ)V"⟩
abbrev cX12_partWay : ByteArray := prog_14_method_56_code
def yX12_partWay : MethodName := ⟨RX12, "partWay", "(II)J"⟩
abbrev cX12_odds : ByteArray := prog_14_method_57_code
def yX12_odds : MethodName := ⟨RX12, "odds", "(III)I"⟩
abbrev cX12_neededAt : ByteArray := prog_14_method_58_code
def yX12_neededAt : MethodName := ⟨RX12, "neededAt", "(I)I"⟩
abbrev cX12_needed : ByteArray := prog_14_method_59_code
def yX12_needed : MethodName := ⟨RX12, "needed", "(I)I"⟩
abbrev cX12_write : ByteArray := prog_14_method_60_code
def yX12_write : MethodName := ⟨RX12, "write", "(IIII)I"⟩
abbrev cX12_tear : ByteArray := prog_14_method_61_code
def yX12_tear : MethodName := ⟨RX12, "tear", "()I"⟩
abbrev cX12_judge : ByteArray := prog_14_method_62_code
def yX12_judge : MethodName := ⟨RX12, "judge", "()I"⟩
abbrev cX12_draw : ByteArray := prog_14_method_63_code
def yX12_draw : MethodName := ⟨RX12, "draw", "(I)I"⟩
abbrev cX12_drift : ByteArray := prog_14_method_64_code
def yX12_drift : MethodName := ⟨RX12, "drift", "(II)I"⟩
abbrev cX12_seed : ByteArray := prog_14_method_65_code
def yX12_seed : MethodName := ⟨RX12, "seed", "(I)I"⟩
abbrev cX12_keep : ByteArray := prog_14_method_66_code
def yX12_keep : MethodName := ⟨RX12, "keep", "(I)I"⟩
abbrev cX12_goBack : ByteArray := prog_14_method_67_code
def yX12_goBack : MethodName := ⟨RX12, "goBack", "(I)I"⟩
def RJ6 : String := "java/lang/Integer"
def TJ6 : u_T := fun k => match k with
  | _ => ("", "", "", false)
def tyJ6 : Nat → FieldType := fun k => match k with
  | _ => .int
abbrev wsJ60 : List Cond := u_ws RJ6 TJ6 0
theorem nmJ6 : ∀ a, a < 0 → ∀ b, b < 0 → a ≠ b → (TJ6 a).2.1 ≠ (TJ6 b).2.1 := by decide +kernel
theorem tyJ6_ok : ∀ k, k < 0 → parseFieldDescriptor (TJ6 k).2.2.1 = some (tyJ6 k) := by decide +kernel
abbrev cJ6_bitCount_0f7a4 : ByteArray := prog_15_method_49_code
def yJ6_bitCount_0f7a4 : MethodName := ⟨RJ6, "bitCount", "(I)I"⟩
def RJ9 : String := "java/lang/Math"
def TJ9 : u_T := fun k => match k with
  | _ => ("", "", "", false)
def tyJ9 : Nat → FieldType := fun k => match k with
  | _ => .int
abbrev wsJ90 : List Cond := u_ws RJ9 TJ9 0
theorem nmJ9 : ∀ a, a < 0 → ∀ b, b < 0 → a ≠ b → (TJ9 a).2.1 ≠ (TJ9 b).2.1 := by decide +kernel
theorem tyJ9_ok : ∀ k, k < 0 → parseFieldDescriptor (TJ9 k).2.2.1 = some (tyJ9 k) := by decide +kernel
abbrev cJ9_floorMod_7cf53 : ByteArray := prog_16_method_50_code
def yJ9_floorMod_7cf53 : MethodName := ⟨RJ9, "floorMod", "(II)I"⟩
abbrev cJ9_min_7cf53 : ByteArray := prog_16_method_69_code
def yJ9_min_7cf53 : MethodName := ⟨RJ9, "min", "(II)I"⟩
def RJ0 : String := "java/lang/String"
def TJ0 : u_T := fun k => match k with
  | _ => ("", "", "", false)
def tyJ0 : Nat → FieldType := fun k => match k with
  | _ => .int
abbrev wsJ00 : List Cond := u_ws RJ0 TJ0 0
theorem nmJ0 : ∀ a, a < 0 → ∀ b, b < 0 → a ≠ b → (TJ0 a).2.1 ≠ (TJ0 b).2.1 := by decide +kernel
theorem tyJ0_ok : ∀ k, k < 0 → parseFieldDescriptor (TJ0 k).2.2.1 = some (tyJ0 k) := by decide +kernel
abbrev cJ0_length_8abf5 : ByteArray := prog_17_method_54_code
def yJ0_length_8abf5 : MethodName := ⟨RJ0, "length", "()I"⟩
abbrev cJ0_charAt_5068e : ByteArray := prog_17_method_56_code
def yJ0_charAt_5068e : MethodName := ⟨RJ0, "charAt", "(I)C"⟩
abbrev cJ0_coder_7d493 : ByteArray := prog_17_method_152_code
def yJ0_coder_7d493 : MethodName := ⟨RJ0, "coder", "()B"⟩
abbrev cJ0_isLatin1_aae02 : ByteArray := prog_17_method_154_code
def yJ0_isLatin1_aae02 : MethodName := ⟨RJ0, "isLatin1", "()Z"⟩
abbrev cJ0_checkIndex_df160 : ByteArray := prog_17_method_155_code
def yJ0_checkIndex_df160 : MethodName := ⟨RJ0, "checkIndex", "(II)V"⟩
def RJ1 : String := "java/lang/StringLatin1"
def TJ1 : u_T := fun k => match k with
  | _ => ("", "", "", false)
def tyJ1 : Nat → FieldType := fun k => match k with
  | _ => .int
abbrev wsJ10 : List Cond := u_ws RJ1 TJ1 0
theorem nmJ1 : ∀ a, a < 0 → ∀ b, b < 0 → a ≠ b → (TJ1 a).2.1 ≠ (TJ1 b).2.1 := by decide +kernel
theorem tyJ1_ok : ∀ k, k < 0 → parseFieldDescriptor (TJ1 k).2.2.1 = some (tyJ1 k) := by decide +kernel
abbrev cJ1_charAt_3b067 : ByteArray := prog_18_method_2_code
def yJ1_charAt_3b067 : MethodName := ⟨RJ1, "charAt", "([BI)C"⟩
def RJ2 : String := "java/lang/StringUTF16"
def TJ2 : u_T := fun k => match k with
  | _ => ("", "", "", false)
def tyJ2 : Nat → FieldType := fun k => match k with
  | _ => .int
abbrev wsJ20 : List Cond := u_ws RJ2 TJ2 0
theorem nmJ2 : ∀ a, a < 0 → ∀ b, b < 0 → a ≠ b → (TJ2 a).2.1 ≠ (TJ2 b).2.1 := by decide +kernel
theorem tyJ2_ok : ∀ k, k < 0 → parseFieldDescriptor (TJ2 k).2.2.1 = some (tyJ2 k) := by decide +kernel
abbrev cJ2_getChar_3b067 : ByteArray := prog_19_method_5_code
def yJ2_getChar_3b067 : MethodName := ⟨RJ2, "getChar", "([BI)C"⟩
abbrev cJ2_length_9d52b : ByteArray := prog_19_method_6_code
def yJ2_length_9d52b : MethodName := ⟨RJ2, "length", "([B)I"⟩
abbrev cJ2_charAt_3b067 : ByteArray := prog_19_method_83_code
def yJ2_charAt_3b067 : MethodName := ⟨RJ2, "charAt", "([BI)C"⟩
abbrev cJ2_checkIndex_2214a : ByteArray := prog_19_method_91_code
def yJ2_checkIndex_2214a : MethodName := ⟨RJ2, "checkIndex", "(I[B)V"⟩
def RJ10 : String := "java/lang/System"
def TJ10 : u_T := fun k => match k with
  | _ => ("", "", "", false)
def tyJ10 : Nat → FieldType := fun k => match k with
  | _ => .int
abbrev wsJ100 : List Cond := u_ws RJ10 TJ10 0
theorem nmJ10 : ∀ a, a < 0 → ∀ b, b < 0 → a ≠ b → (TJ10 a).2.1 ≠ (TJ10 b).2.1 := by decide +kernel
theorem tyJ10_ok : ∀ k, k < 0 → parseFieldDescriptor (TJ10 k).2.2.1 = some (tyJ10 k) := by decide +kernel
def RJ3 : String := "jdk/internal/util/Preconditions"
def TJ3 : u_T := fun k => match k with
  | _ => ("", "", "", false)
def tyJ3 : Nat → FieldType := fun k => match k with
  | _ => .int
abbrev wsJ30 : List Cond := u_ws RJ3 TJ3 0
theorem nmJ3 : ∀ a, a < 0 → ∀ b, b < 0 → a ≠ b → (TJ3 a).2.1 ≠ (TJ3 b).2.1 := by decide +kernel
theorem tyJ3_ok : ∀ k, k < 0 → parseFieldDescriptor (TJ3 k).2.2.1 = some (tyJ3 k) := by decide +kernel
abbrev cJ3_checkIndex_8e157 : ByteArray := prog_21_method_11_code
def yJ3_checkIndex_8e157 : MethodName := ⟨RJ3, "checkIndex", "(IILjava/util/function/BiFunction;)I"⟩
def RL : String := "TurnedPostsLaw"
abbrev cL_law : ByteArray := code
def yL_law : MethodName := ⟨RL, "law", "([I)Z"⟩
abbrev vwCl : List vw_C := [(RX0, TX0, 5), (RX1, TX1, 3), (RX2, TX2, 1), (RX3, TX3, 3), (RX4, TX4, 13), (RX5, TX5, 4), (RX6, TX6, 4), (RX7, TX7, 5), (RX8, TX8, 5), (RX9, TX9, 6), (RX10, TX10, 2), (RX11, TX11, 13), (RX12, TX12, 56)]
end
section
/-! numbers: an abstract int is an Int, held by the machine as Int32.ofInt -/
def inR (x : Int) : Prop := -2147483648 ≤ x ∧ x < 2147483648
def inL (x : Int) : Prop := -9223372036854775808 ≤ x ∧ x < 9223372036854775808
theorem zi_to {x : Int} (h : inR x) : (Int32.ofInt x).toInt = x := Int32.toInt_ofInt_of_le h.1 h.2
theorem zl_to {x : Int} (h : inL x) : (Int64.ofInt x).toInt = x := Int64.toInt_ofInt_of_le h.1 h.2
theorem zi_lt {a b : Int} (ha : inR a) (hb : inR b) : Int32.ofInt a < Int32.ofInt b ↔ a < b := by
  rw [Int32.lt_iff_toInt_lt, zi_to ha, zi_to hb]
theorem zi_le {a b : Int} (ha : inR a) (hb : inR b) : Int32.ofInt a ≤ Int32.ofInt b ↔ a ≤ b := by
  rw [Int32.le_iff_toInt_le, zi_to ha, zi_to hb]
theorem zi_eq {a b : Int} (ha : inR a) (hb : inR b) : Int32.ofInt a = Int32.ofInt b ↔ a = b := by
  rw [← Int32.toInt_inj, zi_to ha, zi_to hb]
theorem zl_eq {a b : Int} (ha : inL a) (hb : inL b) : Int64.ofInt a = Int64.ofInt b ↔ a = b := by
  rw [← Int64.toInt_inj, zl_to ha, zl_to hb]
theorem zi_0 : (0 : Int32) = Int32.ofInt 0 := by decide
theorem zl_0 : (0 : Int64) = Int64.ofInt 0 := by decide
theorem zi_of (x : Int32) : Int32.ofInt x.toInt = x := Int32.ofInt_toInt x
theorem zl_of (x : Int64) : Int64.ofInt x.toInt = x := Int64.ofInt_toInt x
theorem inR_0 : inR 0 := by unfold inR; omega
theorem zi_rg (x : Int32) : inR x.toInt := ⟨Int32.le_toInt x, Int32.toInt_lt x⟩
theorem zl_rg (x : Int64) : inL x.toInt := ⟨Int64.le_toInt x, Int64.toInt_lt x⟩
theorem zi_add (a b : Int) : Int32.ofInt a + Int32.ofInt b = Int32.ofInt (a + b) := (Int32.ofInt_add a b).symm
theorem zi_sub (a b : Int) : Int32.ofInt a - Int32.ofInt b = Int32.ofInt (a - b) := (Int32.ofInt_sub a b).symm
theorem zi_mul (a b : Int) : Int32.ofInt a * Int32.ofInt b = Int32.ofInt (a * b) := (Int32.ofInt_mul a b).symm
theorem zl_add (a b : Int) : Int64.ofInt a + Int64.ofInt b = Int64.ofInt (a + b) := (Int64.ofInt_add a b).symm
theorem zl_sub (a b : Int) : Int64.ofInt a - Int64.ofInt b = Int64.ofInt (a - b) := (Int64.ofInt_sub a b).symm
theorem zl_mul (a b : Int) : Int64.ofInt a * Int64.ofInt b = Int64.ofInt (a * b) := (Int64.ofInt_mul a b).symm
/-- bit operations go by the machine's own numbers -/
def iand (a b : Int) : Int := (Int32.ofInt a &&& Int32.ofInt b).toInt
def iorr (a b : Int) : Int := (Int32.ofInt a ||| Int32.ofInt b).toInt
def ixor (a b : Int) : Int := (Int32.ofInt a ^^^ Int32.ofInt b).toInt
def ishl (a b : Int) : Int := (Int32.ofInt a <<< (Int32.ofInt b &&& 31)).toInt
def ishr (a b : Int) : Int := (Int32.ofInt a >>> (Int32.ofInt b &&& 31)).toInt
def landd (a b : Int) : Int := (Int64.ofInt a &&& Int64.ofInt b).toInt
def lorr (a b : Int) : Int := (Int64.ofInt a ||| Int64.ofInt b).toInt
def lshl (a b : Int) : Int := (Int64.ofInt a <<< ((Int32.ofInt b).toInt64 &&& 63)).toInt
def lshr (a b : Int) : Int := (Int64.ofInt a >>> ((Int32.ofInt b).toInt64 &&& 63)).toInt
def l2i (a : Int) : Int := (Int64.ofInt a).toInt32.toInt
theorem zi_i2l {a : Int} (h : inR a) : (Int32.ofInt a).toInt64 = Int64.ofInt a := by
  rw [← Int64.toInt_inj, Int32.toInt_toInt64, zi_to h, zl_to ⟨by have := h.1; omega, by have := h.2; omega⟩]
theorem zi_div {a b : Int} (ha : inR a) (hb : inR b) (h : inR (a.tdiv b)) : Int32.ofInt a / Int32.ofInt b = Int32.ofInt (a.tdiv b) := by
  rw [← Int32.toInt_inj, Int32.toInt_div, zi_to ha, zi_to hb, zi_to h]
  exact Int.bmod_eq_of_le (by have := h.1; omega) (by have := h.2; omega)
theorem zi_ix {a : Int} {n : Nat} (h0 : 0 ≤ a) (hn : a < n) (hr : n ≤ 1000000) : vp_in (Int32.ofInt a) n ∧ (Int32.ofInt a).toNatClampNeg = a.toNat := by
  have ha : inR a := ⟨by omega, by omega⟩
  have e : (Int32.ofInt a).toNatClampNeg = a.toNat := by
    show (Int32.ofInt a).toInt.toNat = a.toNat
    rw [zi_to ha]
  refine ⟨?_, e⟩
  unfold vp_in
  rw [e, zi_0, zi_lt ha inR_0]
  omega
end
section
/-! the world: cells by number; objects by class, arrays by kind (0 int, 1 long, 2 boolean) and length -/
def zkL : List (Nat × (Nat ⊕ (Nat × Nat))) := [(0, .inl 11), (16, .inl 10), (17, .inr (0, 400)), (32, .inl 4), (36, .inr (0, 14)), (37, .inr (0, 14)), (38, .inr (0, 14)), (39, .inr (0, 20)), (40, .inr (0, 20)), (41, .inr (0, 20)), (42, .inr (0, 9)), (43, .inr (0, 45)), (44, .inr (0, 81)), (45, .inr (0, 81)), (48, .inl 4), (52, .inr (0, 14)), (53, .inr (0, 14)), (54, .inr (0, 14)), (55, .inr (0, 20)), (56, .inr (0, 20)), (57, .inr (0, 20)), (58, .inr (0, 9)), (59, .inr (0, 45)), (60, .inr (0, 81)), (61, .inr (0, 81)), (64, .inl 7), (80, .inl 6), (82, .inr (0, 9)), (83, .inr (0, 9)), (84, .inr (0, 81)), (96, .inl 9), (99, .inr (0, 10)), (112, .inl 1), (115, .inr (0, 9)), (128, .inl 5), (144, .inl 8), (146, .inr (0, 40)), (147, .inr (0, 40)), (148, .inr (0, 40)), (160, .inl 0), (161, .inr (0, 20)), (162, .inr (0, 20)), (163, .inr (0, 20)), (164, .inr (0, 20)), (176, .inl 2), (192, .inl 3), (208, .inl 6), (210, .inr (0, 9)), (211, .inr (0, 9)), (212, .inr (0, 81)), (224, .inl 3), (240, .inl 6), (242, .inr (0, 9)), (243, .inr (0, 9)), (244, .inr (0, 81)), (256, .inl 12), (259, .inr (0, 14)), (260, .inr (0, 14)), (261, .inr (0, 14)), (263, .inr (0, 20)), (264, .inr (0, 20)), (265, .inr (0, 20)), (266, .inr (0, 9)), (267, .inr (0, 45)), (268, .inr (0, 81)), (269, .inr (0, 81)), (270, .inr (0, 9)), (271, .inr (0, 9)), (272, .inr (0, 81)), (274, .inr (0, 400)), (284, .inr (0, 14)), (285, .inr (0, 14)), (286, .inr (0, 14)), (288, .inr (0, 20)), (289, .inr (0, 20)), (290, .inr (0, 20)), (296, .inr (0, 10)), (297, .inr (0, 10)), (299, .inr (0, 40)), (300, .inr (0, 40)), (301, .inr (0, 40)), (302, .inr (0, 64)), (303, .inr (0, 64)), (304, .inr (1, 64)), (307, .inr (0, 20)), (308, .inr (0, 20)), (309, .inr (0, 20)), (310, .inr (0, 20)), (311, .inr (0, 200)), (312, .inr (2, 2))]
def zrL : List (Nat × Nat) := [(0, 16), (1, 32), (2, 48), (3, 64), (4, 80), (5, 96), (6, 112), (7, 128), (8, 144), (9, 160), (10, 176), (11, 192), (12, 224), (4096, 16), (4097, 48), (5120, 32), (6144, 32), (6145, 80), (7168, 32), (7169, 96), (8192, 32), (8193, 80), (9216, 32), (12288, 208), (13312, 32), (14336, 240), (15360, 32)]
def zfL : List (List Nat) := [[3, 3, 3, 3, 0], [3, 3, 3], [0], [3, 0, 2], [0, 0, 0, 3, 3, 3, 3, 3, 3, 3, 3, 3, 3], [3, 3, 0, 0], [3, 3, 3, 3], [3, 3, 0, 0, 0], [3, 3, 3, 3, 0], [3, 3, 3, 0, 0, 0], [3, 0], [3, 3, 3, 3, 3, 3, 3, 3, 3, 3, 3, 3, 3], [0, 0, 3, 3, 3, 0, 3, 3, 3, 3, 3, 3, 3, 3, 3, 3, 0, 3, 0, 0, 0, 1, 0, 0, 0, 0, 0, 3, 3, 3, 0, 3, 3, 3, 0, 0, 0, 0, 0, 3, 3, 0, 3, 3, 3, 3, 3, 3, 0, 0, 3, 3, 3, 3, 3, 3]]
def ZL : List Nat := zkL.map Prod.fst
def zk (k : Nat) : Nat ⊕ (Nat × Nat) := (zkL.lookup k).getD (.inl 99)
def zr (k j : Nat) : Nat := (zrL.lookup (k * 64 + j)).getD (k + 1 + j)
def zf (c : Nat) : List Nat := zfL.getD c []
theorem ZL_nd : va_nd ZL = true := by decide +kernel
theorem zk_0 : zk 0 = .inl 11 := by decide +kernel
theorem zk_16 : zk 16 = .inl 10 := by decide +kernel
theorem zk_17 : zk 17 = .inr (0, 400) := by decide +kernel
theorem zk_32 : zk 32 = .inl 4 := by decide +kernel
theorem zk_36 : zk 36 = .inr (0, 14) := by decide +kernel
theorem zk_37 : zk 37 = .inr (0, 14) := by decide +kernel
theorem zk_38 : zk 38 = .inr (0, 14) := by decide +kernel
theorem zk_39 : zk 39 = .inr (0, 20) := by decide +kernel
theorem zk_40 : zk 40 = .inr (0, 20) := by decide +kernel
theorem zk_41 : zk 41 = .inr (0, 20) := by decide +kernel
theorem zk_42 : zk 42 = .inr (0, 9) := by decide +kernel
theorem zk_43 : zk 43 = .inr (0, 45) := by decide +kernel
theorem zk_44 : zk 44 = .inr (0, 81) := by decide +kernel
theorem zk_45 : zk 45 = .inr (0, 81) := by decide +kernel
theorem zk_48 : zk 48 = .inl 4 := by decide +kernel
theorem zk_52 : zk 52 = .inr (0, 14) := by decide +kernel
theorem zk_53 : zk 53 = .inr (0, 14) := by decide +kernel
theorem zk_54 : zk 54 = .inr (0, 14) := by decide +kernel
theorem zk_55 : zk 55 = .inr (0, 20) := by decide +kernel
theorem zk_56 : zk 56 = .inr (0, 20) := by decide +kernel
theorem zk_57 : zk 57 = .inr (0, 20) := by decide +kernel
theorem zk_58 : zk 58 = .inr (0, 9) := by decide +kernel
theorem zk_59 : zk 59 = .inr (0, 45) := by decide +kernel
theorem zk_60 : zk 60 = .inr (0, 81) := by decide +kernel
theorem zk_61 : zk 61 = .inr (0, 81) := by decide +kernel
theorem zk_64 : zk 64 = .inl 7 := by decide +kernel
theorem zk_80 : zk 80 = .inl 6 := by decide +kernel
theorem zk_82 : zk 82 = .inr (0, 9) := by decide +kernel
theorem zk_83 : zk 83 = .inr (0, 9) := by decide +kernel
theorem zk_84 : zk 84 = .inr (0, 81) := by decide +kernel
theorem zk_96 : zk 96 = .inl 9 := by decide +kernel
theorem zk_99 : zk 99 = .inr (0, 10) := by decide +kernel
theorem zk_112 : zk 112 = .inl 1 := by decide +kernel
theorem zk_115 : zk 115 = .inr (0, 9) := by decide +kernel
theorem zk_128 : zk 128 = .inl 5 := by decide +kernel
theorem zk_144 : zk 144 = .inl 8 := by decide +kernel
theorem zk_146 : zk 146 = .inr (0, 40) := by decide +kernel
theorem zk_147 : zk 147 = .inr (0, 40) := by decide +kernel
theorem zk_148 : zk 148 = .inr (0, 40) := by decide +kernel
theorem zk_160 : zk 160 = .inl 0 := by decide +kernel
theorem zk_161 : zk 161 = .inr (0, 20) := by decide +kernel
theorem zk_162 : zk 162 = .inr (0, 20) := by decide +kernel
theorem zk_163 : zk 163 = .inr (0, 20) := by decide +kernel
theorem zk_164 : zk 164 = .inr (0, 20) := by decide +kernel
theorem zk_176 : zk 176 = .inl 2 := by decide +kernel
theorem zk_192 : zk 192 = .inl 3 := by decide +kernel
theorem zk_208 : zk 208 = .inl 6 := by decide +kernel
theorem zk_210 : zk 210 = .inr (0, 9) := by decide +kernel
theorem zk_211 : zk 211 = .inr (0, 9) := by decide +kernel
theorem zk_212 : zk 212 = .inr (0, 81) := by decide +kernel
theorem zk_224 : zk 224 = .inl 3 := by decide +kernel
theorem zk_240 : zk 240 = .inl 6 := by decide +kernel
theorem zk_242 : zk 242 = .inr (0, 9) := by decide +kernel
theorem zk_243 : zk 243 = .inr (0, 9) := by decide +kernel
theorem zk_244 : zk 244 = .inr (0, 81) := by decide +kernel
theorem zk_256 : zk 256 = .inl 12 := by decide +kernel
theorem zk_259 : zk 259 = .inr (0, 14) := by decide +kernel
theorem zk_260 : zk 260 = .inr (0, 14) := by decide +kernel
theorem zk_261 : zk 261 = .inr (0, 14) := by decide +kernel
theorem zk_263 : zk 263 = .inr (0, 20) := by decide +kernel
theorem zk_264 : zk 264 = .inr (0, 20) := by decide +kernel
theorem zk_265 : zk 265 = .inr (0, 20) := by decide +kernel
theorem zk_266 : zk 266 = .inr (0, 9) := by decide +kernel
theorem zk_267 : zk 267 = .inr (0, 45) := by decide +kernel
theorem zk_268 : zk 268 = .inr (0, 81) := by decide +kernel
theorem zk_269 : zk 269 = .inr (0, 81) := by decide +kernel
theorem zk_270 : zk 270 = .inr (0, 9) := by decide +kernel
theorem zk_271 : zk 271 = .inr (0, 9) := by decide +kernel
theorem zk_272 : zk 272 = .inr (0, 81) := by decide +kernel
theorem zk_274 : zk 274 = .inr (0, 400) := by decide +kernel
theorem zk_284 : zk 284 = .inr (0, 14) := by decide +kernel
theorem zk_285 : zk 285 = .inr (0, 14) := by decide +kernel
theorem zk_286 : zk 286 = .inr (0, 14) := by decide +kernel
theorem zk_288 : zk 288 = .inr (0, 20) := by decide +kernel
theorem zk_289 : zk 289 = .inr (0, 20) := by decide +kernel
theorem zk_290 : zk 290 = .inr (0, 20) := by decide +kernel
theorem zk_296 : zk 296 = .inr (0, 10) := by decide +kernel
theorem zk_297 : zk 297 = .inr (0, 10) := by decide +kernel
theorem zk_299 : zk 299 = .inr (0, 40) := by decide +kernel
theorem zk_300 : zk 300 = .inr (0, 40) := by decide +kernel
theorem zk_301 : zk 301 = .inr (0, 40) := by decide +kernel
theorem zk_302 : zk 302 = .inr (0, 64) := by decide +kernel
theorem zk_303 : zk 303 = .inr (0, 64) := by decide +kernel
theorem zk_304 : zk 304 = .inr (1, 64) := by decide +kernel
theorem zk_307 : zk 307 = .inr (0, 20) := by decide +kernel
theorem zk_308 : zk 308 = .inr (0, 20) := by decide +kernel
theorem zk_309 : zk 309 = .inr (0, 20) := by decide +kernel
theorem zk_310 : zk 310 = .inr (0, 20) := by decide +kernel
theorem zk_311 : zk 311 = .inr (0, 200) := by decide +kernel
theorem zk_312 : zk 312 = .inr (2, 2) := by decide +kernel
theorem zr_0_0 : zr 0 0 = 16 := by decide +kernel
theorem zr_0_1 : zr 0 1 = 32 := by decide +kernel
theorem zr_0_2 : zr 0 2 = 48 := by decide +kernel
theorem zr_0_3 : zr 0 3 = 64 := by decide +kernel
theorem zr_0_4 : zr 0 4 = 80 := by decide +kernel
theorem zr_0_5 : zr 0 5 = 96 := by decide +kernel
theorem zr_0_6 : zr 0 6 = 112 := by decide +kernel
theorem zr_0_7 : zr 0 7 = 128 := by decide +kernel
theorem zr_0_8 : zr 0 8 = 144 := by decide +kernel
theorem zr_0_9 : zr 0 9 = 160 := by decide +kernel
theorem zr_0_10 : zr 0 10 = 176 := by decide +kernel
theorem zr_0_11 : zr 0 11 = 192 := by decide +kernel
theorem zr_0_12 : zr 0 12 = 224 := by decide +kernel
theorem zr_64_0 : zr 64 0 = 16 := by decide +kernel
theorem zr_64_1 : zr 64 1 = 48 := by decide +kernel
theorem zr_80_0 : zr 80 0 = 32 := by decide +kernel
theorem zr_96_0 : zr 96 0 = 32 := by decide +kernel
theorem zr_96_1 : zr 96 1 = 80 := by decide +kernel
theorem zr_112_0 : zr 112 0 = 32 := by decide +kernel
theorem zr_112_1 : zr 112 1 = 96 := by decide +kernel
theorem zr_128_0 : zr 128 0 = 32 := by decide +kernel
theorem zr_128_1 : zr 128 1 = 80 := by decide +kernel
theorem zr_144_0 : zr 144 0 = 32 := by decide +kernel
theorem zr_192_0 : zr 192 0 = 208 := by decide +kernel
theorem zr_208_0 : zr 208 0 = 32 := by decide +kernel
theorem zr_224_0 : zr 224 0 = 240 := by decide +kernel
theorem zr_240_0 : zr 240 0 = 32 := by decide +kernel
theorem zk_mem {k : Nat} {q : Nat ⊕ (Nat × Nat)} (h : zk k = q) (hq : q ≠ .inl 99) : k ∈ ZL := by
  unfold zk at h
  cases hl : zkL.lookup k with
  | none => rw [hl] at h; exact absurd h.symm hq
  | some v =>
    have : ∀ (L : List (Nat × (Nat ⊕ (Nat × Nat)))), L.lookup k = some v → k ∈ L.map Prod.fst := by
      intro L
      induction L with
      | nil => intro h; cases h
      | cons a t ih =>
        intro h
        obtain ⟨a1, a2⟩ := a
        by_cases e : k = a1
        · subst e; exact List.mem_cons_self
        · rw [List.lookup_cons] at h
          have : (k == a1) = false := by simpa using e
          rw [this] at h
          exact List.mem_cons_of_mem _ (ih h)
    exact this zkL hl
end
section
/-! THE JUDGEMENT V: the machine at a pc, over ONE world whose cells have fixed numbers; contents are Ints -/
abbrev AV : Type := Int ⊕ (Int ⊕ (Nat ⊕ (Nat ⊕ Unit)))
abbrev vi (x : Int) : AV := .inl x
abbrev vl (x : Int) : AV := .inr (.inl x)
abbrev vr (k : Nat) : AV := .inr (.inr (.inl k))
abbrev vs (k : Nat) : AV := .inr (.inr (.inr (.inl k)))
abbrev un : AV := .inr (.inr (.inr (.inr ())))
abbrev Mem : Type := Nat → Nat → Int
/-- one place of one cell is written -/
def mu (μ : Mem) (k j : Nat) (v : Int) : Mem := fun a b => if a = k ∧ b = j then v else μ a b
/-- a whole cell is written -/
def mw (μ : Mem) (k : Nat) (r : Nat → Int) : Mem := fun a => if a = k then r else μ a
theorem mu_ne {μ : Mem} {k j : Nat} {v : Int} {a : Nat} (h : a ≠ k) : mu μ k j v a = μ a := by
  funext b; simp [mu, h]
theorem mw_ne {μ : Mem} {k : Nat} {r : Nat → Int} {a : Nat} (h : a ≠ k) : mw μ k r a = μ a := by simp [mw, h]
theorem mw_self {μ : Mem} {k : Nat} {r : Nat → Int} : mw μ k r k = r := by simp [mw]
theorem mu_eq (μ : Mem) (k j : Nat) (v : Int) : mu μ k j v = mw μ k (fun b => if b = j then v else μ k b) := by
  funext a b
  by_cases h : a = k
  · subst h; simp [mu, mw]
  · simp [mu, mw, h]
/-- launch, class ids, slots, cells' addresses, array classes, addresses of the string constants and of their bytes -/
abbrev ZG : Type := Launch × (Nat → ClassId) × (Nat → Nat → Nat) × (Nat → Nat) × (Nat → ClassId) × (Nat → Nat) × (Nat → Nat)
def cv (ad sK : Nat → Nat) (v : AV) : Value := match v with
  | .inl x => .int (Int32.ofInt x)
  | .inr (.inl x) => .long (Int64.ofInt x)
  | .inr (.inr (.inl k)) => .ref (ad k)
  | .inr (.inr (.inr (.inl k))) => .ref (sK k)
  | .inr (.inr (.inr (.inr _))) => .null
def ov (ad sK : Nat → Nat) (v : AV) : Option Value := match v with
  | .inr (.inr (.inr (.inr _))) => none
  | v => some (cv ad sK v)
def isU (v : AV) : Bool := match v with
  | .inr (.inr (.inr (.inr _))) => true
  | _ => false
def isL (v : AV) : Bool := match v with
  | .inr (.inl _) => true
  | _ => false
def lcl (ad sK : Nat → Nat) : Nat → List AV → List (Nat × Value)
  | _, [] => []
  | i, v :: t => if isU v then lcl ad sK (i + 1) t else (i, cv ad sK v) :: lcl ad sK (i + 1) t
def zv (ad : Nat → Nat) (k : Nat) (r : Nat → Int) (j t : Nat) : Value := match t with
  | 0 => .int (Int32.ofInt (r j))
  | 1 => .long (Int64.ofInt (r j))
  | 2 => .int (Int32.ofInt (r j))
  | _ => .ref (ad (zr k j))
def zc (ad : Nat → Nat) (ac : Nat → ClassId) (k : Nat) (r : Nat → Int) : va_E := match zk k with
  | .inl c => .inr (c, (zf c).mapIdx (fun j t => zv ad k r j t))
  | .inr (t, n) => .inl (ac t, n, if t = 1 then .inr (.inl fun i => Int64.ofInt (r i)) else .inl fun i => Int32.ofInt (r i))
def zw (ad : Nat → Nat) (ac : Nat → ClassId) (μ : Mem) : va_W := ZL.map (fun k => (ad k, zc ad ac k (μ k)))
/-- the addresses are apart, and of a kind -/
def zD (A : Nat → Prop) (ad : Nat → Nat) : Prop := (∀ i j, i ∈ ZL → j ∈ ZL → ad i = ad j → i = j) ∧ ∀ k ∈ ZL, A (ad k)
def wA (ad : Nat → Nat) : Nat → Prop := fun q => ∃ k, k ∈ ZL ∧ ad k = q
abbrev zT (ac : Nat → ClassId) : List (ClassId × FieldType) := [(ac 0, .int), (ac 1, .long), (ac 2, .boolean)]
def sxB : List (List Int32) := [[112, 108, 97, 99, 101, 115], [114, 111, 97, 100], [103, 111, 101, 115]]
abbrev nw1 : Cond := .methodLinkNest RX6 62 yX11_isIn RX11
abbrev nw2 : Cond := .methodLinkNest RX9 49 yX11_isIn RX11
abbrev nw3 : Cond := .methodLinkNest RX5 38 yX11_isIn RX11
/-- what lies outside the world and is only read: string constants, a static, links of nest mates -/
def SX (A : Nat → Prop) (sK _sV : Nat → Nat) (U : State) : Prop := vk_S 3 [6, 4, 4] sxB sK (fun i => sK (i + 3)) A U U.heap ∧ (vk_R RX7 52 "places" (sK 0) U ∧ vk_R RX7 64 "road" (sK 1) U ∧ vk_R RX7 69 "goes" (sK 2) U) ∧ va_Z "java/lang/String" "COMPACT_STRINGS" "Z" (.int 1) A U U.heap ∧ va_Nw nw1 U ∧ va_Nw nw2 U ∧ va_Nw nw3 U
theorem SX.same {A : Nat → Prop} {sK sV : Nat → Nat} {u U : State} (hv : u.vm = U.vm) (hh : U.heap = u.heap) (h : SX A sK sV u) : SX A sK sV U := by
  obtain ⟨h1, ⟨h2, h3, h4⟩, h5, h6, h7, h8⟩ := h
  have ha : u.vm.Alike U.vm := by rw [hv]; exact Vm.Alike.refl _
  refine ⟨by rw [hh]; exact vk_S.moved ha h1, ⟨vk_R.same hv.symm h2, vk_R.same hv.symm h3, vk_R.same hv.symm h4⟩, by rw [hh]; exact va_Z.moved ha h5, va_Nw.same rfl hv h6, va_Nw.same rfl hv h7, va_Nw.same rfl hv h8⟩
theorem SX.to {A B : Nat → Prop} {sK sV : Nat → Nat} {s U : State} {H : Heap} {locs : List Loc} (h : SX A sK sV s) (hS : va_S A s.heap H locs) (hU : U.heap = H) (hW : s.WarmedH U.vm) (hAB : ∀ q, B q → A q) : SX B sK sV U := by
  obtain ⟨h1, ⟨h2, h3, h4⟩, h5, h6, h7, h8⟩ := h
  refine ⟨by rw [hU]; exact ((vk_S.moved hW.alike h1).kept hS.2.1).narrow hAB, ⟨vk_R.warm hW h2, vk_R.warm hW h3, vk_R.warm hW h4⟩, by rw [hU]; exact ((va_Z.moved hW.alike h5).kept hS.2.1).narrow hAB, va_Nw.warmM hW h6, va_Nw.warmM hW h7, va_Nw.warmM hW h8⟩
def TB : List Cond := lw_tbl.filter goodWord
theorem tb_of {w : Cond} (i : Nat) (h : lw_tbl[i]? = some w) (g : goodWord w = true) : w ∈ TB := List.mem_filter.mpr ⟨List.mem_of_getElem? h, g⟩
theorem tb_good (w : Cond) (h : w ∈ TB) : (w.onTables && w.keeps) = true ∨ ∃ ty, w = .arrayClass ty := good_of_word (List.mem_filter.mp h).2
/-- a method: code, class, name, locals, return type, depth -/
abbrev MD : Type := ByteArray × String × MethodName × Nat × Option FieldType × Nat
abbrev zrm (d : Nat) : Room := { frames := d, cells := 0, slots := 0, locals := 64 * d }
abbrev ZX : Type := ZG × Program × Env × Room × State × MethodId × Array Value × List Frame × Method × Code × (Nat → Prop) × Nat × Nat × (State → Prop)
def CX : ZX → MD → Prop := fun ⟨⟨_, dC, dI, ad, ac, sK, sV⟩, p, _, R, s, m, args, _, meth, c, A, cells, slots, _⟩ ⟨cc, own, _, nL, ret, d⟩ =>
  p.tables.exec = Jvm.exec ∧ c.code = cc ∧ meth.sig.returnType = ret ∧ meth.locks = false ∧ c.maxLocals = nL ∧ s.vm.findClass own = some m.cls ∧ (∀ w ∈ TB, w.before args s = true) ∧ va_K (dC, dI) vwCl (zT ac) s ∧ zD A ad ∧ SX A sK sV s ∧ cells ≤ R.cells ∧ slots ≤ R.slots ∧ d ≤ R.frames ∧ 64 * d ≤ R.locals
def VB : ZX → MD → Nat → List AV → List AV → Mem → Prop := fun ⟨⟨l, dC, dI, ad, ac, sK, _⟩, p, e, R, s, m, args, below, meth, c, A, cells, slots, Fin⟩ ⟨_, _, _, nL, _, _⟩ pc ls st μ =>
  ∀ (H : Heap) (locs : List Loc) (la : Array Slot), va_P (dC, dI) vwCl (zw ad ac μ) H → va_S A s.heap H locs → lv_has la nL (lcl ad sK 0 ls) →
    W p l e R s m args below meth c H locs cells slots Fin (F0 m pc la (st.map (cv ad sK)))
def V (X : ZX) (M : MD) (pc : Nat) (ls st : List AV) (μ : Mem) : Prop := CX X M → VB X M pc ls st μ
/-- the world and all else at a method's start -/
def Wd : ZG → Mem → State → Prop := fun ⟨_, dC, dI, ad, ac, sK, sV⟩ μ U => va_P (dC, dI) vwCl (zw ad ac μ) U.heap ∧ va_K (dC, dI) vwCl (zT ac) U ∧ zD (wA ad) ad ∧ SX (wA ad) sK sV U
def Qe : ZG → (AV → Mem → Prop) → Array Value → State → Outcome → State → Prop := fun ⟨_, dC, dI, ad, ac, sK, _⟩ Q _ st oc t =>
  (∃ (v : AV) (μ : Mem), oc = .returned (ov ad sK v) ∧ Q v μ ∧ va_P (dC, dI) vwCl (zw ad ac μ) t.heap) ∧ va_F (wA ad) st t
/-- the contract: with these arguments and this memory the method returns, and Q holds of answer and memory -/
def SP : MD → List AV → Mem → (AV → Mem → Prop) → Prop := fun ⟨cc, _, y, nL, ret, d⟩ As μ Q =>
  ∀ (l : Launch) (dC : Nat → ClassId) (dI : Nat → Nat → Nat) (ad : Nat → Nat) (ac : Nat → ClassId) (sK sV : Nat → Nat),
    Met l y (Cond.code y cc nL ret :: TB) (zrm d) (fun v U => v = (As.map (cv ad sK)).toArray ∧ Wd (l, dC, dI, ad, ac, sK, sV) μ U) (Qe (l, dC, dI, ad, ac, sK, sV) Q) 0 0 (wA ad)
/-- a context made for a contract with Q -/
def isM : ZX → (AV → Mem → Prop) → Prop := fun ⟨G, _, _, _, s, _, args, below, _, _, A, cells, slots, Fin⟩ Q =>
  A = wA G.2.2.2.1 ∧ cells = 0 ∧ slots = 0 ∧ Fin = MQ below (Qe G Q) args s 0 0 (wA G.2.2.2.1)
theorem lcl_mem {ad sK : Nat → Nat} {q : Nat × Value} : ∀ (ls : List AV) (j : Nat), q ∈ lcl ad sK j ls ↔ ∃ (n : Nat) (v : AV), ls[n]? = some v ∧ isU v = false ∧ q = (j + n, cv ad sK v) := by
  intro ls
  induction ls with
  | nil => intro j; simp [lcl]
  | cons a t ih =>
    intro j
    have key : q ∈ lcl ad sK j (a :: t) ↔ (isU a = false ∧ q = (j, cv ad sK a)) ∨ q ∈ lcl ad sK (j + 1) t := by
      cases h : isU a <;> simp [lcl, h]
    rw [key, ih (j + 1)]
    constructor
    · rintro (⟨h1, h2⟩ | ⟨n, v, h1, h2, h3⟩)
      · exact ⟨0, a, rfl, h1, by rw [h2]; rfl⟩
      · exact ⟨n + 1, v, by simpa using h1, h2, by rw [h3]; congr 1; omega⟩
    · rintro ⟨n, v, h1, h2, h3⟩
      cases n with
      | zero => cases h1; exact Or.inl ⟨h2, h3⟩
      | succ n => exact Or.inr ⟨n, v, by simpa using h1, h2, by rw [h3]; congr 1; omega⟩
theorem lcl_get {ad sK : Nat → Nat} {la : Array Slot} {nL : Nat} {ls : List AV} (h : lv_has la nL (lcl ad sK 0 ls)) {i : Nat} {v : AV} (hv : ls[i]? = some v) (hu : isU v = false) : la[i]? = some (.val (cv ad sK v)) := by
  have := h.2.2 (i, cv ad sK v) ((lcl_mem ls 0).mpr ⟨i, v, hv, hu, by simp⟩)
  exact this
theorem cv_cat {ad sK : Nat → Nat} (v : AV) : (cv ad sK v).category = if isL v then 2 else 1 := by
  rcases v with x | x | x | x | x <;> rfl
/-- the listed locals behind a store -/
theorem lcl_set1 {ad sK : Nat → Nat} {la : Array Slot} {nL i : Nat} {ls : List AV} {v : AV} (hi : i < ls.length) (hp : ∀ j w, j + 1 = i → ls[j]? = some w → isL w = false)
    (h : lv_has la nL ((i, cv ad sK v) :: (lcl ad sK 0 ls).filter (fun q => !(q.1 == i) && !(q.1 + 1 == i && q.2.category == 2)))) : lv_has la nL (lcl ad sK 0 (ls.set i v)) := by
  refine ⟨h.1, h.2.1, fun q hq => h.2.2 q ?_⟩
  obtain ⟨n, w, h1, h2, h3⟩ := (lcl_mem _ 0).mp hq
  rw [Nat.zero_add] at h3
  by_cases e : n = i
  · subst e
    rw [List.getElem?_set_self hi] at h1
    cases h1
    rw [h3]; exact List.mem_cons_self
  · rw [List.getElem?_set_ne (Ne.symm e)] at h1
    refine List.mem_cons_of_mem _ (List.mem_filter.mpr ⟨(lcl_mem _ 0).mpr ⟨n, w, h1, h2, by rw [h3, Nat.zero_add]⟩, ?_⟩)
    rw [h3]
    have e1 : (n == i) = false := by simpa using e
    by_cases e2 : n + 1 = i
    · have := hp n w e2 h1
      simp [e1, cv_cat, this]
    · have e3 : (n + 1 == i) = false := by simpa using e2
      simp [e1, e3]
theorem lcl_set2 {ad sK : Nat → Nat} {la : Array Slot} {nL i : Nat} {ls : List AV} {v : AV} (hi : i + 1 < ls.length) (hp : ∀ j w, j + 1 = i → ls[j]? = some w → isL w = false)
    (h : lv_has la nL ((i, cv ad sK v) :: (lcl ad sK 0 ls).filter (fun q => !(q.1 == i) && (!(q.1 == i + 1) && !(q.1 + 1 == i && q.2.category == 2))))) : lv_has la nL (lcl ad sK 0 ((ls.set i v).set (i + 1) un)) := by
  refine ⟨h.1, h.2.1, fun q hq => h.2.2 q ?_⟩
  obtain ⟨n, w, h1, h2, h3⟩ := (lcl_mem _ 0).mp hq
  rw [Nat.zero_add] at h3
  by_cases e0 : n = i + 1
  · subst e0
    rw [List.getElem?_set_self (by simpa using hi)] at h1
    cases h1
    exact absurd h2 (by decide)
  · rw [List.getElem?_set_ne (Ne.symm e0)] at h1
    by_cases e : n = i
    · subst e
      rw [List.getElem?_set_self (by omega)] at h1
      cases h1
      rw [h3]; exact List.mem_cons_self
    · rw [List.getElem?_set_ne (Ne.symm e)] at h1
      refine List.mem_cons_of_mem _ (List.mem_filter.mpr ⟨(lcl_mem _ 0).mpr ⟨n, w, h1, h2, by rw [h3, Nat.zero_add]⟩, ?_⟩)
      rw [h3]
      have e1 : (n == i) = false := by simpa using e
      have e4 : (n == i + 1) = false := by simpa using e0
      by_cases e2 : n + 1 = i
      · have := hp n w e2 h1
        simp [e1, e4, cv_cat, this]
      · have e3 : (n + 1 == i) = false := by simpa using e2
        simp [e1, e3, e4]
/-- a cell of the world, by its place in the list -/
theorem zw_at {ad : Nat → Nat} {ac : Nat → ClassId} (μ : Mem) {k : Nat} (hk : k ∈ ZL) : ∃ q : Nat, ZL[q]? = some k ∧ (zw ad ac μ)[q]? = some (ad k, zc ad ac k (μ k)) := by
  obtain ⟨q, hq⟩ := List.getElem?_of_mem hk
  exact ⟨q, hq, by simp [zw, hq]⟩
theorem zw_set {ad : Nat → Nat} {ac : Nat → ClassId} {μ : Mem} {k q : Nat} (r : Nat → Int) (hq : ZL[q]? = some k) : (zw ad ac μ).set q (ad k, zc ad ac k r) = zw ad ac (mw μ k r) := by
  apply List.ext_getElem?
  intro i
  by_cases e : i = q
  · subst e
    have hl : i < (zw ad ac μ).length := by simpa [zw] using (List.getElem?_eq_some_iff.mp hq).1
    rw [List.getElem?_set_self hl]
    simp [zw, hq, mw_self]
  · rw [List.getElem?_set_ne (Ne.symm e)]
    cases hi : ZL[i]? with
    | none => simp [zw, hi]
    | some k' =>
      have hne : k' ≠ k := by
        intro h
        subst h
        exact e (va_nd_inj ZL ZL_nd i q k' hi hq)
      simp [zw, hi, mw_ne hne]
theorem zD.va {A : Nat → Prop} {ad : Nat → Nat} {ac : Nat → ClassId} {μ : Mem} (h : zD A ad) : va_D A (zw ad ac μ) := by
  have key : ∀ (i : Nat) (p : Nat × va_E), (zw ad ac μ)[i]? = some p → ∃ k, ZL[i]? = some k ∧ p.1 = ad k := by
    intro i p hp
    cases hi : ZL[i]? with
    | none => simp [zw, hi] at hp
    | some k =>
      simp [zw, hi] at hp
      exact ⟨k, rfl, by rw [← hp]⟩
  refine ⟨fun i j p q hp hq e => ?_, fun k q hq => ?_⟩
  · obtain ⟨k1, h1, h2⟩ := key i p hp
    obtain ⟨k2, h3, h4⟩ := key j q hq
    have e1 := h.1 k1 k2 (List.mem_of_getElem? h1) (List.mem_of_getElem? h3) (by rw [← h2, ← h4, e])
    subst e1
    exact va_nd_inj ZL ZL_nd i j k1 h1 h3
  · obtain ⟨k1, h1, h2⟩ := key k q hq
    rw [h2]; exact h.2 k1 (List.mem_of_getElem? h1)
theorem zc_obj {ad : Nat → Nat} {ac : Nat → ClassId} {k c : Nat} {r : Nat → Int} (h : zk k = .inl c) : zc ad ac k r = .inr (c, (zf c).mapIdx (fun j t => zv ad k r j t)) := by simp [zc, h]
theorem zc_arr {ad : Nat → Nat} {ac : Nat → ClassId} {k n t : Nat} {r : Nat → Int} (h : zk k = .inr (t, n)) (ht : t ≠ 1) : zc ad ac k r = .inl (ac t, n, .inl fun i => Int32.ofInt (r i)) := by simp [zc, h, ht]
theorem zc_arl {ad : Nat → Nat} {ac : Nat → ClassId} {k n : Nat} {r : Nat → Int} (h : zk k = .inr (1, n)) : zc ad ac k r = .inl (ac 1, n, .inr (.inl fun i => Int64.ofInt (r i))) := by simp [zc, h]
end
section
theorem zl_div {a b : Int} (ha : inL a) (hb : inL b) (h : inL (a.tdiv b)) : Int64.ofInt a / Int64.ofInt b = Int64.ofInt (a.tdiv b) := by
  rw [← Int64.toInt_inj, Int64.toInt_div, zl_to ha, zl_to hb, zl_to h]
  exact Int.bmod_eq_of_le (by have := h.1; omega) (by have := h.2; omega)
theorem V_iadd {X : ZX} {M : MD} {pc : Nat} {ls st : List AV} {μ : Mem} {a b : Int} (hd : decode M.1 pc = .ok (.iadd, 1))  (k : V X M (pc + 1) ls (vi (a + b) :: st) μ) : V X M pc ls (vi (b) :: vi (a) :: st) μ := by
  obtain ⟨⟨l, dC, dI, ad, ac, sK, sV⟩, p, e, R, s, m, args, below, meth, c, A, cells, slots, Fin⟩ := X
  obtain ⟨cc, own, y, nL, ret, d⟩ := M
  intro C H locs la hP hS hl
  have k := k C H locs la hP hS hl
  obtain ⟨hx, hb, hr, hlk, hml, hown, hts, hK, hD, hSX, hc1, hc2, hd1, hd2⟩ := C
  show W p l e R s m args below meth c H locs cells slots Fin (F0 m pc la (.int (Int32.ofInt (b)) :: .int (Int32.ofInt (a)) :: st.map (cv ad sK)))
  replace k : W p l e R s m args below meth c H locs cells slots Fin (F0 m (pc + 1) la (.int (Int32.ofInt (a + b)) :: st.map (cv ad sK))) := k
  refine lv_iadd hx hb hd ?_
  rw [zi_add]; exact k
theorem V_isub {X : ZX} {M : MD} {pc : Nat} {ls st : List AV} {μ : Mem} {a b : Int} (hd : decode M.1 pc = .ok (.isub, 1))  (k : V X M (pc + 1) ls (vi (a - b) :: st) μ) : V X M pc ls (vi (b) :: vi (a) :: st) μ := by
  obtain ⟨⟨l, dC, dI, ad, ac, sK, sV⟩, p, e, R, s, m, args, below, meth, c, A, cells, slots, Fin⟩ := X
  obtain ⟨cc, own, y, nL, ret, d⟩ := M
  intro C H locs la hP hS hl
  have k := k C H locs la hP hS hl
  obtain ⟨hx, hb, hr, hlk, hml, hown, hts, hK, hD, hSX, hc1, hc2, hd1, hd2⟩ := C
  show W p l e R s m args below meth c H locs cells slots Fin (F0 m pc la (.int (Int32.ofInt (b)) :: .int (Int32.ofInt (a)) :: st.map (cv ad sK)))
  replace k : W p l e R s m args below meth c H locs cells slots Fin (F0 m (pc + 1) la (.int (Int32.ofInt (a - b)) :: st.map (cv ad sK))) := k
  refine lv_isub hx hb hd ?_
  rw [zi_sub]; exact k
theorem V_imul {X : ZX} {M : MD} {pc : Nat} {ls st : List AV} {μ : Mem} {a b : Int} (hd : decode M.1 pc = .ok (.imul, 1))  (k : V X M (pc + 1) ls (vi (a * b) :: st) μ) : V X M pc ls (vi (b) :: vi (a) :: st) μ := by
  obtain ⟨⟨l, dC, dI, ad, ac, sK, sV⟩, p, e, R, s, m, args, below, meth, c, A, cells, slots, Fin⟩ := X
  obtain ⟨cc, own, y, nL, ret, d⟩ := M
  intro C H locs la hP hS hl
  have k := k C H locs la hP hS hl
  obtain ⟨hx, hb, hr, hlk, hml, hown, hts, hK, hD, hSX, hc1, hc2, hd1, hd2⟩ := C
  show W p l e R s m args below meth c H locs cells slots Fin (F0 m pc la (.int (Int32.ofInt (b)) :: .int (Int32.ofInt (a)) :: st.map (cv ad sK)))
  replace k : W p l e R s m args below meth c H locs cells slots Fin (F0 m (pc + 1) la (.int (Int32.ofInt (a * b)) :: st.map (cv ad sK))) := k
  refine lv_imul hx hb hd ?_
  rw [zi_mul]; exact k
theorem V_ladd {X : ZX} {M : MD} {pc : Nat} {ls st : List AV} {μ : Mem} {a b : Int} (hd : decode M.1 pc = .ok (.ladd, 1))  (k : V X M (pc + 1) ls (vl (a + b) :: st) μ) : V X M pc ls (vl (b) :: vl (a) :: st) μ := by
  obtain ⟨⟨l, dC, dI, ad, ac, sK, sV⟩, p, e, R, s, m, args, below, meth, c, A, cells, slots, Fin⟩ := X
  obtain ⟨cc, own, y, nL, ret, d⟩ := M
  intro C H locs la hP hS hl
  have k := k C H locs la hP hS hl
  obtain ⟨hx, hb, hr, hlk, hml, hown, hts, hK, hD, hSX, hc1, hc2, hd1, hd2⟩ := C
  show W p l e R s m args below meth c H locs cells slots Fin (F0 m pc la (.long (Int64.ofInt (b)) :: .long (Int64.ofInt (a)) :: st.map (cv ad sK)))
  replace k : W p l e R s m args below meth c H locs cells slots Fin (F0 m (pc + 1) la (.long (Int64.ofInt (a + b)) :: st.map (cv ad sK))) := k
  refine lv_ladd hx hb hd ?_
  rw [zl_add]; exact k
theorem V_lsub {X : ZX} {M : MD} {pc : Nat} {ls st : List AV} {μ : Mem} {a b : Int} (hd : decode M.1 pc = .ok (.lsub, 1))  (k : V X M (pc + 1) ls (vl (a - b) :: st) μ) : V X M pc ls (vl (b) :: vl (a) :: st) μ := by
  obtain ⟨⟨l, dC, dI, ad, ac, sK, sV⟩, p, e, R, s, m, args, below, meth, c, A, cells, slots, Fin⟩ := X
  obtain ⟨cc, own, y, nL, ret, d⟩ := M
  intro C H locs la hP hS hl
  have k := k C H locs la hP hS hl
  obtain ⟨hx, hb, hr, hlk, hml, hown, hts, hK, hD, hSX, hc1, hc2, hd1, hd2⟩ := C
  show W p l e R s m args below meth c H locs cells slots Fin (F0 m pc la (.long (Int64.ofInt (b)) :: .long (Int64.ofInt (a)) :: st.map (cv ad sK)))
  replace k : W p l e R s m args below meth c H locs cells slots Fin (F0 m (pc + 1) la (.long (Int64.ofInt (a - b)) :: st.map (cv ad sK))) := k
  refine lv_lsub hx hb hd ?_
  rw [zl_sub]; exact k
theorem V_lmul {X : ZX} {M : MD} {pc : Nat} {ls st : List AV} {μ : Mem} {a b : Int} (hd : decode M.1 pc = .ok (.lmul, 1))  (k : V X M (pc + 1) ls (vl (a * b) :: st) μ) : V X M pc ls (vl (b) :: vl (a) :: st) μ := by
  obtain ⟨⟨l, dC, dI, ad, ac, sK, sV⟩, p, e, R, s, m, args, below, meth, c, A, cells, slots, Fin⟩ := X
  obtain ⟨cc, own, y, nL, ret, d⟩ := M
  intro C H locs la hP hS hl
  have k := k C H locs la hP hS hl
  obtain ⟨hx, hb, hr, hlk, hml, hown, hts, hK, hD, hSX, hc1, hc2, hd1, hd2⟩ := C
  show W p l e R s m args below meth c H locs cells slots Fin (F0 m pc la (.long (Int64.ofInt (b)) :: .long (Int64.ofInt (a)) :: st.map (cv ad sK)))
  replace k : W p l e R s m args below meth c H locs cells slots Fin (F0 m (pc + 1) la (.long (Int64.ofInt (a * b)) :: st.map (cv ad sK))) := k
  refine lv_lmul hx hb hd ?_
  rw [zl_mul]; exact k
theorem V_iand {X : ZX} {M : MD} {pc : Nat} {ls st : List AV} {μ : Mem} {a b : Int} (hd : decode M.1 pc = .ok (.iand, 1))  (k : V X M (pc + 1) ls (vi (iand a b) :: st) μ) : V X M pc ls (vi (b) :: vi (a) :: st) μ := by
  obtain ⟨⟨l, dC, dI, ad, ac, sK, sV⟩, p, e, R, s, m, args, below, meth, c, A, cells, slots, Fin⟩ := X
  obtain ⟨cc, own, y, nL, ret, d⟩ := M
  intro C H locs la hP hS hl
  have k := k C H locs la hP hS hl
  obtain ⟨hx, hb, hr, hlk, hml, hown, hts, hK, hD, hSX, hc1, hc2, hd1, hd2⟩ := C
  show W p l e R s m args below meth c H locs cells slots Fin (F0 m pc la (.int (Int32.ofInt (b)) :: .int (Int32.ofInt (a)) :: st.map (cv ad sK)))
  replace k : W p l e R s m args below meth c H locs cells slots Fin (F0 m (pc + 1) la (.int (Int32.ofInt (iand a b)) :: st.map (cv ad sK))) := k
  refine lv_iand hx hb hd ?_
  unfold iand at k; rw [zi_of] at k; exact k
theorem V_ior {X : ZX} {M : MD} {pc : Nat} {ls st : List AV} {μ : Mem} {a b : Int} (hd : decode M.1 pc = .ok (.ior, 1))  (k : V X M (pc + 1) ls (vi (iorr a b) :: st) μ) : V X M pc ls (vi (b) :: vi (a) :: st) μ := by
  obtain ⟨⟨l, dC, dI, ad, ac, sK, sV⟩, p, e, R, s, m, args, below, meth, c, A, cells, slots, Fin⟩ := X
  obtain ⟨cc, own, y, nL, ret, d⟩ := M
  intro C H locs la hP hS hl
  have k := k C H locs la hP hS hl
  obtain ⟨hx, hb, hr, hlk, hml, hown, hts, hK, hD, hSX, hc1, hc2, hd1, hd2⟩ := C
  show W p l e R s m args below meth c H locs cells slots Fin (F0 m pc la (.int (Int32.ofInt (b)) :: .int (Int32.ofInt (a)) :: st.map (cv ad sK)))
  replace k : W p l e R s m args below meth c H locs cells slots Fin (F0 m (pc + 1) la (.int (Int32.ofInt (iorr a b)) :: st.map (cv ad sK))) := k
  refine lv_ior hx hb hd ?_
  unfold iorr at k; rw [zi_of] at k; exact k
theorem V_ixor {X : ZX} {M : MD} {pc : Nat} {ls st : List AV} {μ : Mem} {a b : Int} (hd : decode M.1 pc = .ok (.ixor, 1))  (k : V X M (pc + 1) ls (vi (ixor a b) :: st) μ) : V X M pc ls (vi (b) :: vi (a) :: st) μ := by
  obtain ⟨⟨l, dC, dI, ad, ac, sK, sV⟩, p, e, R, s, m, args, below, meth, c, A, cells, slots, Fin⟩ := X
  obtain ⟨cc, own, y, nL, ret, d⟩ := M
  intro C H locs la hP hS hl
  have k := k C H locs la hP hS hl
  obtain ⟨hx, hb, hr, hlk, hml, hown, hts, hK, hD, hSX, hc1, hc2, hd1, hd2⟩ := C
  show W p l e R s m args below meth c H locs cells slots Fin (F0 m pc la (.int (Int32.ofInt (b)) :: .int (Int32.ofInt (a)) :: st.map (cv ad sK)))
  replace k : W p l e R s m args below meth c H locs cells slots Fin (F0 m (pc + 1) la (.int (Int32.ofInt (ixor a b)) :: st.map (cv ad sK))) := k
  refine lv_ixor hx hb hd ?_
  unfold ixor at k; rw [zi_of] at k; exact k
theorem V_ishl {X : ZX} {M : MD} {pc : Nat} {ls st : List AV} {μ : Mem} {a b : Int} (hd : decode M.1 pc = .ok (.ishl, 1))  (k : V X M (pc + 1) ls (vi (ishl a b) :: st) μ) : V X M pc ls (vi (b) :: vi (a) :: st) μ := by
  obtain ⟨⟨l, dC, dI, ad, ac, sK, sV⟩, p, e, R, s, m, args, below, meth, c, A, cells, slots, Fin⟩ := X
  obtain ⟨cc, own, y, nL, ret, d⟩ := M
  intro C H locs la hP hS hl
  have k := k C H locs la hP hS hl
  obtain ⟨hx, hb, hr, hlk, hml, hown, hts, hK, hD, hSX, hc1, hc2, hd1, hd2⟩ := C
  show W p l e R s m args below meth c H locs cells slots Fin (F0 m pc la (.int (Int32.ofInt (b)) :: .int (Int32.ofInt (a)) :: st.map (cv ad sK)))
  replace k : W p l e R s m args below meth c H locs cells slots Fin (F0 m (pc + 1) la (.int (Int32.ofInt (ishl a b)) :: st.map (cv ad sK))) := k
  refine lv_ishl hx hb hd ?_
  unfold ishl at k; rw [zi_of] at k; exact k
theorem V_ishr {X : ZX} {M : MD} {pc : Nat} {ls st : List AV} {μ : Mem} {a b : Int} (hd : decode M.1 pc = .ok (.ishr, 1))  (k : V X M (pc + 1) ls (vi (ishr a b) :: st) μ) : V X M pc ls (vi (b) :: vi (a) :: st) μ := by
  obtain ⟨⟨l, dC, dI, ad, ac, sK, sV⟩, p, e, R, s, m, args, below, meth, c, A, cells, slots, Fin⟩ := X
  obtain ⟨cc, own, y, nL, ret, d⟩ := M
  intro C H locs la hP hS hl
  have k := k C H locs la hP hS hl
  obtain ⟨hx, hb, hr, hlk, hml, hown, hts, hK, hD, hSX, hc1, hc2, hd1, hd2⟩ := C
  show W p l e R s m args below meth c H locs cells slots Fin (F0 m pc la (.int (Int32.ofInt (b)) :: .int (Int32.ofInt (a)) :: st.map (cv ad sK)))
  replace k : W p l e R s m args below meth c H locs cells slots Fin (F0 m (pc + 1) la (.int (Int32.ofInt (ishr a b)) :: st.map (cv ad sK))) := k
  refine lv_ishr hx hb hd ?_
  unfold ishr at k; rw [zi_of] at k; exact k
theorem V_land {X : ZX} {M : MD} {pc : Nat} {ls st : List AV} {μ : Mem} {a b : Int} (hd : decode M.1 pc = .ok (.land, 1))  (k : V X M (pc + 1) ls (vl (landd a b) :: st) μ) : V X M pc ls (vl (b) :: vl (a) :: st) μ := by
  obtain ⟨⟨l, dC, dI, ad, ac, sK, sV⟩, p, e, R, s, m, args, below, meth, c, A, cells, slots, Fin⟩ := X
  obtain ⟨cc, own, y, nL, ret, d⟩ := M
  intro C H locs la hP hS hl
  have k := k C H locs la hP hS hl
  obtain ⟨hx, hb, hr, hlk, hml, hown, hts, hK, hD, hSX, hc1, hc2, hd1, hd2⟩ := C
  show W p l e R s m args below meth c H locs cells slots Fin (F0 m pc la (.long (Int64.ofInt (b)) :: .long (Int64.ofInt (a)) :: st.map (cv ad sK)))
  replace k : W p l e R s m args below meth c H locs cells slots Fin (F0 m (pc + 1) la (.long (Int64.ofInt (landd a b)) :: st.map (cv ad sK))) := k
  refine lv_land hx hb hd ?_
  unfold landd at k; rw [zl_of] at k; exact k
theorem V_lor {X : ZX} {M : MD} {pc : Nat} {ls st : List AV} {μ : Mem} {a b : Int} (hd : decode M.1 pc = .ok (.lor, 1))  (k : V X M (pc + 1) ls (vl (lorr a b) :: st) μ) : V X M pc ls (vl (b) :: vl (a) :: st) μ := by
  obtain ⟨⟨l, dC, dI, ad, ac, sK, sV⟩, p, e, R, s, m, args, below, meth, c, A, cells, slots, Fin⟩ := X
  obtain ⟨cc, own, y, nL, ret, d⟩ := M
  intro C H locs la hP hS hl
  have k := k C H locs la hP hS hl
  obtain ⟨hx, hb, hr, hlk, hml, hown, hts, hK, hD, hSX, hc1, hc2, hd1, hd2⟩ := C
  show W p l e R s m args below meth c H locs cells slots Fin (F0 m pc la (.long (Int64.ofInt (b)) :: .long (Int64.ofInt (a)) :: st.map (cv ad sK)))
  replace k : W p l e R s m args below meth c H locs cells slots Fin (F0 m (pc + 1) la (.long (Int64.ofInt (lorr a b)) :: st.map (cv ad sK))) := k
  refine lv_lor hx hb hd ?_
  unfold lorr at k; rw [zl_of] at k; exact k
theorem V_lshl {X : ZX} {M : MD} {pc : Nat} {ls st : List AV} {μ : Mem} {a b : Int} (hd : decode M.1 pc = .ok (.lshl, 1))  (k : V X M (pc + 1) ls (vl (lshl a b) :: st) μ) : V X M pc ls (vi (b) :: vl (a) :: st) μ := by
  obtain ⟨⟨l, dC, dI, ad, ac, sK, sV⟩, p, e, R, s, m, args, below, meth, c, A, cells, slots, Fin⟩ := X
  obtain ⟨cc, own, y, nL, ret, d⟩ := M
  intro C H locs la hP hS hl
  have k := k C H locs la hP hS hl
  obtain ⟨hx, hb, hr, hlk, hml, hown, hts, hK, hD, hSX, hc1, hc2, hd1, hd2⟩ := C
  show W p l e R s m args below meth c H locs cells slots Fin (F0 m pc la (.int (Int32.ofInt (b)) :: .long (Int64.ofInt (a)) :: st.map (cv ad sK)))
  replace k : W p l e R s m args below meth c H locs cells slots Fin (F0 m (pc + 1) la (.long (Int64.ofInt (lshl a b)) :: st.map (cv ad sK))) := k
  refine lv_lshl hx hb hd rfl ?_
  unfold lshl at k; rw [zl_of] at k; exact k
theorem V_lshr {X : ZX} {M : MD} {pc : Nat} {ls st : List AV} {μ : Mem} {a b : Int} (hd : decode M.1 pc = .ok (.lshr, 1))  (k : V X M (pc + 1) ls (vl (lshr a b) :: st) μ) : V X M pc ls (vi (b) :: vl (a) :: st) μ := by
  obtain ⟨⟨l, dC, dI, ad, ac, sK, sV⟩, p, e, R, s, m, args, below, meth, c, A, cells, slots, Fin⟩ := X
  obtain ⟨cc, own, y, nL, ret, d⟩ := M
  intro C H locs la hP hS hl
  have k := k C H locs la hP hS hl
  obtain ⟨hx, hb, hr, hlk, hml, hown, hts, hK, hD, hSX, hc1, hc2, hd1, hd2⟩ := C
  show W p l e R s m args below meth c H locs cells slots Fin (F0 m pc la (.int (Int32.ofInt (b)) :: .long (Int64.ofInt (a)) :: st.map (cv ad sK)))
  replace k : W p l e R s m args below meth c H locs cells slots Fin (F0 m (pc + 1) la (.long (Int64.ofInt (lshr a b)) :: st.map (cv ad sK))) := k
  refine lv_lshr hx hb hd rfl ?_
  unfold lshr at k; rw [zl_of] at k; exact k
def iushr (a b : Int) : Int := ((Int32.ofInt a).toUInt32 >>> ((Int32.ofInt b).toUInt32 &&& Int32.toUInt32 31)).toInt32.toInt
def lushr (a b : Int) : Int := ((Int64.ofInt a).toUInt64 >>> ((Int32.ofInt b).toInt64.toUInt64 &&& Int64.toUInt64 63)).toInt64.toInt
theorem V_iushr {X : ZX} {M : MD} {pc : Nat} {ls st : List AV} {μ : Mem} {a b : Int} (hd : decode M.1 pc = .ok (.iushr, 1))  (k : V X M (pc + 1) ls (vi (iushr a b) :: st) μ) : V X M pc ls (vi (b) :: vi (a) :: st) μ := by
  obtain ⟨⟨l, dC, dI, ad, ac, sK, sV⟩, p, e, R, s, m, args, below, meth, c, A, cells, slots, Fin⟩ := X
  obtain ⟨cc, own, y, nL, ret, d⟩ := M
  intro C H locs la hP hS hl
  have k := k C H locs la hP hS hl
  obtain ⟨hx, hb, hr, hlk, hml, hown, hts, hK, hD, hSX, hc1, hc2, hd1, hd2⟩ := C
  show W p l e R s m args below meth c H locs cells slots Fin (F0 m pc la (.int (Int32.ofInt (b)) :: .int (Int32.ofInt (a)) :: st.map (cv ad sK)))
  replace k : W p l e R s m args below meth c H locs cells slots Fin (F0 m (pc + 1) la (.int (Int32.ofInt (iushr a b)) :: st.map (cv ad sK))) := k
  refine lv_iushr hx hb hd rfl ?_
  unfold iushr at k; rw [zi_of] at k; exact k
theorem V_lushr {X : ZX} {M : MD} {pc : Nat} {ls st : List AV} {μ : Mem} {a b : Int} (hd : decode M.1 pc = .ok (.lushr, 1))  (k : V X M (pc + 1) ls (vl (lushr a b) :: st) μ) : V X M pc ls (vi (b) :: vl (a) :: st) μ := by
  obtain ⟨⟨l, dC, dI, ad, ac, sK, sV⟩, p, e, R, s, m, args, below, meth, c, A, cells, slots, Fin⟩ := X
  obtain ⟨cc, own, y, nL, ret, d⟩ := M
  intro C H locs la hP hS hl
  have k := k C H locs la hP hS hl
  obtain ⟨hx, hb, hr, hlk, hml, hown, hts, hK, hD, hSX, hc1, hc2, hd1, hd2⟩ := C
  show W p l e R s m args below meth c H locs cells slots Fin (F0 m pc la (.int (Int32.ofInt (b)) :: .long (Int64.ofInt (a)) :: st.map (cv ad sK)))
  replace k : W p l e R s m args below meth c H locs cells slots Fin (F0 m (pc + 1) la (.long (Int64.ofInt (lushr a b)) :: st.map (cv ad sK))) := k
  refine lv_lushr hx hb hd rfl ?_
  unfold lushr at k; rw [zl_of] at k; exact k
theorem V_idiv {X : ZX} {M : MD} {pc : Nat} {ls st : List AV} {μ : Mem} {a b : Int} (hd : decode M.1 pc = .ok (.idiv, 1)) (ha : inR a) (hb0 : inR b) (h0 : b ≠ 0) (hq : inR (a.tdiv b)) (k : V X M (pc + 1) ls (vi (a.tdiv b) :: st) μ) : V X M pc ls (vi (b) :: vi (a) :: st) μ := by
  obtain ⟨⟨l, dC, dI, ad, ac, sK, sV⟩, p, e, R, s, m, args, below, meth, c, A, cells, slots, Fin⟩ := X
  obtain ⟨cc, own, y, nL, ret, d⟩ := M
  intro C H locs la hP hS hl
  have k := k C H locs la hP hS hl
  obtain ⟨hx, hb, hr, hlk, hml, hown, hts, hK, hD, hSX, hc1, hc2, hd1, hd2⟩ := C
  show W p l e R s m args below meth c H locs cells slots Fin (F0 m pc la (.int (Int32.ofInt (b)) :: .int (Int32.ofInt (a)) :: st.map (cv ad sK)))
  replace k : W p l e R s m args below meth c H locs cells slots Fin (F0 m (pc + 1) la (.int (Int32.ofInt (a.tdiv b)) :: st.map (cv ad sK))) := k
  refine lv_idiv hx hb hd (fun h => h0 ((zi_eq hb0 inR_0).mp (by rw [h]; exact zi_0))) ?_
  rw [zi_div ha hb0 hq]; exact k
theorem V_irem {X : ZX} {M : MD} {pc : Nat} {ls st : List AV} {μ : Mem} {a b : Int} (hd : decode M.1 pc = .ok (.irem, 1)) (ha : inR a) (hb0 : inR b) (h0 : b ≠ 0) (hq : inR (a.tdiv b)) (k : V X M (pc + 1) ls (vi (a.tmod b) :: st) μ) : V X M pc ls (vi (b) :: vi (a) :: st) μ := by
  obtain ⟨⟨l, dC, dI, ad, ac, sK, sV⟩, p, e, R, s, m, args, below, meth, c, A, cells, slots, Fin⟩ := X
  obtain ⟨cc, own, y, nL, ret, d⟩ := M
  intro C H locs la hP hS hl
  have k := k C H locs la hP hS hl
  obtain ⟨hx, hb, hr, hlk, hml, hown, hts, hK, hD, hSX, hc1, hc2, hd1, hd2⟩ := C
  show W p l e R s m args below meth c H locs cells slots Fin (F0 m pc la (.int (Int32.ofInt (b)) :: .int (Int32.ofInt (a)) :: st.map (cv ad sK)))
  replace k : W p l e R s m args below meth c H locs cells slots Fin (F0 m (pc + 1) la (.int (Int32.ofInt (a.tmod b)) :: st.map (cv ad sK))) := k
  refine lv_irem hx hb hd (fun h => h0 ((zi_eq hb0 inR_0).mp (by rw [h]; exact zi_0))) ?_
  rw [zi_div ha hb0 hq, zi_mul, zi_sub, show a - a.tdiv b * b = a.tmod b by rw [Int.tmod_def, Int.mul_comm]]; exact k
theorem V_ldiv {X : ZX} {M : MD} {pc : Nat} {ls st : List AV} {μ : Mem} {a b : Int} (hd : decode M.1 pc = .ok (.ldiv, 1)) (ha : inL a) (hb0 : inL b) (h0 : b ≠ 0) (hq : inL (a.tdiv b)) (k : V X M (pc + 1) ls (vl (a.tdiv b) :: st) μ) : V X M pc ls (vl (b) :: vl (a) :: st) μ := by
  obtain ⟨⟨l, dC, dI, ad, ac, sK, sV⟩, p, e, R, s, m, args, below, meth, c, A, cells, slots, Fin⟩ := X
  obtain ⟨cc, own, y, nL, ret, d⟩ := M
  intro C H locs la hP hS hl
  have k := k C H locs la hP hS hl
  obtain ⟨hx, hb, hr, hlk, hml, hown, hts, hK, hD, hSX, hc1, hc2, hd1, hd2⟩ := C
  show W p l e R s m args below meth c H locs cells slots Fin (F0 m pc la (.long (Int64.ofInt (b)) :: .long (Int64.ofInt (a)) :: st.map (cv ad sK)))
  replace k : W p l e R s m args below meth c H locs cells slots Fin (F0 m (pc + 1) la (.long (Int64.ofInt (a.tdiv b)) :: st.map (cv ad sK))) := k
  refine lv_ldiv hx hb hd (fun h => h0 ((zl_eq hb0 ⟨by omega, by omega⟩).mp (by rw [h]; exact zl_0))) ?_
  rw [zl_div ha hb0 hq]; exact k
theorem V_lrem {X : ZX} {M : MD} {pc : Nat} {ls st : List AV} {μ : Mem} {a b : Int} (hd : decode M.1 pc = .ok (.lrem, 1)) (ha : inL a) (hb0 : inL b) (h0 : b ≠ 0) (hq : inL (a.tdiv b)) (k : V X M (pc + 1) ls (vl (a.tmod b) :: st) μ) : V X M pc ls (vl (b) :: vl (a) :: st) μ := by
  obtain ⟨⟨l, dC, dI, ad, ac, sK, sV⟩, p, e, R, s, m, args, below, meth, c, A, cells, slots, Fin⟩ := X
  obtain ⟨cc, own, y, nL, ret, d⟩ := M
  intro C H locs la hP hS hl
  have k := k C H locs la hP hS hl
  obtain ⟨hx, hb, hr, hlk, hml, hown, hts, hK, hD, hSX, hc1, hc2, hd1, hd2⟩ := C
  show W p l e R s m args below meth c H locs cells slots Fin (F0 m pc la (.long (Int64.ofInt (b)) :: .long (Int64.ofInt (a)) :: st.map (cv ad sK)))
  replace k : W p l e R s m args below meth c H locs cells slots Fin (F0 m (pc + 1) la (.long (Int64.ofInt (a.tmod b)) :: st.map (cv ad sK))) := k
  refine lv_lrem hx hb hd (fun h => h0 ((zl_eq hb0 ⟨by omega, by omega⟩).mp (by rw [h]; exact zl_0))) ?_
  rw [zl_div ha hb0 hq, zl_mul, zl_sub, show a - a.tdiv b * b = a.tmod b by rw [Int.tmod_def, Int.mul_comm]]; exact k
theorem V_i2l {X : ZX} {M : MD} {pc : Nat} {ls st : List AV} {μ : Mem} {a : Int} (hd : decode M.1 pc = .ok (.i2l, 1)) (ha : inR a) (k : V X M (pc + 1) ls (vl (a) :: st) μ) : V X M pc ls (vi (a) :: st) μ := by
  obtain ⟨⟨l, dC, dI, ad, ac, sK, sV⟩, p, e, R, s, m, args, below, meth, c, A, cells, slots, Fin⟩ := X
  obtain ⟨cc, own, y, nL, ret, d⟩ := M
  intro C H locs la hP hS hl
  have k := k C H locs la hP hS hl
  obtain ⟨hx, hb, hr, hlk, hml, hown, hts, hK, hD, hSX, hc1, hc2, hd1, hd2⟩ := C
  show W p l e R s m args below meth c H locs cells slots Fin (F0 m pc la (.int (Int32.ofInt (a)) :: st.map (cv ad sK)))
  replace k : W p l e R s m args below meth c H locs cells slots Fin (F0 m (pc + 1) la (.long (Int64.ofInt (a)) :: st.map (cv ad sK))) := k
  refine lv_i2l hx hb hd (zi_i2l ha) ?_
  exact k
theorem V_l2i {X : ZX} {M : MD} {pc : Nat} {ls st : List AV} {μ : Mem} {a : Int} (hd : decode M.1 pc = .ok (.l2i, 1))  (k : V X M (pc + 1) ls (vi (l2i a) :: st) μ) : V X M pc ls (vl (a) :: st) μ := by
  obtain ⟨⟨l, dC, dI, ad, ac, sK, sV⟩, p, e, R, s, m, args, below, meth, c, A, cells, slots, Fin⟩ := X
  obtain ⟨cc, own, y, nL, ret, d⟩ := M
  intro C H locs la hP hS hl
  have k := k C H locs la hP hS hl
  obtain ⟨hx, hb, hr, hlk, hml, hown, hts, hK, hD, hSX, hc1, hc2, hd1, hd2⟩ := C
  show W p l e R s m args below meth c H locs cells slots Fin (F0 m pc la (.long (Int64.ofInt (a)) :: st.map (cv ad sK)))
  replace k : W p l e R s m args below meth c H locs cells slots Fin (F0 m (pc + 1) la (.int (Int32.ofInt (l2i a)) :: st.map (cv ad sK))) := k
  refine lv_l2i hx hb hd rfl ?_
  unfold l2i at k; rw [zi_of] at k; exact k
def lcm (a b : Int) : Int := if a < b then -1 else if a = b then 0 else 1
theorem zl_cmp {a b : Int} (ha : inL a) (hb : inL b) : lg_cmp (Int64.ofInt a) (Int64.ofInt b) = Int32.ofInt (lcm a b) := by
  have h1 : Int64.ofInt b < Int64.ofInt a ↔ b < a := by rw [Int64.lt_iff_toInt_lt, zl_to ha, zl_to hb]
  have h2 := zl_eq ha hb
  unfold lg_cmp lcm
  simp only [gt_iff_lt, h1, h2]
  by_cases c1 : a < b
  · rw [if_neg (by omega), if_neg (by omega), if_pos c1]; decide
  · by_cases c2 : a = b
    · rw [if_neg (by omega), if_pos c2, if_neg c1, if_pos c2]; decide
    · rw [if_pos (by omega), if_neg c1, if_neg c2]; decide
theorem V_lcmp {X : ZX} {M : MD} {pc : Nat} {ls st : List AV} {μ : Mem} {a b : Int} (hd : decode M.1 pc = .ok (.lcmp, 1)) (ha : inL a) (hb0 : inL b) (k : V X M (pc + 1) ls (vi (lcm a b) :: st) μ) : V X M pc ls (vl (b) :: vl (a) :: st) μ := by
  obtain ⟨⟨l, dC, dI, ad, ac, sK, sV⟩, p, e, R, s, m, args, below, meth, c, A, cells, slots, Fin⟩ := X
  obtain ⟨cc, own, y, nL, ret, d⟩ := M
  intro C H locs la hP hS hl
  have k := k C H locs la hP hS hl
  obtain ⟨hx, hb, hr, hlk, hml, hown, hts, hK, hD, hSX, hc1, hc2, hd1, hd2⟩ := C
  show W p l e R s m args below meth c H locs cells slots Fin (F0 m pc la (.long (Int64.ofInt (b)) :: .long (Int64.ofInt (a)) :: st.map (cv ad sK)))
  replace k : W p l e R s m args below meth c H locs cells slots Fin (F0 m (pc + 1) la (.int (Int32.ofInt (lcm a b)) :: st.map (cv ad sK))) := k
  refine W.lcmp hx hb hd ?_
  rw [zl_cmp ha hb0]; exact k
theorem V_iconst {X : ZX} {M : MD} {pc : Nat} {ls st : List AV} {μ : Mem} {n : Int} (hd : decode M.1 pc = .ok (.iconst n, 1))  (k : V X M (pc + 1) ls (vi (n) :: st) μ) : V X M pc ls (st) μ := by
  obtain ⟨⟨l, dC, dI, ad, ac, sK, sV⟩, p, e, R, s, m, args, below, meth, c, A, cells, slots, Fin⟩ := X
  obtain ⟨cc, own, y, nL, ret, d⟩ := M
  intro C H locs la hP hS hl
  have k := k C H locs la hP hS hl
  obtain ⟨hx, hb, hr, hlk, hml, hown, hts, hK, hD, hSX, hc1, hc2, hd1, hd2⟩ := C
  show W p l e R s m args below meth c H locs cells slots Fin (F0 m pc la (st.map (cv ad sK)))
  replace k : W p l e R s m args below meth c H locs cells slots Fin (F0 m (pc + 1) la (.int (Int32.ofInt (n)) :: st.map (cv ad sK))) := k
  refine lv_iconst hx hb hd rfl ?_
  exact k
theorem V_bipush {X : ZX} {M : MD} {pc : Nat} {ls st : List AV} {μ : Mem} {n : Int} (hd : decode M.1 pc = .ok (.bipush n, 2)) (hv : (Int8.ofInt n).toInt32 = Int32.ofInt n) (k : V X M (pc + 2) ls (vi (n) :: st) μ) : V X M pc ls (st) μ := by
  obtain ⟨⟨l, dC, dI, ad, ac, sK, sV⟩, p, e, R, s, m, args, below, meth, c, A, cells, slots, Fin⟩ := X
  obtain ⟨cc, own, y, nL, ret, d⟩ := M
  intro C H locs la hP hS hl
  have k := k C H locs la hP hS hl
  obtain ⟨hx, hb, hr, hlk, hml, hown, hts, hK, hD, hSX, hc1, hc2, hd1, hd2⟩ := C
  show W p l e R s m args below meth c H locs cells slots Fin (F0 m pc la (st.map (cv ad sK)))
  replace k : W p l e R s m args below meth c H locs cells slots Fin (F0 m (pc + 2) la (.int (Int32.ofInt (n)) :: st.map (cv ad sK))) := k
  refine lv_bipush hx hb hd hv ?_
  exact k
theorem V_sipush {X : ZX} {M : MD} {pc : Nat} {ls st : List AV} {μ : Mem} {n : Int} (hd : decode M.1 pc = .ok (.sipush n, 3)) (hv : (Int16.ofInt n).toInt32 = Int32.ofInt n) (k : V X M (pc + 3) ls (vi (n) :: st) μ) : V X M pc ls (st) μ := by
  obtain ⟨⟨l, dC, dI, ad, ac, sK, sV⟩, p, e, R, s, m, args, below, meth, c, A, cells, slots, Fin⟩ := X
  obtain ⟨cc, own, y, nL, ret, d⟩ := M
  intro C H locs la hP hS hl
  have k := k C H locs la hP hS hl
  obtain ⟨hx, hb, hr, hlk, hml, hown, hts, hK, hD, hSX, hc1, hc2, hd1, hd2⟩ := C
  show W p l e R s m args below meth c H locs cells slots Fin (F0 m pc la (st.map (cv ad sK)))
  replace k : W p l e R s m args below meth c H locs cells slots Fin (F0 m (pc + 3) la (.int (Int32.ofInt (n)) :: st.map (cv ad sK))) := k
  refine lv_sipush hx hb hd hv ?_
  exact k
theorem V_lconst0 {X : ZX} {M : MD} {pc : Nat} {ls st : List AV} {μ : Mem}  (hd : decode M.1 pc = .ok (.lconst 0, 1))  (k : V X M (pc + 1) ls (vl (0) :: st) μ) : V X M pc ls (st) μ := by
  obtain ⟨⟨l, dC, dI, ad, ac, sK, sV⟩, p, e, R, s, m, args, below, meth, c, A, cells, slots, Fin⟩ := X
  obtain ⟨cc, own, y, nL, ret, d⟩ := M
  intro C H locs la hP hS hl
  have k := k C H locs la hP hS hl
  obtain ⟨hx, hb, hr, hlk, hml, hown, hts, hK, hD, hSX, hc1, hc2, hd1, hd2⟩ := C
  show W p l e R s m args below meth c H locs cells slots Fin (F0 m pc la (st.map (cv ad sK)))
  replace k : W p l e R s m args below meth c H locs cells slots Fin (F0 m (pc + 1) la (.long (Int64.ofInt (0)) :: st.map (cv ad sK))) := k
  refine lv_lconst hx hb hd (v := Int64.ofInt 0) (by decide) ?_
  exact k
theorem V_lconst1 {X : ZX} {M : MD} {pc : Nat} {ls st : List AV} {μ : Mem}  (hd : decode M.1 pc = .ok (.lconst 1, 1))  (k : V X M (pc + 1) ls (vl (1) :: st) μ) : V X M pc ls (st) μ := by
  obtain ⟨⟨l, dC, dI, ad, ac, sK, sV⟩, p, e, R, s, m, args, below, meth, c, A, cells, slots, Fin⟩ := X
  obtain ⟨cc, own, y, nL, ret, d⟩ := M
  intro C H locs la hP hS hl
  have k := k C H locs la hP hS hl
  obtain ⟨hx, hb, hr, hlk, hml, hown, hts, hK, hD, hSX, hc1, hc2, hd1, hd2⟩ := C
  show W p l e R s m args below meth c H locs cells slots Fin (F0 m pc la (st.map (cv ad sK)))
  replace k : W p l e R s m args below meth c H locs cells slots Fin (F0 m (pc + 1) la (.long (Int64.ofInt (1)) :: st.map (cv ad sK))) := k
  refine lv_lconst hx hb hd (v := Int64.ofInt 1) (by decide) ?_
  exact k
theorem V_ldc {X : ZX} {M : MD} {pc : Nat} {ls st : List AV} {μ : Mem} {i : Nat} {n : Int} {v : Int32} (hd : decode M.1 pc = .ok (.ldc i, 2)) (hw : Cond.constant M.2.1 i v ∈ TB) (hv : v = Int32.ofInt n) (k : V X M (pc + 2) ls (vi (n) :: st) μ) : V X M pc ls (st) μ := by
  obtain ⟨⟨l, dC, dI, ad, ac, sK, sV⟩, p, e, R, s, m, args, below, meth, c, A, cells, slots, Fin⟩ := X
  obtain ⟨cc, own, y, nL, ret, d⟩ := M
  intro C H locs la hP hS hl
  have k := k C H locs la hP hS hl
  obtain ⟨hx, hb, hr, hlk, hml, hown, hts, hK, hD, hSX, hc1, hc2, hd1, hd2⟩ := C
  show W p l e R s m args below meth c H locs cells slots Fin (F0 m pc la (st.map (cv ad sK)))
  replace k : W p l e R s m args below meth c H locs cells slots Fin (F0 m (pc + 2) la (.int (Int32.ofInt (n)) :: st.map (cv ad sK))) := k
  refine lv_ldc hx hb hown (hts _ hw) hd ?_
  rw [hv]; exact k
theorem V_ldcw {X : ZX} {M : MD} {pc : Nat} {ls st : List AV} {μ : Mem} {i : Nat} {n : Int} {v : Int32} (hd : decode M.1 pc = .ok (.ldc_w i, 3)) (hw : Cond.constant M.2.1 i v ∈ TB) (hv : v = Int32.ofInt n) (k : V X M (pc + 3) ls (vi (n) :: st) μ) : V X M pc ls (st) μ := by
  obtain ⟨⟨l, dC, dI, ad, ac, sK, sV⟩, p, e, R, s, m, args, below, meth, c, A, cells, slots, Fin⟩ := X
  obtain ⟨cc, own, y, nL, ret, d⟩ := M
  intro C H locs la hP hS hl
  have k := k C H locs la hP hS hl
  obtain ⟨hx, hb, hr, hlk, hml, hown, hts, hK, hD, hSX, hc1, hc2, hd1, hd2⟩ := C
  show W p l e R s m args below meth c H locs cells slots Fin (F0 m pc la (st.map (cv ad sK)))
  replace k : W p l e R s m args below meth c H locs cells slots Fin (F0 m (pc + 3) la (.int (Int32.ofInt (n)) :: st.map (cv ad sK))) := k
  refine lv_ldcw hx hb hown (hts _ hw) hd ?_
  rw [hv]; exact k
theorem V_ldc2 {X : ZX} {M : MD} {pc : Nat} {ls st : List AV} {μ : Mem} {i : Nat} {n : Int} {v : Int64} (hd : decode M.1 pc = .ok (.ldc2_w i, 3)) (hw : Cond.constantLong M.2.1 i v ∈ TB) (hv : v = Int64.ofInt n) (k : V X M (pc + 3) ls (vl (n) :: st) μ) : V X M pc ls (st) μ := by
  obtain ⟨⟨l, dC, dI, ad, ac, sK, sV⟩, p, e, R, s, m, args, below, meth, c, A, cells, slots, Fin⟩ := X
  obtain ⟨cc, own, y, nL, ret, d⟩ := M
  intro C H locs la hP hS hl
  have k := k C H locs la hP hS hl
  obtain ⟨hx, hb, hr, hlk, hml, hown, hts, hK, hD, hSX, hc1, hc2, hd1, hd2⟩ := C
  show W p l e R s m args below meth c H locs cells slots Fin (F0 m pc la (st.map (cv ad sK)))
  replace k : W p l e R s m args below meth c H locs cells slots Fin (F0 m (pc + 3) la (.long (Int64.ofInt (n)) :: st.map (cv ad sK))) := k
  refine lv_ldc2 hx hb hown (hts _ hw) hd ?_
  rw [hv]; exact k
theorem V_dup_i {X : ZX} {M : MD} {pc : Nat} {ls st : List AV} {μ : Mem} {a : Int} (hd : decode M.1 pc = .ok (.dup, 1))  (k : V X M (pc + 1) ls (vi (a) :: vi (a) :: st) μ) : V X M pc ls (vi (a) :: st) μ := by
  obtain ⟨⟨l, dC, dI, ad, ac, sK, sV⟩, p, e, R, s, m, args, below, meth, c, A, cells, slots, Fin⟩ := X
  obtain ⟨cc, own, y, nL, ret, d⟩ := M
  intro C H locs la hP hS hl
  have k := k C H locs la hP hS hl
  obtain ⟨hx, hb, hr, hlk, hml, hown, hts, hK, hD, hSX, hc1, hc2, hd1, hd2⟩ := C
  show W p l e R s m args below meth c H locs cells slots Fin (F0 m pc la (.int (Int32.ofInt (a)) :: st.map (cv ad sK)))
  replace k : W p l e R s m args below meth c H locs cells slots Fin (F0 m (pc + 1) la (.int (Int32.ofInt (a)) :: .int (Int32.ofInt (a)) :: st.map (cv ad sK))) := k
  refine lv_dup hx hb hd rfl ?_
  exact k
theorem V_dup_r {X : ZX} {M : MD} {pc : Nat} {ls st : List AV} {μ : Mem} {a : Nat} (hd : decode M.1 pc = .ok (.dup, 1))  (k : V X M (pc + 1) ls (vr a :: vr a :: st) μ) : V X M pc ls (vr a :: st) μ := by
  obtain ⟨⟨l, dC, dI, ad, ac, sK, sV⟩, p, e, R, s, m, args, below, meth, c, A, cells, slots, Fin⟩ := X
  obtain ⟨cc, own, y, nL, ret, d⟩ := M
  intro C H locs la hP hS hl
  have k := k C H locs la hP hS hl
  obtain ⟨hx, hb, hr, hlk, hml, hown, hts, hK, hD, hSX, hc1, hc2, hd1, hd2⟩ := C
  show W p l e R s m args below meth c H locs cells slots Fin (F0 m pc la (.ref (ad a) :: st.map (cv ad sK)))
  replace k : W p l e R s m args below meth c H locs cells slots Fin (F0 m (pc + 1) la (.ref (ad a) :: .ref (ad a) :: st.map (cv ad sK))) := k
  refine lv_dup hx hb hd rfl ?_
  exact k
theorem V_dup2_ir {X : ZX} {M : MD} {pc : Nat} {ls st : List AV} {μ : Mem} {a : Int} {b : Nat} (hd : decode M.1 pc = .ok (.dup2, 1))  (k : V X M (pc + 1) ls (vi (a) :: vr b :: vi (a) :: vr b :: st) μ) : V X M pc ls (vi (a) :: vr b :: st) μ := by
  obtain ⟨⟨l, dC, dI, ad, ac, sK, sV⟩, p, e, R, s, m, args, below, meth, c, A, cells, slots, Fin⟩ := X
  obtain ⟨cc, own, y, nL, ret, d⟩ := M
  intro C H locs la hP hS hl
  have k := k C H locs la hP hS hl
  obtain ⟨hx, hb, hr, hlk, hml, hown, hts, hK, hD, hSX, hc1, hc2, hd1, hd2⟩ := C
  show W p l e R s m args below meth c H locs cells slots Fin (F0 m pc la (.int (Int32.ofInt (a)) :: .ref (ad b) :: st.map (cv ad sK)))
  replace k : W p l e R s m args below meth c H locs cells slots Fin (F0 m (pc + 1) la (.int (Int32.ofInt (a)) :: .ref (ad b) :: .int (Int32.ofInt (a)) :: .ref (ad b) :: st.map (cv ad sK))) := k
  refine lv_dup2_11 hx hb hd rfl rfl ?_
  exact k
theorem V_iload {X : ZX} {M : MD} {pc : Nat} {ls st : List AV} {μ : Mem} {a : Int} {i : Nat} (hd : decode M.1 pc = .ok (.iload i, 2)) (hi : ls[i]? = some (vi (a))) (k : V X M (pc + 2) ls (vi (a) :: st) μ) : V X M pc ls (st) μ := by
  obtain ⟨⟨l, dC, dI, ad, ac, sK, sV⟩, p, e, R, s, m, args, below, meth, c, A, cells, slots, Fin⟩ := X
  obtain ⟨cc, own, y, nL, ret, d⟩ := M
  intro C H locs la hP hS hl
  have k := k C H locs la hP hS hl
  obtain ⟨hx, hb, hr, hlk, hml, hown, hts, hK, hD, hSX, hc1, hc2, hd1, hd2⟩ := C
  show W p l e R s m args below meth c H locs cells slots Fin (F0 m pc la (st.map (cv ad sK)))
  replace k : W p l e R s m args below meth c H locs cells slots Fin (F0 m (pc + 2) la (.int (Int32.ofInt (a)) :: st.map (cv ad sK))) := k
  refine lv_iload hx hb hd (lcl_get hl hi rfl) ?_
  exact k
theorem V_iloadn {X : ZX} {M : MD} {pc : Nat} {ls st : List AV} {μ : Mem} {a : Int} {k0 : Fin 4} (hd : decode M.1 pc = .ok (.iload_n k0, 1)) (hi : ls[(k0 : Nat)]? = some (vi (a))) (k : V X M (pc + 1) ls (vi (a) :: st) μ) : V X M pc ls (st) μ := by
  obtain ⟨⟨l, dC, dI, ad, ac, sK, sV⟩, p, e, R, s, m, args, below, meth, c, A, cells, slots, Fin⟩ := X
  obtain ⟨cc, own, y, nL, ret, d⟩ := M
  intro C H locs la hP hS hl
  have k := k C H locs la hP hS hl
  obtain ⟨hx, hb, hr, hlk, hml, hown, hts, hK, hD, hSX, hc1, hc2, hd1, hd2⟩ := C
  show W p l e R s m args below meth c H locs cells slots Fin (F0 m pc la (st.map (cv ad sK)))
  replace k : W p l e R s m args below meth c H locs cells slots Fin (F0 m (pc + 1) la (.int (Int32.ofInt (a)) :: st.map (cv ad sK))) := k
  refine lv_iload_n hx hb hd rfl (lcl_get hl hi rfl) ?_
  exact k
theorem V_lload {X : ZX} {M : MD} {pc : Nat} {ls st : List AV} {μ : Mem} {a : Int} {i : Nat} (hd : decode M.1 pc = .ok (.lload i, 2)) (hi : ls[i]? = some (vl (a))) (k : V X M (pc + 2) ls (vl (a) :: st) μ) : V X M pc ls (st) μ := by
  obtain ⟨⟨l, dC, dI, ad, ac, sK, sV⟩, p, e, R, s, m, args, below, meth, c, A, cells, slots, Fin⟩ := X
  obtain ⟨cc, own, y, nL, ret, d⟩ := M
  intro C H locs la hP hS hl
  have k := k C H locs la hP hS hl
  obtain ⟨hx, hb, hr, hlk, hml, hown, hts, hK, hD, hSX, hc1, hc2, hd1, hd2⟩ := C
  show W p l e R s m args below meth c H locs cells slots Fin (F0 m pc la (st.map (cv ad sK)))
  replace k : W p l e R s m args below meth c H locs cells slots Fin (F0 m (pc + 2) la (.long (Int64.ofInt (a)) :: st.map (cv ad sK))) := k
  refine lv_lload hx hb hd (lcl_get hl hi rfl) ?_
  exact k
theorem V_lloadn {X : ZX} {M : MD} {pc : Nat} {ls st : List AV} {μ : Mem} {a : Int} {k0 : Fin 4} (hd : decode M.1 pc = .ok (.lload_n k0, 1)) (hi : ls[(k0 : Nat)]? = some (vl (a))) (k : V X M (pc + 1) ls (vl (a) :: st) μ) : V X M pc ls (st) μ := by
  obtain ⟨⟨l, dC, dI, ad, ac, sK, sV⟩, p, e, R, s, m, args, below, meth, c, A, cells, slots, Fin⟩ := X
  obtain ⟨cc, own, y, nL, ret, d⟩ := M
  intro C H locs la hP hS hl
  have k := k C H locs la hP hS hl
  obtain ⟨hx, hb, hr, hlk, hml, hown, hts, hK, hD, hSX, hc1, hc2, hd1, hd2⟩ := C
  show W p l e R s m args below meth c H locs cells slots Fin (F0 m pc la (st.map (cv ad sK)))
  replace k : W p l e R s m args below meth c H locs cells slots Fin (F0 m (pc + 1) la (.long (Int64.ofInt (a)) :: st.map (cv ad sK))) := k
  refine lv_lload_n hx hb hd rfl (lcl_get hl hi rfl) ?_
  exact k
theorem V_aloadn {X : ZX} {M : MD} {pc : Nat} {ls st : List AV} {μ : Mem} {a : Nat} {k0 : Fin 4} (hd : decode M.1 pc = .ok (.aload_n k0, 1)) (hi : ls[(k0 : Nat)]? = some (vr a)) (k : V X M (pc + 1) ls (vr a :: st) μ) : V X M pc ls (st) μ := by
  obtain ⟨⟨l, dC, dI, ad, ac, sK, sV⟩, p, e, R, s, m, args, below, meth, c, A, cells, slots, Fin⟩ := X
  obtain ⟨cc, own, y, nL, ret, d⟩ := M
  intro C H locs la hP hS hl
  have k := k C H locs la hP hS hl
  obtain ⟨hx, hb, hr, hlk, hml, hown, hts, hK, hD, hSX, hc1, hc2, hd1, hd2⟩ := C
  show W p l e R s m args below meth c H locs cells slots Fin (F0 m pc la (st.map (cv ad sK)))
  replace k : W p l e R s m args below meth c H locs cells slots Fin (F0 m (pc + 1) la (.ref (ad a) :: st.map (cv ad sK))) := k
  refine lv_aload_n hx hb hd rfl (lcl_get hl hi rfl) ?_
  exact k
theorem V_sloadn {X : ZX} {M : MD} {pc : Nat} {ls st : List AV} {μ : Mem} {a : Nat} {k0 : Fin 4} (hd : decode M.1 pc = .ok (.aload_n k0, 1)) (hi : ls[(k0 : Nat)]? = some (vs a)) (k : V X M (pc + 1) ls (vs a :: st) μ) : V X M pc ls (st) μ := by
  obtain ⟨⟨l, dC, dI, ad, ac, sK, sV⟩, p, e, R, s, m, args, below, meth, c, A, cells, slots, Fin⟩ := X
  obtain ⟨cc, own, y, nL, ret, d⟩ := M
  intro C H locs la hP hS hl
  have k := k C H locs la hP hS hl
  obtain ⟨hx, hb, hr, hlk, hml, hown, hts, hK, hD, hSX, hc1, hc2, hd1, hd2⟩ := C
  show W p l e R s m args below meth c H locs cells slots Fin (F0 m pc la (st.map (cv ad sK)))
  replace k : W p l e R s m args below meth c H locs cells slots Fin (F0 m (pc + 1) la (.ref (sK a) :: st.map (cv ad sK))) := k
  refine lv_aload_n hx hb hd rfl (lcl_get hl hi rfl) ?_
  exact k
theorem V_istore_0 {X : ZX} {M : MD} {pc : Nat} {st : List AV} {μ : Mem} {old : AV} {t : List AV} {x : Int} (hd : decode M.1 pc = .ok (.istore_n 0, 1)) (hn : 0 < M.2.2.2.1)  (k : V X M (pc + 1) (vi (x) :: t) st μ) : V X M pc (old :: t) (vi (x) :: st) μ := by
  obtain ⟨⟨l, dC, dI, ad, ac, sK, sV⟩, p, e, R, s, m, args, below, meth, c, A, cells, slots, Fin⟩ := X
  obtain ⟨cc, own, y, nL, ret, d⟩ := M
  intro C H locs la hP hS hl
  have k := fun la2 h2 => k C H locs la2 hP hS h2
  obtain ⟨hx, hb, hr, hlk, hml, hown, hts, hK, hD, hSX, hc1, hc2, hd1, hd2⟩ := C
  show W p l e R s m args below meth c H locs cells slots Fin (F0 m pc la (.int (Int32.ofInt (x)) :: st.map (cv ad sK)))
  refine lv_istore_n hx hb hd rfl hl hn rfl (fun la2 h2 => ?_)
  exact k la2 (lcl_set1 (ls := old :: t) (i := 0) (v := vi (x)) (by simp) (fun j w e h => by omega) h2)
theorem V_lstore_0 {X : ZX} {M : MD} {pc : Nat} {st : List AV} {μ : Mem} {old old2 : AV} {t : List AV} {x : Int} (hd : decode M.1 pc = .ok (.lstore_n 0, 1)) (hn : 1 < M.2.2.2.1)  (k : V X M (pc + 1) (vl (x) :: un :: t) st μ) : V X M pc (old :: old2 :: t) (vl (x) :: st) μ := by
  obtain ⟨⟨l, dC, dI, ad, ac, sK, sV⟩, p, e, R, s, m, args, below, meth, c, A, cells, slots, Fin⟩ := X
  obtain ⟨cc, own, y, nL, ret, d⟩ := M
  intro C H locs la hP hS hl
  have k := fun la2 h2 => k C H locs la2 hP hS h2
  obtain ⟨hx, hb, hr, hlk, hml, hown, hts, hK, hD, hSX, hc1, hc2, hd1, hd2⟩ := C
  show W p l e R s m args below meth c H locs cells slots Fin (F0 m pc la (.long (Int64.ofInt (x)) :: st.map (cv ad sK)))
  refine lv_lstore_n hx hb hd rfl hl hn rfl (fun la2 h2 => ?_)
  exact k la2 (lcl_set2 (ls := old :: old2 :: t) (i := 0) (v := vl (x)) (by simp) (fun j w e h => by omega) h2)
theorem V_istore_1 {X : ZX} {M : MD} {pc : Nat} {st : List AV} {μ : Mem} {a0 old : AV} {t : List AV} {x : Int} (hd : decode M.1 pc = .ok (.istore_n 1, 1)) (hn : 1 < M.2.2.2.1) (hp : isL a0 = false) (k : V X M (pc + 1) (a0 :: vi (x) :: t) st μ) : V X M pc (a0 :: old :: t) (vi (x) :: st) μ := by
  obtain ⟨⟨l, dC, dI, ad, ac, sK, sV⟩, p, e, R, s, m, args, below, meth, c, A, cells, slots, Fin⟩ := X
  obtain ⟨cc, own, y, nL, ret, d⟩ := M
  intro C H locs la hP hS hl
  have k := fun la2 h2 => k C H locs la2 hP hS h2
  obtain ⟨hx, hb, hr, hlk, hml, hown, hts, hK, hD, hSX, hc1, hc2, hd1, hd2⟩ := C
  show W p l e R s m args below meth c H locs cells slots Fin (F0 m pc la (.int (Int32.ofInt (x)) :: st.map (cv ad sK)))
  refine lv_istore_n hx hb hd rfl hl hn rfl (fun la2 h2 => ?_)
  exact k la2 (lcl_set1 (ls := a0 :: old :: t) (i := 1) (v := vi (x)) (by simp) (fun j w e h => by obtain rfl : j = 0 := (by omega); cases h; exact hp) h2)
theorem V_lstore_1 {X : ZX} {M : MD} {pc : Nat} {st : List AV} {μ : Mem} {a0 old old2 : AV} {t : List AV} {x : Int} (hd : decode M.1 pc = .ok (.lstore_n 1, 1)) (hn : 2 < M.2.2.2.1) (hp : isL a0 = false) (k : V X M (pc + 1) (a0 :: vl (x) :: un :: t) st μ) : V X M pc (a0 :: old :: old2 :: t) (vl (x) :: st) μ := by
  obtain ⟨⟨l, dC, dI, ad, ac, sK, sV⟩, p, e, R, s, m, args, below, meth, c, A, cells, slots, Fin⟩ := X
  obtain ⟨cc, own, y, nL, ret, d⟩ := M
  intro C H locs la hP hS hl
  have k := fun la2 h2 => k C H locs la2 hP hS h2
  obtain ⟨hx, hb, hr, hlk, hml, hown, hts, hK, hD, hSX, hc1, hc2, hd1, hd2⟩ := C
  show W p l e R s m args below meth c H locs cells slots Fin (F0 m pc la (.long (Int64.ofInt (x)) :: st.map (cv ad sK)))
  refine lv_lstore_n hx hb hd rfl hl hn rfl (fun la2 h2 => ?_)
  exact k la2 (lcl_set2 (ls := a0 :: old :: old2 :: t) (i := 1) (v := vl (x)) (by simp) (fun j w e h => by obtain rfl : j = 0 := (by omega); cases h; exact hp) h2)
theorem V_istore_2 {X : ZX} {M : MD} {pc : Nat} {st : List AV} {μ : Mem} {a0 a1 old : AV} {t : List AV} {x : Int} (hd : decode M.1 pc = .ok (.istore_n 2, 1)) (hn : 2 < M.2.2.2.1) (hp : isL a1 = false) (k : V X M (pc + 1) (a0 :: a1 :: vi (x) :: t) st μ) : V X M pc (a0 :: a1 :: old :: t) (vi (x) :: st) μ := by
  obtain ⟨⟨l, dC, dI, ad, ac, sK, sV⟩, p, e, R, s, m, args, below, meth, c, A, cells, slots, Fin⟩ := X
  obtain ⟨cc, own, y, nL, ret, d⟩ := M
  intro C H locs la hP hS hl
  have k := fun la2 h2 => k C H locs la2 hP hS h2
  obtain ⟨hx, hb, hr, hlk, hml, hown, hts, hK, hD, hSX, hc1, hc2, hd1, hd2⟩ := C
  show W p l e R s m args below meth c H locs cells slots Fin (F0 m pc la (.int (Int32.ofInt (x)) :: st.map (cv ad sK)))
  refine lv_istore_n hx hb hd rfl hl hn rfl (fun la2 h2 => ?_)
  exact k la2 (lcl_set1 (ls := a0 :: a1 :: old :: t) (i := 2) (v := vi (x)) (by simp) (fun j w e h => by obtain rfl : j = 1 := (by omega); cases h; exact hp) h2)
theorem V_lstore_2 {X : ZX} {M : MD} {pc : Nat} {st : List AV} {μ : Mem} {a0 a1 old old2 : AV} {t : List AV} {x : Int} (hd : decode M.1 pc = .ok (.lstore_n 2, 1)) (hn : 3 < M.2.2.2.1) (hp : isL a1 = false) (k : V X M (pc + 1) (a0 :: a1 :: vl (x) :: un :: t) st μ) : V X M pc (a0 :: a1 :: old :: old2 :: t) (vl (x) :: st) μ := by
  obtain ⟨⟨l, dC, dI, ad, ac, sK, sV⟩, p, e, R, s, m, args, below, meth, c, A, cells, slots, Fin⟩ := X
  obtain ⟨cc, own, y, nL, ret, d⟩ := M
  intro C H locs la hP hS hl
  have k := fun la2 h2 => k C H locs la2 hP hS h2
  obtain ⟨hx, hb, hr, hlk, hml, hown, hts, hK, hD, hSX, hc1, hc2, hd1, hd2⟩ := C
  show W p l e R s m args below meth c H locs cells slots Fin (F0 m pc la (.long (Int64.ofInt (x)) :: st.map (cv ad sK)))
  refine lv_lstore_n hx hb hd rfl hl hn rfl (fun la2 h2 => ?_)
  exact k la2 (lcl_set2 (ls := a0 :: a1 :: old :: old2 :: t) (i := 2) (v := vl (x)) (by simp) (fun j w e h => by obtain rfl : j = 1 := (by omega); cases h; exact hp) h2)
theorem V_istore_3 {X : ZX} {M : MD} {pc : Nat} {st : List AV} {μ : Mem} {a0 a1 a2 old : AV} {t : List AV} {x : Int} (hd : decode M.1 pc = .ok (.istore_n 3, 1)) (hn : 3 < M.2.2.2.1) (hp : isL a2 = false) (k : V X M (pc + 1) (a0 :: a1 :: a2 :: vi (x) :: t) st μ) : V X M pc (a0 :: a1 :: a2 :: old :: t) (vi (x) :: st) μ := by
  obtain ⟨⟨l, dC, dI, ad, ac, sK, sV⟩, p, e, R, s, m, args, below, meth, c, A, cells, slots, Fin⟩ := X
  obtain ⟨cc, own, y, nL, ret, d⟩ := M
  intro C H locs la hP hS hl
  have k := fun la2 h2 => k C H locs la2 hP hS h2
  obtain ⟨hx, hb, hr, hlk, hml, hown, hts, hK, hD, hSX, hc1, hc2, hd1, hd2⟩ := C
  show W p l e R s m args below meth c H locs cells slots Fin (F0 m pc la (.int (Int32.ofInt (x)) :: st.map (cv ad sK)))
  refine lv_istore_n hx hb hd rfl hl hn rfl (fun la2 h2 => ?_)
  exact k la2 (lcl_set1 (ls := a0 :: a1 :: a2 :: old :: t) (i := 3) (v := vi (x)) (by simp) (fun j w e h => by obtain rfl : j = 2 := (by omega); cases h; exact hp) h2)
theorem V_lstore_3 {X : ZX} {M : MD} {pc : Nat} {st : List AV} {μ : Mem} {a0 a1 a2 old old2 : AV} {t : List AV} {x : Int} (hd : decode M.1 pc = .ok (.lstore_n 3, 1)) (hn : 4 < M.2.2.2.1) (hp : isL a2 = false) (k : V X M (pc + 1) (a0 :: a1 :: a2 :: vl (x) :: un :: t) st μ) : V X M pc (a0 :: a1 :: a2 :: old :: old2 :: t) (vl (x) :: st) μ := by
  obtain ⟨⟨l, dC, dI, ad, ac, sK, sV⟩, p, e, R, s, m, args, below, meth, c, A, cells, slots, Fin⟩ := X
  obtain ⟨cc, own, y, nL, ret, d⟩ := M
  intro C H locs la hP hS hl
  have k := fun la2 h2 => k C H locs la2 hP hS h2
  obtain ⟨hx, hb, hr, hlk, hml, hown, hts, hK, hD, hSX, hc1, hc2, hd1, hd2⟩ := C
  show W p l e R s m args below meth c H locs cells slots Fin (F0 m pc la (.long (Int64.ofInt (x)) :: st.map (cv ad sK)))
  refine lv_lstore_n hx hb hd rfl hl hn rfl (fun la2 h2 => ?_)
  exact k la2 (lcl_set2 (ls := a0 :: a1 :: a2 :: old :: old2 :: t) (i := 3) (v := vl (x)) (by simp) (fun j w e h => by obtain rfl : j = 2 := (by omega); cases h; exact hp) h2)
theorem V_istore_4 {X : ZX} {M : MD} {pc : Nat} {st : List AV} {μ : Mem} {a0 a1 a2 a3 old : AV} {t : List AV} {x : Int} (hd : decode M.1 pc = .ok (.istore 4, 2)) (hn : 4 < M.2.2.2.1) (hp : isL a3 = false) (k : V X M (pc + 2) (a0 :: a1 :: a2 :: a3 :: vi (x) :: t) st μ) : V X M pc (a0 :: a1 :: a2 :: a3 :: old :: t) (vi (x) :: st) μ := by
  obtain ⟨⟨l, dC, dI, ad, ac, sK, sV⟩, p, e, R, s, m, args, below, meth, c, A, cells, slots, Fin⟩ := X
  obtain ⟨cc, own, y, nL, ret, d⟩ := M
  intro C H locs la hP hS hl
  have k := fun la2 h2 => k C H locs la2 hP hS h2
  obtain ⟨hx, hb, hr, hlk, hml, hown, hts, hK, hD, hSX, hc1, hc2, hd1, hd2⟩ := C
  show W p l e R s m args below meth c H locs cells slots Fin (F0 m pc la (.int (Int32.ofInt (x)) :: st.map (cv ad sK)))
  refine lv_istore hx hb hd hl hn rfl (fun la2 h2 => ?_)
  exact k la2 (lcl_set1 (ls := a0 :: a1 :: a2 :: a3 :: old :: t) (i := 4) (v := vi (x)) (by simp) (fun j w e h => by obtain rfl : j = 3 := (by omega); cases h; exact hp) h2)
theorem V_lstore_4 {X : ZX} {M : MD} {pc : Nat} {st : List AV} {μ : Mem} {a0 a1 a2 a3 old old2 : AV} {t : List AV} {x : Int} (hd : decode M.1 pc = .ok (.lstore 4, 2)) (hn : 5 < M.2.2.2.1) (hp : isL a3 = false) (k : V X M (pc + 2) (a0 :: a1 :: a2 :: a3 :: vl (x) :: un :: t) st μ) : V X M pc (a0 :: a1 :: a2 :: a3 :: old :: old2 :: t) (vl (x) :: st) μ := by
  obtain ⟨⟨l, dC, dI, ad, ac, sK, sV⟩, p, e, R, s, m, args, below, meth, c, A, cells, slots, Fin⟩ := X
  obtain ⟨cc, own, y, nL, ret, d⟩ := M
  intro C H locs la hP hS hl
  have k := fun la2 h2 => k C H locs la2 hP hS h2
  obtain ⟨hx, hb, hr, hlk, hml, hown, hts, hK, hD, hSX, hc1, hc2, hd1, hd2⟩ := C
  show W p l e R s m args below meth c H locs cells slots Fin (F0 m pc la (.long (Int64.ofInt (x)) :: st.map (cv ad sK)))
  refine lv_lstore hx hb hd hl hn rfl (fun la2 h2 => ?_)
  exact k la2 (lcl_set2 (ls := a0 :: a1 :: a2 :: a3 :: old :: old2 :: t) (i := 4) (v := vl (x)) (by simp) (fun j w e h => by obtain rfl : j = 3 := (by omega); cases h; exact hp) h2)
theorem V_istore_5 {X : ZX} {M : MD} {pc : Nat} {st : List AV} {μ : Mem} {a0 a1 a2 a3 a4 old : AV} {t : List AV} {x : Int} (hd : decode M.1 pc = .ok (.istore 5, 2)) (hn : 5 < M.2.2.2.1) (hp : isL a4 = false) (k : V X M (pc + 2) (a0 :: a1 :: a2 :: a3 :: a4 :: vi (x) :: t) st μ) : V X M pc (a0 :: a1 :: a2 :: a3 :: a4 :: old :: t) (vi (x) :: st) μ := by
  obtain ⟨⟨l, dC, dI, ad, ac, sK, sV⟩, p, e, R, s, m, args, below, meth, c, A, cells, slots, Fin⟩ := X
  obtain ⟨cc, own, y, nL, ret, d⟩ := M
  intro C H locs la hP hS hl
  have k := fun la2 h2 => k C H locs la2 hP hS h2
  obtain ⟨hx, hb, hr, hlk, hml, hown, hts, hK, hD, hSX, hc1, hc2, hd1, hd2⟩ := C
  show W p l e R s m args below meth c H locs cells slots Fin (F0 m pc la (.int (Int32.ofInt (x)) :: st.map (cv ad sK)))
  refine lv_istore hx hb hd hl hn rfl (fun la2 h2 => ?_)
  exact k la2 (lcl_set1 (ls := a0 :: a1 :: a2 :: a3 :: a4 :: old :: t) (i := 5) (v := vi (x)) (by simp) (fun j w e h => by obtain rfl : j = 4 := (by omega); cases h; exact hp) h2)
theorem V_lstore_5 {X : ZX} {M : MD} {pc : Nat} {st : List AV} {μ : Mem} {a0 a1 a2 a3 a4 old old2 : AV} {t : List AV} {x : Int} (hd : decode M.1 pc = .ok (.lstore 5, 2)) (hn : 6 < M.2.2.2.1) (hp : isL a4 = false) (k : V X M (pc + 2) (a0 :: a1 :: a2 :: a3 :: a4 :: vl (x) :: un :: t) st μ) : V X M pc (a0 :: a1 :: a2 :: a3 :: a4 :: old :: old2 :: t) (vl (x) :: st) μ := by
  obtain ⟨⟨l, dC, dI, ad, ac, sK, sV⟩, p, e, R, s, m, args, below, meth, c, A, cells, slots, Fin⟩ := X
  obtain ⟨cc, own, y, nL, ret, d⟩ := M
  intro C H locs la hP hS hl
  have k := fun la2 h2 => k C H locs la2 hP hS h2
  obtain ⟨hx, hb, hr, hlk, hml, hown, hts, hK, hD, hSX, hc1, hc2, hd1, hd2⟩ := C
  show W p l e R s m args below meth c H locs cells slots Fin (F0 m pc la (.long (Int64.ofInt (x)) :: st.map (cv ad sK)))
  refine lv_lstore hx hb hd hl hn rfl (fun la2 h2 => ?_)
  exact k la2 (lcl_set2 (ls := a0 :: a1 :: a2 :: a3 :: a4 :: old :: old2 :: t) (i := 5) (v := vl (x)) (by simp) (fun j w e h => by obtain rfl : j = 4 := (by omega); cases h; exact hp) h2)
theorem V_istore_6 {X : ZX} {M : MD} {pc : Nat} {st : List AV} {μ : Mem} {a0 a1 a2 a3 a4 a5 old : AV} {t : List AV} {x : Int} (hd : decode M.1 pc = .ok (.istore 6, 2)) (hn : 6 < M.2.2.2.1) (hp : isL a5 = false) (k : V X M (pc + 2) (a0 :: a1 :: a2 :: a3 :: a4 :: a5 :: vi (x) :: t) st μ) : V X M pc (a0 :: a1 :: a2 :: a3 :: a4 :: a5 :: old :: t) (vi (x) :: st) μ := by
  obtain ⟨⟨l, dC, dI, ad, ac, sK, sV⟩, p, e, R, s, m, args, below, meth, c, A, cells, slots, Fin⟩ := X
  obtain ⟨cc, own, y, nL, ret, d⟩ := M
  intro C H locs la hP hS hl
  have k := fun la2 h2 => k C H locs la2 hP hS h2
  obtain ⟨hx, hb, hr, hlk, hml, hown, hts, hK, hD, hSX, hc1, hc2, hd1, hd2⟩ := C
  show W p l e R s m args below meth c H locs cells slots Fin (F0 m pc la (.int (Int32.ofInt (x)) :: st.map (cv ad sK)))
  refine lv_istore hx hb hd hl hn rfl (fun la2 h2 => ?_)
  exact k la2 (lcl_set1 (ls := a0 :: a1 :: a2 :: a3 :: a4 :: a5 :: old :: t) (i := 6) (v := vi (x)) (by simp) (fun j w e h => by obtain rfl : j = 5 := (by omega); cases h; exact hp) h2)
theorem V_lstore_6 {X : ZX} {M : MD} {pc : Nat} {st : List AV} {μ : Mem} {a0 a1 a2 a3 a4 a5 old old2 : AV} {t : List AV} {x : Int} (hd : decode M.1 pc = .ok (.lstore 6, 2)) (hn : 7 < M.2.2.2.1) (hp : isL a5 = false) (k : V X M (pc + 2) (a0 :: a1 :: a2 :: a3 :: a4 :: a5 :: vl (x) :: un :: t) st μ) : V X M pc (a0 :: a1 :: a2 :: a3 :: a4 :: a5 :: old :: old2 :: t) (vl (x) :: st) μ := by
  obtain ⟨⟨l, dC, dI, ad, ac, sK, sV⟩, p, e, R, s, m, args, below, meth, c, A, cells, slots, Fin⟩ := X
  obtain ⟨cc, own, y, nL, ret, d⟩ := M
  intro C H locs la hP hS hl
  have k := fun la2 h2 => k C H locs la2 hP hS h2
  obtain ⟨hx, hb, hr, hlk, hml, hown, hts, hK, hD, hSX, hc1, hc2, hd1, hd2⟩ := C
  show W p l e R s m args below meth c H locs cells slots Fin (F0 m pc la (.long (Int64.ofInt (x)) :: st.map (cv ad sK)))
  refine lv_lstore hx hb hd hl hn rfl (fun la2 h2 => ?_)
  exact k la2 (lcl_set2 (ls := a0 :: a1 :: a2 :: a3 :: a4 :: a5 :: old :: old2 :: t) (i := 6) (v := vl (x)) (by simp) (fun j w e h => by obtain rfl : j = 5 := (by omega); cases h; exact hp) h2)
theorem V_istore_7 {X : ZX} {M : MD} {pc : Nat} {st : List AV} {μ : Mem} {a0 a1 a2 a3 a4 a5 a6 old : AV} {t : List AV} {x : Int} (hd : decode M.1 pc = .ok (.istore 7, 2)) (hn : 7 < M.2.2.2.1) (hp : isL a6 = false) (k : V X M (pc + 2) (a0 :: a1 :: a2 :: a3 :: a4 :: a5 :: a6 :: vi (x) :: t) st μ) : V X M pc (a0 :: a1 :: a2 :: a3 :: a4 :: a5 :: a6 :: old :: t) (vi (x) :: st) μ := by
  obtain ⟨⟨l, dC, dI, ad, ac, sK, sV⟩, p, e, R, s, m, args, below, meth, c, A, cells, slots, Fin⟩ := X
  obtain ⟨cc, own, y, nL, ret, d⟩ := M
  intro C H locs la hP hS hl
  have k := fun la2 h2 => k C H locs la2 hP hS h2
  obtain ⟨hx, hb, hr, hlk, hml, hown, hts, hK, hD, hSX, hc1, hc2, hd1, hd2⟩ := C
  show W p l e R s m args below meth c H locs cells slots Fin (F0 m pc la (.int (Int32.ofInt (x)) :: st.map (cv ad sK)))
  refine lv_istore hx hb hd hl hn rfl (fun la2 h2 => ?_)
  exact k la2 (lcl_set1 (ls := a0 :: a1 :: a2 :: a3 :: a4 :: a5 :: a6 :: old :: t) (i := 7) (v := vi (x)) (by simp) (fun j w e h => by obtain rfl : j = 6 := (by omega); cases h; exact hp) h2)
theorem V_lstore_7 {X : ZX} {M : MD} {pc : Nat} {st : List AV} {μ : Mem} {a0 a1 a2 a3 a4 a5 a6 old old2 : AV} {t : List AV} {x : Int} (hd : decode M.1 pc = .ok (.lstore 7, 2)) (hn : 8 < M.2.2.2.1) (hp : isL a6 = false) (k : V X M (pc + 2) (a0 :: a1 :: a2 :: a3 :: a4 :: a5 :: a6 :: vl (x) :: un :: t) st μ) : V X M pc (a0 :: a1 :: a2 :: a3 :: a4 :: a5 :: a6 :: old :: old2 :: t) (vl (x) :: st) μ := by
  obtain ⟨⟨l, dC, dI, ad, ac, sK, sV⟩, p, e, R, s, m, args, below, meth, c, A, cells, slots, Fin⟩ := X
  obtain ⟨cc, own, y, nL, ret, d⟩ := M
  intro C H locs la hP hS hl
  have k := fun la2 h2 => k C H locs la2 hP hS h2
  obtain ⟨hx, hb, hr, hlk, hml, hown, hts, hK, hD, hSX, hc1, hc2, hd1, hd2⟩ := C
  show W p l e R s m args below meth c H locs cells slots Fin (F0 m pc la (.long (Int64.ofInt (x)) :: st.map (cv ad sK)))
  refine lv_lstore hx hb hd hl hn rfl (fun la2 h2 => ?_)
  exact k la2 (lcl_set2 (ls := a0 :: a1 :: a2 :: a3 :: a4 :: a5 :: a6 :: old :: old2 :: t) (i := 7) (v := vl (x)) (by simp) (fun j w e h => by obtain rfl : j = 6 := (by omega); cases h; exact hp) h2)
theorem V_istore_8 {X : ZX} {M : MD} {pc : Nat} {st : List AV} {μ : Mem} {a0 a1 a2 a3 a4 a5 a6 a7 old : AV} {t : List AV} {x : Int} (hd : decode M.1 pc = .ok (.istore 8, 2)) (hn : 8 < M.2.2.2.1) (hp : isL a7 = false) (k : V X M (pc + 2) (a0 :: a1 :: a2 :: a3 :: a4 :: a5 :: a6 :: a7 :: vi (x) :: t) st μ) : V X M pc (a0 :: a1 :: a2 :: a3 :: a4 :: a5 :: a6 :: a7 :: old :: t) (vi (x) :: st) μ := by
  obtain ⟨⟨l, dC, dI, ad, ac, sK, sV⟩, p, e, R, s, m, args, below, meth, c, A, cells, slots, Fin⟩ := X
  obtain ⟨cc, own, y, nL, ret, d⟩ := M
  intro C H locs la hP hS hl
  have k := fun la2 h2 => k C H locs la2 hP hS h2
  obtain ⟨hx, hb, hr, hlk, hml, hown, hts, hK, hD, hSX, hc1, hc2, hd1, hd2⟩ := C
  show W p l e R s m args below meth c H locs cells slots Fin (F0 m pc la (.int (Int32.ofInt (x)) :: st.map (cv ad sK)))
  refine lv_istore hx hb hd hl hn rfl (fun la2 h2 => ?_)
  exact k la2 (lcl_set1 (ls := a0 :: a1 :: a2 :: a3 :: a4 :: a5 :: a6 :: a7 :: old :: t) (i := 8) (v := vi (x)) (by simp) (fun j w e h => by obtain rfl : j = 7 := (by omega); cases h; exact hp) h2)
theorem V_lstore_8 {X : ZX} {M : MD} {pc : Nat} {st : List AV} {μ : Mem} {a0 a1 a2 a3 a4 a5 a6 a7 old old2 : AV} {t : List AV} {x : Int} (hd : decode M.1 pc = .ok (.lstore 8, 2)) (hn : 9 < M.2.2.2.1) (hp : isL a7 = false) (k : V X M (pc + 2) (a0 :: a1 :: a2 :: a3 :: a4 :: a5 :: a6 :: a7 :: vl (x) :: un :: t) st μ) : V X M pc (a0 :: a1 :: a2 :: a3 :: a4 :: a5 :: a6 :: a7 :: old :: old2 :: t) (vl (x) :: st) μ := by
  obtain ⟨⟨l, dC, dI, ad, ac, sK, sV⟩, p, e, R, s, m, args, below, meth, c, A, cells, slots, Fin⟩ := X
  obtain ⟨cc, own, y, nL, ret, d⟩ := M
  intro C H locs la hP hS hl
  have k := fun la2 h2 => k C H locs la2 hP hS h2
  obtain ⟨hx, hb, hr, hlk, hml, hown, hts, hK, hD, hSX, hc1, hc2, hd1, hd2⟩ := C
  show W p l e R s m args below meth c H locs cells slots Fin (F0 m pc la (.long (Int64.ofInt (x)) :: st.map (cv ad sK)))
  refine lv_lstore hx hb hd hl hn rfl (fun la2 h2 => ?_)
  exact k la2 (lcl_set2 (ls := a0 :: a1 :: a2 :: a3 :: a4 :: a5 :: a6 :: a7 :: old :: old2 :: t) (i := 8) (v := vl (x)) (by simp) (fun j w e h => by obtain rfl : j = 7 := (by omega); cases h; exact hp) h2)
theorem V_istore_9 {X : ZX} {M : MD} {pc : Nat} {st : List AV} {μ : Mem} {a0 a1 a2 a3 a4 a5 a6 a7 a8 old : AV} {t : List AV} {x : Int} (hd : decode M.1 pc = .ok (.istore 9, 2)) (hn : 9 < M.2.2.2.1) (hp : isL a8 = false) (k : V X M (pc + 2) (a0 :: a1 :: a2 :: a3 :: a4 :: a5 :: a6 :: a7 :: a8 :: vi (x) :: t) st μ) : V X M pc (a0 :: a1 :: a2 :: a3 :: a4 :: a5 :: a6 :: a7 :: a8 :: old :: t) (vi (x) :: st) μ := by
  obtain ⟨⟨l, dC, dI, ad, ac, sK, sV⟩, p, e, R, s, m, args, below, meth, c, A, cells, slots, Fin⟩ := X
  obtain ⟨cc, own, y, nL, ret, d⟩ := M
  intro C H locs la hP hS hl
  have k := fun la2 h2 => k C H locs la2 hP hS h2
  obtain ⟨hx, hb, hr, hlk, hml, hown, hts, hK, hD, hSX, hc1, hc2, hd1, hd2⟩ := C
  show W p l e R s m args below meth c H locs cells slots Fin (F0 m pc la (.int (Int32.ofInt (x)) :: st.map (cv ad sK)))
  refine lv_istore hx hb hd hl hn rfl (fun la2 h2 => ?_)
  exact k la2 (lcl_set1 (ls := a0 :: a1 :: a2 :: a3 :: a4 :: a5 :: a6 :: a7 :: a8 :: old :: t) (i := 9) (v := vi (x)) (by simp) (fun j w e h => by obtain rfl : j = 8 := (by omega); cases h; exact hp) h2)
theorem V_lstore_9 {X : ZX} {M : MD} {pc : Nat} {st : List AV} {μ : Mem} {a0 a1 a2 a3 a4 a5 a6 a7 a8 old old2 : AV} {t : List AV} {x : Int} (hd : decode M.1 pc = .ok (.lstore 9, 2)) (hn : 10 < M.2.2.2.1) (hp : isL a8 = false) (k : V X M (pc + 2) (a0 :: a1 :: a2 :: a3 :: a4 :: a5 :: a6 :: a7 :: a8 :: vl (x) :: un :: t) st μ) : V X M pc (a0 :: a1 :: a2 :: a3 :: a4 :: a5 :: a6 :: a7 :: a8 :: old :: old2 :: t) (vl (x) :: st) μ := by
  obtain ⟨⟨l, dC, dI, ad, ac, sK, sV⟩, p, e, R, s, m, args, below, meth, c, A, cells, slots, Fin⟩ := X
  obtain ⟨cc, own, y, nL, ret, d⟩ := M
  intro C H locs la hP hS hl
  have k := fun la2 h2 => k C H locs la2 hP hS h2
  obtain ⟨hx, hb, hr, hlk, hml, hown, hts, hK, hD, hSX, hc1, hc2, hd1, hd2⟩ := C
  show W p l e R s m args below meth c H locs cells slots Fin (F0 m pc la (.long (Int64.ofInt (x)) :: st.map (cv ad sK)))
  refine lv_lstore hx hb hd hl hn rfl (fun la2 h2 => ?_)
  exact k la2 (lcl_set2 (ls := a0 :: a1 :: a2 :: a3 :: a4 :: a5 :: a6 :: a7 :: a8 :: old :: old2 :: t) (i := 9) (v := vl (x)) (by simp) (fun j w e h => by obtain rfl : j = 8 := (by omega); cases h; exact hp) h2)
theorem V_istore_10 {X : ZX} {M : MD} {pc : Nat} {st : List AV} {μ : Mem} {a0 a1 a2 a3 a4 a5 a6 a7 a8 a9 old : AV} {t : List AV} {x : Int} (hd : decode M.1 pc = .ok (.istore 10, 2)) (hn : 10 < M.2.2.2.1) (hp : isL a9 = false) (k : V X M (pc + 2) (a0 :: a1 :: a2 :: a3 :: a4 :: a5 :: a6 :: a7 :: a8 :: a9 :: vi (x) :: t) st μ) : V X M pc (a0 :: a1 :: a2 :: a3 :: a4 :: a5 :: a6 :: a7 :: a8 :: a9 :: old :: t) (vi (x) :: st) μ := by
  obtain ⟨⟨l, dC, dI, ad, ac, sK, sV⟩, p, e, R, s, m, args, below, meth, c, A, cells, slots, Fin⟩ := X
  obtain ⟨cc, own, y, nL, ret, d⟩ := M
  intro C H locs la hP hS hl
  have k := fun la2 h2 => k C H locs la2 hP hS h2
  obtain ⟨hx, hb, hr, hlk, hml, hown, hts, hK, hD, hSX, hc1, hc2, hd1, hd2⟩ := C
  show W p l e R s m args below meth c H locs cells slots Fin (F0 m pc la (.int (Int32.ofInt (x)) :: st.map (cv ad sK)))
  refine lv_istore hx hb hd hl hn rfl (fun la2 h2 => ?_)
  exact k la2 (lcl_set1 (ls := a0 :: a1 :: a2 :: a3 :: a4 :: a5 :: a6 :: a7 :: a8 :: a9 :: old :: t) (i := 10) (v := vi (x)) (by simp) (fun j w e h => by obtain rfl : j = 9 := (by omega); cases h; exact hp) h2)
theorem V_lstore_10 {X : ZX} {M : MD} {pc : Nat} {st : List AV} {μ : Mem} {a0 a1 a2 a3 a4 a5 a6 a7 a8 a9 old old2 : AV} {t : List AV} {x : Int} (hd : decode M.1 pc = .ok (.lstore 10, 2)) (hn : 11 < M.2.2.2.1) (hp : isL a9 = false) (k : V X M (pc + 2) (a0 :: a1 :: a2 :: a3 :: a4 :: a5 :: a6 :: a7 :: a8 :: a9 :: vl (x) :: un :: t) st μ) : V X M pc (a0 :: a1 :: a2 :: a3 :: a4 :: a5 :: a6 :: a7 :: a8 :: a9 :: old :: old2 :: t) (vl (x) :: st) μ := by
  obtain ⟨⟨l, dC, dI, ad, ac, sK, sV⟩, p, e, R, s, m, args, below, meth, c, A, cells, slots, Fin⟩ := X
  obtain ⟨cc, own, y, nL, ret, d⟩ := M
  intro C H locs la hP hS hl
  have k := fun la2 h2 => k C H locs la2 hP hS h2
  obtain ⟨hx, hb, hr, hlk, hml, hown, hts, hK, hD, hSX, hc1, hc2, hd1, hd2⟩ := C
  show W p l e R s m args below meth c H locs cells slots Fin (F0 m pc la (.long (Int64.ofInt (x)) :: st.map (cv ad sK)))
  refine lv_lstore hx hb hd hl hn rfl (fun la2 h2 => ?_)
  exact k la2 (lcl_set2 (ls := a0 :: a1 :: a2 :: a3 :: a4 :: a5 :: a6 :: a7 :: a8 :: a9 :: old :: old2 :: t) (i := 10) (v := vl (x)) (by simp) (fun j w e h => by obtain rfl : j = 9 := (by omega); cases h; exact hp) h2)
theorem V_istore_11 {X : ZX} {M : MD} {pc : Nat} {st : List AV} {μ : Mem} {a0 a1 a2 a3 a4 a5 a6 a7 a8 a9 a10 old : AV} {t : List AV} {x : Int} (hd : decode M.1 pc = .ok (.istore 11, 2)) (hn : 11 < M.2.2.2.1) (hp : isL a10 = false) (k : V X M (pc + 2) (a0 :: a1 :: a2 :: a3 :: a4 :: a5 :: a6 :: a7 :: a8 :: a9 :: a10 :: vi (x) :: t) st μ) : V X M pc (a0 :: a1 :: a2 :: a3 :: a4 :: a5 :: a6 :: a7 :: a8 :: a9 :: a10 :: old :: t) (vi (x) :: st) μ := by
  obtain ⟨⟨l, dC, dI, ad, ac, sK, sV⟩, p, e, R, s, m, args, below, meth, c, A, cells, slots, Fin⟩ := X
  obtain ⟨cc, own, y, nL, ret, d⟩ := M
  intro C H locs la hP hS hl
  have k := fun la2 h2 => k C H locs la2 hP hS h2
  obtain ⟨hx, hb, hr, hlk, hml, hown, hts, hK, hD, hSX, hc1, hc2, hd1, hd2⟩ := C
  show W p l e R s m args below meth c H locs cells slots Fin (F0 m pc la (.int (Int32.ofInt (x)) :: st.map (cv ad sK)))
  refine lv_istore hx hb hd hl hn rfl (fun la2 h2 => ?_)
  exact k la2 (lcl_set1 (ls := a0 :: a1 :: a2 :: a3 :: a4 :: a5 :: a6 :: a7 :: a8 :: a9 :: a10 :: old :: t) (i := 11) (v := vi (x)) (by simp) (fun j w e h => by obtain rfl : j = 10 := (by omega); cases h; exact hp) h2)
theorem V_lstore_11 {X : ZX} {M : MD} {pc : Nat} {st : List AV} {μ : Mem} {a0 a1 a2 a3 a4 a5 a6 a7 a8 a9 a10 old old2 : AV} {t : List AV} {x : Int} (hd : decode M.1 pc = .ok (.lstore 11, 2)) (hn : 12 < M.2.2.2.1) (hp : isL a10 = false) (k : V X M (pc + 2) (a0 :: a1 :: a2 :: a3 :: a4 :: a5 :: a6 :: a7 :: a8 :: a9 :: a10 :: vl (x) :: un :: t) st μ) : V X M pc (a0 :: a1 :: a2 :: a3 :: a4 :: a5 :: a6 :: a7 :: a8 :: a9 :: a10 :: old :: old2 :: t) (vl (x) :: st) μ := by
  obtain ⟨⟨l, dC, dI, ad, ac, sK, sV⟩, p, e, R, s, m, args, below, meth, c, A, cells, slots, Fin⟩ := X
  obtain ⟨cc, own, y, nL, ret, d⟩ := M
  intro C H locs la hP hS hl
  have k := fun la2 h2 => k C H locs la2 hP hS h2
  obtain ⟨hx, hb, hr, hlk, hml, hown, hts, hK, hD, hSX, hc1, hc2, hd1, hd2⟩ := C
  show W p l e R s m args below meth c H locs cells slots Fin (F0 m pc la (.long (Int64.ofInt (x)) :: st.map (cv ad sK)))
  refine lv_lstore hx hb hd hl hn rfl (fun la2 h2 => ?_)
  exact k la2 (lcl_set2 (ls := a0 :: a1 :: a2 :: a3 :: a4 :: a5 :: a6 :: a7 :: a8 :: a9 :: a10 :: old :: old2 :: t) (i := 11) (v := vl (x)) (by simp) (fun j w e h => by obtain rfl : j = 10 := (by omega); cases h; exact hp) h2)
theorem V_istore_12 {X : ZX} {M : MD} {pc : Nat} {st : List AV} {μ : Mem} {a0 a1 a2 a3 a4 a5 a6 a7 a8 a9 a10 a11 old : AV} {t : List AV} {x : Int} (hd : decode M.1 pc = .ok (.istore 12, 2)) (hn : 12 < M.2.2.2.1) (hp : isL a11 = false) (k : V X M (pc + 2) (a0 :: a1 :: a2 :: a3 :: a4 :: a5 :: a6 :: a7 :: a8 :: a9 :: a10 :: a11 :: vi (x) :: t) st μ) : V X M pc (a0 :: a1 :: a2 :: a3 :: a4 :: a5 :: a6 :: a7 :: a8 :: a9 :: a10 :: a11 :: old :: t) (vi (x) :: st) μ := by
  obtain ⟨⟨l, dC, dI, ad, ac, sK, sV⟩, p, e, R, s, m, args, below, meth, c, A, cells, slots, Fin⟩ := X
  obtain ⟨cc, own, y, nL, ret, d⟩ := M
  intro C H locs la hP hS hl
  have k := fun la2 h2 => k C H locs la2 hP hS h2
  obtain ⟨hx, hb, hr, hlk, hml, hown, hts, hK, hD, hSX, hc1, hc2, hd1, hd2⟩ := C
  show W p l e R s m args below meth c H locs cells slots Fin (F0 m pc la (.int (Int32.ofInt (x)) :: st.map (cv ad sK)))
  refine lv_istore hx hb hd hl hn rfl (fun la2 h2 => ?_)
  exact k la2 (lcl_set1 (ls := a0 :: a1 :: a2 :: a3 :: a4 :: a5 :: a6 :: a7 :: a8 :: a9 :: a10 :: a11 :: old :: t) (i := 12) (v := vi (x)) (by simp) (fun j w e h => by obtain rfl : j = 11 := (by omega); cases h; exact hp) h2)
theorem V_lstore_12 {X : ZX} {M : MD} {pc : Nat} {st : List AV} {μ : Mem} {a0 a1 a2 a3 a4 a5 a6 a7 a8 a9 a10 a11 old old2 : AV} {t : List AV} {x : Int} (hd : decode M.1 pc = .ok (.lstore 12, 2)) (hn : 13 < M.2.2.2.1) (hp : isL a11 = false) (k : V X M (pc + 2) (a0 :: a1 :: a2 :: a3 :: a4 :: a5 :: a6 :: a7 :: a8 :: a9 :: a10 :: a11 :: vl (x) :: un :: t) st μ) : V X M pc (a0 :: a1 :: a2 :: a3 :: a4 :: a5 :: a6 :: a7 :: a8 :: a9 :: a10 :: a11 :: old :: old2 :: t) (vl (x) :: st) μ := by
  obtain ⟨⟨l, dC, dI, ad, ac, sK, sV⟩, p, e, R, s, m, args, below, meth, c, A, cells, slots, Fin⟩ := X
  obtain ⟨cc, own, y, nL, ret, d⟩ := M
  intro C H locs la hP hS hl
  have k := fun la2 h2 => k C H locs la2 hP hS h2
  obtain ⟨hx, hb, hr, hlk, hml, hown, hts, hK, hD, hSX, hc1, hc2, hd1, hd2⟩ := C
  show W p l e R s m args below meth c H locs cells slots Fin (F0 m pc la (.long (Int64.ofInt (x)) :: st.map (cv ad sK)))
  refine lv_lstore hx hb hd hl hn rfl (fun la2 h2 => ?_)
  exact k la2 (lcl_set2 (ls := a0 :: a1 :: a2 :: a3 :: a4 :: a5 :: a6 :: a7 :: a8 :: a9 :: a10 :: a11 :: old :: old2 :: t) (i := 12) (v := vl (x)) (by simp) (fun j w e h => by obtain rfl : j = 11 := (by omega); cases h; exact hp) h2)
theorem V_istore_13 {X : ZX} {M : MD} {pc : Nat} {st : List AV} {μ : Mem} {a0 a1 a2 a3 a4 a5 a6 a7 a8 a9 a10 a11 a12 old : AV} {t : List AV} {x : Int} (hd : decode M.1 pc = .ok (.istore 13, 2)) (hn : 13 < M.2.2.2.1) (hp : isL a12 = false) (k : V X M (pc + 2) (a0 :: a1 :: a2 :: a3 :: a4 :: a5 :: a6 :: a7 :: a8 :: a9 :: a10 :: a11 :: a12 :: vi (x) :: t) st μ) : V X M pc (a0 :: a1 :: a2 :: a3 :: a4 :: a5 :: a6 :: a7 :: a8 :: a9 :: a10 :: a11 :: a12 :: old :: t) (vi (x) :: st) μ := by
  obtain ⟨⟨l, dC, dI, ad, ac, sK, sV⟩, p, e, R, s, m, args, below, meth, c, A, cells, slots, Fin⟩ := X
  obtain ⟨cc, own, y, nL, ret, d⟩ := M
  intro C H locs la hP hS hl
  have k := fun la2 h2 => k C H locs la2 hP hS h2
  obtain ⟨hx, hb, hr, hlk, hml, hown, hts, hK, hD, hSX, hc1, hc2, hd1, hd2⟩ := C
  show W p l e R s m args below meth c H locs cells slots Fin (F0 m pc la (.int (Int32.ofInt (x)) :: st.map (cv ad sK)))
  refine lv_istore hx hb hd hl hn rfl (fun la2 h2 => ?_)
  exact k la2 (lcl_set1 (ls := a0 :: a1 :: a2 :: a3 :: a4 :: a5 :: a6 :: a7 :: a8 :: a9 :: a10 :: a11 :: a12 :: old :: t) (i := 13) (v := vi (x)) (by simp) (fun j w e h => by obtain rfl : j = 12 := (by omega); cases h; exact hp) h2)
theorem V_lstore_13 {X : ZX} {M : MD} {pc : Nat} {st : List AV} {μ : Mem} {a0 a1 a2 a3 a4 a5 a6 a7 a8 a9 a10 a11 a12 old old2 : AV} {t : List AV} {x : Int} (hd : decode M.1 pc = .ok (.lstore 13, 2)) (hn : 14 < M.2.2.2.1) (hp : isL a12 = false) (k : V X M (pc + 2) (a0 :: a1 :: a2 :: a3 :: a4 :: a5 :: a6 :: a7 :: a8 :: a9 :: a10 :: a11 :: a12 :: vl (x) :: un :: t) st μ) : V X M pc (a0 :: a1 :: a2 :: a3 :: a4 :: a5 :: a6 :: a7 :: a8 :: a9 :: a10 :: a11 :: a12 :: old :: old2 :: t) (vl (x) :: st) μ := by
  obtain ⟨⟨l, dC, dI, ad, ac, sK, sV⟩, p, e, R, s, m, args, below, meth, c, A, cells, slots, Fin⟩ := X
  obtain ⟨cc, own, y, nL, ret, d⟩ := M
  intro C H locs la hP hS hl
  have k := fun la2 h2 => k C H locs la2 hP hS h2
  obtain ⟨hx, hb, hr, hlk, hml, hown, hts, hK, hD, hSX, hc1, hc2, hd1, hd2⟩ := C
  show W p l e R s m args below meth c H locs cells slots Fin (F0 m pc la (.long (Int64.ofInt (x)) :: st.map (cv ad sK)))
  refine lv_lstore hx hb hd hl hn rfl (fun la2 h2 => ?_)
  exact k la2 (lcl_set2 (ls := a0 :: a1 :: a2 :: a3 :: a4 :: a5 :: a6 :: a7 :: a8 :: a9 :: a10 :: a11 :: a12 :: old :: old2 :: t) (i := 13) (v := vl (x)) (by simp) (fun j w e h => by obtain rfl : j = 12 := (by omega); cases h; exact hp) h2)
theorem V_istore_14 {X : ZX} {M : MD} {pc : Nat} {st : List AV} {μ : Mem} {a0 a1 a2 a3 a4 a5 a6 a7 a8 a9 a10 a11 a12 a13 old : AV} {t : List AV} {x : Int} (hd : decode M.1 pc = .ok (.istore 14, 2)) (hn : 14 < M.2.2.2.1) (hp : isL a13 = false) (k : V X M (pc + 2) (a0 :: a1 :: a2 :: a3 :: a4 :: a5 :: a6 :: a7 :: a8 :: a9 :: a10 :: a11 :: a12 :: a13 :: vi (x) :: t) st μ) : V X M pc (a0 :: a1 :: a2 :: a3 :: a4 :: a5 :: a6 :: a7 :: a8 :: a9 :: a10 :: a11 :: a12 :: a13 :: old :: t) (vi (x) :: st) μ := by
  obtain ⟨⟨l, dC, dI, ad, ac, sK, sV⟩, p, e, R, s, m, args, below, meth, c, A, cells, slots, Fin⟩ := X
  obtain ⟨cc, own, y, nL, ret, d⟩ := M
  intro C H locs la hP hS hl
  have k := fun la2 h2 => k C H locs la2 hP hS h2
  obtain ⟨hx, hb, hr, hlk, hml, hown, hts, hK, hD, hSX, hc1, hc2, hd1, hd2⟩ := C
  show W p l e R s m args below meth c H locs cells slots Fin (F0 m pc la (.int (Int32.ofInt (x)) :: st.map (cv ad sK)))
  refine lv_istore hx hb hd hl hn rfl (fun la2 h2 => ?_)
  exact k la2 (lcl_set1 (ls := a0 :: a1 :: a2 :: a3 :: a4 :: a5 :: a6 :: a7 :: a8 :: a9 :: a10 :: a11 :: a12 :: a13 :: old :: t) (i := 14) (v := vi (x)) (by simp) (fun j w e h => by obtain rfl : j = 13 := (by omega); cases h; exact hp) h2)
theorem V_lstore_14 {X : ZX} {M : MD} {pc : Nat} {st : List AV} {μ : Mem} {a0 a1 a2 a3 a4 a5 a6 a7 a8 a9 a10 a11 a12 a13 old old2 : AV} {t : List AV} {x : Int} (hd : decode M.1 pc = .ok (.lstore 14, 2)) (hn : 15 < M.2.2.2.1) (hp : isL a13 = false) (k : V X M (pc + 2) (a0 :: a1 :: a2 :: a3 :: a4 :: a5 :: a6 :: a7 :: a8 :: a9 :: a10 :: a11 :: a12 :: a13 :: vl (x) :: un :: t) st μ) : V X M pc (a0 :: a1 :: a2 :: a3 :: a4 :: a5 :: a6 :: a7 :: a8 :: a9 :: a10 :: a11 :: a12 :: a13 :: old :: old2 :: t) (vl (x) :: st) μ := by
  obtain ⟨⟨l, dC, dI, ad, ac, sK, sV⟩, p, e, R, s, m, args, below, meth, c, A, cells, slots, Fin⟩ := X
  obtain ⟨cc, own, y, nL, ret, d⟩ := M
  intro C H locs la hP hS hl
  have k := fun la2 h2 => k C H locs la2 hP hS h2
  obtain ⟨hx, hb, hr, hlk, hml, hown, hts, hK, hD, hSX, hc1, hc2, hd1, hd2⟩ := C
  show W p l e R s m args below meth c H locs cells slots Fin (F0 m pc la (.long (Int64.ofInt (x)) :: st.map (cv ad sK)))
  refine lv_lstore hx hb hd hl hn rfl (fun la2 h2 => ?_)
  exact k la2 (lcl_set2 (ls := a0 :: a1 :: a2 :: a3 :: a4 :: a5 :: a6 :: a7 :: a8 :: a9 :: a10 :: a11 :: a12 :: a13 :: old :: old2 :: t) (i := 14) (v := vl (x)) (by simp) (fun j w e h => by obtain rfl : j = 13 := (by omega); cases h; exact hp) h2)
theorem V_astore_1 {X : ZX} {M : MD} {pc : Nat} {st : List AV} {μ : Mem} {a0 old : AV} {t : List AV} {x : Nat} (hd : decode M.1 pc = .ok (.astore_n 1, 1)) (hn : 1 < M.2.2.2.1) (hp : isL a0 = false) (k : V X M (pc + 1) (a0 :: vr x :: t) st μ) : V X M pc (a0 :: old :: t) (vr x :: st) μ := by
  obtain ⟨⟨l, dC, dI, ad, ac, sK, sV⟩, p, e, R, s, m, args, below, meth, c, A, cells, slots, Fin⟩ := X
  obtain ⟨cc, own, y, nL, ret, d⟩ := M
  intro C H locs la hP hS hl
  have k := fun la2 h2 => k C H locs la2 hP hS h2
  obtain ⟨hx, hb, hr, hlk, hml, hown, hts, hK, hD, hSX, hc1, hc2, hd1, hd2⟩ := C
  show W p l e R s m args below meth c H locs cells slots Fin (F0 m pc la (.ref (ad x) :: st.map (cv ad sK)))
  refine lv_astore_n hx hb hd rfl hl hn rfl (fun la2 h2 => ?_)
  exact k la2 (lcl_set1 (ls := a0 :: old :: t) (i := 1) (v := vr x) (by simp) (fun j w e h => by obtain rfl : j = 0 := (by omega); cases h; exact hp) h2)
theorem V_astore_2 {X : ZX} {M : MD} {pc : Nat} {st : List AV} {μ : Mem} {a0 a1 old : AV} {t : List AV} {x : Nat} (hd : decode M.1 pc = .ok (.astore_n 2, 1)) (hn : 2 < M.2.2.2.1) (hp : isL a1 = false) (k : V X M (pc + 1) (a0 :: a1 :: vr x :: t) st μ) : V X M pc (a0 :: a1 :: old :: t) (vr x :: st) μ := by
  obtain ⟨⟨l, dC, dI, ad, ac, sK, sV⟩, p, e, R, s, m, args, below, meth, c, A, cells, slots, Fin⟩ := X
  obtain ⟨cc, own, y, nL, ret, d⟩ := M
  intro C H locs la hP hS hl
  have k := fun la2 h2 => k C H locs la2 hP hS h2
  obtain ⟨hx, hb, hr, hlk, hml, hown, hts, hK, hD, hSX, hc1, hc2, hd1, hd2⟩ := C
  show W p l e R s m args below meth c H locs cells slots Fin (F0 m pc la (.ref (ad x) :: st.map (cv ad sK)))
  refine lv_astore_n hx hb hd rfl hl hn rfl (fun la2 h2 => ?_)
  exact k la2 (lcl_set1 (ls := a0 :: a1 :: old :: t) (i := 2) (v := vr x) (by simp) (fun j w e h => by obtain rfl : j = 1 := (by omega); cases h; exact hp) h2)
theorem V_iinc_0 {X : ZX} {M : MD} {pc : Nat} {st : List AV} {μ : Mem} {t : List AV} {x n : Int} (hd : decode M.1 pc = .ok (.iinc 0 n, 3)) (hn : 0 < M.2.2.2.1)  (k : V X M (pc + 3) (vi (x + n) :: t) st μ) : V X M pc (vi x :: t) st μ := by
  obtain ⟨⟨l, dC, dI, ad, ac, sK, sV⟩, p, e, R, s, m, args, below, meth, c, A, cells, slots, Fin⟩ := X
  obtain ⟨cc, own, y, nL, ret, d⟩ := M
  intro C H locs la hP hS hl
  have k := fun la2 h2 => k C H locs la2 hP hS h2
  obtain ⟨hx, hb, hr, hlk, hml, hown, hts, hK, hD, hSX, hc1, hc2, hd1, hd2⟩ := C
  show W p l e R s m args below meth c H locs cells slots Fin (F0 m pc la (st.map (cv ad sK)))
  obtain ⟨j, hj⟩ := List.getElem?_of_mem ((lcl_mem (vi x :: t) 0).mpr ⟨0, vi x, rfl, rfl, rfl⟩ : (0 + 0, cv ad sK (vi x)) ∈ _)
  refine lv_iinc (v := Int32.ofInt (x + n)) hx hb hd hl (k := j) hj (zi_add x n) hn rfl (fun la2 h2 => ?_)
  exact k la2 (lcl_set1 (ls := vi x :: t) (i := 0) (v := vi (x + n)) (by simp) (fun j w e h => by omega) h2)
theorem V_iinc_1 {X : ZX} {M : MD} {pc : Nat} {st : List AV} {μ : Mem} {a0 : AV} {t : List AV} {x n : Int} (hd : decode M.1 pc = .ok (.iinc 1 n, 3)) (hn : 1 < M.2.2.2.1) (hp : isL a0 = false) (k : V X M (pc + 3) (a0 :: vi (x + n) :: t) st μ) : V X M pc (a0 :: vi x :: t) st μ := by
  obtain ⟨⟨l, dC, dI, ad, ac, sK, sV⟩, p, e, R, s, m, args, below, meth, c, A, cells, slots, Fin⟩ := X
  obtain ⟨cc, own, y, nL, ret, d⟩ := M
  intro C H locs la hP hS hl
  have k := fun la2 h2 => k C H locs la2 hP hS h2
  obtain ⟨hx, hb, hr, hlk, hml, hown, hts, hK, hD, hSX, hc1, hc2, hd1, hd2⟩ := C
  show W p l e R s m args below meth c H locs cells slots Fin (F0 m pc la (st.map (cv ad sK)))
  obtain ⟨j, hj⟩ := List.getElem?_of_mem ((lcl_mem (a0 :: vi x :: t) 0).mpr ⟨1, vi x, rfl, rfl, rfl⟩ : (0 + 1, cv ad sK (vi x)) ∈ _)
  refine lv_iinc (v := Int32.ofInt (x + n)) hx hb hd hl (k := j) hj (zi_add x n) hn rfl (fun la2 h2 => ?_)
  exact k la2 (lcl_set1 (ls := a0 :: vi x :: t) (i := 1) (v := vi (x + n)) (by simp) (fun j w e h => by obtain rfl : j = 0 := (by omega); cases h; exact hp) h2)
theorem V_iinc_2 {X : ZX} {M : MD} {pc : Nat} {st : List AV} {μ : Mem} {a0 a1 : AV} {t : List AV} {x n : Int} (hd : decode M.1 pc = .ok (.iinc 2 n, 3)) (hn : 2 < M.2.2.2.1) (hp : isL a1 = false) (k : V X M (pc + 3) (a0 :: a1 :: vi (x + n) :: t) st μ) : V X M pc (a0 :: a1 :: vi x :: t) st μ := by
  obtain ⟨⟨l, dC, dI, ad, ac, sK, sV⟩, p, e, R, s, m, args, below, meth, c, A, cells, slots, Fin⟩ := X
  obtain ⟨cc, own, y, nL, ret, d⟩ := M
  intro C H locs la hP hS hl
  have k := fun la2 h2 => k C H locs la2 hP hS h2
  obtain ⟨hx, hb, hr, hlk, hml, hown, hts, hK, hD, hSX, hc1, hc2, hd1, hd2⟩ := C
  show W p l e R s m args below meth c H locs cells slots Fin (F0 m pc la (st.map (cv ad sK)))
  obtain ⟨j, hj⟩ := List.getElem?_of_mem ((lcl_mem (a0 :: a1 :: vi x :: t) 0).mpr ⟨2, vi x, rfl, rfl, rfl⟩ : (0 + 2, cv ad sK (vi x)) ∈ _)
  refine lv_iinc (v := Int32.ofInt (x + n)) hx hb hd hl (k := j) hj (zi_add x n) hn rfl (fun la2 h2 => ?_)
  exact k la2 (lcl_set1 (ls := a0 :: a1 :: vi x :: t) (i := 2) (v := vi (x + n)) (by simp) (fun j w e h => by obtain rfl : j = 1 := (by omega); cases h; exact hp) h2)
theorem V_iinc_3 {X : ZX} {M : MD} {pc : Nat} {st : List AV} {μ : Mem} {a0 a1 a2 : AV} {t : List AV} {x n : Int} (hd : decode M.1 pc = .ok (.iinc 3 n, 3)) (hn : 3 < M.2.2.2.1) (hp : isL a2 = false) (k : V X M (pc + 3) (a0 :: a1 :: a2 :: vi (x + n) :: t) st μ) : V X M pc (a0 :: a1 :: a2 :: vi x :: t) st μ := by
  obtain ⟨⟨l, dC, dI, ad, ac, sK, sV⟩, p, e, R, s, m, args, below, meth, c, A, cells, slots, Fin⟩ := X
  obtain ⟨cc, own, y, nL, ret, d⟩ := M
  intro C H locs la hP hS hl
  have k := fun la2 h2 => k C H locs la2 hP hS h2
  obtain ⟨hx, hb, hr, hlk, hml, hown, hts, hK, hD, hSX, hc1, hc2, hd1, hd2⟩ := C
  show W p l e R s m args below meth c H locs cells slots Fin (F0 m pc la (st.map (cv ad sK)))
  obtain ⟨j, hj⟩ := List.getElem?_of_mem ((lcl_mem (a0 :: a1 :: a2 :: vi x :: t) 0).mpr ⟨3, vi x, rfl, rfl, rfl⟩ : (0 + 3, cv ad sK (vi x)) ∈ _)
  refine lv_iinc (v := Int32.ofInt (x + n)) hx hb hd hl (k := j) hj (zi_add x n) hn rfl (fun la2 h2 => ?_)
  exact k la2 (lcl_set1 (ls := a0 :: a1 :: a2 :: vi x :: t) (i := 3) (v := vi (x + n)) (by simp) (fun j w e h => by obtain rfl : j = 2 := (by omega); cases h; exact hp) h2)
theorem V_iinc_4 {X : ZX} {M : MD} {pc : Nat} {st : List AV} {μ : Mem} {a0 a1 a2 a3 : AV} {t : List AV} {x n : Int} (hd : decode M.1 pc = .ok (.iinc 4 n, 3)) (hn : 4 < M.2.2.2.1) (hp : isL a3 = false) (k : V X M (pc + 3) (a0 :: a1 :: a2 :: a3 :: vi (x + n) :: t) st μ) : V X M pc (a0 :: a1 :: a2 :: a3 :: vi x :: t) st μ := by
  obtain ⟨⟨l, dC, dI, ad, ac, sK, sV⟩, p, e, R, s, m, args, below, meth, c, A, cells, slots, Fin⟩ := X
  obtain ⟨cc, own, y, nL, ret, d⟩ := M
  intro C H locs la hP hS hl
  have k := fun la2 h2 => k C H locs la2 hP hS h2
  obtain ⟨hx, hb, hr, hlk, hml, hown, hts, hK, hD, hSX, hc1, hc2, hd1, hd2⟩ := C
  show W p l e R s m args below meth c H locs cells slots Fin (F0 m pc la (st.map (cv ad sK)))
  obtain ⟨j, hj⟩ := List.getElem?_of_mem ((lcl_mem (a0 :: a1 :: a2 :: a3 :: vi x :: t) 0).mpr ⟨4, vi x, rfl, rfl, rfl⟩ : (0 + 4, cv ad sK (vi x)) ∈ _)
  refine lv_iinc (v := Int32.ofInt (x + n)) hx hb hd hl (k := j) hj (zi_add x n) hn rfl (fun la2 h2 => ?_)
  exact k la2 (lcl_set1 (ls := a0 :: a1 :: a2 :: a3 :: vi x :: t) (i := 4) (v := vi (x + n)) (by simp) (fun j w e h => by obtain rfl : j = 3 := (by omega); cases h; exact hp) h2)
theorem V_iinc_5 {X : ZX} {M : MD} {pc : Nat} {st : List AV} {μ : Mem} {a0 a1 a2 a3 a4 : AV} {t : List AV} {x n : Int} (hd : decode M.1 pc = .ok (.iinc 5 n, 3)) (hn : 5 < M.2.2.2.1) (hp : isL a4 = false) (k : V X M (pc + 3) (a0 :: a1 :: a2 :: a3 :: a4 :: vi (x + n) :: t) st μ) : V X M pc (a0 :: a1 :: a2 :: a3 :: a4 :: vi x :: t) st μ := by
  obtain ⟨⟨l, dC, dI, ad, ac, sK, sV⟩, p, e, R, s, m, args, below, meth, c, A, cells, slots, Fin⟩ := X
  obtain ⟨cc, own, y, nL, ret, d⟩ := M
  intro C H locs la hP hS hl
  have k := fun la2 h2 => k C H locs la2 hP hS h2
  obtain ⟨hx, hb, hr, hlk, hml, hown, hts, hK, hD, hSX, hc1, hc2, hd1, hd2⟩ := C
  show W p l e R s m args below meth c H locs cells slots Fin (F0 m pc la (st.map (cv ad sK)))
  obtain ⟨j, hj⟩ := List.getElem?_of_mem ((lcl_mem (a0 :: a1 :: a2 :: a3 :: a4 :: vi x :: t) 0).mpr ⟨5, vi x, rfl, rfl, rfl⟩ : (0 + 5, cv ad sK (vi x)) ∈ _)
  refine lv_iinc (v := Int32.ofInt (x + n)) hx hb hd hl (k := j) hj (zi_add x n) hn rfl (fun la2 h2 => ?_)
  exact k la2 (lcl_set1 (ls := a0 :: a1 :: a2 :: a3 :: a4 :: vi x :: t) (i := 5) (v := vi (x + n)) (by simp) (fun j w e h => by obtain rfl : j = 4 := (by omega); cases h; exact hp) h2)
theorem V_iinc_6 {X : ZX} {M : MD} {pc : Nat} {st : List AV} {μ : Mem} {a0 a1 a2 a3 a4 a5 : AV} {t : List AV} {x n : Int} (hd : decode M.1 pc = .ok (.iinc 6 n, 3)) (hn : 6 < M.2.2.2.1) (hp : isL a5 = false) (k : V X M (pc + 3) (a0 :: a1 :: a2 :: a3 :: a4 :: a5 :: vi (x + n) :: t) st μ) : V X M pc (a0 :: a1 :: a2 :: a3 :: a4 :: a5 :: vi x :: t) st μ := by
  obtain ⟨⟨l, dC, dI, ad, ac, sK, sV⟩, p, e, R, s, m, args, below, meth, c, A, cells, slots, Fin⟩ := X
  obtain ⟨cc, own, y, nL, ret, d⟩ := M
  intro C H locs la hP hS hl
  have k := fun la2 h2 => k C H locs la2 hP hS h2
  obtain ⟨hx, hb, hr, hlk, hml, hown, hts, hK, hD, hSX, hc1, hc2, hd1, hd2⟩ := C
  show W p l e R s m args below meth c H locs cells slots Fin (F0 m pc la (st.map (cv ad sK)))
  obtain ⟨j, hj⟩ := List.getElem?_of_mem ((lcl_mem (a0 :: a1 :: a2 :: a3 :: a4 :: a5 :: vi x :: t) 0).mpr ⟨6, vi x, rfl, rfl, rfl⟩ : (0 + 6, cv ad sK (vi x)) ∈ _)
  refine lv_iinc (v := Int32.ofInt (x + n)) hx hb hd hl (k := j) hj (zi_add x n) hn rfl (fun la2 h2 => ?_)
  exact k la2 (lcl_set1 (ls := a0 :: a1 :: a2 :: a3 :: a4 :: a5 :: vi x :: t) (i := 6) (v := vi (x + n)) (by simp) (fun j w e h => by obtain rfl : j = 5 := (by omega); cases h; exact hp) h2)
theorem V_iinc_7 {X : ZX} {M : MD} {pc : Nat} {st : List AV} {μ : Mem} {a0 a1 a2 a3 a4 a5 a6 : AV} {t : List AV} {x n : Int} (hd : decode M.1 pc = .ok (.iinc 7 n, 3)) (hn : 7 < M.2.2.2.1) (hp : isL a6 = false) (k : V X M (pc + 3) (a0 :: a1 :: a2 :: a3 :: a4 :: a5 :: a6 :: vi (x + n) :: t) st μ) : V X M pc (a0 :: a1 :: a2 :: a3 :: a4 :: a5 :: a6 :: vi x :: t) st μ := by
  obtain ⟨⟨l, dC, dI, ad, ac, sK, sV⟩, p, e, R, s, m, args, below, meth, c, A, cells, slots, Fin⟩ := X
  obtain ⟨cc, own, y, nL, ret, d⟩ := M
  intro C H locs la hP hS hl
  have k := fun la2 h2 => k C H locs la2 hP hS h2
  obtain ⟨hx, hb, hr, hlk, hml, hown, hts, hK, hD, hSX, hc1, hc2, hd1, hd2⟩ := C
  show W p l e R s m args below meth c H locs cells slots Fin (F0 m pc la (st.map (cv ad sK)))
  obtain ⟨j, hj⟩ := List.getElem?_of_mem ((lcl_mem (a0 :: a1 :: a2 :: a3 :: a4 :: a5 :: a6 :: vi x :: t) 0).mpr ⟨7, vi x, rfl, rfl, rfl⟩ : (0 + 7, cv ad sK (vi x)) ∈ _)
  refine lv_iinc (v := Int32.ofInt (x + n)) hx hb hd hl (k := j) hj (zi_add x n) hn rfl (fun la2 h2 => ?_)
  exact k la2 (lcl_set1 (ls := a0 :: a1 :: a2 :: a3 :: a4 :: a5 :: a6 :: vi x :: t) (i := 7) (v := vi (x + n)) (by simp) (fun j w e h => by obtain rfl : j = 6 := (by omega); cases h; exact hp) h2)
theorem V_iinc_8 {X : ZX} {M : MD} {pc : Nat} {st : List AV} {μ : Mem} {a0 a1 a2 a3 a4 a5 a6 a7 : AV} {t : List AV} {x n : Int} (hd : decode M.1 pc = .ok (.iinc 8 n, 3)) (hn : 8 < M.2.2.2.1) (hp : isL a7 = false) (k : V X M (pc + 3) (a0 :: a1 :: a2 :: a3 :: a4 :: a5 :: a6 :: a7 :: vi (x + n) :: t) st μ) : V X M pc (a0 :: a1 :: a2 :: a3 :: a4 :: a5 :: a6 :: a7 :: vi x :: t) st μ := by
  obtain ⟨⟨l, dC, dI, ad, ac, sK, sV⟩, p, e, R, s, m, args, below, meth, c, A, cells, slots, Fin⟩ := X
  obtain ⟨cc, own, y, nL, ret, d⟩ := M
  intro C H locs la hP hS hl
  have k := fun la2 h2 => k C H locs la2 hP hS h2
  obtain ⟨hx, hb, hr, hlk, hml, hown, hts, hK, hD, hSX, hc1, hc2, hd1, hd2⟩ := C
  show W p l e R s m args below meth c H locs cells slots Fin (F0 m pc la (st.map (cv ad sK)))
  obtain ⟨j, hj⟩ := List.getElem?_of_mem ((lcl_mem (a0 :: a1 :: a2 :: a3 :: a4 :: a5 :: a6 :: a7 :: vi x :: t) 0).mpr ⟨8, vi x, rfl, rfl, rfl⟩ : (0 + 8, cv ad sK (vi x)) ∈ _)
  refine lv_iinc (v := Int32.ofInt (x + n)) hx hb hd hl (k := j) hj (zi_add x n) hn rfl (fun la2 h2 => ?_)
  exact k la2 (lcl_set1 (ls := a0 :: a1 :: a2 :: a3 :: a4 :: a5 :: a6 :: a7 :: vi x :: t) (i := 8) (v := vi (x + n)) (by simp) (fun j w e h => by obtain rfl : j = 7 := (by omega); cases h; exact hp) h2)
theorem V_iinc_9 {X : ZX} {M : MD} {pc : Nat} {st : List AV} {μ : Mem} {a0 a1 a2 a3 a4 a5 a6 a7 a8 : AV} {t : List AV} {x n : Int} (hd : decode M.1 pc = .ok (.iinc 9 n, 3)) (hn : 9 < M.2.2.2.1) (hp : isL a8 = false) (k : V X M (pc + 3) (a0 :: a1 :: a2 :: a3 :: a4 :: a5 :: a6 :: a7 :: a8 :: vi (x + n) :: t) st μ) : V X M pc (a0 :: a1 :: a2 :: a3 :: a4 :: a5 :: a6 :: a7 :: a8 :: vi x :: t) st μ := by
  obtain ⟨⟨l, dC, dI, ad, ac, sK, sV⟩, p, e, R, s, m, args, below, meth, c, A, cells, slots, Fin⟩ := X
  obtain ⟨cc, own, y, nL, ret, d⟩ := M
  intro C H locs la hP hS hl
  have k := fun la2 h2 => k C H locs la2 hP hS h2
  obtain ⟨hx, hb, hr, hlk, hml, hown, hts, hK, hD, hSX, hc1, hc2, hd1, hd2⟩ := C
  show W p l e R s m args below meth c H locs cells slots Fin (F0 m pc la (st.map (cv ad sK)))
  obtain ⟨j, hj⟩ := List.getElem?_of_mem ((lcl_mem (a0 :: a1 :: a2 :: a3 :: a4 :: a5 :: a6 :: a7 :: a8 :: vi x :: t) 0).mpr ⟨9, vi x, rfl, rfl, rfl⟩ : (0 + 9, cv ad sK (vi x)) ∈ _)
  refine lv_iinc (v := Int32.ofInt (x + n)) hx hb hd hl (k := j) hj (zi_add x n) hn rfl (fun la2 h2 => ?_)
  exact k la2 (lcl_set1 (ls := a0 :: a1 :: a2 :: a3 :: a4 :: a5 :: a6 :: a7 :: a8 :: vi x :: t) (i := 9) (v := vi (x + n)) (by simp) (fun j w e h => by obtain rfl : j = 8 := (by omega); cases h; exact hp) h2)
theorem V_iinc_10 {X : ZX} {M : MD} {pc : Nat} {st : List AV} {μ : Mem} {a0 a1 a2 a3 a4 a5 a6 a7 a8 a9 : AV} {t : List AV} {x n : Int} (hd : decode M.1 pc = .ok (.iinc 10 n, 3)) (hn : 10 < M.2.2.2.1) (hp : isL a9 = false) (k : V X M (pc + 3) (a0 :: a1 :: a2 :: a3 :: a4 :: a5 :: a6 :: a7 :: a8 :: a9 :: vi (x + n) :: t) st μ) : V X M pc (a0 :: a1 :: a2 :: a3 :: a4 :: a5 :: a6 :: a7 :: a8 :: a9 :: vi x :: t) st μ := by
  obtain ⟨⟨l, dC, dI, ad, ac, sK, sV⟩, p, e, R, s, m, args, below, meth, c, A, cells, slots, Fin⟩ := X
  obtain ⟨cc, own, y, nL, ret, d⟩ := M
  intro C H locs la hP hS hl
  have k := fun la2 h2 => k C H locs la2 hP hS h2
  obtain ⟨hx, hb, hr, hlk, hml, hown, hts, hK, hD, hSX, hc1, hc2, hd1, hd2⟩ := C
  show W p l e R s m args below meth c H locs cells slots Fin (F0 m pc la (st.map (cv ad sK)))
  obtain ⟨j, hj⟩ := List.getElem?_of_mem ((lcl_mem (a0 :: a1 :: a2 :: a3 :: a4 :: a5 :: a6 :: a7 :: a8 :: a9 :: vi x :: t) 0).mpr ⟨10, vi x, rfl, rfl, rfl⟩ : (0 + 10, cv ad sK (vi x)) ∈ _)
  refine lv_iinc (v := Int32.ofInt (x + n)) hx hb hd hl (k := j) hj (zi_add x n) hn rfl (fun la2 h2 => ?_)
  exact k la2 (lcl_set1 (ls := a0 :: a1 :: a2 :: a3 :: a4 :: a5 :: a6 :: a7 :: a8 :: a9 :: vi x :: t) (i := 10) (v := vi (x + n)) (by simp) (fun j w e h => by obtain rfl : j = 9 := (by omega); cases h; exact hp) h2)
theorem V_iinc_11 {X : ZX} {M : MD} {pc : Nat} {st : List AV} {μ : Mem} {a0 a1 a2 a3 a4 a5 a6 a7 a8 a9 a10 : AV} {t : List AV} {x n : Int} (hd : decode M.1 pc = .ok (.iinc 11 n, 3)) (hn : 11 < M.2.2.2.1) (hp : isL a10 = false) (k : V X M (pc + 3) (a0 :: a1 :: a2 :: a3 :: a4 :: a5 :: a6 :: a7 :: a8 :: a9 :: a10 :: vi (x + n) :: t) st μ) : V X M pc (a0 :: a1 :: a2 :: a3 :: a4 :: a5 :: a6 :: a7 :: a8 :: a9 :: a10 :: vi x :: t) st μ := by
  obtain ⟨⟨l, dC, dI, ad, ac, sK, sV⟩, p, e, R, s, m, args, below, meth, c, A, cells, slots, Fin⟩ := X
  obtain ⟨cc, own, y, nL, ret, d⟩ := M
  intro C H locs la hP hS hl
  have k := fun la2 h2 => k C H locs la2 hP hS h2
  obtain ⟨hx, hb, hr, hlk, hml, hown, hts, hK, hD, hSX, hc1, hc2, hd1, hd2⟩ := C
  show W p l e R s m args below meth c H locs cells slots Fin (F0 m pc la (st.map (cv ad sK)))
  obtain ⟨j, hj⟩ := List.getElem?_of_mem ((lcl_mem (a0 :: a1 :: a2 :: a3 :: a4 :: a5 :: a6 :: a7 :: a8 :: a9 :: a10 :: vi x :: t) 0).mpr ⟨11, vi x, rfl, rfl, rfl⟩ : (0 + 11, cv ad sK (vi x)) ∈ _)
  refine lv_iinc (v := Int32.ofInt (x + n)) hx hb hd hl (k := j) hj (zi_add x n) hn rfl (fun la2 h2 => ?_)
  exact k la2 (lcl_set1 (ls := a0 :: a1 :: a2 :: a3 :: a4 :: a5 :: a6 :: a7 :: a8 :: a9 :: a10 :: vi x :: t) (i := 11) (v := vi (x + n)) (by simp) (fun j w e h => by obtain rfl : j = 10 := (by omega); cases h; exact hp) h2)
theorem V_iinc_12 {X : ZX} {M : MD} {pc : Nat} {st : List AV} {μ : Mem} {a0 a1 a2 a3 a4 a5 a6 a7 a8 a9 a10 a11 : AV} {t : List AV} {x n : Int} (hd : decode M.1 pc = .ok (.iinc 12 n, 3)) (hn : 12 < M.2.2.2.1) (hp : isL a11 = false) (k : V X M (pc + 3) (a0 :: a1 :: a2 :: a3 :: a4 :: a5 :: a6 :: a7 :: a8 :: a9 :: a10 :: a11 :: vi (x + n) :: t) st μ) : V X M pc (a0 :: a1 :: a2 :: a3 :: a4 :: a5 :: a6 :: a7 :: a8 :: a9 :: a10 :: a11 :: vi x :: t) st μ := by
  obtain ⟨⟨l, dC, dI, ad, ac, sK, sV⟩, p, e, R, s, m, args, below, meth, c, A, cells, slots, Fin⟩ := X
  obtain ⟨cc, own, y, nL, ret, d⟩ := M
  intro C H locs la hP hS hl
  have k := fun la2 h2 => k C H locs la2 hP hS h2
  obtain ⟨hx, hb, hr, hlk, hml, hown, hts, hK, hD, hSX, hc1, hc2, hd1, hd2⟩ := C
  show W p l e R s m args below meth c H locs cells slots Fin (F0 m pc la (st.map (cv ad sK)))
  obtain ⟨j, hj⟩ := List.getElem?_of_mem ((lcl_mem (a0 :: a1 :: a2 :: a3 :: a4 :: a5 :: a6 :: a7 :: a8 :: a9 :: a10 :: a11 :: vi x :: t) 0).mpr ⟨12, vi x, rfl, rfl, rfl⟩ : (0 + 12, cv ad sK (vi x)) ∈ _)
  refine lv_iinc (v := Int32.ofInt (x + n)) hx hb hd hl (k := j) hj (zi_add x n) hn rfl (fun la2 h2 => ?_)
  exact k la2 (lcl_set1 (ls := a0 :: a1 :: a2 :: a3 :: a4 :: a5 :: a6 :: a7 :: a8 :: a9 :: a10 :: a11 :: vi x :: t) (i := 12) (v := vi (x + n)) (by simp) (fun j w e h => by obtain rfl : j = 11 := (by omega); cases h; exact hp) h2)
theorem V_iinc_13 {X : ZX} {M : MD} {pc : Nat} {st : List AV} {μ : Mem} {a0 a1 a2 a3 a4 a5 a6 a7 a8 a9 a10 a11 a12 : AV} {t : List AV} {x n : Int} (hd : decode M.1 pc = .ok (.iinc 13 n, 3)) (hn : 13 < M.2.2.2.1) (hp : isL a12 = false) (k : V X M (pc + 3) (a0 :: a1 :: a2 :: a3 :: a4 :: a5 :: a6 :: a7 :: a8 :: a9 :: a10 :: a11 :: a12 :: vi (x + n) :: t) st μ) : V X M pc (a0 :: a1 :: a2 :: a3 :: a4 :: a5 :: a6 :: a7 :: a8 :: a9 :: a10 :: a11 :: a12 :: vi x :: t) st μ := by
  obtain ⟨⟨l, dC, dI, ad, ac, sK, sV⟩, p, e, R, s, m, args, below, meth, c, A, cells, slots, Fin⟩ := X
  obtain ⟨cc, own, y, nL, ret, d⟩ := M
  intro C H locs la hP hS hl
  have k := fun la2 h2 => k C H locs la2 hP hS h2
  obtain ⟨hx, hb, hr, hlk, hml, hown, hts, hK, hD, hSX, hc1, hc2, hd1, hd2⟩ := C
  show W p l e R s m args below meth c H locs cells slots Fin (F0 m pc la (st.map (cv ad sK)))
  obtain ⟨j, hj⟩ := List.getElem?_of_mem ((lcl_mem (a0 :: a1 :: a2 :: a3 :: a4 :: a5 :: a6 :: a7 :: a8 :: a9 :: a10 :: a11 :: a12 :: vi x :: t) 0).mpr ⟨13, vi x, rfl, rfl, rfl⟩ : (0 + 13, cv ad sK (vi x)) ∈ _)
  refine lv_iinc (v := Int32.ofInt (x + n)) hx hb hd hl (k := j) hj (zi_add x n) hn rfl (fun la2 h2 => ?_)
  exact k la2 (lcl_set1 (ls := a0 :: a1 :: a2 :: a3 :: a4 :: a5 :: a6 :: a7 :: a8 :: a9 :: a10 :: a11 :: a12 :: vi x :: t) (i := 13) (v := vi (x + n)) (by simp) (fun j w e h => by obtain rfl : j = 12 := (by omega); cases h; exact hp) h2)
theorem V_iinc_14 {X : ZX} {M : MD} {pc : Nat} {st : List AV} {μ : Mem} {a0 a1 a2 a3 a4 a5 a6 a7 a8 a9 a10 a11 a12 a13 : AV} {t : List AV} {x n : Int} (hd : decode M.1 pc = .ok (.iinc 14 n, 3)) (hn : 14 < M.2.2.2.1) (hp : isL a13 = false) (k : V X M (pc + 3) (a0 :: a1 :: a2 :: a3 :: a4 :: a5 :: a6 :: a7 :: a8 :: a9 :: a10 :: a11 :: a12 :: a13 :: vi (x + n) :: t) st μ) : V X M pc (a0 :: a1 :: a2 :: a3 :: a4 :: a5 :: a6 :: a7 :: a8 :: a9 :: a10 :: a11 :: a12 :: a13 :: vi x :: t) st μ := by
  obtain ⟨⟨l, dC, dI, ad, ac, sK, sV⟩, p, e, R, s, m, args, below, meth, c, A, cells, slots, Fin⟩ := X
  obtain ⟨cc, own, y, nL, ret, d⟩ := M
  intro C H locs la hP hS hl
  have k := fun la2 h2 => k C H locs la2 hP hS h2
  obtain ⟨hx, hb, hr, hlk, hml, hown, hts, hK, hD, hSX, hc1, hc2, hd1, hd2⟩ := C
  show W p l e R s m args below meth c H locs cells slots Fin (F0 m pc la (st.map (cv ad sK)))
  obtain ⟨j, hj⟩ := List.getElem?_of_mem ((lcl_mem (a0 :: a1 :: a2 :: a3 :: a4 :: a5 :: a6 :: a7 :: a8 :: a9 :: a10 :: a11 :: a12 :: a13 :: vi x :: t) 0).mpr ⟨14, vi x, rfl, rfl, rfl⟩ : (0 + 14, cv ad sK (vi x)) ∈ _)
  refine lv_iinc (v := Int32.ofInt (x + n)) hx hb hd hl (k := j) hj (zi_add x n) hn rfl (fun la2 h2 => ?_)
  exact k la2 (lcl_set1 (ls := a0 :: a1 :: a2 :: a3 :: a4 :: a5 :: a6 :: a7 :: a8 :: a9 :: a10 :: a11 :: a12 :: a13 :: vi x :: t) (i := 14) (v := vi (x + n)) (by simp) (fun j w e h => by obtain rfl : j = 13 := (by omega); cases h; exact hp) h2)
theorem V_icmp_eq {X : ZX} {M : MD} {pc : Nat} {ls st : List AV} {μ : Mem} {a b off : Int} {tgt : Nat} (hd : decode M.1 pc = .ok (.if_icmp .eq off, 3)) (ht : (pc : Int) + off = (tgt : Int)) (ha : inR a) (hb0 : inR b) (kt : a = b → V X M tgt ls st μ) (kf : ¬ (a = b) → V X M (pc + 3) ls st μ) : V X M pc ls (vi (b) :: vi (a) :: st) μ := by
  obtain ⟨⟨l, dC, dI, ad, ac, sK, sV⟩, p, e, R, s, m, args, below, meth, c, A, cells, slots, Fin⟩ := X
  obtain ⟨cc, own, y, nL, ret, d⟩ := M
  intro C H locs la hP hS hl
  have kt := fun h => kt h C H locs la hP hS hl
  have kf := fun h => kf h C H locs la hP hS hl
  obtain ⟨hx, hb, hr, hlk, hml, hown, hts, hK, hD, hSX, hc1, hc2, hd1, hd2⟩ := C
  show W p l e R s m args below meth c H locs cells slots Fin (F0 m pc la (.int (Int32.ofInt (b)) :: .int (Int32.ofInt (a)) :: st.map (cv ad sK)))
  refine lv_icmp_eq hx hb hd ht (fun h => kt ?_) (fun h => kf ?_)
  · rw [zi_eq ha hb0] at h; exact h
  · rw [zi_eq ha hb0] at h; exact h
theorem V_icmp_ne {X : ZX} {M : MD} {pc : Nat} {ls st : List AV} {μ : Mem} {a b off : Int} {tgt : Nat} (hd : decode M.1 pc = .ok (.if_icmp .ne off, 3)) (ht : (pc : Int) + off = (tgt : Int)) (ha : inR a) (hb0 : inR b) (kt : ¬ a = b → V X M tgt ls st μ) (kf : ¬ (¬ a = b) → V X M (pc + 3) ls st μ) : V X M pc ls (vi (b) :: vi (a) :: st) μ := by
  obtain ⟨⟨l, dC, dI, ad, ac, sK, sV⟩, p, e, R, s, m, args, below, meth, c, A, cells, slots, Fin⟩ := X
  obtain ⟨cc, own, y, nL, ret, d⟩ := M
  intro C H locs la hP hS hl
  have kt := fun h => kt h C H locs la hP hS hl
  have kf := fun h => kf h C H locs la hP hS hl
  obtain ⟨hx, hb, hr, hlk, hml, hown, hts, hK, hD, hSX, hc1, hc2, hd1, hd2⟩ := C
  show W p l e R s m args below meth c H locs cells slots Fin (F0 m pc la (.int (Int32.ofInt (b)) :: .int (Int32.ofInt (a)) :: st.map (cv ad sK)))
  refine lv_icmp_ne hx hb hd ht (fun h => kt ?_) (fun h => kf ?_)
  · rw [zi_eq ha hb0] at h; exact h
  · rw [zi_eq ha hb0] at h; exact fun q => q h
theorem V_icmp_lt {X : ZX} {M : MD} {pc : Nat} {ls st : List AV} {μ : Mem} {a b off : Int} {tgt : Nat} (hd : decode M.1 pc = .ok (.if_icmp .lt off, 3)) (ht : (pc : Int) + off = (tgt : Int)) (ha : inR a) (hb0 : inR b) (kt : a < b → V X M tgt ls st μ) (kf : ¬ (a < b) → V X M (pc + 3) ls st μ) : V X M pc ls (vi (b) :: vi (a) :: st) μ := by
  obtain ⟨⟨l, dC, dI, ad, ac, sK, sV⟩, p, e, R, s, m, args, below, meth, c, A, cells, slots, Fin⟩ := X
  obtain ⟨cc, own, y, nL, ret, d⟩ := M
  intro C H locs la hP hS hl
  have kt := fun h => kt h C H locs la hP hS hl
  have kf := fun h => kf h C H locs la hP hS hl
  obtain ⟨hx, hb, hr, hlk, hml, hown, hts, hK, hD, hSX, hc1, hc2, hd1, hd2⟩ := C
  show W p l e R s m args below meth c H locs cells slots Fin (F0 m pc la (.int (Int32.ofInt (b)) :: .int (Int32.ofInt (a)) :: st.map (cv ad sK)))
  refine lv_icmp_lt hx hb hd ht (fun h => kt ?_) (fun h => kf ?_)
  · rw [zi_lt ha hb0] at h; exact h
  · rw [zi_lt ha hb0] at h; exact h
theorem V_icmp_ge {X : ZX} {M : MD} {pc : Nat} {ls st : List AV} {μ : Mem} {a b off : Int} {tgt : Nat} (hd : decode M.1 pc = .ok (.if_icmp .ge off, 3)) (ht : (pc : Int) + off = (tgt : Int)) (ha : inR a) (hb0 : inR b) (kt : b ≤ a → V X M tgt ls st μ) (kf : ¬ (b ≤ a) → V X M (pc + 3) ls st μ) : V X M pc ls (vi (b) :: vi (a) :: st) μ := by
  obtain ⟨⟨l, dC, dI, ad, ac, sK, sV⟩, p, e, R, s, m, args, below, meth, c, A, cells, slots, Fin⟩ := X
  obtain ⟨cc, own, y, nL, ret, d⟩ := M
  intro C H locs la hP hS hl
  have kt := fun h => kt h C H locs la hP hS hl
  have kf := fun h => kf h C H locs la hP hS hl
  obtain ⟨hx, hb, hr, hlk, hml, hown, hts, hK, hD, hSX, hc1, hc2, hd1, hd2⟩ := C
  show W p l e R s m args below meth c H locs cells slots Fin (F0 m pc la (.int (Int32.ofInt (b)) :: .int (Int32.ofInt (a)) :: st.map (cv ad sK)))
  refine lv_icmp_ge hx hb hd ht (fun h => kt ?_) (fun h => kf ?_)
  · rw [zi_le hb0 ha] at h; exact h
  · rw [zi_le hb0 ha] at h; exact h
theorem V_icmp_gt {X : ZX} {M : MD} {pc : Nat} {ls st : List AV} {μ : Mem} {a b off : Int} {tgt : Nat} (hd : decode M.1 pc = .ok (.if_icmp .gt off, 3)) (ht : (pc : Int) + off = (tgt : Int)) (ha : inR a) (hb0 : inR b) (kt : b < a → V X M tgt ls st μ) (kf : ¬ (b < a) → V X M (pc + 3) ls st μ) : V X M pc ls (vi (b) :: vi (a) :: st) μ := by
  obtain ⟨⟨l, dC, dI, ad, ac, sK, sV⟩, p, e, R, s, m, args, below, meth, c, A, cells, slots, Fin⟩ := X
  obtain ⟨cc, own, y, nL, ret, d⟩ := M
  intro C H locs la hP hS hl
  have kt := fun h => kt h C H locs la hP hS hl
  have kf := fun h => kf h C H locs la hP hS hl
  obtain ⟨hx, hb, hr, hlk, hml, hown, hts, hK, hD, hSX, hc1, hc2, hd1, hd2⟩ := C
  show W p l e R s m args below meth c H locs cells slots Fin (F0 m pc la (.int (Int32.ofInt (b)) :: .int (Int32.ofInt (a)) :: st.map (cv ad sK)))
  refine lv_icmp_gt hx hb hd ht (fun h => kt ?_) (fun h => kf ?_)
  · rw [zi_lt hb0 ha] at h; exact h
  · rw [zi_lt hb0 ha] at h; exact h
theorem V_icmp_le {X : ZX} {M : MD} {pc : Nat} {ls st : List AV} {μ : Mem} {a b off : Int} {tgt : Nat} (hd : decode M.1 pc = .ok (.if_icmp .le off, 3)) (ht : (pc : Int) + off = (tgt : Int)) (ha : inR a) (hb0 : inR b) (kt : a ≤ b → V X M tgt ls st μ) (kf : ¬ (a ≤ b) → V X M (pc + 3) ls st μ) : V X M pc ls (vi (b) :: vi (a) :: st) μ := by
  obtain ⟨⟨l, dC, dI, ad, ac, sK, sV⟩, p, e, R, s, m, args, below, meth, c, A, cells, slots, Fin⟩ := X
  obtain ⟨cc, own, y, nL, ret, d⟩ := M
  intro C H locs la hP hS hl
  have kt := fun h => kt h C H locs la hP hS hl
  have kf := fun h => kf h C H locs la hP hS hl
  obtain ⟨hx, hb, hr, hlk, hml, hown, hts, hK, hD, hSX, hc1, hc2, hd1, hd2⟩ := C
  show W p l e R s m args below meth c H locs cells slots Fin (F0 m pc la (.int (Int32.ofInt (b)) :: .int (Int32.ofInt (a)) :: st.map (cv ad sK)))
  refine lv_icmp_le hx hb hd ht (fun h => kt ?_) (fun h => kf ?_)
  · rw [zi_le ha hb0] at h; exact h
  · rw [zi_le ha hb0] at h; exact h
theorem V_if_eq {X : ZX} {M : MD} {pc : Nat} {ls st : List AV} {μ : Mem} {a off : Int} {tgt : Nat} (hd : decode M.1 pc = .ok (.ifCond .eq off, 3)) (ht : (pc : Int) + off = (tgt : Int)) (ha : inR a) (kt : a = 0 → V X M tgt ls st μ) (kf : ¬ (a = 0) → V X M (pc + 3) ls st μ) : V X M pc ls (vi (a) :: st) μ := by
  obtain ⟨⟨l, dC, dI, ad, ac, sK, sV⟩, p, e, R, s, m, args, below, meth, c, A, cells, slots, Fin⟩ := X
  obtain ⟨cc, own, y, nL, ret, d⟩ := M
  intro C H locs la hP hS hl
  have kt := fun h => kt h C H locs la hP hS hl
  have kf := fun h => kf h C H locs la hP hS hl
  obtain ⟨hx, hb, hr, hlk, hml, hown, hts, hK, hD, hSX, hc1, hc2, hd1, hd2⟩ := C
  show W p l e R s m args below meth c H locs cells slots Fin (F0 m pc la (.int (Int32.ofInt (a)) :: st.map (cv ad sK)))
  refine lv_if_eq hx hb hd ht (fun h => kt ?_) (fun h => kf ?_)
  · rw [zi_0, zi_eq ha inR_0] at h; exact h
  · rw [zi_0, zi_eq ha inR_0] at h; exact h
theorem V_if_ne {X : ZX} {M : MD} {pc : Nat} {ls st : List AV} {μ : Mem} {a off : Int} {tgt : Nat} (hd : decode M.1 pc = .ok (.ifCond .ne off, 3)) (ht : (pc : Int) + off = (tgt : Int)) (ha : inR a) (kt : ¬ a = 0 → V X M tgt ls st μ) (kf : ¬ (¬ a = 0) → V X M (pc + 3) ls st μ) : V X M pc ls (vi (a) :: st) μ := by
  obtain ⟨⟨l, dC, dI, ad, ac, sK, sV⟩, p, e, R, s, m, args, below, meth, c, A, cells, slots, Fin⟩ := X
  obtain ⟨cc, own, y, nL, ret, d⟩ := M
  intro C H locs la hP hS hl
  have kt := fun h => kt h C H locs la hP hS hl
  have kf := fun h => kf h C H locs la hP hS hl
  obtain ⟨hx, hb, hr, hlk, hml, hown, hts, hK, hD, hSX, hc1, hc2, hd1, hd2⟩ := C
  show W p l e R s m args below meth c H locs cells slots Fin (F0 m pc la (.int (Int32.ofInt (a)) :: st.map (cv ad sK)))
  refine lv_if_ne hx hb hd ht (fun h => kt ?_) (fun h => kf ?_)
  · rw [zi_0, zi_eq ha inR_0] at h; exact h
  · rw [zi_0, zi_eq ha inR_0] at h; exact fun q => q h
theorem V_if_lt {X : ZX} {M : MD} {pc : Nat} {ls st : List AV} {μ : Mem} {a off : Int} {tgt : Nat} (hd : decode M.1 pc = .ok (.ifCond .lt off, 3)) (ht : (pc : Int) + off = (tgt : Int)) (ha : inR a) (kt : a < 0 → V X M tgt ls st μ) (kf : ¬ (a < 0) → V X M (pc + 3) ls st μ) : V X M pc ls (vi (a) :: st) μ := by
  obtain ⟨⟨l, dC, dI, ad, ac, sK, sV⟩, p, e, R, s, m, args, below, meth, c, A, cells, slots, Fin⟩ := X
  obtain ⟨cc, own, y, nL, ret, d⟩ := M
  intro C H locs la hP hS hl
  have kt := fun h => kt h C H locs la hP hS hl
  have kf := fun h => kf h C H locs la hP hS hl
  obtain ⟨hx, hb, hr, hlk, hml, hown, hts, hK, hD, hSX, hc1, hc2, hd1, hd2⟩ := C
  show W p l e R s m args below meth c H locs cells slots Fin (F0 m pc la (.int (Int32.ofInt (a)) :: st.map (cv ad sK)))
  refine lv_if_lt hx hb hd ht (fun h => kt ?_) (fun h => kf ?_)
  · rw [zi_0, zi_lt ha inR_0] at h; exact h
  · rw [zi_0, zi_lt ha inR_0] at h; exact h
theorem V_if_ge {X : ZX} {M : MD} {pc : Nat} {ls st : List AV} {μ : Mem} {a off : Int} {tgt : Nat} (hd : decode M.1 pc = .ok (.ifCond .ge off, 3)) (ht : (pc : Int) + off = (tgt : Int)) (ha : inR a) (kt : 0 ≤ a → V X M tgt ls st μ) (kf : ¬ (0 ≤ a) → V X M (pc + 3) ls st μ) : V X M pc ls (vi (a) :: st) μ := by
  obtain ⟨⟨l, dC, dI, ad, ac, sK, sV⟩, p, e, R, s, m, args, below, meth, c, A, cells, slots, Fin⟩ := X
  obtain ⟨cc, own, y, nL, ret, d⟩ := M
  intro C H locs la hP hS hl
  have kt := fun h => kt h C H locs la hP hS hl
  have kf := fun h => kf h C H locs la hP hS hl
  obtain ⟨hx, hb, hr, hlk, hml, hown, hts, hK, hD, hSX, hc1, hc2, hd1, hd2⟩ := C
  show W p l e R s m args below meth c H locs cells slots Fin (F0 m pc la (.int (Int32.ofInt (a)) :: st.map (cv ad sK)))
  refine lv_if_ge hx hb hd ht (fun h => kt ?_) (fun h => kf ?_)
  · rw [zi_0, zi_le inR_0 ha] at h; exact h
  · rw [zi_0, zi_le inR_0 ha] at h; exact h
theorem V_if_gt {X : ZX} {M : MD} {pc : Nat} {ls st : List AV} {μ : Mem} {a off : Int} {tgt : Nat} (hd : decode M.1 pc = .ok (.ifCond .gt off, 3)) (ht : (pc : Int) + off = (tgt : Int)) (ha : inR a) (kt : 0 < a → V X M tgt ls st μ) (kf : ¬ (0 < a) → V X M (pc + 3) ls st μ) : V X M pc ls (vi (a) :: st) μ := by
  obtain ⟨⟨l, dC, dI, ad, ac, sK, sV⟩, p, e, R, s, m, args, below, meth, c, A, cells, slots, Fin⟩ := X
  obtain ⟨cc, own, y, nL, ret, d⟩ := M
  intro C H locs la hP hS hl
  have kt := fun h => kt h C H locs la hP hS hl
  have kf := fun h => kf h C H locs la hP hS hl
  obtain ⟨hx, hb, hr, hlk, hml, hown, hts, hK, hD, hSX, hc1, hc2, hd1, hd2⟩ := C
  show W p l e R s m args below meth c H locs cells slots Fin (F0 m pc la (.int (Int32.ofInt (a)) :: st.map (cv ad sK)))
  refine lv_if_gt hx hb hd ht (fun h => kt ?_) (fun h => kf ?_)
  · rw [zi_0, zi_lt inR_0 ha] at h; exact h
  · rw [zi_0, zi_lt inR_0 ha] at h; exact h
theorem V_if_le {X : ZX} {M : MD} {pc : Nat} {ls st : List AV} {μ : Mem} {a off : Int} {tgt : Nat} (hd : decode M.1 pc = .ok (.ifCond .le off, 3)) (ht : (pc : Int) + off = (tgt : Int)) (ha : inR a) (kt : a ≤ 0 → V X M tgt ls st μ) (kf : ¬ (a ≤ 0) → V X M (pc + 3) ls st μ) : V X M pc ls (vi (a) :: st) μ := by
  obtain ⟨⟨l, dC, dI, ad, ac, sK, sV⟩, p, e, R, s, m, args, below, meth, c, A, cells, slots, Fin⟩ := X
  obtain ⟨cc, own, y, nL, ret, d⟩ := M
  intro C H locs la hP hS hl
  have kt := fun h => kt h C H locs la hP hS hl
  have kf := fun h => kf h C H locs la hP hS hl
  obtain ⟨hx, hb, hr, hlk, hml, hown, hts, hK, hD, hSX, hc1, hc2, hd1, hd2⟩ := C
  show W p l e R s m args below meth c H locs cells slots Fin (F0 m pc la (.int (Int32.ofInt (a)) :: st.map (cv ad sK)))
  refine lv_if_le hx hb hd ht (fun h => kt ?_) (fun h => kf ?_)
  · rw [zi_0, zi_le ha inR_0] at h; exact h
  · rw [zi_0, zi_le ha inR_0] at h; exact h
theorem V_goto {X : ZX} {M : MD} {pc : Nat} {ls st : List AV} {μ : Mem} {off : Int} {tgt : Nat} (hd : decode M.1 pc = .ok (.goto off, 3)) (ht : (pc : Int) + off = (tgt : Int)) (k : V X M tgt ls st μ) : V X M pc ls st μ := by
  obtain ⟨⟨l, dC, dI, ad, ac, sK, sV⟩, p, e, R, s, m, args, below, meth, c, A, cells, slots, Fin⟩ := X
  obtain ⟨cc, own, y, nL, ret, d⟩ := M
  intro C H locs la hP hS hl
  have k := k C H locs la hP hS hl
  obtain ⟨hx, hb, hr, hlk, hml, hown, hts, hK, hD, hSX, hc1, hc2, hd1, hd2⟩ := C
  exact lv_goto hx hb hd ht k
theorem V_tabIn {X : ZX} {M : MD} {pc : Nat} {ls st : List AV} {μ : Mem} {x dflt lo hi off : Int} {offs : Array Int} {len tgt : Nat} (hd : decode M.1 pc = .ok (.tableswitch dflt lo hi offs, len)) (hx0 : inR x) (h1 : lo ≤ x) (h2 : x ≤ hi) (ho : offs[(x - lo).toNat]? = some off) (ht : (pc : Int) + off = (tgt : Int)) (k : V X M tgt ls st μ) : V X M pc ls (vi x :: st) μ := by
  obtain ⟨⟨l, dC, dI, ad, ac, sK, sV⟩, p, e, R, s, m, args, below, meth, c, A, cells, slots, Fin⟩ := X
  obtain ⟨cc, own, y, nL, ret, d⟩ := M
  intro C H locs la hP hS hl
  have k := k C H locs la hP hS hl
  obtain ⟨hx, hb, hr, hlk, hml, hown, hts, hK, hD, hSX, hc1, hc2, hd1, hd2⟩ := C
  refine lv_tableIn (x := Int32.ofInt x) hx hb hd (by rw [zi_to hx0]; omega) (by rw [zi_to hx0]; omega) (by rw [zi_to hx0]; exact ho) ht k
theorem V_tabOut {X : ZX} {M : MD} {pc : Nat} {ls st : List AV} {μ : Mem} {x dflt lo hi : Int} {offs : Array Int} {len tgt : Nat} (hd : decode M.1 pc = .ok (.tableswitch dflt lo hi offs, len)) (hx0 : inR x) (h1 : x < lo ∨ hi < x) (ht : (pc : Int) + dflt = (tgt : Int)) (k : V X M tgt ls st μ) : V X M pc ls (vi x :: st) μ := by
  obtain ⟨⟨l, dC, dI, ad, ac, sK, sV⟩, p, e, R, s, m, args, below, meth, c, A, cells, slots, Fin⟩ := X
  obtain ⟨cc, own, y, nL, ret, d⟩ := M
  intro C H locs la hP hS hl
  have k := k C H locs la hP hS hl
  obtain ⟨hx, hb, hr, hlk, hml, hown, hts, hK, hD, hSX, hc1, hc2, hd1, hd2⟩ := C
  refine lv_tableOut (x := Int32.ofInt x) hx hb hd (by rw [zi_to hx0]; exact h1) ht k
end
section
def ftOf (t : Nat) : FieldType := if t = 0 then .int else if t = 1 then .long else .boolean
/-- a class of the world: its name, fields, their types -/
def CK (c : Nat) (C : String) (T : u_T) (N : Nat) (ty0 : Nat → FieldType) : Prop := vwCl[c]? = some (C, T, N) ∧ (∀ w ∈ u_ws C T N, w ∈ TB) ∧ (∀ k, k < N → parseFieldDescriptor (T k).2.2.1 = some (ty0 k)) ∧ (∀ a, a < N → ∀ b, b < N → a ≠ b → (T a).2.1 ≠ (T b).2.1) ∧ (zf c).length = N
/-- a link to field j, of kind t, of class c -/
def FL (own : String) (idx c j t : Nat) : Prop := ∃ (C : String) (T : u_T) (N : Nat) (ty0 : Nat → FieldType), CK c C T N ty0 ∧ j < N ∧ Cond.fieldLink own idx (T j).1 (T j).2.1 (T j).2.2.1 ∈ TB ∧ (zf c)[j]? = some t ∧ (t < 3 → (T j).2.2.2 = false ∧ parseFieldDescriptor (T j).2.2.1 = some (ftOf t)) ∧ c < 99
theorem zf_get {ad : Nat → Nat} {k c j t : Nat} {r : Nat → Int} (h : (zf c)[j]? = some t) : ((zf c).mapIdx (fun j t => zv ad k r j t))[j]? = some (zv ad k r j t) := by
  simp [List.getElem?_mapIdx, h]
theorem zf_set {ad : Nat → Nat} {k c j t : Nat} {r r' : Nat → Int} (h : (zf c)[j]? = some t) (hr : ∀ b, b ≠ j → r' b = r b) : ((zf c).mapIdx (fun j t => zv ad k r j t)).set j (zv ad k r' j t) = (zf c).mapIdx (fun j t => zv ad k r' j t) := by
  apply List.ext_getElem?
  intro i
  have hl : j < ((zf c).mapIdx (fun j t => zv ad k r j t)).length := by simpa using (List.getElem?_eq_some_iff.mp h).1
  by_cases e : i = j
  · subst e
    rw [List.getElem?_set_self hl]
    simp [List.getElem?_mapIdx, h]
  · rw [List.getElem?_set_ne (Ne.symm e), List.getElem?_mapIdx, List.getElem?_mapIdx]
    cases hi : (zf c)[i]? with
    | none => rfl
    | some t' =>
      have := hr i e
      simp only [Option.map_some]
      congr 1
      unfold zv
      split <;> simp [this]

theorem V_geti {X : ZX} {M : MD} {pc : Nat} {ls st : List AV} {μ : Mem} {k c j idx r : Nat} (hd : decode M.1 pc = .ok (.getfield idx, 3)) (hf : FL M.2.1 idx c j 0) (hk : zk k = .inl c)  (kk : V X M (pc + 3) ls (vi (μ k j) :: st) μ) : V X M pc ls (vr k :: st) μ := by
  obtain ⟨⟨l, dC, dI, ad, ac, sK, sV⟩, p, e, R, s, m, args, below, meth, c, A, cells, slots, Fin⟩ := X
  obtain ⟨cc, own, y, nL, ret, d⟩ := M
  intro C H locs la hP hS hl
  have kk := kk C H locs la hP hS hl
  obtain ⟨hx, hb, hr, hlk, hml, hown, hts, hK, hD, hSX, hc1, hc2, hd1, hd2⟩ := C
  obtain ⟨Cn, T, N, ty0, ⟨g1, g2, g3, g4, g5⟩, g6, g7, g8, g9, g10⟩ := hf
  obtain ⟨q, hq, hw⟩ := zw_at (ad := ad) (ac := ac) μ (zk_mem hk (fun h => by cases h; omega))
  rw [zc_obj hk] at hw
  refine va_get hx hb hts g2 hown hK hP q hw g1 j g6 (hts _ g7) (fun _ h => h) (zf_get g8) hd ?_
  exact kk

theorem V_getl {X : ZX} {M : MD} {pc : Nat} {ls st : List AV} {μ : Mem} {k c j idx r : Nat} (hd : decode M.1 pc = .ok (.getfield idx, 3)) (hf : FL M.2.1 idx c j 1) (hk : zk k = .inl c)  (kk : V X M (pc + 3) ls (vl (μ k j) :: st) μ) : V X M pc ls (vr k :: st) μ := by
  obtain ⟨⟨l, dC, dI, ad, ac, sK, sV⟩, p, e, R, s, m, args, below, meth, c, A, cells, slots, Fin⟩ := X
  obtain ⟨cc, own, y, nL, ret, d⟩ := M
  intro C H locs la hP hS hl
  have kk := kk C H locs la hP hS hl
  obtain ⟨hx, hb, hr, hlk, hml, hown, hts, hK, hD, hSX, hc1, hc2, hd1, hd2⟩ := C
  obtain ⟨Cn, T, N, ty0, ⟨g1, g2, g3, g4, g5⟩, g6, g7, g8, g9, g10⟩ := hf
  obtain ⟨q, hq, hw⟩ := zw_at (ad := ad) (ac := ac) μ (zk_mem hk (fun h => by cases h; omega))
  rw [zc_obj hk] at hw
  refine va_get hx hb hts g2 hown hK hP q hw g1 j g6 (hts _ g7) (fun _ h => h) (zf_get g8) hd ?_
  exact kk

theorem V_getz {X : ZX} {M : MD} {pc : Nat} {ls st : List AV} {μ : Mem} {k c j idx r : Nat} (hd : decode M.1 pc = .ok (.getfield idx, 3)) (hf : FL M.2.1 idx c j 2) (hk : zk k = .inl c)  (kk : V X M (pc + 3) ls (vi (μ k j) :: st) μ) : V X M pc ls (vr k :: st) μ := by
  obtain ⟨⟨l, dC, dI, ad, ac, sK, sV⟩, p, e, R, s, m, args, below, meth, c, A, cells, slots, Fin⟩ := X
  obtain ⟨cc, own, y, nL, ret, d⟩ := M
  intro C H locs la hP hS hl
  have kk := kk C H locs la hP hS hl
  obtain ⟨hx, hb, hr, hlk, hml, hown, hts, hK, hD, hSX, hc1, hc2, hd1, hd2⟩ := C
  obtain ⟨Cn, T, N, ty0, ⟨g1, g2, g3, g4, g5⟩, g6, g7, g8, g9, g10⟩ := hf
  obtain ⟨q, hq, hw⟩ := zw_at (ad := ad) (ac := ac) μ (zk_mem hk (fun h => by cases h; omega))
  rw [zc_obj hk] at hw
  refine va_get hx hb hts g2 hown hK hP q hw g1 j g6 (hts _ g7) (fun _ h => h) (zf_get g8) hd ?_
  exact kk

theorem V_getr {X : ZX} {M : MD} {pc : Nat} {ls st : List AV} {μ : Mem} {k c j idx r : Nat} (hd : decode M.1 pc = .ok (.getfield idx, 3)) (hf : FL M.2.1 idx c j 3) (hk : zk k = .inl c) (hz : zr k j = r) (kk : V X M (pc + 3) ls (vr r :: st) μ) : V X M pc ls (vr k :: st) μ := by
  obtain ⟨⟨l, dC, dI, ad, ac, sK, sV⟩, p, e, R, s, m, args, below, meth, c, A, cells, slots, Fin⟩ := X
  obtain ⟨cc, own, y, nL, ret, d⟩ := M
  intro C H locs la hP hS hl
  have kk := kk C H locs la hP hS hl
  obtain ⟨hx, hb, hr, hlk, hml, hown, hts, hK, hD, hSX, hc1, hc2, hd1, hd2⟩ := C
  obtain ⟨Cn, T, N, ty0, ⟨g1, g2, g3, g4, g5⟩, g6, g7, g8, g9, g10⟩ := hf
  obtain ⟨q, hq, hw⟩ := zw_at (ad := ad) (ac := ac) μ (zk_mem hk (fun h => by cases h; omega))
  rw [zc_obj hk] at hw
  refine va_get hx hb hts g2 hown hK hP q hw g1 j g6 (hts _ g7) (fun _ h => h) (zf_get g8) hd ?_
  subst hz; exact kk

theorem V_puti {X : ZX} {M : MD} {pc : Nat} {ls st : List AV} {μ : Mem} {k c j idx : Nat} {x : Int} (hd : decode M.1 pc = .ok (.putfield idx, 3)) (hf : FL M.2.1 idx c j 0) (hk : zk k = .inl c)  (kk : V X M (pc + 3) ls st (mu μ k j x)) : V X M pc ls (vi x :: vr k :: st) μ := by
  obtain ⟨⟨l, dC, dI, ad, ac, sK, sV⟩, p, e, R, s, m, args, below, meth, c, A, cells, slots, Fin⟩ := X
  obtain ⟨cc, own, y, nL, ret, d⟩ := M
  intro C H locs la hP hS hl
  have kk := fun H1 locs1 h1 h2 => kk C H1 locs1 la h1 h2 hl
  obtain ⟨hx, hb, hr, hlk, hml, hown, hts, hK, hD, hSX, hc1, hc2, hd1, hd2⟩ := C
  obtain ⟨Cn, T, N, ty0, ⟨g1, g2, g3, g4, g5⟩, g6, g7, g8, g9, g10⟩ := hf
  obtain ⟨q, hq, hw⟩ := zw_at (ad := ad) (ac := ac) μ (zk_mem hk (fun h => by cases h; omega))
  rw [zc_obj hk] at hw
  refine va_put (v := .int (Int32.ofInt x)) hx hb hts g2 ty0 g3 g4 hown hK hP hD.va hS q hw g1 j g6 (hts _ g7) (fun _ h => h) (g9 (by decide)).1 (g9 (by decide)).2 rfl rfl (by simpa using (List.getElem?_eq_some_iff.mp g8).1) hd (fun H1 locs1 h1 _ h2 => ?_)
  refine kk H1 locs1 ?_ h2
  rw [mu_eq, ← zw_set (ad := ad) (ac := ac) _ hq, zc_obj hk, ← zf_set (r := μ k) g8 (fun b hb => if_neg hb)]
  have e : zv ad k (fun b => if b = j then x else μ k b) j 0 = .int (Int32.ofInt x) := by simp [zv]
  rw [e]
  exact h1

theorem V_putl {X : ZX} {M : MD} {pc : Nat} {ls st : List AV} {μ : Mem} {k c j idx : Nat} {x : Int} (hd : decode M.1 pc = .ok (.putfield idx, 3)) (hf : FL M.2.1 idx c j 1) (hk : zk k = .inl c)  (kk : V X M (pc + 3) ls st (mu μ k j x)) : V X M pc ls (vl x :: vr k :: st) μ := by
  obtain ⟨⟨l, dC, dI, ad, ac, sK, sV⟩, p, e, R, s, m, args, below, meth, c, A, cells, slots, Fin⟩ := X
  obtain ⟨cc, own, y, nL, ret, d⟩ := M
  intro C H locs la hP hS hl
  have kk := fun H1 locs1 h1 h2 => kk C H1 locs1 la h1 h2 hl
  obtain ⟨hx, hb, hr, hlk, hml, hown, hts, hK, hD, hSX, hc1, hc2, hd1, hd2⟩ := C
  obtain ⟨Cn, T, N, ty0, ⟨g1, g2, g3, g4, g5⟩, g6, g7, g8, g9, g10⟩ := hf
  obtain ⟨q, hq, hw⟩ := zw_at (ad := ad) (ac := ac) μ (zk_mem hk (fun h => by cases h; omega))
  rw [zc_obj hk] at hw
  refine va_put (v := .long (Int64.ofInt x)) hx hb hts g2 ty0 g3 g4 hown hK hP hD.va hS q hw g1 j g6 (hts _ g7) (fun _ h => h) (g9 (by decide)).1 (g9 (by decide)).2 rfl rfl (by simpa using (List.getElem?_eq_some_iff.mp g8).1) hd (fun H1 locs1 h1 _ h2 => ?_)
  refine kk H1 locs1 ?_ h2
  rw [mu_eq, ← zw_set (ad := ad) (ac := ac) _ hq, zc_obj hk, ← zf_set (r := μ k) g8 (fun b hb => if_neg hb)]
  have e : zv ad k (fun b => if b = j then x else μ k b) j 1 = .long (Int64.ofInt x) := by simp [zv]
  rw [e]
  exact h1

theorem V_putz {X : ZX} {M : MD} {pc : Nat} {ls st : List AV} {μ : Mem} {k c j idx : Nat} {x : Int} (hd : decode M.1 pc = .ok (.putfield idx, 3)) (hf : FL M.2.1 idx c j 2) (hk : zk k = .inl c) (hx01 : x = 0 ∨ x = 1) (kk : V X M (pc + 3) ls st (mu μ k j x)) : V X M pc ls (vi x :: vr k :: st) μ := by
  obtain ⟨⟨l, dC, dI, ad, ac, sK, sV⟩, p, e, R, s, m, args, below, meth, c, A, cells, slots, Fin⟩ := X
  obtain ⟨cc, own, y, nL, ret, d⟩ := M
  intro C H locs la hP hS hl
  have kk := fun H1 locs1 h1 h2 => kk C H1 locs1 la h1 h2 hl
  obtain ⟨hx, hb, hr, hlk, hml, hown, hts, hK, hD, hSX, hc1, hc2, hd1, hd2⟩ := C
  obtain ⟨Cn, T, N, ty0, ⟨g1, g2, g3, g4, g5⟩, g6, g7, g8, g9, g10⟩ := hf
  obtain ⟨q, hq, hw⟩ := zw_at (ad := ad) (ac := ac) μ (zk_mem hk (fun h => by cases h; omega))
  rw [zc_obj hk] at hw
  refine va_put (v := .int (Int32.ofInt x)) hx hb hts g2 ty0 g3 g4 hown hK hP hD.va hS q hw g1 j g6 (hts _ g7) (fun _ h => h) (g9 (by decide)).1 (g9 (by decide)).2 (by rcases hx01 with rfl | rfl <;> decide) (by rcases hx01 with rfl | rfl <;> decide) (by simpa using (List.getElem?_eq_some_iff.mp g8).1) hd (fun H1 locs1 h1 _ h2 => ?_)
  refine kk H1 locs1 ?_ h2
  rw [mu_eq, ← zw_set (ad := ad) (ac := ac) _ hq, zc_obj hk, ← zf_set (r := μ k) g8 (fun b hb => if_neg hb)]
  have e : zv ad k (fun b => if b = j then x else μ k b) j 2 = .int (Int32.ofInt x) := by simp [zv]
  rw [e]
  exact h1

theorem V_iald {X : ZX} {M : MD} {pc : Nat} {ls st : List AV} {μ : Mem} {k n : Nat} {i : Int} (hd : decode M.1 pc = .ok (.iaload, 1)) (hk : zk k = .inr (0, n)) (h0 : 0 ≤ i) (hn : i < n) (hm : n ≤ 1000000) (kk : V X M (pc + 1) ls (vi (μ k i.toNat) :: st) μ) : V X M pc ls (vi i :: vr k :: st) μ := by
  obtain ⟨⟨l, dC, dI, ad, ac, sK, sV⟩, p, e, R, s, m, args, below, meth, c, A, cells, slots, Fin⟩ := X
  obtain ⟨cc, own, y, nL, ret, d⟩ := M
  intro C H locs la hP hS hl
  have kk := kk C H locs la hP hS hl
  obtain ⟨hx, hb, hr, hlk, hml, hown, hts, hK, hD, hSX, hc1, hc2, hd1, hd2⟩ := C
  obtain ⟨q, hq, hw⟩ := zw_at (ad := ad) (ac := ac) μ (zk_mem hk (fun h => by cases h))
  rw [zc_arr hk (by decide)] at hw
  obtain ⟨j1, j2⟩ := zi_ix h0 hn hm
  refine va_iald (i := Int32.ofInt i) hx hb hK hP q 0 hw rfl j1 hd ?_
  rw [j2]
  exact kk

theorem V_zald {X : ZX} {M : MD} {pc : Nat} {ls st : List AV} {μ : Mem} {k n : Nat} {i : Int} (hd : decode M.1 pc = .ok (.baload, 1)) (hk : zk k = .inr (2, n)) (h0 : 0 ≤ i) (hn : i < n) (hm : n ≤ 1000000) (kk : V X M (pc + 1) ls (vi (μ k i.toNat) :: st) μ) : V X M pc ls (vi i :: vr k :: st) μ := by
  obtain ⟨⟨l, dC, dI, ad, ac, sK, sV⟩, p, e, R, s, m, args, below, meth, c, A, cells, slots, Fin⟩ := X
  obtain ⟨cc, own, y, nL, ret, d⟩ := M
  intro C H locs la hP hS hl
  have kk := kk C H locs la hP hS hl
  obtain ⟨hx, hb, hr, hlk, hml, hown, hts, hK, hD, hSX, hc1, hc2, hd1, hd2⟩ := C
  obtain ⟨q, hq, hw⟩ := zw_at (ad := ad) (ac := ac) μ (zk_mem hk (fun h => by cases h))
  rw [zc_arr hk (by decide)] at hw
  obtain ⟨j1, j2⟩ := zi_ix h0 hn hm
  refine va_zald (i := Int32.ofInt i) hx hb hK hP q 2 hw rfl j1 hd ?_
  rw [j2]
  exact kk

theorem V_lald {X : ZX} {M : MD} {pc : Nat} {ls st : List AV} {μ : Mem} {k n : Nat} {i : Int} (hd : decode M.1 pc = .ok (.laload, 1)) (hk : zk k = .inr (1, n)) (h0 : 0 ≤ i) (hn : i < n) (hm : n ≤ 1000000) (kk : V X M (pc + 1) ls (vl (μ k i.toNat) :: st) μ) : V X M pc ls (vi i :: vr k :: st) μ := by
  obtain ⟨⟨l, dC, dI, ad, ac, sK, sV⟩, p, e, R, s, m, args, below, meth, c, A, cells, slots, Fin⟩ := X
  obtain ⟨cc, own, y, nL, ret, d⟩ := M
  intro C H locs la hP hS hl
  have kk := kk C H locs la hP hS hl
  obtain ⟨hx, hb, hr, hlk, hml, hown, hts, hK, hD, hSX, hc1, hc2, hd1, hd2⟩ := C
  obtain ⟨q, hq, hw⟩ := zw_at (ad := ad) (ac := ac) μ (zk_mem hk (fun h => by cases h))
  rw [zc_arl hk] at hw
  obtain ⟨j1, j2⟩ := zi_ix h0 hn hm
  refine va_lald (i := Int32.ofInt i) hx hb hK hP q 1 hw rfl j1 hd ?_
  rw [j2]
  exact kk

theorem V_iast {X : ZX} {M : MD} {pc : Nat} {ls st : List AV} {μ : Mem} {k n : Nat} {i x : Int} (hd : decode M.1 pc = .ok (.iastore, 1)) (hk : zk k = .inr (0, n)) (h0 : 0 ≤ i) (hn : i < n) (hm : n ≤ 1000000)  (kk : V X M (pc + 1) ls st (mu μ k i.toNat x)) : V X M pc ls (vi x :: vi i :: vr k :: st) μ := by
  obtain ⟨⟨l, dC, dI, ad, ac, sK, sV⟩, p, e, R, s, m, args, below, meth, c, A, cells, slots, Fin⟩ := X
  obtain ⟨cc, own, y, nL, ret, d⟩ := M
  intro C H locs la hP hS hl
  have kk := fun H1 locs1 h1 h2 => kk C H1 locs1 la h1 h2 hl
  obtain ⟨hx, hb, hr, hlk, hml, hown, hts, hK, hD, hSX, hc1, hc2, hd1, hd2⟩ := C
  obtain ⟨q, hq, hw⟩ := zw_at (ad := ad) (ac := ac) μ (zk_mem hk (fun h => by cases h))
  rw [zc_arr hk (by decide)] at hw
  obtain ⟨j1, j2⟩ := zi_ix h0 hn hm
  refine va_iast (i := Int32.ofInt i) hx hb hK hP hD.va hS q 0 hw rfl j1 hd (fun H1 locs1 h1 _ h2 => ?_)
  refine kk H1 locs1 ?_ h2
  rw [mu_eq, ← zw_set (ad := ad) (ac := ac) _ hq, zc_arr hk (by decide)]
  rw [j2] at h1
  have e : upd (fun j => Int32.ofInt (μ k j)) i.toNat (Int32.ofInt x) = fun j => Int32.ofInt (if j = i.toNat then x else μ k j) := by
    funext j
    by_cases hj : j = i.toNat <;> simp [upd, hj]
  rw [e] at h1
  exact h1

theorem V_zast {X : ZX} {M : MD} {pc : Nat} {ls st : List AV} {μ : Mem} {k n : Nat} {i x : Int} (hd : decode M.1 pc = .ok (.bastore, 1)) (hk : zk k = .inr (2, n)) (h0 : 0 ≤ i) (hn : i < n) (hm : n ≤ 1000000) (hx01 : x = 0 ∨ x = 1) (kk : V X M (pc + 1) ls st (mu μ k i.toNat x)) : V X M pc ls (vi x :: vi i :: vr k :: st) μ := by
  obtain ⟨⟨l, dC, dI, ad, ac, sK, sV⟩, p, e, R, s, m, args, below, meth, c, A, cells, slots, Fin⟩ := X
  obtain ⟨cc, own, y, nL, ret, d⟩ := M
  intro C H locs la hP hS hl
  have kk := fun H1 locs1 h1 h2 => kk C H1 locs1 la h1 h2 hl
  obtain ⟨hx, hb, hr, hlk, hml, hown, hts, hK, hD, hSX, hc1, hc2, hd1, hd2⟩ := C
  obtain ⟨q, hq, hw⟩ := zw_at (ad := ad) (ac := ac) μ (zk_mem hk (fun h => by cases h))
  rw [zc_arr hk (by decide)] at hw
  obtain ⟨j1, j2⟩ := zi_ix h0 hn hm
  refine va_zast (i := Int32.ofInt i) hx hb hK hP hD.va hS q 2 hw rfl j1 hd (fun H1 locs1 h1 _ h2 => ?_)
  refine kk H1 locs1 ?_ h2
  rw [mu_eq, ← zw_set (ad := ad) (ac := ac) _ hq, zc_arr hk (by decide)]
  rw [j2] at h1
  have e : upd (fun j => Int32.ofInt (μ k j)) i.toNat (Int32.ofInt x) = fun j => Int32.ofInt (if j = i.toNat then x else μ k j) := by
    funext j
    by_cases hj : j = i.toNat <;> simp [upd, hj]
  have e2 : vp_nar .boolean (Int32.ofInt x) = Int32.ofInt x := by rcases hx01 with rfl | rfl <;> decide
  rw [e2, e] at h1
  exact h1

theorem V_last {X : ZX} {M : MD} {pc : Nat} {ls st : List AV} {μ : Mem} {k n : Nat} {i x : Int} (hd : decode M.1 pc = .ok (.lastore, 1)) (hk : zk k = .inr (1, n)) (h0 : 0 ≤ i) (hn : i < n) (hm : n ≤ 1000000)  (kk : V X M (pc + 1) ls st (mu μ k i.toNat x)) : V X M pc ls (vl x :: vi i :: vr k :: st) μ := by
  obtain ⟨⟨l, dC, dI, ad, ac, sK, sV⟩, p, e, R, s, m, args, below, meth, c, A, cells, slots, Fin⟩ := X
  obtain ⟨cc, own, y, nL, ret, d⟩ := M
  intro C H locs la hP hS hl
  have kk := fun H1 locs1 h1 h2 => kk C H1 locs1 la h1 h2 hl
  obtain ⟨hx, hb, hr, hlk, hml, hown, hts, hK, hD, hSX, hc1, hc2, hd1, hd2⟩ := C
  obtain ⟨q, hq, hw⟩ := zw_at (ad := ad) (ac := ac) μ (zk_mem hk (fun h => by cases h))
  rw [zc_arl hk] at hw
  obtain ⟨j1, j2⟩ := zi_ix h0 hn hm
  refine va_last (i := Int32.ofInt i) hx hb hK hP hD.va hS q 1 hw rfl j1 hd (fun H1 locs1 h1 _ h2 => ?_)
  refine kk H1 locs1 ?_ h2
  rw [mu_eq, ← zw_set (ad := ad) (ac := ac) _ hq, zc_arl hk]
  rw [j2] at h1
  have e : vp_updL (fun j => Int64.ofInt (μ k j)) i.toNat (Int64.ofInt x) = fun j => Int64.ofInt (if j = i.toNat then x else μ k j) := by
    funext j
    by_cases hj : j = i.toNat <;> simp [vp_updL, hj]
  rw [e] at h1
  exact h1

theorem V_iret {X : ZX} {M : MD} {pc : Nat} {ls : List AV} {μ : Mem} {Q : AV → Mem → Prop} {x : Int} (hX : isM X Q) (hd : decode M.1 pc = .ok (.ireturn, 1)) (hrt : M.2.2.2.2.1 = some .int) (hq : Q (vi x) μ) : V X M pc ls ([vi x]) μ := by
  obtain ⟨⟨l, dC, dI, ad, ac, sK, sV⟩, p, e, R, s, m, args, below, meth, c, A, cells, slots, Fin⟩ := X
  obtain ⟨cc, own, y, nL, ret, d⟩ := M
  intro C H locs la hP hS hl
  obtain ⟨hx, hb, hr, hlk, hml, hown, hts, hK, hD, hSX, hc1, hc2, hd1, hd2⟩ := C
  obtain ⟨rfl, rfl, rfl, rfl⟩ := hX
  exact W.iret (v := Int32.ofInt x) hx hb (hr.trans hrt) (fun t ht hW => ⟨⟨vi x, μ, rfl, hq, by rw [ht]; exact hP⟩, hS.F ht⟩) hS.2.2 hd (hlocks := hlk)

theorem V_zret {X : ZX} {M : MD} {pc : Nat} {ls : List AV} {μ : Mem} {Q : AV → Mem → Prop} {x : Int} (hX : isM X Q) (hd : decode M.1 pc = .ok (.ireturn, 1)) (hrt : M.2.2.2.2.1 = some .boolean) (hx01 : x = 0 ∨ x = 1) (hq : Q (vi x) μ) : V X M pc ls ([vi x]) μ := by
  obtain ⟨⟨l, dC, dI, ad, ac, sK, sV⟩, p, e, R, s, m, args, below, meth, c, A, cells, slots, Fin⟩ := X
  obtain ⟨cc, own, y, nL, ret, d⟩ := M
  intro C H locs la hP hS hl
  obtain ⟨hx, hb, hr, hlk, hml, hown, hts, hK, hD, hSX, hc1, hc2, hd1, hd2⟩ := C
  obtain ⟨rfl, rfl, rfl, rfl⟩ := hX
  exact W.zret (v := Int32.ofInt x) hx hb (hr.trans hrt) (by rcases hx01 with rfl | rfl <;> decide) (fun t ht hW => ⟨⟨vi x, μ, rfl, hq, by rw [ht]; exact hP⟩, hS.F ht⟩) hS.2.2 hd (hlocks := hlk)

theorem V_lret {X : ZX} {M : MD} {pc : Nat} {ls : List AV} {μ : Mem} {Q : AV → Mem → Prop} {x : Int} (hX : isM X Q) (hd : decode M.1 pc = .ok (.lreturn, 1)) (hrt : M.2.2.2.2.1 = some .long) (hq : Q (vl x) μ) : V X M pc ls ([vl x]) μ := by
  obtain ⟨⟨l, dC, dI, ad, ac, sK, sV⟩, p, e, R, s, m, args, below, meth, c, A, cells, slots, Fin⟩ := X
  obtain ⟨cc, own, y, nL, ret, d⟩ := M
  intro C H locs la hP hS hl
  obtain ⟨hx, hb, hr, hlk, hml, hown, hts, hK, hD, hSX, hc1, hc2, hd1, hd2⟩ := C
  obtain ⟨rfl, rfl, rfl, rfl⟩ := hX
  exact W.lret (v := Int64.ofInt x) hx hb (hr.trans hrt) (fun t ht hW => ⟨⟨vl x, μ, rfl, hq, by rw [ht]; exact hP⟩, hS.F ht⟩) hS.2.2 hd (hlocks := hlk)

theorem V_vret {X : ZX} {M : MD} {pc : Nat} {ls : List AV} {μ : Mem} {Q : AV → Mem → Prop} {x : Int} (hX : isM X Q) (hd : decode M.1 pc = .ok (.return_, 1)) (hrt : M.2.2.2.2.1 = none) (hq : Q (un) μ) : V X M pc ls ([]) μ := by
  obtain ⟨⟨l, dC, dI, ad, ac, sK, sV⟩, p, e, R, s, m, args, below, meth, c, A, cells, slots, Fin⟩ := X
  obtain ⟨cc, own, y, nL, ret, d⟩ := M
  intro C H locs la hP hS hl
  obtain ⟨hx, hb, hr, hlk, hml, hown, hts, hK, hD, hSX, hc1, hc2, hd1, hd2⟩ := C
  obtain ⟨rfl, rfl, rfl, rfl⟩ := hX
  exact W.vret hx hb (hr.trans hrt) (fun t ht hW => ⟨⟨un, μ, rfl, hq, by rw [ht]; exact hP⟩, hS.F ht⟩) hS.2.2 hd (hlocks := hlk)

theorem V_aret {X : ZX} {M : MD} {pc : Nat} {ls : List AV} {μ : Mem} {Q : AV → Mem → Prop} {k : Nat} {n : String} (hX : isM X Q) (hd : decode M.1 pc = .ok (.areturn, 1)) (hrt : M.2.2.2.2.1 = some (.object n)) (hq : Q (vr k) μ) : V X M pc ls [vr k] μ := by
  obtain ⟨⟨l, dC, dI, ad, ac, sK, sV⟩, p, e, R, s, m, args, below, meth, c, A, cells, slots, Fin⟩ := X
  obtain ⟨cc, own, y, nL, ret, d⟩ := M
  intro C H locs la hP hS hl
  obtain ⟨hx, hb, hr, hlk, hml, hown, hts, hK, hD, hSX, hc1, hc2, hd1, hd2⟩ := C
  obtain ⟨rfl, rfl, rfl, rfl⟩ := hX
  exact W.aret (v := .ref (ad k)) hx hb (hr.trans hrt) (Or.inl ⟨n, rfl⟩) (Or.inr ⟨_, rfl⟩) (fun t ht hW => ⟨⟨vr k, μ, rfl, hq, by rw [ht]; exact hP⟩, hS.F ht⟩) hS.2.2 hd (hlocks := hlk)

def es : List AV → List AV
  | [] => []
  | v :: t => if isL v then v :: un :: es t else v :: es t
theorem es_args (ad sK : Nat → Nat) : ∀ (As : List AV) (i n : Nat), (∀ v ∈ As, isU v = false) → lcl ad sK i (es As ++ List.replicate n un) = lv_args i (As.map (cv ad sK)) := by
  intro As
  induction As with
  | nil =>
    intro i n _
    have : ∀ (n i : Nat), lcl ad sK i (List.replicate n un) = [] := by
      intro n
      induction n with
      | zero => intro i; rfl
      | succ n ih => intro i; rw [List.replicate_succ]; simp [lcl, isU, ih]
    simpa [es, lv_args] using this n i
  | cons v t ih =>
    intro i n h
    have hv := h v List.mem_cons_self
    have ht := fun w hw => h w (List.mem_cons_of_mem _ hw)
    cases hL : isL v with
    | false =>
      simp only [es, hL, List.cons_append, lcl, hv, List.map_cons, lv_args, cv_cat]
      simp [lcl, hv, ih _ n ht]
    | true =>
      simp only [es, hL, List.cons_append, lcl, hv, List.map_cons, lv_args, cv_cat]
      have hU : isU un = true := rfl
      simp [lcl, hv, hU, ih _ n ht]
theorem es_len (ad sK : Nat → Nat) (As : List AV) : (lg_sl (As.map (cv ad sK))).length = (es As).length := by
  induction As with
  | nil => rfl
  | cons v t ih =>
    simp only [lg_sl, List.map_cons, List.flatMap_cons, List.length_append] at ih ⊢
    rw [ih]
    cases hL : isL v with
    | false => simp [es, cv_cat, hL]; omega
    | true => simp [es, cv_cat, hL]; omega
theorem SP_intro {M : MD} {As ls : List AV} {μ : Mem} {Q : AV → Mem → Prop} (hy : plainName M.2.2.1.cls = true) (ho : M.2.2.1.cls = M.2.1) (hu : As.all (fun v => !isU v) = true) (hn : (es As).length ≤ M.2.2.2.1) (hls : es As ++ List.replicate (M.2.2.2.1 - (es As).length) un = ls)
    (h : ∀ X, isM X Q → V X M 0 ls [] μ) : SP M As μ Q := by
  obtain ⟨cc, own, y, nL, ret, d⟩ := M
  intro l dC dI ad ac sK sV
  refine Met.ofW (cc := cc) (maxL := nL) (ret := ret) hy rfl ?_
  intro p e s m args below meth c s₁ B hml hv
  obtain ⟨rfl, hP, hK, hD, hSX⟩ := hv
  have hts := atoms_spec (ws := Cond.code y cc nL ret :: TB) B.pre
  have hown : s.vm.findClass own = some m.cls := by rw [← show y.cls = own from ho]; exact findClass_of_methodNamed B.named
  have hl := lv_entry (As.map (cv ad sK)) (n := nL) (by rw [es_len]; exact hn)
  rw [lg_entry_eq]
  refine h ⟨⟨l, dC, dI, ad, ac, sK, sV⟩, p, e, zrm d, s, m, _, below, meth, c, wA ad, 0, 0, _⟩ ⟨rfl, rfl, rfl, rfl⟩ ⟨B.exec, B.bytes, B.returns, B.notSynchronized, hml, hown, fun w hw => hts w (List.mem_cons_of_mem _ hw), hK, hD, hSX, Nat.zero_le _, Nat.zero_le _, Nat.le_refl _, Nat.le_refl _⟩ s.heap [] _ hP va_S.rf ?_
  rw [← hls, es_args ad sK As 0 _ (fun v hv => by have := List.all_eq_true.mp hu v hv; simpa using this)]
  exact hl
/-- a call's words: the link, the method, its class -/
def CV (own : String) (idx : Nat) (Y : MD) (c n : Nat) : Prop := (Cond.methodLink own idx Y.2.2.1 ∈ TB ∧ Cond.instanceMethod Y.2.2.1 ∈ TB ∧ Cond.selects Y.2.2.1.cls Y.2.2.1 Y.2.2.1 ∈ TB ∧ Cond.initialized Y.2.2.1.cls ∈ TB ∧ Cond.code Y.2.2.1 Y.1 Y.2.2.2.1 Y.2.2.2.2.1 ∈ TB) ∧ (∃ T N, vwCl[c]? = some (Y.2.2.1.cls, T, N)) ∧
  (Y.2.2.1.cls ≠ "java/lang/invoke/MethodHandle" ∧ Y.2.2.1.cls ≠ "java/lang/invoke/VarHandle" ∧ (parseMethodDescriptor Y.2.2.1.desc).map (fun d => d.parameters.length) = some n) ∧ Y.2.2.2.1 ≤ 45 ∧ c < 99
def CS (own : String) (idx : Nat) (Y : MD) (n : Nat) : Prop := (Cond.methodLink own idx Y.2.2.1 ∈ TB ∧ Cond.static Y.2.2.1 ∈ TB ∧ Cond.initialized Y.2.2.1.cls ∈ TB ∧ Cond.code Y.2.2.1 Y.1 Y.2.2.2.1 Y.2.2.2.2.1 ∈ TB) ∧
  (Y.2.2.1.cls ≠ "java/lang/invoke/MethodHandle" ∧ Y.2.2.1.cls ≠ "java/lang/invoke/VarHandle" ∧ (parseMethodDescriptor Y.2.2.1.desc).map (fun d => d.parameters.length) = some n) ∧ Y.2.2.2.1 ≤ 45
theorem tb_in {Y : MD} (h : Cond.code Y.2.2.1 Y.1 Y.2.2.2.1 Y.2.2.2.2.1 ∈ TB) : GoodIn TB (Cond.code Y.2.2.1 Y.1 Y.2.2.2.1 Y.2.2.2.2.1 :: TB) := fun w hw => by
  have hm : w ∈ TB := by rcases List.mem_cons.mp hw with rfl | h2; exact h; exact h2
  exact ⟨hm, tb_good w hm⟩
theorem map_cat (ad sK : Nat → Nat) (st : List AV) : ((st.map (cv ad sK)).map fun v => v.category).sum = (st.map (fun v => if isL v then 2 else 1)).sum := by
  induction st with
  | nil => rfl
  | cons a t ih => simp only [List.map_cons, List.sum_cons, cv_cat, ih]
def pv (v : AV) (st : List AV) : List AV := if isU v then st else v :: st
theorem ov_list (ad sK : Nat → Nat) (v : AV) (st : List AV) : (ov ad sK v).toList ++ st.map (cv ad sK) = (pv v st).map (cv ad sK) := by
  rcases v with x | x | x | x | x <;> rfl
theorem wA_sub {A : Nat → Prop} {ad : Nat → Nat} (h : zD A ad) : ∀ q, wA ad q → A q := fun q ⟨k, hk, e⟩ => e ▸ h.2 k hk
theorem Wd.blind {G : ZG} {μ : Mem} {av : Array Value} : FrameBlind (fun v U => v = av ∧ Wd G μ U) := by
  obtain ⟨l, dC, dI, ad, ac, sK, sV⟩ := G
  intro a U g mk h
  obtain ⟨h1, h2, h3, h4, h5⟩ := h
  exact ⟨h1, h2, va_K.moved (u := U) (U := U.calling g mk a) (Vm.Alike.refl U.vm) h3, h4, SX.same (u := U) (U := U.calling g mk a) rfl rfl h5⟩
theorem V_behind {X : ZX} {M : MD} {pc : Nat} {ls st stA : List AV} {Qc : AV → Mem → Prop} (kk : ∀ v μ', Qc v μ' → V X M (pc + 3) ls (pv v st) μ') :
    match X, M with
    | ⟨⟨l, dC, dI, ad, ac, sK, sV⟩, p, e, R, s, m, args, below, meth, c, A, cells, slots, Fin⟩, ⟨cc, own, y, nL, ret, d⟩ =>
      CX ⟨⟨l, dC, dI, ad, ac, sK, sV⟩, p, e, R, s, m, args, below, meth, c, A, cells, slots, Fin⟩ ⟨cc, own, y, nL, ret, d⟩ → ∀ (H : Heap) (locs : List Loc) (la : Array Slot) (a : Array Value), va_S A s.heap H locs → lv_has la nL (lcl ad sK 0 ls) →
      va_Run p l e R s m args below meth c H locs cells slots 0 0 (F0 m pc la (stA.map (cv ad sK))) (st.map (cv ad sK)) (Qe ⟨l, dC, dI, ad, ac, sK, sV⟩ Qc a) (wA ad) →
      W p l e R s m args below meth c H locs cells slots Fin (F0 m pc la (stA.map (cv ad sK))) := by

  obtain ⟨⟨l, dC, dI, ad, ac, sK, sV⟩, p, e, R, s, m, args, below, meth, c, A, cells, slots, Fin⟩ := X
  obtain ⟨cc, own, y, nL, ret, d⟩ := M
  intro C H locs la a hS hl hr
  have hsub := wA_sub C.2.2.2.2.2.2.2.2.1
  intro T hT X
  obtain ⟨v, st₀, t, T', L, h0, X', hL, e1, e2, ⟨⟨r, μ', hv, hq, hP'⟩, hz, hk⟩, stp⟩ := hr T hT X
  cases hv
  rw [h0] at hz hk
  have kk := kk r μ' hq C T'.heap (locs ++ L) la (by rw [e1]; exact hP')
    ⟨Nat.le_trans hS.1 (by rw [e1]; exact hz), fun q h1 h2 => by rw [e1, hk q (Nat.lt_of_lt_of_le h1 hS.1) (fun z => h2 (hsub q z))]; exact hS.2.1 q h1 h2, fun q hq => by
      rcases List.mem_append.mp hq with h | h
      · exact hS.2.2 q h
      · exact hsub _ (hL q h)⟩ hl
  obtain ⟨t2, a1, b1⟩ := kk T' rfl X'
  refine ⟨t2, stp t2 ?_, b1⟩
  have e3 := ov_list ad sK r st
  show Steps p.tables e below (T'.setTop (F0 m (pc + 3) la ((ov ad sK r).toList ++ st.map (cv ad sK)))) t2
  rw [e3]
  exact a1

theorem V_callV {X : ZX} {M : MD} {pc : Nat} {ls st : List AV} {μ : Mem} {k cN idx : Nat} {As : List AV} {Y : MD} {Qc : AV → Mem → Prop} (hd : decode M.1 pc = .ok (.invokevirtual idx, 3)) (hc : CV M.2.1 idx Y cN As.length) (hk : zk k = .inl cN) (hdd : Y.2.2.2.2.2 < M.2.2.2.2.2) (hst : (st.map (fun v => if isL v then 2 else 1)).sum ≤ 8) (sp : SP Y (vr k :: As) μ Qc) (kk : ∀ v μ', Qc v μ' → V X M (pc + 3) ls (pv v st) μ') : V X M pc ls (As.reverse ++ vr k :: st) μ := by
  obtain ⟨⟨l, dC, dI, ad, ac, sK, sV⟩, p, e, R, s, m, args, below, meth, c, A, cells, slots, Fin⟩ := X
  obtain ⟨cc, own, y, nL, ret, d⟩ := M
  intro C H locs la hP hS hl
  refine V_behind (stA := As.reverse ++ vr k :: st) kk C H locs la ((vr k :: As).map (cv ad sK)).toArray hS hl ?_
  obtain ⟨hx, hb, hr, hlk, hml, hown, hts, hK, hD, hSX, hc1, hc2, hd1, hd2⟩ := C
  obtain ⟨ccY, ownY, yY, nLY, retY, dY⟩ := Y
  obtain ⟨⟨c1, c2, c3, c4, c5⟩, ⟨T, N, c6⟩, c7, c8, c9⟩ := hc
  obtain ⟨q, hq, hw⟩ := zw_at (ad := ad) (ac := ac) μ (zk_mem hk (fun h => by cases h; omega))
  rw [zc_obj hk] at hw
  dsimp only at hdd c8
  refine va_runV (As := As.map (cv ad sK)) (rest := st.map (cv ad sK)) (b := ad k) (C := yY.cls) (n := As.length) (ws := Cond.code yY ccY nLY retY :: TB) (rm := zrm dY) (bytes := ccY) (maxL := nLY) (ret := retY) (Ts := TB) (own := own) ⟨hx, hb, hml, hown, hts⟩ (sp l dC dI ad ac sK sV)
    (cwV As.length hts (fun w hw => ?_) rfl rfl rfl ⟨rfl, c7⟩ ⟨?_, ?_⟩) ⟨Wd.blind, va_recv hK hP c6 hw, fun U hU hW => ⟨rfl, ?_, va_K.moved hW.alike hK, ⟨hD.1, fun k hk => ⟨k, hk, rfl⟩⟩, hSX.to hS hU hW (wA_sub hD)⟩⟩ rfl (by simp) hl.1 (by simp; rfl) (lv_room (by rw [map_cat]; exact hst)) hd ⟨hc1, hc2⟩
  · rcases List.mem_append.mp hw with h | h
    · have : w ∈ TB := by
        rcases List.mem_cons.mp h with rfl | h
        · exact c1
        rcases List.mem_cons.mp h with rfl | h
        · exact c2
        rcases List.mem_cons.mp h with rfl | h
        · exact c3
        rcases List.mem_cons.mp h with rfl | h
        · exact c4
        · cases h
      exact ⟨this, tb_good w this⟩
    · exact tb_in (Y := ⟨ccY, ownY, yY, nLY, retY, dY⟩) c5 w h
  · show dY + 1 ≤ R.frames
    omega
  · show 8 + (nLY + 11) + 64 * dY ≤ R.locals
    omega
  · rw [hU]; exact hP

theorem V_callS {X : ZX} {M : MD} {pc : Nat} {ls st : List AV} {μ : Mem} {idx : Nat} {As : List AV} {Y : MD} {Qc : AV → Mem → Prop} (hd : decode M.1 pc = .ok (.invokestatic idx, 3)) (hc : CS M.2.1 idx Y As.length) (hdd : Y.2.2.2.2.2 < M.2.2.2.2.2) (hst : (st.map (fun v => if isL v then 2 else 1)).sum ≤ 8) (sp : SP Y As μ Qc) (kk : ∀ v μ', Qc v μ' → V X M (pc + 3) ls (pv v st) μ') : V X M pc ls (As.reverse ++ st) μ := by
  obtain ⟨⟨l, dC, dI, ad, ac, sK, sV⟩, p, e, R, s, m, args, below, meth, c, A, cells, slots, Fin⟩ := X
  obtain ⟨cc, own, y, nL, ret, d⟩ := M
  intro C H locs la hP hS hl
  refine V_behind (stA := As.reverse ++ st) kk C H locs la (As.map (cv ad sK)).toArray hS hl ?_
  obtain ⟨hx, hb, hr, hlk, hml, hown, hts, hK, hD, hSX, hc1, hc2, hd1, hd2⟩ := C
  obtain ⟨ccY, ownY, yY, nLY, retY, dY⟩ := Y
  obtain ⟨⟨c1, c2, c4, c5⟩, c7, c8⟩ := hc
  dsimp only at hdd c8
  refine va_runS (As := As.map (cv ad sK)) (rest := st.map (cv ad sK)) (n := As.length) (ws := Cond.code yY ccY nLY retY :: TB) (rm := zrm dY) (bytes := ccY) (maxL := nLY) (ret := retY) (Ts := TB) (own := own) ⟨hx, hb, hml, hown, hts⟩ (sp l dC dI ad ac sK sV)
    ⟨callB_of As.length hts (tb_in (Y := ⟨ccY, ownY, yY, nLY, retY, dY⟩) c5) rfl rfl rfl (hts _ c4) (hts _ c1) c7 ⟨?_, ?_⟩, hts _ c2⟩ ⟨Wd.blind, fun U hU hW => ⟨rfl, ?_, va_K.moved hW.alike hK, ⟨hD.1, fun k hk => ⟨k, hk, rfl⟩⟩, hSX.to hS hU hW (wA_sub hD)⟩⟩ rfl (by simp) hl.1 (by simp) (lv_room (by rw [map_cat]; exact hst)) hd ⟨hc1, hc2⟩
  · show dY + 1 ≤ R.frames
    omega
  · show 8 + (nLY + 11) + 64 * dY ≤ R.locals
    omega
  · rw [hU]; exact hP
end
section
theorem zz_end : True := trivial
end
