-- ===== PART A: goes FIRST, ahead of the names: the tables' words, and 'selects' of the private methods out of them =====
/-- a private method of a class that the tables say can be made, by its rows of tables_1 -/
def lw_okq (q : MethodName × Nat) : Prop := (q.1.cls ≠ "java/lang/invoke/MethodHandle" ∧ q.1.cls ≠ "java/lang/invoke/VarHandle") ∧ Cond.instantiable q.1.cls q.2 ∈ tables_1 ∧ Cond.privateMethod q.1 ∈ tables_1 ∧ Cond.instanceMethod q.1 ∈ tables_1
theorem lw_p0 : lw_okq (⟨"KeyFinder", "standing", "(I)LKeyFinder$Table;"⟩, 8) := ⟨⟨by decide +kernel, by decide +kernel⟩, List.mem_of_getElem? (i := 16) (by decide +kernel), List.mem_of_getElem? (i := 303) (by decide +kernel), List.mem_of_getElem? (i := 304) (by decide +kernel)⟩
theorem lw_p1 : lw_okq (⟨"KeyFinder", "faulted", "(I)I"⟩, 8) := ⟨⟨by decide +kernel, by decide +kernel⟩, List.mem_of_getElem? (i := 16) (by decide +kernel), List.mem_of_getElem? (i := 318) (by decide +kernel), List.mem_of_getElem? (i := 319) (by decide +kernel)⟩
theorem lw_p2 : lw_okq (⟨"KeyFinder", "renewForce", "()V"⟩, 8) := ⟨⟨by decide +kernel, by decide +kernel⟩, List.mem_of_getElem? (i := 16) (by decide +kernel), List.mem_of_getElem? (i := 459) (by decide +kernel), List.mem_of_getElem? (i := 460) (by decide +kernel)⟩
theorem lw_p3 : lw_okq (⟨"KeyFinder", "refusalOfSets", "(III)I"⟩, 8) := ⟨⟨by decide +kernel, by decide +kernel⟩, List.mem_of_getElem? (i := 16) (by decide +kernel), List.mem_of_getElem? (i := 603) (by decide +kernel), List.mem_of_getElem? (i := 604) (by decide +kernel)⟩
theorem lw_p4 : lw_okq (⟨"KeyFinderModel", "noTable", "(I)Z"⟩, 37) := ⟨⟨by decide +kernel, by decide +kernel⟩, List.mem_of_getElem? (i := 919) (by decide +kernel), List.mem_of_getElem? (i := 1055) (by decide +kernel), List.mem_of_getElem? (i := 1056) (by decide +kernel)⟩
theorem lw_p5 : lw_okq (⟨"KeyFinderModel", "refused", "(I)I"⟩, 37) := ⟨⟨by decide +kernel, by decide +kernel⟩, List.mem_of_getElem? (i := 919) (by decide +kernel), List.mem_of_getElem? (i := 1063) (by decide +kernel), List.mem_of_getElem? (i := 1064) (by decide +kernel)⟩
theorem lw_p6 : lw_okq (⟨"KeyFinderModel", "fails", "(I)I"⟩, 37) := ⟨⟨by decide +kernel, by decide +kernel⟩, List.mem_of_getElem? (i := 919) (by decide +kernel), List.mem_of_getElem? (i := 1067) (by decide +kernel), List.mem_of_getElem? (i := 1068) (by decide +kernel)⟩
theorem lw_p7 : lw_okq (⟨"KeyFinderModel", "addRow", "(I)V"⟩, 37) := ⟨⟨by decide +kernel, by decide +kernel⟩, List.mem_of_getElem? (i := 919) (by decide +kernel), List.mem_of_getElem? (i := 1071) (by decide +kernel), List.mem_of_getElem? (i := 1072) (by decide +kernel)⟩
theorem lw_p8 : lw_okq (⟨"KeyFinderModel", "noCell", "(III)I"⟩, 37) := ⟨⟨by decide +kernel, by decide +kernel⟩, List.mem_of_getElem? (i := 919) (by decide +kernel), List.mem_of_getElem? (i := 1082) (by decide +kernel), List.mem_of_getElem? (i := 1083) (by decide +kernel)⟩
theorem lw_p9 : lw_okq (⟨"KeyFinderModel", "failsLong", "(I)J"⟩, 37) := ⟨⟨by decide +kernel, by decide +kernel⟩, List.mem_of_getElem? (i := 919) (by decide +kernel), List.mem_of_getElem? (i := 1105) (by decide +kernel), List.mem_of_getElem? (i := 1106) (by decide +kernel)⟩
theorem lw_p10 : lw_okq (⟨"KeyFinderModel", "isLike", "(IIII)Z"⟩, 37) := ⟨⟨by decide +kernel, by decide +kernel⟩, List.mem_of_getElem? (i := 919) (by decide +kernel), List.mem_of_getElem? (i := 1127) (by decide +kernel), List.mem_of_getElem? (i := 1128) (by decide +kernel)⟩
theorem lw_p11 : lw_okq (⟨"KeyFinderModel", "allOf", "(I)I"⟩, 37) := ⟨⟨by decide +kernel, by decide +kernel⟩, List.mem_of_getElem? (i := 919) (by decide +kernel), List.mem_of_getElem? (i := 1131) (by decide +kernel), List.mem_of_getElem? (i := 1132) (by decide +kernel)⟩
theorem lw_p12 : lw_okq (⟨"KeyFinderModel", "agree", "(III)I"⟩, 37) := ⟨⟨by decide +kernel, by decide +kernel⟩, List.mem_of_getElem? (i := 919) (by decide +kernel), List.mem_of_getElem? (i := 1135) (by decide +kernel), List.mem_of_getElem? (i := 1136) (by decide +kernel)⟩
theorem lw_p13 : lw_okq (⟨"KeyFinderModel", "areAlike", "(IIII)Z"⟩, 37) := ⟨⟨by decide +kernel, by decide +kernel⟩, List.mem_of_getElem? (i := 919) (by decide +kernel), List.mem_of_getElem? (i := 1139) (by decide +kernel), List.mem_of_getElem? (i := 1140) (by decide +kernel)⟩
theorem lw_p14 : lw_okq (⟨"KeyFinderModel", "noLaw", "(I)Z"⟩, 37) := ⟨⟨by decide +kernel, by decide +kernel⟩, List.mem_of_getElem? (i := 919) (by decide +kernel), List.mem_of_getElem? (i := 1154) (by decide +kernel), List.mem_of_getElem? (i := 1155) (by decide +kernel)⟩
theorem lw_p15 : lw_okq (⟨"KeyFinderModel", "breaksAlone", "(III)Z"⟩, 37) := ⟨⟨by decide +kernel, by decide +kernel⟩, List.mem_of_getElem? (i := 919) (by decide +kernel), List.mem_of_getElem? (i := 1166) (by decide +kernel), List.mem_of_getElem? (i := 1167) (by decide +kernel)⟩
def lw_privs_1 : List (MethodName × Nat) := [(⟨"KeyFinder", "standing", "(I)LKeyFinder$Table;"⟩, 8), (⟨"KeyFinder", "faulted", "(I)I"⟩, 8), (⟨"KeyFinder", "renewForce", "()V"⟩, 8), (⟨"KeyFinder", "refusalOfSets", "(III)I"⟩, 8), (⟨"KeyFinderModel", "noTable", "(I)Z"⟩, 37), (⟨"KeyFinderModel", "refused", "(I)I"⟩, 37), (⟨"KeyFinderModel", "fails", "(I)I"⟩, 37), (⟨"KeyFinderModel", "addRow", "(I)V"⟩, 37), (⟨"KeyFinderModel", "noCell", "(III)I"⟩, 37), (⟨"KeyFinderModel", "failsLong", "(I)J"⟩, 37), (⟨"KeyFinderModel", "isLike", "(IIII)Z"⟩, 37), (⟨"KeyFinderModel", "allOf", "(I)I"⟩, 37), (⟨"KeyFinderModel", "agree", "(III)I"⟩, 37), (⟨"KeyFinderModel", "areAlike", "(IIII)Z"⟩, 37), (⟨"KeyFinderModel", "noLaw", "(I)Z"⟩, 37), (⟨"KeyFinderModel", "breaksAlone", "(III)Z"⟩, 37)]
theorem lw_r1 : ∀ q ∈ lw_privs_1, lw_okq q := List.forall_mem_cons.mpr ⟨lw_p0, List.forall_mem_cons.mpr ⟨lw_p1, List.forall_mem_cons.mpr ⟨lw_p2, List.forall_mem_cons.mpr ⟨lw_p3, List.forall_mem_cons.mpr ⟨lw_p4, List.forall_mem_cons.mpr ⟨lw_p5, List.forall_mem_cons.mpr ⟨lw_p6, List.forall_mem_cons.mpr ⟨lw_p7, List.forall_mem_cons.mpr ⟨lw_p8, List.forall_mem_cons.mpr ⟨lw_p9, List.forall_mem_cons.mpr ⟨lw_p10, List.forall_mem_cons.mpr ⟨lw_p11, List.forall_mem_cons.mpr ⟨lw_p12, List.forall_mem_cons.mpr ⟨lw_p13, List.forall_mem_cons.mpr ⟨lw_p14, List.forall_mem_cons.mpr ⟨lw_p15, fun _ h => absurd h List.not_mem_nil⟩⟩⟩⟩⟩⟩⟩⟩⟩⟩⟩⟩⟩⟩⟩⟩
theorem lw_p16 : lw_okq (⟨"KeyFinderModel", "hasMissing", "(III)Z"⟩, 37) := ⟨⟨by decide +kernel, by decide +kernel⟩, List.mem_of_getElem? (i := 919) (by decide +kernel), List.mem_of_getElem? (i := 1170) (by decide +kernel), List.mem_of_getElem? (i := 1171) (by decide +kernel)⟩
theorem lw_p17 : lw_okq (⟨"KeyFinderModel", "isThere", "(IIII)Z"⟩, 37) := ⟨⟨by decide +kernel, by decide +kernel⟩, List.mem_of_getElem? (i := 919) (by decide +kernel), List.mem_of_getElem? (i := 1174) (by decide +kernel), List.mem_of_getElem? (i := 1175) (by decide +kernel)⟩
theorem lw_p18 : lw_okq (⟨"KeyFinderModel", "breaks", "(IIII)Z"⟩, 37) := ⟨⟨by decide +kernel, by decide +kernel⟩, List.mem_of_getElem? (i := 919) (by decide +kernel), List.mem_of_getElem? (i := 1178) (by decide +kernel), List.mem_of_getElem? (i := 1179) (by decide +kernel)⟩
theorem lw_p19 : lw_okq (⟨"KeyFinderModel", "hasThird", "(IIIII)Z"⟩, 37) := ⟨⟨by decide +kernel, by decide +kernel⟩, List.mem_of_getElem? (i := 919) (by decide +kernel), List.mem_of_getElem? (i := 1182) (by decide +kernel), List.mem_of_getElem? (i := 1183) (by decide +kernel)⟩
theorem lw_p20 : lw_okq (⟨"KeyFinderModel", "noSets", "(III)I"⟩, 37) := ⟨⟨by decide +kernel, by decide +kernel⟩, List.mem_of_getElem? (i := 919) (by decide +kernel), List.mem_of_getElem? (i := 1214) (by decide +kernel), List.mem_of_getElem? (i := 1215) (by decide +kernel)⟩
theorem lw_p21 : lw_okq (⟨"KeyFinderModel", "isWithin", "(I)Z"⟩, 37) := ⟨⟨by decide +kernel, by decide +kernel⟩, List.mem_of_getElem? (i := 919) (by decide +kernel), List.mem_of_getElem? (i := 1230) (by decide +kernel), List.mem_of_getElem? (i := 1231) (by decide +kernel)⟩
theorem lw_p22 : lw_okq (⟨"KeyFinderModel", "all", "()I"⟩, 37) := ⟨⟨by decide +kernel, by decide +kernel⟩, List.mem_of_getElem? (i := 919) (by decide +kernel), List.mem_of_getElem? (i := 1234) (by decide +kernel), List.mem_of_getElem? (i := 1235) (by decide +kernel)⟩
theorem lw_p23 : lw_okq (⟨"KeyFinderModel", "closed", "(I)I"⟩, 37) := ⟨⟨by decide +kernel, by decide +kernel⟩, List.mem_of_getElem? (i := 919) (by decide +kernel), List.mem_of_getElem? (i := 1238) (by decide +kernel), List.mem_of_getElem? (i := 1239) (by decide +kernel)⟩
theorem lw_p24 : lw_okq (⟨"KeyFinderModel", "adding", "(I)I"⟩, 37) := ⟨⟨by decide +kernel, by decide +kernel⟩, List.mem_of_getElem? (i := 919) (by decide +kernel), List.mem_of_getElem? (i := 1242) (by decide +kernel), List.mem_of_getElem? (i := 1243) (by decide +kernel)⟩
theorem lw_p25 : lw_okq (⟨"KeyFinderModel", "isInForce", "(I)Z"⟩, 37) := ⟨⟨by decide +kernel, by decide +kernel⟩, List.mem_of_getElem? (i := 919) (by decide +kernel), List.mem_of_getElem? (i := 1246) (by decide +kernel), List.mem_of_getElem? (i := 1247) (by decide +kernel)⟩
theorem lw_p26 : lw_okq (⟨"KeyFinderModel", "from", "(I)I"⟩, 37) := ⟨⟨by decide +kernel, by decide +kernel⟩, List.mem_of_getElem? (i := 919) (by decide +kernel), List.mem_of_getElem? (i := 1250) (by decide +kernel), List.mem_of_getElem? (i := 1251) (by decide +kernel)⟩
theorem lw_p27 : lw_okq (⟨"KeyFinderModel", "to", "(I)I"⟩, 37) := ⟨⟨by decide +kernel, by decide +kernel⟩, List.mem_of_getElem? (i := 919) (by decide +kernel), List.mem_of_getElem? (i := 1254) (by decide +kernel), List.mem_of_getElem? (i := 1255) (by decide +kernel)⟩
theorem lw_p28 : lw_okq (⟨"KeyFinderModel", "findKeys", "()V"⟩, 37) := ⟨⟨by decide +kernel, by decide +kernel⟩, List.mem_of_getElem? (i := 919) (by decide +kernel), List.mem_of_getElem? (i := 1270) (by decide +kernel), List.mem_of_getElem? (i := 1271) (by decide +kernel)⟩
theorem lw_p29 : lw_okq (⟨"KeyFinderModel", "close", "()V"⟩, 37) := ⟨⟨by decide +kernel, by decide +kernel⟩, List.mem_of_getElem? (i := 919) (by decide +kernel), List.mem_of_getElem? (i := 1274) (by decide +kernel), List.mem_of_getElem? (i := 1275) (by decide +kernel)⟩
theorem lw_p30 : lw_okq (⟨"KeyFinderModel", "findCover", "()V"⟩, 37) := ⟨⟨by decide +kernel, by decide +kernel⟩, List.mem_of_getElem? (i := 919) (by decide +kernel), List.mem_of_getElem? (i := 1290) (by decide +kernel), List.mem_of_getElem? (i := 1291) (by decide +kernel)⟩
theorem lw_p31 : lw_okq (⟨"KeyFinderModel", "closedBy", "(II)I"⟩, 37) := ⟨⟨by decide +kernel, by decide +kernel⟩, List.mem_of_getElem? (i := 919) (by decide +kernel), List.mem_of_getElem? (i := 1294) (by decide +kernel), List.mem_of_getElem? (i := 1295) (by decide +kernel)⟩
def lw_privs_2 : List (MethodName × Nat) := [(⟨"KeyFinderModel", "hasMissing", "(III)Z"⟩, 37), (⟨"KeyFinderModel", "isThere", "(IIII)Z"⟩, 37), (⟨"KeyFinderModel", "breaks", "(IIII)Z"⟩, 37), (⟨"KeyFinderModel", "hasThird", "(IIIII)Z"⟩, 37), (⟨"KeyFinderModel", "noSets", "(III)I"⟩, 37), (⟨"KeyFinderModel", "isWithin", "(I)Z"⟩, 37), (⟨"KeyFinderModel", "all", "()I"⟩, 37), (⟨"KeyFinderModel", "closed", "(I)I"⟩, 37), (⟨"KeyFinderModel", "adding", "(I)I"⟩, 37), (⟨"KeyFinderModel", "isInForce", "(I)Z"⟩, 37), (⟨"KeyFinderModel", "from", "(I)I"⟩, 37), (⟨"KeyFinderModel", "to", "(I)I"⟩, 37), (⟨"KeyFinderModel", "findKeys", "()V"⟩, 37), (⟨"KeyFinderModel", "close", "()V"⟩, 37), (⟨"KeyFinderModel", "findCover", "()V"⟩, 37), (⟨"KeyFinderModel", "closedBy", "(II)I"⟩, 37)]
theorem lw_r2 : ∀ q ∈ lw_privs_2, lw_okq q := List.forall_mem_cons.mpr ⟨lw_p16, List.forall_mem_cons.mpr ⟨lw_p17, List.forall_mem_cons.mpr ⟨lw_p18, List.forall_mem_cons.mpr ⟨lw_p19, List.forall_mem_cons.mpr ⟨lw_p20, List.forall_mem_cons.mpr ⟨lw_p21, List.forall_mem_cons.mpr ⟨lw_p22, List.forall_mem_cons.mpr ⟨lw_p23, List.forall_mem_cons.mpr ⟨lw_p24, List.forall_mem_cons.mpr ⟨lw_p25, List.forall_mem_cons.mpr ⟨lw_p26, List.forall_mem_cons.mpr ⟨lw_p27, List.forall_mem_cons.mpr ⟨lw_p28, List.forall_mem_cons.mpr ⟨lw_p29, List.forall_mem_cons.mpr ⟨lw_p30, List.forall_mem_cons.mpr ⟨lw_p31, fun _ h => absurd h List.not_mem_nil⟩⟩⟩⟩⟩⟩⟩⟩⟩⟩⟩⟩⟩⟩⟩⟩
theorem lw_p32 : lw_okq (⟨"KeyFinderModel", "laid", "(IZ)I"⟩, 37) := ⟨⟨by decide +kernel, by decide +kernel⟩, List.mem_of_getElem? (i := 919) (by decide +kernel), List.mem_of_getElem? (i := 1306) (by decide +kernel), List.mem_of_getElem? (i := 1307) (by decide +kernel)⟩
theorem lw_p33 : lw_okq (⟨"KeyFinderModel", "parting", "(I)I"⟩, 37) := ⟨⟨by decide +kernel, by decide +kernel⟩, List.mem_of_getElem? (i := 919) (by decide +kernel), List.mem_of_getElem? (i := 1314) (by decide +kernel), List.mem_of_getElem? (i := 1315) (by decide +kernel)⟩
theorem lw_p34 : lw_okq (⟨"KeyFinderModel", "noPart", "(I)Z"⟩, 37) := ⟨⟨by decide +kernel, by decide +kernel⟩, List.mem_of_getElem? (i := 919) (by decide +kernel), List.mem_of_getElem? (i := 1322) (by decide +kernel), List.mem_of_getElem? (i := 1323) (by decide +kernel)⟩
theorem lw_p35 : lw_okq (⟨"KeyFinderModel", "primeOf", "(I)I"⟩, 37) := ⟨⟨by decide +kernel, by decide +kernel⟩, List.mem_of_getElem? (i := 919) (by decide +kernel), List.mem_of_getElem? (i := 1338) (by decide +kernel), List.mem_of_getElem? (i := 1339) (by decide +kernel)⟩
theorem lw_p36 : lw_okq (⟨"KeyFinderModel", "chases", "(III)Z"⟩, 37) := ⟨⟨by decide +kernel, by decide +kernel⟩, List.mem_of_getElem? (i := 919) (by decide +kernel), List.mem_of_getElem? (i := 1346) (by decide +kernel), List.mem_of_getElem? (i := 1347) (by decide +kernel)⟩
theorem lw_p37 : lw_okq (⟨"KeyFinderModel", "isSame", "(III)Z"⟩, 37) := ⟨⟨by decide +kernel, by decide +kernel⟩, List.mem_of_getElem? (i := 919) (by decide +kernel), List.mem_of_getElem? (i := 1350) (by decide +kernel), List.mem_of_getElem? (i := 1351) (by decide +kernel)⟩
theorem lw_p38 : lw_okq (⟨"KeyFinderModel", "unite", "(III)V"⟩, 37) := ⟨⟨by decide +kernel, by decide +kernel⟩, List.mem_of_getElem? (i := 919) (by decide +kernel), List.mem_of_getElem? (i := 1354) (by decide +kernel), List.mem_of_getElem? (i := 1355) (by decide +kernel)⟩
theorem lw_p39 : lw_okq (⟨"KeyFinderModel", "isKept", "(I)Z"⟩, 37) := ⟨⟨by decide +kernel, by decide +kernel⟩, List.mem_of_getElem? (i := 919) (by decide +kernel), List.mem_of_getElem? (i := 1362) (by decide +kernel), List.mem_of_getElem? (i := 1363) (by decide +kernel)⟩
theorem lw_p40 : lw_okq (⟨"KeyFinderModel", "give", "(IIIIII)V"⟩, 37) := ⟨⟨by decide +kernel, by decide +kernel⟩, List.mem_of_getElem? (i := 919) (by decide +kernel), List.mem_of_getElem? (i := 1380) (by decide +kernel), List.mem_of_getElem? (i := 1381) (by decide +kernel)⟩
theorem lw_p41 : lw_okq (⟨"KeyFinderModel", "fits", "(IIIIII)Z"⟩, 37) := ⟨⟨by decide +kernel, by decide +kernel⟩, List.mem_of_getElem? (i := 919) (by decide +kernel), List.mem_of_getElem? (i := 1388) (by decide +kernel), List.mem_of_getElem? (i := 1389) (by decide +kernel)⟩
def lw_privs_3 : List (MethodName × Nat) := [(⟨"KeyFinderModel", "laid", "(IZ)I"⟩, 37), (⟨"KeyFinderModel", "parting", "(I)I"⟩, 37), (⟨"KeyFinderModel", "noPart", "(I)Z"⟩, 37), (⟨"KeyFinderModel", "primeOf", "(I)I"⟩, 37), (⟨"KeyFinderModel", "chases", "(III)Z"⟩, 37), (⟨"KeyFinderModel", "isSame", "(III)Z"⟩, 37), (⟨"KeyFinderModel", "unite", "(III)V"⟩, 37), (⟨"KeyFinderModel", "isKept", "(I)Z"⟩, 37), (⟨"KeyFinderModel", "give", "(IIIIII)V"⟩, 37), (⟨"KeyFinderModel", "fits", "(IIIIII)Z"⟩, 37)]
theorem lw_r3 : ∀ q ∈ lw_privs_3, lw_okq q := List.forall_mem_cons.mpr ⟨lw_p32, List.forall_mem_cons.mpr ⟨lw_p33, List.forall_mem_cons.mpr ⟨lw_p34, List.forall_mem_cons.mpr ⟨lw_p35, List.forall_mem_cons.mpr ⟨lw_p36, List.forall_mem_cons.mpr ⟨lw_p37, List.forall_mem_cons.mpr ⟨lw_p38, List.forall_mem_cons.mpr ⟨lw_p39, List.forall_mem_cons.mpr ⟨lw_p40, List.forall_mem_cons.mpr ⟨lw_p41, fun _ h => absurd h List.not_mem_nil⟩⟩⟩⟩⟩⟩⟩⟩⟩⟩
def lw_privs : List (MethodName × Nat) := lw_privs_1 ++ (lw_privs_2 ++ (lw_privs_3))
def lw_tbl : List Cond := k2_sels lw_privs ++ tables_1
theorem lw_privs_ok : ∀ q ∈ lw_privs, lw_okq q := by
  show ∀ q ∈ lw_privs_1 ++ (lw_privs_2 ++ (lw_privs_3)), lw_okq q
  exact List.forall_mem_append.mpr ⟨lw_r1, List.forall_mem_append.mpr ⟨lw_r2, lw_r3⟩⟩
/-- the streams that the claim lets the run draw from -/
abbrev lw_cs : List Choice := [Jvm.Choice.named "NaN.copy"]
def RX0 : String := "KeyFinder$Cover"
def TX0 : u_T := fun k => match k with
  | 0 => ("KeyFinder$Cover", "theory", "LKeyFinder$Theory;", true)
  | 1 => ("KeyFinder$Cover", "stands", "Z", false)
  | 2 => ("KeyFinder$Cover", "count", "I", false)
  | 3 => ("KeyFinder$Cover", "xs", "[I", true)
  | _ => ("KeyFinder$Cover", "columns", "[I", true)
def tyX0 : Nat → FieldType := fun k => match k with
  | 0 => .object "KeyFinder$Theory"
  | 1 => .boolean
  | 2 => .int
  | 3 => .array .int
  | _ => .array .int
abbrev wsX00 : List Cond := u_ws RX0 TX0 5
theorem nmX0 : ∀ a, a < 5 → ∀ b, b < 5 → a ≠ b → (TX0 a).2.1 ≠ (TX0 b).2.1 := by decide +kernel
theorem tyX0_ok : ∀ k, k < 5 → parseFieldDescriptor (TX0 k).2.2.1 = some (tyX0 k) := by decide +kernel
abbrev cX0_init : ByteArray := prog_2_method_1_code
def yX0_init : MethodName := ⟨RX0, "<init>", "(LKeyFinder$Theory;)V"⟩
abbrev cX0_build : ByteArray := prog_2_method_2_code
def yX0_build : MethodName := ⟨RX0, "build", "()V"⟩
abbrev cX0_addEach : ByteArray := prog_2_method_3_code
def yX0_addEach : MethodName := ⟨RX0, "addEach", "(II)V"⟩
abbrev cX0_shorten : ByteArray := prog_2_method_4_code
def yX0_shorten : MethodName := ⟨RX0, "shorten", "(I)V"⟩
abbrev cX0_leaveOutWhatFollows : ByteArray := prog_2_method_5_code
def yX0_leaveOutWhatFollows : MethodName := ⟨RX0, "leaveOutWhatFollows", "()V"⟩
abbrev cX0_followsFromOthers : ByteArray := prog_2_method_6_code
def yX0_followsFromOthers : MethodName := ⟨RX0, "followsFromOthers", "(I)Z"⟩
abbrev cX0_leaveOut : ByteArray := prog_2_method_7_code
def yX0_leaveOut : MethodName := ⟨RX0, "leaveOut", "(I)V"⟩
abbrev cX0_isFirstOfItsX : ByteArray := prog_2_method_8_code
def yX0_isFirstOfItsX : MethodName := ⟨RX0, "isFirstOfItsX", "(I)Z"⟩
abbrev cX0_groupOf : ByteArray := prog_2_method_9_code
def yX0_groupOf : MethodName := ⟨RX0, "groupOf", "(I)I"⟩
def RX1 : String := "KeyFinder$Judge"
def TX1 : u_T := fun k => match k with
  | 0 => ("KeyFinder$Judge", "brokenRow", "I", false)
  | _ => ("KeyFinder$Judge", "brokenOther", "I", false)
def tyX1 : Nat → FieldType := fun k => match k with
  | 0 => .int
  | _ => .int
abbrev wsX10 : List Cond := u_ws RX1 TX1 2
theorem nmX1 : ∀ a, a < 2 → ∀ b, b < 2 → a ≠ b → (TX1 a).2.1 ≠ (TX1 b).2.1 := by decide +kernel
theorem tyX1_ok : ∀ k, k < 2 → parseFieldDescriptor (TX1 k).2.2.1 = some (tyX1 k) := by decide +kernel
abbrev cX1_init : ByteArray := prog_3_method_1_code
def yX1_init : MethodName := ⟨RX1, "<init>", "()V"⟩
abbrev cX1_holds : ByteArray := prog_3_method_2_code
def yX1_holds : MethodName := ⟨RX1, "holds", "(LKeyFinder$Table;IIILKeyFinder$Table;)Z"⟩
abbrev cX1_breaksAt : ByteArray := prog_3_method_3_code
def yX1_breaksAt : MethodName := ⟨RX1, "breaksAt", "(II)Z"⟩
abbrev cX1_holdsTells : ByteArray := prog_3_method_4_code
def yX1_holdsTells : MethodName := ⟨RX1, "holdsTells", "(LKeyFinder$Table;II)Z"⟩
abbrev cX1_holdsSeveral : ByteArray := prog_3_method_5_code
def yX1_holdsSeveral : MethodName := ⟨RX1, "holdsSeveral", "(LKeyFinder$Table;II)Z"⟩
abbrev cX1_hasBetween : ByteArray := prog_3_method_6_code
def yX1_hasBetween : MethodName := ⟨RX1, "hasBetween", "(LKeyFinder$Table;IIII)Z"⟩
abbrev cX1_holdsNever : ByteArray := prog_3_method_7_code
def yX1_holdsNever : MethodName := ⟨RX1, "holdsNever", "(LKeyFinder$Table;I)Z"⟩
abbrev cX1_holdsOrder : ByteArray := prog_3_method_8_code
def yX1_holdsOrder : MethodName := ⟨RX1, "holdsOrder", "(LKeyFinder$Table;II)Z"⟩
abbrev cX1_isBehind : ByteArray := prog_3_method_9_code
def yX1_isBehind : MethodName := ⟨RX1, "isBehind", "(LKeyFinder$Table;III)Z"⟩
abbrev cX1_holdsWithin : ByteArray := prog_3_method_10_code
def yX1_holdsWithin : MethodName := ⟨RX1, "holdsWithin", "(LKeyFinder$Table;ILKeyFinder$Table;)Z"⟩
def RX2 : String := "KeyFinder$Laws"
def TX2 : u_T := fun k => match k with
  | 0 => ("KeyFinder$Laws", "count", "I", false)
  | 1 => ("KeyFinder$Laws", "kinds", "[I", true)
  | 2 => ("KeyFinder$Laws", "xs", "[I", true)
  | 3 => ("KeyFinder$Laws", "ys", "[I", true)
  | _ => ("KeyFinder$Laws", "dropped", "[Z", true)
def tyX2 : Nat → FieldType := fun k => match k with
  | 0 => .int
  | 1 => .array .int
  | 2 => .array .int
  | 3 => .array .int
  | _ => .array .boolean
abbrev wsX20 : List Cond := u_ws RX2 TX2 5
theorem nmX2 : ∀ a, a < 5 → ∀ b, b < 5 → a ≠ b → (TX2 a).2.1 ≠ (TX2 b).2.1 := by decide +kernel
theorem tyX2_ok : ∀ k, k < 5 → parseFieldDescriptor (TX2 k).2.2.1 = some (tyX2 k) := by decide +kernel
abbrev cX2_init : ByteArray := prog_4_method_1_code
def yX2_init : MethodName := ⟨RX2, "<init>", "()V"⟩
abbrev cX2_add : ByteArray := prog_4_method_2_code
def yX2_add : MethodName := ⟨RX2, "add", "(III)I"⟩
abbrev cX2_has : ByteArray := prog_4_method_3_code
def yX2_has : MethodName := ⟨RX2, "has", "(I)Z"⟩
abbrev cX2_isInForce : ByteArray := prog_4_method_4_code
def yX2_isInForce : MethodName := ⟨RX2, "isInForce", "(I)Z"⟩
def RX3 : String := "KeyFinder$Parts"
def TX3 : u_T := fun k => match k with
  | 0 => ("KeyFinder$Parts", "theory", "LKeyFinder$Theory;", true)
  | 1 => ("KeyFinder$Parts", "count", "I", false)
  | 2 => ("KeyFinder$Parts", "sets", "[I", true)
  | 3 => ("KeyFinder$Parts", "draftCount", "I", false)
  | 4 => ("KeyFinder$Parts", "draft", "[I", true)
  | _ => ("KeyFinder$Parts", "signs", "[I", true)
def tyX3 : Nat → FieldType := fun k => match k with
  | 0 => .object "KeyFinder$Theory"
  | 1 => .int
  | 2 => .array .int
  | 3 => .int
  | 4 => .array .int
  | _ => .array .int
abbrev wsX30 : List Cond := u_ws RX3 TX3 6
theorem nmX3 : ∀ a, a < 6 → ∀ b, b < 6 → a ≠ b → (TX3 a).2.1 ≠ (TX3 b).2.1 := by decide +kernel
theorem tyX3_ok : ∀ k, k < 6 → parseFieldDescriptor (TX3 k).2.2.1 = some (tyX3 k) := by decide +kernel
abbrev cX3_init : ByteArray := prog_5_method_1_code
def yX3_init : MethodName := ⟨RX3, "<init>", "(LKeyFinder$Theory;)V"⟩
abbrev cX3_becomeThird : ByteArray := prog_5_method_2_code
def yX3_becomeThird : MethodName := ⟨RX3, "becomeThird", "(LKeyFinder$Cover;)Z"⟩
abbrev cX3_leaveOutInner : ByteArray := prog_5_method_3_code
def yX3_leaveOutInner : MethodName := ⟨RX3, "leaveOutInner", "()V"⟩
abbrev cX3_isInner : ByteArray := prog_5_method_4_code
def yX3_isInner : MethodName := ⟨RX3, "isInner", "(II)Z"⟩
abbrev cX3_hasDraftKey : ByteArray := prog_5_method_5_code
def yX3_hasDraftKey : MethodName := ⟨RX3, "hasDraftKey", "()Z"⟩
abbrev cX3_becomeStrict : ByteArray := prog_5_method_6_code
def yX3_becomeStrict : MethodName := ⟨RX3, "becomeStrict", "()Z"⟩
abbrev cX3_splitFirst : ByteArray := prog_5_method_7_code
def yX3_splitFirst : MethodName := ⟨RX3, "splitFirst", "()Z"⟩
abbrev cX3_split : ByteArray := prog_5_method_8_code
def yX3_split : MethodName := ⟨RX3, "split", "(II)V"⟩
abbrev cX3_takeDraft : ByteArray := prog_5_method_9_code
def yX3_takeDraft : MethodName := ⟨RX3, "takeDraft", "()Z"⟩
abbrev cX3_keepForce : ByteArray := prog_5_method_10_code
def yX3_keepForce : MethodName := ⟨RX3, "keepForce", "(I)Z"⟩
abbrev cX3_areLossless : ByteArray := prog_5_method_11_code
def yX3_areLossless : MethodName := ⟨RX3, "areLossless", "()Z"⟩
abbrev cX3_writeSigns : ByteArray := prog_5_method_12_code
def yX3_writeSigns : MethodName := ⟨RX3, "writeSigns", "()V"⟩
abbrev cX3_chaseAll : ByteArray := prog_5_method_13_code
def yX3_chaseAll : MethodName := ⟨RX3, "chaseAll", "()Z"⟩
abbrev cX3_chase : ByteArray := prog_5_method_14_code
def yX3_chase : MethodName := ⟨RX3, "chase", "(II)Z"⟩
abbrev cX3_sameSigns : ByteArray := prog_5_method_15_code
def yX3_sameSigns : MethodName := ⟨RX3, "sameSigns", "(II)I"⟩
abbrev cX3_makeOne : ByteArray := prog_5_method_16_code
def yX3_makeOne : MethodName := ⟨RX3, "makeOne", "(III)V"⟩
abbrev cX3_replace : ByteArray := prog_5_method_17_code
def yX3_replace : MethodName := ⟨RX3, "replace", "(III)V"⟩
abbrev cX3_isRowWhole : ByteArray := prog_5_method_18_code
def yX3_isRowWhole : MethodName := ⟨RX3, "isRowWhole", "(I)Z"⟩
def RX4 : String := "KeyFinder$Search"
def TX4 : u_T := fun k => match k with
  | 0 => ("KeyFinder$Search", "count", "I", false)
  | 1 => ("KeyFinder$Search", "xs", "[I", true)
  | 2 => ("KeyFinder$Search", "columns", "[I", true)
  | 3 => ("KeyFinder$Search", "pairCount", "I", false)
  | 4 => ("KeyFinder$Search", "pairs", "[I", true)
  | _ => ("KeyFinder$Search", "holding", "[Z", true)
def tyX4 : Nat → FieldType := fun k => match k with
  | 0 => .int
  | 1 => .array .int
  | 2 => .array .int
  | 3 => .int
  | 4 => .array .int
  | _ => .array .boolean
abbrev wsX40 : List Cond := u_ws RX4 TX4 6
theorem nmX4 : ∀ a, a < 6 → ∀ b, b < 6 → a ≠ b → (TX4 a).2.1 ≠ (TX4 b).2.1 := by decide +kernel
theorem tyX4_ok : ∀ k, k < 6 → parseFieldDescriptor (TX4 k).2.2.1 = some (tyX4 k) := by decide +kernel
abbrev cX4_init : ByteArray := prog_6_method_1_code
def yX4_init : MethodName := ⟨RX4, "<init>", "()V"⟩
abbrev cX4_run : ByteArray := prog_6_method_2_code
def yX4_run : MethodName := ⟨RX4, "run", "(LKeyFinder$Table;)V"⟩
abbrev cX4_notePairs : ByteArray := prog_6_method_3_code
def yX4_notePairs : MethodName := ⟨RX4, "notePairs", "(LKeyFinder$Table;)V"⟩
abbrev cX4_findThatTell : ByteArray := prog_6_method_4_code
def yX4_findThatTell : MethodName := ⟨RX4, "findThatTell", "(II)V"⟩
abbrev cX4_hasLessThatHolds : ByteArray := prog_6_method_5_code
def yX4_hasLessThatHolds : MethodName := ⟨RX4, "hasLessThatHolds", "(I)Z"⟩
abbrev cX4_doPairsAgree : ByteArray := prog_6_method_6_code
def yX4_doPairsAgree : MethodName := ⟨RX4, "doPairsAgree", "(II)Z"⟩
abbrev cX4_note : ByteArray := prog_6_method_7_code
def yX4_note : MethodName := ⟨RX4, "note", "(II)V"⟩
def RX5 : String := "KeyFinder$Table"
def TX5 : u_T := fun k => match k with
  | 0 => ("KeyFinder$Table", "there", "Z", false)
  | 1 => ("KeyFinder$Table", "takesMissingAsLike", "Z", false)
  | 2 => ("KeyFinder$Table", "columnCount", "I", false)
  | 3 => ("KeyFinder$Table", "rowCount", "I", false)
  | 4 => ("KeyFinder$Table", "lanes", "[I", true)
  | 5 => ("KeyFinder$Table", "values", "[J", true)
  | _ => ("KeyFinder$Table", "filled", "[B", true)
def tyX5 : Nat → FieldType := fun k => match k with
  | 0 => .boolean
  | 1 => .boolean
  | 2 => .int
  | 3 => .int
  | 4 => .array .int
  | 5 => .array .long
  | _ => .array .byte
abbrev wsX50 : List Cond := u_ws RX5 TX5 7
theorem nmX5 : ∀ a, a < 7 → ∀ b, b < 7 → a ≠ b → (TX5 a).2.1 ≠ (TX5 b).2.1 := by decide +kernel
theorem tyX5_ok : ∀ k, k < 7 → parseFieldDescriptor (TX5 k).2.2.1 = some (tyX5 k) := by decide +kernel
abbrev cX5_init : ByteArray := prog_7_method_1_code
def yX5_init : MethodName := ⟨RX5, "<init>", "()V"⟩
abbrev cX5_open : ByteArray := prog_7_method_2_code
def yX5_open : MethodName := ⟨RX5, "open", "(Z)V"⟩
abbrev cX5_addColumn : ByteArray := prog_7_method_3_code
def yX5_addColumn : MethodName := ⟨RX5, "addColumn", "(I)I"⟩
abbrev cX5_addRows : ByteArray := prog_7_method_4_code
def yX5_addRows : MethodName := ⟨RX5, "addRows", "(I)I"⟩
abbrev cX5_hasColumn : ByteArray := prog_7_method_5_code
def yX5_hasColumn : MethodName := ⟨RX5, "hasColumn", "(I)Z"⟩
abbrev cX5_hasRow : ByteArray := prog_7_method_6_code
def yX5_hasRow : MethodName := ⟨RX5, "hasRow", "(I)Z"⟩
abbrev cX5_columnSet : ByteArray := prog_7_method_7_code
def yX5_columnSet : MethodName := ⟨RX5, "columnSet", "()I"⟩
abbrev cX5_hasColumns : ByteArray := prog_7_method_8_code
def yX5_hasColumns : MethodName := ⟨RX5, "hasColumns", "(I)Z"⟩
abbrev cX5_faultOf : ByteArray := prog_7_method_9_code
def yX5_faultOf : MethodName := ⟨RX5, "faultOf", "(II)I"⟩
abbrev cX5_faultOfReading : ByteArray := prog_7_method_10_code
def yX5_faultOfReading : MethodName := ⟨RX5, "faultOfReading", "(III)I"⟩
abbrev cX5_hasValue : ByteArray := prog_7_method_11_code
def yX5_hasValue : MethodName := ⟨RX5, "hasValue", "(II)Z"⟩
abbrev cX5_valueOf : ByteArray := prog_7_method_12_code
def yX5_valueOf : MethodName := ⟨RX5, "valueOf", "(II)J"⟩
abbrev cX5_store : ByteArray := prog_7_method_13_code
def yX5_store : MethodName := ⟨RX5, "store", "(IIJ)V"⟩
abbrev cX5_erase : ByteArray := prog_7_method_14_code
def yX5_erase : MethodName := ⟨RX5, "erase", "(II)Z"⟩
abbrev cX5_moveCells : ByteArray := prog_7_method_15_code
def yX5_moveCells : MethodName := ⟨RX5, "moveCells", "(IIIII)V"⟩
abbrev cX5_missingCells : ByteArray := prog_7_method_16_code
def yX5_missingCells : MethodName := ⟨RX5, "missingCells", "()I"⟩
abbrev cX5_missingIn : ByteArray := prog_7_method_17_code
def yX5_missingIn : MethodName := ⟨RX5, "missingIn", "(I)I"⟩
abbrev cX5_likeColumns : ByteArray := prog_7_method_18_code
def yX5_likeColumns : MethodName := ⟨RX5, "likeColumns", "(II)I"⟩
abbrev cX5_areRowsLike : ByteArray := prog_7_method_19_code
def yX5_areRowsLike : MethodName := ⟨RX5, "areRowsLike", "(III)Z"⟩
abbrev cX5_hasElderLike : ByteArray := prog_7_method_20_code
def yX5_hasElderLike : MethodName := ⟨RX5, "hasElderLike", "(II)Z"⟩
abbrev cX5_rowsSeenBefore : ByteArray := prog_7_method_21_code
def yX5_rowsSeenBefore : MethodName := ⟨RX5, "rowsSeenBefore", "(I)I"⟩
abbrev cX5_rowsToLeaveOut : ByteArray := prog_7_method_22_code
def yX5_rowsToLeaveOut : MethodName := ⟨RX5, "rowsToLeaveOut", "(II)I"⟩
abbrev cX5_mostThatStay : ByteArray := prog_7_method_23_code
def yX5_mostThatStay : MethodName := ⟨RX5, "mostThatStay", "(III)I"⟩
abbrev cX5_laterLike : ByteArray := prog_7_method_24_code
def yX5_laterLike : MethodName := ⟨RX5, "laterLike", "(II)I"⟩
abbrev cX5_hasLanesOf : ByteArray := prog_7_method_25_code
def yX5_hasLanesOf : MethodName := ⟨RX5, "hasLanesOf", "(LKeyFinder$Table;I)Z"⟩
abbrev cX5_hasValuesOf : ByteArray := prog_7_method_26_code
def yX5_hasValuesOf : MethodName := ⟨RX5, "hasValuesOf", "(LKeyFinder$Table;II)Z"⟩
abbrev cX5_sameValues : ByteArray := prog_7_method_27_code
def yX5_sameValues : MethodName := ⟨RX5, "sameValues", "(ILKeyFinder$Table;I)I"⟩
abbrev cX5_becomeProjection : ByteArray := prog_7_method_28_code
def yX5_becomeProjection : MethodName := ⟨RX5, "becomeProjection", "(LKeyFinder$Table;I)I"⟩
abbrev cX5_becomeJoin : ByteArray := prog_7_method_29_code
def yX5_becomeJoin : MethodName := ⟨RX5, "becomeJoin", "(LKeyFinder$Table;ILKeyFinder$Table;I)I"⟩
abbrev cX5_takeCells : ByteArray := prog_7_method_30_code
def yX5_takeCells : MethodName := ⟨RX5, "takeCells", "(IILKeyFinder$Table;II)V"⟩
def RX6 : String := "KeyFinder$Theory"
def TX6 : u_T := fun k => match k with
  | 0 => ("KeyFinder$Theory", "columnCount", "I", false)
  | 1 => ("KeyFinder$Theory", "all", "I", false)
  | 2 => ("KeyFinder$Theory", "forceCount", "I", false)
  | 3 => ("KeyFinder$Theory", "forceLaws", "[I", true)
  | 4 => ("KeyFinder$Theory", "forceXs", "[I", true)
  | 5 => ("KeyFinder$Theory", "forceYs", "[I", true)
  | 6 => ("KeyFinder$Theory", "closures", "[I", true)
  | 7 => ("KeyFinder$Theory", "stepCount", "I", false)
  | 8 => ("KeyFinder$Theory", "steps", "[I", true)
  | 9 => ("KeyFinder$Theory", "keysStand", "Z", false)
  | 10 => ("KeyFinder$Theory", "keyCount", "I", false)
  | _ => ("KeyFinder$Theory", "keySets", "[I", true)
def tyX6 : Nat → FieldType := fun k => match k with
  | 0 => .int
  | 1 => .int
  | 2 => .int
  | 3 => .array .int
  | 4 => .array .int
  | 5 => .array .int
  | 6 => .array .int
  | 7 => .int
  | 8 => .array .int
  | 9 => .boolean
  | 10 => .int
  | _ => .array .int
abbrev wsX60 : List Cond := u_ws RX6 TX6 12
theorem nmX6 : ∀ a, a < 12 → ∀ b, b < 12 → a ≠ b → (TX6 a).2.1 ≠ (TX6 b).2.1 := by decide +kernel
theorem tyX6_ok : ∀ k, k < 12 → parseFieldDescriptor (TX6 k).2.2.1 = some (tyX6 k) := by decide +kernel
abbrev cX6_init : ByteArray := prog_8_method_1_code
def yX6_init : MethodName := ⟨RX6, "<init>", "()V"⟩
abbrev cX6_widen : ByteArray := prog_8_method_2_code
def yX6_widen : MethodName := ⟨RX6, "widen", "(I)V"⟩
abbrev cX6_takeForce : ByteArray := prog_8_method_3_code
def yX6_takeForce : MethodName := ⟨RX6, "takeForce", "(LKeyFinder$Laws;)V"⟩
abbrev cX6_placeInForce : ByteArray := prog_8_method_4_code
def yX6_placeInForce : MethodName := ⟨RX6, "placeInForce", "(I)I"⟩
abbrev cX6_isWithinAll : ByteArray := prog_8_method_5_code
def yX6_isWithinAll : MethodName := ⟨RX6, "isWithinAll", "(I)Z"⟩
abbrev cX6_nextForce : ByteArray := prog_8_method_6_code
def yX6_nextForce : MethodName := ⟨RX6, "nextForce", "(I)I"⟩
abbrev cX6_closureOf : ByteArray := prog_8_method_7_code
def yX6_closureOf : MethodName := ⟨RX6, "closureOf", "(I)I"⟩
abbrev cX6_noteSteps : ByteArray := prog_8_method_8_code
def yX6_noteSteps : MethodName := ⟨RX6, "noteSteps", "(II)V"⟩
abbrev cX6_tellsAllOf : ByteArray := prog_8_method_9_code
def yX6_tellsAllOf : MethodName := ⟨RX6, "tellsAllOf", "(II)Z"⟩
abbrev cX6_isLeastFor : ByteArray := prog_8_method_10_code
def yX6_isLeastFor : MethodName := ⟨RX6, "isLeastFor", "(II)Z"⟩
abbrev cX6_findKeys : ByteArray := prog_8_method_11_code
def yX6_findKeys : MethodName := ⟨RX6, "findKeys", "()V"⟩
abbrev cX6_primeOf : ByteArray := prog_8_method_12_code
def yX6_primeOf : MethodName := ⟨RX6, "primeOf", "(I)I"⟩
abbrev cX6_isThird : ByteArray := prog_8_method_13_code
def yX6_isThird : MethodName := ⟨RX6, "isThird", "(II)Z"⟩
abbrev cX6_splitterOf : ByteArray := prog_8_method_14_code
def yX6_splitterOf : MethodName := ⟨RX6, "splitterOf", "(I)I"⟩
def RX7 : String := "KeyFinder"
def TX7 : u_T := fun k => match k with
  | 0 => ("KeyFinder", "tables", "[LKeyFinder$Table;", true)
  | 1 => ("KeyFinder", "laws", "LKeyFinder$Laws;", true)
  | 2 => ("KeyFinder", "judge", "LKeyFinder$Judge;", true)
  | 3 => ("KeyFinder", "search", "LKeyFinder$Search;", true)
  | 4 => ("KeyFinder", "theory", "LKeyFinder$Theory;", true)
  | 5 => ("KeyFinder", "lawCover", "LKeyFinder$Cover;", true)
  | 6 => ("KeyFinder", "parts", "LKeyFinder$Parts;", true)
  | _ => ("KeyFinder", "latestFault", "I", false)
def tyX7 : Nat → FieldType := fun k => match k with
  | 0 => .array (.object "KeyFinder$Table")
  | 1 => .object "KeyFinder$Laws"
  | 2 => .object "KeyFinder$Judge"
  | 3 => .object "KeyFinder$Search"
  | 4 => .object "KeyFinder$Theory"
  | 5 => .object "KeyFinder$Cover"
  | 6 => .object "KeyFinder$Parts"
  | _ => .int
abbrev wsX70 : List Cond := u_ws RX7 TX7 8
theorem nmX7 : ∀ a, a < 8 → ∀ b, b < 8 → a ≠ b → (TX7 a).2.1 ≠ (TX7 b).2.1 := by decide +kernel
theorem tyX7_ok : ∀ k, k < 8 → parseFieldDescriptor (TX7 k).2.2.1 = some (tyX7 k) := by decide +kernel
abbrev cX7_init : ByteArray := prog_1_method_1_code
def yX7_init : MethodName := ⟨RX7, "<init>", "()V"⟩
abbrev cX7_table : ByteArray := prog_1_method_2_code
def yX7_table : MethodName := ⟨RX7, "table", "(IZ)I"⟩
abbrev cX7_drop : ByteArray := prog_1_method_3_code
def yX7_drop : MethodName := ⟨RX7, "drop", "(I)I"⟩
abbrev cX7_column : ByteArray := prog_1_method_4_code
def yX7_column : MethodName := ⟨RX7, "column", "(II)I"⟩
abbrev cX7_rows : ByteArray := prog_1_method_5_code
def yX7_rows : MethodName := ⟨RX7, "rows", "(II)I"⟩
abbrev cX7_put : ByteArray := prog_1_method_6_code
def yX7_put : MethodName := ⟨RX7, "put", "(IIIJ)I"⟩
abbrev cX7_miss : ByteArray := prog_1_method_7_code
def yX7_miss : MethodName := ⟨RX7, "miss", "(III)I"⟩
abbrev cX7_at : ByteArray := prog_1_method_8_code
def yX7_at : MethodName := ⟨RX7, "at", "(IIII)J"⟩
abbrev cX7_copy : ByteArray := prog_1_method_9_code
def yX7_copy : MethodName := ⟨RX7, "copy", "(IIIIII)I"⟩
abbrev cX7_about : ByteArray := prog_1_method_10_code
def yX7_about : MethodName := ⟨RX7, "about", "(II)I"⟩
abbrev cX7_like : ByteArray := prog_1_method_11_code
def yX7_like : MethodName := ⟨RX7, "like", "(IIII)I"⟩
abbrev cX7_law : ByteArray := prog_1_method_12_code
def yX7_law : MethodName := ⟨RX7, "law", "(III)I"⟩
abbrev cX7_unlaw : ByteArray := prog_1_method_13_code
def yX7_unlaw : MethodName := ⟨RX7, "unlaw", "(I)I"⟩
abbrev cX7_say : ByteArray := prog_1_method_14_code
def yX7_say : MethodName := ⟨RX7, "say", "(III)I"⟩
abbrev cX7_hold : ByteArray := prog_1_method_15_code
def yX7_hold : MethodName := ⟨RX7, "hold", "(II)I"⟩
abbrev cX7_broken : ByteArray := prog_1_method_16_code
def yX7_broken : MethodName := ⟨RX7, "broken", "(I)I"⟩
abbrev cX7_find : ByteArray := prog_1_method_17_code
def yX7_find : MethodName := ⟨RX7, "find", "(I)I"⟩
abbrev cX7_found : ByteArray := prog_1_method_18_code
def yX7_found : MethodName := ⟨RX7, "found", "(II)I"⟩
abbrev cX7_misses : ByteArray := prog_1_method_19_code
def yX7_misses : MethodName := ⟨RX7, "misses", "(III)I"⟩
abbrev cX7_twice : ByteArray := prog_1_method_20_code
def yX7_twice : MethodName := ⟨RX7, "twice", "(III)I"⟩
abbrev cX7_width : ByteArray := prog_1_method_21_code
def yX7_width : MethodName := ⟨RX7, "width", "(I)I"⟩
abbrev cX7_closure : ByteArray := prog_1_method_22_code
def yX7_closure : MethodName := ⟨RX7, "closure", "(I)I"⟩
abbrev cX7_follows : ByteArray := prog_1_method_23_code
def yX7_follows : MethodName := ⟨RX7, "follows", "(II)I"⟩
abbrev cX7_step : ByteArray := prog_1_method_24_code
def yX7_step : MethodName := ⟨RX7, "step", "(I)I"⟩
abbrev cX7_keys : ByteArray := prog_1_method_25_code
def yX7_keys : MethodName := ⟨RX7, "keys", "()I"⟩
abbrev cX7_key : ByteArray := prog_1_method_26_code
def yX7_key : MethodName := ⟨RX7, "key", "(I)I"⟩
abbrev cX7_prime : ByteArray := prog_1_method_27_code
def yX7_prime : MethodName := ⟨RX7, "prime", "()I"⟩
abbrev cX7_cover : ByteArray := prog_1_method_28_code
def yX7_cover : MethodName := ⟨RX7, "cover", "()I"⟩
abbrev cX7_covered : ByteArray := prog_1_method_29_code
def yX7_covered : MethodName := ⟨RX7, "covered", "(II)I"⟩
abbrev cX7_third : ByteArray := prog_1_method_30_code
def yX7_third : MethodName := ⟨RX7, "third", "()I"⟩
abbrev cX7_strict : ByteArray := prog_1_method_31_code
def yX7_strict : MethodName := ⟨RX7, "strict", "()I"⟩
abbrev cX7_part : ByteArray := prog_1_method_32_code
def yX7_part : MethodName := ⟨RX7, "part", "(I)I"⟩
abbrev cX7_unpart : ByteArray := prog_1_method_33_code
def yX7_unpart : MethodName := ⟨RX7, "unpart", "()I"⟩
abbrev cX7_parted : ByteArray := prog_1_method_34_code
def yX7_parted : MethodName := ⟨RX7, "parted", "(I)I"⟩
abbrev cX7_form : ByteArray := prog_1_method_35_code
def yX7_form : MethodName := ⟨RX7, "form", "(I)I"⟩
abbrev cX7_lossless : ByteArray := prog_1_method_36_code
def yX7_lossless : MethodName := ⟨RX7, "lossless", "()I"⟩
abbrev cX7_lack : ByteArray := prog_1_method_37_code
def yX7_lack : MethodName := ⟨RX7, "lack", "()I"⟩
abbrev cX7_keeps : ByteArray := prog_1_method_38_code
def yX7_keeps : MethodName := ⟨RX7, "keeps", "(I)I"⟩
abbrev cX7_project : ByteArray := prog_1_method_39_code
def yX7_project : MethodName := ⟨RX7, "project", "(III)I"⟩
abbrev cX7_join : ByteArray := prog_1_method_40_code
def yX7_join : MethodName := ⟨RX7, "join", "(IIIII)I"⟩
abbrev cX7_fault : ByteArray := prog_1_method_41_code
def yX7_fault : MethodName := ⟨RX7, "fault", "()I"⟩
abbrev cX7_told : ByteArray := prog_1_method_42_code
def yX7_told : MethodName := ⟨RX7, "told", "(I)I"⟩
abbrev cX7_faulted : ByteArray := prog_1_method_43_code
def yX7_faulted : MethodName := ⟨RX7, "faulted", "(I)I"⟩
abbrev cX7_standing : ByteArray := prog_1_method_44_code
def yX7_standing : MethodName := ⟨RX7, "standing", "(I)LKeyFinder$Table;"⟩
abbrev cX7_refusalOfSets : ByteArray := prog_1_method_45_code
def yX7_refusalOfSets : MethodName := ⟨RX7, "refusalOfSets", "(III)I"⟩
abbrev cX7_renewForce : ByteArray := prog_1_method_46_code
def yX7_renewForce : MethodName := ⟨RX7, "renewForce", "()V"⟩
abbrev cX7_isTableNumber : ByteArray := prog_1_method_47_code
def yX7_isTableNumber : MethodName := ⟨RX7, "isTableNumber", "(I)Z"⟩
abbrev cX7_isLane : ByteArray := prog_1_method_48_code
def yX7_isLane : MethodName := ⟨RX7, "isLane", "(I)Z"⟩
abbrev cX7_isSet : ByteArray := prog_1_method_49_code
def yX7_isSet : MethodName := ⟨RX7, "isSet", "(I)Z"⟩
abbrev cX7_isWithin : ByteArray := prog_1_method_50_code
def yX7_isWithin : MethodName := ⟨RX7, "isWithin", "(II)Z"⟩
abbrev cX7_hasBit : ByteArray := prog_1_method_51_code
def yX7_hasBit : MethodName := ⟨RX7, "hasBit", "(II)Z"⟩
abbrev cX7_isOneColumn : ByteArray := prog_1_method_52_code
def yX7_isOneColumn : MethodName := ⟨RX7, "isOneColumn", "(I)Z"⟩
abbrev cX7_looksAtY : ByteArray := prog_1_method_53_code
def yX7_looksAtY : MethodName := ⟨RX7, "looksAtY", "(I)Z"⟩
abbrev cX7_isLawAsTold : ByteArray := prog_1_method_54_code
def yX7_isLawAsTold : MethodName := ⟨RX7, "isLawAsTold", "(III)Z"⟩
abbrev cX7_isTakenAs : ByteArray := prog_1_method_55_code
def yX7_isTakenAs : MethodName := ⟨RX7, "isTakenAs", "(II)Z"⟩
abbrev cX7_placeIn : ByteArray := prog_1_method_56_code
def yX7_placeIn : MethodName := ⟨RX7, "placeIn", "(II)I"⟩
abbrev cX7_onlyColumnOf : ByteArray := prog_1_method_57_code
def yX7_onlyColumnOf : MethodName := ⟨RX7, "onlyColumnOf", "(I)I"⟩
abbrev cX7_cell : ByteArray := prog_1_method_58_code
def yX7_cell : MethodName := ⟨RX7, "cell", "(II)I"⟩
abbrev cX7_cutToLane : ByteArray := prog_1_method_59_code
def yX7_cutToLane : MethodName := ⟨RX7, "cutToLane", "(IJ)J"⟩
abbrev cX7_bitsOfOneKind : ByteArray := prog_1_method_60_code
def yX7_bitsOfOneKind : MethodName := ⟨RX7, "bitsOfOneKind", "(J)J"⟩
abbrev cX7_rankOf : ByteArray := prog_1_method_61_code
def yX7_rankOf : MethodName := ⟨RX7, "rankOf", "(IJ)J"⟩
abbrev cX7_areCellsLike : ByteArray := prog_1_method_62_code
def yX7_areCellsLike : MethodName := ⟨RX7, "areCellsLike", "(LKeyFinder$Table;ILKeyFinder$Table;I)Z"⟩
abbrev cX7_haveCommonLanes : ByteArray := prog_1_method_63_code
def yX7_haveCommonLanes : MethodName := ⟨RX7, "haveCommonLanes", "(LKeyFinder$Table;ILKeyFinder$Table;I)Z"⟩
abbrev cX7_doRowsMeet : ByteArray := prog_1_method_64_code
def yX7_doRowsMeet : MethodName := ⟨RX7, "doRowsMeet", "(LKeyFinder$Table;IILKeyFinder$Table;II)Z"⟩
abbrev cX7_joinedRows : ByteArray := prog_1_method_65_code
def yX7_joinedRows : MethodName := ⟨RX7, "joinedRows", "(LKeyFinder$Table;ILKeyFinder$Table;I)I"⟩
def RX8 : String := "KeyFinderModel"
def TX8 : u_T := fun k => match k with
  | 0 => ("KeyFinderModel", "fault", "I", false)
  | 1 => ("KeyFinderModel", "columns", "[I", true)
  | 2 => ("KeyFinderModel", "rows", "[I", true)
  | 3 => ("KeyFinderModel", "areLike", "[Z", true)
  | 4 => ("KeyFinderModel", "lane", "[I", true)
  | 5 => ("KeyFinderModel", "cell", "[J", true)
  | 6 => ("KeyFinderModel", "isMissing", "[Z", true)
  | 7 => ("KeyFinderModel", "hands", "[J", true)
  | 8 => ("KeyFinderModel", "handsMissing", "[Z", true)
  | 9 => ("KeyFinderModel", "laws", "I", false)
  | 10 => ("KeyFinderModel", "kind", "[I", true)
  | 11 => ("KeyFinderModel", "lawX", "[I", true)
  | 12 => ("KeyFinderModel", "lawY", "[I", true)
  | 13 => ("KeyFinderModel", "isDropped", "[Z", true)
  | 14 => ("KeyFinderModel", "brokenRow", "I", false)
  | 15 => ("KeyFinderModel", "brokenOther", "I", false)
  | 16 => ("KeyFinderModel", "agreed", "[I", true)
  | 17 => ("KeyFinderModel", "agreements", "I", false)
  | 18 => ("KeyFinderModel", "founds", "I", false)
  | 19 => ("KeyFinderModel", "foundX", "[I", true)
  | 20 => ("KeyFinderModel", "foundColumn", "[I", true)
  | 21 => ("KeyFinderModel", "tellsIt", "[Z", true)
  | 22 => ("KeyFinderModel", "width", "I", false)
  | 23 => ("KeyFinderModel", "steps", "I", false)
  | 24 => ("KeyFinderModel", "step", "[I", true)
  | 25 => ("KeyFinderModel", "taken", "[I", true)
  | 26 => ("KeyFinderModel", "keys", "I", false)
  | 27 => ("KeyFinderModel", "key", "[I", true)
  | 28 => ("KeyFinderModel", "closures", "[I", true)
  | 29 => ("KeyFinderModel", "covers", "I", false)
  | 30 => ("KeyFinderModel", "coverX", "[I", true)
  | 31 => ("KeyFinderModel", "coverY", "[I", true)
  | 32 => ("KeyFinderModel", "isOut", "[Z", true)
  | 33 => ("KeyFinderModel", "parts", "I", false)
  | 34 => ("KeyFinderModel", "part", "[I", true)
  | 35 => ("KeyFinderModel", "draft", "[I", true)
  | _ => ("KeyFinderModel", "sign", "[I", true)
def tyX8 : Nat → FieldType := fun k => match k with
  | 0 => .int
  | 1 => .array .int
  | 2 => .array .int
  | 3 => .array .boolean
  | 4 => .array .int
  | 5 => .array .long
  | 6 => .array .boolean
  | 7 => .array .long
  | 8 => .array .boolean
  | 9 => .int
  | 10 => .array .int
  | 11 => .array .int
  | 12 => .array .int
  | 13 => .array .boolean
  | 14 => .int
  | 15 => .int
  | 16 => .array .int
  | 17 => .int
  | 18 => .int
  | 19 => .array .int
  | 20 => .array .int
  | 21 => .array .boolean
  | 22 => .int
  | 23 => .int
  | 24 => .array .int
  | 25 => .array .int
  | 26 => .int
  | 27 => .array .int
  | 28 => .array .int
  | 29 => .int
  | 30 => .array .int
  | 31 => .array .int
  | 32 => .array .boolean
  | 33 => .int
  | 34 => .array .int
  | 35 => .array .int
  | _ => .array .int
abbrev wsX80 : List Cond := u_ws RX8 TX8 37
theorem nmX8 : ∀ a, a < 37 → ∀ b, b < 37 → a ≠ b → (TX8 a).2.1 ≠ (TX8 b).2.1 := by decide +kernel
theorem tyX8_ok : ∀ k, k < 37 → parseFieldDescriptor (TX8 k).2.2.1 = some (tyX8 k) := by decide +kernel
abbrev cX8_init : ByteArray := prog_10_method_1_code
def yX8_init : MethodName := ⟨RX8, "<init>", "()V"⟩
abbrev cX8_in : ByteArray := prog_10_method_2_code
def yX8_in : MethodName := ⟨RX8, "in", "(III)Z"⟩
abbrev cX8_lost : ByteArray := prog_10_method_3_code
def yX8_lost : MethodName := ⟨RX8, "lost", "()J"⟩
abbrev cX8_refused : ByteArray := prog_10_method_4_code
def yX8_refused : MethodName := ⟨RX8, "refused", "(I)I"⟩
abbrev cX8_fails : ByteArray := prog_10_method_5_code
def yX8_fails : MethodName := ⟨RX8, "fails", "(I)I"⟩
abbrev cX8_failsLong : ByteArray := prog_10_method_6_code
def yX8_failsLong : MethodName := ⟨RX8, "failsLong", "(I)J"⟩
abbrev cX8_noPlace : ByteArray := prog_10_method_7_code
def yX8_noPlace : MethodName := ⟨RX8, "noPlace", "(I)Z"⟩
abbrev cX8_noTable : ByteArray := prog_10_method_8_code
def yX8_noTable : MethodName := ⟨RX8, "noTable", "(I)Z"⟩
abbrev cX8_spot : ByteArray := prog_10_method_9_code
def yX8_spot : MethodName := ⟨RX8, "spot", "(III)I"⟩
abbrev cX8_valued : ByteArray := prog_10_method_10_code
def yX8_valued : MethodName := ⟨RX8, "valued", "(IJ)J"⟩
abbrev cX8_isNumber : ByteArray := prog_10_method_11_code
def yX8_isNumber : MethodName := ⟨RX8, "isNumber", "(IJ)Z"⟩
abbrev cX8_isBehind : ByteArray := prog_10_method_12_code
def yX8_isBehind : MethodName := ⟨RX8, "isBehind", "(IJJ)Z"⟩
abbrev cX8_table : ByteArray := prog_10_method_13_code
def yX8_table : MethodName := ⟨RX8, "table", "(IZ)I"⟩
abbrev cX8_drop : ByteArray := prog_10_method_14_code
def yX8_drop : MethodName := ⟨RX8, "drop", "(I)I"⟩
abbrev cX8_column : ByteArray := prog_10_method_15_code
def yX8_column : MethodName := ⟨RX8, "column", "(II)I"⟩
abbrev cX8_addRow : ByteArray := prog_10_method_16_code
def yX8_addRow : MethodName := ⟨RX8, "addRow", "(I)V"⟩
abbrev cX8_rows : ByteArray := prog_10_method_17_code
def yX8_rows : MethodName := ⟨RX8, "rows", "(II)I"⟩
abbrev cX8_noCell : ByteArray := prog_10_method_18_code
def yX8_noCell : MethodName := ⟨RX8, "noCell", "(III)I"⟩
abbrev cX8_put : ByteArray := prog_10_method_19_code
def yX8_put : MethodName := ⟨RX8, "put", "(IIIJ)I"⟩
abbrev cX8_miss : ByteArray := prog_10_method_20_code
def yX8_miss : MethodName := ⟨RX8, "miss", "(III)I"⟩
abbrev cX8_at : ByteArray := prog_10_method_21_code
def yX8_at : MethodName := ⟨RX8, "at", "(IIII)J"⟩
abbrev cX8_isBeyond : ByteArray := prog_10_method_22_code
def yX8_isBeyond : MethodName := ⟨RX8, "isBeyond", "(III)Z"⟩
abbrev cX8_copy : ByteArray := prog_10_method_23_code
def yX8_copy : MethodName := ⟨RX8, "copy", "(IIIIII)I"⟩
abbrev cX8_about : ByteArray := prog_10_method_24_code
def yX8_about : MethodName := ⟨RX8, "about", "(II)I"⟩
abbrev cX8_isSet : ByteArray := prog_10_method_25_code
def yX8_isSet : MethodName := ⟨RX8, "isSet", "(I)Z"⟩
abbrev cX8_allOf : ByteArray := prog_10_method_26_code
def yX8_allOf : MethodName := ⟨RX8, "allOf", "(I)I"⟩
abbrev cX8_areAlike : ByteArray := prog_10_method_27_code
def yX8_areAlike : MethodName := ⟨RX8, "areAlike", "(IIII)Z"⟩
abbrev cX8_agree : ByteArray := prog_10_method_28_code
def yX8_agree : MethodName := ⟨RX8, "agree", "(III)I"⟩
abbrev cX8_isLike : ByteArray := prog_10_method_29_code
def yX8_isLike : MethodName := ⟨RX8, "isLike", "(IIII)Z"⟩
abbrev cX8_like : ByteArray := prog_10_method_30_code
def yX8_like : MethodName := ⟨RX8, "like", "(IIII)I"⟩
abbrev cX8_isOne : ByteArray := prog_10_method_31_code
def yX8_isOne : MethodName := ⟨RX8, "isOne", "(I)Z"⟩
abbrev cX8_law : ByteArray := prog_10_method_32_code
def yX8_law : MethodName := ⟨RX8, "law", "(III)I"⟩
abbrev cX8_noLaw : ByteArray := prog_10_method_33_code
def yX8_noLaw : MethodName := ⟨RX8, "noLaw", "(I)Z"⟩
abbrev cX8_unlaw : ByteArray := prog_10_method_34_code
def yX8_unlaw : MethodName := ⟨RX8, "unlaw", "(I)I"⟩
abbrev cX8_say : ByteArray := prog_10_method_35_code
def yX8_say : MethodName := ⟨RX8, "say", "(III)I"⟩
abbrev cX8_hasThird : ByteArray := prog_10_method_36_code
def yX8_hasThird : MethodName := ⟨RX8, "hasThird", "(IIIII)Z"⟩
abbrev cX8_columnOf : ByteArray := prog_10_method_37_code
def yX8_columnOf : MethodName := ⟨RX8, "columnOf", "(I)I"⟩
abbrev cX8_breaks : ByteArray := prog_10_method_38_code
def yX8_breaks : MethodName := ⟨RX8, "breaks", "(IIII)Z"⟩
abbrev cX8_hasMissing : ByteArray := prog_10_method_39_code
def yX8_hasMissing : MethodName := ⟨RX8, "hasMissing", "(III)Z"⟩
abbrev cX8_isThere : ByteArray := prog_10_method_40_code
def yX8_isThere : MethodName := ⟨RX8, "isThere", "(IIII)Z"⟩
abbrev cX8_breaksAlone : ByteArray := prog_10_method_41_code
def yX8_breaksAlone : MethodName := ⟨RX8, "breaksAlone", "(III)Z"⟩
abbrev cX8_hold : ByteArray := prog_10_method_42_code
def yX8_hold : MethodName := ⟨RX8, "hold", "(II)I"⟩
abbrev cX8_broken : ByteArray := prog_10_method_43_code
def yX8_broken : MethodName := ⟨RX8, "broken", "(I)I"⟩
abbrev cX8_find : ByteArray := prog_10_method_44_code
def yX8_find : MethodName := ⟨RX8, "find", "(I)I"⟩
abbrev cX8_found : ByteArray := prog_10_method_45_code
def yX8_found : MethodName := ⟨RX8, "found", "(II)I"⟩
abbrev cX8_noSets : ByteArray := prog_10_method_46_code
def yX8_noSets : MethodName := ⟨RX8, "noSets", "(III)I"⟩
abbrev cX8_misses : ByteArray := prog_10_method_47_code
def yX8_misses : MethodName := ⟨RX8, "misses", "(III)I"⟩
abbrev cX8_twice : ByteArray := prog_10_method_48_code
def yX8_twice : MethodName := ⟨RX8, "twice", "(III)I"⟩
abbrev cX8_all : ByteArray := prog_10_method_49_code
def yX8_all : MethodName := ⟨RX8, "all", "()I"⟩
abbrev cX8_isWithin : ByteArray := prog_10_method_50_code
def yX8_isWithin : MethodName := ⟨RX8, "isWithin", "(I)Z"⟩
abbrev cX8_isInForce : ByteArray := prog_10_method_51_code
def yX8_isInForce : MethodName := ⟨RX8, "isInForce", "(I)Z"⟩
abbrev cX8_from : ByteArray := prog_10_method_52_code
def yX8_from : MethodName := ⟨RX8, "from", "(I)I"⟩
abbrev cX8_to : ByteArray := prog_10_method_53_code
def yX8_to : MethodName := ⟨RX8, "to", "(I)I"⟩
abbrev cX8_width : ByteArray := prog_10_method_54_code
def yX8_width : MethodName := ⟨RX8, "width", "(I)I"⟩
abbrev cX8_adding : ByteArray := prog_10_method_55_code
def yX8_adding : MethodName := ⟨RX8, "adding", "(I)I"⟩
abbrev cX8_closed : ByteArray := prog_10_method_56_code
def yX8_closed : MethodName := ⟨RX8, "closed", "(I)I"⟩
abbrev cX8_closure : ByteArray := prog_10_method_57_code
def yX8_closure : MethodName := ⟨RX8, "closure", "(I)I"⟩
abbrev cX8_follows : ByteArray := prog_10_method_58_code
def yX8_follows : MethodName := ⟨RX8, "follows", "(II)I"⟩
abbrev cX8_step : ByteArray := prog_10_method_59_code
def yX8_step : MethodName := ⟨RX8, "step", "(I)I"⟩
abbrev cX8_close : ByteArray := prog_10_method_60_code
def yX8_close : MethodName := ⟨RX8, "close", "()V"⟩
abbrev cX8_findKeys : ByteArray := prog_10_method_61_code
def yX8_findKeys : MethodName := ⟨RX8, "findKeys", "()V"⟩
abbrev cX8_keys : ByteArray := prog_10_method_62_code
def yX8_keys : MethodName := ⟨RX8, "keys", "()I"⟩
abbrev cX8_key : ByteArray := prog_10_method_63_code
def yX8_key : MethodName := ⟨RX8, "key", "(I)I"⟩
abbrev cX8_prime : ByteArray := prog_10_method_64_code
def yX8_prime : MethodName := ⟨RX8, "prime", "()I"⟩
abbrev cX8_closedBy : ByteArray := prog_10_method_65_code
def yX8_closedBy : MethodName := ⟨RX8, "closedBy", "(II)I"⟩
abbrev cX8_findCover : ByteArray := prog_10_method_66_code
def yX8_findCover : MethodName := ⟨RX8, "findCover", "()V"⟩
abbrev cX8_cover : ByteArray := prog_10_method_67_code
def yX8_cover : MethodName := ⟨RX8, "cover", "()I"⟩
abbrev cX8_covered : ByteArray := prog_10_method_68_code
def yX8_covered : MethodName := ⟨RX8, "covered", "(II)I"⟩
abbrev cX8_laid : ByteArray := prog_10_method_69_code
def yX8_laid : MethodName := ⟨RX8, "laid", "(IZ)I"⟩
abbrev cX8_third : ByteArray := prog_10_method_70_code
def yX8_third : MethodName := ⟨RX8, "third", "()I"⟩
abbrev cX8_parting : ByteArray := prog_10_method_71_code
def yX8_parting : MethodName := ⟨RX8, "parting", "(I)I"⟩
abbrev cX8_strict : ByteArray := prog_10_method_72_code
def yX8_strict : MethodName := ⟨RX8, "strict", "()I"⟩
abbrev cX8_noPart : ByteArray := prog_10_method_73_code
def yX8_noPart : MethodName := ⟨RX8, "noPart", "(I)Z"⟩
abbrev cX8_part : ByteArray := prog_10_method_74_code
def yX8_part : MethodName := ⟨RX8, "part", "(I)I"⟩
abbrev cX8_unpart : ByteArray := prog_10_method_75_code
def yX8_unpart : MethodName := ⟨RX8, "unpart", "()I"⟩
abbrev cX8_parted : ByteArray := prog_10_method_76_code
def yX8_parted : MethodName := ⟨RX8, "parted", "(I)I"⟩
abbrev cX8_primeOf : ByteArray := prog_10_method_77_code
def yX8_primeOf : MethodName := ⟨RX8, "primeOf", "(I)I"⟩
abbrev cX8_form : ByteArray := prog_10_method_78_code
def yX8_form : MethodName := ⟨RX8, "form", "(I)I"⟩
abbrev cX8_isSame : ByteArray := prog_10_method_79_code
def yX8_isSame : MethodName := ⟨RX8, "isSame", "(III)Z"⟩
abbrev cX8_unite : ByteArray := prog_10_method_80_code
def yX8_unite : MethodName := ⟨RX8, "unite", "(III)V"⟩
abbrev cX8_chases : ByteArray := prog_10_method_81_code
def yX8_chases : MethodName := ⟨RX8, "chases", "(III)Z"⟩
abbrev cX8_lossless : ByteArray := prog_10_method_82_code
def yX8_lossless : MethodName := ⟨RX8, "lossless", "()I"⟩
abbrev cX8_isKept : ByteArray := prog_10_method_83_code
def yX8_isKept : MethodName := ⟨RX8, "isKept", "(I)Z"⟩
abbrev cX8_lack : ByteArray := prog_10_method_84_code
def yX8_lack : MethodName := ⟨RX8, "lack", "()I"⟩
abbrev cX8_keeps : ByteArray := prog_10_method_85_code
def yX8_keeps : MethodName := ⟨RX8, "keeps", "(I)I"⟩
abbrev cX8_count : ByteArray := prog_10_method_86_code
def yX8_count : MethodName := ⟨RX8, "count", "(I)I"⟩
abbrev cX8_rank : ByteArray := prog_10_method_87_code
def yX8_rank : MethodName := ⟨RX8, "rank", "(II)I"⟩
abbrev cX8_give : ByteArray := prog_10_method_88_code
def yX8_give : MethodName := ⟨RX8, "give", "(IIIIII)V"⟩
abbrev cX8_project : ByteArray := prog_10_method_89_code
def yX8_project : MethodName := ⟨RX8, "project", "(III)I"⟩
abbrev cX8_fits : ByteArray := prog_10_method_90_code
def yX8_fits : MethodName := ⟨RX8, "fits", "(IIIIII)Z"⟩
abbrev cX8_join : ByteArray := prog_10_method_91_code
def yX8_join : MethodName := ⟨RX8, "join", "(IIIII)I"⟩
abbrev cX8_fault : ByteArray := prog_10_method_92_code
def yX8_fault : MethodName := ⟨RX8, "fault", "()I"⟩
abbrev cX8_told : ByteArray := prog_10_method_93_code
def yX8_told : MethodName := ⟨RX8, "told", "(I)I"⟩
def RJxe99ae : String := "java/lang/Double"
def TJxe99ae : u_T := fun k => match k with
  | _ => ("", "", "", false)
def tyJxe99ae : Nat → FieldType := fun k => match k with
  | _ => .int
abbrev wsJxe99ae0 : List Cond := u_ws RJxe99ae TJxe99ae 0
theorem nmJxe99ae : ∀ a, a < 0 → ∀ b, b < 0 → a ≠ b → (TJxe99ae a).2.1 ≠ (TJxe99ae b).2.1 := by decide +kernel
theorem tyJxe99ae_ok : ∀ k, k < 0 → parseFieldDescriptor (TJxe99ae k).2.2.1 = some (tyJxe99ae k) := by decide +kernel
def RJ6 : String := "java/lang/Integer"
def TJ6 : u_T := fun k => match k with
  | _ => ("", "", "", false)
def tyJ6 : Nat → FieldType := fun k => match k with
  | _ => .int
abbrev wsJ60 : List Cond := u_ws RJ6 TJ6 0
theorem nmJ6 : ∀ a, a < 0 → ∀ b, b < 0 → a ≠ b → (TJ6 a).2.1 ≠ (TJ6 b).2.1 := by decide +kernel
theorem tyJ6_ok : ∀ k, k < 0 → parseFieldDescriptor (TJ6 k).2.2.1 = some (tyJ6 k) := by decide +kernel
abbrev cJ6_bitCount_0f7a4 : ByteArray := prog_12_method_49_code
def yJ6_bitCount_0f7a4 : MethodName := ⟨RJ6, "bitCount", "(I)I"⟩
def RJ9 : String := "java/lang/Math"
def TJ9 : u_T := fun k => match k with
  | _ => ("", "", "", false)
def tyJ9 : Nat → FieldType := fun k => match k with
  | _ => .int
abbrev wsJ90 : List Cond := u_ws RJ9 TJ9 0
theorem nmJ9 : ∀ a, a < 0 → ∀ b, b < 0 → a ≠ b → (TJ9 a).2.1 ≠ (TJ9 b).2.1 := by decide +kernel
theorem tyJ9_ok : ∀ k, k < 0 → parseFieldDescriptor (TJ9 k).2.2.1 = some (tyJ9 k) := by decide +kernel
abbrev cJ9_max_7cf53 : ByteArray := prog_13_method_65_code
def yJ9_max_7cf53 : MethodName := ⟨RJ9, "max", "(II)I"⟩
abbrev cJ9_min_7cf53 : ByteArray := prog_13_method_69_code
def yJ9_min_7cf53 : MethodName := ⟨RJ9, "min", "(II)I"⟩
def RJ10 : String := "java/lang/System"
def TJ10 : u_T := fun k => match k with
  | _ => ("", "", "", false)
def tyJ10 : Nat → FieldType := fun k => match k with
  | _ => .int
abbrev wsJ100 : List Cond := u_ws RJ10 TJ10 0
theorem nmJ10 : ∀ a, a < 0 → ∀ b, b < 0 → a ≠ b → (TJ10 a).2.1 ≠ (TJ10 b).2.1 := by decide +kernel
theorem tyJ10_ok : ∀ k, k < 0 → parseFieldDescriptor (TJ10 k).2.2.1 = some (tyJ10 k) := by decide +kernel
def RJ7 : String := "java/util/Arrays"
def TJ7 : u_T := fun k => match k with
  | _ => ("", "", "", false)
def tyJ7 : Nat → FieldType := fun k => match k with
  | _ => .int
abbrev wsJ70 : List Cond := u_ws RJ7 TJ7 0
theorem nmJ7 : ∀ a, a < 0 → ∀ b, b < 0 → a ≠ b → (TJ7 a).2.1 ≠ (TJ7 b).2.1 := by decide +kernel
theorem tyJ7_ok : ∀ k, k < 0 → parseFieldDescriptor (TJ7 k).2.2.1 = some (tyJ7 k) := by decide +kernel
abbrev cJ7_fill_53178 : ByteArray := prog_15_method_103_code
def yJ7_fill_53178 : MethodName := ⟨RJ7, "fill", "([II)V"⟩
def RL : String := "KeyFinderLaw"
abbrev cL_law : ByteArray := code
def yL_law : MethodName := ⟨RL, "law", "([I)Z"⟩
abbrev vwCl : List vw_C := [(RX0, TX0, 5), (RX1, TX1, 2), (RX2, TX2, 5), (RX3, TX3, 6), (RX4, TX4, 6), (RX5, TX5, 7), (RX6, TX6, 12), (RX7, TX7, 8), (RX8, TX8, 37)]
/-! the tables of the pure machine, by program -/
def cN (i : Nat) : String := ([RX0, RX1, RX2, RX3, RX4, RX5, RX6, RX7, RX8, RL, RJ6, RJ9, RJ7] : List String).getD i RL
def tT (i : Nat) : u_T := ([TX0, TX1, TX2, TX3, TX4, TX5, TX6, TX7, TX8] : List u_T).getD i TX0
def tN (i : Nat) : Nat := ([5, 2, 5, 6, 6, 7, 12, 8, 37] : List Nat).getD i 0
def tTy (i : Nat) : Nat → FieldType := ([tyX0, tyX1, tyX2, tyX3, tyX4, tyX5, tyX6, tyX7, tyX8] : List (Nat → FieldType)).getD i tyX0
def mt_Y_0 : List (MethodName) := [yX0_init, yX0_build, yX0_addEach, yX0_shorten, yX0_leaveOutWhatFollows, yX0_followsFromOthers, yX0_leaveOut, yX0_isFirstOfItsX, yX0_groupOf, yX1_init, yX1_holds, yX1_breaksAt, yX1_holdsTells, yX1_holdsSeveral, yX1_hasBetween, yX1_holdsNever]
def mt_Y_1 : List (MethodName) := [yX1_holdsOrder, yX1_isBehind, yX1_holdsWithin, yX2_init, yX2_add, yX2_has, yX2_isInForce, yX3_init, yX3_becomeThird, yX3_leaveOutInner, yX3_isInner, yX3_hasDraftKey, yX3_becomeStrict, yX3_splitFirst, yX3_split, yX3_takeDraft]
def mt_Y_2 : List (MethodName) := [yX3_keepForce, yX3_areLossless, yX3_writeSigns, yX3_chaseAll, yX3_chase, yX3_sameSigns, yX3_makeOne, yX3_replace, yX3_isRowWhole, yX4_init, yX4_run, yX4_notePairs, yX4_findThatTell, yX4_hasLessThatHolds, yX4_doPairsAgree, yX4_note]
def mt_Y_3 : List (MethodName) := [yX5_init, yX5_open, yX5_addColumn, yX5_addRows, yX5_hasColumn, yX5_hasRow, yX5_columnSet, yX5_hasColumns, yX5_faultOf, yX5_faultOfReading, yX5_hasValue, yX5_valueOf, yX5_store, yX5_erase, yX5_moveCells, yX5_missingCells]
def mt_Y_4 : List (MethodName) := [yX5_missingIn, yX5_likeColumns, yX5_areRowsLike, yX5_hasElderLike, yX5_rowsSeenBefore, yX5_rowsToLeaveOut, yX5_mostThatStay, yX5_laterLike, yX5_hasLanesOf, yX5_hasValuesOf, yX5_sameValues, yX5_becomeProjection, yX5_becomeJoin, yX5_takeCells, yX6_init, yX6_widen]
def mt_Y_5 : List (MethodName) := [yX6_takeForce, yX6_placeInForce, yX6_isWithinAll, yX6_nextForce, yX6_closureOf, yX6_noteSteps, yX6_tellsAllOf, yX6_isLeastFor, yX6_findKeys, yX6_primeOf, yX6_isThird, yX6_splitterOf, yX7_init, yX7_table, yX7_drop, yX7_column]
def mt_Y_6 : List (MethodName) := [yX7_rows, yX7_put, yX7_miss, yX7_at, yX7_copy, yX7_about, yX7_like, yX7_law, yX7_unlaw, yX7_say, yX7_hold, yX7_broken, yX7_find, yX7_found, yX7_misses, yX7_twice]
def mt_Y_7 : List (MethodName) := [yX7_width, yX7_closure, yX7_follows, yX7_step, yX7_keys, yX7_key, yX7_prime, yX7_cover, yX7_covered, yX7_third, yX7_strict, yX7_part, yX7_unpart, yX7_parted, yX7_form, yX7_lossless]
def mt_Y_8 : List (MethodName) := [yX7_lack, yX7_keeps, yX7_project, yX7_join, yX7_fault, yX7_told, yX7_faulted, yX7_standing, yX7_refusalOfSets, yX7_renewForce, yX7_isTableNumber, yX7_isLane, yX7_isSet, yX7_isWithin, yX7_hasBit, yX7_isOneColumn]
def mt_Y_9 : List (MethodName) := [yX7_looksAtY, yX7_isLawAsTold, yX7_isTakenAs, yX7_placeIn, yX7_onlyColumnOf, yX7_cell, yX7_cutToLane, yX7_bitsOfOneKind, yX7_rankOf, yX7_areCellsLike, yX7_haveCommonLanes, yX7_doRowsMeet, yX7_joinedRows, yX8_init, yX8_in, yX8_lost]
def mt_Y_10 : List (MethodName) := [yX8_refused, yX8_fails, yX8_failsLong, yX8_noPlace, yX8_noTable, yX8_spot, yX8_valued, yX8_isNumber, yX8_isBehind, yX8_table, yX8_drop, yX8_column, yX8_addRow, yX8_rows, yX8_noCell, yX8_put]
def mt_Y_11 : List (MethodName) := [yX8_miss, yX8_at, yX8_isBeyond, yX8_copy, yX8_about, yX8_isSet, yX8_allOf, yX8_areAlike, yX8_agree, yX8_isLike, yX8_like, yX8_isOne, yX8_law, yX8_noLaw, yX8_unlaw, yX8_say]
def mt_Y_12 : List (MethodName) := [yX8_hasThird, yX8_columnOf, yX8_breaks, yX8_hasMissing, yX8_isThere, yX8_breaksAlone, yX8_hold, yX8_broken, yX8_find, yX8_found, yX8_noSets, yX8_misses, yX8_twice, yX8_all, yX8_isWithin, yX8_isInForce]
def mt_Y_13 : List (MethodName) := [yX8_from, yX8_to, yX8_width, yX8_adding, yX8_closed, yX8_closure, yX8_follows, yX8_step, yX8_close, yX8_findKeys, yX8_keys, yX8_key, yX8_prime, yX8_closedBy, yX8_findCover, yX8_cover]
def mt_Y_14 : List (MethodName) := [yX8_covered, yX8_laid, yX8_third, yX8_parting, yX8_strict, yX8_noPart, yX8_part, yX8_unpart, yX8_parted, yX8_primeOf, yX8_form, yX8_isSame, yX8_unite, yX8_chases, yX8_lossless, yX8_isKept]
def mt_Y_15 : List (MethodName) := [yX8_lack, yX8_keeps, yX8_count, yX8_rank, yX8_give, yX8_project, yX8_fits, yX8_join, yX8_fault, yX8_told, yJ6_bitCount_0f7a4, yJ7_fill_53178, yL_law]
def mt_Y_g : List (List (MethodName)) := [mt_Y_0, mt_Y_1, mt_Y_2, mt_Y_3, mt_Y_4, mt_Y_5, mt_Y_6, mt_Y_7, mt_Y_8, mt_Y_9, mt_Y_10, mt_Y_11, mt_Y_12, mt_Y_13, mt_Y_14, mt_Y_15]
def mt_B_0 : List (ByteArray) := [cX0_init, cX0_build, cX0_addEach, cX0_shorten, cX0_leaveOutWhatFollows, cX0_followsFromOthers, cX0_leaveOut, cX0_isFirstOfItsX, cX0_groupOf, cX1_init, cX1_holds, cX1_breaksAt, cX1_holdsTells, cX1_holdsSeveral, cX1_hasBetween, cX1_holdsNever]
def mt_B_1 : List (ByteArray) := [cX1_holdsOrder, cX1_isBehind, cX1_holdsWithin, cX2_init, cX2_add, cX2_has, cX2_isInForce, cX3_init, cX3_becomeThird, cX3_leaveOutInner, cX3_isInner, cX3_hasDraftKey, cX3_becomeStrict, cX3_splitFirst, cX3_split, cX3_takeDraft]
def mt_B_2 : List (ByteArray) := [cX3_keepForce, cX3_areLossless, cX3_writeSigns, cX3_chaseAll, cX3_chase, cX3_sameSigns, cX3_makeOne, cX3_replace, cX3_isRowWhole, cX4_init, cX4_run, cX4_notePairs, cX4_findThatTell, cX4_hasLessThatHolds, cX4_doPairsAgree, cX4_note]
def mt_B_3 : List (ByteArray) := [cX5_init, cX5_open, cX5_addColumn, cX5_addRows, cX5_hasColumn, cX5_hasRow, cX5_columnSet, cX5_hasColumns, cX5_faultOf, cX5_faultOfReading, cX5_hasValue, cX5_valueOf, cX5_store, cX5_erase, cX5_moveCells, cX5_missingCells]
def mt_B_4 : List (ByteArray) := [cX5_missingIn, cX5_likeColumns, cX5_areRowsLike, cX5_hasElderLike, cX5_rowsSeenBefore, cX5_rowsToLeaveOut, cX5_mostThatStay, cX5_laterLike, cX5_hasLanesOf, cX5_hasValuesOf, cX5_sameValues, cX5_becomeProjection, cX5_becomeJoin, cX5_takeCells, cX6_init, cX6_widen]
def mt_B_5 : List (ByteArray) := [cX6_takeForce, cX6_placeInForce, cX6_isWithinAll, cX6_nextForce, cX6_closureOf, cX6_noteSteps, cX6_tellsAllOf, cX6_isLeastFor, cX6_findKeys, cX6_primeOf, cX6_isThird, cX6_splitterOf, cX7_init, cX7_table, cX7_drop, cX7_column]
def mt_B_6 : List (ByteArray) := [cX7_rows, cX7_put, cX7_miss, cX7_at, cX7_copy, cX7_about, cX7_like, cX7_law, cX7_unlaw, cX7_say, cX7_hold, cX7_broken, cX7_find, cX7_found, cX7_misses, cX7_twice]
def mt_B_7 : List (ByteArray) := [cX7_width, cX7_closure, cX7_follows, cX7_step, cX7_keys, cX7_key, cX7_prime, cX7_cover, cX7_covered, cX7_third, cX7_strict, cX7_part, cX7_unpart, cX7_parted, cX7_form, cX7_lossless]
def mt_B_8 : List (ByteArray) := [cX7_lack, cX7_keeps, cX7_project, cX7_join, cX7_fault, cX7_told, cX7_faulted, cX7_standing, cX7_refusalOfSets, cX7_renewForce, cX7_isTableNumber, cX7_isLane, cX7_isSet, cX7_isWithin, cX7_hasBit, cX7_isOneColumn]
def mt_B_9 : List (ByteArray) := [cX7_looksAtY, cX7_isLawAsTold, cX7_isTakenAs, cX7_placeIn, cX7_onlyColumnOf, cX7_cell, cX7_cutToLane, cX7_bitsOfOneKind, cX7_rankOf, cX7_areCellsLike, cX7_haveCommonLanes, cX7_doRowsMeet, cX7_joinedRows, cX8_init, cX8_in, cX8_lost]
def mt_B_10 : List (ByteArray) := [cX8_refused, cX8_fails, cX8_failsLong, cX8_noPlace, cX8_noTable, cX8_spot, cX8_valued, cX8_isNumber, cX8_isBehind, cX8_table, cX8_drop, cX8_column, cX8_addRow, cX8_rows, cX8_noCell, cX8_put]
def mt_B_11 : List (ByteArray) := [cX8_miss, cX8_at, cX8_isBeyond, cX8_copy, cX8_about, cX8_isSet, cX8_allOf, cX8_areAlike, cX8_agree, cX8_isLike, cX8_like, cX8_isOne, cX8_law, cX8_noLaw, cX8_unlaw, cX8_say]
def mt_B_12 : List (ByteArray) := [cX8_hasThird, cX8_columnOf, cX8_breaks, cX8_hasMissing, cX8_isThere, cX8_breaksAlone, cX8_hold, cX8_broken, cX8_find, cX8_found, cX8_noSets, cX8_misses, cX8_twice, cX8_all, cX8_isWithin, cX8_isInForce]
def mt_B_13 : List (ByteArray) := [cX8_from, cX8_to, cX8_width, cX8_adding, cX8_closed, cX8_closure, cX8_follows, cX8_step, cX8_close, cX8_findKeys, cX8_keys, cX8_key, cX8_prime, cX8_closedBy, cX8_findCover, cX8_cover]
def mt_B_14 : List (ByteArray) := [cX8_covered, cX8_laid, cX8_third, cX8_parting, cX8_strict, cX8_noPart, cX8_part, cX8_unpart, cX8_parted, cX8_primeOf, cX8_form, cX8_isSame, cX8_unite, cX8_chases, cX8_lossless, cX8_isKept]
def mt_B_15 : List (ByteArray) := [cX8_lack, cX8_keeps, cX8_count, cX8_rank, cX8_give, cX8_project, cX8_fits, cX8_join, cX8_fault, cX8_told, cJ6_bitCount_0f7a4, cJ7_fill_53178, cL_law]
def mt_B_g : List (List (ByteArray)) := [mt_B_0, mt_B_1, mt_B_2, mt_B_3, mt_B_4, mt_B_5, mt_B_6, mt_B_7, mt_B_8, mt_B_9, mt_B_10, mt_B_11, mt_B_12, mt_B_13, mt_B_14, mt_B_15]
def mt_N_0 : List (Nat × Option FieldType × Nat × Nat × Nat × Nat × Nat) := [(2, none, 1, 40, 0, 1, 4), (2, none, 4, 90, 0, 0, 0), (4, none, 1, 21, 0, 2, 0), (4, none, 3, 67, 0, 1, 0), (3, none, 2, 46, 0, 0, 0), (6, (some .boolean), 1, 21, 0, 1, 0), (3, none, 0, 0, 0, 1, 0), (3, (some .boolean), 0, 0, 0, 1, 0), (4, (some .int), 0, 0, 0, 1, 0), (1, none, 1, 40, 1, 0, 4), (6, (some .boolean), 5, 125, 1, 5, 0), (3, (some .boolean), 0, 0, 1, 2, 0), (7, (some .boolean), 2, 49, 1, 3, 0), (8, (some .boolean), 4, 98, 1, 3, 0), (7, (some .boolean), 3, 72, 1, 5, 0), (4, (some .boolean), 3, 66, 1, 2, 0)]
def mt_N_1 : List (Nat × Option FieldType × Nat × Nat × Nat × Nat × Nat) := [(9, (some .boolean), 3, 68, 1, 3, 0), (6, (some .boolean), 2, 43, 1, 4, 0), (7, (some .boolean), 4, 93, 1, 3, 0), (1, none, 1, 40, 2, 0, 4), (4, (some .int), 0, 0, 2, 3, 0), (2, (some .boolean), 0, 0, 2, 1, 0), (2, (some .boolean), 0, 0, 2, 1, 0), (2, none, 1, 40, 3, 1, 4), (3, (some .boolean), 5, 110, 3, 1, 0), (3, none, 2, 44, 3, 0, 0), (4, (some .boolean), 1, 21, 3, 2, 0), (2, (some .boolean), 4, 89, 3, 0, 0), (2, (some .boolean), 5, 112, 3, 0, 0), (3, (some .boolean), 4, 90, 3, 0, 0), (4, none, 3, 67, 3, 2, 0), (2, (some .boolean), 0, 0, 3, 0, 0)]
def mt_N_2 : List (Nat × Option FieldType × Nat × Nat × Nat × Nat × Nat) := [(6, (some .boolean), 3, 67, 3, 1, 0), (2, (some .boolean), 4, 114, 3, 0, 0), (3, none, 1, 21, 3, 0, 0), (3, (some .boolean), 3, 92, 3, 0, 0), (7, (some .boolean), 2, 66, 3, 2, 0), (5, (some .int), 0, 0, 3, 2, 0), (7, none, 1, 40, 3, 3, 0), (5, none, 0, 0, 3, 3, 0), (3, (some .boolean), 0, 0, 3, 1, 0), (1, none, 1, 40, 4, 0, 4), (3, none, 3, 72, 4, 1, 0), (4, none, 2, 49, 4, 1, 0), (5, none, 2, 44, 4, 2, 0), (3, (some .boolean), 1, 21, 4, 1, 0), (4, (some .boolean), 1, 21, 4, 2, 0), (3, none, 0, 0, 4, 2, 0)]
def mt_N_3 : List (Nat × Option FieldType × Nat × Nat × Nat × Nat × Nat) := [(1, none, 1, 40, 5, 0, 4), (2, none, 0, 0, 5, 1, 0), (2, (some .int), 0, 0, 5, 1, 0), (4, (some .int), 1, 21, 5, 1, 0), (2, (some .boolean), 0, 0, 5, 1, 0), (2, (some .boolean), 0, 0, 5, 1, 0), (1, (some .int), 0, 0, 5, 0, 0), (2, (some .boolean), 1, 21, 5, 1, 0), (3, (some .int), 1, 21, 5, 2, 0), (4, (some .int), 2, 43, 5, 3, 0), (3, (some .boolean), 1, 21, 5, 2, 0), (3, (some .long), 1, 21, 5, 2, 0), (5, none, 2, 45, 5, 3, 0), (4, (some .boolean), 2, 43, 5, 2, 0), (6, none, 1, 40, 5, 5, 0), (3, (some .int), 3, 66, 5, 0, 0)]
def mt_N_4 : List (Nat × Option FieldType × Nat × Nat × Nat × Nat × Nat) := [(4, (some .int), 2, 43, 5, 1, 0), (5, (some .int), 1, 25, 5, 2, 0), (4, (some .boolean), 2, 49, 5, 3, 0), (4, (some .boolean), 3, 72, 5, 2, 0), (4, (some .int), 4, 95, 5, 1, 0), (5, (some .int), 5, 121, 5, 2, 0), (6, (some .int), 4, 96, 5, 3, 0), (5, (some .int), 3, 72, 5, 2, 0), (4, (some .boolean), 1, 21, 5, 2, 0), (5, (some .boolean), 3, 69, 5, 3, 0), (7, (some .int), 2, 43, 5, 3, 0), (4, (some .int), 4, 95, 5, 2, 0), (7, (some .int), 3, 69, 5, 4, 0), (9, none, 2, 41, 5, 5, 0), (1, none, 1, 40, 6, 0, 4), (2, none, 0, 0, 6, 1, 0)]
def mt_N_5 : List (Nat × Option FieldType × Nat × Nat × Nat × Nat × Nat) := [(3, none, 1, 23, 6, 1, 0), (3, (some .int), 0, 0, 6, 1, 0), (2, (some .boolean), 1, 21, 6, 1, 0), (3, (some .int), 1, 21, 6, 1, 0), (5, (some .int), 2, 43, 6, 1, 0), (6, none, 2, 43, 6, 2, 0), (3, (some .boolean), 3, 67, 6, 2, 0), (4, (some .boolean), 4, 89, 6, 2, 0), (2, none, 5, 112, 6, 0, 0), (4, (some .int), 5, 112, 6, 1, 0), (5, (some .boolean), 3, 67, 6, 2, 0), (4, (some .int), 3, 67, 6, 1, 0), (2, none, 2, 61, 7, 0, 4), (3, (some .int), 1, 21, 7, 2, 0), (2, (some .int), 1, 20, 7, 1, 0), (4, (some .int), 2, 41, 7, 2, 0)]
def mt_N_6 : List (Nat × Option FieldType × Nat × Nat × Nat × Nat × Nat) := [(4, (some .int), 2, 44, 7, 2, 0), (8, (some .int), 3, 69, 7, 4, 0), (6, (some .int), 3, 66, 7, 3, 0), (6, (some .long), 3, 66, 7, 4, 0), (8, (some .int), 2, 65, 7, 6, 0), (4, (some .int), 4, 88, 7, 2, 0), (6, (some .int), 3, 72, 7, 4, 0), (5, (some .int), 3, 65, 7, 3, 0), (2, (some .int), 3, 65, 7, 1, 0), (4, (some .int), 1, 22, 7, 3, 0), (9, (some .int), 6, 150, 7, 2, 0), (2, (some .int), 0, 0, 7, 1, 0), (3, (some .int), 4, 94, 7, 1, 0), (3, (some .int), 0, 0, 7, 2, 0), (5, (some .int), 6, 145, 7, 3, 0), (5, (some .int), 5, 118, 7, 3, 0)]
def mt_N_7 : List (Nat × Option FieldType × Nat × Nat × Nat × Nat × Nat) := [(3, (some .int), 3, 65, 7, 1, 0), (2, (some .int), 3, 67, 7, 1, 0), (3, (some .int), 3, 68, 7, 2, 0), (2, (some .int), 0, 0, 7, 1, 0), (1, (some .int), 6, 133, 7, 0, 0), (2, (some .int), 6, 133, 7, 1, 0), (1, (some .int), 6, 135, 7, 0, 0), (1, (some .int), 5, 111, 7, 0, 0), (3, (some .int), 5, 111, 7, 2, 0), (1, (some .int), 6, 133, 7, 0, 0), (1, (some .int), 6, 133, 7, 0, 0), (2, (some .int), 2, 42, 7, 1, 0), (2, (some .int), 0, 0, 7, 0, 0), (2, (some .int), 0, 0, 7, 1, 0), (4, (some .int), 6, 135, 7, 1, 0), (1, (some .int), 5, 135, 7, 0, 0)]
def mt_N_8 : List (Nat × Option FieldType × Nat × Nat × Nat × Nat × Nat) := [(3, (some .int), 4, 92, 7, 0, 0), (3, (some .int), 4, 92, 7, 1, 0), (5, (some .int), 5, 118, 7, 3, 0), (8, (some .int), 4, 95, 7, 5, 0), (1, (some .int), 0, 0, 7, 0, 0), (2, (some .int), 0, 0, 7, 1, 0), (2, (some .int), 0, 0, 7, 1, 0), (2, (some (.object "KeyFinder$Table")), 1, 20, 7, 1, 0), (5, (some .int), 2, 42, 7, 3, 0), (1, none, 2, 45, 7, 0, 0), (1, (some .boolean), 0, 0, 7, 1, 2), (1, (some .boolean), 0, 0, 7, 1, 2), (1, (some .boolean), 0, 0, 7, 1, 2), (2, (some .boolean), 0, 0, 7, 2, 2), (2, (some .boolean), 0, 0, 7, 2, 2), (1, (some .boolean), 1, 20, 7, 1, 2)]
def mt_N_9 : List (Nat × Option FieldType × Nat × Nat × Nat × Nat × Nat) := [(1, (some .boolean), 0, 0, 7, 1, 2), (3, (some .boolean), 2, 40, 7, 3, 2), (3, (some .boolean), 0, 0, 7, 2, 2), (2, (some .int), 1, 20, 7, 2, 2), (1, (some .int), 1, 20, 7, 1, 2), (2, (some .int), 0, 0, 7, 2, 2), (3, (some .long), 1, 23, 7, 2, 2), (4, (some .long), 0, 0, 7, 1, 2), (3, (some .long), 0, 0, 7, 2, 2), (6, (some .boolean), 0, 0, 7, 4, 2), (5, (some .boolean), 2, 41, 7, 4, 2), (9, (some .boolean), 2, 41, 7, 6, 2), (7, (some .int), 3, 69, 7, 4, 2), (2, none, 1, 40, 8, 0, 4), (3, (some .boolean), 0, 0, 8, 3, 2), (0, (some .long), 0, 0, 8, 0, 2)]
def mt_N_10 : List (Nat × Option FieldType × Nat × Nat × Nat × Nat × Nat) := [(2, (some .int), 0, 0, 8, 1, 0), (2, (some .int), 0, 0, 8, 1, 0), (2, (some .long), 1, 19, 8, 1, 0), (1, (some .boolean), 1, 22, 8, 1, 2), (2, (some .boolean), 2, 42, 8, 1, 0), (3, (some .int), 0, 0, 8, 3, 2), (5, (some .long), 0, 0, 8, 2, 2), (3, (some .boolean), 0, 0, 8, 2, 2), (5, (some .boolean), 1, 40, 8, 3, 2), (3, (some .int), 2, 42, 8, 2, 0), (3, (some .int), 2, 42, 8, 1, 0), (3, (some .int), 3, 63, 8, 2, 0), (3, none, 1, 22, 8, 1, 0), (4, (some .int), 3, 63, 8, 2, 0), (4, (some .int), 1, 22, 8, 3, 0), (6, (some .int), 2, 45, 8, 4, 0)]
def mt_N_11 : List (Nat × Option FieldType × Nat × Nat × Nat × Nat × Nat) := [(6, (some .int), 2, 45, 8, 3, 0), (5, (some .long), 2, 42, 8, 4, 0), (3, (some .boolean), 0, 0, 8, 3, 2), (8, (some .int), 3, 63, 8, 6, 0), (6, (some .int), 3, 63, 8, 2, 0), (1, (some .boolean), 1, 22, 8, 1, 2), (2, (some .int), 0, 0, 8, 1, 0), (7, (some .boolean), 1, 22, 8, 4, 0), (6, (some .int), 2, 48, 8, 3, 0), (5, (some .boolean), 3, 73, 8, 4, 0), (5, (some .int), 4, 97, 8, 4, 0), (1, (some .boolean), 0, 0, 8, 1, 2), (5, (some .int), 2, 42, 8, 3, 0), (2, (some .boolean), 1, 22, 8, 1, 0), (3, (some .int), 2, 43, 8, 1, 0), (5, (some .int), 2, 43, 8, 3, 0)]
def mt_N_12 : List (Nat × Option FieldType × Nat × Nat × Nat × Nat × Nat) := [(9, (some .boolean), 4, 97, 8, 5, 0), (2, (some .int), 0, 0, 8, 1, 2), (9, (some .boolean), 5, 125, 8, 4, 0), (6, (some .boolean), 1, 22, 8, 3, 0), (9, (some .boolean), 1, 22, 8, 4, 0), (5, (some .boolean), 2, 50, 8, 3, 0), (7, (some .int), 6, 153, 8, 2, 0), (2, (some .int), 0, 0, 8, 1, 0), (6, (some .int), 3, 73, 8, 1, 0), (3, (some .int), 1, 22, 8, 2, 0), (4, (some .int), 3, 63, 8, 3, 0), (13, (some .int), 4, 97, 8, 3, 0), (8, (some .int), 4, 97, 8, 3, 0), (1, (some .int), 0, 0, 8, 0, 0), (2, (some .boolean), 1, 20, 8, 1, 0), (2, (some .boolean), 0, 0, 8, 1, 0)]
def mt_N_13 : List (Nat × Option FieldType × Nat × Nat × Nat × Nat × Nat) := [(2, (some .int), 1, 20, 8, 1, 0), (2, (some .int), 1, 20, 8, 1, 0), (3, (some .int), 1, 22, 8, 1, 0), (3, (some .int), 2, 41, 8, 1, 0), (4, (some .int), 3, 63, 8, 1, 0), (2, (some .int), 4, 86, 8, 1, 0), (6, (some .int), 3, 63, 8, 2, 0), (2, (some .int), 1, 22, 8, 1, 0), (2, none, 4, 86, 8, 0, 0), (4, none, 5, 107, 8, 0, 0), (1, (some .int), 6, 130, 8, 0, 0), (2, (some .int), 6, 130, 8, 1, 0), (3, (some .int), 6, 130, 8, 0, 0), (6, (some .int), 0, 0, 8, 2, 0), (4, none, 2, 41, 8, 0, 0), (1, (some .int), 3, 64, 8, 0, 0)]
def mt_N_14 : List (Nat × Option FieldType × Nat × Nat × Nat × Nat × Nat) := [(3, (some .int), 3, 64, 8, 2, 0), (4, (some .int), 0, 0, 8, 2, 0), (6, (some .int), 6, 130, 8, 0, 0), (3, (some .int), 0, 0, 8, 1, 0), (5, (some .int), 5, 107, 8, 0, 0), (2, (some .boolean), 2, 41, 8, 1, 0), (2, (some .int), 3, 62, 8, 1, 0), (2, (some .int), 0, 0, 8, 0, 0), (2, (some .int), 1, 22, 8, 1, 0), (6, (some .int), 0, 0, 8, 1, 0), (7, (some .int), 5, 107, 8, 1, 0), (6, (some .boolean), 0, 0, 8, 3, 0), (6, none, 0, 0, 8, 3, 0), (6, (some .boolean), 2, 41, 8, 3, 0), (5, (some .int), 3, 66, 8, 0, 0), (6, (some .boolean), 4, 86, 8, 1, 0)]
def mt_N_15 : List (Nat × Option FieldType × Nat × Nat × Nat × Nat × Nat) := [(3, (some .int), 5, 111, 8, 0, 0), (2, (some .int), 5, 111, 8, 1, 0), (3, (some .int), 0, 0, 8, 1, 2), (2, (some .int), 1, 22, 8, 2, 2), (7, none, 1, 22, 8, 6, 0), (7, (some .int), 4, 97, 8, 3, 0), (11, (some .boolean), 2, 43, 8, 6, 0), (11, (some .int), 3, 73, 8, 5, 0), (1, (some .int), 0, 0, 8, 0, 0), (4, (some .int), 1, 21, 8, 1, 0), (1, (some .int), 0, 0, 10, 1, 2), (4, none, 0, 0, 12, 2, 2), (4, (some .boolean), 7, 179, 9, 1, 2)]
def mt_N_g : List (List (Nat × Option FieldType × Nat × Nat × Nat × Nat × Nat)) := [mt_N_0, mt_N_1, mt_N_2, mt_N_3, mt_N_4, mt_N_5, mt_N_6, mt_N_7, mt_N_8, mt_N_9, mt_N_10, mt_N_11, mt_N_12, mt_N_13, mt_N_14, mt_N_15]
def mm_Y (i : Nat) : MethodName := (mt_Y_g.getD (i / 16) []).getD (i % 16) yL_law
def mm_B (i : Nat) : ByteArray := (mt_B_g.getD (i / 16) []).getD (i % 16) code
def mm_N (i : Nat) : Nat × Option FieldType × Nat × Nat × Nat × Nat × Nat := (mt_N_g.getD (i / 16) []).getD (i % 16) (4, some .boolean, 9, 364, 9, 1, 2)
/-- how many places, the answer, frames, room, the owner, how many parameters, the kind (0 by object, 2 without, 4 a maker) -/
def mm_L (i : Nat) : Nat := (mm_N i).1
def mm_R (i : Nat) : Option FieldType := (mm_N i).2.1
def mm_F (i : Nat) : Nat := (mm_N i).2.2.1
def mm_O (i : Nat) : Nat := (mm_N i).2.2.2.1
def mm_own (i : Nat) : Nat := (mm_N i).2.2.2.2.1
def mm_A (i : Nat) : Nat := (mm_N i).2.2.2.2.2.1
def mm_k (i : Nat) : Nat := (mm_N i).2.2.2.2.2.2
def mm_cnt : Nat := 252
def fl_t : List (Nat × Nat × Nat × Nat × Nat) := [(5, 23, 5, 0, 72), (7, 74, 5, 0, 73), (5, 27, 5, 1, 74), (7, 137, 5, 1, 75), (5, 30, 5, 2, 76), (4, 33, 5, 2, 77), (7, 88, 5, 2, 78), (5, 34, 5, 3, 79), (4, 49, 5, 3, 80), (1, 42, 5, 3, 81), (7, 85, 5, 3, 82), (5, 9, 5, 4, 83), (1, 75, 5, 4, 84), (7, 129, 5, 4, 85), (5, 15, 5, 5, 86), (7, 341, 5, 5, 87), (5, 19, 5, 6, 88), (7, 337, 5, 6, 89), (2, 25, 2, 0, 114), (6, 46, 2, 0, 115), (7, 160, 2, 0, 116), (2, 9, 2, 1, 117), (6, 58, 2, 1, 118), (7, 179, 2, 1, 119), (2, 15, 2, 2, 120), (6, 55, 2, 2, 121), (7, 185, 2, 2, 122), (2, 18, 2, 3, 123), (6, 61, 2, 3, 124), (7, 188, 2, 3, 125), (2, 21, 2, 4, 126), (7, 175, 2, 4, 127), (1, 9, 1, 0, 146), (7, 198, 1, 0, 147), (1, 15, 1, 1, 148), (7, 201, 1, 1, 149), (4, 29, 4, 0, 161), (7, 208, 4, 0, 162), (4, 9, 4, 1, 163), (7, 209, 4, 1, 164), (4, 15, 4, 2, 165), (7, 210, 4, 2, 166), (4, 46, 4, 3, 167), (4, 18, 4, 4, 168), (4, 21, 4, 5, 169), (6, 9, 6, 0, 192), (3, 130, 6, 0, 193), (7, 222, 6, 0, 194), (6, 15, 6, 1, 195), (3, 67, 6, 1, 196), (7, 256, 6, 1, 197), (0, 30, 6, 2, 198), (6, 43, 6, 2, 199), (3, 105, 6, 2, 200), (7, 288, 6, 2, 201), (6, 18, 6, 3, 202), (6, 22, 6, 4, 203), (0, 35, 6, 4, 204), (3, 87, 6, 4, 205), (6, 25, 6, 5, 206), (0, 38, 6, 5, 207), (3, 90, 6, 5, 208), (6, 28, 6, 6, 209), (6, 76, 6, 7, 210), (7, 241, 6, 7, 211), (6, 31, 6, 8, 212), (7, 244, 6, 8, 213), (6, 64, 6, 9, 214), (3, 49, 6, 10, 215), (6, 88, 6, 10, 216), (7, 250, 6, 10, 217), (6, 34, 6, 11, 218), (3, 54, 6, 11, 219), (7, 253, 6, 11, 220), (0, 18, 0, 0, 252), (0, 22, 0, 1, 253), (7, 321, 0, 1, 254), (3, 29, 0, 2, 255), (0, 26, 0, 2, 256), (7, 265, 0, 2, 257), (0, 9, 0, 3, 258), (7, 266, 0, 3, 259), (0, 15, 0, 4, 260), (7, 267, 0, 4, 261), (3, 21, 3, 0, 279), (3, 86, 3, 1, 280), (7, 227, 3, 1, 281), (3, 9, 3, 2, 282), (7, 276, 3, 2, 283), (3, 25, 3, 3, 284), (3, 15, 3, 4, 285), (3, 18, 3, 5, 286), (7, 13, 7, 0, 300), (7, 21, 7, 1, 301), (7, 28, 7, 2, 302), (7, 35, 7, 3, 303), (7, 42, 7, 4, 304), (7, 51, 7, 5, 305), (7, 58, 7, 6, 306), (7, 62, 7, 7, 307), (8, 102, 8, 0, 966), (8, 7, 8, 1, 967), (8, 13, 8, 2, 968), (8, 16, 8, 3, 969), (8, 20, 8, 4, 970), (8, 23, 8, 5, 971), (8, 27, 8, 6, 972), (8, 30, 8, 7, 973), (8, 33, 8, 8, 974), (8, 186, 8, 9, 975), (8, 36, 8, 10, 976), (8, 39, 8, 11, 977), (8, 42, 8, 12, 978), (8, 45, 8, 13, 979), (8, 94, 8, 14, 980), (8, 97, 8, 15, 981), (8, 48, 8, 16, 982), (8, 215, 8, 17, 983), (8, 218, 8, 18, 984), (8, 51, 8, 19, 985), (8, 54, 8, 20, 986), (8, 57, 8, 21, 987), (8, 90, 8, 22, 988), (8, 249, 8, 23, 989), (8, 60, 8, 24, 990), (8, 63, 8, 25, 991), (8, 255, 8, 26, 992), (8, 66, 8, 27, 993), (8, 69, 8, 28, 994), (8, 261, 8, 29, 995), (8, 72, 8, 30, 996), (8, 75, 8, 31, 997), (8, 78, 8, 32, 998), (8, 228, 8, 33, 999), (8, 81, 8, 34, 1000), (8, 84, 8, 35, 1001), (8, 87, 8, 36, 1002)]
def ml_t : List (Nat × Nat × Nat × Nat × Nat) := [(9, 9, 92, 0, 59), (7, 17, 48, 1, 68), (7, 20, 19, 1, 110), (7, 27, 9, 1, 142), (7, 34, 41, 1, 157), (7, 41, 78, 0, 185), (6, 37, 251, 0, 189), (7, 48, 0, 0, 248), (7, 57, 23, 0, 275), (9, 13, 93, 0, 325), (7, 66, 138, 0, 329), (7, 70, 49, 0, 332), (9, 18, 94, 0, 336), (9, 23, 95, 0, 340), (7, 78, 135, 0, 344), (7, 82, 139, 0, 348), (7, 91, 50, 0, 351), (9, 28, 96, 0, 355), (7, 95, 134, 0, 359), (7, 98, 51, 0, 363), (5, 37, 149, 1, 367), (9, 34, 97, 0, 370), (7, 101, 56, 0, 374), (5, 49, 52, 0, 378), (5, 53, 53, 0, 382), (7, 105, 60, 0, 386), (5, 59, 150, 1, 390), (7, 327, 151, 0, 393), (9, 39, 98, 0, 400), (7, 109, 61, 0, 404), (5, 63, 58, 0, 408), (9, 44, 99, 0, 412), (7, 115, 57, 0, 416), (5, 56, 56, 0, 420), (7, 119, 58, 0, 421), (7, 122, 59, 0, 422), (9, 49, 100, 0, 426), (7, 126, 52, 0, 430), (7, 133, 62, 0, 431), (9, 54, 101, 0, 438), (7, 140, 63, 0, 442), (5, 72, 64, 0, 446), (5, 76, 250, 0, 450), (9, 58, 102, 0, 456), (7, 144, 53, 0, 460), (7, 147, 140, 0, 461), (7, 150, 54, 0, 464), (7, 153, 66, 0, 468), (5, 85, 65, 0, 472), (5, 81, 153, 1, 476), (5, 45, 141, 1, 479), (9, 63, 103, 0, 482), (7, 157, 145, 0, 486), (7, 324, 143, 0, 489), (7, 301, 250, 0, 492), (7, 163, 144, 0, 493), (7, 166, 20, 0, 496), (7, 169, 137, 0, 500), (7, 317, 80, 0, 504), (6, 51, 22, 0, 508), (9, 67, 104, 0, 512), (7, 172, 21, 0, 516), (9, 71, 105, 0, 520), (7, 182, 146, 0, 524), (9, 75, 106, 0, 527), (7, 191, 55, 0, 531), (5, 41, 54, 0, 535), (7, 194, 10, 0, 536), (1, 18, 12, 0, 540), (1, 45, 65, 0, 544), (1, 49, 141, 1, 545), (1, 53, 11, 0, 546), (1, 22, 54, 0, 550), (1, 28, 13, 0, 551), (1, 56, 66, 0, 555), (1, 60, 14, 0, 556), (1, 31, 15, 0, 560), (1, 64, 64, 0, 564), (1, 35, 16, 0, 565), (1, 68, 148, 1, 569), (1, 71, 17, 0, 572), (1, 79, 59, 0, 576), (1, 83, 152, 1, 577), (1, 38, 18, 0, 580), (1, 87, 72, 0, 584), (5, 107, 142, 1, 588), (1, 90, 73, 0, 591), (5, 110, 74, 0, 595), (5, 114, 59, 0, 599), (9, 79, 107, 0, 600), (9, 83, 108, 0, 604), (7, 204, 42, 0, 608), (4, 25, 43, 0, 612), (4, 52, 65, 0, 616), (4, 38, 54, 0, 617), (4, 42, 44, 0, 618), (4, 56, 141, 1, 622), (4, 60, 45, 0, 623), (4, 70, 142, 1, 627), (4, 64, 46, 0, 628), (4, 67, 47, 0, 632), (9, 87, 109, 0, 636), (9, 91, 110, 0, 640), (7, 213, 136, 0, 644), (7, 216, 69, 0, 648), (5, 92, 67, 0, 652), (5, 88, 66, 0, 656), (5, 95, 70, 0, 657), (5, 99, 71, 0, 661), (9, 95, 111, 0, 668), (7, 219, 68, 0, 672), (9, 99, 112, 0, 676), (7, 223, 79, 0, 680), (9, 103, 113, 0, 684), (7, 228, 82, 0, 688), (6, 68, 141, 1, 692), (7, 231, 84, 0, 693), (6, 72, 83, 0, 697), (9, 107, 114, 0, 701), (7, 234, 141, 0, 705), (7, 237, 85, 0, 706), (9, 111, 115, 0, 710), (9, 115, 116, 0, 714), (7, 247, 88, 0, 718), (6, 91, 87, 0, 722), (6, 82, 86, 0, 726), (6, 79, 84, 0, 730), (6, 85, 142, 1, 731), (9, 120, 117, 0, 732), (9, 124, 118, 0, 736), (7, 259, 89, 0, 740), (9, 128, 119, 0, 744), (7, 262, 1, 0, 748), (0, 41, 2, 0, 752), (0, 52, 142, 1, 756), (0, 45, 3, 0, 757), (0, 56, 84, 0, 761), (0, 49, 4, 0, 762), (0, 60, 5, 0, 766), (0, 67, 141, 1, 770), (0, 64, 6, 0, 771), (9, 132, 120, 0, 775), (9, 136, 121, 0, 779), (7, 268, 24, 0, 783), (3, 34, 7, 0, 787), (3, 38, 8, 0, 791), (3, 42, 25, 0, 795), (3, 60, 26, 0, 799), (3, 64, 141, 1, 803), (3, 45, 27, 0, 804), (3, 70, 86, 0, 808), (3, 57, 31, 0, 809), (9, 140, 122, 0, 813), (7, 272, 28, 0, 817), (3, 73, 29, 0, 821), (3, 76, 91, 0, 825), (3, 79, 30, 0, 829), (3, 83, 84, 0, 833), (9, 144, 123, 0, 834), (9, 148, 124, 0, 838), (9, 152, 125, 0, 842), (9, 156, 126, 0, 846), (7, 279, 90, 0, 850), (7, 282, 91, 0, 854), (9, 160, 127, 0, 855), (7, 285, 33, 0, 859), (3, 93, 34, 0, 863), (3, 102, 142, 1, 867), (3, 96, 35, 0, 868), (3, 108, 36, 0, 872), (3, 111, 37, 0, 876), (3, 115, 38, 0, 880), (3, 127, 39, 0, 888), (3, 99, 40, 0, 892), (9, 164, 128, 0, 896), (7, 291, 32, 0, 900), (9, 168, 129, 0, 904), (7, 294, 81, 0, 908), (9, 172, 130, 0, 912), (7, 297, 75, 0, 916), (5, 118, 49, 0, 920), (5, 122, 50, 0, 921), (5, 125, 51, 0, 922), (5, 128, 77, 0, 923), (5, 132, 147, 1, 927), (9, 176, 131, 0, 930), (7, 306, 154, 0, 934), (7, 345, 142, 0, 937), (7, 348, 147, 0, 938), (7, 310, 156, 0, 939), (7, 357, 155, 0, 942), (7, 351, 149, 0, 945), (7, 354, 153, 0, 946), (7, 314, 76, 0, 947), (5, 135, 155, 1, 951), (9, 181, 132, 0, 952), (9, 185, 133, 0, 956), (9, 12, 157, 0, 962), (9, 17, 169, 0, 1078), (8, 113, 163, 0, 1082), (8, 109, 158, 0, 1085), (9, 22, 170, 0, 1088), (9, 27, 171, 0, 1092), (8, 135, 164, 0, 1096), (9, 31, 173, 0, 1100), (8, 142, 160, 0, 1104), (8, 146, 161, 0, 1108), (8, 149, 172, 0, 1112), (8, 138, 165, 0, 1116), (9, 38, 175, 0, 1119), (8, 153, 174, 0, 1123), (8, 156, 166, 0, 1127), (9, 43, 176, 0, 1134), (9, 48, 177, 0, 1138), (8, 105, 159, 0, 1142), (8, 160, 162, 0, 1146), (9, 53, 179, 0, 1150), (8, 164, 178, 0, 1154), (9, 57, 180, 0, 1157), (9, 62, 186, 0, 1161), (8, 177, 181, 0, 1165), (8, 180, 185, 0, 1168), (8, 171, 182, 0, 1172), (8, 174, 184, 0, 1176), (8, 167, 183, 0, 1180), (9, 66, 188, 0, 1184), (8, 183, 187, 0, 1188), (9, 70, 190, 0, 1191), (8, 189, 189, 0, 1195), (9, 74, 191, 0, 1199), (9, 78, 198, 0, 1203), (8, 209, 197, 0, 1207), (8, 203, 195, 0, 1211), (8, 206, 196, 0, 1215), (8, 212, 194, 0, 1219), (8, 192, 192, 0, 1223), (8, 196, 193, 0, 1227), (8, 199, 168, 0, 1230), (8, 125, 167, 0, 1233), (9, 82, 199, 0, 1239), (9, 86, 200, 0, 1243), (9, 90, 201, 0, 1247), (9, 94, 203, 0, 1251), (8, 221, 202, 0, 1255), (9, 98, 204, 0, 1259), (9, 102, 210, 0, 1263), (9, 106, 213, 0, 1267), (8, 243, 206, 0, 1271), (8, 224, 205, 0, 1275), (8, 246, 212, 0, 1279), (8, 240, 211, 0, 1283), (8, 231, 207, 0, 1287), (8, 234, 208, 0, 1291), (8, 237, 209, 0, 1295), (9, 110, 214, 0, 1299), (9, 114, 215, 0, 1303), (9, 119, 218, 0, 1307), (8, 258, 217, 0, 1311), (8, 252, 216, 0, 1315), (9, 123, 219, 0, 1319), (9, 127, 220, 0, 1323), (9, 131, 223, 0, 1327), (8, 268, 222, 0, 1331), (8, 264, 221, 0, 1335), (9, 135, 224, 0, 1339), (9, 139, 226, 0, 1343), (8, 271, 225, 0, 1347), (9, 143, 228, 0, 1351), (8, 275, 227, 0, 1355), (9, 147, 230, 0, 1359), (8, 278, 229, 0, 1363), (9, 151, 231, 0, 1367), (9, 155, 232, 0, 1371), (9, 159, 234, 0, 1375), (8, 281, 233, 0, 1379), (9, 163, 238, 0, 1383), (8, 291, 237, 0, 1387), (8, 284, 235, 0, 1391), (8, 287, 236, 0, 1395), (9, 167, 240, 0, 1399), (8, 294, 239, 0, 1403), (9, 171, 241, 0, 1407), (9, 175, 245, 0, 1411), (8, 297, 242, 0, 1415), (8, 300, 243, 0, 1418), (8, 303, 244, 0, 1421), (9, 180, 247, 0, 1425), (8, 307, 246, 0, 1429), (9, 184, 248, 0, 1433), (9, 188, 249, 0, 1437)]
def ol_t : List (Nat × Nat × Nat) := [(7, 5, 62), (5, 3, 71), (2, 3, 113), (1, 3, 145), (4, 3, 160), (6, 3, 188), (0, 3, 251), (3, 3, 278), (8, 1, 965)]
def cl_t : List (Nat × Nat × Nat × Nat) := [(9, 7, 7, 57), (7, 11, 5, 65), (7, 18, 2, 108), (7, 25, 1, 140), (7, 32, 4, 155), (7, 39, 6, 183), (7, 46, 0, 246), (7, 55, 3, 273), (9, 10, 8, 960)]
def nt_t : List (Nat × Nat × Nat × Nat) := [(5, 66, 6, 435), (5, 102, 14, 665), (3, 119, 14, 884), (3, 124, 15, 885), (8, 129, 7, 1236)]
def ki_t : List (Nat × Nat × Int32 × Nat) := [(10, 265, 1431655765, 453), (10, 266, 858993459, 454), (10, 267, 252645135, 455)]
def kl_t : List (Nat × Nat × Int64 × Nat) := [(7, 331, 9218868437227405312, 396), (7, 333, 9223372036854775807, 397), (7, 335, 9221120237041090560, 398), (7, 113, (-9223372036854775808), 399), (8, 117, 65535, 1130), (8, 119, 9223372036854775807, 1131), (8, 121, 9218868437227405312, 1132), (8, 123, 9221120237041090560, 1133), (8, 100, (-9223372036854775808), 1145), (9, 32, 4294967295, 1441)]
def mw_t_0 : List (Nat × Nat × Nat × Nat) := [(250, 50, 249, 0), (751, 50, 749, 750), (755, 50, 753, 754), (760, 50, 758, 759), (765, 50, 763, 764), (769, 50, 767, 768), (774, 50, 772, 773), (790, 50, 788, 789), (794, 50, 792, 793), (144, 46, 143, 0), (539, 46, 537, 538), (549, 46, 547, 548), (543, 46, 541, 542), (554, 46, 552, 553), (559, 46, 557, 558), (563, 46, 561, 562)]
def mw_t_1 : List (Nat × Nat × Nat × Nat) := [(568, 46, 566, 567), (575, 46, 573, 574), (583, 46, 581, 582), (112, 45, 111, 0), (499, 45, 497, 498), (519, 45, 517, 518), (511, 45, 509, 510), (277, 51, 276, 0), (786, 51, 784, 785), (798, 51, 796, 797), (802, 51, 800, 801), (807, 51, 805, 806), (820, 51, 818, 819), (824, 51, 822, 823), (832, 51, 830, 831), (812, 51, 810, 811)]
def mw_t_2 : List (Nat × Nat × Nat × Nat) := [(903, 51, 901, 902), (862, 51, 860, 861), (866, 51, 864, 865), (871, 51, 869, 870), (875, 51, 873, 874), (879, 51, 877, 878), (883, 51, 881, 882), (891, 51, 889, 890), (895, 51, 893, 894), (159, 47, 158, 0), (611, 47, 609, 610), (615, 47, 613, 614), (621, 47, 619, 620), (626, 47, 624, 625), (631, 47, 629, 630), (635, 47, 633, 634)]
def mw_t_3 : List (Nat × Nat × Nat × Nat) := [(70, 44, 69, 0), (335, 44, 333, 334), (354, 44, 352, 353), (366, 44, 364, 365), (381, 44, 379, 380), (385, 44, 383, 384), (467, 44, 465, 466), (534, 44, 532, 533), (377, 44, 375, 376), (419, 44, 417, 418), (411, 44, 409, 410), (425, 44, 423, 424), (389, 44, 387, 388), (407, 44, 405, 406), (434, 44, 432, 433), (445, 44, 443, 444)]
def mw_t_4 : List (Nat × Nat × Nat × Nat) := [(449, 44, 447, 448), (475, 44, 473, 474), (471, 44, 469, 470), (655, 44, 653, 654), (675, 44, 673, 674), (651, 44, 649, 650), (660, 44, 658, 659), (664, 44, 662, 663), (587, 44, 585, 586), (594, 44, 592, 593), (598, 44, 596, 597), (919, 44, 917, 918), (950, 44, 948, 949), (926, 44, 924, 925), (187, 48, 186, 0), (683, 48, 681, 682)]
def mw_t_5 : List (Nat × Nat × Nat × Nat) := [(507, 48, 505, 506), (911, 48, 909, 910), (691, 48, 689, 690), (700, 48, 698, 699), (696, 48, 694, 695), (709, 48, 707, 708), (729, 48, 727, 728), (725, 48, 723, 724), (721, 48, 719, 720), (743, 48, 741, 742), (853, 48, 851, 852), (828, 48, 826, 827), (61, 43, 60, 0), (328, 43, 326, 327), (339, 43, 337, 338), (343, 43, 341, 342)]
def mw_t_6 : List (Nat × Nat × Nat × Nat) := [(358, 43, 356, 357), (373, 43, 371, 372), (403, 43, 401, 402), (415, 43, 413, 414), (429, 43, 427, 428), (441, 43, 439, 440), (459, 43, 457, 458), (485, 43, 483, 484), (515, 43, 513, 514), (523, 43, 521, 522), (530, 43, 528, 529), (603, 43, 601, 602), (607, 43, 605, 606), (639, 43, 637, 638), (643, 43, 641, 642), (671, 43, 669, 670)]
def mw_t_7 : List (Nat × Nat × Nat × Nat) := [(679, 43, 677, 678), (687, 43, 685, 686), (704, 43, 702, 703), (713, 43, 711, 712), (717, 43, 715, 716), (735, 43, 733, 734), (739, 43, 737, 738), (747, 43, 745, 746), (778, 43, 776, 777), (782, 43, 780, 781), (816, 43, 814, 815), (837, 43, 835, 836), (841, 43, 839, 840), (845, 43, 843, 844), (849, 43, 847, 848), (858, 43, 856, 857)]
def mw_t_8 : List (Nat × Nat × Nat × Nat) := [(899, 43, 897, 898), (907, 43, 905, 906), (915, 43, 913, 914), (933, 43, 931, 932), (955, 43, 953, 954), (959, 43, 957, 958), (362, 43, 361, 1), (347, 43, 346, 0), (647, 43, 646, 3), (503, 43, 502, 2), (331, 43, 330, 0), (350, 43, 349, 0), (463, 43, 462, 0), (481, 43, 480, 0), (590, 43, 589, 0), (491, 43, 490, 0)]
def mw_t_9 : List (Nat × Nat × Nat × Nat) := [(495, 43, 494, 0), (488, 43, 487, 0), (526, 43, 525, 0), (929, 43, 928, 0), (571, 43, 570, 0), (369, 43, 368, 0), (392, 43, 391, 0), (395, 43, 394, 0), (579, 43, 578, 0), (478, 43, 477, 0), (936, 43, 935, 0), (944, 43, 943, 0), (941, 43, 940, 0), (964, 52, 963, 0), (1087, 52, 1086, 0), (1144, 52, 1143, 0)]
def mw_t_10 : List (Nat × Nat × Nat × Nat) := [(1107, 52, 1106, 5), (1111, 52, 1110, 6), (1149, 52, 1148, 9), (1084, 52, 1083, 0), (1099, 52, 1098, 4), (1118, 52, 1117, 0), (1129, 52, 1128, 0), (1235, 52, 1234, 0), (1232, 52, 1231, 0), (1081, 52, 1079, 1080), (1091, 52, 1089, 1090), (1095, 52, 1093, 1094), (1115, 52, 1114, 7), (1103, 52, 1101, 1102), (1126, 52, 1125, 8), (1122, 52, 1120, 1121)]
def mw_t_11 : List (Nat × Nat × Nat × Nat) := [(1137, 52, 1135, 1136), (1141, 52, 1139, 1140), (1156, 52, 1155, 0), (1153, 52, 1151, 1152), (1160, 52, 1158, 1159), (1167, 52, 1166, 0), (1175, 52, 1174, 11), (1183, 52, 1182, 13), (1179, 52, 1178, 12), (1171, 52, 1170, 10), (1164, 52, 1162, 1163), (1190, 52, 1189, 0), (1187, 52, 1185, 1186), (1198, 52, 1197, 14), (1194, 52, 1192, 1193), (1202, 52, 1200, 1201)]
def mw_t_12 : List (Nat × Nat × Nat × Nat) := [(1226, 52, 1225, 19), (1229, 52, 1228, 0), (1222, 52, 1221, 18), (1214, 52, 1213, 16), (1218, 52, 1217, 17), (1210, 52, 1209, 15), (1206, 52, 1204, 1205), (1242, 52, 1240, 1241), (1246, 52, 1244, 1245), (1250, 52, 1248, 1249), (1258, 52, 1257, 20), (1254, 52, 1252, 1253), (1262, 52, 1260, 1261), (1278, 52, 1277, 22), (1274, 52, 1273, 21), (1290, 52, 1289, 25)]
def mw_t_13 : List (Nat × Nat × Nat × Nat) := [(1294, 52, 1293, 26), (1298, 52, 1297, 27), (1266, 52, 1264, 1265), (1286, 52, 1285, 24), (1282, 52, 1281, 23), (1270, 52, 1268, 1269), (1302, 52, 1300, 1301), (1306, 52, 1304, 1305), (1318, 52, 1317, 29), (1314, 52, 1313, 28), (1310, 52, 1308, 1309), (1322, 52, 1320, 1321), (1326, 52, 1324, 1325), (1338, 52, 1337, 31), (1334, 52, 1333, 30), (1330, 52, 1328, 1329)]
def mw_t_14 : List (Nat × Nat × Nat × Nat) := [(1342, 52, 1340, 1341), (1350, 52, 1349, 32), (1346, 52, 1344, 1345), (1358, 52, 1357, 33), (1354, 52, 1352, 1353), (1366, 52, 1365, 34), (1362, 52, 1360, 1361), (1370, 52, 1368, 1369), (1374, 52, 1372, 1373), (1382, 52, 1381, 35), (1378, 52, 1376, 1377), (1394, 52, 1393, 37), (1398, 52, 1397, 38), (1390, 52, 1389, 36), (1386, 52, 1384, 1385), (1406, 52, 1405, 39)]
def mw_t_15 : List (Nat × Nat × Nat × Nat) := [(1402, 52, 1400, 1401), (1410, 52, 1408, 1409), (1417, 52, 1416, 0), (1420, 52, 1419, 0), (1424, 52, 1423, 40), (1414, 52, 1412, 1413), (1432, 52, 1431, 41), (1428, 52, 1426, 1427), (1436, 52, 1434, 1435), (1440, 52, 1438, 1439), (452, 54, 451, 0), (191, 49, 190, 0)]
def mw_t_g : List (List (Nat × Nat × Nat × Nat)) := [mw_t_0, mw_t_1, mw_t_2, mw_t_3, mw_t_4, mw_t_5, mw_t_6, mw_t_7, mw_t_8, mw_t_9, mw_t_10, mw_t_11, mw_t_12, mw_t_13, mw_t_14, mw_t_15]
def cw_t : List (Nat × Nat) := [(247, 50), (141, 46), (109, 45), (274, 51), (156, 47), (67, 44), (184, 48), (58, 43), (961, 52)]
