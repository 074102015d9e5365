section
-- ===== PART A: goes FIRST, ahead of the names: the tables' words, and 'selects' of the private methods out of them =====
/-- a private method of a class that the tables say can be made, by its rows of tables_1 -/
def lw_okq (q : MethodName × Nat) : Prop := (q.1.cls ≠ "java/lang/invoke/MethodHandle" ∧ q.1.cls ≠ "java/lang/invoke/VarHandle") ∧ Cond.instantiable q.1.cls q.2 ∈ tables_1 ∧ Cond.privateMethod q.1 ∈ tables_1 ∧ Cond.instanceMethod q.1 ∈ tables_1
theorem lw_p0 : lw_okq (⟨"WhileSheLooks", "allSeenIsSo", "()Z"⟩, 14) := ⟨⟨by decide +kernel, by decide +kernel⟩, List.mem_of_getElem? (i := 23) (by decide +kernel), List.mem_of_getElem? (i := 737) (by decide +kernel), List.mem_of_getElem? (i := 738) (by decide +kernel)⟩
theorem lw_p1 : lw_okq (⟨"WhileSheLooksModel", "in", "(III)Z"⟩, 74) := ⟨⟨by decide +kernel, by decide +kernel⟩, List.mem_of_getElem? (i := 901) (by decide +kernel), List.mem_of_getElem? (i := 1135) (by decide +kernel), List.mem_of_getElem? (i := 1136) (by decide +kernel)⟩
theorem lw_p2 : lw_okq (⟨"WhileSheLooksModel", "isChild", "(I)Z"⟩, 74) := ⟨⟨by decide +kernel, by decide +kernel⟩, List.mem_of_getElem? (i := 901) (by decide +kernel), List.mem_of_getElem? (i := 1143) (by decide +kernel), List.mem_of_getElem? (i := 1144) (by decide +kernel)⟩
theorem lw_p3 : lw_okq (⟨"WhileSheLooksModel", "far", "()I"⟩, 74) := ⟨⟨by decide +kernel, by decide +kernel⟩, List.mem_of_getElem? (i := 901) (by decide +kernel), List.mem_of_getElem? (i := 1147) (by decide +kernel), List.mem_of_getElem? (i := 1148) (by decide +kernel)⟩
theorem lw_p4 : lw_okq (⟨"WhileSheLooksModel", "lastOf", "(II)I"⟩, 74) := ⟨⟨by decide +kernel, by decide +kernel⟩, List.mem_of_getElem? (i := 901) (by decide +kernel), List.mem_of_getElem? (i := 1151) (by decide +kernel), List.mem_of_getElem? (i := 1152) (by decide +kernel)⟩
theorem lw_p5 : lw_okq (⟨"WhileSheLooksModel", "begin", "()I"⟩, 74) := ⟨⟨by decide +kernel, by decide +kernel⟩, List.mem_of_getElem? (i := 901) (by decide +kernel), List.mem_of_getElem? (i := 1155) (by decide +kernel), List.mem_of_getElem? (i := 1156) (by decide +kernel)⟩
theorem lw_p6 : lw_okq (⟨"WhileSheLooksModel", "behind", "()I"⟩, 74) := ⟨⟨by decide +kernel, by decide +kernel⟩, List.mem_of_getElem? (i := 901) (by decide +kernel), List.mem_of_getElem? (i := 1159) (by decide +kernel), List.mem_of_getElem? (i := 1160) (by decide +kernel)⟩
theorem lw_p7 : lw_okq (⟨"WhileSheLooksModel", "goesText", "(I)Z"⟩, 74) := ⟨⟨by decide +kernel, by decide +kernel⟩, List.mem_of_getElem? (i := 901) (by decide +kernel), List.mem_of_getElem? (i := 1179) (by decide +kernel), List.mem_of_getElem? (i := 1180) (by decide +kernel)⟩
theorem lw_p8 : lw_okq (⟨"WhileSheLooksModel", "takesClause", "(I)Z"⟩, 74) := ⟨⟨by decide +kernel, by decide +kernel⟩, List.mem_of_getElem? (i := 901) (by decide +kernel), List.mem_of_getElem? (i := 1183) (by decide +kernel), List.mem_of_getElem? (i := 1184) (by decide +kernel)⟩
theorem lw_p9 : lw_okq (⟨"WhileSheLooksModel", "takesHead", "(I)Z"⟩, 74) := ⟨⟨by decide +kernel, by decide +kernel⟩, List.mem_of_getElem? (i := 901) (by decide +kernel), List.mem_of_getElem? (i := 1187) (by decide +kernel), List.mem_of_getElem? (i := 1188) (by decide +kernel)⟩
theorem lw_p10 : lw_okq (⟨"WhileSheLooksModel", "next", "()I"⟩, 74) := ⟨⟨by decide +kernel, by decide +kernel⟩, List.mem_of_getElem? (i := 901) (by decide +kernel), List.mem_of_getElem? (i := 1191) (by decide +kernel), List.mem_of_getElem? (i := 1192) (by decide +kernel)⟩
theorem lw_p11 : lw_okq (⟨"WhileSheLooksModel", "takesWord", "(II)Z"⟩, 74) := ⟨⟨by decide +kernel, by decide +kernel⟩, List.mem_of_getElem? (i := 901) (by decide +kernel), List.mem_of_getElem? (i := 1195) (by decide +kernel), List.mem_of_getElem? (i := 1196) (by decide +kernel)⟩
theorem lw_p12 : lw_okq (⟨"WhileSheLooksModel", "takes", "(I)Z"⟩, 74) := ⟨⟨by decide +kernel, by decide +kernel⟩, List.mem_of_getElem? (i := 901) (by decide +kernel), List.mem_of_getElem? (i := 1199) (by decide +kernel), List.mem_of_getElem? (i := 1200) (by decide +kernel)⟩
theorem lw_p13 : lw_okq (⟨"WhileSheLooksModel", "second", "()I"⟩, 74) := ⟨⟨by decide +kernel, by decide +kernel⟩, List.mem_of_getElem? (i := 901) (by decide +kernel), List.mem_of_getElem? (i := 1203) (by decide +kernel), List.mem_of_getElem? (i := 1204) (by decide +kernel)⟩
theorem lw_p14 : lw_okq (⟨"WhileSheLooksModel", "takesNumber", "()Z"⟩, 74) := ⟨⟨by decide +kernel, by decide +kernel⟩, List.mem_of_getElem? (i := 901) (by decide +kernel), List.mem_of_getElem? (i := 1207) (by decide +kernel), List.mem_of_getElem? (i := 1208) (by decide +kernel)⟩
theorem lw_p15 : lw_okq (⟨"WhileSheLooksModel", "isDigit", "()Z"⟩, 74) := ⟨⟨by decide +kernel, by decide +kernel⟩, List.mem_of_getElem? (i := 901) (by decide +kernel), List.mem_of_getElem? (i := 1211) (by decide +kernel), List.mem_of_getElem? (i := 1212) (by decide +kernel)⟩
def lw_privs_1 : List (MethodName × Nat) := [(⟨"WhileSheLooks", "allSeenIsSo", "()Z"⟩, 14), (⟨"WhileSheLooksModel", "in", "(III)Z"⟩, 74), (⟨"WhileSheLooksModel", "isChild", "(I)Z"⟩, 74), (⟨"WhileSheLooksModel", "far", "()I"⟩, 74), (⟨"WhileSheLooksModel", "lastOf", "(II)I"⟩, 74), (⟨"WhileSheLooksModel", "begin", "()I"⟩, 74), (⟨"WhileSheLooksModel", "behind", "()I"⟩, 74), (⟨"WhileSheLooksModel", "goesText", "(I)Z"⟩, 74), (⟨"WhileSheLooksModel", "takesClause", "(I)Z"⟩, 74), (⟨"WhileSheLooksModel", "takesHead", "(I)Z"⟩, 74), (⟨"WhileSheLooksModel", "next", "()I"⟩, 74), (⟨"WhileSheLooksModel", "takesWord", "(II)Z"⟩, 74), (⟨"WhileSheLooksModel", "takes", "(I)Z"⟩, 74), (⟨"WhileSheLooksModel", "second", "()I"⟩, 74), (⟨"WhileSheLooksModel", "takesNumber", "()Z"⟩, 74), (⟨"WhileSheLooksModel", "isDigit", "()Z"⟩, 74)]
theorem lw_r1 : ∀ q ∈ lw_privs_1, lw_okq q := List.forall_mem_cons.mpr ⟨lw_p0, List.forall_mem_cons.mpr ⟨lw_p1, List.forall_mem_cons.mpr ⟨lw_p2, List.forall_mem_cons.mpr ⟨lw_p3, List.forall_mem_cons.mpr ⟨lw_p4, List.forall_mem_cons.mpr ⟨lw_p5, List.forall_mem_cons.mpr ⟨lw_p6, List.forall_mem_cons.mpr ⟨lw_p7, List.forall_mem_cons.mpr ⟨lw_p8, List.forall_mem_cons.mpr ⟨lw_p9, List.forall_mem_cons.mpr ⟨lw_p10, List.forall_mem_cons.mpr ⟨lw_p11, List.forall_mem_cons.mpr ⟨lw_p12, List.forall_mem_cons.mpr ⟨lw_p13, List.forall_mem_cons.mpr ⟨lw_p14, List.forall_mem_cons.mpr ⟨lw_p15, fun _ h => absurd h List.not_mem_nil⟩⟩⟩⟩⟩⟩⟩⟩⟩⟩⟩⟩⟩⟩⟩⟩
theorem lw_p16 : lw_okq (⟨"WhileSheLooksModel", "takesE", "(I)Z"⟩, 74) := ⟨⟨by decide +kernel, by decide +kernel⟩, List.mem_of_getElem? (i := 901) (by decide +kernel), List.mem_of_getElem? (i := 1215) (by decide +kernel), List.mem_of_getElem? (i := 1216) (by decide +kernel)⟩
theorem lw_p17 : lw_okq (⟨"WhileSheLooksModel", "takesTest", "()Z"⟩, 74) := ⟨⟨by decide +kernel, by decide +kernel⟩, List.mem_of_getElem? (i := 901) (by decide +kernel), List.mem_of_getElem? (i := 1219) (by decide +kernel), List.mem_of_getElem? (i := 1220) (by decide +kernel)⟩
theorem lw_p18 : lw_okq (⟨"WhileSheLooksModel", "place", "(I)I"⟩, 74) := ⟨⟨by decide +kernel, by decide +kernel⟩, List.mem_of_getElem? (i := 901) (by decide +kernel), List.mem_of_getElem? (i := 1223) (by decide +kernel), List.mem_of_getElem? (i := 1224) (by decide +kernel)⟩
theorem lw_p19 : lw_okq (⟨"WhileSheLooksModel", "emits", "(I)V"⟩, 74) := ⟨⟨by decide +kernel, by decide +kernel⟩, List.mem_of_getElem? (i := 901) (by decide +kernel), List.mem_of_getElem? (i := 1227) (by decide +kernel), List.mem_of_getElem? (i := 1228) (by decide +kernel)⟩
theorem lw_p20 : lw_okq (⟨"WhileSheLooksModel", "whole", "()V"⟩, 74) := ⟨⟨by decide +kernel, by decide +kernel⟩, List.mem_of_getElem? (i := 901) (by decide +kernel), List.mem_of_getElem? (i := 1231) (by decide +kernel), List.mem_of_getElem? (i := 1232) (by decide +kernel)⟩
theorem lw_p21 : lw_okq (⟨"WhileSheLooksModel", "settle", "(I)V"⟩, 74) := ⟨⟨by decide +kernel, by decide +kernel⟩, List.mem_of_getElem? (i := 901) (by decide +kernel), List.mem_of_getElem? (i := 1235) (by decide +kernel), List.mem_of_getElem? (i := 1236) (by decide +kernel)⟩
theorem lw_p22 : lw_okq (⟨"WhileSheLooksModel", "has", "(II)Z"⟩, 74) := ⟨⟨by decide +kernel, by decide +kernel⟩, List.mem_of_getElem? (i := 901) (by decide +kernel), List.mem_of_getElem? (i := 1243) (by decide +kernel), List.mem_of_getElem? (i := 1244) (by decide +kernel)⟩
theorem lw_p23 : lw_okq (⟨"WhileSheLooksModel", "pace", "(I)I"⟩, 74) := ⟨⟨by decide +kernel, by decide +kernel⟩, List.mem_of_getElem? (i := 901) (by decide +kernel), List.mem_of_getElem? (i := 1247) (by decide +kernel), List.mem_of_getElem? (i := 1248) (by decide +kernel)⟩
theorem lw_p24 : lw_okq (⟨"WhileSheLooksModel", "goes", "(I)I"⟩, 74) := ⟨⟨by decide +kernel, by decide +kernel⟩, List.mem_of_getElem? (i := 901) (by decide +kernel), List.mem_of_getElem? (i := 1251) (by decide +kernel), List.mem_of_getElem? (i := 1252) (by decide +kernel)⟩
theorem lw_p25 : lw_okq (⟨"WhileSheLooksModel", "countNow", "()I"⟩, 74) := ⟨⟨by decide +kernel, by decide +kernel⟩, List.mem_of_getElem? (i := 901) (by decide +kernel), List.mem_of_getElem? (i := 1255) (by decide +kernel), List.mem_of_getElem? (i := 1256) (by decide +kernel)⟩
theorem lw_p26 : lw_okq (⟨"WhileSheLooksModel", "wobbles", "(I)I"⟩, 74) := ⟨⟨by decide +kernel, by decide +kernel⟩, List.mem_of_getElem? (i := 901) (by decide +kernel), List.mem_of_getElem? (i := 1259) (by decide +kernel), List.mem_of_getElem? (i := 1260) (by decide +kernel)⟩
theorem lw_p27 : lw_okq (⟨"WhileSheLooksModel", "shake", "(I)I"⟩, 74) := ⟨⟨by decide +kernel, by decide +kernel⟩, List.mem_of_getElem? (i := 901) (by decide +kernel), List.mem_of_getElem? (i := 1263) (by decide +kernel), List.mem_of_getElem? (i := 1264) (by decide +kernel)⟩
theorem lw_p28 : lw_okq (⟨"WhileSheLooksModel", "holds", "(II)Z"⟩, 74) := ⟨⟨by decide +kernel, by decide +kernel⟩, List.mem_of_getElem? (i := 901) (by decide +kernel), List.mem_of_getElem? (i := 1267) (by decide +kernel), List.mem_of_getElem? (i := 1268) (by decide +kernel)⟩
theorem lw_p29 : lw_okq (⟨"WhileSheLooksModel", "factOf", "(II)I"⟩, 74) := ⟨⟨by decide +kernel, by decide +kernel⟩, List.mem_of_getElem? (i := 901) (by decide +kernel), List.mem_of_getElem? (i := 1271) (by decide +kernel), List.mem_of_getElem? (i := 1272) (by decide +kernel)⟩
theorem lw_p30 : lw_okq (⟨"WhileSheLooksModel", "least0", "(I)I"⟩, 74) := ⟨⟨by decide +kernel, by decide +kernel⟩, List.mem_of_getElem? (i := 901) (by decide +kernel), List.mem_of_getElem? (i := 1275) (by decide +kernel), List.mem_of_getElem? (i := 1276) (by decide +kernel)⟩
theorem lw_p31 : lw_okq (⟨"WhileSheLooksModel", "sharp", "()I"⟩, 74) := ⟨⟨by decide +kernel, by decide +kernel⟩, List.mem_of_getElem? (i := 901) (by decide +kernel), List.mem_of_getElem? (i := 1283) (by decide +kernel), List.mem_of_getElem? (i := 1284) (by decide +kernel)⟩
def lw_privs_2 : List (MethodName × Nat) := [(⟨"WhileSheLooksModel", "takesE", "(I)Z"⟩, 74), (⟨"WhileSheLooksModel", "takesTest", "()Z"⟩, 74), (⟨"WhileSheLooksModel", "place", "(I)I"⟩, 74), (⟨"WhileSheLooksModel", "emits", "(I)V"⟩, 74), (⟨"WhileSheLooksModel", "whole", "()V"⟩, 74), (⟨"WhileSheLooksModel", "settle", "(I)V"⟩, 74), (⟨"WhileSheLooksModel", "has", "(II)Z"⟩, 74), (⟨"WhileSheLooksModel", "pace", "(I)I"⟩, 74), (⟨"WhileSheLooksModel", "goes", "(I)I"⟩, 74), (⟨"WhileSheLooksModel", "countNow", "()I"⟩, 74), (⟨"WhileSheLooksModel", "wobbles", "(I)I"⟩, 74), (⟨"WhileSheLooksModel", "shake", "(I)I"⟩, 74), (⟨"WhileSheLooksModel", "holds", "(II)Z"⟩, 74), (⟨"WhileSheLooksModel", "factOf", "(II)I"⟩, 74), (⟨"WhileSheLooksModel", "least0", "(I)I"⟩, 74), (⟨"WhileSheLooksModel", "sharp", "()I"⟩, 74)]
theorem lw_r2 : ∀ q ∈ lw_privs_2, lw_okq q := List.forall_mem_cons.mpr ⟨lw_p16, List.forall_mem_cons.mpr ⟨lw_p17, List.forall_mem_cons.mpr ⟨lw_p18, List.forall_mem_cons.mpr ⟨lw_p19, List.forall_mem_cons.mpr ⟨lw_p20, List.forall_mem_cons.mpr ⟨lw_p21, List.forall_mem_cons.mpr ⟨lw_p22, List.forall_mem_cons.mpr ⟨lw_p23, List.forall_mem_cons.mpr ⟨lw_p24, List.forall_mem_cons.mpr ⟨lw_p25, List.forall_mem_cons.mpr ⟨lw_p26, List.forall_mem_cons.mpr ⟨lw_p27, List.forall_mem_cons.mpr ⟨lw_p28, List.forall_mem_cons.mpr ⟨lw_p29, List.forall_mem_cons.mpr ⟨lw_p30, List.forall_mem_cons.mpr ⟨lw_p31, fun _ h => absurd h List.not_mem_nil⟩⟩⟩⟩⟩⟩⟩⟩⟩⟩⟩⟩⟩⟩⟩⟩
theorem lw_p32 : lw_okq (⟨"WhileSheLooksModel", "sees", "()I"⟩, 74) := ⟨⟨by decide +kernel, by decide +kernel⟩, List.mem_of_getElem? (i := 901) (by decide +kernel), List.mem_of_getElem? (i := 1287) (by decide +kernel), List.mem_of_getElem? (i := 1288) (by decide +kernel)⟩
theorem lw_p33 : lw_okq (⟨"WhileSheLooksModel", "goTurn", "()I"⟩, 74) := ⟨⟨by decide +kernel, by decide +kernel⟩, List.mem_of_getElem? (i := 901) (by decide +kernel), List.mem_of_getElem? (i := 1295) (by decide +kernel), List.mem_of_getElem? (i := 1296) (by decide +kernel)⟩
theorem lw_p34 : lw_okq (⟨"WhileSheLooksModel", "ahead", "(I)I"⟩, 74) := ⟨⟨by decide +kernel, by decide +kernel⟩, List.mem_of_getElem? (i := 901) (by decide +kernel), List.mem_of_getElem? (i := 1299) (by decide +kernel), List.mem_of_getElem? (i := 1300) (by decide +kernel)⟩
theorem lw_p35 : lw_okq (⟨"WhileSheLooksModel", "lay", "(I)V"⟩, 74) := ⟨⟨by decide +kernel, by decide +kernel⟩, List.mem_of_getElem? (i := 901) (by decide +kernel), List.mem_of_getElem? (i := 1307) (by decide +kernel), List.mem_of_getElem? (i := 1308) (by decide +kernel)⟩
theorem lw_p36 : lw_okq (⟨"WhileSheLooksModel", "save", "()V"⟩, 74) := ⟨⟨by decide +kernel, by decide +kernel⟩, List.mem_of_getElem? (i := 901) (by decide +kernel), List.mem_of_getElem? (i := 1311) (by decide +kernel), List.mem_of_getElem? (i := 1312) (by decide +kernel)⟩
theorem lw_p37 : lw_okq (⟨"WhileSheLooksModel", "putBack", "()V"⟩, 74) := ⟨⟨by decide +kernel, by decide +kernel⟩, List.mem_of_getElem? (i := 901) (by decide +kernel), List.mem_of_getElem? (i := 1316) (by decide +kernel), List.mem_of_getElem? (i := 1317) (by decide +kernel)⟩
theorem lw_p38 : lw_okq (⟨"WhileSheLooksModel", "ones", "(I)I"⟩, 74) := ⟨⟨by decide +kernel, by decide +kernel⟩, List.mem_of_getElem? (i := 901) (by decide +kernel), List.mem_of_getElem? (i := 1320) (by decide +kernel), List.mem_of_getElem? (i := 1321) (by decide +kernel)⟩
theorem lw_p39 : lw_okq (⟨"WhileSheLooksModel", "touchesOf", "(I)I"⟩, 74) := ⟨⟨by decide +kernel, by decide +kernel⟩, List.mem_of_getElem? (i := 901) (by decide +kernel), List.mem_of_getElem? (i := 1328) (by decide +kernel), List.mem_of_getElem? (i := 1329) (by decide +kernel)⟩
theorem lw_p40 : lw_okq (⟨"WhileSheLooksModel", "keepCounts", "()V"⟩, 74) := ⟨⟨by decide +kernel, by decide +kernel⟩, List.mem_of_getElem? (i := 901) (by decide +kernel), List.mem_of_getElem? (i := 1348) (by decide +kernel), List.mem_of_getElem? (i := 1349) (by decide +kernel)⟩
theorem lw_p41 : lw_okq (⟨"WhileSheLooksModel", "wallBehind", "(I)I"⟩, 74) := ⟨⟨by decide +kernel, by decide +kernel⟩, List.mem_of_getElem? (i := 901) (by decide +kernel), List.mem_of_getElem? (i := 1352) (by decide +kernel), List.mem_of_getElem? (i := 1353) (by decide +kernel)⟩
theorem lw_p42 : lw_okq (⟨"WhileSheLooksModel", "putCounts", "()V"⟩, 74) := ⟨⟨by decide +kernel, by decide +kernel⟩, List.mem_of_getElem? (i := 901) (by decide +kernel), List.mem_of_getElem? (i := 1356) (by decide +kernel), List.mem_of_getElem? (i := 1357) (by decide +kernel)⟩
theorem lw_p43 : lw_okq (⟨"WhileSheLooksModel", "comeBy", "(III)I"⟩, 74) := ⟨⟨by decide +kernel, by decide +kernel⟩, List.mem_of_getElem? (i := 901) (by decide +kernel), List.mem_of_getElem? (i := 1376) (by decide +kernel), List.mem_of_getElem? (i := 1377) (by decide +kernel)⟩
theorem lw_p44 : lw_okq (⟨"WhileSheLooksModel", "isSeen", "()Z"⟩, 74) := ⟨⟨by decide +kernel, by decide +kernel⟩, List.mem_of_getElem? (i := 901) (by decide +kernel), List.mem_of_getElem? (i := 1392) (by decide +kernel), List.mem_of_getElem? (i := 1393) (by decide +kernel)⟩
theorem lw_p45 : lw_okq (⟨"WhileSheLooksModel", "lowest", "(III)J"⟩, 74) := ⟨⟨by decide +kernel, by decide +kernel⟩, List.mem_of_getElem? (i := 901) (by decide +kernel), List.mem_of_getElem? (i := 1405) (by decide +kernel), List.mem_of_getElem? (i := 1406) (by decide +kernel)⟩
theorem lw_p46 : lw_okq (⟨"WhileSheLooksModel", "divisor", "(II)I"⟩, 74) := ⟨⟨by decide +kernel, by decide +kernel⟩, List.mem_of_getElem? (i := 901) (by decide +kernel), List.mem_of_getElem? (i := 1409) (by decide +kernel), List.mem_of_getElem? (i := 1410) (by decide +kernel)⟩
theorem lw_p47 : lw_okq (⟨"WhileSheLooksModel", "isTape", "(I)Z"⟩, 74) := ⟨⟨by decide +kernel, by decide +kernel⟩, List.mem_of_getElem? (i := 901) (by decide +kernel), List.mem_of_getElem? (i := 1429) (by decide +kernel), List.mem_of_getElem? (i := 1430) (by decide +kernel)⟩
def lw_privs_3 : List (MethodName × Nat) := [(⟨"WhileSheLooksModel", "sees", "()I"⟩, 74), (⟨"WhileSheLooksModel", "goTurn", "()I"⟩, 74), (⟨"WhileSheLooksModel", "ahead", "(I)I"⟩, 74), (⟨"WhileSheLooksModel", "lay", "(I)V"⟩, 74), (⟨"WhileSheLooksModel", "save", "()V"⟩, 74), (⟨"WhileSheLooksModel", "putBack", "()V"⟩, 74), (⟨"WhileSheLooksModel", "ones", "(I)I"⟩, 74), (⟨"WhileSheLooksModel", "touchesOf", "(I)I"⟩, 74), (⟨"WhileSheLooksModel", "keepCounts", "()V"⟩, 74), (⟨"WhileSheLooksModel", "wallBehind", "(I)I"⟩, 74), (⟨"WhileSheLooksModel", "putCounts", "()V"⟩, 74), (⟨"WhileSheLooksModel", "comeBy", "(III)I"⟩, 74), (⟨"WhileSheLooksModel", "isSeen", "()Z"⟩, 74), (⟨"WhileSheLooksModel", "lowest", "(III)J"⟩, 74), (⟨"WhileSheLooksModel", "divisor", "(II)I"⟩, 74), (⟨"WhileSheLooksModel", "isTape", "(I)Z"⟩, 74)]
theorem lw_r3 : ∀ q ∈ lw_privs_3, lw_okq q := List.forall_mem_cons.mpr ⟨lw_p32, List.forall_mem_cons.mpr ⟨lw_p33, List.forall_mem_cons.mpr ⟨lw_p34, List.forall_mem_cons.mpr ⟨lw_p35, List.forall_mem_cons.mpr ⟨lw_p36, List.forall_mem_cons.mpr ⟨lw_p37, List.forall_mem_cons.mpr ⟨lw_p38, List.forall_mem_cons.mpr ⟨lw_p39, List.forall_mem_cons.mpr ⟨lw_p40, List.forall_mem_cons.mpr ⟨lw_p41, List.forall_mem_cons.mpr ⟨lw_p42, List.forall_mem_cons.mpr ⟨lw_p43, List.forall_mem_cons.mpr ⟨lw_p44, List.forall_mem_cons.mpr ⟨lw_p45, List.forall_mem_cons.mpr ⟨lw_p46, List.forall_mem_cons.mpr ⟨lw_p47, fun _ h => absurd h List.not_mem_nil⟩⟩⟩⟩⟩⟩⟩⟩⟩⟩⟩⟩⟩⟩⟩⟩
theorem lw_p48 : lw_okq (⟨"WhileSheLooksModel", "runsAct", "(II)I"⟩, 74) := ⟨⟨by decide +kernel, by decide +kernel⟩, List.mem_of_getElem? (i := 901) (by decide +kernel), List.mem_of_getElem? (i := 1445) (by decide +kernel), List.mem_of_getElem? (i := 1446) (by decide +kernel)⟩
theorem lw_p49 : lw_okq (⟨"WhileSheLooksModel", "body", "(I)V"⟩, 74) := ⟨⟨by decide +kernel, by decide +kernel⟩, List.mem_of_getElem? (i := 901) (by decide +kernel), List.mem_of_getElem? (i := 1449) (by decide +kernel), List.mem_of_getElem? (i := 1450) (by decide +kernel)⟩
theorem lw_p50 : lw_okq (⟨"WhileSheLooksModel", "childRuns", "(II)I"⟩, 74) := ⟨⟨by decide +kernel, by decide +kernel⟩, List.mem_of_getElem? (i := 901) (by decide +kernel), List.mem_of_getElem? (i := 1453) (by decide +kernel), List.mem_of_getElem? (i := 1454) (by decide +kernel)⟩
theorem lw_p51 : lw_okq (⟨"WhileSheLooksModel", "standsAct", "(II)I"⟩, 74) := ⟨⟨by decide +kernel, by decide +kernel⟩, List.mem_of_getElem? (i := 901) (by decide +kernel), List.mem_of_getElem? (i := 1457) (by decide +kernel), List.mem_of_getElem? (i := 1458) (by decide +kernel)⟩
theorem lw_p52 : lw_okq (⟨"WhileSheLooksModel", "quickStands", "(II)I"⟩, 74) := ⟨⟨by decide +kernel, by decide +kernel⟩, List.mem_of_getElem? (i := 901) (by decide +kernel), List.mem_of_getElem? (i := 1461) (by decide +kernel), List.mem_of_getElem? (i := 1462) (by decide +kernel)⟩
theorem lw_p53 : lw_okq (⟨"WhileSheLooksModel", "childStands", "(II)I"⟩, 74) := ⟨⟨by decide +kernel, by decide +kernel⟩, List.mem_of_getElem? (i := 901) (by decide +kernel), List.mem_of_getElem? (i := 1465) (by decide +kernel), List.mem_of_getElem? (i := 1466) (by decide +kernel)⟩
theorem lw_p54 : lw_okq (⟨"WhileSheLooksModel", "tellsAct", "(II)I"⟩, 74) := ⟨⟨by decide +kernel, by decide +kernel⟩, List.mem_of_getElem? (i := 901) (by decide +kernel), List.mem_of_getElem? (i := 1469) (by decide +kernel), List.mem_of_getElem? (i := 1470) (by decide +kernel)⟩
theorem lw_p55 : lw_okq (⟨"WhileSheLooksModel", "childTells", "(II)I"⟩, 74) := ⟨⟨by decide +kernel, by decide +kernel⟩, List.mem_of_getElem? (i := 901) (by decide +kernel), List.mem_of_getElem? (i := 1473) (by decide +kernel), List.mem_of_getElem? (i := 1474) (by decide +kernel)⟩
theorem lw_p56 : lw_okq (⟨"WhileSheLooksModel", "narrow", "(IJ)J"⟩, 74) := ⟨⟨by decide +kernel, by decide +kernel⟩, List.mem_of_getElem? (i := 901) (by decide +kernel), List.mem_of_getElem? (i := 1497) (by decide +kernel), List.mem_of_getElem? (i := 1498) (by decide +kernel)⟩
def lw_privs_4 : List (MethodName × Nat) := [(⟨"WhileSheLooksModel", "runsAct", "(II)I"⟩, 74), (⟨"WhileSheLooksModel", "body", "(I)V"⟩, 74), (⟨"WhileSheLooksModel", "childRuns", "(II)I"⟩, 74), (⟨"WhileSheLooksModel", "standsAct", "(II)I"⟩, 74), (⟨"WhileSheLooksModel", "quickStands", "(II)I"⟩, 74), (⟨"WhileSheLooksModel", "childStands", "(II)I"⟩, 74), (⟨"WhileSheLooksModel", "tellsAct", "(II)I"⟩, 74), (⟨"WhileSheLooksModel", "childTells", "(II)I"⟩, 74), (⟨"WhileSheLooksModel", "narrow", "(IJ)J"⟩, 74)]
theorem lw_r4 : ∀ q ∈ lw_privs_4, lw_okq q := List.forall_mem_cons.mpr ⟨lw_p48, List.forall_mem_cons.mpr ⟨lw_p49, List.forall_mem_cons.mpr ⟨lw_p50, List.forall_mem_cons.mpr ⟨lw_p51, List.forall_mem_cons.mpr ⟨lw_p52, List.forall_mem_cons.mpr ⟨lw_p53, List.forall_mem_cons.mpr ⟨lw_p54, List.forall_mem_cons.mpr ⟨lw_p55, List.forall_mem_cons.mpr ⟨lw_p56, fun _ h => absurd h List.not_mem_nil⟩⟩⟩⟩⟩⟩⟩⟩⟩
def lw_privs : List (MethodName × Nat) := lw_privs_1 ++ (lw_privs_2 ++ (lw_privs_3 ++ (lw_privs_4)))
def lw_tbl : List Cond := k2_sels lw_privs ++ tables_1
theorem lw_privs_ok : ∀ q ∈ lw_privs, lw_okq q := by
  show ∀ q ∈ lw_privs_1 ++ (lw_privs_2 ++ (lw_privs_3 ++ (lw_privs_4))), lw_okq q
  exact List.forall_mem_append.mpr ⟨lw_r1, List.forall_mem_append.mpr ⟨lw_r2, List.forall_mem_append.mpr ⟨lw_r3, lw_r4⟩⟩⟩
end
section
def RX0 : String := "WhileSheLooks$Acts"
def TX0 : u_T := fun k => match k with
  | 0 => ("WhileSheLooks$Acts", "bodies", "[I", true)
  | 1 => ("WhileSheLooks$Acts", "ran", "I", false)
  | 2 => ("WhileSheLooks$Acts", "number", "I", false)
  | _ => ("WhileSheLooks$Acts", "v", "I", false)
def tyX0 : Nat → FieldType := fun k => match k with
  | 0 => .array .int
  | 1 => .int
  | 2 => .int
  | _ => .int
abbrev wsX00 : List Cond := u_ws RX0 TX0 4
theorem nmX0 : ∀ a, a < 4 → ∀ b, b < 4 → a ≠ b → (TX0 a).2.1 ≠ (TX0 b).2.1 := by decide +kernel
theorem tyX0_ok : ∀ k, k < 4 → parseFieldDescriptor (TX0 k).2.2.1 = some (tyX0 k) := by decide +kernel
abbrev cX0_init : ByteArray := prog_2_method_1_code
def yX0_init : MethodName := ⟨RX0, "<init>", "()V"⟩
abbrev cX0_begin : ByteArray := prog_2_method_2_code
def yX0_begin : MethodName := ⟨RX0, "begin", "(I)V"⟩
def RX1 : String := "WhileSheLooks$Careful"
def TX1 : u_T := fun k => match k with
  | _ => ("", "", "", false)
def tyX1 : Nat → FieldType := fun k => match k with
  | _ => .int
abbrev wsX10 : List Cond := u_ws RX1 TX1 0
theorem nmX1 : ∀ a, a < 0 → ∀ b, b < 0 → a ≠ b → (TX1 a).2.1 ≠ (TX1 b).2.1 := by decide +kernel
theorem tyX1_ok : ∀ k, k < 0 → parseFieldDescriptor (TX1 k).2.2.1 = some (tyX1 k) := by decide +kernel
abbrev cX1_init : ByteArray := prog_3_method_1_code
def yX1_init : MethodName := ⟨RX1, "<init>", "()V"⟩
abbrev cX1_paceOf : ByteArray := prog_3_method_2_code
def yX1_paceOf : MethodName := ⟨RX1, "paceOf", "(II)I"⟩
abbrev cX1_wobblesOf : ByteArray := prog_3_method_3_code
def yX1_wobblesOf : MethodName := ⟨RX1, "wobblesOf", "(IIIII)I"⟩
abbrev cX1_telling : ByteArray := prog_3_method_4_code
def yX1_telling : MethodName := ⟨RX1, "telling", "(LWhileSheLooks$Acts;I)I"⟩
def RX2 : String := "WhileSheLooks$Child"
def TX2 : u_T := fun k => match k with
  | _ => ("", "", "", false)
def tyX2 : Nat → FieldType := fun k => match k with
  | _ => .int
abbrev wsX20 : List Cond := u_ws RX2 TX2 0
theorem nmX2 : ∀ a, a < 0 → ∀ b, b < 0 → a ≠ b → (TX2 a).2.1 ≠ (TX2 b).2.1 := by decide +kernel
theorem tyX2_ok : ∀ k, k < 0 → parseFieldDescriptor (TX2 k).2.2.1 = some (tyX2 k) := by decide +kernel
abbrev cX2_init : ByteArray := prog_4_method_1_code
def yX2_init : MethodName := ⟨RX2, "<init>", "()V"⟩
abbrev cX2_paceOf : ByteArray := prog_4_method_2_code
def yX2_paceOf : MethodName := ⟨RX2, "paceOf", "(II)I"⟩
abbrev cX2_wobblesOf : ByteArray := prog_4_method_3_code
def yX2_wobblesOf : MethodName := ⟨RX2, "wobblesOf", "(IIIII)I"⟩
abbrev cX2_running : ByteArray := prog_4_method_4_code
def yX2_running : MethodName := ⟨RX2, "running", "(LWhileSheLooks$Acts;I)I"⟩
abbrev cX2_standing : ByteArray := prog_4_method_5_code
def yX2_standing : MethodName := ⟨RX2, "standing", "(LWhileSheLooks$Acts;I)I"⟩
abbrev cX2_telling : ByteArray := prog_4_method_6_code
def yX2_telling : MethodName := ⟨RX2, "telling", "(LWhileSheLooks$Acts;I)I"⟩
def RX3 : String := "WhileSheLooks$Quick"
def TX3 : u_T := fun k => match k with
  | _ => ("", "", "", false)
def tyX3 : Nat → FieldType := fun k => match k with
  | _ => .int
abbrev wsX30 : List Cond := u_ws RX3 TX3 0
theorem nmX3 : ∀ a, a < 0 → ∀ b, b < 0 → a ≠ b → (TX3 a).2.1 ≠ (TX3 b).2.1 := by decide +kernel
theorem tyX3_ok : ∀ k, k < 0 → parseFieldDescriptor (TX3 k).2.2.1 = some (tyX3 k) := by decide +kernel
abbrev cX3_init : ByteArray := prog_5_method_1_code
def yX3_init : MethodName := ⟨RX3, "<init>", "()V"⟩
abbrev cX3_paceOf : ByteArray := prog_5_method_2_code
def yX3_paceOf : MethodName := ⟨RX3, "paceOf", "(II)I"⟩
abbrev cX3_standing : ByteArray := prog_5_method_3_code
def yX3_standing : MethodName := ⟨RX3, "standing", "(LWhileSheLooks$Acts;I)I"⟩
def RX4 : String := "WhileSheLooks$Reckless"
def TX4 : u_T := fun k => match k with
  | _ => ("", "", "", false)
def tyX4 : Nat → FieldType := fun k => match k with
  | _ => .int
abbrev wsX40 : List Cond := u_ws RX4 TX4 0
theorem nmX4 : ∀ a, a < 0 → ∀ b, b < 0 → a ≠ b → (TX4 a).2.1 ≠ (TX4 b).2.1 := by decide +kernel
theorem tyX4_ok : ∀ k, k < 0 → parseFieldDescriptor (TX4 k).2.2.1 = some (tyX4 k) := by decide +kernel
abbrev cX4_init : ByteArray := prog_6_method_1_code
def yX4_init : MethodName := ⟨RX4, "<init>", "()V"⟩
abbrev cX4_paceOf : ByteArray := prog_6_method_2_code
def yX4_paceOf : MethodName := ⟨RX4, "paceOf", "(II)I"⟩
abbrev cX4_wobblesOf : ByteArray := prog_6_method_3_code
def yX4_wobblesOf : MethodName := ⟨RX4, "wobblesOf", "(IIIII)I"⟩
abbrev cX4_running : ByteArray := prog_6_method_4_code
def yX4_running : MethodName := ⟨RX4, "running", "(LWhileSheLooks$Acts;I)I"⟩
abbrev cX4_standing : ByteArray := prog_6_method_5_code
def yX4_standing : MethodName := ⟨RX4, "standing", "(LWhileSheLooks$Acts;I)I"⟩
def RX5 : String := "WhileSheLooks$Scene"
def TX5 : u_T := fun k => match k with
  | 0 => ("WhileSheLooks$Scene", "kind", "[I", true)
  | 1 => ("WhileSheLooks$Scene", "v", "[I", true)
  | 2 => ("WhileSheLooks$Scene", "at", "[I", true)
  | 3 => ("WhileSheLooks$Scene", "early", "[I", true)
  | 4 => ("WhileSheLooks$Scene", "sent", "[I", true)
  | 5 => ("WhileSheLooks$Scene", "rows", "[I", true)
  | 6 => ("WhileSheLooks$Scene", "size", "I", false)
  | 7 => ("WhileSheLooks$Scene", "wall", "I", false)
  | 8 => ("WhileSheLooks$Scene", "herCounts", "[I", true)
  | 9 => ("WhileSheLooks$Scene", "turn", "I", false)
  | 10 => ("WhileSheLooks$Scene", "yard", "LWhileSheLooks$Yard;", false)
  | 11 => ("WhileSheLooks$Scene", "seenChild", "[I", true)
  | 12 => ("WhileSheLooks$Scene", "seenBehind", "[I", true)
  | 13 => ("WhileSheLooks$Scene", "seenAt", "[I", true)
  | 14 => ("WhileSheLooks$Scene", "seenCount", "I", false)
  | 15 => ("WhileSheLooks$Scene", "bookChild", "[I", true)
  | 16 => ("WhileSheLooks$Scene", "bookAt", "[I", true)
  | _ => ("WhileSheLooks$Scene", "bookCount", "I", false)
def tyX5 : Nat → FieldType := fun k => match k with
  | 0 => .array .int
  | 1 => .array .int
  | 2 => .array .int
  | 3 => .array .int
  | 4 => .array .int
  | 5 => .array .int
  | 6 => .int
  | 7 => .int
  | 8 => .array .int
  | 9 => .int
  | 10 => .object "WhileSheLooks$Yard"
  | 11 => .array .int
  | 12 => .array .int
  | 13 => .array .int
  | 14 => .int
  | 15 => .array .int
  | 16 => .array .int
  | _ => .int
abbrev wsX50 : List Cond := u_ws RX5 TX5 18
theorem nmX5 : ∀ a, a < 18 → ∀ b, b < 18 → a ≠ b → (TX5 a).2.1 ≠ (TX5 b).2.1 := by decide +kernel
theorem tyX5_ok : ∀ k, k < 18 → parseFieldDescriptor (TX5 k).2.2.1 = some (tyX5 k) := by decide +kernel
abbrev cX5_init : ByteArray := prog_7_method_1_code
def yX5_init : MethodName := ⟨RX5, "<init>", "(LWhileSheLooks$Yard;)V"⟩
abbrev cX5_copyFrom : ByteArray := prog_7_method_2_code
def yX5_copyFrom : MethodName := ⟨RX5, "copyFrom", "(LWhileSheLooks$Scene;)V"⟩
abbrev cX5_has : ByteArray := prog_7_method_3_code
def yX5_has : MethodName := ⟨RX5, "has", "(I)Z"⟩
abbrev cX5_isAtWall : ByteArray := prog_7_method_4_code
def yX5_isAtWall : MethodName := ⟨RX5, "isAtWall", "(I)Z"⟩
abbrev cX5_everybody : ByteArray := prog_7_method_5_code
def yX5_everybody : MethodName := ⟨RX5, "everybody", "()I"⟩
abbrev cX5_placeNow : ByteArray := prog_7_method_6_code
def yX5_placeNow : MethodName := ⟨RX5, "placeNow", "()I"⟩
abbrev cX5_addChild : ByteArray := prog_7_method_7_code
def yX5_addChild : MethodName := ⟨RX5, "addChild", "(II)I"⟩
abbrev cX5_putOnTheWay : ByteArray := prog_7_method_8_code
def yX5_putOnTheWay : MethodName := ⟨RX5, "putOnTheWay", "(II)V"⟩
abbrev cX5_addSeen : ByteArray := prog_7_method_9_code
def yX5_addSeen : MethodName := ⟨RX5, "addSeen", "(III)I"⟩
abbrev cX5_addToBook : ByteArray := prog_7_method_10_code
def yX5_addToBook : MethodName := ⟨RX5, "addToBook", "(II)I"⟩
def RX6 : String := "WhileSheLooks$Small"
def TX6 : u_T := fun k => match k with
  | _ => ("", "", "", false)
def tyX6 : Nat → FieldType := fun k => match k with
  | _ => .int
abbrev wsX60 : List Cond := u_ws RX6 TX6 0
theorem nmX6 : ∀ a, a < 0 → ∀ b, b < 0 → a ≠ b → (TX6 a).2.1 ≠ (TX6 b).2.1 := by decide +kernel
theorem tyX6_ok : ∀ k, k < 0 → parseFieldDescriptor (TX6 k).2.2.1 = some (tyX6 k) := by decide +kernel
abbrev cX6_init : ByteArray := prog_8_method_1_code
def yX6_init : MethodName := ⟨RX6, "<init>", "()V"⟩
abbrev cX6_paceOf : ByteArray := prog_8_method_2_code
def yX6_paceOf : MethodName := ⟨RX6, "paceOf", "(II)I"⟩
abbrev cX6_wobblesOf : ByteArray := prog_8_method_3_code
def yX6_wobblesOf : MethodName := ⟨RX6, "wobblesOf", "(IIIII)I"⟩
abbrev cX6_telling : ByteArray := prog_8_method_4_code
def yX6_telling : MethodName := ⟨RX6, "telling", "(LWhileSheLooks$Acts;I)I"⟩
def RX7 : String := "WhileSheLooks$Steady"
def TX7 : u_T := fun k => match k with
  | _ => ("", "", "", false)
def tyX7 : Nat → FieldType := fun k => match k with
  | _ => .int
abbrev wsX70 : List Cond := u_ws RX7 TX7 0
theorem nmX7 : ∀ a, a < 0 → ∀ b, b < 0 → a ≠ b → (TX7 a).2.1 ≠ (TX7 b).2.1 := by decide +kernel
theorem tyX7_ok : ∀ k, k < 0 → parseFieldDescriptor (TX7 k).2.2.1 = some (tyX7 k) := by decide +kernel
abbrev cX7_init : ByteArray := prog_9_method_1_code
def yX7_init : MethodName := ⟨RX7, "<init>", "()V"⟩
abbrev cX7_wobblesOf : ByteArray := prog_9_method_2_code
def yX7_wobblesOf : MethodName := ⟨RX7, "wobblesOf", "(IIIII)I"⟩
abbrev cX7_running : ByteArray := prog_9_method_3_code
def yX7_running : MethodName := ⟨RX7, "running", "(LWhileSheLooks$Acts;I)I"⟩
def RX8 : String := "WhileSheLooks$Told"
def TX8 : u_T := fun k => match k with
  | _ => ("", "", "", false)
def tyX8 : Nat → FieldType := fun k => match k with
  | _ => .int
abbrev wsX80 : List Cond := u_ws RX8 TX8 0
theorem nmX8 : ∀ a, a < 0 → ∀ b, b < 0 → a ≠ b → (TX8 a).2.1 ≠ (TX8 b).2.1 := by decide +kernel
theorem tyX8_ok : ∀ k, k < 0 → parseFieldDescriptor (TX8 k).2.2.1 = some (tyX8 k) := by decide +kernel
abbrev cX8_init : ByteArray := prog_10_method_1_code
def yX8_init : MethodName := ⟨RX8, "<init>", "()V"⟩
abbrev cX8_paceOf : ByteArray := prog_10_method_2_code
def yX8_paceOf : MethodName := ⟨RX8, "paceOf", "(II)I"⟩
abbrev cX8_running : ByteArray := prog_10_method_3_code
def yX8_running : MethodName := ⟨RX8, "running", "(LWhileSheLooks$Acts;I)I"⟩
abbrev cX8_standing : ByteArray := prog_10_method_4_code
def yX8_standing : MethodName := ⟨RX8, "standing", "(LWhileSheLooks$Acts;I)I"⟩
def RX9 : String := "WhileSheLooks$Turns"
def TX9 : u_T := fun k => match k with
  | 0 => ("WhileSheLooks$Turns", "kinds", "[LWhileSheLooks$Child;", true)
  | 1 => ("WhileSheLooks$Turns", "pace", "[I", true)
  | 2 => ("WhileSheLooks$Turns", "goes", "[I", true)
  | 3 => ("WhileSheLooks$Turns", "wobbles", "[I", true)
  | _ => ("WhileSheLooks$Turns", "facts", "[I", true)
def tyX9 : Nat → FieldType := fun k => match k with
  | 0 => .array (.object "WhileSheLooks$Child")
  | 1 => .array .int
  | 2 => .array .int
  | 3 => .array .int
  | _ => .array .int
abbrev wsX90 : List Cond := u_ws RX9 TX9 5
theorem nmX9 : ∀ a, a < 5 → ∀ b, b < 5 → a ≠ b → (TX9 a).2.1 ≠ (TX9 b).2.1 := by decide +kernel
theorem tyX9_ok : ∀ k, k < 5 → parseFieldDescriptor (TX9 k).2.2.1 = some (tyX9 k) := by decide +kernel
abbrev cX9_init : ByteArray := prog_11_method_1_code
def yX9_init : MethodName := ⟨RX9, "<init>", "([LWhileSheLooks$Child;)V"⟩
abbrev cX9_foresee : ByteArray := prog_11_method_2_code
def yX9_foresee : MethodName := ⟨RX9, "foresee", "(LWhileSheLooks$Scene;)V"⟩
abbrev cX9_step : ByteArray := prog_11_method_3_code
def yX9_step : MethodName := ⟨RX9, "step", "(LWhileSheLooks$Scene;II)I"⟩
abbrev cX9_goOn : ByteArray := prog_11_method_4_code
def yX9_goOn : MethodName := ⟨RX9, "goOn", "(LWhileSheLooks$Scene;)V"⟩
abbrev cX9_whoIsSentBack : ByteArray := prog_11_method_5_code
def yX9_whoIsSentBack : MethodName := ⟨RX9, "whoIsSentBack", "(LWhileSheLooks$Scene;I)I"⟩
abbrev cX9_lookedAtAhead : ByteArray := prog_11_method_6_code
def yX9_lookedAtAhead : MethodName := ⟨RX9, "lookedAtAhead", "(LWhileSheLooks$Scene;I)I"⟩
abbrev cX9_pass : ByteArray := prog_11_method_7_code
def yX9_pass : MethodName := ⟨RX9, "pass", "(LWhileSheLooks$Scene;I)I"⟩
abbrev cX9_untilWall : ByteArray := prog_11_method_8_code
def yX9_untilWall : MethodName := ⟨RX9, "untilWall", "(LWhileSheLooks$Scene;I)I"⟩
def RX10 : String := "WhileSheLooks$Yard"
def TX10 : u_T := fun k => match k with
  | 0 => ("WhileSheLooks$Yard", "text", "[B", true)
  | 1 => ("WhileSheLooks$Yard", "end", "I", false)
  | 2 => ("WhileSheLooks$Yard", "place", "I", false)
  | 3 => ("WhileSheLooks$Yard", "word", "[I", true)
  | 4 => ("WhileSheLooks$Yard", "number", "[I", true)
  | 5 => ("WhileSheLooks$Yard", "codeFrom", "[I", true)
  | 6 => ("WhileSheLooks$Yard", "codeTo", "[I", true)
  | 7 => ("WhileSheLooks$Yard", "clauses", "I", false)
  | 8 => ("WhileSheLooks$Yard", "codes", "[I", true)
  | 9 => ("WhileSheLooks$Yard", "codeCount", "I", false)
  | 10 => ("WhileSheLooks$Yard", "far", "I", false)
  | 11 => ("WhileSheLooks$Yard", "sharp", "I", false)
  | _ => ("WhileSheLooks$Yard", "sees", "I", false)
def tyX10 : Nat → FieldType := fun k => match k with
  | 0 => .array .byte
  | 1 => .int
  | 2 => .int
  | 3 => .array .int
  | 4 => .array .int
  | 5 => .array .int
  | 6 => .array .int
  | 7 => .int
  | 8 => .array .int
  | 9 => .int
  | 10 => .int
  | 11 => .int
  | _ => .int
abbrev wsX100 : List Cond := u_ws RX10 TX10 13
theorem nmX10 : ∀ a, a < 13 → ∀ b, b < 13 → a ≠ b → (TX10 a).2.1 ≠ (TX10 b).2.1 := by decide +kernel
theorem tyX10_ok : ∀ k, k < 13 → parseFieldDescriptor (TX10 k).2.2.1 = some (tyX10 k) := by decide +kernel
abbrev cX10_init : ByteArray := prog_12_method_1_code
def yX10_init : MethodName := ⟨RX10, "<init>", "([B)V"⟩
abbrev cX10_faultOf : ByteArray := prog_12_method_2_code
def yX10_faultOf : MethodName := ⟨RX10, "faultOf", "(I)I"⟩
abbrev cX10_readClause : ByteArray := prog_12_method_3_code
def yX10_readClause : MethodName := ⟨RX10, "readClause", "()Z"⟩
abbrev cX10_addClause : ByteArray := prog_12_method_4_code
def yX10_addClause : MethodName := ⟨RX10, "addClause", "(III)V"⟩
abbrev cX10_wordOf : ByteArray := prog_12_method_5_code
def yX10_wordOf : MethodName := ⟨RX10, "wordOf", "(I)Ljava/lang/String;"⟩
abbrev cX10_readWord : ByteArray := prog_12_method_6_code
def yX10_readWord : MethodName := ⟨RX10, "readWord", "()I"⟩
abbrev cX10_sameAs : ByteArray := prog_12_method_7_code
def yX10_sameAs : MethodName := ⟨RX10, "sameAs", "(Ljava/lang/String;)I"⟩
abbrev cX10_signAt : ByteArray := prog_12_method_8_code
def yX10_signAt : MethodName := ⟨RX10, "signAt", "(I)I"⟩
abbrev cX10_skip : ByteArray := prog_12_method_9_code
def yX10_skip : MethodName := ⟨RX10, "skip", "(C)Z"⟩
abbrev cX10_isDigit : ByteArray := prog_12_method_10_code
def yX10_isDigit : MethodName := ⟨RX10, "isDigit", "(I)Z"⟩
abbrev cX10_readNumber : ByteArray := prog_12_method_11_code
def yX10_readNumber : MethodName := ⟨RX10, "readNumber", "()I"⟩
abbrev cX10_readEither : ByteArray := prog_12_method_12_code
def yX10_readEither : MethodName := ⟨RX10, "readEither", "(I)Z"⟩
abbrev cX10_readBoth : ByteArray := prog_12_method_13_code
def yX10_readBoth : MethodName := ⟨RX10, "readBoth", "(I)Z"⟩
abbrev cX10_readPart : ByteArray := prog_12_method_14_code
def yX10_readPart : MethodName := ⟨RX10, "readPart", "(I)Z"⟩
abbrev cX10_readTest : ByteArray := prog_12_method_15_code
def yX10_readTest : MethodName := ⟨RX10, "readTest", "()Z"⟩
abbrev cX10_readOneOf : ByteArray := prog_12_method_16_code
def yX10_readOneOf : MethodName := ⟨RX10, "readOneOf", "(Ljava/lang/String;)I"⟩
abbrev cX10_addCode : ByteArray := prog_12_method_17_code
def yX10_addCode : MethodName := ⟨RX10, "addCode", "(I)V"⟩
abbrev cX10_shakeFor : ByteArray := prog_12_method_18_code
def yX10_shakeFor : MethodName := ⟨RX10, "shakeFor", "([I)I"⟩
abbrev cX10_holds : ByteArray := prog_12_method_19_code
def yX10_holds : MethodName := ⟨RX10, "holds", "(I[I)Z"⟩
abbrev cX10_isSo : ByteArray := prog_12_method_20_code
def yX10_isSo : MethodName := ⟨RX10, "isSo", "(I[I)Z"⟩
def RX11 : String := "WhileSheLooks"
def TX11 : u_T := fun k => match k with
  | 0 => ("WhileSheLooks", "kinds", "[LWhileSheLooks$Child;", true)
  | 1 => ("WhileSheLooks", "text", "[B", true)
  | 2 => ("WhileSheLooks", "textLength", "I", false)
  | 3 => ("WhileSheLooks", "yards", "[LWhileSheLooks$Yard;", true)
  | 4 => ("WhileSheLooks", "yardCount", "I", false)
  | 5 => ("WhileSheLooks", "now", "LWhileSheLooks$Scene;", true)
  | 6 => ("WhileSheLooks", "ahead", "LWhileSheLooks$Scene;", true)
  | 7 => ("WhileSheLooks", "kept", "LWhileSheLooks$Scene;", true)
  | 8 => ("WhileSheLooks", "hasImage", "Z", false)
  | 9 => ("WhileSheLooks", "turns", "LWhileSheLooks$Turns;", true)
  | 10 => ("WhileSheLooks", "acts", "LWhileSheLooks$Acts;", true)
  | 11 => ("WhileSheLooks", "tapeItems", "[[J", true)
  | 12 => ("WhileSheLooks", "tapeSort", "[I", true)
  | _ => ("WhileSheLooks", "tapeSize", "[I", true)
def tyX11 : Nat → FieldType := fun k => match k with
  | 0 => .array (.object "WhileSheLooks$Child")
  | 1 => .array .byte
  | 2 => .int
  | 3 => .array (.object "WhileSheLooks$Yard")
  | 4 => .int
  | 5 => .object "WhileSheLooks$Scene"
  | 6 => .object "WhileSheLooks$Scene"
  | 7 => .object "WhileSheLooks$Scene"
  | 8 => .boolean
  | 9 => .object "WhileSheLooks$Turns"
  | 10 => .object "WhileSheLooks$Acts"
  | 11 => .array (.array .long)
  | 12 => .array .int
  | _ => .array .int
abbrev wsX110 : List Cond := u_ws RX11 TX11 14
theorem nmX11 : ∀ a, a < 14 → ∀ b, b < 14 → a ≠ b → (TX11 a).2.1 ≠ (TX11 b).2.1 := by decide +kernel
theorem tyX11_ok : ∀ k, k < 14 → parseFieldDescriptor (TX11 k).2.2.1 = some (tyX11 k) := by decide +kernel
abbrev cX11_init : ByteArray := prog_1_method_1_code
def yX11_init : MethodName := ⟨RX11, "<init>", "()V"⟩
abbrev cX11_child : ByteArray := prog_1_method_2_code
def yX11_child : MethodName := ⟨RX11, "child", "(II)I"⟩
abbrev cX11_of : ByteArray := prog_1_method_3_code
def yX11_of : MethodName := ⟨RX11, "of", "(II)I"⟩
abbrev cX11_set : ByteArray := prog_1_method_4_code
def yX11_set : MethodName := ⟨RX11, "set", "(III)I"⟩
abbrev cX11_row : ByteArray := prog_1_method_5_code
def yX11_row : MethodName := ⟨RX11, "row", "(III)I"⟩
abbrev cX11_counts : ByteArray := prog_1_method_6_code
def yX11_counts : MethodName := ⟨RX11, "counts", "(II)I"⟩
abbrev cX11_feed : ByteArray := prog_1_method_7_code
def yX11_feed : MethodName := ⟨RX11, "feed", "(I)I"⟩
abbrev cX11_yard : ByteArray := prog_1_method_8_code
def yX11_yard : MethodName := ⟨RX11, "yard", "()I"⟩
abbrev cX11_told : ByteArray := prog_1_method_9_code
def yX11_told : MethodName := ⟨RX11, "told", "(I)I"⟩
abbrev cX11_turn : ByteArray := prog_1_method_10_code
def yX11_turn : MethodName := ⟨RX11, "turn", "()I"⟩
abbrev cX11_on : ByteArray := prog_1_method_11_code
def yX11_on : MethodName := ⟨RX11, "on", "(II)I"⟩
abbrev cX11_touches : ByteArray := prog_1_method_12_code
def yX11_touches : MethodName := ⟨RX11, "touches", "(I)I"⟩
abbrev cX11_first : ByteArray := prog_1_method_13_code
def yX11_first : MethodName := ⟨RX11, "first", "()I"⟩
abbrev cX11_risks : ByteArray := prog_1_method_14_code
def yX11_risks : MethodName := ⟨RX11, "risks", "()I"⟩
abbrev cX11_stands : ByteArray := prog_1_method_15_code
def yX11_stands : MethodName := ⟨RX11, "stands", "(I)I"⟩
abbrev cX11_slow : ByteArray := prog_1_method_16_code
def yX11_slow : MethodName := ⟨RX11, "slow", "(II)I"⟩
abbrev cX11_order : ByteArray := prog_1_method_17_code
def yX11_order : MethodName := ⟨RX11, "order", "(II)I"⟩
abbrev cX11_look : ByteArray := prog_1_method_18_code
def yX11_look : MethodName := ⟨RX11, "look", "(I)I"⟩
abbrev cX11_needs : ByteArray := prog_1_method_19_code
def yX11_needs : MethodName := ⟨RX11, "needs", "(II)I"⟩
abbrev cX11_held : ByteArray := prog_1_method_20_code
def yX11_held : MethodName := ⟨RX11, "held", "(II)I"⟩
abbrev cX11_shield : ByteArray := prog_1_method_21_code
def yX11_shield : MethodName := ⟨RX11, "shield", "(III)I"⟩
abbrev cX11_see : ByteArray := prog_1_method_22_code
def yX11_see : MethodName := ⟨RX11, "see", "(III)I"⟩
abbrev cX11_since : ByteArray := prog_1_method_23_code
def yX11_since : MethodName := ⟨RX11, "since", "()I"⟩
abbrev cX11_who : ByteArray := prog_1_method_24_code
def yX11_who : MethodName := ⟨RX11, "who", "(II)I"⟩
abbrev cX11_odds : ByteArray := prog_1_method_25_code
def yX11_odds : MethodName := ⟨RX11, "odds", "(II)J"⟩
abbrev cX11_mean : ByteArray := prog_1_method_26_code
def yX11_mean : MethodName := ⟨RX11, "mean", "(II)J"⟩
abbrev cX11_book : ByteArray := prog_1_method_27_code
def yX11_book : MethodName := ⟨RX11, "book", "(II)I"⟩
abbrev cX11_looked : ByteArray := prog_1_method_28_code
def yX11_looked : MethodName := ⟨RX11, "looked", "()I"⟩
abbrev cX11_judge : ByteArray := prog_1_method_29_code
def yX11_judge : MethodName := ⟨RX11, "judge", "(II)I"⟩
abbrev cX11_image : ByteArray := prog_1_method_30_code
def yX11_image : MethodName := ⟨RX11, "image", "()I"⟩
abbrev cX11_undo : ByteArray := prog_1_method_31_code
def yX11_undo : MethodName := ⟨RX11, "undo", "()I"⟩
abbrev cX11_act : ByteArray := prog_1_method_32_code
def yX11_act : MethodName := ⟨RX11, "act", "(III)I"⟩
abbrev cX11_trace : ByteArray := prog_1_method_33_code
def yX11_trace : MethodName := ⟨RX11, "trace", "(I)I"⟩
abbrev cX11_taken : ByteArray := prog_1_method_34_code
def yX11_taken : MethodName := ⟨RX11, "taken", "(II)I"⟩
abbrev cX11_count : ByteArray := prog_1_method_35_code
def yX11_count : MethodName := ⟨RX11, "count", "(I)I"⟩
abbrev cX11_tape : ByteArray := prog_1_method_36_code
def yX11_tape : MethodName := ⟨RX11, "tape", "(III)I"⟩
abbrev cX11_item : ByteArray := prog_1_method_37_code
def yX11_item : MethodName := ⟨RX11, "item", "(IIJ)I"⟩
abbrev cX11_read : ByteArray := prog_1_method_38_code
def yX11_read : MethodName := ⟨RX11, "read", "(II)J"⟩
abbrev cX11_shift : ByteArray := prog_1_method_39_code
def yX11_shift : MethodName := ⟨RX11, "shift", "(IIIII)I"⟩
abbrev cX11_within : ByteArray := prog_1_method_40_code
def yX11_within : MethodName := ⟨RX11, "within", "(III)Z"⟩
abbrev cX11_isTape : ByteArray := prog_1_method_41_code
def yX11_isTape : MethodName := ⟨RX11, "isTape", "(I)Z"⟩
abbrev cX11_placeIn : ByteArray := prog_1_method_42_code
def yX11_placeIn : MethodName := ⟨RX11, "placeIn", "(II)I"⟩
abbrev cX11_namesEachPlace : ByteArray := prog_1_method_43_code
def yX11_namesEachPlace : MethodName := ⟨RX11, "namesEachPlace", "(I)Z"⟩
abbrev cX11_allSeenIsSo : ByteArray := prog_1_method_44_code
def yX11_allSeenIsSo : MethodName := ⟨RX11, "allSeenIsSo", "()Z"⟩
abbrev cX11_partOfFraction : ByteArray := prog_1_method_45_code
def yX11_partOfFraction : MethodName := ⟨RX11, "partOfFraction", "(III)J"⟩
abbrev cX11_asItem : ByteArray := prog_1_method_46_code
def yX11_asItem : MethodName := ⟨RX11, "asItem", "(IJ)J"⟩
def RX12 : String := "WhileSheLooksModel"
def TX12 : u_T := fun k => match k with
  | 0 => ("WhileSheLooksModel", "children", "I", false)
  | 1 => ("WhileSheLooksModel", "turns", "I", false)
  | 2 => ("WhileSheLooksModel", "wall", "I", false)
  | 3 => ("WhileSheLooksModel", "kind", "[I", true)
  | 4 => ("WhileSheLooksModel", "v", "[I", true)
  | 5 => ("WhileSheLooksModel", "come", "[I", true)
  | 6 => ("WhileSheLooksModel", "early", "[I", true)
  | 7 => ("WhileSheLooksModel", "sent", "[I", true)
  | 8 => ("WhileSheLooksModel", "rows", "[I", true)
  | 9 => ("WhileSheLooksModel", "count", "[I", true)
  | 10 => ("WhileSheLooksModel", "yards", "I", false)
  | 11 => ("WhileSheLooksModel", "the", "I", false)
  | 12 => ("WhileSheLooksModel", "fed", "I", false)
  | 13 => ("WhileSheLooksModel", "at", "I", false)
  | 14 => ("WhileSheLooksModel", "digits", "I", false)
  | 15 => ("WhileSheLooksModel", "text", "[I", true)
  | 16 => ("WhileSheLooksModel", "clauses", "[I", true)
  | 17 => ("WhileSheLooksModel", "word", "[I", true)
  | 18 => ("WhileSheLooksModel", "number", "[I", true)
  | 19 => ("WhileSheLooksModel", "from", "[I", true)
  | 20 => ("WhileSheLooksModel", "to", "[I", true)
  | 21 => ("WhileSheLooksModel", "sign", "[I", true)
  | 22 => ("WhileSheLooksModel", "waits", "[I", true)
  | 23 => ("WhileSheLooksModel", "signs", "I", false)
  | 24 => ("WhileSheLooksModel", "waiting", "I", false)
  | 25 => ("WhileSheLooksModel", "open", "I", false)
  | 26 => ("WhileSheLooksModel", "letters", "[I", true)
  | 27 => ("WhileSheLooksModel", "seesInMind", "I", false)
  | 28 => ("WhileSheLooksModel", "pile", "[Z", true)
  | 29 => ("WhileSheLooksModel", "mostSent", "I", false)
  | 30 => ("WhileSheLooksModel", "idle", "I", false)
  | 31 => ("WhileSheLooksModel", "going", "[I", true)
  | 32 => ("WhileSheLooksModel", "wobbling", "[I", true)
  | 33 => ("WhileSheLooksModel", "keptTurns", "I", false)
  | 34 => ("WhileSheLooksModel", "keptWall", "I", false)
  | 35 => ("WhileSheLooksModel", "keptCome", "[I", true)
  | 36 => ("WhileSheLooksModel", "keptSent", "[I", true)
  | 37 => ("WhileSheLooksModel", "thenCome", "[I", true)
  | 38 => ("WhileSheLooksModel", "thenWall", "I", false)
  | 39 => ("WhileSheLooksModel", "thenSent", "I", false)
  | 40 => ("WhileSheLooksModel", "keptCount", "[I", true)
  | 41 => ("WhileSheLooksModel", "bestCount", "[I", true)
  | 42 => ("WhileSheLooksModel", "seen", "I", false)
  | 43 => ("WhileSheLooksModel", "seenWho", "[I", true)
  | 44 => ("WhileSheLooksModel", "seenWhen", "[I", true)
  | 45 => ("WhileSheLooksModel", "seenAt", "[I", true)
  | 46 => ("WhileSheLooksModel", "books", "I", false)
  | 47 => ("WhileSheLooksModel", "bookWho", "[I", true)
  | 48 => ("WhileSheLooksModel", "bookAt", "[I", true)
  | 49 => ("WhileSheLooksModel", "hasImage", "Z", false)
  | 50 => ("WhileSheLooksModel", "imageThe", "I", false)
  | 51 => ("WhileSheLooksModel", "imageChildren", "I", false)
  | 52 => ("WhileSheLooksModel", "imageTurns", "I", false)
  | 53 => ("WhileSheLooksModel", "imageWall", "I", false)
  | 54 => ("WhileSheLooksModel", "imageSeen", "I", false)
  | 55 => ("WhileSheLooksModel", "imageBooks", "I", false)
  | 56 => ("WhileSheLooksModel", "imageKind", "[I", true)
  | 57 => ("WhileSheLooksModel", "imageV", "[I", true)
  | 58 => ("WhileSheLooksModel", "imageCome", "[I", true)
  | 59 => ("WhileSheLooksModel", "imageEarly", "[I", true)
  | 60 => ("WhileSheLooksModel", "imageSent", "[I", true)
  | 61 => ("WhileSheLooksModel", "imageRows", "[I", true)
  | 62 => ("WhileSheLooksModel", "imageCount", "[I", true)
  | 63 => ("WhileSheLooksModel", "imageWho", "[I", true)
  | 64 => ("WhileSheLooksModel", "imageWhen", "[I", true)
  | 65 => ("WhileSheLooksModel", "imageAt", "[I", true)
  | 66 => ("WhileSheLooksModel", "imageBookWho", "[I", true)
  | 67 => ("WhileSheLooksModel", "imageBookAt", "[I", true)
  | 68 => ("WhileSheLooksModel", "ran", "I", false)
  | 69 => ("WhileSheLooksModel", "bodies", "[I", true)
  | 70 => ("WhileSheLooksModel", "sort", "[I", true)
  | 71 => ("WhileSheLooksModel", "length", "[I", true)
  | 72 => ("WhileSheLooksModel", "item", "[J", true)
  | _ => ("WhileSheLooksModel", "aside", "[J", true)
def tyX12 : Nat → FieldType := fun k => match k with
  | 0 => .int
  | 1 => .int
  | 2 => .int
  | 3 => .array .int
  | 4 => .array .int
  | 5 => .array .int
  | 6 => .array .int
  | 7 => .array .int
  | 8 => .array .int
  | 9 => .array .int
  | 10 => .int
  | 11 => .int
  | 12 => .int
  | 13 => .int
  | 14 => .int
  | 15 => .array .int
  | 16 => .array .int
  | 17 => .array .int
  | 18 => .array .int
  | 19 => .array .int
  | 20 => .array .int
  | 21 => .array .int
  | 22 => .array .int
  | 23 => .int
  | 24 => .int
  | 25 => .int
  | 26 => .array .int
  | 27 => .int
  | 28 => .array .boolean
  | 29 => .int
  | 30 => .int
  | 31 => .array .int
  | 32 => .array .int
  | 33 => .int
  | 34 => .int
  | 35 => .array .int
  | 36 => .array .int
  | 37 => .array .int
  | 38 => .int
  | 39 => .int
  | 40 => .array .int
  | 41 => .array .int
  | 42 => .int
  | 43 => .array .int
  | 44 => .array .int
  | 45 => .array .int
  | 46 => .int
  | 47 => .array .int
  | 48 => .array .int
  | 49 => .boolean
  | 50 => .int
  | 51 => .int
  | 52 => .int
  | 53 => .int
  | 54 => .int
  | 55 => .int
  | 56 => .array .int
  | 57 => .array .int
  | 58 => .array .int
  | 59 => .array .int
  | 60 => .array .int
  | 61 => .array .int
  | 62 => .array .int
  | 63 => .array .int
  | 64 => .array .int
  | 65 => .array .int
  | 66 => .array .int
  | 67 => .array .int
  | 68 => .int
  | 69 => .array .int
  | 70 => .array .int
  | 71 => .array .int
  | 72 => .array .long
  | _ => .array .long
abbrev wsX120 : List Cond := u_ws RX12 TX12 74
theorem nmX12 : ∀ a, a < 74 → ∀ b, b < 74 → a ≠ b → (TX12 a).2.1 ≠ (TX12 b).2.1 := by decide +kernel
theorem tyX12_ok : ∀ k, k < 74 → parseFieldDescriptor (TX12 k).2.2.1 = some (tyX12 k) := by decide +kernel
abbrev cX12_init : ByteArray := prog_14_method_1_code
def yX12_init : MethodName := ⟨RX12, "<init>", "()V"⟩
abbrev cX12_in : ByteArray := prog_14_method_2_code
def yX12_in : MethodName := ⟨RX12, "in", "(III)Z"⟩
abbrev cX12_has : ByteArray := prog_14_method_3_code
def yX12_has : MethodName := ⟨RX12, "has", "(II)Z"⟩
abbrev cX12_ones : ByteArray := prog_14_method_4_code
def yX12_ones : MethodName := ⟨RX12, "ones", "(I)I"⟩
abbrev cX12_isChild : ByteArray := prog_14_method_5_code
def yX12_isChild : MethodName := ⟨RX12, "isChild", "(I)Z"⟩
abbrev cX12_child : ByteArray := prog_14_method_6_code
def yX12_child : MethodName := ⟨RX12, "child", "(II)I"⟩
abbrev cX12_set : ByteArray := prog_14_method_7_code
def yX12_set : MethodName := ⟨RX12, "set", "(III)I"⟩
abbrev cX12_row : ByteArray := prog_14_method_8_code
def yX12_row : MethodName := ⟨RX12, "row", "(III)I"⟩
abbrev cX12_counts : ByteArray := prog_14_method_9_code
def yX12_counts : MethodName := ⟨RX12, "counts", "(II)I"⟩
abbrev cX12_feed : ByteArray := prog_14_method_10_code
def yX12_feed : MethodName := ⟨RX12, "feed", "(I)I"⟩
abbrev cX12_next : ByteArray := prog_14_method_11_code
def yX12_next : MethodName := ⟨RX12, "next", "()I"⟩
abbrev cX12_second : ByteArray := prog_14_method_12_code
def yX12_second : MethodName := ⟨RX12, "second", "()I"⟩
abbrev cX12_takes : ByteArray := prog_14_method_13_code
def yX12_takes : MethodName := ⟨RX12, "takes", "(I)Z"⟩
abbrev cX12_takesWord : ByteArray := prog_14_method_14_code
def yX12_takesWord : MethodName := ⟨RX12, "takesWord", "(II)Z"⟩
abbrev cX12_isDigit : ByteArray := prog_14_method_15_code
def yX12_isDigit : MethodName := ⟨RX12, "isDigit", "()Z"⟩
abbrev cX12_takesNumber : ByteArray := prog_14_method_16_code
def yX12_takesNumber : MethodName := ⟨RX12, "takesNumber", "()Z"⟩
abbrev cX12_emits : ByteArray := prog_14_method_17_code
def yX12_emits : MethodName := ⟨RX12, "emits", "(I)V"⟩
abbrev cX12_whole : ByteArray := prog_14_method_18_code
def yX12_whole : MethodName := ⟨RX12, "whole", "()V"⟩
abbrev cX12_settle : ByteArray := prog_14_method_19_code
def yX12_settle : MethodName := ⟨RX12, "settle", "(I)V"⟩
abbrev cX12_place : ByteArray := prog_14_method_20_code
def yX12_place : MethodName := ⟨RX12, "place", "(I)I"⟩
abbrev cX12_takesTest : ByteArray := prog_14_method_21_code
def yX12_takesTest : MethodName := ⟨RX12, "takesTest", "()Z"⟩
abbrev cX12_takesE : ByteArray := prog_14_method_22_code
def yX12_takesE : MethodName := ⟨RX12, "takesE", "(I)Z"⟩
abbrev cX12_takesHead : ByteArray := prog_14_method_23_code
def yX12_takesHead : MethodName := ⟨RX12, "takesHead", "(I)Z"⟩
abbrev cX12_takesClause : ByteArray := prog_14_method_24_code
def yX12_takesClause : MethodName := ⟨RX12, "takesClause", "(I)Z"⟩
abbrev cX12_goesText : ByteArray := prog_14_method_25_code
def yX12_goesText : MethodName := ⟨RX12, "goesText", "(I)Z"⟩
abbrev cX12_yard : ByteArray := prog_14_method_26_code
def yX12_yard : MethodName := ⟨RX12, "yard", "()I"⟩
abbrev cX12_begin : ByteArray := prog_14_method_27_code
def yX12_begin : MethodName := ⟨RX12, "begin", "()I"⟩
abbrev cX12_behind : ByteArray := prog_14_method_28_code
def yX12_behind : MethodName := ⟨RX12, "behind", "()I"⟩
abbrev cX12_lastOf : ByteArray := prog_14_method_29_code
def yX12_lastOf : MethodName := ⟨RX12, "lastOf", "(II)I"⟩
abbrev cX12_far : ByteArray := prog_14_method_30_code
def yX12_far : MethodName := ⟨RX12, "far", "()I"⟩
abbrev cX12_sharp : ByteArray := prog_14_method_31_code
def yX12_sharp : MethodName := ⟨RX12, "sharp", "()I"⟩
abbrev cX12_sees : ByteArray := prog_14_method_32_code
def yX12_sees : MethodName := ⟨RX12, "sees", "()I"⟩
abbrev cX12_countNow : ByteArray := prog_14_method_33_code
def yX12_countNow : MethodName := ⟨RX12, "countNow", "()I"⟩
abbrev cX12_factOf : ByteArray := prog_14_method_34_code
def yX12_factOf : MethodName := ⟨RX12, "factOf", "(II)I"⟩
abbrev cX12_holds : ByteArray := prog_14_method_35_code
def yX12_holds : MethodName := ⟨RX12, "holds", "(II)Z"⟩
abbrev cX12_shake : ByteArray := prog_14_method_36_code
def yX12_shake : MethodName := ⟨RX12, "shake", "(I)I"⟩
abbrev cX12_pace : ByteArray := prog_14_method_37_code
def yX12_pace : MethodName := ⟨RX12, "pace", "(I)I"⟩
abbrev cX12_goes : ByteArray := prog_14_method_38_code
def yX12_goes : MethodName := ⟨RX12, "goes", "(I)I"⟩
abbrev cX12_least0 : ByteArray := prog_14_method_39_code
def yX12_least0 : MethodName := ⟨RX12, "least0", "(I)I"⟩
abbrev cX12_wobbles : ByteArray := prog_14_method_40_code
def yX12_wobbles : MethodName := ⟨RX12, "wobbles", "(I)I"⟩
abbrev cX12_of : ByteArray := prog_14_method_41_code
def yX12_of : MethodName := ⟨RX12, "of", "(II)I"⟩
abbrev cX12_told : ByteArray := prog_14_method_42_code
def yX12_told : MethodName := ⟨RX12, "told", "(I)I"⟩
abbrev cX12_ahead : ByteArray := prog_14_method_43_code
def yX12_ahead : MethodName := ⟨RX12, "ahead", "(I)I"⟩
abbrev cX12_goTurn : ByteArray := prog_14_method_44_code
def yX12_goTurn : MethodName := ⟨RX12, "goTurn", "()I"⟩
abbrev cX12_turn : ByteArray := prog_14_method_45_code
def yX12_turn : MethodName := ⟨RX12, "turn", "()I"⟩
abbrev cX12_save : ByteArray := prog_14_method_46_code
def yX12_save : MethodName := ⟨RX12, "save", "()V"⟩
abbrev cX12_putBack : ByteArray := prog_14_method_47_code
def yX12_putBack : MethodName := ⟨RX12, "putBack", "()V"⟩
abbrev cX12_lay : ByteArray := prog_14_method_48_code
def yX12_lay : MethodName := ⟨RX12, "lay", "(I)V"⟩
abbrev cX12_on : ByteArray := prog_14_method_49_code
def yX12_on : MethodName := ⟨RX12, "on", "(II)I"⟩
abbrev cX12_touchesOf : ByteArray := prog_14_method_50_code
def yX12_touchesOf : MethodName := ⟨RX12, "touchesOf", "(I)I"⟩
abbrev cX12_touches : ByteArray := prog_14_method_51_code
def yX12_touches : MethodName := ⟨RX12, "touches", "(I)I"⟩
abbrev cX12_first : ByteArray := prog_14_method_52_code
def yX12_first : MethodName := ⟨RX12, "first", "()I"⟩
abbrev cX12_risks : ByteArray := prog_14_method_53_code
def yX12_risks : MethodName := ⟨RX12, "risks", "()I"⟩
abbrev cX12_stands : ByteArray := prog_14_method_54_code
def yX12_stands : MethodName := ⟨RX12, "stands", "(I)I"⟩
abbrev cX12_keepCounts : ByteArray := prog_14_method_55_code
def yX12_keepCounts : MethodName := ⟨RX12, "keepCounts", "()V"⟩
abbrev cX12_putCounts : ByteArray := prog_14_method_56_code
def yX12_putCounts : MethodName := ⟨RX12, "putCounts", "()V"⟩
abbrev cX12_wallBehind : ByteArray := prog_14_method_57_code
def yX12_wallBehind : MethodName := ⟨RX12, "wallBehind", "(I)I"⟩
abbrev cX12_slow : ByteArray := prog_14_method_58_code
def yX12_slow : MethodName := ⟨RX12, "slow", "(II)I"⟩
abbrev cX12_order : ByteArray := prog_14_method_59_code
def yX12_order : MethodName := ⟨RX12, "order", "(II)I"⟩
abbrev cX12_look : ByteArray := prog_14_method_60_code
def yX12_look : MethodName := ⟨RX12, "look", "(I)I"⟩
abbrev cX12_needs : ByteArray := prog_14_method_61_code
def yX12_needs : MethodName := ⟨RX12, "needs", "(II)I"⟩
abbrev cX12_comeBy : ByteArray := prog_14_method_62_code
def yX12_comeBy : MethodName := ⟨RX12, "comeBy", "(III)I"⟩
abbrev cX12_held : ByteArray := prog_14_method_63_code
def yX12_held : MethodName := ⟨RX12, "held", "(II)I"⟩
abbrev cX12_shield : ByteArray := prog_14_method_64_code
def yX12_shield : MethodName := ⟨RX12, "shield", "(III)I"⟩
abbrev cX12_see : ByteArray := prog_14_method_65_code
def yX12_see : MethodName := ⟨RX12, "see", "(III)I"⟩
abbrev cX12_isSeen : ByteArray := prog_14_method_66_code
def yX12_isSeen : MethodName := ⟨RX12, "isSeen", "()Z"⟩
abbrev cX12_since : ByteArray := prog_14_method_67_code
def yX12_since : MethodName := ⟨RX12, "since", "()I"⟩
abbrev cX12_who : ByteArray := prog_14_method_68_code
def yX12_who : MethodName := ⟨RX12, "who", "(II)I"⟩
abbrev cX12_divisor : ByteArray := prog_14_method_69_code
def yX12_divisor : MethodName := ⟨RX12, "divisor", "(II)I"⟩
abbrev cX12_lowest : ByteArray := prog_14_method_70_code
def yX12_lowest : MethodName := ⟨RX12, "lowest", "(III)J"⟩
abbrev cX12_odds : ByteArray := prog_14_method_71_code
def yX12_odds : MethodName := ⟨RX12, "odds", "(II)J"⟩
abbrev cX12_mean : ByteArray := prog_14_method_72_code
def yX12_mean : MethodName := ⟨RX12, "mean", "(II)J"⟩
abbrev cX12_book : ByteArray := prog_14_method_73_code
def yX12_book : MethodName := ⟨RX12, "book", "(II)I"⟩
abbrev cX12_looked : ByteArray := prog_14_method_74_code
def yX12_looked : MethodName := ⟨RX12, "looked", "()I"⟩
abbrev cX12_judge : ByteArray := prog_14_method_75_code
def yX12_judge : MethodName := ⟨RX12, "judge", "(II)I"⟩
abbrev cX12_image : ByteArray := prog_14_method_76_code
def yX12_image : MethodName := ⟨RX12, "image", "()I"⟩
abbrev cX12_undo : ByteArray := prog_14_method_77_code
def yX12_undo : MethodName := ⟨RX12, "undo", "()I"⟩
abbrev cX12_body : ByteArray := prog_14_method_78_code
def yX12_body : MethodName := ⟨RX12, "body", "(I)V"⟩
abbrev cX12_childRuns : ByteArray := prog_14_method_79_code
def yX12_childRuns : MethodName := ⟨RX12, "childRuns", "(II)I"⟩
abbrev cX12_runsAct : ByteArray := prog_14_method_80_code
def yX12_runsAct : MethodName := ⟨RX12, "runsAct", "(II)I"⟩
abbrev cX12_childStands : ByteArray := prog_14_method_81_code
def yX12_childStands : MethodName := ⟨RX12, "childStands", "(II)I"⟩
abbrev cX12_quickStands : ByteArray := prog_14_method_82_code
def yX12_quickStands : MethodName := ⟨RX12, "quickStands", "(II)I"⟩
abbrev cX12_standsAct : ByteArray := prog_14_method_83_code
def yX12_standsAct : MethodName := ⟨RX12, "standsAct", "(II)I"⟩
abbrev cX12_childTells : ByteArray := prog_14_method_84_code
def yX12_childTells : MethodName := ⟨RX12, "childTells", "(II)I"⟩
abbrev cX12_tellsAct : ByteArray := prog_14_method_85_code
def yX12_tellsAct : MethodName := ⟨RX12, "tellsAct", "(II)I"⟩
abbrev cX12_act : ByteArray := prog_14_method_86_code
def yX12_act : MethodName := ⟨RX12, "act", "(III)I"⟩
abbrev cX12_trace : ByteArray := prog_14_method_87_code
def yX12_trace : MethodName := ⟨RX12, "trace", "(I)I"⟩
abbrev cX12_taken : ByteArray := prog_14_method_88_code
def yX12_taken : MethodName := ⟨RX12, "taken", "(II)I"⟩
abbrev cX12_count : ByteArray := prog_14_method_89_code
def yX12_count : MethodName := ⟨RX12, "count", "(I)I"⟩
abbrev cX12_isTape : ByteArray := prog_14_method_90_code
def yX12_isTape : MethodName := ⟨RX12, "isTape", "(I)Z"⟩
abbrev cX12_tape : ByteArray := prog_14_method_91_code
def yX12_tape : MethodName := ⟨RX12, "tape", "(III)I"⟩
abbrev cX12_narrow : ByteArray := prog_14_method_92_code
def yX12_narrow : MethodName := ⟨RX12, "narrow", "(IJ)J"⟩
abbrev cX12_item : ByteArray := prog_14_method_93_code
def yX12_item : MethodName := ⟨RX12, "item", "(IIJ)I"⟩
abbrev cX12_read : ByteArray := prog_14_method_94_code
def yX12_read : MethodName := ⟨RX12, "read", "(II)J"⟩
abbrev cX12_shift : ByteArray := prog_14_method_95_code
def yX12_shift : MethodName := ⟨RX12, "shift", "(IIIII)I"⟩
def RJ11 : String := "java/lang/Character"
def TJ11 : u_T := fun k => match k with
  | _ => ("", "", "", false)
def tyJ11 : Nat → FieldType := fun k => match k with
  | _ => .int
abbrev wsJ110 : List Cond := u_ws RJ11 TJ11 0
theorem nmJ11 : ∀ a, a < 0 → ∀ b, b < 0 → a ≠ b → (TJ11 a).2.1 ≠ (TJ11 b).2.1 := by decide +kernel
theorem tyJ11_ok : ∀ k, k < 0 → parseFieldDescriptor (TJ11 k).2.2.1 = some (tyJ11 k) := by decide +kernel
abbrev cJ11_isValidCodePoint_9a6ad : ByteArray := prog_15_method_11_code
def yJ11_isValidCodePoint_9a6ad : MethodName := ⟨RJ11, "isValidCodePoint", "(I)Z"⟩
abbrev cJ11_highSurrogate_5068e : ByteArray := prog_15_method_28_code
def yJ11_highSurrogate_5068e : MethodName := ⟨RJ11, "highSurrogate", "(I)C"⟩
abbrev cJ11_lowSurrogate_5068e : ByteArray := prog_15_method_29_code
def yJ11_lowSurrogate_5068e : MethodName := ⟨RJ11, "lowSurrogate", "(I)C"⟩
def RJ6 : String := "java/lang/Integer"
def TJ6 : u_T := fun k => match k with
  | _ => ("", "", "", false)
def tyJ6 : Nat → FieldType := fun k => match k with
  | _ => .int
abbrev wsJ60 : List Cond := u_ws RJ6 TJ6 0
theorem nmJ6 : ∀ a, a < 0 → ∀ b, b < 0 → a ≠ b → (TJ6 a).2.1 ≠ (TJ6 b).2.1 := by decide +kernel
theorem tyJ6_ok : ∀ k, k < 0 → parseFieldDescriptor (TJ6 k).2.2.1 = some (tyJ6 k) := by decide +kernel
abbrev cJ6_bitCount_0f7a4 : ByteArray := prog_16_method_49_code
def yJ6_bitCount_0f7a4 : MethodName := ⟨RJ6, "bitCount", "(I)I"⟩
def RJ9 : String := "java/lang/Math"
def TJ9 : u_T := fun k => match k with
  | _ => ("", "", "", false)
def tyJ9 : Nat → FieldType := fun k => match k with
  | _ => .int
abbrev wsJ90 : List Cond := u_ws RJ9 TJ9 0
theorem nmJ9 : ∀ a, a < 0 → ∀ b, b < 0 → a ≠ b → (TJ9 a).2.1 ≠ (TJ9 b).2.1 := by decide +kernel
theorem tyJ9_ok : ∀ k, k < 0 → parseFieldDescriptor (TJ9 k).2.2.1 = some (tyJ9 k) := by decide +kernel
abbrev cJ9_max_7cf53 : ByteArray := prog_17_method_65_code
def yJ9_max_7cf53 : MethodName := ⟨RJ9, "max", "(II)I"⟩
abbrev cJ9_min_7cf53 : ByteArray := prog_17_method_69_code
def yJ9_min_7cf53 : MethodName := ⟨RJ9, "min", "(II)I"⟩
def RJ0 : String := "java/lang/String"
def TJ0 : u_T := fun k => match k with
  | _ => ("", "", "", false)
def tyJ0 : Nat → FieldType := fun k => match k with
  | _ => .int
abbrev wsJ00 : List Cond := u_ws RJ0 TJ0 0
theorem nmJ0 : ∀ a, a < 0 → ∀ b, b < 0 → a ≠ b → (TJ0 a).2.1 ≠ (TJ0 b).2.1 := by decide +kernel
theorem tyJ0_ok : ∀ k, k < 0 → parseFieldDescriptor (TJ0 k).2.2.1 = some (tyJ0 k) := by decide +kernel
abbrev cJ0_length_8abf5 : ByteArray := prog_18_method_54_code
def yJ0_length_8abf5 : MethodName := ⟨RJ0, "length", "()I"⟩
abbrev cJ0_charAt_5068e : ByteArray := prog_18_method_56_code
def yJ0_charAt_5068e : MethodName := ⟨RJ0, "charAt", "(I)C"⟩
abbrev cJ0_indexOf_0f7a4 : ByteArray := prog_18_method_79_code
def yJ0_indexOf_0f7a4 : MethodName := ⟨RJ0, "indexOf", "(I)I"⟩
abbrev cJ0_indexOf_7cf53 : ByteArray := prog_18_method_80_code
def yJ0_indexOf_7cf53 : MethodName := ⟨RJ0, "indexOf", "(II)I"⟩
abbrev cJ0_coder_7d493 : ByteArray := prog_18_method_152_code
def yJ0_coder_7d493 : MethodName := ⟨RJ0, "coder", "()B"⟩
abbrev cJ0_isLatin1_aae02 : ByteArray := prog_18_method_154_code
def yJ0_isLatin1_aae02 : MethodName := ⟨RJ0, "isLatin1", "()Z"⟩
abbrev cJ0_checkIndex_df160 : ByteArray := prog_18_method_155_code
def yJ0_checkIndex_df160 : MethodName := ⟨RJ0, "checkIndex", "(II)V"⟩
abbrev cJ0_checkBoundsBeginEnd_23922 : ByteArray := prog_18_method_158_code
def yJ0_checkBoundsBeginEnd_23922 : MethodName := ⟨RJ0, "checkBoundsBeginEnd", "(III)V"⟩
def RJ1 : String := "java/lang/StringLatin1"
def TJ1 : u_T := fun k => match k with
  | _ => ("", "", "", false)
def tyJ1 : Nat → FieldType := fun k => match k with
  | _ => .int
abbrev wsJ10 : List Cond := u_ws RJ1 TJ1 0
theorem nmJ1 : ∀ a, a < 0 → ∀ b, b < 0 → a ≠ b → (TJ1 a).2.1 ≠ (TJ1 b).2.1 := by decide +kernel
theorem tyJ1_ok : ∀ k, k < 0 → parseFieldDescriptor (TJ1 k).2.2.1 = some (tyJ1 k) := by decide +kernel
abbrev cJ1_charAt_3b067 : ByteArray := prog_19_method_2_code
def yJ1_charAt_3b067 : MethodName := ⟨RJ1, "charAt", "([BI)C"⟩
abbrev cJ1_canEncode_9a6ad : ByteArray := prog_19_method_4_code
def yJ1_canEncode_9a6ad : MethodName := ⟨RJ1, "canEncode", "(I)Z"⟩
abbrev cJ1_indexOf_4cfef : ByteArray := prog_19_method_22_code
def yJ1_indexOf_4cfef : MethodName := ⟨RJ1, "indexOf", "([BIII)I"⟩
abbrev cJ1_indexOfChar_4cfef : ByteArray := prog_19_method_23_code
def yJ1_indexOfChar_4cfef : MethodName := ⟨RJ1, "indexOfChar", "([BIII)I"⟩
def RJ2 : String := "java/lang/StringUTF16"
def TJ2 : u_T := fun k => match k with
  | _ => ("", "", "", false)
def tyJ2 : Nat → FieldType := fun k => match k with
  | _ => .int
abbrev wsJ20 : List Cond := u_ws RJ2 TJ2 0
theorem nmJ2 : ∀ a, a < 0 → ∀ b, b < 0 → a ≠ b → (TJ2 a).2.1 ≠ (TJ2 b).2.1 := by decide +kernel
theorem tyJ2_ok : ∀ k, k < 0 → parseFieldDescriptor (TJ2 k).2.2.1 = some (tyJ2 k) := by decide +kernel
abbrev cJ2_getChar_3b067 : ByteArray := prog_20_method_5_code
def yJ2_getChar_3b067 : MethodName := ⟨RJ2, "getChar", "([BI)C"⟩
abbrev cJ2_length_9d52b : ByteArray := prog_20_method_6_code
def yJ2_length_9d52b : MethodName := ⟨RJ2, "length", "([B)I"⟩
abbrev cJ2_indexOf_4cfef : ByteArray := prog_20_method_40_code
def yJ2_indexOf_4cfef : MethodName := ⟨RJ2, "indexOf", "([BIII)I"⟩
abbrev cJ2_indexOfChar_4cfef : ByteArray := prog_20_method_47_code
def yJ2_indexOfChar_4cfef : MethodName := ⟨RJ2, "indexOfChar", "([BIII)I"⟩
abbrev cJ2_indexOfCharUnsafe_4cfef : ByteArray := prog_20_method_48_code
def yJ2_indexOfCharUnsafe_4cfef : MethodName := ⟨RJ2, "indexOfCharUnsafe", "([BIII)I"⟩
abbrev cJ2_indexOfSupplementary_4cfef : ByteArray := prog_20_method_49_code
def yJ2_indexOfSupplementary_4cfef : MethodName := ⟨RJ2, "indexOfSupplementary", "([BIII)I"⟩
abbrev cJ2_charAt_3b067 : ByteArray := prog_20_method_83_code
def yJ2_charAt_3b067 : MethodName := ⟨RJ2, "charAt", "([BI)C"⟩
abbrev cJ2_checkIndex_2214a : ByteArray := prog_20_method_91_code
def yJ2_checkIndex_2214a : MethodName := ⟨RJ2, "checkIndex", "(I[B)V"⟩
abbrev cJ2_checkBoundsBeginEnd_d044e : ByteArray := prog_20_method_93_code
def yJ2_checkBoundsBeginEnd_d044e : MethodName := ⟨RJ2, "checkBoundsBeginEnd", "(II[B)V"⟩
def RJ10 : String := "java/lang/System"
def TJ10 : u_T := fun k => match k with
  | _ => ("", "", "", false)
def tyJ10 : Nat → FieldType := fun k => match k with
  | _ => .int
abbrev wsJ100 : List Cond := u_ws RJ10 TJ10 0
theorem nmJ10 : ∀ a, a < 0 → ∀ b, b < 0 → a ≠ b → (TJ10 a).2.1 ≠ (TJ10 b).2.1 := by decide +kernel
theorem tyJ10_ok : ∀ k, k < 0 → parseFieldDescriptor (TJ10 k).2.2.1 = some (tyJ10 k) := by decide +kernel
def RJ3 : String := "jdk/internal/util/Preconditions"
def TJ3 : u_T := fun k => match k with
  | _ => ("", "", "", false)
def tyJ3 : Nat → FieldType := fun k => match k with
  | _ => .int
abbrev wsJ30 : List Cond := u_ws RJ3 TJ3 0
theorem nmJ3 : ∀ a, a < 0 → ∀ b, b < 0 → a ≠ b → (TJ3 a).2.1 ≠ (TJ3 b).2.1 := by decide +kernel
theorem tyJ3_ok : ∀ k, k < 0 → parseFieldDescriptor (TJ3 k).2.2.1 = some (tyJ3 k) := by decide +kernel
abbrev cJ3_checkIndex_8e157 : ByteArray := prog_22_method_11_code
def yJ3_checkIndex_8e157 : MethodName := ⟨RJ3, "checkIndex", "(IILjava/util/function/BiFunction;)I"⟩
abbrev cJ3_checkFromToIndex_8c36e : ByteArray := prog_22_method_12_code
def yJ3_checkFromToIndex_8c36e : MethodName := ⟨RJ3, "checkFromToIndex", "(IIILjava/util/function/BiFunction;)I"⟩
def RL : String := "WhileSheLooksLaw"
abbrev cL_law : ByteArray := code
def yL_law : MethodName := ⟨RL, "law", "([I)Z"⟩
abbrev vwCl : List vw_C := [(RX0, TX0, 4), (RX1, TX1, 0), (RX2, TX2, 0), (RX3, TX3, 0), (RX4, TX4, 0), (RX5, TX5, 18), (RX6, TX6, 0), (RX7, TX7, 0), (RX8, TX8, 0), (RX9, TX9, 5), (RX10, TX10, 13), (RX11, TX11, 14), (RX12, TX12, 74)]
end
section
theorem dX0_init_0 : decode cX0_init 0 = .ok (.aload_n 0, 1) := by decide +kernel
theorem dX0_init_1 : decode cX0_init 1 = .ok (.invokespecial 1, 3) := by decide +kernel
theorem dX0_init_4 : decode cX0_init 4 = .ok (.aload_n 0, 1) := by decide +kernel
theorem dX0_init_5 : decode cX0_init 5 = .ok (.bipush 20, 2) := by decide +kernel
theorem dX0_init_7 : decode cX0_init 7 = .ok (.newarray .int, 2) := by decide +kernel
theorem dX0_init_9 : decode cX0_init 9 = .ok (.putfield 9, 3) := by decide +kernel
theorem dX0_init_12 : decode cX0_init 12 = .ok (.return_, 1) := by decide +kernel
theorem dX0_begin_0 : decode cX0_begin 0 = .ok (.aload_n 0, 1) := by decide +kernel
theorem dX0_begin_1 : decode cX0_begin 1 = .ok (.getfield 13, 3) := by decide +kernel
theorem dX0_begin_4 : decode cX0_begin 4 = .ok (.bipush 20, 2) := by decide +kernel
theorem dX0_begin_6 : decode cX0_begin 6 = .ok (.if_icmp .ge 13, 3) := by decide +kernel
theorem dX0_begin_9 : decode cX0_begin 9 = .ok (.aload_n 0, 1) := by decide +kernel
theorem dX0_begin_10 : decode cX0_begin 10 = .ok (.getfield 9, 3) := by decide +kernel
theorem dX0_begin_13 : decode cX0_begin 13 = .ok (.aload_n 0, 1) := by decide +kernel
theorem dX0_begin_14 : decode cX0_begin 14 = .ok (.getfield 13, 3) := by decide +kernel
theorem dX0_begin_17 : decode cX0_begin 17 = .ok (.iload_n 1, 1) := by decide +kernel
theorem dX0_begin_18 : decode cX0_begin 18 = .ok (.iastore, 1) := by decide +kernel
theorem dX0_begin_19 : decode cX0_begin 19 = .ok (.aload_n 0, 1) := by decide +kernel
theorem dX0_begin_20 : decode cX0_begin 20 = .ok (.dup, 1) := by decide +kernel
theorem dX0_begin_21 : decode cX0_begin 21 = .ok (.getfield 13, 3) := by decide +kernel
theorem dX0_begin_24 : decode cX0_begin 24 = .ok (.iconst 1, 1) := by decide +kernel
theorem dX0_begin_25 : decode cX0_begin 25 = .ok (.iadd, 1) := by decide +kernel
theorem dX0_begin_26 : decode cX0_begin 26 = .ok (.putfield 13, 3) := by decide +kernel
theorem dX0_begin_29 : decode cX0_begin 29 = .ok (.return_, 1) := by decide +kernel
theorem dX1_init_0 : decode cX1_init 0 = .ok (.aload_n 0, 1) := by decide +kernel
theorem dX1_init_1 : decode cX1_init 1 = .ok (.invokespecial 1, 3) := by decide +kernel
theorem dX1_init_4 : decode cX1_init 4 = .ok (.return_, 1) := by decide +kernel
theorem dX1_paceOf_0 : decode cX1_paceOf 0 = .ok (.aload_n 0, 1) := by decide +kernel
theorem dX1_paceOf_1 : decode cX1_paceOf 1 = .ok (.iload_n 1, 1) := by decide +kernel
theorem dX1_paceOf_2 : decode cX1_paceOf 2 = .ok (.iload_n 2, 1) := by decide +kernel
theorem dX1_paceOf_3 : decode cX1_paceOf 3 = .ok (.invokespecial 7, 3) := by decide +kernel
theorem dX1_paceOf_6 : decode cX1_paceOf 6 = .ok (.iconst 1, 1) := by decide +kernel
theorem dX1_paceOf_7 : decode cX1_paceOf 7 = .ok (.isub, 1) := by decide +kernel
theorem dX1_paceOf_8 : decode cX1_paceOf 8 = .ok (.ireturn, 1) := by decide +kernel
theorem dX1_wobblesOf_0 : decode cX1_wobblesOf 0 = .ok (.iload_n 2, 1) := by decide +kernel
theorem dX1_wobblesOf_1 : decode cX1_wobblesOf 1 = .ok (.iconst 2, 1) := by decide +kernel
theorem dX1_wobblesOf_2 : decode cX1_wobblesOf 2 = .ok (.if_icmp .lt 7, 3) := by decide +kernel
theorem dX1_wobblesOf_5 : decode cX1_wobblesOf 5 = .ok (.iconst 0, 1) := by decide +kernel
theorem dX1_wobblesOf_6 : decode cX1_wobblesOf 6 = .ok (.goto 14, 3) := by decide +kernel
theorem dX1_wobblesOf_9 : decode cX1_wobblesOf 9 = .ok (.aload_n 0, 1) := by decide +kernel
theorem dX1_wobblesOf_10 : decode cX1_wobblesOf 10 = .ok (.iload_n 1, 1) := by decide +kernel
theorem dX1_wobblesOf_11 : decode cX1_wobblesOf 11 = .ok (.iload_n 2, 1) := by decide +kernel
theorem dX1_wobblesOf_12 : decode cX1_wobblesOf 12 = .ok (.iload_n 3, 1) := by decide +kernel
theorem dX1_wobblesOf_13 : decode cX1_wobblesOf 13 = .ok (.iload 4, 2) := by decide +kernel
theorem dX1_wobblesOf_15 : decode cX1_wobblesOf 15 = .ok (.iload 5, 2) := by decide +kernel
theorem dX1_wobblesOf_17 : decode cX1_wobblesOf 17 = .ok (.invokespecial 11, 3) := by decide +kernel
theorem dX1_wobblesOf_20 : decode cX1_wobblesOf 20 = .ok (.ireturn, 1) := by decide +kernel
theorem dX1_telling_0 : decode cX1_telling 0 = .ok (.aload_n 1, 1) := by decide +kernel
theorem dX1_telling_1 : decode cX1_telling 1 = .ok (.bipush 60, 2) := by decide +kernel
theorem dX1_telling_3 : decode cX1_telling 3 = .ok (.invokevirtual 15, 3) := by decide +kernel
theorem dX1_telling_6 : decode cX1_telling 6 = .ok (.aload_n 0, 1) := by decide +kernel
theorem dX1_telling_7 : decode cX1_telling 7 = .ok (.aload_n 1, 1) := by decide +kernel
theorem dX1_telling_8 : decode cX1_telling 8 = .ok (.iload_n 2, 1) := by decide +kernel
theorem dX1_telling_9 : decode cX1_telling 9 = .ok (.aload_n 1, 1) := by decide +kernel
theorem dX1_telling_10 : decode cX1_telling 10 = .ok (.getfield 21, 3) := by decide +kernel
theorem dX1_telling_13 : decode cX1_telling 13 = .ok (.isub, 1) := by decide +kernel
theorem dX1_telling_14 : decode cX1_telling 14 = .ok (.invokespecial 25, 3) := by decide +kernel
theorem dX1_telling_17 : decode cX1_telling 17 = .ok (.ireturn, 1) := by decide +kernel
theorem dX2_init_0 : decode cX2_init 0 = .ok (.aload_n 0, 1) := by decide +kernel
theorem dX2_init_1 : decode cX2_init 1 = .ok (.invokespecial 1, 3) := by decide +kernel
theorem dX2_init_4 : decode cX2_init 4 = .ok (.return_, 1) := by decide +kernel
theorem dX2_paceOf_0 : decode cX2_paceOf 0 = .ok (.iconst 2, 1) := by decide +kernel
theorem dX2_paceOf_1 : decode cX2_paceOf 1 = .ok (.iload_n 1, 1) := by decide +kernel
theorem dX2_paceOf_2 : decode cX2_paceOf 2 = .ok (.iconst 3, 1) := by decide +kernel
theorem dX2_paceOf_3 : decode cX2_paceOf 3 = .ok (.idiv, 1) := by decide +kernel
theorem dX2_paceOf_4 : decode cX2_paceOf 4 = .ok (.iadd, 1) := by decide +kernel
theorem dX2_paceOf_5 : decode cX2_paceOf 5 = .ok (.ireturn, 1) := by decide +kernel
theorem dX2_wobblesOf_0 : decode cX2_wobblesOf 0 = .ok (.iload 4, 2) := by decide +kernel
theorem dX2_wobblesOf_2 : decode cX2_wobblesOf 2 = .ok (.ifCond .ne 5, 3) := by decide +kernel
theorem dX2_wobblesOf_5 : decode cX2_wobblesOf 5 = .ok (.iconst 0, 1) := by decide +kernel
theorem dX2_wobblesOf_6 : decode cX2_wobblesOf 6 = .ok (.ireturn, 1) := by decide +kernel
theorem dX2_wobblesOf_7 : decode cX2_wobblesOf 7 = .ok (.iconst 0, 1) := by decide +kernel
theorem dX2_wobblesOf_8 : decode cX2_wobblesOf 8 = .ok (.iload_n 3, 1) := by decide +kernel
theorem dX2_wobblesOf_9 : decode cX2_wobblesOf 9 = .ok (.iload 5, 2) := by decide +kernel
theorem dX2_wobblesOf_11 : decode cX2_wobblesOf 11 = .ok (.iadd, 1) := by decide +kernel
theorem dX2_wobblesOf_12 : decode cX2_wobblesOf 12 = .ok (.iconst 2, 1) := by decide +kernel
theorem dX2_wobblesOf_13 : decode cX2_wobblesOf 13 = .ok (.iload_n 2, 1) := by decide +kernel
theorem dX2_wobblesOf_14 : decode cX2_wobblesOf 14 = .ok (.imul, 1) := by decide +kernel
theorem dX2_wobblesOf_15 : decode cX2_wobblesOf 15 = .ok (.isub, 1) := by decide +kernel
theorem dX2_wobblesOf_16 : decode cX2_wobblesOf 16 = .ok (.invokestatic 7, 3) := by decide +kernel
theorem dX2_wobblesOf_19 : decode cX2_wobblesOf 19 = .ok (.ireturn, 1) := by decide +kernel
theorem dX2_running_0 : decode cX2_running 0 = .ok (.aload_n 1, 1) := by decide +kernel
theorem dX2_running_1 : decode cX2_running 1 = .ok (.bipush 10, 2) := by decide +kernel
theorem dX2_running_3 : decode cX2_running 3 = .ok (.invokevirtual 13, 3) := by decide +kernel
theorem dX2_running_6 : decode cX2_running 6 = .ok (.iload_n 2, 1) := by decide +kernel
theorem dX2_running_7 : decode cX2_running 7 = .ok (.aload_n 1, 1) := by decide +kernel
theorem dX2_running_8 : decode cX2_running 8 = .ok (.getfield 19, 3) := by decide +kernel
theorem dX2_running_11 : decode cX2_running 11 = .ok (.iadd, 1) := by decide +kernel
theorem dX2_running_12 : decode cX2_running 12 = .ok (.ireturn, 1) := by decide +kernel
theorem dX2_standing_0 : decode cX2_standing 0 = .ok (.aload_n 1, 1) := by decide +kernel
theorem dX2_standing_1 : decode cX2_standing 1 = .ok (.bipush 11, 2) := by decide +kernel
theorem dX2_standing_3 : decode cX2_standing 3 = .ok (.invokevirtual 13, 3) := by decide +kernel
theorem dX2_standing_6 : decode cX2_standing 6 = .ok (.aload_n 0, 1) := by decide +kernel
theorem dX2_standing_7 : decode cX2_standing 7 = .ok (.aload_n 1, 1) := by decide +kernel
theorem dX2_standing_8 : decode cX2_standing 8 = .ok (.iload_n 2, 1) := by decide +kernel
theorem dX2_standing_9 : decode cX2_standing 9 = .ok (.invokevirtual 23, 3) := by decide +kernel
theorem dX2_standing_12 : decode cX2_standing 12 = .ok (.aload_n 1, 1) := by decide +kernel
theorem dX2_standing_13 : decode cX2_standing 13 = .ok (.getfield 29, 3) := by decide +kernel
theorem dX2_standing_16 : decode cX2_standing 16 = .ok (.isub, 1) := by decide +kernel
theorem dX2_standing_17 : decode cX2_standing 17 = .ok (.ireturn, 1) := by decide +kernel
theorem dX2_telling_0 : decode cX2_telling 0 = .ok (.aload_n 1, 1) := by decide +kernel
theorem dX2_telling_1 : decode cX2_telling 1 = .ok (.bipush 12, 2) := by decide +kernel
theorem dX2_telling_3 : decode cX2_telling 3 = .ok (.invokevirtual 13, 3) := by decide +kernel
theorem dX2_telling_6 : decode cX2_telling 6 = .ok (.aload_n 0, 1) := by decide +kernel
theorem dX2_telling_7 : decode cX2_telling 7 = .ok (.aload_n 1, 1) := by decide +kernel
theorem dX2_telling_8 : decode cX2_telling 8 = .ok (.iload_n 2, 1) := by decide +kernel
theorem dX2_telling_9 : decode cX2_telling 9 = .ok (.invokevirtual 32, 3) := by decide +kernel
theorem dX2_telling_12 : decode cX2_telling 12 = .ok (.iconst 2, 1) := by decide +kernel
theorem dX2_telling_13 : decode cX2_telling 13 = .ok (.imul, 1) := by decide +kernel
theorem dX2_telling_14 : decode cX2_telling 14 = .ok (.ireturn, 1) := by decide +kernel
theorem dX3_init_0 : decode cX3_init 0 = .ok (.aload_n 0, 1) := by decide +kernel
theorem dX3_init_1 : decode cX3_init 1 = .ok (.invokespecial 1, 3) := by decide +kernel
theorem dX3_init_4 : decode cX3_init 4 = .ok (.return_, 1) := by decide +kernel
theorem dX3_paceOf_0 : decode cX3_paceOf 0 = .ok (.aload_n 0, 1) := by decide +kernel
theorem dX3_paceOf_1 : decode cX3_paceOf 1 = .ok (.iload_n 1, 1) := by decide +kernel
theorem dX3_paceOf_2 : decode cX3_paceOf 2 = .ok (.iload_n 2, 1) := by decide +kernel
theorem dX3_paceOf_3 : decode cX3_paceOf 3 = .ok (.invokespecial 7, 3) := by decide +kernel
theorem dX3_paceOf_6 : decode cX3_paceOf 6 = .ok (.iconst 2, 1) := by decide +kernel
theorem dX3_paceOf_7 : decode cX3_paceOf 7 = .ok (.iadd, 1) := by decide +kernel
theorem dX3_paceOf_8 : decode cX3_paceOf 8 = .ok (.ireturn, 1) := by decide +kernel
theorem dX3_standing_0 : decode cX3_standing 0 = .ok (.aload_n 1, 1) := by decide +kernel
theorem dX3_standing_1 : decode cX3_standing 1 = .ok (.bipush 20, 2) := by decide +kernel
theorem dX3_standing_3 : decode cX3_standing 3 = .ok (.invokevirtual 11, 3) := by decide +kernel
theorem dX3_standing_6 : decode cX3_standing 6 = .ok (.aload_n 0, 1) := by decide +kernel
theorem dX3_standing_7 : decode cX3_standing 7 = .ok (.aload_n 1, 1) := by decide +kernel
theorem dX3_standing_8 : decode cX3_standing 8 = .ok (.iload_n 2, 1) := by decide +kernel
theorem dX3_standing_9 : decode cX3_standing 9 = .ok (.invokespecial 17, 3) := by decide +kernel
theorem dX3_standing_12 : decode cX3_standing 12 = .ok (.bipush 6, 2) := by decide +kernel
theorem dX3_standing_14 : decode cX3_standing 14 = .ok (.ixor, 1) := by decide +kernel
theorem dX3_standing_15 : decode cX3_standing 15 = .ok (.ireturn, 1) := by decide +kernel
theorem dX4_init_0 : decode cX4_init 0 = .ok (.aload_n 0, 1) := by decide +kernel
theorem dX4_init_1 : decode cX4_init 1 = .ok (.invokespecial 1, 3) := by decide +kernel
theorem dX4_init_4 : decode cX4_init 4 = .ok (.return_, 1) := by decide +kernel
theorem dX4_paceOf_0 : decode cX4_paceOf 0 = .ok (.iconst 2, 1) := by decide +kernel
theorem dX4_paceOf_1 : decode cX4_paceOf 1 = .ok (.aload_n 0, 1) := by decide +kernel
theorem dX4_paceOf_2 : decode cX4_paceOf 2 = .ok (.iload_n 1, 1) := by decide +kernel
theorem dX4_paceOf_3 : decode cX4_paceOf 3 = .ok (.iload_n 2, 1) := by decide +kernel
theorem dX4_paceOf_4 : decode cX4_paceOf 4 = .ok (.invokespecial 7, 3) := by decide +kernel
theorem dX4_paceOf_7 : decode cX4_paceOf 7 = .ok (.imul, 1) := by decide +kernel
theorem dX4_paceOf_8 : decode cX4_paceOf 8 = .ok (.ireturn, 1) := by decide +kernel
theorem dX4_wobblesOf_0 : decode cX4_wobblesOf 0 = .ok (.aload_n 0, 1) := by decide +kernel
theorem dX4_wobblesOf_1 : decode cX4_wobblesOf 1 = .ok (.iload_n 1, 1) := by decide +kernel
theorem dX4_wobblesOf_2 : decode cX4_wobblesOf 2 = .ok (.iload_n 2, 1) := by decide +kernel
theorem dX4_wobblesOf_3 : decode cX4_wobblesOf 3 = .ok (.iload_n 3, 1) := by decide +kernel
theorem dX4_wobblesOf_4 : decode cX4_wobblesOf 4 = .ok (.iload 4, 2) := by decide +kernel
theorem dX4_wobblesOf_6 : decode cX4_wobblesOf 6 = .ok (.iload 5, 2) := by decide +kernel
theorem dX4_wobblesOf_8 : decode cX4_wobblesOf 8 = .ok (.invokespecial 11, 3) := by decide +kernel
theorem dX4_wobblesOf_11 : decode cX4_wobblesOf 11 = .ok (.iconst 1, 1) := by decide +kernel
theorem dX4_wobblesOf_12 : decode cX4_wobblesOf 12 = .ok (.iadd, 1) := by decide +kernel
theorem dX4_wobblesOf_13 : decode cX4_wobblesOf 13 = .ok (.ireturn, 1) := by decide +kernel
theorem dX4_running_0 : decode cX4_running 0 = .ok (.aload_n 1, 1) := by decide +kernel
theorem dX4_running_1 : decode cX4_running 1 = .ok (.bipush 50, 2) := by decide +kernel
theorem dX4_running_3 : decode cX4_running 3 = .ok (.invokevirtual 15, 3) := by decide +kernel
theorem dX4_running_6 : decode cX4_running 6 = .ok (.aload_n 0, 1) := by decide +kernel
theorem dX4_running_7 : decode cX4_running 7 = .ok (.aload_n 1, 1) := by decide +kernel
theorem dX4_running_8 : decode cX4_running 8 = .ok (.iload_n 2, 1) := by decide +kernel
theorem dX4_running_9 : decode cX4_running 9 = .ok (.invokespecial 21, 3) := by decide +kernel
theorem dX4_running_12 : decode cX4_running 12 = .ok (.ineg, 1) := by decide +kernel
theorem dX4_running_13 : decode cX4_running 13 = .ok (.ireturn, 1) := by decide +kernel
theorem dX4_standing_0 : decode cX4_standing 0 = .ok (.aload_n 1, 1) := by decide +kernel
theorem dX4_standing_1 : decode cX4_standing 1 = .ok (.bipush 51, 2) := by decide +kernel
theorem dX4_standing_3 : decode cX4_standing 3 = .ok (.invokevirtual 15, 3) := by decide +kernel
theorem dX4_standing_6 : decode cX4_standing 6 = .ok (.aload_n 0, 1) := by decide +kernel
theorem dX4_standing_7 : decode cX4_standing 7 = .ok (.aload_n 1, 1) := by decide +kernel
theorem dX4_standing_8 : decode cX4_standing 8 = .ok (.iload_n 2, 1) := by decide +kernel
theorem dX4_standing_9 : decode cX4_standing 9 = .ok (.iconst 1, 1) := by decide +kernel
theorem dX4_standing_10 : decode cX4_standing 10 = .ok (.iadd, 1) := by decide +kernel
theorem dX4_standing_11 : decode cX4_standing 11 = .ok (.invokespecial 25, 3) := by decide +kernel
theorem dX4_standing_14 : decode cX4_standing 14 = .ok (.ireturn, 1) := by decide +kernel
theorem dX5_init_0 : decode cX5_init 0 = .ok (.aload_n 0, 1) := by decide +kernel
theorem dX5_init_1 : decode cX5_init 1 = .ok (.invokespecial 3, 3) := by decide +kernel
theorem dX5_init_4 : decode cX5_init 4 = .ok (.aload_n 0, 1) := by decide +kernel
theorem dX5_init_5 : decode cX5_init 5 = .ok (.bipush 7, 2) := by decide +kernel
theorem dX5_init_7 : decode cX5_init 7 = .ok (.newarray .int, 2) := by decide +kernel
theorem dX5_init_9 : decode cX5_init 9 = .ok (.putfield 9, 3) := by decide +kernel
theorem dX5_init_12 : decode cX5_init 12 = .ok (.aload_n 0, 1) := by decide +kernel
theorem dX5_init_13 : decode cX5_init 13 = .ok (.bipush 7, 2) := by decide +kernel
theorem dX5_init_15 : decode cX5_init 15 = .ok (.newarray .int, 2) := by decide +kernel
theorem dX5_init_17 : decode cX5_init 17 = .ok (.putfield 15, 3) := by decide +kernel
theorem dX5_init_20 : decode cX5_init 20 = .ok (.aload_n 0, 1) := by decide +kernel
theorem dX5_init_21 : decode cX5_init 21 = .ok (.bipush 7, 2) := by decide +kernel
theorem dX5_init_23 : decode cX5_init 23 = .ok (.newarray .int, 2) := by decide +kernel
theorem dX5_init_25 : decode cX5_init 25 = .ok (.putfield 18, 3) := by decide +kernel
theorem dX5_init_28 : decode cX5_init 28 = .ok (.aload_n 0, 1) := by decide +kernel
theorem dX5_init_29 : decode cX5_init 29 = .ok (.bipush 7, 2) := by decide +kernel
theorem dX5_init_31 : decode cX5_init 31 = .ok (.newarray .int, 2) := by decide +kernel
theorem dX5_init_33 : decode cX5_init 33 = .ok (.putfield 21, 3) := by decide +kernel
theorem dX5_init_36 : decode cX5_init 36 = .ok (.aload_n 0, 1) := by decide +kernel
theorem dX5_init_37 : decode cX5_init 37 = .ok (.bipush 7, 2) := by decide +kernel
theorem dX5_init_39 : decode cX5_init 39 = .ok (.newarray .int, 2) := by decide +kernel
theorem dX5_init_41 : decode cX5_init 41 = .ok (.putfield 24, 3) := by decide +kernel
theorem dX5_init_44 : decode cX5_init 44 = .ok (.aload_n 0, 1) := by decide +kernel
theorem dX5_init_45 : decode cX5_init 45 = .ok (.bipush 28, 2) := by decide +kernel
theorem dX5_init_47 : decode cX5_init 47 = .ok (.newarray .int, 2) := by decide +kernel
theorem dX5_init_49 : decode cX5_init 49 = .ok (.putfield 27, 3) := by decide +kernel
theorem dX5_init_52 : decode cX5_init 52 = .ok (.aload_n 0, 1) := by decide +kernel
theorem dX5_init_53 : decode cX5_init 53 = .ok (.iconst 4, 1) := by decide +kernel
theorem dX5_init_54 : decode cX5_init 54 = .ok (.newarray .int, 2) := by decide +kernel
theorem dX5_init_56 : decode cX5_init 56 = .ok (.putfield 30, 3) := by decide +kernel
theorem dX5_init_59 : decode cX5_init 59 = .ok (.aload_n 0, 1) := by decide +kernel
theorem dX5_init_60 : decode cX5_init 60 = .ok (.iconst 4, 1) := by decide +kernel
theorem dX5_init_61 : decode cX5_init 61 = .ok (.newarray .int, 2) := by decide +kernel
theorem dX5_init_63 : decode cX5_init 63 = .ok (.putfield 33, 3) := by decide +kernel
theorem dX5_init_66 : decode cX5_init 66 = .ok (.aload_n 0, 1) := by decide +kernel
theorem dX5_init_67 : decode cX5_init 67 = .ok (.iconst 4, 1) := by decide +kernel
theorem dX5_init_68 : decode cX5_init 68 = .ok (.newarray .int, 2) := by decide +kernel
theorem dX5_init_70 : decode cX5_init 70 = .ok (.putfield 36, 3) := by decide +kernel
theorem dX5_init_73 : decode cX5_init 73 = .ok (.aload_n 0, 1) := by decide +kernel
theorem dX5_init_74 : decode cX5_init 74 = .ok (.iconst 4, 1) := by decide +kernel
theorem dX5_init_75 : decode cX5_init 75 = .ok (.newarray .int, 2) := by decide +kernel
theorem dX5_init_77 : decode cX5_init 77 = .ok (.putfield 39, 3) := by decide +kernel
theorem dX5_init_80 : decode cX5_init 80 = .ok (.aload_n 0, 1) := by decide +kernel
theorem dX5_init_81 : decode cX5_init 81 = .ok (.bipush 8, 2) := by decide +kernel
theorem dX5_init_83 : decode cX5_init 83 = .ok (.newarray .int, 2) := by decide +kernel
theorem dX5_init_85 : decode cX5_init 85 = .ok (.putfield 42, 3) := by decide +kernel
theorem dX5_init_88 : decode cX5_init 88 = .ok (.aload_n 0, 1) := by decide +kernel
theorem dX5_init_89 : decode cX5_init 89 = .ok (.bipush 8, 2) := by decide +kernel
theorem dX5_init_91 : decode cX5_init 91 = .ok (.newarray .int, 2) := by decide +kernel
theorem dX5_init_93 : decode cX5_init 93 = .ok (.putfield 45, 3) := by decide +kernel
theorem dX5_init_96 : decode cX5_init 96 = .ok (.aload_n 0, 1) := by decide +kernel
theorem dX5_init_97 : decode cX5_init 97 = .ok (.aload_n 1, 1) := by decide +kernel
theorem dX5_init_98 : decode cX5_init 98 = .ok (.putfield 48, 3) := by decide +kernel
theorem dX5_init_101 : decode cX5_init 101 = .ok (.iconst 0, 1) := by decide +kernel
theorem dX5_init_102 : decode cX5_init 102 = .ok (.istore_n 2, 1) := by decide +kernel
theorem dX5_init_103 : decode cX5_init 103 = .ok (.iload_n 2, 1) := by decide +kernel
theorem dX5_init_104 : decode cX5_init 104 = .ok (.iconst 4, 1) := by decide +kernel
theorem dX5_init_105 : decode cX5_init 105 = .ok (.if_icmp .ge 16, 3) := by decide +kernel
theorem dX5_init_108 : decode cX5_init 108 = .ok (.aload_n 0, 1) := by decide +kernel
theorem dX5_init_109 : decode cX5_init 109 = .ok (.getfield 30, 3) := by decide +kernel
theorem dX5_init_112 : decode cX5_init 112 = .ok (.iload_n 2, 1) := by decide +kernel
theorem dX5_init_113 : decode cX5_init 113 = .ok (.iconst 3, 1) := by decide +kernel
theorem dX5_init_114 : decode cX5_init 114 = .ok (.iastore, 1) := by decide +kernel
theorem dX5_init_115 : decode cX5_init 115 = .ok (.iinc 2 1, 3) := by decide +kernel
theorem dX5_init_118 : decode cX5_init 118 = .ok (.goto (-15), 3) := by decide +kernel
theorem dX5_init_121 : decode cX5_init 121 = .ok (.return_, 1) := by decide +kernel
theorem dX5_copyFrom_0 : decode cX5_copyFrom 0 = .ok (.aload_n 1, 1) := by decide +kernel
theorem dX5_copyFrom_1 : decode cX5_copyFrom 1 = .ok (.getfield 9, 3) := by decide +kernel
theorem dX5_copyFrom_4 : decode cX5_copyFrom 4 = .ok (.iconst 0, 1) := by decide +kernel
theorem dX5_copyFrom_5 : decode cX5_copyFrom 5 = .ok (.aload_n 0, 1) := by decide +kernel
theorem dX5_copyFrom_6 : decode cX5_copyFrom 6 = .ok (.getfield 9, 3) := by decide +kernel
theorem dX5_copyFrom_9 : decode cX5_copyFrom 9 = .ok (.iconst 0, 1) := by decide +kernel
theorem dX5_copyFrom_10 : decode cX5_copyFrom 10 = .ok (.bipush 7, 2) := by decide +kernel
theorem dX5_copyFrom_12 : decode cX5_copyFrom 12 = .ok (.invokestatic 52, 3) := by decide +kernel
theorem dX5_copyFrom_15 : decode cX5_copyFrom 15 = .ok (.aload_n 1, 1) := by decide +kernel
theorem dX5_copyFrom_16 : decode cX5_copyFrom 16 = .ok (.getfield 15, 3) := by decide +kernel
theorem dX5_copyFrom_19 : decode cX5_copyFrom 19 = .ok (.iconst 0, 1) := by decide +kernel
theorem dX5_copyFrom_20 : decode cX5_copyFrom 20 = .ok (.aload_n 0, 1) := by decide +kernel
theorem dX5_copyFrom_21 : decode cX5_copyFrom 21 = .ok (.getfield 15, 3) := by decide +kernel
theorem dX5_copyFrom_24 : decode cX5_copyFrom 24 = .ok (.iconst 0, 1) := by decide +kernel
theorem dX5_copyFrom_25 : decode cX5_copyFrom 25 = .ok (.bipush 7, 2) := by decide +kernel
theorem dX5_copyFrom_27 : decode cX5_copyFrom 27 = .ok (.invokestatic 52, 3) := by decide +kernel
theorem dX5_copyFrom_30 : decode cX5_copyFrom 30 = .ok (.aload_n 1, 1) := by decide +kernel
theorem dX5_copyFrom_31 : decode cX5_copyFrom 31 = .ok (.getfield 18, 3) := by decide +kernel
theorem dX5_copyFrom_34 : decode cX5_copyFrom 34 = .ok (.iconst 0, 1) := by decide +kernel
theorem dX5_copyFrom_35 : decode cX5_copyFrom 35 = .ok (.aload_n 0, 1) := by decide +kernel
theorem dX5_copyFrom_36 : decode cX5_copyFrom 36 = .ok (.getfield 18, 3) := by decide +kernel
theorem dX5_copyFrom_39 : decode cX5_copyFrom 39 = .ok (.iconst 0, 1) := by decide +kernel
theorem dX5_copyFrom_40 : decode cX5_copyFrom 40 = .ok (.bipush 7, 2) := by decide +kernel
theorem dX5_copyFrom_42 : decode cX5_copyFrom 42 = .ok (.invokestatic 52, 3) := by decide +kernel
theorem dX5_copyFrom_45 : decode cX5_copyFrom 45 = .ok (.aload_n 1, 1) := by decide +kernel
theorem dX5_copyFrom_46 : decode cX5_copyFrom 46 = .ok (.getfield 21, 3) := by decide +kernel
theorem dX5_copyFrom_49 : decode cX5_copyFrom 49 = .ok (.iconst 0, 1) := by decide +kernel
theorem dX5_copyFrom_50 : decode cX5_copyFrom 50 = .ok (.aload_n 0, 1) := by decide +kernel
theorem dX5_copyFrom_51 : decode cX5_copyFrom 51 = .ok (.getfield 21, 3) := by decide +kernel
theorem dX5_copyFrom_54 : decode cX5_copyFrom 54 = .ok (.iconst 0, 1) := by decide +kernel
theorem dX5_copyFrom_55 : decode cX5_copyFrom 55 = .ok (.bipush 7, 2) := by decide +kernel
theorem dX5_copyFrom_57 : decode cX5_copyFrom 57 = .ok (.invokestatic 52, 3) := by decide +kernel
theorem dX5_copyFrom_60 : decode cX5_copyFrom 60 = .ok (.aload_n 1, 1) := by decide +kernel
theorem dX5_copyFrom_61 : decode cX5_copyFrom 61 = .ok (.getfield 24, 3) := by decide +kernel
theorem dX5_copyFrom_64 : decode cX5_copyFrom 64 = .ok (.iconst 0, 1) := by decide +kernel
theorem dX5_copyFrom_65 : decode cX5_copyFrom 65 = .ok (.aload_n 0, 1) := by decide +kernel
theorem dX5_copyFrom_66 : decode cX5_copyFrom 66 = .ok (.getfield 24, 3) := by decide +kernel
theorem dX5_copyFrom_69 : decode cX5_copyFrom 69 = .ok (.iconst 0, 1) := by decide +kernel
theorem dX5_copyFrom_70 : decode cX5_copyFrom 70 = .ok (.bipush 7, 2) := by decide +kernel
theorem dX5_copyFrom_72 : decode cX5_copyFrom 72 = .ok (.invokestatic 52, 3) := by decide +kernel
theorem dX5_copyFrom_75 : decode cX5_copyFrom 75 = .ok (.aload_n 1, 1) := by decide +kernel
theorem dX5_copyFrom_76 : decode cX5_copyFrom 76 = .ok (.getfield 27, 3) := by decide +kernel
theorem dX5_copyFrom_79 : decode cX5_copyFrom 79 = .ok (.iconst 0, 1) := by decide +kernel
theorem dX5_copyFrom_80 : decode cX5_copyFrom 80 = .ok (.aload_n 0, 1) := by decide +kernel
theorem dX5_copyFrom_81 : decode cX5_copyFrom 81 = .ok (.getfield 27, 3) := by decide +kernel
theorem dX5_copyFrom_84 : decode cX5_copyFrom 84 = .ok (.iconst 0, 1) := by decide +kernel
theorem dX5_copyFrom_85 : decode cX5_copyFrom 85 = .ok (.bipush 28, 2) := by decide +kernel
theorem dX5_copyFrom_87 : decode cX5_copyFrom 87 = .ok (.invokestatic 52, 3) := by decide +kernel
theorem dX5_copyFrom_90 : decode cX5_copyFrom 90 = .ok (.aload_n 0, 1) := by decide +kernel
theorem dX5_copyFrom_91 : decode cX5_copyFrom 91 = .ok (.aload_n 1, 1) := by decide +kernel
theorem dX5_copyFrom_92 : decode cX5_copyFrom 92 = .ok (.getfield 58, 3) := by decide +kernel
theorem dX5_copyFrom_95 : decode cX5_copyFrom 95 = .ok (.putfield 58, 3) := by decide +kernel
theorem dX5_copyFrom_98 : decode cX5_copyFrom 98 = .ok (.aload_n 0, 1) := by decide +kernel
theorem dX5_copyFrom_99 : decode cX5_copyFrom 99 = .ok (.aload_n 1, 1) := by decide +kernel
theorem dX5_copyFrom_100 : decode cX5_copyFrom 100 = .ok (.getfield 62, 3) := by decide +kernel
theorem dX5_copyFrom_103 : decode cX5_copyFrom 103 = .ok (.putfield 62, 3) := by decide +kernel
theorem dX5_copyFrom_106 : decode cX5_copyFrom 106 = .ok (.aload_n 1, 1) := by decide +kernel
theorem dX5_copyFrom_107 : decode cX5_copyFrom 107 = .ok (.getfield 30, 3) := by decide +kernel
theorem dX5_copyFrom_110 : decode cX5_copyFrom 110 = .ok (.iconst 0, 1) := by decide +kernel
theorem dX5_copyFrom_111 : decode cX5_copyFrom 111 = .ok (.aload_n 0, 1) := by decide +kernel
theorem dX5_copyFrom_112 : decode cX5_copyFrom 112 = .ok (.getfield 30, 3) := by decide +kernel
theorem dX5_copyFrom_115 : decode cX5_copyFrom 115 = .ok (.iconst 0, 1) := by decide +kernel
theorem dX5_copyFrom_116 : decode cX5_copyFrom 116 = .ok (.iconst 4, 1) := by decide +kernel
theorem dX5_copyFrom_117 : decode cX5_copyFrom 117 = .ok (.invokestatic 52, 3) := by decide +kernel
theorem dX5_copyFrom_120 : decode cX5_copyFrom 120 = .ok (.aload_n 0, 1) := by decide +kernel
theorem dX5_copyFrom_121 : decode cX5_copyFrom 121 = .ok (.aload_n 1, 1) := by decide +kernel
theorem dX5_copyFrom_122 : decode cX5_copyFrom 122 = .ok (.getfield 65, 3) := by decide +kernel
theorem dX5_copyFrom_125 : decode cX5_copyFrom 125 = .ok (.putfield 65, 3) := by decide +kernel
theorem dX5_copyFrom_128 : decode cX5_copyFrom 128 = .ok (.aload_n 0, 1) := by decide +kernel
theorem dX5_copyFrom_129 : decode cX5_copyFrom 129 = .ok (.aload_n 1, 1) := by decide +kernel
theorem dX5_copyFrom_130 : decode cX5_copyFrom 130 = .ok (.getfield 48, 3) := by decide +kernel
theorem dX5_copyFrom_133 : decode cX5_copyFrom 133 = .ok (.putfield 48, 3) := by decide +kernel
theorem dX5_copyFrom_136 : decode cX5_copyFrom 136 = .ok (.aload_n 1, 1) := by decide +kernel
theorem dX5_copyFrom_137 : decode cX5_copyFrom 137 = .ok (.getfield 33, 3) := by decide +kernel
theorem dX5_copyFrom_140 : decode cX5_copyFrom 140 = .ok (.iconst 0, 1) := by decide +kernel
theorem dX5_copyFrom_141 : decode cX5_copyFrom 141 = .ok (.aload_n 0, 1) := by decide +kernel
theorem dX5_copyFrom_142 : decode cX5_copyFrom 142 = .ok (.getfield 33, 3) := by decide +kernel
theorem dX5_copyFrom_145 : decode cX5_copyFrom 145 = .ok (.iconst 0, 1) := by decide +kernel
theorem dX5_copyFrom_146 : decode cX5_copyFrom 146 = .ok (.iconst 4, 1) := by decide +kernel
theorem dX5_copyFrom_147 : decode cX5_copyFrom 147 = .ok (.invokestatic 52, 3) := by decide +kernel
theorem dX5_copyFrom_150 : decode cX5_copyFrom 150 = .ok (.aload_n 1, 1) := by decide +kernel
theorem dX5_copyFrom_151 : decode cX5_copyFrom 151 = .ok (.getfield 36, 3) := by decide +kernel
theorem dX5_copyFrom_154 : decode cX5_copyFrom 154 = .ok (.iconst 0, 1) := by decide +kernel
theorem dX5_copyFrom_155 : decode cX5_copyFrom 155 = .ok (.aload_n 0, 1) := by decide +kernel
theorem dX5_copyFrom_156 : decode cX5_copyFrom 156 = .ok (.getfield 36, 3) := by decide +kernel
theorem dX5_copyFrom_159 : decode cX5_copyFrom 159 = .ok (.iconst 0, 1) := by decide +kernel
theorem dX5_copyFrom_160 : decode cX5_copyFrom 160 = .ok (.iconst 4, 1) := by decide +kernel
theorem dX5_copyFrom_161 : decode cX5_copyFrom 161 = .ok (.invokestatic 52, 3) := by decide +kernel
theorem dX5_copyFrom_164 : decode cX5_copyFrom 164 = .ok (.aload_n 1, 1) := by decide +kernel
theorem dX5_copyFrom_165 : decode cX5_copyFrom 165 = .ok (.getfield 39, 3) := by decide +kernel
theorem dX5_copyFrom_168 : decode cX5_copyFrom 168 = .ok (.iconst 0, 1) := by decide +kernel
theorem dX5_copyFrom_169 : decode cX5_copyFrom 169 = .ok (.aload_n 0, 1) := by decide +kernel
theorem dX5_copyFrom_170 : decode cX5_copyFrom 170 = .ok (.getfield 39, 3) := by decide +kernel
theorem dX5_copyFrom_173 : decode cX5_copyFrom 173 = .ok (.iconst 0, 1) := by decide +kernel
theorem dX5_copyFrom_174 : decode cX5_copyFrom 174 = .ok (.iconst 4, 1) := by decide +kernel
theorem dX5_copyFrom_175 : decode cX5_copyFrom 175 = .ok (.invokestatic 52, 3) := by decide +kernel
theorem dX5_copyFrom_178 : decode cX5_copyFrom 178 = .ok (.aload_n 0, 1) := by decide +kernel
theorem dX5_copyFrom_179 : decode cX5_copyFrom 179 = .ok (.aload_n 1, 1) := by decide +kernel
theorem dX5_copyFrom_180 : decode cX5_copyFrom 180 = .ok (.getfield 68, 3) := by decide +kernel
theorem dX5_copyFrom_183 : decode cX5_copyFrom 183 = .ok (.putfield 68, 3) := by decide +kernel
theorem dX5_copyFrom_186 : decode cX5_copyFrom 186 = .ok (.aload_n 1, 1) := by decide +kernel
theorem dX5_copyFrom_187 : decode cX5_copyFrom 187 = .ok (.getfield 42, 3) := by decide +kernel
theorem dX5_copyFrom_190 : decode cX5_copyFrom 190 = .ok (.iconst 0, 1) := by decide +kernel
theorem dX5_copyFrom_191 : decode cX5_copyFrom 191 = .ok (.aload_n 0, 1) := by decide +kernel
theorem dX5_copyFrom_192 : decode cX5_copyFrom 192 = .ok (.getfield 42, 3) := by decide +kernel
theorem dX5_copyFrom_195 : decode cX5_copyFrom 195 = .ok (.iconst 0, 1) := by decide +kernel
theorem dX5_copyFrom_196 : decode cX5_copyFrom 196 = .ok (.bipush 8, 2) := by decide +kernel
theorem dX5_copyFrom_198 : decode cX5_copyFrom 198 = .ok (.invokestatic 52, 3) := by decide +kernel
theorem dX5_copyFrom_201 : decode cX5_copyFrom 201 = .ok (.aload_n 1, 1) := by decide +kernel
theorem dX5_copyFrom_202 : decode cX5_copyFrom 202 = .ok (.getfield 45, 3) := by decide +kernel
theorem dX5_copyFrom_205 : decode cX5_copyFrom 205 = .ok (.iconst 0, 1) := by decide +kernel
theorem dX5_copyFrom_206 : decode cX5_copyFrom 206 = .ok (.aload_n 0, 1) := by decide +kernel
theorem dX5_copyFrom_207 : decode cX5_copyFrom 207 = .ok (.getfield 45, 3) := by decide +kernel
theorem dX5_copyFrom_210 : decode cX5_copyFrom 210 = .ok (.iconst 0, 1) := by decide +kernel
theorem dX5_copyFrom_211 : decode cX5_copyFrom 211 = .ok (.bipush 8, 2) := by decide +kernel
theorem dX5_copyFrom_213 : decode cX5_copyFrom 213 = .ok (.invokestatic 52, 3) := by decide +kernel
theorem dX5_copyFrom_216 : decode cX5_copyFrom 216 = .ok (.aload_n 0, 1) := by decide +kernel
theorem dX5_copyFrom_217 : decode cX5_copyFrom 217 = .ok (.aload_n 1, 1) := by decide +kernel
theorem dX5_copyFrom_218 : decode cX5_copyFrom 218 = .ok (.getfield 71, 3) := by decide +kernel
theorem dX5_copyFrom_221 : decode cX5_copyFrom 221 = .ok (.putfield 71, 3) := by decide +kernel
theorem dX5_copyFrom_224 : decode cX5_copyFrom 224 = .ok (.return_, 1) := by decide +kernel
theorem dX5_has_0 : decode cX5_has 0 = .ok (.iload_n 1, 1) := by decide +kernel
theorem dX5_has_1 : decode cX5_has 1 = .ok (.ifCond .lt 15, 3) := by decide +kernel
theorem dX5_has_4 : decode cX5_has 4 = .ok (.iload_n 1, 1) := by decide +kernel
theorem dX5_has_5 : decode cX5_has 5 = .ok (.aload_n 0, 1) := by decide +kernel
theorem dX5_has_6 : decode cX5_has 6 = .ok (.getfield 58, 3) := by decide +kernel
theorem dX5_has_9 : decode cX5_has 9 = .ok (.if_icmp .ge 7, 3) := by decide +kernel
theorem dX5_has_12 : decode cX5_has 12 = .ok (.iconst 1, 1) := by decide +kernel
theorem dX5_has_13 : decode cX5_has 13 = .ok (.goto 4, 3) := by decide +kernel
theorem dX5_has_16 : decode cX5_has 16 = .ok (.iconst 0, 1) := by decide +kernel
theorem dX5_has_17 : decode cX5_has 17 = .ok (.ireturn, 1) := by decide +kernel
theorem dX5_isAtWall_0 : decode cX5_isAtWall 0 = .ok (.aload_n 0, 1) := by decide +kernel
theorem dX5_isAtWall_1 : decode cX5_isAtWall 1 = .ok (.getfield 62, 3) := by decide +kernel
theorem dX5_isAtWall_4 : decode cX5_isAtWall 4 = .ok (.iload_n 1, 1) := by decide +kernel
theorem dX5_isAtWall_5 : decode cX5_isAtWall 5 = .ok (.ishr, 1) := by decide +kernel
theorem dX5_isAtWall_6 : decode cX5_isAtWall 6 = .ok (.iconst 1, 1) := by decide +kernel
theorem dX5_isAtWall_7 : decode cX5_isAtWall 7 = .ok (.iand, 1) := by decide +kernel
theorem dX5_isAtWall_8 : decode cX5_isAtWall 8 = .ok (.ifCond .eq 7, 3) := by decide +kernel
theorem dX5_isAtWall_11 : decode cX5_isAtWall 11 = .ok (.iconst 1, 1) := by decide +kernel
theorem dX5_isAtWall_12 : decode cX5_isAtWall 12 = .ok (.goto 4, 3) := by decide +kernel
theorem dX5_isAtWall_15 : decode cX5_isAtWall 15 = .ok (.iconst 0, 1) := by decide +kernel
theorem dX5_isAtWall_16 : decode cX5_isAtWall 16 = .ok (.ireturn, 1) := by decide +kernel
theorem dX5_everybody_0 : decode cX5_everybody 0 = .ok (.iconst 1, 1) := by decide +kernel
theorem dX5_everybody_1 : decode cX5_everybody 1 = .ok (.aload_n 0, 1) := by decide +kernel
theorem dX5_everybody_2 : decode cX5_everybody 2 = .ok (.getfield 58, 3) := by decide +kernel
theorem dX5_everybody_5 : decode cX5_everybody 5 = .ok (.ishl, 1) := by decide +kernel
theorem dX5_everybody_6 : decode cX5_everybody 6 = .ok (.iconst 1, 1) := by decide +kernel
theorem dX5_everybody_7 : decode cX5_everybody 7 = .ok (.isub, 1) := by decide +kernel
theorem dX5_everybody_8 : decode cX5_everybody 8 = .ok (.ireturn, 1) := by decide +kernel
theorem dX5_placeNow_0 : decode cX5_placeNow 0 = .ok (.aload_n 0, 1) := by decide +kernel
theorem dX5_placeNow_1 : decode cX5_placeNow 1 = .ok (.getfield 65, 3) := by decide +kernel
theorem dX5_placeNow_4 : decode cX5_placeNow 4 = .ok (.iconst 3, 1) := by decide +kernel
theorem dX5_placeNow_5 : decode cX5_placeNow 5 = .ok (.iand, 1) := by decide +kernel
theorem dX5_placeNow_6 : decode cX5_placeNow 6 = .ok (.ireturn, 1) := by decide +kernel
theorem dX5_addChild_0 : decode cX5_addChild 0 = .ok (.aload_n 0, 1) := by decide +kernel
theorem dX5_addChild_1 : decode cX5_addChild 1 = .ok (.getfield 58, 3) := by decide +kernel
theorem dX5_addChild_4 : decode cX5_addChild 4 = .ok (.istore_n 3, 1) := by decide +kernel
theorem dX5_addChild_5 : decode cX5_addChild 5 = .ok (.aload_n 0, 1) := by decide +kernel
theorem dX5_addChild_6 : decode cX5_addChild 6 = .ok (.getfield 9, 3) := by decide +kernel
theorem dX5_addChild_9 : decode cX5_addChild 9 = .ok (.iload_n 3, 1) := by decide +kernel
theorem dX5_addChild_10 : decode cX5_addChild 10 = .ok (.iload_n 1, 1) := by decide +kernel
theorem dX5_addChild_11 : decode cX5_addChild 11 = .ok (.iastore, 1) := by decide +kernel
theorem dX5_addChild_12 : decode cX5_addChild 12 = .ok (.aload_n 0, 1) := by decide +kernel
theorem dX5_addChild_13 : decode cX5_addChild 13 = .ok (.getfield 15, 3) := by decide +kernel
theorem dX5_addChild_16 : decode cX5_addChild 16 = .ok (.iload_n 3, 1) := by decide +kernel
theorem dX5_addChild_17 : decode cX5_addChild 17 = .ok (.iload_n 2, 1) := by decide +kernel
theorem dX5_addChild_18 : decode cX5_addChild 18 = .ok (.iastore, 1) := by decide +kernel
theorem dX5_addChild_19 : decode cX5_addChild 19 = .ok (.aload_n 0, 1) := by decide +kernel
theorem dX5_addChild_20 : decode cX5_addChild 20 = .ok (.getfield 18, 3) := by decide +kernel
theorem dX5_addChild_23 : decode cX5_addChild 23 = .ok (.iload_n 3, 1) := by decide +kernel
theorem dX5_addChild_24 : decode cX5_addChild 24 = .ok (.iconst 0, 1) := by decide +kernel
theorem dX5_addChild_25 : decode cX5_addChild 25 = .ok (.iastore, 1) := by decide +kernel
theorem dX5_addChild_26 : decode cX5_addChild 26 = .ok (.aload_n 0, 1) := by decide +kernel
theorem dX5_addChild_27 : decode cX5_addChild 27 = .ok (.getfield 21, 3) := by decide +kernel
theorem dX5_addChild_30 : decode cX5_addChild 30 = .ok (.iload_n 3, 1) := by decide +kernel
theorem dX5_addChild_31 : decode cX5_addChild 31 = .ok (.iconst 1, 1) := by decide +kernel
theorem dX5_addChild_32 : decode cX5_addChild 32 = .ok (.iastore, 1) := by decide +kernel
theorem dX5_addChild_33 : decode cX5_addChild 33 = .ok (.aload_n 0, 1) := by decide +kernel
theorem dX5_addChild_34 : decode cX5_addChild 34 = .ok (.getfield 24, 3) := by decide +kernel
theorem dX5_addChild_37 : decode cX5_addChild 37 = .ok (.iload_n 3, 1) := by decide +kernel
theorem dX5_addChild_38 : decode cX5_addChild 38 = .ok (.iconst 0, 1) := by decide +kernel
theorem dX5_addChild_39 : decode cX5_addChild 39 = .ok (.iastore, 1) := by decide +kernel
theorem dX5_addChild_40 : decode cX5_addChild 40 = .ok (.iconst 0, 1) := by decide +kernel
theorem dX5_addChild_41 : decode cX5_addChild 41 = .ok (.istore 4, 2) := by decide +kernel
theorem dX5_addChild_43 : decode cX5_addChild 43 = .ok (.iload 4, 2) := by decide +kernel
theorem dX5_addChild_45 : decode cX5_addChild 45 = .ok (.iconst 4, 1) := by decide +kernel
theorem dX5_addChild_46 : decode cX5_addChild 46 = .ok (.if_icmp .ge 21, 3) := by decide +kernel
theorem dX5_addChild_49 : decode cX5_addChild 49 = .ok (.aload_n 0, 1) := by decide +kernel
theorem dX5_addChild_50 : decode cX5_addChild 50 = .ok (.getfield 27, 3) := by decide +kernel
theorem dX5_addChild_53 : decode cX5_addChild 53 = .ok (.iload_n 3, 1) := by decide +kernel
theorem dX5_addChild_54 : decode cX5_addChild 54 = .ok (.iconst 4, 1) := by decide +kernel
theorem dX5_addChild_55 : decode cX5_addChild 55 = .ok (.imul, 1) := by decide +kernel
theorem dX5_addChild_56 : decode cX5_addChild 56 = .ok (.iload 4, 2) := by decide +kernel
theorem dX5_addChild_58 : decode cX5_addChild 58 = .ok (.iadd, 1) := by decide +kernel
theorem dX5_addChild_59 : decode cX5_addChild 59 = .ok (.iconst 0, 1) := by decide +kernel
theorem dX5_addChild_60 : decode cX5_addChild 60 = .ok (.iastore, 1) := by decide +kernel
theorem dX5_addChild_61 : decode cX5_addChild 61 = .ok (.iinc 4 1, 3) := by decide +kernel
theorem dX5_addChild_64 : decode cX5_addChild 64 = .ok (.goto (-21), 3) := by decide +kernel
theorem dX5_addChild_67 : decode cX5_addChild 67 = .ok (.aload_n 0, 1) := by decide +kernel
theorem dX5_addChild_68 : decode cX5_addChild 68 = .ok (.dup, 1) := by decide +kernel
theorem dX5_addChild_69 : decode cX5_addChild 69 = .ok (.getfield 58, 3) := by decide +kernel
theorem dX5_addChild_72 : decode cX5_addChild 72 = .ok (.iconst 1, 1) := by decide +kernel
theorem dX5_addChild_73 : decode cX5_addChild 73 = .ok (.iadd, 1) := by decide +kernel
theorem dX5_addChild_74 : decode cX5_addChild 74 = .ok (.putfield 58, 3) := by decide +kernel
theorem dX5_addChild_77 : decode cX5_addChild 77 = .ok (.iload_n 3, 1) := by decide +kernel
theorem dX5_addChild_78 : decode cX5_addChild 78 = .ok (.ireturn, 1) := by decide +kernel
theorem dX5_putOnTheWay_0 : decode cX5_putOnTheWay 0 = .ok (.aload_n 0, 1) := by decide +kernel
theorem dX5_putOnTheWay_1 : decode cX5_putOnTheWay 1 = .ok (.getfield 18, 3) := by decide +kernel
theorem dX5_putOnTheWay_4 : decode cX5_putOnTheWay 4 = .ok (.iload_n 1, 1) := by decide +kernel
theorem dX5_putOnTheWay_5 : decode cX5_putOnTheWay 5 = .ok (.iload_n 2, 1) := by decide +kernel
theorem dX5_putOnTheWay_6 : decode cX5_putOnTheWay 6 = .ok (.iastore, 1) := by decide +kernel
theorem dX5_putOnTheWay_7 : decode cX5_putOnTheWay 7 = .ok (.aload_n 0, 1) := by decide +kernel
theorem dX5_putOnTheWay_8 : decode cX5_putOnTheWay 8 = .ok (.dup, 1) := by decide +kernel
theorem dX5_putOnTheWay_9 : decode cX5_putOnTheWay 9 = .ok (.getfield 62, 3) := by decide +kernel
theorem dX5_putOnTheWay_12 : decode cX5_putOnTheWay 12 = .ok (.iconst 1, 1) := by decide +kernel
theorem dX5_putOnTheWay_13 : decode cX5_putOnTheWay 13 = .ok (.iload_n 1, 1) := by decide +kernel
theorem dX5_putOnTheWay_14 : decode cX5_putOnTheWay 14 = .ok (.ishl, 1) := by decide +kernel
theorem dX5_putOnTheWay_15 : decode cX5_putOnTheWay 15 = .ok (.iconst (-1), 1) := by decide +kernel
theorem dX5_putOnTheWay_16 : decode cX5_putOnTheWay 16 = .ok (.ixor, 1) := by decide +kernel
theorem dX5_putOnTheWay_17 : decode cX5_putOnTheWay 17 = .ok (.iand, 1) := by decide +kernel
theorem dX5_putOnTheWay_18 : decode cX5_putOnTheWay 18 = .ok (.putfield 62, 3) := by decide +kernel
theorem dX5_putOnTheWay_21 : decode cX5_putOnTheWay 21 = .ok (.return_, 1) := by decide +kernel
theorem dX5_addSeen_0 : decode cX5_addSeen 0 = .ok (.aload_n 0, 1) := by decide +kernel
theorem dX5_addSeen_1 : decode cX5_addSeen 1 = .ok (.getfield 33, 3) := by decide +kernel
theorem dX5_addSeen_4 : decode cX5_addSeen 4 = .ok (.aload_n 0, 1) := by decide +kernel
theorem dX5_addSeen_5 : decode cX5_addSeen 5 = .ok (.getfield 68, 3) := by decide +kernel
theorem dX5_addSeen_8 : decode cX5_addSeen 8 = .ok (.iload_n 1, 1) := by decide +kernel
theorem dX5_addSeen_9 : decode cX5_addSeen 9 = .ok (.iastore, 1) := by decide +kernel
theorem dX5_addSeen_10 : decode cX5_addSeen 10 = .ok (.aload_n 0, 1) := by decide +kernel
theorem dX5_addSeen_11 : decode cX5_addSeen 11 = .ok (.getfield 36, 3) := by decide +kernel
theorem dX5_addSeen_14 : decode cX5_addSeen 14 = .ok (.aload_n 0, 1) := by decide +kernel
theorem dX5_addSeen_15 : decode cX5_addSeen 15 = .ok (.getfield 68, 3) := by decide +kernel
theorem dX5_addSeen_18 : decode cX5_addSeen 18 = .ok (.iload_n 2, 1) := by decide +kernel
theorem dX5_addSeen_19 : decode cX5_addSeen 19 = .ok (.iastore, 1) := by decide +kernel
theorem dX5_addSeen_20 : decode cX5_addSeen 20 = .ok (.aload_n 0, 1) := by decide +kernel
theorem dX5_addSeen_21 : decode cX5_addSeen 21 = .ok (.getfield 39, 3) := by decide +kernel
theorem dX5_addSeen_24 : decode cX5_addSeen 24 = .ok (.aload_n 0, 1) := by decide +kernel
theorem dX5_addSeen_25 : decode cX5_addSeen 25 = .ok (.getfield 68, 3) := by decide +kernel
theorem dX5_addSeen_28 : decode cX5_addSeen 28 = .ok (.iload_n 3, 1) := by decide +kernel
theorem dX5_addSeen_29 : decode cX5_addSeen 29 = .ok (.iastore, 1) := by decide +kernel
theorem dX5_addSeen_30 : decode cX5_addSeen 30 = .ok (.aload_n 0, 1) := by decide +kernel
theorem dX5_addSeen_31 : decode cX5_addSeen 31 = .ok (.dup, 1) := by decide +kernel
theorem dX5_addSeen_32 : decode cX5_addSeen 32 = .ok (.getfield 68, 3) := by decide +kernel
theorem dX5_addSeen_35 : decode cX5_addSeen 35 = .ok (.iconst 1, 1) := by decide +kernel
theorem dX5_addSeen_36 : decode cX5_addSeen 36 = .ok (.iadd, 1) := by decide +kernel
theorem dX5_addSeen_37 : decode cX5_addSeen 37 = .ok (.putfield 68, 3) := by decide +kernel
theorem dX5_addSeen_40 : decode cX5_addSeen 40 = .ok (.aload_n 0, 1) := by decide +kernel
theorem dX5_addSeen_41 : decode cX5_addSeen 41 = .ok (.getfield 68, 3) := by decide +kernel
theorem dX5_addSeen_44 : decode cX5_addSeen 44 = .ok (.ireturn, 1) := by decide +kernel
theorem dX5_addToBook_0 : decode cX5_addToBook 0 = .ok (.aload_n 0, 1) := by decide +kernel
theorem dX5_addToBook_1 : decode cX5_addToBook 1 = .ok (.getfield 42, 3) := by decide +kernel
theorem dX5_addToBook_4 : decode cX5_addToBook 4 = .ok (.aload_n 0, 1) := by decide +kernel
theorem dX5_addToBook_5 : decode cX5_addToBook 5 = .ok (.getfield 71, 3) := by decide +kernel
theorem dX5_addToBook_8 : decode cX5_addToBook 8 = .ok (.iload_n 1, 1) := by decide +kernel
theorem dX5_addToBook_9 : decode cX5_addToBook 9 = .ok (.iastore, 1) := by decide +kernel
theorem dX5_addToBook_10 : decode cX5_addToBook 10 = .ok (.aload_n 0, 1) := by decide +kernel
theorem dX5_addToBook_11 : decode cX5_addToBook 11 = .ok (.getfield 45, 3) := by decide +kernel
theorem dX5_addToBook_14 : decode cX5_addToBook 14 = .ok (.aload_n 0, 1) := by decide +kernel
theorem dX5_addToBook_15 : decode cX5_addToBook 15 = .ok (.getfield 71, 3) := by decide +kernel
theorem dX5_addToBook_18 : decode cX5_addToBook 18 = .ok (.iload_n 2, 1) := by decide +kernel
theorem dX5_addToBook_19 : decode cX5_addToBook 19 = .ok (.iastore, 1) := by decide +kernel
theorem dX5_addToBook_20 : decode cX5_addToBook 20 = .ok (.aload_n 0, 1) := by decide +kernel
theorem dX5_addToBook_21 : decode cX5_addToBook 21 = .ok (.dup, 1) := by decide +kernel
theorem dX5_addToBook_22 : decode cX5_addToBook 22 = .ok (.getfield 71, 3) := by decide +kernel
theorem dX5_addToBook_25 : decode cX5_addToBook 25 = .ok (.iconst 1, 1) := by decide +kernel
theorem dX5_addToBook_26 : decode cX5_addToBook 26 = .ok (.iadd, 1) := by decide +kernel
theorem dX5_addToBook_27 : decode cX5_addToBook 27 = .ok (.putfield 71, 3) := by decide +kernel
theorem dX5_addToBook_30 : decode cX5_addToBook 30 = .ok (.aload_n 0, 1) := by decide +kernel
theorem dX5_addToBook_31 : decode cX5_addToBook 31 = .ok (.getfield 71, 3) := by decide +kernel
theorem dX5_addToBook_34 : decode cX5_addToBook 34 = .ok (.ireturn, 1) := by decide +kernel
theorem dX6_init_0 : decode cX6_init 0 = .ok (.aload_n 0, 1) := by decide +kernel
theorem dX6_init_1 : decode cX6_init 1 = .ok (.invokespecial 1, 3) := by decide +kernel
theorem dX6_init_4 : decode cX6_init 4 = .ok (.return_, 1) := by decide +kernel
theorem dX6_paceOf_0 : decode cX6_paceOf 0 = .ok (.iconst 1, 1) := by decide +kernel
theorem dX6_paceOf_1 : decode cX6_paceOf 1 = .ok (.iload_n 1, 1) := by decide +kernel
theorem dX6_paceOf_2 : decode cX6_paceOf 2 = .ok (.iconst 4, 1) := by decide +kernel
theorem dX6_paceOf_3 : decode cX6_paceOf 3 = .ok (.idiv, 1) := by decide +kernel
theorem dX6_paceOf_4 : decode cX6_paceOf 4 = .ok (.iadd, 1) := by decide +kernel
theorem dX6_paceOf_5 : decode cX6_paceOf 5 = .ok (.ireturn, 1) := by decide +kernel
theorem dX6_wobblesOf_0 : decode cX6_wobblesOf 0 = .ok (.iconst 3, 1) := by decide +kernel
theorem dX6_wobblesOf_1 : decode cX6_wobblesOf 1 = .ok (.aload_n 0, 1) := by decide +kernel
theorem dX6_wobblesOf_2 : decode cX6_wobblesOf 2 = .ok (.iload_n 1, 1) := by decide +kernel
theorem dX6_wobblesOf_3 : decode cX6_wobblesOf 3 = .ok (.iload_n 2, 1) := by decide +kernel
theorem dX6_wobblesOf_4 : decode cX6_wobblesOf 4 = .ok (.iload_n 3, 1) := by decide +kernel
theorem dX6_wobblesOf_5 : decode cX6_wobblesOf 5 = .ok (.iload 4, 2) := by decide +kernel
theorem dX6_wobblesOf_7 : decode cX6_wobblesOf 7 = .ok (.iload 5, 2) := by decide +kernel
theorem dX6_wobblesOf_9 : decode cX6_wobblesOf 9 = .ok (.invokespecial 7, 3) := by decide +kernel
theorem dX6_wobblesOf_12 : decode cX6_wobblesOf 12 = .ok (.invokestatic 11, 3) := by decide +kernel
theorem dX6_wobblesOf_15 : decode cX6_wobblesOf 15 = .ok (.ireturn, 1) := by decide +kernel
theorem dX6_telling_0 : decode cX6_telling 0 = .ok (.aload_n 1, 1) := by decide +kernel
theorem dX6_telling_1 : decode cX6_telling 1 = .ok (.bipush 40, 2) := by decide +kernel
theorem dX6_telling_3 : decode cX6_telling 3 = .ok (.invokevirtual 17, 3) := by decide +kernel
theorem dX6_telling_6 : decode cX6_telling 6 = .ok (.aload_n 0, 1) := by decide +kernel
theorem dX6_telling_7 : decode cX6_telling 7 = .ok (.aload_n 1, 1) := by decide +kernel
theorem dX6_telling_8 : decode cX6_telling 8 = .ok (.iload_n 2, 1) := by decide +kernel
theorem dX6_telling_9 : decode cX6_telling 9 = .ok (.invokespecial 23, 3) := by decide +kernel
theorem dX6_telling_12 : decode cX6_telling 12 = .ok (.aload_n 0, 1) := by decide +kernel
theorem dX6_telling_13 : decode cX6_telling 13 = .ok (.aload_n 1, 1) := by decide +kernel
theorem dX6_telling_14 : decode cX6_telling 14 = .ok (.iconst 1, 1) := by decide +kernel
theorem dX6_telling_15 : decode cX6_telling 15 = .ok (.invokevirtual 27, 3) := by decide +kernel
theorem dX6_telling_18 : decode cX6_telling 18 = .ok (.iadd, 1) := by decide +kernel
theorem dX6_telling_19 : decode cX6_telling 19 = .ok (.ireturn, 1) := by decide +kernel
theorem dX7_init_0 : decode cX7_init 0 = .ok (.aload_n 0, 1) := by decide +kernel
theorem dX7_init_1 : decode cX7_init 1 = .ok (.invokespecial 1, 3) := by decide +kernel
theorem dX7_init_4 : decode cX7_init 4 = .ok (.return_, 1) := by decide +kernel
theorem dX7_wobblesOf_0 : decode cX7_wobblesOf 0 = .ok (.iconst 0, 1) := by decide +kernel
theorem dX7_wobblesOf_1 : decode cX7_wobblesOf 1 = .ok (.aload_n 0, 1) := by decide +kernel
theorem dX7_wobblesOf_2 : decode cX7_wobblesOf 2 = .ok (.iload_n 1, 1) := by decide +kernel
theorem dX7_wobblesOf_3 : decode cX7_wobblesOf 3 = .ok (.iload_n 2, 1) := by decide +kernel
theorem dX7_wobblesOf_4 : decode cX7_wobblesOf 4 = .ok (.iload_n 3, 1) := by decide +kernel
theorem dX7_wobblesOf_5 : decode cX7_wobblesOf 5 = .ok (.iload 4, 2) := by decide +kernel
theorem dX7_wobblesOf_7 : decode cX7_wobblesOf 7 = .ok (.iload 5, 2) := by decide +kernel
theorem dX7_wobblesOf_9 : decode cX7_wobblesOf 9 = .ok (.invokespecial 7, 3) := by decide +kernel
theorem dX7_wobblesOf_12 : decode cX7_wobblesOf 12 = .ok (.iload_n 1, 1) := by decide +kernel
theorem dX7_wobblesOf_13 : decode cX7_wobblesOf 13 = .ok (.isub, 1) := by decide +kernel
theorem dX7_wobblesOf_14 : decode cX7_wobblesOf 14 = .ok (.invokestatic 11, 3) := by decide +kernel
theorem dX7_wobblesOf_17 : decode cX7_wobblesOf 17 = .ok (.ireturn, 1) := by decide +kernel
theorem dX7_running_0 : decode cX7_running 0 = .ok (.aload_n 1, 1) := by decide +kernel
theorem dX7_running_1 : decode cX7_running 1 = .ok (.bipush 30, 2) := by decide +kernel
theorem dX7_running_3 : decode cX7_running 3 = .ok (.invokevirtual 17, 3) := by decide +kernel
theorem dX7_running_6 : decode cX7_running 6 = .ok (.aload_n 0, 1) := by decide +kernel
theorem dX7_running_7 : decode cX7_running 7 = .ok (.aload_n 1, 1) := by decide +kernel
theorem dX7_running_8 : decode cX7_running 8 = .ok (.iload_n 2, 1) := by decide +kernel
theorem dX7_running_9 : decode cX7_running 9 = .ok (.iconst 3, 1) := by decide +kernel
theorem dX7_running_10 : decode cX7_running 10 = .ok (.imul, 1) := by decide +kernel
theorem dX7_running_11 : decode cX7_running 11 = .ok (.invokespecial 23, 3) := by decide +kernel
theorem dX7_running_14 : decode cX7_running 14 = .ok (.ireturn, 1) := by decide +kernel
theorem dX8_init_0 : decode cX8_init 0 = .ok (.aload_n 0, 1) := by decide +kernel
theorem dX8_init_1 : decode cX8_init 1 = .ok (.invokespecial 1, 3) := by decide +kernel
theorem dX8_init_4 : decode cX8_init 4 = .ok (.return_, 1) := by decide +kernel
theorem dX8_paceOf_0 : decode cX8_paceOf 0 = .ok (.aload_n 0, 1) := by decide +kernel
theorem dX8_paceOf_1 : decode cX8_paceOf 1 = .ok (.iload_n 1, 1) := by decide +kernel
theorem dX8_paceOf_2 : decode cX8_paceOf 2 = .ok (.iload_n 2, 1) := by decide +kernel
theorem dX8_paceOf_3 : decode cX8_paceOf 3 = .ok (.invokespecial 7, 3) := by decide +kernel
theorem dX8_paceOf_6 : decode cX8_paceOf 6 = .ok (.iload_n 2, 1) := by decide +kernel
theorem dX8_paceOf_7 : decode cX8_paceOf 7 = .ok (.iadd, 1) := by decide +kernel
theorem dX8_paceOf_8 : decode cX8_paceOf 8 = .ok (.ireturn, 1) := by decide +kernel
theorem dX8_running_0 : decode cX8_running 0 = .ok (.aload_n 1, 1) := by decide +kernel
theorem dX8_running_1 : decode cX8_running 1 = .ok (.bipush 71, 2) := by decide +kernel
theorem dX8_running_3 : decode cX8_running 3 = .ok (.invokevirtual 11, 3) := by decide +kernel
theorem dX8_running_6 : decode cX8_running 6 = .ok (.aload_n 0, 1) := by decide +kernel
theorem dX8_running_7 : decode cX8_running 7 = .ok (.aload_n 1, 1) := by decide +kernel
theorem dX8_running_8 : decode cX8_running 8 = .ok (.iload_n 2, 1) := by decide +kernel
theorem dX8_running_9 : decode cX8_running 9 = .ok (.invokespecial 17, 3) := by decide +kernel
theorem dX8_running_12 : decode cX8_running 12 = .ok (.aload_n 1, 1) := by decide +kernel
theorem dX8_running_13 : decode cX8_running 13 = .ok (.getfield 21, 3) := by decide +kernel
theorem dX8_running_16 : decode cX8_running 16 = .ok (.ixor, 1) := by decide +kernel
theorem dX8_running_17 : decode cX8_running 17 = .ok (.ireturn, 1) := by decide +kernel
theorem dX8_standing_0 : decode cX8_standing 0 = .ok (.aload_n 1, 1) := by decide +kernel
theorem dX8_standing_1 : decode cX8_standing 1 = .ok (.bipush 70, 2) := by decide +kernel
theorem dX8_standing_3 : decode cX8_standing 3 = .ok (.invokevirtual 11, 3) := by decide +kernel
theorem dX8_standing_6 : decode cX8_standing 6 = .ok (.aload_n 0, 1) := by decide +kernel
theorem dX8_standing_7 : decode cX8_standing 7 = .ok (.aload_n 1, 1) := by decide +kernel
theorem dX8_standing_8 : decode cX8_standing 8 = .ok (.iload_n 2, 1) := by decide +kernel
theorem dX8_standing_9 : decode cX8_standing 9 = .ok (.invokespecial 25, 3) := by decide +kernel
theorem dX8_standing_12 : decode cX8_standing 12 = .ok (.aload_n 0, 1) := by decide +kernel
theorem dX8_standing_13 : decode cX8_standing 13 = .ok (.aload_n 1, 1) := by decide +kernel
theorem dX8_standing_14 : decode cX8_standing 14 = .ok (.iconst 2, 1) := by decide +kernel
theorem dX8_standing_15 : decode cX8_standing 15 = .ok (.invokespecial 17, 3) := by decide +kernel
theorem dX8_standing_18 : decode cX8_standing 18 = .ok (.iadd, 1) := by decide +kernel
theorem dX8_standing_19 : decode cX8_standing 19 = .ok (.ireturn, 1) := by decide +kernel
theorem dX9_init_0 : decode cX9_init 0 = .ok (.aload_n 0, 1) := by decide +kernel
theorem dX9_init_1 : decode cX9_init 1 = .ok (.invokespecial 3, 3) := by decide +kernel
theorem dX9_init_4 : decode cX9_init 4 = .ok (.aload_n 0, 1) := by decide +kernel
theorem dX9_init_5 : decode cX9_init 5 = .ok (.bipush 7, 2) := by decide +kernel
theorem dX9_init_7 : decode cX9_init 7 = .ok (.newarray .int, 2) := by decide +kernel
theorem dX9_init_9 : decode cX9_init 9 = .ok (.putfield 9, 3) := by decide +kernel
theorem dX9_init_12 : decode cX9_init 12 = .ok (.aload_n 0, 1) := by decide +kernel
theorem dX9_init_13 : decode cX9_init 13 = .ok (.bipush 7, 2) := by decide +kernel
theorem dX9_init_15 : decode cX9_init 15 = .ok (.newarray .int, 2) := by decide +kernel
theorem dX9_init_17 : decode cX9_init 17 = .ok (.putfield 15, 3) := by decide +kernel
theorem dX9_init_20 : decode cX9_init 20 = .ok (.aload_n 0, 1) := by decide +kernel
theorem dX9_init_21 : decode cX9_init 21 = .ok (.bipush 7, 2) := by decide +kernel
theorem dX9_init_23 : decode cX9_init 23 = .ok (.newarray .int, 2) := by decide +kernel
theorem dX9_init_25 : decode cX9_init 25 = .ok (.putfield 18, 3) := by decide +kernel
theorem dX9_init_28 : decode cX9_init 28 = .ok (.aload_n 0, 1) := by decide +kernel
theorem dX9_init_29 : decode cX9_init 29 = .ok (.ldc 23, 2) := by decide +kernel
theorem dX9_init_31 : decode cX9_init 31 = .ok (.invokevirtual 25, 3) := by decide +kernel
theorem dX9_init_34 : decode cX9_init 34 = .ok (.newarray .int, 2) := by decide +kernel
theorem dX9_init_36 : decode cX9_init 36 = .ok (.putfield 31, 3) := by decide +kernel
theorem dX9_init_39 : decode cX9_init 39 = .ok (.aload_n 0, 1) := by decide +kernel
theorem dX9_init_40 : decode cX9_init 40 = .ok (.aload_n 1, 1) := by decide +kernel
theorem dX9_init_41 : decode cX9_init 41 = .ok (.putfield 34, 3) := by decide +kernel
theorem dX9_init_44 : decode cX9_init 44 = .ok (.return_, 1) := by decide +kernel
theorem dX9_foresee_0 : decode cX9_foresee 0 = .ok (.aload_n 1, 1) := by decide +kernel
theorem dX9_foresee_1 : decode cX9_foresee 1 = .ok (.getfield 38, 3) := by decide +kernel
theorem dX9_foresee_4 : decode cX9_foresee 4 = .ok (.aload_n 1, 1) := by decide +kernel
theorem dX9_foresee_5 : decode cX9_foresee 5 = .ok (.invokevirtual 43, 3) := by decide +kernel
theorem dX9_foresee_8 : decode cX9_foresee 8 = .ok (.iaload, 1) := by decide +kernel
theorem dX9_foresee_9 : decode cX9_foresee 9 = .ok (.istore_n 2, 1) := by decide +kernel
theorem dX9_foresee_10 : decode cX9_foresee 10 = .ok (.iconst 0, 1) := by decide +kernel
theorem dX9_foresee_11 : decode cX9_foresee 11 = .ok (.istore_n 3, 1) := by decide +kernel
theorem dX9_foresee_12 : decode cX9_foresee 12 = .ok (.iload_n 3, 1) := by decide +kernel
theorem dX9_foresee_13 : decode cX9_foresee 13 = .ok (.aload_n 1, 1) := by decide +kernel
theorem dX9_foresee_14 : decode cX9_foresee 14 = .ok (.getfield 46, 3) := by decide +kernel
theorem dX9_foresee_17 : decode cX9_foresee 17 = .ok (.if_icmp .ge 194, 3) := by decide +kernel
theorem dX9_foresee_20 : decode cX9_foresee 20 = .ok (.aload_n 0, 1) := by decide +kernel
theorem dX9_foresee_21 : decode cX9_foresee 21 = .ok (.getfield 34, 3) := by decide +kernel
theorem dX9_foresee_24 : decode cX9_foresee 24 = .ok (.aload_n 1, 1) := by decide +kernel
theorem dX9_foresee_25 : decode cX9_foresee 25 = .ok (.getfield 50, 3) := by decide +kernel
theorem dX9_foresee_28 : decode cX9_foresee 28 = .ok (.iload_n 3, 1) := by decide +kernel
theorem dX9_foresee_29 : decode cX9_foresee 29 = .ok (.iaload, 1) := by decide +kernel
theorem dX9_foresee_30 : decode cX9_foresee 30 = .ok (.aaload, 1) := by decide +kernel
theorem dX9_foresee_31 : decode cX9_foresee 31 = .ok (.astore 4, 2) := by decide +kernel
theorem dX9_foresee_33 : decode cX9_foresee 33 = .ok (.aload_n 1, 1) := by decide +kernel
theorem dX9_foresee_34 : decode cX9_foresee 34 = .ok (.getfield 53, 3) := by decide +kernel
theorem dX9_foresee_37 : decode cX9_foresee 37 = .ok (.iload_n 3, 1) := by decide +kernel
theorem dX9_foresee_38 : decode cX9_foresee 38 = .ok (.iaload, 1) := by decide +kernel
theorem dX9_foresee_39 : decode cX9_foresee 39 = .ok (.istore 5, 2) := by decide +kernel
theorem dX9_foresee_41 : decode cX9_foresee 41 = .ok (.aload_n 1, 1) := by decide +kernel
theorem dX9_foresee_42 : decode cX9_foresee 42 = .ok (.getfield 56, 3) := by decide +kernel
theorem dX9_foresee_45 : decode cX9_foresee 45 = .ok (.iload_n 3, 1) := by decide +kernel
theorem dX9_foresee_46 : decode cX9_foresee 46 = .ok (.iaload, 1) := by decide +kernel
theorem dX9_foresee_47 : decode cX9_foresee 47 = .ok (.istore 6, 2) := by decide +kernel
theorem dX9_foresee_49 : decode cX9_foresee 49 = .ok (.aload_n 0, 1) := by decide +kernel
theorem dX9_foresee_50 : decode cX9_foresee 50 = .ok (.getfield 9, 3) := by decide +kernel
theorem dX9_foresee_53 : decode cX9_foresee 53 = .ok (.iload_n 3, 1) := by decide +kernel
theorem dX9_foresee_54 : decode cX9_foresee 54 = .ok (.aload 4, 2) := by decide +kernel
theorem dX9_foresee_56 : decode cX9_foresee 56 = .ok (.iload 6, 2) := by decide +kernel
theorem dX9_foresee_58 : decode cX9_foresee 58 = .ok (.aload_n 1, 1) := by decide +kernel
theorem dX9_foresee_59 : decode cX9_foresee 59 = .ok (.getfield 59, 3) := by decide +kernel
theorem dX9_foresee_62 : decode cX9_foresee 62 = .ok (.iload_n 3, 1) := by decide +kernel
theorem dX9_foresee_63 : decode cX9_foresee 63 = .ok (.iconst 4, 1) := by decide +kernel
theorem dX9_foresee_64 : decode cX9_foresee 64 = .ok (.imul, 1) := by decide +kernel
theorem dX9_foresee_65 : decode cX9_foresee 65 = .ok (.aload_n 1, 1) := by decide +kernel
theorem dX9_foresee_66 : decode cX9_foresee 66 = .ok (.invokevirtual 43, 3) := by decide +kernel
theorem dX9_foresee_69 : decode cX9_foresee 69 = .ok (.iadd, 1) := by decide +kernel
theorem dX9_foresee_70 : decode cX9_foresee 70 = .ok (.iaload, 1) := by decide +kernel
theorem dX9_foresee_71 : decode cX9_foresee 71 = .ok (.invokevirtual 62, 3) := by decide +kernel
theorem dX9_foresee_74 : decode cX9_foresee 74 = .ok (.iastore, 1) := by decide +kernel
theorem dX9_foresee_75 : decode cX9_foresee 75 = .ok (.aload_n 0, 1) := by decide +kernel
theorem dX9_foresee_76 : decode cX9_foresee 76 = .ok (.getfield 15, 3) := by decide +kernel
theorem dX9_foresee_79 : decode cX9_foresee 79 = .ok (.iload_n 3, 1) := by decide +kernel
theorem dX9_foresee_80 : decode cX9_foresee 80 = .ok (.iload_n 2, 1) := by decide +kernel
theorem dX9_foresee_81 : decode cX9_foresee 81 = .ok (.iload 5, 2) := by decide +kernel
theorem dX9_foresee_83 : decode cX9_foresee 83 = .ok (.if_icmp .le 17, 3) := by decide +kernel
theorem dX9_foresee_86 : decode cX9_foresee 86 = .ok (.aload_n 0, 1) := by decide +kernel
theorem dX9_foresee_87 : decode cX9_foresee 87 = .ok (.getfield 9, 3) := by decide +kernel
theorem dX9_foresee_90 : decode cX9_foresee 90 = .ok (.iload_n 3, 1) := by decide +kernel
theorem dX9_foresee_91 : decode cX9_foresee 91 = .ok (.iaload, 1) := by decide +kernel
theorem dX9_foresee_92 : decode cX9_foresee 92 = .ok (.iload_n 2, 1) := by decide +kernel
theorem dX9_foresee_93 : decode cX9_foresee 93 = .ok (.iload 5, 2) := by decide +kernel
theorem dX9_foresee_95 : decode cX9_foresee 95 = .ok (.isub, 1) := by decide +kernel
theorem dX9_foresee_96 : decode cX9_foresee 96 = .ok (.imul, 1) := by decide +kernel
theorem dX9_foresee_97 : decode cX9_foresee 97 = .ok (.goto 4, 3) := by decide +kernel
theorem dX9_foresee_100 : decode cX9_foresee 100 = .ok (.iconst 0, 1) := by decide +kernel
theorem dX9_foresee_101 : decode cX9_foresee 101 = .ok (.iastore, 1) := by decide +kernel
theorem dX9_foresee_102 : decode cX9_foresee 102 = .ok (.aload_n 0, 1) := by decide +kernel
theorem dX9_foresee_103 : decode cX9_foresee 103 = .ok (.getfield 31, 3) := by decide +kernel
theorem dX9_foresee_106 : decode cX9_foresee 106 = .ok (.iconst 0, 1) := by decide +kernel
theorem dX9_foresee_107 : decode cX9_foresee 107 = .ok (.iload_n 3, 1) := by decide +kernel
theorem dX9_foresee_108 : decode cX9_foresee 108 = .ok (.iastore, 1) := by decide +kernel
theorem dX9_foresee_109 : decode cX9_foresee 109 = .ok (.aload_n 0, 1) := by decide +kernel
theorem dX9_foresee_110 : decode cX9_foresee 110 = .ok (.getfield 31, 3) := by decide +kernel
theorem dX9_foresee_113 : decode cX9_foresee 113 = .ok (.iconst 1, 1) := by decide +kernel
theorem dX9_foresee_114 : decode cX9_foresee 114 = .ok (.aload_n 1, 1) := by decide +kernel
theorem dX9_foresee_115 : decode cX9_foresee 115 = .ok (.getfield 50, 3) := by decide +kernel
theorem dX9_foresee_118 : decode cX9_foresee 118 = .ok (.iload_n 3, 1) := by decide +kernel
theorem dX9_foresee_119 : decode cX9_foresee 119 = .ok (.iaload, 1) := by decide +kernel
theorem dX9_foresee_120 : decode cX9_foresee 120 = .ok (.iastore, 1) := by decide +kernel
theorem dX9_foresee_121 : decode cX9_foresee 121 = .ok (.aload_n 0, 1) := by decide +kernel
theorem dX9_foresee_122 : decode cX9_foresee 122 = .ok (.getfield 31, 3) := by decide +kernel
theorem dX9_foresee_125 : decode cX9_foresee 125 = .ok (.iconst 2, 1) := by decide +kernel
theorem dX9_foresee_126 : decode cX9_foresee 126 = .ok (.iload 5, 2) := by decide +kernel
theorem dX9_foresee_128 : decode cX9_foresee 128 = .ok (.iastore, 1) := by decide +kernel
theorem dX9_foresee_129 : decode cX9_foresee 129 = .ok (.aload_n 0, 1) := by decide +kernel
theorem dX9_foresee_130 : decode cX9_foresee 130 = .ok (.getfield 31, 3) := by decide +kernel
theorem dX9_foresee_133 : decode cX9_foresee 133 = .ok (.iconst 3, 1) := by decide +kernel
theorem dX9_foresee_134 : decode cX9_foresee 134 = .ok (.iload_n 2, 1) := by decide +kernel
theorem dX9_foresee_135 : decode cX9_foresee 135 = .ok (.iastore, 1) := by decide +kernel
theorem dX9_foresee_136 : decode cX9_foresee 136 = .ok (.aload_n 0, 1) := by decide +kernel
theorem dX9_foresee_137 : decode cX9_foresee 137 = .ok (.getfield 31, 3) := by decide +kernel
theorem dX9_foresee_140 : decode cX9_foresee 140 = .ok (.iconst 4, 1) := by decide +kernel
theorem dX9_foresee_141 : decode cX9_foresee 141 = .ok (.aload_n 1, 1) := by decide +kernel
theorem dX9_foresee_142 : decode cX9_foresee 142 = .ok (.getfield 68, 3) := by decide +kernel
theorem dX9_foresee_145 : decode cX9_foresee 145 = .ok (.iload_n 3, 1) := by decide +kernel
theorem dX9_foresee_146 : decode cX9_foresee 146 = .ok (.iaload, 1) := by decide +kernel
theorem dX9_foresee_147 : decode cX9_foresee 147 = .ok (.iconst 5, 1) := by decide +kernel
theorem dX9_foresee_148 : decode cX9_foresee 148 = .ok (.idiv, 1) := by decide +kernel
theorem dX9_foresee_149 : decode cX9_foresee 149 = .ok (.iastore, 1) := by decide +kernel
theorem dX9_foresee_150 : decode cX9_foresee 150 = .ok (.aload_n 0, 1) := by decide +kernel
theorem dX9_foresee_151 : decode cX9_foresee 151 = .ok (.getfield 31, 3) := by decide +kernel
theorem dX9_foresee_154 : decode cX9_foresee 154 = .ok (.iconst 5, 1) := by decide +kernel
theorem dX9_foresee_155 : decode cX9_foresee 155 = .ok (.aload_n 1, 1) := by decide +kernel
theorem dX9_foresee_156 : decode cX9_foresee 156 = .ok (.getfield 71, 3) := by decide +kernel
theorem dX9_foresee_159 : decode cX9_foresee 159 = .ok (.bipush 10, 2) := by decide +kernel
theorem dX9_foresee_161 : decode cX9_foresee 161 = .ok (.irem, 1) := by decide +kernel
theorem dX9_foresee_162 : decode cX9_foresee 162 = .ok (.iastore, 1) := by decide +kernel
theorem dX9_foresee_163 : decode cX9_foresee 163 = .ok (.aload_n 1, 1) := by decide +kernel
theorem dX9_foresee_164 : decode cX9_foresee 164 = .ok (.getfield 74, 3) := by decide +kernel
theorem dX9_foresee_167 : decode cX9_foresee 167 = .ok (.aload_n 0, 1) := by decide +kernel
theorem dX9_foresee_168 : decode cX9_foresee 168 = .ok (.getfield 31, 3) := by decide +kernel
theorem dX9_foresee_171 : decode cX9_foresee 171 = .ok (.invokevirtual 78, 3) := by decide +kernel
theorem dX9_foresee_174 : decode cX9_foresee 174 = .ok (.istore 7, 2) := by decide +kernel
theorem dX9_foresee_176 : decode cX9_foresee 176 = .ok (.aload_n 0, 1) := by decide +kernel
theorem dX9_foresee_177 : decode cX9_foresee 177 = .ok (.getfield 18, 3) := by decide +kernel
theorem dX9_foresee_180 : decode cX9_foresee 180 = .ok (.iload_n 3, 1) := by decide +kernel
theorem dX9_foresee_181 : decode cX9_foresee 181 = .ok (.aload 4, 2) := by decide +kernel
theorem dX9_foresee_183 : decode cX9_foresee 183 = .ok (.iload 6, 2) := by decide +kernel
theorem dX9_foresee_185 : decode cX9_foresee 185 = .ok (.iload 5, 2) := by decide +kernel
theorem dX9_foresee_187 : decode cX9_foresee 187 = .ok (.aload_n 0, 1) := by decide +kernel
theorem dX9_foresee_188 : decode cX9_foresee 188 = .ok (.getfield 9, 3) := by decide +kernel
theorem dX9_foresee_191 : decode cX9_foresee 191 = .ok (.iload_n 3, 1) := by decide +kernel
theorem dX9_foresee_192 : decode cX9_foresee 192 = .ok (.iaload, 1) := by decide +kernel
theorem dX9_foresee_193 : decode cX9_foresee 193 = .ok (.aload_n 0, 1) := by decide +kernel
theorem dX9_foresee_194 : decode cX9_foresee 194 = .ok (.getfield 15, 3) := by decide +kernel
theorem dX9_foresee_197 : decode cX9_foresee 197 = .ok (.iload_n 3, 1) := by decide +kernel
theorem dX9_foresee_198 : decode cX9_foresee 198 = .ok (.iaload, 1) := by decide +kernel
theorem dX9_foresee_199 : decode cX9_foresee 199 = .ok (.iload 7, 2) := by decide +kernel
theorem dX9_foresee_201 : decode cX9_foresee 201 = .ok (.invokevirtual 82, 3) := by decide +kernel
theorem dX9_foresee_204 : decode cX9_foresee 204 = .ok (.iastore, 1) := by decide +kernel
theorem dX9_foresee_205 : decode cX9_foresee 205 = .ok (.iinc 3 1, 3) := by decide +kernel
theorem dX9_foresee_208 : decode cX9_foresee 208 = .ok (.goto (-196), 3) := by decide +kernel
theorem dX9_foresee_211 : decode cX9_foresee 211 = .ok (.return_, 1) := by decide +kernel
theorem dX9_step_0 : decode cX9_step 0 = .ok (.aload_n 0, 1) := by decide +kernel
theorem dX9_step_1 : decode cX9_step 1 = .ok (.aload_n 1, 1) := by decide +kernel
theorem dX9_step_2 : decode cX9_step 2 = .ok (.invokevirtual 86, 3) := by decide +kernel
theorem dX9_step_5 : decode cX9_step 5 = .ok (.aload_n 1, 1) := by decide +kernel
theorem dX9_step_6 : decode cX9_step 6 = .ok (.iload_n 3, 1) := by decide +kernel
theorem dX9_step_7 : decode cX9_step 7 = .ok (.invokevirtual 90, 3) := by decide +kernel
theorem dX9_step_10 : decode cX9_step 10 = .ok (.ifCond .eq 17, 3) := by decide +kernel
theorem dX9_step_13 : decode cX9_step 13 = .ok (.aload_n 0, 1) := by decide +kernel
theorem dX9_step_14 : decode cX9_step 14 = .ok (.getfield 15, 3) := by decide +kernel
theorem dX9_step_17 : decode cX9_step 17 = .ok (.iload_n 3, 1) := by decide +kernel
theorem dX9_step_18 : decode cX9_step 18 = .ok (.iconst 0, 1) := by decide +kernel
theorem dX9_step_19 : decode cX9_step 19 = .ok (.iastore, 1) := by decide +kernel
theorem dX9_step_20 : decode cX9_step 20 = .ok (.aload_n 0, 1) := by decide +kernel
theorem dX9_step_21 : decode cX9_step 21 = .ok (.getfield 18, 3) := by decide +kernel
theorem dX9_step_24 : decode cX9_step 24 = .ok (.iload_n 3, 1) := by decide +kernel
theorem dX9_step_25 : decode cX9_step 25 = .ok (.iconst 0, 1) := by decide +kernel
theorem dX9_step_26 : decode cX9_step 26 = .ok (.iastore, 1) := by decide +kernel
theorem dX9_step_27 : decode cX9_step 27 = .ok (.aload_n 0, 1) := by decide +kernel
theorem dX9_step_28 : decode cX9_step 28 = .ok (.aload_n 1, 1) := by decide +kernel
theorem dX9_step_29 : decode cX9_step 29 = .ok (.invokevirtual 94, 3) := by decide +kernel
theorem dX9_step_32 : decode cX9_step 32 = .ok (.aload_n 0, 1) := by decide +kernel
theorem dX9_step_33 : decode cX9_step 33 = .ok (.aload_n 1, 1) := by decide +kernel
theorem dX9_step_34 : decode cX9_step 34 = .ok (.iload_n 2, 1) := by decide +kernel
theorem dX9_step_35 : decode cX9_step 35 = .ok (.invokevirtual 97, 3) := by decide +kernel
theorem dX9_step_38 : decode cX9_step 38 = .ok (.istore 4, 2) := by decide +kernel
theorem dX9_step_40 : decode cX9_step 40 = .ok (.iconst 0, 1) := by decide +kernel
theorem dX9_step_41 : decode cX9_step 41 = .ok (.istore 5, 2) := by decide +kernel
theorem dX9_step_43 : decode cX9_step 43 = .ok (.iload 5, 2) := by decide +kernel
theorem dX9_step_45 : decode cX9_step 45 = .ok (.aload_n 1, 1) := by decide +kernel
theorem dX9_step_46 : decode cX9_step 46 = .ok (.getfield 46, 3) := by decide +kernel
theorem dX9_step_49 : decode cX9_step 49 = .ok (.if_icmp .ge 38, 3) := by decide +kernel
theorem dX9_step_52 : decode cX9_step 52 = .ok (.iload 4, 2) := by decide +kernel
theorem dX9_step_54 : decode cX9_step 54 = .ok (.iload 5, 2) := by decide +kernel
theorem dX9_step_56 : decode cX9_step 56 = .ok (.ishr, 1) := by decide +kernel
theorem dX9_step_57 : decode cX9_step 57 = .ok (.iconst 1, 1) := by decide +kernel
theorem dX9_step_58 : decode cX9_step 58 = .ok (.iand, 1) := by decide +kernel
theorem dX9_step_59 : decode cX9_step 59 = .ok (.ifCond .eq 22, 3) := by decide +kernel
theorem dX9_step_62 : decode cX9_step 62 = .ok (.aload_n 1, 1) := by decide +kernel
theorem dX9_step_63 : decode cX9_step 63 = .ok (.getfield 68, 3) := by decide +kernel
theorem dX9_step_66 : decode cX9_step 66 = .ok (.iload 5, 2) := by decide +kernel
theorem dX9_step_68 : decode cX9_step 68 = .ok (.iconst 0, 1) := by decide +kernel
theorem dX9_step_69 : decode cX9_step 69 = .ok (.iastore, 1) := by decide +kernel
theorem dX9_step_70 : decode cX9_step 70 = .ok (.aload_n 1, 1) := by decide +kernel
theorem dX9_step_71 : decode cX9_step 71 = .ok (.getfield 101, 3) := by decide +kernel
theorem dX9_step_74 : decode cX9_step 74 = .ok (.iload 5, 2) := by decide +kernel
theorem dX9_step_76 : decode cX9_step 76 = .ok (.dup2, 1) := by decide +kernel
theorem dX9_step_77 : decode cX9_step 77 = .ok (.iaload, 1) := by decide +kernel
theorem dX9_step_78 : decode cX9_step 78 = .ok (.iconst 1, 1) := by decide +kernel
theorem dX9_step_79 : decode cX9_step 79 = .ok (.iadd, 1) := by decide +kernel
theorem dX9_step_80 : decode cX9_step 80 = .ok (.iastore, 1) := by decide +kernel
theorem dX9_step_81 : decode cX9_step 81 = .ok (.iinc 5 1, 3) := by decide +kernel
theorem dX9_step_84 : decode cX9_step 84 = .ok (.goto (-41), 3) := by decide +kernel
theorem dX9_step_87 : decode cX9_step 87 = .ok (.aload_n 1, 1) := by decide +kernel
theorem dX9_step_88 : decode cX9_step 88 = .ok (.dup, 1) := by decide +kernel
theorem dX9_step_89 : decode cX9_step 89 = .ok (.getfield 71, 3) := by decide +kernel
theorem dX9_step_92 : decode cX9_step 92 = .ok (.iconst 1, 1) := by decide +kernel
theorem dX9_step_93 : decode cX9_step 93 = .ok (.iadd, 1) := by decide +kernel
theorem dX9_step_94 : decode cX9_step 94 = .ok (.putfield 71, 3) := by decide +kernel
theorem dX9_step_97 : decode cX9_step 97 = .ok (.iload 4, 2) := by decide +kernel
theorem dX9_step_99 : decode cX9_step 99 = .ok (.ireturn, 1) := by decide +kernel
theorem dX9_goOn_0 : decode cX9_goOn 0 = .ok (.iconst 0, 1) := by decide +kernel
theorem dX9_goOn_1 : decode cX9_goOn 1 = .ok (.istore_n 2, 1) := by decide +kernel
theorem dX9_goOn_2 : decode cX9_goOn 2 = .ok (.iload_n 2, 1) := by decide +kernel
theorem dX9_goOn_3 : decode cX9_goOn 3 = .ok (.aload_n 1, 1) := by decide +kernel
theorem dX9_goOn_4 : decode cX9_goOn 4 = .ok (.getfield 46, 3) := by decide +kernel
theorem dX9_goOn_7 : decode cX9_goOn 7 = .ok (.if_icmp .ge 76, 3) := by decide +kernel
theorem dX9_goOn_10 : decode cX9_goOn 10 = .ok (.aload_n 1, 1) := by decide +kernel
theorem dX9_goOn_11 : decode cX9_goOn 11 = .ok (.iload_n 2, 1) := by decide +kernel
theorem dX9_goOn_12 : decode cX9_goOn 12 = .ok (.invokevirtual 104, 3) := by decide +kernel
theorem dX9_goOn_15 : decode cX9_goOn 15 = .ok (.ifCond .eq 6, 3) := by decide +kernel
theorem dX9_goOn_18 : decode cX9_goOn 18 = .ok (.goto 59, 3) := by decide +kernel
theorem dX9_goOn_21 : decode cX9_goOn 21 = .ok (.aload_n 1, 1) := by decide +kernel
theorem dX9_goOn_22 : decode cX9_goOn 22 = .ok (.getfield 68, 3) := by decide +kernel
theorem dX9_goOn_25 : decode cX9_goOn 25 = .ok (.iload_n 2, 1) := by decide +kernel
theorem dX9_goOn_26 : decode cX9_goOn 26 = .ok (.dup2, 1) := by decide +kernel
theorem dX9_goOn_27 : decode cX9_goOn 27 = .ok (.iaload, 1) := by decide +kernel
theorem dX9_goOn_28 : decode cX9_goOn 28 = .ok (.aload_n 0, 1) := by decide +kernel
theorem dX9_goOn_29 : decode cX9_goOn 29 = .ok (.getfield 15, 3) := by decide +kernel
theorem dX9_goOn_32 : decode cX9_goOn 32 = .ok (.iload_n 2, 1) := by decide +kernel
theorem dX9_goOn_33 : decode cX9_goOn 33 = .ok (.iaload, 1) := by decide +kernel
theorem dX9_goOn_34 : decode cX9_goOn 34 = .ok (.iadd, 1) := by decide +kernel
theorem dX9_goOn_35 : decode cX9_goOn 35 = .ok (.iastore, 1) := by decide +kernel
theorem dX9_goOn_36 : decode cX9_goOn 36 = .ok (.aload_n 1, 1) := by decide +kernel
theorem dX9_goOn_37 : decode cX9_goOn 37 = .ok (.getfield 68, 3) := by decide +kernel
theorem dX9_goOn_40 : decode cX9_goOn 40 = .ok (.iload_n 2, 1) := by decide +kernel
theorem dX9_goOn_41 : decode cX9_goOn 41 = .ok (.iaload, 1) := by decide +kernel
theorem dX9_goOn_42 : decode cX9_goOn 42 = .ok (.aload_n 1, 1) := by decide +kernel
theorem dX9_goOn_43 : decode cX9_goOn 43 = .ok (.getfield 74, 3) := by decide +kernel
theorem dX9_goOn_46 : decode cX9_goOn 46 = .ok (.getfield 107, 3) := by decide +kernel
theorem dX9_goOn_49 : decode cX9_goOn 49 = .ok (.if_icmp .lt 28, 3) := by decide +kernel
theorem dX9_goOn_52 : decode cX9_goOn 52 = .ok (.aload_n 1, 1) := by decide +kernel
theorem dX9_goOn_53 : decode cX9_goOn 53 = .ok (.getfield 68, 3) := by decide +kernel
theorem dX9_goOn_56 : decode cX9_goOn 56 = .ok (.iload_n 2, 1) := by decide +kernel
theorem dX9_goOn_57 : decode cX9_goOn 57 = .ok (.aload_n 1, 1) := by decide +kernel
theorem dX9_goOn_58 : decode cX9_goOn 58 = .ok (.getfield 74, 3) := by decide +kernel
theorem dX9_goOn_61 : decode cX9_goOn 61 = .ok (.getfield 107, 3) := by decide +kernel
theorem dX9_goOn_64 : decode cX9_goOn 64 = .ok (.iastore, 1) := by decide +kernel
theorem dX9_goOn_65 : decode cX9_goOn 65 = .ok (.aload_n 1, 1) := by decide +kernel
theorem dX9_goOn_66 : decode cX9_goOn 66 = .ok (.dup, 1) := by decide +kernel
theorem dX9_goOn_67 : decode cX9_goOn 67 = .ok (.getfield 110, 3) := by decide +kernel
theorem dX9_goOn_70 : decode cX9_goOn 70 = .ok (.iconst 1, 1) := by decide +kernel
theorem dX9_goOn_71 : decode cX9_goOn 71 = .ok (.iload_n 2, 1) := by decide +kernel
theorem dX9_goOn_72 : decode cX9_goOn 72 = .ok (.ishl, 1) := by decide +kernel
theorem dX9_goOn_73 : decode cX9_goOn 73 = .ok (.ior, 1) := by decide +kernel
theorem dX9_goOn_74 : decode cX9_goOn 74 = .ok (.putfield 110, 3) := by decide +kernel
theorem dX9_goOn_77 : decode cX9_goOn 77 = .ok (.iinc 2 1, 3) := by decide +kernel
theorem dX9_goOn_80 : decode cX9_goOn 80 = .ok (.goto (-78), 3) := by decide +kernel
theorem dX9_goOn_83 : decode cX9_goOn 83 = .ok (.return_, 1) := by decide +kernel
theorem dX9_whoIsSentBack_0 : decode cX9_whoIsSentBack 0 = .ok (.iconst 0, 1) := by decide +kernel
theorem dX9_whoIsSentBack_1 : decode cX9_whoIsSentBack 1 = .ok (.istore_n 3, 1) := by decide +kernel
theorem dX9_whoIsSentBack_2 : decode cX9_whoIsSentBack 2 = .ok (.iconst 0, 1) := by decide +kernel
theorem dX9_whoIsSentBack_3 : decode cX9_whoIsSentBack 3 = .ok (.istore 4, 2) := by decide +kernel
theorem dX9_whoIsSentBack_5 : decode cX9_whoIsSentBack 5 = .ok (.iload 4, 2) := by decide +kernel
theorem dX9_whoIsSentBack_7 : decode cX9_whoIsSentBack 7 = .ok (.aload_n 1, 1) := by decide +kernel
theorem dX9_whoIsSentBack_8 : decode cX9_whoIsSentBack 8 = .ok (.getfield 46, 3) := by decide +kernel
theorem dX9_whoIsSentBack_11 : decode cX9_whoIsSentBack 11 = .ok (.if_icmp .ge 65, 3) := by decide +kernel
theorem dX9_whoIsSentBack_14 : decode cX9_whoIsSentBack 14 = .ok (.aload_n 1, 1) := by decide +kernel
theorem dX9_whoIsSentBack_15 : decode cX9_whoIsSentBack 15 = .ok (.iload 4, 2) := by decide +kernel
theorem dX9_whoIsSentBack_17 : decode cX9_whoIsSentBack 17 = .ok (.invokevirtual 104, 3) := by decide +kernel
theorem dX9_whoIsSentBack_20 : decode cX9_whoIsSentBack 20 = .ok (.ifCond .ne 24, 3) := by decide +kernel
theorem dX9_whoIsSentBack_23 : decode cX9_whoIsSentBack 23 = .ok (.aload_n 0, 1) := by decide +kernel
theorem dX9_whoIsSentBack_24 : decode cX9_whoIsSentBack 24 = .ok (.getfield 18, 3) := by decide +kernel
theorem dX9_whoIsSentBack_27 : decode cX9_whoIsSentBack 27 = .ok (.iload 4, 2) := by decide +kernel
theorem dX9_whoIsSentBack_29 : decode cX9_whoIsSentBack 29 = .ok (.iaload, 1) := by decide +kernel
theorem dX9_whoIsSentBack_30 : decode cX9_whoIsSentBack 30 = .ok (.aload_n 1, 1) := by decide +kernel
theorem dX9_whoIsSentBack_31 : decode cX9_whoIsSentBack 31 = .ok (.getfield 74, 3) := by decide +kernel
theorem dX9_whoIsSentBack_34 : decode cX9_whoIsSentBack 34 = .ok (.getfield 113, 3) := by decide +kernel
theorem dX9_whoIsSentBack_37 : decode cX9_whoIsSentBack 37 = .ok (.if_icmp .le 7, 3) := by decide +kernel
theorem dX9_whoIsSentBack_40 : decode cX9_whoIsSentBack 40 = .ok (.iconst 1, 1) := by decide +kernel
theorem dX9_whoIsSentBack_41 : decode cX9_whoIsSentBack 41 = .ok (.goto 4, 3) := by decide +kernel
theorem dX9_whoIsSentBack_44 : decode cX9_whoIsSentBack 44 = .ok (.iconst 0, 1) := by decide +kernel
theorem dX9_whoIsSentBack_45 : decode cX9_whoIsSentBack 45 = .ok (.istore 5, 2) := by decide +kernel
theorem dX9_whoIsSentBack_47 : decode cX9_whoIsSentBack 47 = .ok (.iload 5, 2) := by decide +kernel
theorem dX9_whoIsSentBack_49 : decode cX9_whoIsSentBack 49 = .ok (.ifCond .eq 21, 3) := by decide +kernel
theorem dX9_whoIsSentBack_52 : decode cX9_whoIsSentBack 52 = .ok (.aload_n 0, 1) := by decide +kernel
theorem dX9_whoIsSentBack_53 : decode cX9_whoIsSentBack 53 = .ok (.aload_n 1, 1) := by decide +kernel
theorem dX9_whoIsSentBack_54 : decode cX9_whoIsSentBack 54 = .ok (.iload 4, 2) := by decide +kernel
theorem dX9_whoIsSentBack_56 : decode cX9_whoIsSentBack 56 = .ok (.invokevirtual 116, 3) := by decide +kernel
theorem dX9_whoIsSentBack_59 : decode cX9_whoIsSentBack 59 = .ok (.iload_n 2, 1) := by decide +kernel
theorem dX9_whoIsSentBack_60 : decode cX9_whoIsSentBack 60 = .ok (.if_icmp .ge 10, 3) := by decide +kernel
theorem dX9_whoIsSentBack_63 : decode cX9_whoIsSentBack 63 = .ok (.iload_n 3, 1) := by decide +kernel
theorem dX9_whoIsSentBack_64 : decode cX9_whoIsSentBack 64 = .ok (.iconst 1, 1) := by decide +kernel
theorem dX9_whoIsSentBack_65 : decode cX9_whoIsSentBack 65 = .ok (.iload 4, 2) := by decide +kernel
theorem dX9_whoIsSentBack_67 : decode cX9_whoIsSentBack 67 = .ok (.ishl, 1) := by decide +kernel
theorem dX9_whoIsSentBack_68 : decode cX9_whoIsSentBack 68 = .ok (.ior, 1) := by decide +kernel
theorem dX9_whoIsSentBack_69 : decode cX9_whoIsSentBack 69 = .ok (.istore_n 3, 1) := by decide +kernel
theorem dX9_whoIsSentBack_70 : decode cX9_whoIsSentBack 70 = .ok (.iinc 4 1, 3) := by decide +kernel
theorem dX9_whoIsSentBack_73 : decode cX9_whoIsSentBack 73 = .ok (.goto (-68), 3) := by decide +kernel
theorem dX9_whoIsSentBack_76 : decode cX9_whoIsSentBack 76 = .ok (.iload_n 3, 1) := by decide +kernel
theorem dX9_whoIsSentBack_77 : decode cX9_whoIsSentBack 77 = .ok (.ireturn, 1) := by decide +kernel
theorem dX9_lookedAtAhead_0 : decode cX9_lookedAtAhead 0 = .ok (.iconst 0, 1) := by decide +kernel
theorem dX9_lookedAtAhead_1 : decode cX9_lookedAtAhead 1 = .ok (.istore_n 3, 1) := by decide +kernel
theorem dX9_lookedAtAhead_2 : decode cX9_lookedAtAhead 2 = .ok (.iconst 0, 1) := by decide +kernel
theorem dX9_lookedAtAhead_3 : decode cX9_lookedAtAhead 3 = .ok (.istore 4, 2) := by decide +kernel
theorem dX9_lookedAtAhead_5 : decode cX9_lookedAtAhead 5 = .ok (.iload 4, 2) := by decide +kernel
theorem dX9_lookedAtAhead_7 : decode cX9_lookedAtAhead 7 = .ok (.aload_n 1, 1) := by decide +kernel
theorem dX9_lookedAtAhead_8 : decode cX9_lookedAtAhead 8 = .ok (.getfield 46, 3) := by decide +kernel
theorem dX9_lookedAtAhead_11 : decode cX9_lookedAtAhead 11 = .ok (.if_icmp .ge 71, 3) := by decide +kernel
theorem dX9_lookedAtAhead_14 : decode cX9_lookedAtAhead 14 = .ok (.aload_n 1, 1) := by decide +kernel
theorem dX9_lookedAtAhead_15 : decode cX9_lookedAtAhead 15 = .ok (.getfield 68, 3) := by decide +kernel
theorem dX9_lookedAtAhead_18 : decode cX9_lookedAtAhead 18 = .ok (.iload 4, 2) := by decide +kernel
theorem dX9_lookedAtAhead_20 : decode cX9_lookedAtAhead 20 = .ok (.iaload, 1) := by decide +kernel
theorem dX9_lookedAtAhead_21 : decode cX9_lookedAtAhead 21 = .ok (.aload_n 1, 1) := by decide +kernel
theorem dX9_lookedAtAhead_22 : decode cX9_lookedAtAhead 22 = .ok (.getfield 68, 3) := by decide +kernel
theorem dX9_lookedAtAhead_25 : decode cX9_lookedAtAhead 25 = .ok (.iload_n 2, 1) := by decide +kernel
theorem dX9_lookedAtAhead_26 : decode cX9_lookedAtAhead 26 = .ok (.iaload, 1) := by decide +kernel
theorem dX9_lookedAtAhead_27 : decode cX9_lookedAtAhead 27 = .ok (.if_icmp .gt 25, 3) := by decide +kernel
theorem dX9_lookedAtAhead_30 : decode cX9_lookedAtAhead 30 = .ok (.aload_n 1, 1) := by decide +kernel
theorem dX9_lookedAtAhead_31 : decode cX9_lookedAtAhead 31 = .ok (.getfield 68, 3) := by decide +kernel
theorem dX9_lookedAtAhead_34 : decode cX9_lookedAtAhead 34 = .ok (.iload 4, 2) := by decide +kernel
theorem dX9_lookedAtAhead_36 : decode cX9_lookedAtAhead 36 = .ok (.iaload, 1) := by decide +kernel
theorem dX9_lookedAtAhead_37 : decode cX9_lookedAtAhead 37 = .ok (.aload_n 1, 1) := by decide +kernel
theorem dX9_lookedAtAhead_38 : decode cX9_lookedAtAhead 38 = .ok (.getfield 68, 3) := by decide +kernel
theorem dX9_lookedAtAhead_41 : decode cX9_lookedAtAhead 41 = .ok (.iload_n 2, 1) := by decide +kernel
theorem dX9_lookedAtAhead_42 : decode cX9_lookedAtAhead 42 = .ok (.iaload, 1) := by decide +kernel
theorem dX9_lookedAtAhead_43 : decode cX9_lookedAtAhead 43 = .ok (.if_icmp .ne 13, 3) := by decide +kernel
theorem dX9_lookedAtAhead_46 : decode cX9_lookedAtAhead 46 = .ok (.iload 4, 2) := by decide +kernel
theorem dX9_lookedAtAhead_48 : decode cX9_lookedAtAhead 48 = .ok (.iload_n 2, 1) := by decide +kernel
theorem dX9_lookedAtAhead_49 : decode cX9_lookedAtAhead 49 = .ok (.if_icmp .ge 7, 3) := by decide +kernel
theorem dX9_lookedAtAhead_52 : decode cX9_lookedAtAhead 52 = .ok (.iconst 1, 1) := by decide +kernel
theorem dX9_lookedAtAhead_53 : decode cX9_lookedAtAhead 53 = .ok (.goto 4, 3) := by decide +kernel
theorem dX9_lookedAtAhead_56 : decode cX9_lookedAtAhead 56 = .ok (.iconst 0, 1) := by decide +kernel
theorem dX9_lookedAtAhead_57 : decode cX9_lookedAtAhead 57 = .ok (.istore 5, 2) := by decide +kernel
theorem dX9_lookedAtAhead_59 : decode cX9_lookedAtAhead 59 = .ok (.iload 5, 2) := by decide +kernel
theorem dX9_lookedAtAhead_61 : decode cX9_lookedAtAhead 61 = .ok (.ifCond .eq 15, 3) := by decide +kernel
theorem dX9_lookedAtAhead_64 : decode cX9_lookedAtAhead 64 = .ok (.aload_n 1, 1) := by decide +kernel
theorem dX9_lookedAtAhead_65 : decode cX9_lookedAtAhead 65 = .ok (.iload 4, 2) := by decide +kernel
theorem dX9_lookedAtAhead_67 : decode cX9_lookedAtAhead 67 = .ok (.invokevirtual 104, 3) := by decide +kernel
theorem dX9_lookedAtAhead_70 : decode cX9_lookedAtAhead 70 = .ok (.ifCond .ne 6, 3) := by decide +kernel
theorem dX9_lookedAtAhead_73 : decode cX9_lookedAtAhead 73 = .ok (.iinc 3 1, 3) := by decide +kernel
theorem dX9_lookedAtAhead_76 : decode cX9_lookedAtAhead 76 = .ok (.iinc 4 1, 3) := by decide +kernel
theorem dX9_lookedAtAhead_79 : decode cX9_lookedAtAhead 79 = .ok (.goto (-74), 3) := by decide +kernel
theorem dX9_lookedAtAhead_82 : decode cX9_lookedAtAhead 82 = .ok (.iload_n 3, 1) := by decide +kernel
theorem dX9_lookedAtAhead_83 : decode cX9_lookedAtAhead 83 = .ok (.ireturn, 1) := by decide +kernel
theorem dX9_pass_0 : decode cX9_pass 0 = .ok (.iconst 0, 1) := by decide +kernel
theorem dX9_pass_1 : decode cX9_pass 1 = .ok (.istore_n 3, 1) := by decide +kernel
theorem dX9_pass_2 : decode cX9_pass 2 = .ok (.iconst 0, 1) := by decide +kernel
theorem dX9_pass_3 : decode cX9_pass 3 = .ok (.istore 4, 2) := by decide +kernel
theorem dX9_pass_5 : decode cX9_pass 5 = .ok (.iload 4, 2) := by decide +kernel
theorem dX9_pass_7 : decode cX9_pass 7 = .ok (.iload_n 2, 1) := by decide +kernel
theorem dX9_pass_8 : decode cX9_pass 8 = .ok (.if_icmp .ge 25, 3) := by decide +kernel
theorem dX9_pass_11 : decode cX9_pass 11 = .ok (.iload_n 3, 1) := by decide +kernel
theorem dX9_pass_12 : decode cX9_pass 12 = .ok (.aload_n 0, 1) := by decide +kernel
theorem dX9_pass_13 : decode cX9_pass 13 = .ok (.aload_n 1, 1) := by decide +kernel
theorem dX9_pass_14 : decode cX9_pass 14 = .ok (.aload_n 1, 1) := by decide +kernel
theorem dX9_pass_15 : decode cX9_pass 15 = .ok (.getfield 74, 3) := by decide +kernel
theorem dX9_pass_18 : decode cX9_pass 18 = .ok (.getfield 119, 3) := by decide +kernel
theorem dX9_pass_21 : decode cX9_pass 21 = .ok (.iconst (-1), 1) := by decide +kernel
theorem dX9_pass_22 : decode cX9_pass 22 = .ok (.invokevirtual 122, 3) := by decide +kernel
theorem dX9_pass_25 : decode cX9_pass 25 = .ok (.ior, 1) := by decide +kernel
theorem dX9_pass_26 : decode cX9_pass 26 = .ok (.istore_n 3, 1) := by decide +kernel
theorem dX9_pass_27 : decode cX9_pass 27 = .ok (.iinc 4 1, 3) := by decide +kernel
theorem dX9_pass_30 : decode cX9_pass 30 = .ok (.goto (-25), 3) := by decide +kernel
theorem dX9_pass_33 : decode cX9_pass 33 = .ok (.iload_n 3, 1) := by decide +kernel
theorem dX9_pass_34 : decode cX9_pass 34 = .ok (.ireturn, 1) := by decide +kernel
theorem dX9_untilWall_0 : decode cX9_untilWall 0 = .ok (.iconst 0, 1) := by decide +kernel
theorem dX9_untilWall_1 : decode cX9_untilWall 1 = .ok (.istore_n 3, 1) := by decide +kernel
theorem dX9_untilWall_2 : decode cX9_untilWall 2 = .ok (.iload_n 3, 1) := by decide +kernel
theorem dX9_untilWall_3 : decode cX9_untilWall 3 = .ok (.bipush 60, 2) := by decide +kernel
theorem dX9_untilWall_5 : decode cX9_untilWall 5 = .ok (.if_icmp .gt 34, 3) := by decide +kernel
theorem dX9_untilWall_8 : decode cX9_untilWall 8 = .ok (.aload_n 1, 1) := by decide +kernel
theorem dX9_untilWall_9 : decode cX9_untilWall 9 = .ok (.getfield 110, 3) := by decide +kernel
theorem dX9_untilWall_12 : decode cX9_untilWall 12 = .ok (.iload_n 2, 1) := by decide +kernel
theorem dX9_untilWall_13 : decode cX9_untilWall 13 = .ok (.iand, 1) := by decide +kernel
theorem dX9_untilWall_14 : decode cX9_untilWall 14 = .ok (.ifCond .eq 5, 3) := by decide +kernel
theorem dX9_untilWall_17 : decode cX9_untilWall 17 = .ok (.iload_n 3, 1) := by decide +kernel
theorem dX9_untilWall_18 : decode cX9_untilWall 18 = .ok (.ireturn, 1) := by decide +kernel
theorem dX9_untilWall_19 : decode cX9_untilWall 19 = .ok (.aload_n 0, 1) := by decide +kernel
theorem dX9_untilWall_20 : decode cX9_untilWall 20 = .ok (.aload_n 1, 1) := by decide +kernel
theorem dX9_untilWall_21 : decode cX9_untilWall 21 = .ok (.aload_n 1, 1) := by decide +kernel
theorem dX9_untilWall_22 : decode cX9_untilWall 22 = .ok (.getfield 74, 3) := by decide +kernel
theorem dX9_untilWall_25 : decode cX9_untilWall 25 = .ok (.getfield 119, 3) := by decide +kernel
theorem dX9_untilWall_28 : decode cX9_untilWall 28 = .ok (.iconst (-1), 1) := by decide +kernel
theorem dX9_untilWall_29 : decode cX9_untilWall 29 = .ok (.invokevirtual 122, 3) := by decide +kernel
theorem dX9_untilWall_32 : decode cX9_untilWall 32 = .ok (.pop, 1) := by decide +kernel
theorem dX9_untilWall_33 : decode cX9_untilWall 33 = .ok (.iinc 3 1, 3) := by decide +kernel
theorem dX9_untilWall_36 : decode cX9_untilWall 36 = .ok (.goto (-34), 3) := by decide +kernel
theorem dX9_untilWall_39 : decode cX9_untilWall 39 = .ok (.bipush (-5), 2) := by decide +kernel
theorem dX9_untilWall_41 : decode cX9_untilWall 41 = .ok (.ireturn, 1) := by decide +kernel
theorem dX10_init_0 : decode cX10_init 0 = .ok (.aload_n 0, 1) := by decide +kernel
theorem dX10_init_1 : decode cX10_init 1 = .ok (.invokespecial 3, 3) := by decide +kernel
theorem dX10_init_4 : decode cX10_init 4 = .ok (.aload_n 0, 1) := by decide +kernel
theorem dX10_init_5 : decode cX10_init 5 = .ok (.bipush 10, 2) := by decide +kernel
theorem dX10_init_7 : decode cX10_init 7 = .ok (.newarray .int, 2) := by decide +kernel
theorem dX10_init_9 : decode cX10_init 9 = .ok (.putfield 11, 3) := by decide +kernel
theorem dX10_init_12 : decode cX10_init 12 = .ok (.aload_n 0, 1) := by decide +kernel
theorem dX10_init_13 : decode cX10_init 13 = .ok (.bipush 10, 2) := by decide +kernel
theorem dX10_init_15 : decode cX10_init 15 = .ok (.newarray .int, 2) := by decide +kernel
theorem dX10_init_17 : decode cX10_init 17 = .ok (.putfield 15, 3) := by decide +kernel
theorem dX10_init_20 : decode cX10_init 20 = .ok (.aload_n 0, 1) := by decide +kernel
theorem dX10_init_21 : decode cX10_init 21 = .ok (.bipush 10, 2) := by decide +kernel
theorem dX10_init_23 : decode cX10_init 23 = .ok (.newarray .int, 2) := by decide +kernel
theorem dX10_init_25 : decode cX10_init 25 = .ok (.putfield 18, 3) := by decide +kernel
theorem dX10_init_28 : decode cX10_init 28 = .ok (.aload_n 0, 1) := by decide +kernel
theorem dX10_init_29 : decode cX10_init 29 = .ok (.bipush 10, 2) := by decide +kernel
theorem dX10_init_31 : decode cX10_init 31 = .ok (.newarray .int, 2) := by decide +kernel
theorem dX10_init_33 : decode cX10_init 33 = .ok (.putfield 21, 3) := by decide +kernel
theorem dX10_init_36 : decode cX10_init 36 = .ok (.aload_n 0, 1) := by decide +kernel
theorem dX10_init_37 : decode cX10_init 37 = .ok (.bipush 100, 2) := by decide +kernel
theorem dX10_init_39 : decode cX10_init 39 = .ok (.newarray .int, 2) := by decide +kernel
theorem dX10_init_41 : decode cX10_init 41 = .ok (.putfield 24, 3) := by decide +kernel
theorem dX10_init_44 : decode cX10_init 44 = .ok (.aload_n 0, 1) := by decide +kernel
theorem dX10_init_45 : decode cX10_init 45 = .ok (.bipush 40, 2) := by decide +kernel
theorem dX10_init_47 : decode cX10_init 47 = .ok (.putfield 27, 3) := by decide +kernel
theorem dX10_init_50 : decode cX10_init 50 = .ok (.aload_n 0, 1) := by decide +kernel
theorem dX10_init_51 : decode cX10_init 51 = .ok (.iconst 3, 1) := by decide +kernel
theorem dX10_init_52 : decode cX10_init 52 = .ok (.putfield 31, 3) := by decide +kernel
theorem dX10_init_55 : decode cX10_init 55 = .ok (.aload_n 0, 1) := by decide +kernel
theorem dX10_init_56 : decode cX10_init 56 = .ok (.bipush 9, 2) := by decide +kernel
theorem dX10_init_58 : decode cX10_init 58 = .ok (.putfield 34, 3) := by decide +kernel
theorem dX10_init_61 : decode cX10_init 61 = .ok (.aload_n 0, 1) := by decide +kernel
theorem dX10_init_62 : decode cX10_init 62 = .ok (.aload_n 1, 1) := by decide +kernel
theorem dX10_init_63 : decode cX10_init 63 = .ok (.putfield 37, 3) := by decide +kernel
theorem dX10_init_66 : decode cX10_init 66 = .ok (.return_, 1) := by decide +kernel
theorem dX10_faultOf_0 : decode cX10_faultOf 0 = .ok (.aload_n 0, 1) := by decide +kernel
theorem dX10_faultOf_1 : decode cX10_faultOf 1 = .ok (.iload_n 1, 1) := by decide +kernel
theorem dX10_faultOf_2 : decode cX10_faultOf 2 = .ok (.putfield 41, 3) := by decide +kernel
theorem dX10_faultOf_5 : decode cX10_faultOf 5 = .ok (.aload_n 0, 1) := by decide +kernel
theorem dX10_faultOf_6 : decode cX10_faultOf 6 = .ok (.iconst 0, 1) := by decide +kernel
theorem dX10_faultOf_7 : decode cX10_faultOf 7 = .ok (.putfield 44, 3) := by decide +kernel
theorem dX10_faultOf_10 : decode cX10_faultOf 10 = .ok (.aload_n 0, 1) := by decide +kernel
theorem dX10_faultOf_11 : decode cX10_faultOf 11 = .ok (.iconst 0, 1) := by decide +kernel
theorem dX10_faultOf_12 : decode cX10_faultOf 12 = .ok (.putfield 47, 3) := by decide +kernel
theorem dX10_faultOf_15 : decode cX10_faultOf 15 = .ok (.aload_n 0, 1) := by decide +kernel
theorem dX10_faultOf_16 : decode cX10_faultOf 16 = .ok (.iconst 0, 1) := by decide +kernel
theorem dX10_faultOf_17 : decode cX10_faultOf 17 = .ok (.putfield 50, 3) := by decide +kernel
theorem dX10_faultOf_20 : decode cX10_faultOf 20 = .ok (.aload_n 0, 1) := by decide +kernel
theorem dX10_faultOf_21 : decode cX10_faultOf 21 = .ok (.bipush 40, 2) := by decide +kernel
theorem dX10_faultOf_23 : decode cX10_faultOf 23 = .ok (.putfield 27, 3) := by decide +kernel
theorem dX10_faultOf_26 : decode cX10_faultOf 26 = .ok (.aload_n 0, 1) := by decide +kernel
theorem dX10_faultOf_27 : decode cX10_faultOf 27 = .ok (.iconst 3, 1) := by decide +kernel
theorem dX10_faultOf_28 : decode cX10_faultOf 28 = .ok (.putfield 31, 3) := by decide +kernel
theorem dX10_faultOf_31 : decode cX10_faultOf 31 = .ok (.aload_n 0, 1) := by decide +kernel
theorem dX10_faultOf_32 : decode cX10_faultOf 32 = .ok (.bipush 9, 2) := by decide +kernel
theorem dX10_faultOf_34 : decode cX10_faultOf 34 = .ok (.putfield 34, 3) := by decide +kernel
theorem dX10_faultOf_37 : decode cX10_faultOf 37 = .ok (.iconst 0, 1) := by decide +kernel
theorem dX10_faultOf_38 : decode cX10_faultOf 38 = .ok (.istore_n 2, 1) := by decide +kernel
theorem dX10_faultOf_39 : decode cX10_faultOf 39 = .ok (.iload_n 2, 1) := by decide +kernel
theorem dX10_faultOf_40 : decode cX10_faultOf 40 = .ok (.bipush 10, 2) := by decide +kernel
theorem dX10_faultOf_42 : decode cX10_faultOf 42 = .ok (.if_icmp .ge 54, 3) := by decide +kernel
theorem dX10_faultOf_45 : decode cX10_faultOf 45 = .ok (.aload_n 0, 1) := by decide +kernel
theorem dX10_faultOf_46 : decode cX10_faultOf 46 = .ok (.invokevirtual 53, 3) := by decide +kernel
theorem dX10_faultOf_49 : decode cX10_faultOf 49 = .ok (.ifCond .ne 8, 3) := by decide +kernel
theorem dX10_faultOf_52 : decode cX10_faultOf 52 = .ok (.aload_n 0, 1) := by decide +kernel
theorem dX10_faultOf_53 : decode cX10_faultOf 53 = .ok (.getfield 44, 3) := by decide +kernel
theorem dX10_faultOf_56 : decode cX10_faultOf 56 = .ok (.ireturn, 1) := by decide +kernel
theorem dX10_faultOf_57 : decode cX10_faultOf 57 = .ok (.aload_n 0, 1) := by decide +kernel
theorem dX10_faultOf_58 : decode cX10_faultOf 58 = .ok (.getfield 44, 3) := by decide +kernel
theorem dX10_faultOf_61 : decode cX10_faultOf 61 = .ok (.aload_n 0, 1) := by decide +kernel
theorem dX10_faultOf_62 : decode cX10_faultOf 62 = .ok (.getfield 41, 3) := by decide +kernel
theorem dX10_faultOf_65 : decode cX10_faultOf 65 = .ok (.if_icmp .lt 5, 3) := by decide +kernel
theorem dX10_faultOf_68 : decode cX10_faultOf 68 = .ok (.iconst (-1), 1) := by decide +kernel
theorem dX10_faultOf_69 : decode cX10_faultOf 69 = .ok (.ireturn, 1) := by decide +kernel
theorem dX10_faultOf_70 : decode cX10_faultOf 70 = .ok (.iload_n 2, 1) := by decide +kernel
theorem dX10_faultOf_71 : decode cX10_faultOf 71 = .ok (.bipush 9, 2) := by decide +kernel
theorem dX10_faultOf_73 : decode cX10_faultOf 73 = .ok (.if_icmp .eq 12, 3) := by decide +kernel
theorem dX10_faultOf_76 : decode cX10_faultOf 76 = .ok (.aload_n 0, 1) := by decide +kernel
theorem dX10_faultOf_77 : decode cX10_faultOf 77 = .ok (.bipush 59, 2) := by decide +kernel
theorem dX10_faultOf_79 : decode cX10_faultOf 79 = .ok (.invokevirtual 57, 3) := by decide +kernel
theorem dX10_faultOf_82 : decode cX10_faultOf 82 = .ok (.ifCond .ne 8, 3) := by decide +kernel
theorem dX10_faultOf_85 : decode cX10_faultOf 85 = .ok (.aload_n 0, 1) := by decide +kernel
theorem dX10_faultOf_86 : decode cX10_faultOf 86 = .ok (.getfield 44, 3) := by decide +kernel
theorem dX10_faultOf_89 : decode cX10_faultOf 89 = .ok (.ireturn, 1) := by decide +kernel
theorem dX10_faultOf_90 : decode cX10_faultOf 90 = .ok (.iinc 2 1, 3) := by decide +kernel
theorem dX10_faultOf_93 : decode cX10_faultOf 93 = .ok (.goto (-54), 3) := by decide +kernel
theorem dX10_faultOf_96 : decode cX10_faultOf 96 = .ok (.aload_n 0, 1) := by decide +kernel
theorem dX10_faultOf_97 : decode cX10_faultOf 97 = .ok (.getfield 44, 3) := by decide +kernel
theorem dX10_faultOf_100 : decode cX10_faultOf 100 = .ok (.ireturn, 1) := by decide +kernel
theorem dX10_readClause_0 : decode cX10_readClause 0 = .ok (.aload_n 0, 1) := by decide +kernel
theorem dX10_readClause_1 : decode cX10_readClause 1 = .ok (.invokevirtual 61, 3) := by decide +kernel
theorem dX10_readClause_4 : decode cX10_readClause 4 = .ok (.istore_n 1, 1) := by decide +kernel
theorem dX10_readClause_5 : decode cX10_readClause 5 = .ok (.iload_n 1, 1) := by decide +kernel
theorem dX10_readClause_6 : decode cX10_readClause 6 = .ok (.ifCond .lt 12, 3) := by decide +kernel
theorem dX10_readClause_9 : decode cX10_readClause 9 = .ok (.aload_n 0, 1) := by decide +kernel
theorem dX10_readClause_10 : decode cX10_readClause 10 = .ok (.bipush 32, 2) := by decide +kernel
theorem dX10_readClause_12 : decode cX10_readClause 12 = .ok (.invokevirtual 57, 3) := by decide +kernel
theorem dX10_readClause_15 : decode cX10_readClause 15 = .ok (.ifCond .ne 5, 3) := by decide +kernel
theorem dX10_readClause_18 : decode cX10_readClause 18 = .ok (.iconst 0, 1) := by decide +kernel
theorem dX10_readClause_19 : decode cX10_readClause 19 = .ok (.ireturn, 1) := by decide +kernel
theorem dX10_readClause_20 : decode cX10_readClause 20 = .ok (.aload_n 0, 1) := by decide +kernel
theorem dX10_readClause_21 : decode cX10_readClause 21 = .ok (.invokevirtual 65, 3) := by decide +kernel
theorem dX10_readClause_24 : decode cX10_readClause 24 = .ok (.istore_n 2, 1) := by decide +kernel
theorem dX10_readClause_25 : decode cX10_readClause 25 = .ok (.iload_n 2, 1) := by decide +kernel
theorem dX10_readClause_26 : decode cX10_readClause 26 = .ok (.ifCond .ge 5, 3) := by decide +kernel
theorem dX10_readClause_29 : decode cX10_readClause 29 = .ok (.iconst 0, 1) := by decide +kernel
theorem dX10_readClause_30 : decode cX10_readClause 30 = .ok (.ireturn, 1) := by decide +kernel
theorem dX10_readClause_31 : decode cX10_readClause 31 = .ok (.aload_n 0, 1) := by decide +kernel
theorem dX10_readClause_32 : decode cX10_readClause 32 = .ok (.getfield 50, 3) := by decide +kernel
theorem dX10_readClause_35 : decode cX10_readClause 35 = .ok (.istore_n 3, 1) := by decide +kernel
theorem dX10_readClause_36 : decode cX10_readClause 36 = .ok (.iload_n 1, 1) := by decide +kernel
theorem dX10_readClause_37 : decode cX10_readClause 37 = .ok (.ifCond .eq 8, 3) := by decide +kernel
theorem dX10_readClause_40 : decode cX10_readClause 40 = .ok (.iload_n 1, 1) := by decide +kernel
theorem dX10_readClause_41 : decode cX10_readClause 41 = .ok (.iconst 1, 1) := by decide +kernel
theorem dX10_readClause_42 : decode cX10_readClause 42 = .ok (.if_icmp .ne 22, 3) := by decide +kernel
theorem dX10_readClause_45 : decode cX10_readClause 45 = .ok (.aload_n 0, 1) := by decide +kernel
theorem dX10_readClause_46 : decode cX10_readClause 46 = .ok (.bipush 32, 2) := by decide +kernel
theorem dX10_readClause_48 : decode cX10_readClause 48 = .ok (.invokevirtual 57, 3) := by decide +kernel
theorem dX10_readClause_51 : decode cX10_readClause 51 = .ok (.ifCond .eq 11, 3) := by decide +kernel
theorem dX10_readClause_54 : decode cX10_readClause 54 = .ok (.aload_n 0, 1) := by decide +kernel
theorem dX10_readClause_55 : decode cX10_readClause 55 = .ok (.iconst 0, 1) := by decide +kernel
theorem dX10_readClause_56 : decode cX10_readClause 56 = .ok (.invokevirtual 68, 3) := by decide +kernel
theorem dX10_readClause_59 : decode cX10_readClause 59 = .ok (.ifCond .ne 5, 3) := by decide +kernel
theorem dX10_readClause_62 : decode cX10_readClause 62 = .ok (.iconst 0, 1) := by decide +kernel
theorem dX10_readClause_63 : decode cX10_readClause 63 = .ok (.ireturn, 1) := by decide +kernel
theorem dX10_readClause_64 : decode cX10_readClause 64 = .ok (.aload_n 0, 1) := by decide +kernel
theorem dX10_readClause_65 : decode cX10_readClause 65 = .ok (.iload_n 1, 1) := by decide +kernel
theorem dX10_readClause_66 : decode cX10_readClause 66 = .ok (.iload_n 2, 1) := by decide +kernel
theorem dX10_readClause_67 : decode cX10_readClause 67 = .ok (.iload_n 3, 1) := by decide +kernel
theorem dX10_readClause_68 : decode cX10_readClause 68 = .ok (.invokevirtual 72, 3) := by decide +kernel
theorem dX10_readClause_71 : decode cX10_readClause 71 = .ok (.iconst 1, 1) := by decide +kernel
theorem dX10_readClause_72 : decode cX10_readClause 72 = .ok (.ireturn, 1) := by decide +kernel
theorem dX10_addClause_0 : decode cX10_addClause 0 = .ok (.aload_n 0, 1) := by decide +kernel
theorem dX10_addClause_1 : decode cX10_addClause 1 = .ok (.getfield 11, 3) := by decide +kernel
theorem dX10_addClause_4 : decode cX10_addClause 4 = .ok (.aload_n 0, 1) := by decide +kernel
theorem dX10_addClause_5 : decode cX10_addClause 5 = .ok (.getfield 47, 3) := by decide +kernel
theorem dX10_addClause_8 : decode cX10_addClause 8 = .ok (.iload_n 1, 1) := by decide +kernel
theorem dX10_addClause_9 : decode cX10_addClause 9 = .ok (.iastore, 1) := by decide +kernel
theorem dX10_addClause_10 : decode cX10_addClause 10 = .ok (.aload_n 0, 1) := by decide +kernel
theorem dX10_addClause_11 : decode cX10_addClause 11 = .ok (.getfield 15, 3) := by decide +kernel
theorem dX10_addClause_14 : decode cX10_addClause 14 = .ok (.aload_n 0, 1) := by decide +kernel
theorem dX10_addClause_15 : decode cX10_addClause 15 = .ok (.getfield 47, 3) := by decide +kernel
theorem dX10_addClause_18 : decode cX10_addClause 18 = .ok (.iload_n 2, 1) := by decide +kernel
theorem dX10_addClause_19 : decode cX10_addClause 19 = .ok (.iastore, 1) := by decide +kernel
theorem dX10_addClause_20 : decode cX10_addClause 20 = .ok (.aload_n 0, 1) := by decide +kernel
theorem dX10_addClause_21 : decode cX10_addClause 21 = .ok (.getfield 18, 3) := by decide +kernel
theorem dX10_addClause_24 : decode cX10_addClause 24 = .ok (.aload_n 0, 1) := by decide +kernel
theorem dX10_addClause_25 : decode cX10_addClause 25 = .ok (.getfield 47, 3) := by decide +kernel
theorem dX10_addClause_28 : decode cX10_addClause 28 = .ok (.iload_n 3, 1) := by decide +kernel
theorem dX10_addClause_29 : decode cX10_addClause 29 = .ok (.iastore, 1) := by decide +kernel
theorem dX10_addClause_30 : decode cX10_addClause 30 = .ok (.aload_n 0, 1) := by decide +kernel
theorem dX10_addClause_31 : decode cX10_addClause 31 = .ok (.getfield 21, 3) := by decide +kernel
theorem dX10_addClause_34 : decode cX10_addClause 34 = .ok (.aload_n 0, 1) := by decide +kernel
theorem dX10_addClause_35 : decode cX10_addClause 35 = .ok (.getfield 47, 3) := by decide +kernel
theorem dX10_addClause_38 : decode cX10_addClause 38 = .ok (.aload_n 0, 1) := by decide +kernel
theorem dX10_addClause_39 : decode cX10_addClause 39 = .ok (.getfield 50, 3) := by decide +kernel
theorem dX10_addClause_42 : decode cX10_addClause 42 = .ok (.iastore, 1) := by decide +kernel
theorem dX10_addClause_43 : decode cX10_addClause 43 = .ok (.aload_n 0, 1) := by decide +kernel
theorem dX10_addClause_44 : decode cX10_addClause 44 = .ok (.dup, 1) := by decide +kernel
theorem dX10_addClause_45 : decode cX10_addClause 45 = .ok (.getfield 47, 3) := by decide +kernel
theorem dX10_addClause_48 : decode cX10_addClause 48 = .ok (.iconst 1, 1) := by decide +kernel
theorem dX10_addClause_49 : decode cX10_addClause 49 = .ok (.iadd, 1) := by decide +kernel
theorem dX10_addClause_50 : decode cX10_addClause 50 = .ok (.putfield 47, 3) := by decide +kernel
theorem dX10_addClause_53 : decode cX10_addClause 53 = .ok (.iload_n 1, 1) := by decide +kernel
theorem dX10_addClause_54 : decode cX10_addClause 54 = .ok (.tableswitch 59 2 4 #[26, 43, 51], 26) := by decide +kernel
theorem dX10_addClause_80 : decode cX10_addClause 80 = .ok (.aload_n 0, 1) := by decide +kernel
theorem dX10_addClause_81 : decode cX10_addClause 81 = .ok (.iload_n 2, 1) := by decide +kernel
theorem dX10_addClause_82 : decode cX10_addClause 82 = .ok (.iconst 1, 1) := by decide +kernel
theorem dX10_addClause_83 : decode cX10_addClause 83 = .ok (.if_icmp .ge 7, 3) := by decide +kernel
theorem dX10_addClause_86 : decode cX10_addClause 86 = .ok (.iconst 1, 1) := by decide +kernel
theorem dX10_addClause_87 : decode cX10_addClause 87 = .ok (.goto 4, 3) := by decide +kernel
theorem dX10_addClause_90 : decode cX10_addClause 90 = .ok (.iload_n 2, 1) := by decide +kernel
theorem dX10_addClause_91 : decode cX10_addClause 91 = .ok (.putfield 27, 3) := by decide +kernel
theorem dX10_addClause_94 : decode cX10_addClause 94 = .ok (.goto 19, 3) := by decide +kernel
theorem dX10_addClause_97 : decode cX10_addClause 97 = .ok (.aload_n 0, 1) := by decide +kernel
theorem dX10_addClause_98 : decode cX10_addClause 98 = .ok (.iload_n 2, 1) := by decide +kernel
theorem dX10_addClause_99 : decode cX10_addClause 99 = .ok (.putfield 31, 3) := by decide +kernel
theorem dX10_addClause_102 : decode cX10_addClause 102 = .ok (.goto 11, 3) := by decide +kernel
theorem dX10_addClause_105 : decode cX10_addClause 105 = .ok (.aload_n 0, 1) := by decide +kernel
theorem dX10_addClause_106 : decode cX10_addClause 106 = .ok (.iload_n 2, 1) := by decide +kernel
theorem dX10_addClause_107 : decode cX10_addClause 107 = .ok (.putfield 34, 3) := by decide +kernel
theorem dX10_addClause_110 : decode cX10_addClause 110 = .ok (.goto 3, 3) := by decide +kernel
theorem dX10_addClause_113 : decode cX10_addClause 113 = .ok (.return_, 1) := by decide +kernel
theorem dX10_wordOf_0 : decode cX10_wordOf 0 = .ok (.iload_n 0, 1) := by decide +kernel
theorem dX10_wordOf_1 : decode cX10_wordOf 1 = .ok (.tableswitch 43 0 3 #[31, 34, 37, 40], 31) := by decide +kernel
theorem dX10_wordOf_32 : decode cX10_wordOf 32 = .ok (.ldc 76, 2) := by decide +kernel
theorem dX10_wordOf_34 : decode cX10_wordOf 34 = .ok (.areturn, 1) := by decide +kernel
theorem dX10_wordOf_35 : decode cX10_wordOf 35 = .ok (.ldc 78, 2) := by decide +kernel
theorem dX10_wordOf_37 : decode cX10_wordOf 37 = .ok (.areturn, 1) := by decide +kernel
theorem dX10_wordOf_38 : decode cX10_wordOf 38 = .ok (.ldc 80, 2) := by decide +kernel
theorem dX10_wordOf_40 : decode cX10_wordOf 40 = .ok (.areturn, 1) := by decide +kernel
theorem dX10_wordOf_41 : decode cX10_wordOf 41 = .ok (.ldc 81, 2) := by decide +kernel
theorem dX10_wordOf_43 : decode cX10_wordOf 43 = .ok (.areturn, 1) := by decide +kernel
theorem dX10_wordOf_44 : decode cX10_wordOf 44 = .ok (.ldc 82, 2) := by decide +kernel
theorem dX10_wordOf_46 : decode cX10_wordOf 46 = .ok (.areturn, 1) := by decide +kernel
theorem dX10_readWord_0 : decode cX10_readWord 0 = .ok (.iconst 0, 1) := by decide +kernel
theorem dX10_readWord_1 : decode cX10_readWord 1 = .ok (.istore_n 1, 1) := by decide +kernel
theorem dX10_readWord_2 : decode cX10_readWord 2 = .ok (.iconst 0, 1) := by decide +kernel
theorem dX10_readWord_3 : decode cX10_readWord 3 = .ok (.istore_n 2, 1) := by decide +kernel
theorem dX10_readWord_4 : decode cX10_readWord 4 = .ok (.iload_n 2, 1) := by decide +kernel
theorem dX10_readWord_5 : decode cX10_readWord 5 = .ok (.iconst 5, 1) := by decide +kernel
theorem dX10_readWord_6 : decode cX10_readWord 6 = .ok (.if_icmp .ge 50, 3) := by decide +kernel
theorem dX10_readWord_9 : decode cX10_readWord 9 = .ok (.iload_n 2, 1) := by decide +kernel
theorem dX10_readWord_10 : decode cX10_readWord 10 = .ok (.invokestatic 83, 3) := by decide +kernel
theorem dX10_readWord_13 : decode cX10_readWord 13 = .ok (.astore_n 3, 1) := by decide +kernel
theorem dX10_readWord_14 : decode cX10_readWord 14 = .ok (.aload_n 0, 1) := by decide +kernel
theorem dX10_readWord_15 : decode cX10_readWord 15 = .ok (.aload_n 3, 1) := by decide +kernel
theorem dX10_readWord_16 : decode cX10_readWord 16 = .ok (.invokevirtual 87, 3) := by decide +kernel
theorem dX10_readWord_19 : decode cX10_readWord 19 = .ok (.istore 4, 2) := by decide +kernel
theorem dX10_readWord_21 : decode cX10_readWord 21 = .ok (.iload 4, 2) := by decide +kernel
theorem dX10_readWord_23 : decode cX10_readWord 23 = .ok (.aload_n 3, 1) := by decide +kernel
theorem dX10_readWord_24 : decode cX10_readWord 24 = .ok (.invokevirtual 91, 3) := by decide +kernel
theorem dX10_readWord_27 : decode cX10_readWord 27 = .ok (.if_icmp .ne 16, 3) := by decide +kernel
theorem dX10_readWord_30 : decode cX10_readWord 30 = .ok (.aload_n 0, 1) := by decide +kernel
theorem dX10_readWord_31 : decode cX10_readWord 31 = .ok (.dup, 1) := by decide +kernel
theorem dX10_readWord_32 : decode cX10_readWord 32 = .ok (.getfield 44, 3) := by decide +kernel
theorem dX10_readWord_35 : decode cX10_readWord 35 = .ok (.iload 4, 2) := by decide +kernel
theorem dX10_readWord_37 : decode cX10_readWord 37 = .ok (.iadd, 1) := by decide +kernel
theorem dX10_readWord_38 : decode cX10_readWord 38 = .ok (.putfield 44, 3) := by decide +kernel
theorem dX10_readWord_41 : decode cX10_readWord 41 = .ok (.iload_n 2, 1) := by decide +kernel
theorem dX10_readWord_42 : decode cX10_readWord 42 = .ok (.ireturn, 1) := by decide +kernel
theorem dX10_readWord_43 : decode cX10_readWord 43 = .ok (.iload_n 1, 1) := by decide +kernel
theorem dX10_readWord_44 : decode cX10_readWord 44 = .ok (.iload 4, 2) := by decide +kernel
theorem dX10_readWord_46 : decode cX10_readWord 46 = .ok (.invokestatic 96, 3) := by decide +kernel
theorem dX10_readWord_49 : decode cX10_readWord 49 = .ok (.istore_n 1, 1) := by decide +kernel
theorem dX10_readWord_50 : decode cX10_readWord 50 = .ok (.iinc 2 1, 3) := by decide +kernel
theorem dX10_readWord_53 : decode cX10_readWord 53 = .ok (.goto (-49), 3) := by decide +kernel
theorem dX10_readWord_56 : decode cX10_readWord 56 = .ok (.aload_n 0, 1) := by decide +kernel
theorem dX10_readWord_57 : decode cX10_readWord 57 = .ok (.dup, 1) := by decide +kernel
theorem dX10_readWord_58 : decode cX10_readWord 58 = .ok (.getfield 44, 3) := by decide +kernel
theorem dX10_readWord_61 : decode cX10_readWord 61 = .ok (.iload_n 1, 1) := by decide +kernel
theorem dX10_readWord_62 : decode cX10_readWord 62 = .ok (.iadd, 1) := by decide +kernel
theorem dX10_readWord_63 : decode cX10_readWord 63 = .ok (.putfield 44, 3) := by decide +kernel
theorem dX10_readWord_66 : decode cX10_readWord 66 = .ok (.iconst (-1), 1) := by decide +kernel
theorem dX10_readWord_67 : decode cX10_readWord 67 = .ok (.ireturn, 1) := by decide +kernel
theorem dX10_sameAs_0 : decode cX10_sameAs 0 = .ok (.iconst 0, 1) := by decide +kernel
theorem dX10_sameAs_1 : decode cX10_sameAs 1 = .ok (.istore_n 2, 1) := by decide +kernel
theorem dX10_sameAs_2 : decode cX10_sameAs 2 = .ok (.iload_n 2, 1) := by decide +kernel
theorem dX10_sameAs_3 : decode cX10_sameAs 3 = .ok (.aload_n 1, 1) := by decide +kernel
theorem dX10_sameAs_4 : decode cX10_sameAs 4 = .ok (.invokevirtual 91, 3) := by decide +kernel
theorem dX10_sameAs_7 : decode cX10_sameAs 7 = .ok (.if_icmp .ge 29, 3) := by decide +kernel
theorem dX10_sameAs_10 : decode cX10_sameAs 10 = .ok (.aload_n 0, 1) := by decide +kernel
theorem dX10_sameAs_11 : decode cX10_sameAs 11 = .ok (.aload_n 0, 1) := by decide +kernel
theorem dX10_sameAs_12 : decode cX10_sameAs 12 = .ok (.getfield 44, 3) := by decide +kernel
theorem dX10_sameAs_15 : decode cX10_sameAs 15 = .ok (.iload_n 2, 1) := by decide +kernel
theorem dX10_sameAs_16 : decode cX10_sameAs 16 = .ok (.iadd, 1) := by decide +kernel
theorem dX10_sameAs_17 : decode cX10_sameAs 17 = .ok (.invokevirtual 102, 3) := by decide +kernel
theorem dX10_sameAs_20 : decode cX10_sameAs 20 = .ok (.aload_n 1, 1) := by decide +kernel
theorem dX10_sameAs_21 : decode cX10_sameAs 21 = .ok (.iload_n 2, 1) := by decide +kernel
theorem dX10_sameAs_22 : decode cX10_sameAs 22 = .ok (.invokevirtual 106, 3) := by decide +kernel
theorem dX10_sameAs_25 : decode cX10_sameAs 25 = .ok (.if_icmp .eq 5, 3) := by decide +kernel
theorem dX10_sameAs_28 : decode cX10_sameAs 28 = .ok (.iload_n 2, 1) := by decide +kernel
theorem dX10_sameAs_29 : decode cX10_sameAs 29 = .ok (.ireturn, 1) := by decide +kernel
theorem dX10_sameAs_30 : decode cX10_sameAs 30 = .ok (.iinc 2 1, 3) := by decide +kernel
theorem dX10_sameAs_33 : decode cX10_sameAs 33 = .ok (.goto (-31), 3) := by decide +kernel
theorem dX10_sameAs_36 : decode cX10_sameAs 36 = .ok (.aload_n 1, 1) := by decide +kernel
theorem dX10_sameAs_37 : decode cX10_sameAs 37 = .ok (.invokevirtual 91, 3) := by decide +kernel
theorem dX10_sameAs_40 : decode cX10_sameAs 40 = .ok (.ireturn, 1) := by decide +kernel
theorem dX10_signAt_0 : decode cX10_signAt 0 = .ok (.iload_n 1, 1) := by decide +kernel
theorem dX10_signAt_1 : decode cX10_signAt 1 = .ok (.ifCond .lt 29, 3) := by decide +kernel
theorem dX10_signAt_4 : decode cX10_signAt 4 = .ok (.iload_n 1, 1) := by decide +kernel
theorem dX10_signAt_5 : decode cX10_signAt 5 = .ok (.aload_n 0, 1) := by decide +kernel
theorem dX10_signAt_6 : decode cX10_signAt 6 = .ok (.getfield 41, 3) := by decide +kernel
theorem dX10_signAt_9 : decode cX10_signAt 9 = .ok (.if_icmp .ge 21, 3) := by decide +kernel
theorem dX10_signAt_12 : decode cX10_signAt 12 = .ok (.iload_n 1, 1) := by decide +kernel
theorem dX10_signAt_13 : decode cX10_signAt 13 = .ok (.aload_n 0, 1) := by decide +kernel
theorem dX10_signAt_14 : decode cX10_signAt 14 = .ok (.getfield 37, 3) := by decide +kernel
theorem dX10_signAt_17 : decode cX10_signAt 17 = .ok (.arraylength, 1) := by decide +kernel
theorem dX10_signAt_18 : decode cX10_signAt 18 = .ok (.if_icmp .ge 12, 3) := by decide +kernel
theorem dX10_signAt_21 : decode cX10_signAt 21 = .ok (.aload_n 0, 1) := by decide +kernel
theorem dX10_signAt_22 : decode cX10_signAt 22 = .ok (.getfield 37, 3) := by decide +kernel
theorem dX10_signAt_25 : decode cX10_signAt 25 = .ok (.iload_n 1, 1) := by decide +kernel
theorem dX10_signAt_26 : decode cX10_signAt 26 = .ok (.baload, 1) := by decide +kernel
theorem dX10_signAt_27 : decode cX10_signAt 27 = .ok (.goto 4, 3) := by decide +kernel
theorem dX10_signAt_30 : decode cX10_signAt 30 = .ok (.iconst (-1), 1) := by decide +kernel
theorem dX10_signAt_31 : decode cX10_signAt 31 = .ok (.ireturn, 1) := by decide +kernel
theorem dX10_skip_0 : decode cX10_skip 0 = .ok (.aload_n 0, 1) := by decide +kernel
theorem dX10_skip_1 : decode cX10_skip 1 = .ok (.aload_n 0, 1) := by decide +kernel
theorem dX10_skip_2 : decode cX10_skip 2 = .ok (.getfield 44, 3) := by decide +kernel
theorem dX10_skip_5 : decode cX10_skip 5 = .ok (.invokevirtual 102, 3) := by decide +kernel
theorem dX10_skip_8 : decode cX10_skip 8 = .ok (.iload_n 1, 1) := by decide +kernel
theorem dX10_skip_9 : decode cX10_skip 9 = .ok (.if_icmp .eq 5, 3) := by decide +kernel
theorem dX10_skip_12 : decode cX10_skip 12 = .ok (.iconst 0, 1) := by decide +kernel
theorem dX10_skip_13 : decode cX10_skip 13 = .ok (.ireturn, 1) := by decide +kernel
theorem dX10_skip_14 : decode cX10_skip 14 = .ok (.aload_n 0, 1) := by decide +kernel
theorem dX10_skip_15 : decode cX10_skip 15 = .ok (.dup, 1) := by decide +kernel
theorem dX10_skip_16 : decode cX10_skip 16 = .ok (.getfield 44, 3) := by decide +kernel
theorem dX10_skip_19 : decode cX10_skip 19 = .ok (.iconst 1, 1) := by decide +kernel
theorem dX10_skip_20 : decode cX10_skip 20 = .ok (.iadd, 1) := by decide +kernel
theorem dX10_skip_21 : decode cX10_skip 21 = .ok (.putfield 44, 3) := by decide +kernel
theorem dX10_skip_24 : decode cX10_skip 24 = .ok (.iconst 1, 1) := by decide +kernel
theorem dX10_skip_25 : decode cX10_skip 25 = .ok (.ireturn, 1) := by decide +kernel
theorem dX10_isDigit_0 : decode cX10_isDigit 0 = .ok (.iload_n 0, 1) := by decide +kernel
theorem dX10_isDigit_1 : decode cX10_isDigit 1 = .ok (.bipush 48, 2) := by decide +kernel
theorem dX10_isDigit_3 : decode cX10_isDigit 3 = .ok (.if_icmp .lt 13, 3) := by decide +kernel
theorem dX10_isDigit_6 : decode cX10_isDigit 6 = .ok (.iload_n 0, 1) := by decide +kernel
theorem dX10_isDigit_7 : decode cX10_isDigit 7 = .ok (.bipush 57, 2) := by decide +kernel
theorem dX10_isDigit_9 : decode cX10_isDigit 9 = .ok (.if_icmp .gt 7, 3) := by decide +kernel
theorem dX10_isDigit_12 : decode cX10_isDigit 12 = .ok (.iconst 1, 1) := by decide +kernel
theorem dX10_isDigit_13 : decode cX10_isDigit 13 = .ok (.goto 4, 3) := by decide +kernel
theorem dX10_isDigit_16 : decode cX10_isDigit 16 = .ok (.iconst 0, 1) := by decide +kernel
theorem dX10_isDigit_17 : decode cX10_isDigit 17 = .ok (.ireturn, 1) := by decide +kernel
theorem dX10_readNumber_0 : decode cX10_readNumber 0 = .ok (.aload_n 0, 1) := by decide +kernel
theorem dX10_readNumber_1 : decode cX10_readNumber 1 = .ok (.aload_n 0, 1) := by decide +kernel
theorem dX10_readNumber_2 : decode cX10_readNumber 2 = .ok (.getfield 44, 3) := by decide +kernel
theorem dX10_readNumber_5 : decode cX10_readNumber 5 = .ok (.invokevirtual 102, 3) := by decide +kernel
theorem dX10_readNumber_8 : decode cX10_readNumber 8 = .ok (.istore_n 1, 1) := by decide +kernel
theorem dX10_readNumber_9 : decode cX10_readNumber 9 = .ok (.iload_n 1, 1) := by decide +kernel
theorem dX10_readNumber_10 : decode cX10_readNumber 10 = .ok (.invokestatic 110, 3) := by decide +kernel
theorem dX10_readNumber_13 : decode cX10_readNumber 13 = .ok (.ifCond .ne 5, 3) := by decide +kernel
theorem dX10_readNumber_16 : decode cX10_readNumber 16 = .ok (.iconst (-1), 1) := by decide +kernel
theorem dX10_readNumber_17 : decode cX10_readNumber 17 = .ok (.ireturn, 1) := by decide +kernel
theorem dX10_readNumber_18 : decode cX10_readNumber 18 = .ok (.aload_n 0, 1) := by decide +kernel
theorem dX10_readNumber_19 : decode cX10_readNumber 19 = .ok (.dup, 1) := by decide +kernel
theorem dX10_readNumber_20 : decode cX10_readNumber 20 = .ok (.getfield 44, 3) := by decide +kernel
theorem dX10_readNumber_23 : decode cX10_readNumber 23 = .ok (.iconst 1, 1) := by decide +kernel
theorem dX10_readNumber_24 : decode cX10_readNumber 24 = .ok (.iadd, 1) := by decide +kernel
theorem dX10_readNumber_25 : decode cX10_readNumber 25 = .ok (.putfield 44, 3) := by decide +kernel
theorem dX10_readNumber_28 : decode cX10_readNumber 28 = .ok (.aload_n 0, 1) := by decide +kernel
theorem dX10_readNumber_29 : decode cX10_readNumber 29 = .ok (.aload_n 0, 1) := by decide +kernel
theorem dX10_readNumber_30 : decode cX10_readNumber 30 = .ok (.getfield 44, 3) := by decide +kernel
theorem dX10_readNumber_33 : decode cX10_readNumber 33 = .ok (.invokevirtual 102, 3) := by decide +kernel
theorem dX10_readNumber_36 : decode cX10_readNumber 36 = .ok (.istore_n 2, 1) := by decide +kernel
theorem dX10_readNumber_37 : decode cX10_readNumber 37 = .ok (.iload_n 2, 1) := by decide +kernel
theorem dX10_readNumber_38 : decode cX10_readNumber 38 = .ok (.invokestatic 110, 3) := by decide +kernel
theorem dX10_readNumber_41 : decode cX10_readNumber 41 = .ok (.ifCond .ne 8, 3) := by decide +kernel
theorem dX10_readNumber_44 : decode cX10_readNumber 44 = .ok (.iload_n 1, 1) := by decide +kernel
theorem dX10_readNumber_45 : decode cX10_readNumber 45 = .ok (.bipush 48, 2) := by decide +kernel
theorem dX10_readNumber_47 : decode cX10_readNumber 47 = .ok (.isub, 1) := by decide +kernel
theorem dX10_readNumber_48 : decode cX10_readNumber 48 = .ok (.ireturn, 1) := by decide +kernel
theorem dX10_readNumber_49 : decode cX10_readNumber 49 = .ok (.aload_n 0, 1) := by decide +kernel
theorem dX10_readNumber_50 : decode cX10_readNumber 50 = .ok (.dup, 1) := by decide +kernel
theorem dX10_readNumber_51 : decode cX10_readNumber 51 = .ok (.getfield 44, 3) := by decide +kernel
theorem dX10_readNumber_54 : decode cX10_readNumber 54 = .ok (.iconst 1, 1) := by decide +kernel
theorem dX10_readNumber_55 : decode cX10_readNumber 55 = .ok (.iadd, 1) := by decide +kernel
theorem dX10_readNumber_56 : decode cX10_readNumber 56 = .ok (.putfield 44, 3) := by decide +kernel
theorem dX10_readNumber_59 : decode cX10_readNumber 59 = .ok (.iload_n 1, 1) := by decide +kernel
theorem dX10_readNumber_60 : decode cX10_readNumber 60 = .ok (.bipush 48, 2) := by decide +kernel
theorem dX10_readNumber_62 : decode cX10_readNumber 62 = .ok (.isub, 1) := by decide +kernel
theorem dX10_readNumber_63 : decode cX10_readNumber 63 = .ok (.bipush 10, 2) := by decide +kernel
theorem dX10_readNumber_65 : decode cX10_readNumber 65 = .ok (.imul, 1) := by decide +kernel
theorem dX10_readNumber_66 : decode cX10_readNumber 66 = .ok (.iload_n 2, 1) := by decide +kernel
theorem dX10_readNumber_67 : decode cX10_readNumber 67 = .ok (.iadd, 1) := by decide +kernel
theorem dX10_readNumber_68 : decode cX10_readNumber 68 = .ok (.bipush 48, 2) := by decide +kernel
theorem dX10_readNumber_70 : decode cX10_readNumber 70 = .ok (.isub, 1) := by decide +kernel
theorem dX10_readNumber_71 : decode cX10_readNumber 71 = .ok (.ireturn, 1) := by decide +kernel
theorem dX10_readEither_0 : decode cX10_readEither 0 = .ok (.aload_n 0, 1) := by decide +kernel
theorem dX10_readEither_1 : decode cX10_readEither 1 = .ok (.iload_n 1, 1) := by decide +kernel
theorem dX10_readEither_2 : decode cX10_readEither 2 = .ok (.invokevirtual 113, 3) := by decide +kernel
theorem dX10_readEither_5 : decode cX10_readEither 5 = .ok (.ifCond .ne 5, 3) := by decide +kernel
theorem dX10_readEither_8 : decode cX10_readEither 8 = .ok (.iconst 0, 1) := by decide +kernel
theorem dX10_readEither_9 : decode cX10_readEither 9 = .ok (.ireturn, 1) := by decide +kernel
theorem dX10_readEither_10 : decode cX10_readEither 10 = .ok (.iconst 0, 1) := by decide +kernel
theorem dX10_readEither_11 : decode cX10_readEither 11 = .ok (.istore_n 2, 1) := by decide +kernel
theorem dX10_readEither_12 : decode cX10_readEither 12 = .ok (.iload_n 2, 1) := by decide +kernel
theorem dX10_readEither_13 : decode cX10_readEither 13 = .ok (.bipush 100, 2) := by decide +kernel
theorem dX10_readEither_15 : decode cX10_readEither 15 = .ok (.if_icmp .ge 34, 3) := by decide +kernel
theorem dX10_readEither_18 : decode cX10_readEither 18 = .ok (.aload_n 0, 1) := by decide +kernel
theorem dX10_readEither_19 : decode cX10_readEither 19 = .ok (.bipush 124, 2) := by decide +kernel
theorem dX10_readEither_21 : decode cX10_readEither 21 = .ok (.invokevirtual 57, 3) := by decide +kernel
theorem dX10_readEither_24 : decode cX10_readEither 24 = .ok (.ifCond .eq 25, 3) := by decide +kernel
theorem dX10_readEither_27 : decode cX10_readEither 27 = .ok (.aload_n 0, 1) := by decide +kernel
theorem dX10_readEither_28 : decode cX10_readEither 28 = .ok (.iload_n 1, 1) := by decide +kernel
theorem dX10_readEither_29 : decode cX10_readEither 29 = .ok (.invokevirtual 113, 3) := by decide +kernel
theorem dX10_readEither_32 : decode cX10_readEither 32 = .ok (.ifCond .ne 5, 3) := by decide +kernel
theorem dX10_readEither_35 : decode cX10_readEither 35 = .ok (.iconst 0, 1) := by decide +kernel
theorem dX10_readEither_36 : decode cX10_readEither 36 = .ok (.ireturn, 1) := by decide +kernel
theorem dX10_readEither_37 : decode cX10_readEither 37 = .ok (.aload_n 0, 1) := by decide +kernel
theorem dX10_readEither_38 : decode cX10_readEither 38 = .ok (.bipush (-3), 2) := by decide +kernel
theorem dX10_readEither_40 : decode cX10_readEither 40 = .ok (.invokevirtual 116, 3) := by decide +kernel
theorem dX10_readEither_43 : decode cX10_readEither 43 = .ok (.iinc 2 1, 3) := by decide +kernel
theorem dX10_readEither_46 : decode cX10_readEither 46 = .ok (.goto (-34), 3) := by decide +kernel
theorem dX10_readEither_49 : decode cX10_readEither 49 = .ok (.iconst 1, 1) := by decide +kernel
theorem dX10_readEither_50 : decode cX10_readEither 50 = .ok (.ireturn, 1) := by decide +kernel
theorem dX10_readBoth_0 : decode cX10_readBoth 0 = .ok (.aload_n 0, 1) := by decide +kernel
theorem dX10_readBoth_1 : decode cX10_readBoth 1 = .ok (.iload_n 1, 1) := by decide +kernel
theorem dX10_readBoth_2 : decode cX10_readBoth 2 = .ok (.invokevirtual 120, 3) := by decide +kernel
theorem dX10_readBoth_5 : decode cX10_readBoth 5 = .ok (.ifCond .ne 5, 3) := by decide +kernel
theorem dX10_readBoth_8 : decode cX10_readBoth 8 = .ok (.iconst 0, 1) := by decide +kernel
theorem dX10_readBoth_9 : decode cX10_readBoth 9 = .ok (.ireturn, 1) := by decide +kernel
theorem dX10_readBoth_10 : decode cX10_readBoth 10 = .ok (.iconst 0, 1) := by decide +kernel
theorem dX10_readBoth_11 : decode cX10_readBoth 11 = .ok (.istore_n 2, 1) := by decide +kernel
theorem dX10_readBoth_12 : decode cX10_readBoth 12 = .ok (.iload_n 2, 1) := by decide +kernel
theorem dX10_readBoth_13 : decode cX10_readBoth 13 = .ok (.bipush 100, 2) := by decide +kernel
theorem dX10_readBoth_15 : decode cX10_readBoth 15 = .ok (.if_icmp .ge 34, 3) := by decide +kernel
theorem dX10_readBoth_18 : decode cX10_readBoth 18 = .ok (.aload_n 0, 1) := by decide +kernel
theorem dX10_readBoth_19 : decode cX10_readBoth 19 = .ok (.bipush 38, 2) := by decide +kernel
theorem dX10_readBoth_21 : decode cX10_readBoth 21 = .ok (.invokevirtual 57, 3) := by decide +kernel
theorem dX10_readBoth_24 : decode cX10_readBoth 24 = .ok (.ifCond .eq 25, 3) := by decide +kernel
theorem dX10_readBoth_27 : decode cX10_readBoth 27 = .ok (.aload_n 0, 1) := by decide +kernel
theorem dX10_readBoth_28 : decode cX10_readBoth 28 = .ok (.iload_n 1, 1) := by decide +kernel
theorem dX10_readBoth_29 : decode cX10_readBoth 29 = .ok (.invokevirtual 120, 3) := by decide +kernel
theorem dX10_readBoth_32 : decode cX10_readBoth 32 = .ok (.ifCond .ne 5, 3) := by decide +kernel
theorem dX10_readBoth_35 : decode cX10_readBoth 35 = .ok (.iconst 0, 1) := by decide +kernel
theorem dX10_readBoth_36 : decode cX10_readBoth 36 = .ok (.ireturn, 1) := by decide +kernel
theorem dX10_readBoth_37 : decode cX10_readBoth 37 = .ok (.aload_n 0, 1) := by decide +kernel
theorem dX10_readBoth_38 : decode cX10_readBoth 38 = .ok (.bipush (-2), 2) := by decide +kernel
theorem dX10_readBoth_40 : decode cX10_readBoth 40 = .ok (.invokevirtual 116, 3) := by decide +kernel
theorem dX10_readBoth_43 : decode cX10_readBoth 43 = .ok (.iinc 2 1, 3) := by decide +kernel
theorem dX10_readBoth_46 : decode cX10_readBoth 46 = .ok (.goto (-34), 3) := by decide +kernel
theorem dX10_readBoth_49 : decode cX10_readBoth 49 = .ok (.iconst 1, 1) := by decide +kernel
theorem dX10_readBoth_50 : decode cX10_readBoth 50 = .ok (.ireturn, 1) := by decide +kernel
theorem dX10_readPart_0 : decode cX10_readPart 0 = .ok (.aload_n 0, 1) := by decide +kernel
theorem dX10_readPart_1 : decode cX10_readPart 1 = .ok (.aload_n 0, 1) := by decide +kernel
theorem dX10_readPart_2 : decode cX10_readPart 2 = .ok (.getfield 44, 3) := by decide +kernel
theorem dX10_readPart_5 : decode cX10_readPart 5 = .ok (.invokevirtual 102, 3) := by decide +kernel
theorem dX10_readPart_8 : decode cX10_readPart 8 = .ok (.istore_n 2, 1) := by decide +kernel
theorem dX10_readPart_9 : decode cX10_readPart 9 = .ok (.iload_n 2, 1) := by decide +kernel
theorem dX10_readPart_10 : decode cX10_readPart 10 = .ok (.bipush 33, 2) := by decide +kernel
theorem dX10_readPart_12 : decode cX10_readPart 12 = .ok (.if_icmp .eq 14, 3) := by decide +kernel
theorem dX10_readPart_15 : decode cX10_readPart 15 = .ok (.iload_n 2, 1) := by decide +kernel
theorem dX10_readPart_16 : decode cX10_readPart 16 = .ok (.bipush 40, 2) := by decide +kernel
theorem dX10_readPart_18 : decode cX10_readPart 18 = .ok (.if_icmp .eq 8, 3) := by decide +kernel
theorem dX10_readPart_21 : decode cX10_readPart 21 = .ok (.aload_n 0, 1) := by decide +kernel
theorem dX10_readPart_22 : decode cX10_readPart 22 = .ok (.invokevirtual 123, 3) := by decide +kernel
theorem dX10_readPart_25 : decode cX10_readPart 25 = .ok (.ireturn, 1) := by decide +kernel
theorem dX10_readPart_26 : decode cX10_readPart 26 = .ok (.iload_n 1, 1) := by decide +kernel
theorem dX10_readPart_27 : decode cX10_readPart 27 = .ok (.iconst 4, 1) := by decide +kernel
theorem dX10_readPart_28 : decode cX10_readPart 28 = .ok (.if_icmp .lt 5, 3) := by decide +kernel
theorem dX10_readPart_31 : decode cX10_readPart 31 = .ok (.iconst 0, 1) := by decide +kernel
theorem dX10_readPart_32 : decode cX10_readPart 32 = .ok (.ireturn, 1) := by decide +kernel
theorem dX10_readPart_33 : decode cX10_readPart 33 = .ok (.aload_n 0, 1) := by decide +kernel
theorem dX10_readPart_34 : decode cX10_readPart 34 = .ok (.dup, 1) := by decide +kernel
theorem dX10_readPart_35 : decode cX10_readPart 35 = .ok (.getfield 44, 3) := by decide +kernel
theorem dX10_readPart_38 : decode cX10_readPart 38 = .ok (.iconst 1, 1) := by decide +kernel
theorem dX10_readPart_39 : decode cX10_readPart 39 = .ok (.iadd, 1) := by decide +kernel
theorem dX10_readPart_40 : decode cX10_readPart 40 = .ok (.putfield 44, 3) := by decide +kernel
theorem dX10_readPart_43 : decode cX10_readPart 43 = .ok (.iload_n 2, 1) := by decide +kernel
theorem dX10_readPart_44 : decode cX10_readPart 44 = .ok (.bipush 40, 2) := by decide +kernel
theorem dX10_readPart_46 : decode cX10_readPart 46 = .ok (.if_icmp .ne 28, 3) := by decide +kernel
theorem dX10_readPart_49 : decode cX10_readPart 49 = .ok (.aload_n 0, 1) := by decide +kernel
theorem dX10_readPart_50 : decode cX10_readPart 50 = .ok (.iload_n 1, 1) := by decide +kernel
theorem dX10_readPart_51 : decode cX10_readPart 51 = .ok (.iconst 1, 1) := by decide +kernel
theorem dX10_readPart_52 : decode cX10_readPart 52 = .ok (.iadd, 1) := by decide +kernel
theorem dX10_readPart_53 : decode cX10_readPart 53 = .ok (.invokevirtual 68, 3) := by decide +kernel
theorem dX10_readPart_56 : decode cX10_readPart 56 = .ok (.ifCond .eq 16, 3) := by decide +kernel
theorem dX10_readPart_59 : decode cX10_readPart 59 = .ok (.aload_n 0, 1) := by decide +kernel
theorem dX10_readPart_60 : decode cX10_readPart 60 = .ok (.bipush 41, 2) := by decide +kernel
theorem dX10_readPart_62 : decode cX10_readPart 62 = .ok (.invokevirtual 57, 3) := by decide +kernel
theorem dX10_readPart_65 : decode cX10_readPart 65 = .ok (.ifCond .eq 7, 3) := by decide +kernel
theorem dX10_readPart_68 : decode cX10_readPart 68 = .ok (.iconst 1, 1) := by decide +kernel
theorem dX10_readPart_69 : decode cX10_readPart 69 = .ok (.goto 4, 3) := by decide +kernel
theorem dX10_readPart_72 : decode cX10_readPart 72 = .ok (.iconst 0, 1) := by decide +kernel
theorem dX10_readPart_73 : decode cX10_readPart 73 = .ok (.ireturn, 1) := by decide +kernel
theorem dX10_readPart_74 : decode cX10_readPart 74 = .ok (.aload_n 0, 1) := by decide +kernel
theorem dX10_readPart_75 : decode cX10_readPart 75 = .ok (.iload_n 1, 1) := by decide +kernel
theorem dX10_readPart_76 : decode cX10_readPart 76 = .ok (.iconst 1, 1) := by decide +kernel
theorem dX10_readPart_77 : decode cX10_readPart 77 = .ok (.iadd, 1) := by decide +kernel
theorem dX10_readPart_78 : decode cX10_readPart 78 = .ok (.invokevirtual 120, 3) := by decide +kernel
theorem dX10_readPart_81 : decode cX10_readPart 81 = .ok (.ifCond .ne 5, 3) := by decide +kernel
theorem dX10_readPart_84 : decode cX10_readPart 84 = .ok (.iconst 0, 1) := by decide +kernel
theorem dX10_readPart_85 : decode cX10_readPart 85 = .ok (.ireturn, 1) := by decide +kernel
theorem dX10_readPart_86 : decode cX10_readPart 86 = .ok (.aload_n 0, 1) := by decide +kernel
theorem dX10_readPart_87 : decode cX10_readPart 87 = .ok (.iconst (-1), 1) := by decide +kernel
theorem dX10_readPart_88 : decode cX10_readPart 88 = .ok (.invokevirtual 116, 3) := by decide +kernel
theorem dX10_readPart_91 : decode cX10_readPart 91 = .ok (.iconst 1, 1) := by decide +kernel
theorem dX10_readPart_92 : decode cX10_readPart 92 = .ok (.ireturn, 1) := by decide +kernel
theorem dX10_readTest_0 : decode cX10_readTest 0 = .ok (.aload_n 0, 1) := by decide +kernel
theorem dX10_readTest_1 : decode cX10_readTest 1 = .ok (.ldc 126, 2) := by decide +kernel
theorem dX10_readTest_3 : decode cX10_readTest 3 = .ok (.invokevirtual 128, 3) := by decide +kernel
theorem dX10_readTest_6 : decode cX10_readTest 6 = .ok (.istore_n 1, 1) := by decide +kernel
theorem dX10_readTest_7 : decode cX10_readTest 7 = .ok (.iload_n 1, 1) := by decide +kernel
theorem dX10_readTest_8 : decode cX10_readTest 8 = .ok (.ifCond .ge 5, 3) := by decide +kernel
theorem dX10_readTest_11 : decode cX10_readTest 11 = .ok (.iconst 0, 1) := by decide +kernel
theorem dX10_readTest_12 : decode cX10_readTest 12 = .ok (.ireturn, 1) := by decide +kernel
theorem dX10_readTest_13 : decode cX10_readTest 13 = .ok (.aload_n 0, 1) := by decide +kernel
theorem dX10_readTest_14 : decode cX10_readTest 14 = .ok (.ldc 131, 2) := by decide +kernel
theorem dX10_readTest_16 : decode cX10_readTest 16 = .ok (.invokevirtual 128, 3) := by decide +kernel
theorem dX10_readTest_19 : decode cX10_readTest 19 = .ok (.istore_n 2, 1) := by decide +kernel
theorem dX10_readTest_20 : decode cX10_readTest 20 = .ok (.iload_n 2, 1) := by decide +kernel
theorem dX10_readTest_21 : decode cX10_readTest 21 = .ok (.ifCond .ge 5, 3) := by decide +kernel
theorem dX10_readTest_24 : decode cX10_readTest 24 = .ok (.iconst 0, 1) := by decide +kernel
theorem dX10_readTest_25 : decode cX10_readTest 25 = .ok (.ireturn, 1) := by decide +kernel
theorem dX10_readTest_26 : decode cX10_readTest 26 = .ok (.aload_n 0, 1) := by decide +kernel
theorem dX10_readTest_27 : decode cX10_readTest 27 = .ok (.invokevirtual 65, 3) := by decide +kernel
theorem dX10_readTest_30 : decode cX10_readTest 30 = .ok (.istore_n 3, 1) := by decide +kernel
theorem dX10_readTest_31 : decode cX10_readTest 31 = .ok (.iload_n 3, 1) := by decide +kernel
theorem dX10_readTest_32 : decode cX10_readTest 32 = .ok (.ifCond .ge 5, 3) := by decide +kernel
theorem dX10_readTest_35 : decode cX10_readTest 35 = .ok (.iconst 0, 1) := by decide +kernel
theorem dX10_readTest_36 : decode cX10_readTest 36 = .ok (.ireturn, 1) := by decide +kernel
theorem dX10_readTest_37 : decode cX10_readTest 37 = .ok (.aload_n 0, 1) := by decide +kernel
theorem dX10_readTest_38 : decode cX10_readTest 38 = .ok (.iload_n 1, 1) := by decide +kernel
theorem dX10_readTest_39 : decode cX10_readTest 39 = .ok (.iconst 3, 1) := by decide +kernel
theorem dX10_readTest_40 : decode cX10_readTest 40 = .ok (.imul, 1) := by decide +kernel
theorem dX10_readTest_41 : decode cX10_readTest 41 = .ok (.iload_n 2, 1) := by decide +kernel
theorem dX10_readTest_42 : decode cX10_readTest 42 = .ok (.iadd, 1) := by decide +kernel
theorem dX10_readTest_43 : decode cX10_readTest 43 = .ok (.bipush 100, 2) := by decide +kernel
theorem dX10_readTest_45 : decode cX10_readTest 45 = .ok (.imul, 1) := by decide +kernel
theorem dX10_readTest_46 : decode cX10_readTest 46 = .ok (.iload_n 3, 1) := by decide +kernel
theorem dX10_readTest_47 : decode cX10_readTest 47 = .ok (.iadd, 1) := by decide +kernel
theorem dX10_readTest_48 : decode cX10_readTest 48 = .ok (.invokevirtual 116, 3) := by decide +kernel
theorem dX10_readTest_51 : decode cX10_readTest 51 = .ok (.iconst 1, 1) := by decide +kernel
theorem dX10_readTest_52 : decode cX10_readTest 52 = .ok (.ireturn, 1) := by decide +kernel
theorem dX10_readOneOf_0 : decode cX10_readOneOf 0 = .ok (.aload_n 0, 1) := by decide +kernel
theorem dX10_readOneOf_1 : decode cX10_readOneOf 1 = .ok (.aload_n 0, 1) := by decide +kernel
theorem dX10_readOneOf_2 : decode cX10_readOneOf 2 = .ok (.getfield 44, 3) := by decide +kernel
theorem dX10_readOneOf_5 : decode cX10_readOneOf 5 = .ok (.invokevirtual 102, 3) := by decide +kernel
theorem dX10_readOneOf_8 : decode cX10_readOneOf 8 = .ok (.istore_n 2, 1) := by decide +kernel
theorem dX10_readOneOf_9 : decode cX10_readOneOf 9 = .ok (.iload_n 2, 1) := by decide +kernel
theorem dX10_readOneOf_10 : decode cX10_readOneOf 10 = .ok (.ifCond .ge 7, 3) := by decide +kernel
theorem dX10_readOneOf_13 : decode cX10_readOneOf 13 = .ok (.iconst (-1), 1) := by decide +kernel
theorem dX10_readOneOf_14 : decode cX10_readOneOf 14 = .ok (.goto 9, 3) := by decide +kernel
theorem dX10_readOneOf_17 : decode cX10_readOneOf 17 = .ok (.aload_n 1, 1) := by decide +kernel
theorem dX10_readOneOf_18 : decode cX10_readOneOf 18 = .ok (.iload_n 2, 1) := by decide +kernel
theorem dX10_readOneOf_19 : decode cX10_readOneOf 19 = .ok (.i2c, 1) := by decide +kernel
theorem dX10_readOneOf_20 : decode cX10_readOneOf 20 = .ok (.invokevirtual 133, 3) := by decide +kernel
theorem dX10_readOneOf_23 : decode cX10_readOneOf 23 = .ok (.istore_n 3, 1) := by decide +kernel
theorem dX10_readOneOf_24 : decode cX10_readOneOf 24 = .ok (.iload_n 3, 1) := by decide +kernel
theorem dX10_readOneOf_25 : decode cX10_readOneOf 25 = .ok (.ifCond .lt 13, 3) := by decide +kernel
theorem dX10_readOneOf_28 : decode cX10_readOneOf 28 = .ok (.aload_n 0, 1) := by decide +kernel
theorem dX10_readOneOf_29 : decode cX10_readOneOf 29 = .ok (.dup, 1) := by decide +kernel
theorem dX10_readOneOf_30 : decode cX10_readOneOf 30 = .ok (.getfield 44, 3) := by decide +kernel
theorem dX10_readOneOf_33 : decode cX10_readOneOf 33 = .ok (.iconst 1, 1) := by decide +kernel
theorem dX10_readOneOf_34 : decode cX10_readOneOf 34 = .ok (.iadd, 1) := by decide +kernel
theorem dX10_readOneOf_35 : decode cX10_readOneOf 35 = .ok (.putfield 44, 3) := by decide +kernel
theorem dX10_readOneOf_38 : decode cX10_readOneOf 38 = .ok (.iload_n 3, 1) := by decide +kernel
theorem dX10_readOneOf_39 : decode cX10_readOneOf 39 = .ok (.ireturn, 1) := by decide +kernel
theorem dX10_addCode_0 : decode cX10_addCode 0 = .ok (.aload_n 0, 1) := by decide +kernel
theorem dX10_addCode_1 : decode cX10_addCode 1 = .ok (.getfield 50, 3) := by decide +kernel
theorem dX10_addCode_4 : decode cX10_addCode 4 = .ok (.aload_n 0, 1) := by decide +kernel
theorem dX10_addCode_5 : decode cX10_addCode 5 = .ok (.getfield 24, 3) := by decide +kernel
theorem dX10_addCode_8 : decode cX10_addCode 8 = .ok (.arraylength, 1) := by decide +kernel
theorem dX10_addCode_9 : decode cX10_addCode 9 = .ok (.if_icmp .ge 23, 3) := by decide +kernel
theorem dX10_addCode_12 : decode cX10_addCode 12 = .ok (.aload_n 0, 1) := by decide +kernel
theorem dX10_addCode_13 : decode cX10_addCode 13 = .ok (.getfield 24, 3) := by decide +kernel
theorem dX10_addCode_16 : decode cX10_addCode 16 = .ok (.aload_n 0, 1) := by decide +kernel
theorem dX10_addCode_17 : decode cX10_addCode 17 = .ok (.getfield 50, 3) := by decide +kernel
theorem dX10_addCode_20 : decode cX10_addCode 20 = .ok (.iload_n 1, 1) := by decide +kernel
theorem dX10_addCode_21 : decode cX10_addCode 21 = .ok (.iastore, 1) := by decide +kernel
theorem dX10_addCode_22 : decode cX10_addCode 22 = .ok (.aload_n 0, 1) := by decide +kernel
theorem dX10_addCode_23 : decode cX10_addCode 23 = .ok (.dup, 1) := by decide +kernel
theorem dX10_addCode_24 : decode cX10_addCode 24 = .ok (.getfield 50, 3) := by decide +kernel
theorem dX10_addCode_27 : decode cX10_addCode 27 = .ok (.iconst 1, 1) := by decide +kernel
theorem dX10_addCode_28 : decode cX10_addCode 28 = .ok (.iadd, 1) := by decide +kernel
theorem dX10_addCode_29 : decode cX10_addCode 29 = .ok (.putfield 50, 3) := by decide +kernel
theorem dX10_addCode_32 : decode cX10_addCode 32 = .ok (.return_, 1) := by decide +kernel
theorem dX10_shakeFor_0 : decode cX10_shakeFor 0 = .ok (.iconst 0, 1) := by decide +kernel
theorem dX10_shakeFor_1 : decode cX10_shakeFor 1 = .ok (.istore_n 2, 1) := by decide +kernel
theorem dX10_shakeFor_2 : decode cX10_shakeFor 2 = .ok (.iconst 0, 1) := by decide +kernel
theorem dX10_shakeFor_3 : decode cX10_shakeFor 3 = .ok (.istore_n 3, 1) := by decide +kernel
theorem dX10_shakeFor_4 : decode cX10_shakeFor 4 = .ok (.iload_n 3, 1) := by decide +kernel
theorem dX10_shakeFor_5 : decode cX10_shakeFor 5 = .ok (.aload_n 0, 1) := by decide +kernel
theorem dX10_shakeFor_6 : decode cX10_shakeFor 6 = .ok (.getfield 47, 3) := by decide +kernel
theorem dX10_shakeFor_9 : decode cX10_shakeFor 9 = .ok (.if_icmp .ge 67, 3) := by decide +kernel
theorem dX10_shakeFor_12 : decode cX10_shakeFor 12 = .ok (.aload_n 0, 1) := by decide +kernel
theorem dX10_shakeFor_13 : decode cX10_shakeFor 13 = .ok (.getfield 11, 3) := by decide +kernel
theorem dX10_shakeFor_16 : decode cX10_shakeFor 16 = .ok (.iload_n 3, 1) := by decide +kernel
theorem dX10_shakeFor_17 : decode cX10_shakeFor 17 = .ok (.iaload, 1) := by decide +kernel
theorem dX10_shakeFor_18 : decode cX10_shakeFor 18 = .ok (.ifCond .ne 24, 3) := by decide +kernel
theorem dX10_shakeFor_21 : decode cX10_shakeFor 21 = .ok (.aload_n 0, 1) := by decide +kernel
theorem dX10_shakeFor_22 : decode cX10_shakeFor 22 = .ok (.iload_n 3, 1) := by decide +kernel
theorem dX10_shakeFor_23 : decode cX10_shakeFor 23 = .ok (.aload_n 1, 1) := by decide +kernel
theorem dX10_shakeFor_24 : decode cX10_shakeFor 24 = .ok (.invokevirtual 136, 3) := by decide +kernel
theorem dX10_shakeFor_27 : decode cX10_shakeFor 27 = .ok (.ifCond .eq 15, 3) := by decide +kernel
theorem dX10_shakeFor_30 : decode cX10_shakeFor 30 = .ok (.iload_n 2, 1) := by decide +kernel
theorem dX10_shakeFor_31 : decode cX10_shakeFor 31 = .ok (.aload_n 0, 1) := by decide +kernel
theorem dX10_shakeFor_32 : decode cX10_shakeFor 32 = .ok (.getfield 15, 3) := by decide +kernel
theorem dX10_shakeFor_35 : decode cX10_shakeFor 35 = .ok (.iload_n 3, 1) := by decide +kernel
theorem dX10_shakeFor_36 : decode cX10_shakeFor 36 = .ok (.iaload, 1) := by decide +kernel
theorem dX10_shakeFor_37 : decode cX10_shakeFor 37 = .ok (.iadd, 1) := by decide +kernel
theorem dX10_shakeFor_38 : decode cX10_shakeFor 38 = .ok (.istore_n 2, 1) := by decide +kernel
theorem dX10_shakeFor_39 : decode cX10_shakeFor 39 = .ok (.goto 31, 3) := by decide +kernel
theorem dX10_shakeFor_42 : decode cX10_shakeFor 42 = .ok (.aload_n 0, 1) := by decide +kernel
theorem dX10_shakeFor_43 : decode cX10_shakeFor 43 = .ok (.getfield 11, 3) := by decide +kernel
theorem dX10_shakeFor_46 : decode cX10_shakeFor 46 = .ok (.iload_n 3, 1) := by decide +kernel
theorem dX10_shakeFor_47 : decode cX10_shakeFor 47 = .ok (.iaload, 1) := by decide +kernel
theorem dX10_shakeFor_48 : decode cX10_shakeFor 48 = .ok (.iconst 1, 1) := by decide +kernel
theorem dX10_shakeFor_49 : decode cX10_shakeFor 49 = .ok (.if_icmp .ne 21, 3) := by decide +kernel
theorem dX10_shakeFor_52 : decode cX10_shakeFor 52 = .ok (.aload_n 0, 1) := by decide +kernel
theorem dX10_shakeFor_53 : decode cX10_shakeFor 53 = .ok (.iload_n 3, 1) := by decide +kernel
theorem dX10_shakeFor_54 : decode cX10_shakeFor 54 = .ok (.aload_n 1, 1) := by decide +kernel
theorem dX10_shakeFor_55 : decode cX10_shakeFor 55 = .ok (.invokevirtual 136, 3) := by decide +kernel
theorem dX10_shakeFor_58 : decode cX10_shakeFor 58 = .ok (.ifCond .eq 12, 3) := by decide +kernel
theorem dX10_shakeFor_61 : decode cX10_shakeFor 61 = .ok (.iload_n 2, 1) := by decide +kernel
theorem dX10_shakeFor_62 : decode cX10_shakeFor 62 = .ok (.aload_n 0, 1) := by decide +kernel
theorem dX10_shakeFor_63 : decode cX10_shakeFor 63 = .ok (.getfield 15, 3) := by decide +kernel
theorem dX10_shakeFor_66 : decode cX10_shakeFor 66 = .ok (.iload_n 3, 1) := by decide +kernel
theorem dX10_shakeFor_67 : decode cX10_shakeFor 67 = .ok (.iaload, 1) := by decide +kernel
theorem dX10_shakeFor_68 : decode cX10_shakeFor 68 = .ok (.isub, 1) := by decide +kernel
theorem dX10_shakeFor_69 : decode cX10_shakeFor 69 = .ok (.istore_n 2, 1) := by decide +kernel
theorem dX10_shakeFor_70 : decode cX10_shakeFor 70 = .ok (.iinc 3 1, 3) := by decide +kernel
theorem dX10_shakeFor_73 : decode cX10_shakeFor 73 = .ok (.goto (-69), 3) := by decide +kernel
theorem dX10_shakeFor_76 : decode cX10_shakeFor 76 = .ok (.iload_n 2, 1) := by decide +kernel
theorem dX10_shakeFor_77 : decode cX10_shakeFor 77 = .ok (.ireturn, 1) := by decide +kernel
theorem dX10_holds_0 : decode cX10_holds 0 = .ok (.iconst 0, 1) := by decide +kernel
theorem dX10_holds_1 : decode cX10_holds 1 = .ok (.istore_n 3, 1) := by decide +kernel
theorem dX10_holds_2 : decode cX10_holds 2 = .ok (.aload_n 0, 1) := by decide +kernel
theorem dX10_holds_3 : decode cX10_holds 3 = .ok (.getfield 18, 3) := by decide +kernel
theorem dX10_holds_6 : decode cX10_holds 6 = .ok (.iload_n 1, 1) := by decide +kernel
theorem dX10_holds_7 : decode cX10_holds 7 = .ok (.iaload, 1) := by decide +kernel
theorem dX10_holds_8 : decode cX10_holds 8 = .ok (.istore 4, 2) := by decide +kernel
theorem dX10_holds_10 : decode cX10_holds 10 = .ok (.iload 4, 2) := by decide +kernel
theorem dX10_holds_12 : decode cX10_holds 12 = .ok (.aload_n 0, 1) := by decide +kernel
theorem dX10_holds_13 : decode cX10_holds 13 = .ok (.getfield 21, 3) := by decide +kernel
theorem dX10_holds_16 : decode cX10_holds 16 = .ok (.iload_n 1, 1) := by decide +kernel
theorem dX10_holds_17 : decode cX10_holds 17 = .ok (.iaload, 1) := by decide +kernel
theorem dX10_holds_18 : decode cX10_holds 18 = .ok (.if_icmp .ge 97, 3) := by decide +kernel
theorem dX10_holds_21 : decode cX10_holds 21 = .ok (.aload_n 0, 1) := by decide +kernel
theorem dX10_holds_22 : decode cX10_holds 22 = .ok (.getfield 24, 3) := by decide +kernel
theorem dX10_holds_25 : decode cX10_holds 25 = .ok (.iload 4, 2) := by decide +kernel
theorem dX10_holds_27 : decode cX10_holds 27 = .ok (.iaload, 1) := by decide +kernel
theorem dX10_holds_28 : decode cX10_holds 28 = .ok (.istore 5, 2) := by decide +kernel
theorem dX10_holds_30 : decode cX10_holds 30 = .ok (.iload 5, 2) := by decide +kernel
theorem dX10_holds_32 : decode cX10_holds 32 = .ok (.tableswitch 58 (-3) (-1) #[47, 35, 28], 28) := by decide +kernel
theorem dX10_holds_60 : decode cX10_holds 60 = .ok (.iload_n 3, 1) := by decide +kernel
theorem dX10_holds_61 : decode cX10_holds 61 = .ok (.iconst 1, 1) := by decide +kernel
theorem dX10_holds_62 : decode cX10_holds 62 = .ok (.ixor, 1) := by decide +kernel
theorem dX10_holds_63 : decode cX10_holds 63 = .ok (.istore_n 3, 1) := by decide +kernel
theorem dX10_holds_64 : decode cX10_holds 64 = .ok (.goto 45, 3) := by decide +kernel
theorem dX10_holds_67 : decode cX10_holds 67 = .ok (.iload_n 3, 1) := by decide +kernel
theorem dX10_holds_68 : decode cX10_holds 68 = .ok (.iconst 1, 1) := by decide +kernel
theorem dX10_holds_69 : decode cX10_holds 69 = .ok (.ishr, 1) := by decide +kernel
theorem dX10_holds_70 : decode cX10_holds 70 = .ok (.iload_n 3, 1) := by decide +kernel
theorem dX10_holds_71 : decode cX10_holds 71 = .ok (.bipush (-2), 2) := by decide +kernel
theorem dX10_holds_73 : decode cX10_holds 73 = .ok (.ior, 1) := by decide +kernel
theorem dX10_holds_74 : decode cX10_holds 74 = .ok (.iand, 1) := by decide +kernel
theorem dX10_holds_75 : decode cX10_holds 75 = .ok (.istore_n 3, 1) := by decide +kernel
theorem dX10_holds_76 : decode cX10_holds 76 = .ok (.goto 33, 3) := by decide +kernel
theorem dX10_holds_79 : decode cX10_holds 79 = .ok (.iload_n 3, 1) := by decide +kernel
theorem dX10_holds_80 : decode cX10_holds 80 = .ok (.iconst 1, 1) := by decide +kernel
theorem dX10_holds_81 : decode cX10_holds 81 = .ok (.ishr, 1) := by decide +kernel
theorem dX10_holds_82 : decode cX10_holds 82 = .ok (.iload_n 3, 1) := by decide +kernel
theorem dX10_holds_83 : decode cX10_holds 83 = .ok (.iconst 1, 1) := by decide +kernel
theorem dX10_holds_84 : decode cX10_holds 84 = .ok (.iand, 1) := by decide +kernel
theorem dX10_holds_85 : decode cX10_holds 85 = .ok (.ior, 1) := by decide +kernel
theorem dX10_holds_86 : decode cX10_holds 86 = .ok (.istore_n 3, 1) := by decide +kernel
theorem dX10_holds_87 : decode cX10_holds 87 = .ok (.goto 22, 3) := by decide +kernel
theorem dX10_holds_90 : decode cX10_holds 90 = .ok (.iload_n 3, 1) := by decide +kernel
theorem dX10_holds_91 : decode cX10_holds 91 = .ok (.iconst 1, 1) := by decide +kernel
theorem dX10_holds_92 : decode cX10_holds 92 = .ok (.ishl, 1) := by decide +kernel
theorem dX10_holds_93 : decode cX10_holds 93 = .ok (.iload 5, 2) := by decide +kernel
theorem dX10_holds_95 : decode cX10_holds 95 = .ok (.aload_n 2, 1) := by decide +kernel
theorem dX10_holds_96 : decode cX10_holds 96 = .ok (.invokestatic 140, 3) := by decide +kernel
theorem dX10_holds_99 : decode cX10_holds 99 = .ok (.ifCond .eq 7, 3) := by decide +kernel
theorem dX10_holds_102 : decode cX10_holds 102 = .ok (.iconst 1, 1) := by decide +kernel
theorem dX10_holds_103 : decode cX10_holds 103 = .ok (.goto 4, 3) := by decide +kernel
theorem dX10_holds_106 : decode cX10_holds 106 = .ok (.iconst 0, 1) := by decide +kernel
theorem dX10_holds_107 : decode cX10_holds 107 = .ok (.ior, 1) := by decide +kernel
theorem dX10_holds_108 : decode cX10_holds 108 = .ok (.istore_n 3, 1) := by decide +kernel
theorem dX10_holds_109 : decode cX10_holds 109 = .ok (.iinc 4 1, 3) := by decide +kernel
theorem dX10_holds_112 : decode cX10_holds 112 = .ok (.goto (-102), 3) := by decide +kernel
theorem dX10_holds_115 : decode cX10_holds 115 = .ok (.iload_n 3, 1) := by decide +kernel
theorem dX10_holds_116 : decode cX10_holds 116 = .ok (.iconst 1, 1) := by decide +kernel
theorem dX10_holds_117 : decode cX10_holds 117 = .ok (.iand, 1) := by decide +kernel
theorem dX10_holds_118 : decode cX10_holds 118 = .ok (.ifCond .eq 7, 3) := by decide +kernel
theorem dX10_holds_121 : decode cX10_holds 121 = .ok (.iconst 1, 1) := by decide +kernel
theorem dX10_holds_122 : decode cX10_holds 122 = .ok (.goto 4, 3) := by decide +kernel
theorem dX10_holds_125 : decode cX10_holds 125 = .ok (.iconst 0, 1) := by decide +kernel
theorem dX10_holds_126 : decode cX10_holds 126 = .ok (.ireturn, 1) := by decide +kernel
theorem dX10_isSo_0 : decode cX10_isSo 0 = .ok (.iload_n 0, 1) := by decide +kernel
theorem dX10_isSo_1 : decode cX10_isSo 1 = .ok (.sipush 300, 3) := by decide +kernel
theorem dX10_isSo_4 : decode cX10_isSo 4 = .ok (.idiv, 1) := by decide +kernel
theorem dX10_isSo_5 : decode cX10_isSo 5 = .ok (.istore_n 2, 1) := by decide +kernel
theorem dX10_isSo_6 : decode cX10_isSo 6 = .ok (.iload_n 2, 1) := by decide +kernel
theorem dX10_isSo_7 : decode cX10_isSo 7 = .ok (.ifCond .lt 9, 3) := by decide +kernel
theorem dX10_isSo_10 : decode cX10_isSo 10 = .ok (.iload_n 2, 1) := by decide +kernel
theorem dX10_isSo_11 : decode cX10_isSo 11 = .ok (.aload_n 1, 1) := by decide +kernel
theorem dX10_isSo_12 : decode cX10_isSo 12 = .ok (.arraylength, 1) := by decide +kernel
theorem dX10_isSo_13 : decode cX10_isSo 13 = .ok (.if_icmp .lt 5, 3) := by decide +kernel
theorem dX10_isSo_16 : decode cX10_isSo 16 = .ok (.iconst 0, 1) := by decide +kernel
theorem dX10_isSo_17 : decode cX10_isSo 17 = .ok (.ireturn, 1) := by decide +kernel
theorem dX10_isSo_18 : decode cX10_isSo 18 = .ok (.iload_n 0, 1) := by decide +kernel
theorem dX10_isSo_19 : decode cX10_isSo 19 = .ok (.bipush 100, 2) := by decide +kernel
theorem dX10_isSo_21 : decode cX10_isSo 21 = .ok (.irem, 1) := by decide +kernel
theorem dX10_isSo_22 : decode cX10_isSo 22 = .ok (.istore_n 3, 1) := by decide +kernel
theorem dX10_isSo_23 : decode cX10_isSo 23 = .ok (.iload_n 0, 1) := by decide +kernel
theorem dX10_isSo_24 : decode cX10_isSo 24 = .ok (.bipush 100, 2) := by decide +kernel
theorem dX10_isSo_26 : decode cX10_isSo 26 = .ok (.idiv, 1) := by decide +kernel
theorem dX10_isSo_27 : decode cX10_isSo 27 = .ok (.iconst 3, 1) := by decide +kernel
theorem dX10_isSo_28 : decode cX10_isSo 28 = .ok (.irem, 1) := by decide +kernel
theorem dX10_isSo_29 : decode cX10_isSo 29 = .ok (.lookupswitch 53 #[(0, 27), (1, 40)], 27) := by decide +kernel
theorem dX10_isSo_56 : decode cX10_isSo 56 = .ok (.aload_n 1, 1) := by decide +kernel
theorem dX10_isSo_57 : decode cX10_isSo 57 = .ok (.iload_n 2, 1) := by decide +kernel
theorem dX10_isSo_58 : decode cX10_isSo 58 = .ok (.iaload, 1) := by decide +kernel
theorem dX10_isSo_59 : decode cX10_isSo 59 = .ok (.iload_n 3, 1) := by decide +kernel
theorem dX10_isSo_60 : decode cX10_isSo 60 = .ok (.if_icmp .ge 7, 3) := by decide +kernel
theorem dX10_isSo_63 : decode cX10_isSo 63 = .ok (.iconst 1, 1) := by decide +kernel
theorem dX10_isSo_64 : decode cX10_isSo 64 = .ok (.goto 4, 3) := by decide +kernel
theorem dX10_isSo_67 : decode cX10_isSo 67 = .ok (.iconst 0, 1) := by decide +kernel
theorem dX10_isSo_68 : decode cX10_isSo 68 = .ok (.ireturn, 1) := by decide +kernel
theorem dX10_isSo_69 : decode cX10_isSo 69 = .ok (.aload_n 1, 1) := by decide +kernel
theorem dX10_isSo_70 : decode cX10_isSo 70 = .ok (.iload_n 2, 1) := by decide +kernel
theorem dX10_isSo_71 : decode cX10_isSo 71 = .ok (.iaload, 1) := by decide +kernel
theorem dX10_isSo_72 : decode cX10_isSo 72 = .ok (.iload_n 3, 1) := by decide +kernel
theorem dX10_isSo_73 : decode cX10_isSo 73 = .ok (.if_icmp .ne 7, 3) := by decide +kernel
theorem dX10_isSo_76 : decode cX10_isSo 76 = .ok (.iconst 1, 1) := by decide +kernel
theorem dX10_isSo_77 : decode cX10_isSo 77 = .ok (.goto 4, 3) := by decide +kernel
theorem dX10_isSo_80 : decode cX10_isSo 80 = .ok (.iconst 0, 1) := by decide +kernel
theorem dX10_isSo_81 : decode cX10_isSo 81 = .ok (.ireturn, 1) := by decide +kernel
theorem dX10_isSo_82 : decode cX10_isSo 82 = .ok (.aload_n 1, 1) := by decide +kernel
theorem dX10_isSo_83 : decode cX10_isSo 83 = .ok (.iload_n 2, 1) := by decide +kernel
theorem dX10_isSo_84 : decode cX10_isSo 84 = .ok (.iaload, 1) := by decide +kernel
theorem dX10_isSo_85 : decode cX10_isSo 85 = .ok (.iload_n 3, 1) := by decide +kernel
theorem dX10_isSo_86 : decode cX10_isSo 86 = .ok (.if_icmp .le 7, 3) := by decide +kernel
theorem dX10_isSo_89 : decode cX10_isSo 89 = .ok (.iconst 1, 1) := by decide +kernel
theorem dX10_isSo_90 : decode cX10_isSo 90 = .ok (.goto 4, 3) := by decide +kernel
theorem dX10_isSo_93 : decode cX10_isSo 93 = .ok (.iconst 0, 1) := by decide +kernel
theorem dX10_isSo_94 : decode cX10_isSo 94 = .ok (.ireturn, 1) := by decide +kernel
theorem dX11_init_0 : decode cX11_init 0 = .ok (.aload_n 0, 1) := by decide +kernel
theorem dX11_init_1 : decode cX11_init 1 = .ok (.invokespecial 3, 3) := by decide +kernel
theorem dX11_init_4 : decode cX11_init 4 = .ok (.aload_n 0, 1) := by decide +kernel
theorem dX11_init_5 : decode cX11_init 5 = .ok (.bipush 7, 2) := by decide +kernel
theorem dX11_init_7 : decode cX11_init 7 = .ok (.anewarray 9, 3) := by decide +kernel
theorem dX11_init_10 : decode cX11_init 10 = .ok (.dup, 1) := by decide +kernel
theorem dX11_init_11 : decode cX11_init 11 = .ok (.iconst 0, 1) := by decide +kernel
theorem dX11_init_12 : decode cX11_init 12 = .ok (.new 9, 3) := by decide +kernel
theorem dX11_init_15 : decode cX11_init 15 = .ok (.dup, 1) := by decide +kernel
theorem dX11_init_16 : decode cX11_init 16 = .ok (.invokespecial 11, 3) := by decide +kernel
theorem dX11_init_19 : decode cX11_init 19 = .ok (.aastore, 1) := by decide +kernel
theorem dX11_init_20 : decode cX11_init 20 = .ok (.dup, 1) := by decide +kernel
theorem dX11_init_21 : decode cX11_init 21 = .ok (.iconst 1, 1) := by decide +kernel
theorem dX11_init_22 : decode cX11_init 22 = .ok (.new 12, 3) := by decide +kernel
theorem dX11_init_25 : decode cX11_init 25 = .ok (.dup, 1) := by decide +kernel
theorem dX11_init_26 : decode cX11_init 26 = .ok (.invokespecial 14, 3) := by decide +kernel
theorem dX11_init_29 : decode cX11_init 29 = .ok (.aastore, 1) := by decide +kernel
theorem dX11_init_30 : decode cX11_init 30 = .ok (.dup, 1) := by decide +kernel
theorem dX11_init_31 : decode cX11_init 31 = .ok (.iconst 2, 1) := by decide +kernel
theorem dX11_init_32 : decode cX11_init 32 = .ok (.new 15, 3) := by decide +kernel
theorem dX11_init_35 : decode cX11_init 35 = .ok (.dup, 1) := by decide +kernel
theorem dX11_init_36 : decode cX11_init 36 = .ok (.invokespecial 17, 3) := by decide +kernel
theorem dX11_init_39 : decode cX11_init 39 = .ok (.aastore, 1) := by decide +kernel
theorem dX11_init_40 : decode cX11_init 40 = .ok (.dup, 1) := by decide +kernel
theorem dX11_init_41 : decode cX11_init 41 = .ok (.iconst 3, 1) := by decide +kernel
theorem dX11_init_42 : decode cX11_init 42 = .ok (.new 18, 3) := by decide +kernel
theorem dX11_init_45 : decode cX11_init 45 = .ok (.dup, 1) := by decide +kernel
theorem dX11_init_46 : decode cX11_init 46 = .ok (.invokespecial 20, 3) := by decide +kernel
theorem dX11_init_49 : decode cX11_init 49 = .ok (.aastore, 1) := by decide +kernel
theorem dX11_init_50 : decode cX11_init 50 = .ok (.dup, 1) := by decide +kernel
theorem dX11_init_51 : decode cX11_init 51 = .ok (.iconst 4, 1) := by decide +kernel
theorem dX11_init_52 : decode cX11_init 52 = .ok (.new 21, 3) := by decide +kernel
theorem dX11_init_55 : decode cX11_init 55 = .ok (.dup, 1) := by decide +kernel
theorem dX11_init_56 : decode cX11_init 56 = .ok (.invokespecial 23, 3) := by decide +kernel
theorem dX11_init_59 : decode cX11_init 59 = .ok (.aastore, 1) := by decide +kernel
theorem dX11_init_60 : decode cX11_init 60 = .ok (.dup, 1) := by decide +kernel
theorem dX11_init_61 : decode cX11_init 61 = .ok (.iconst 5, 1) := by decide +kernel
theorem dX11_init_62 : decode cX11_init 62 = .ok (.new 24, 3) := by decide +kernel
theorem dX11_init_65 : decode cX11_init 65 = .ok (.dup, 1) := by decide +kernel
theorem dX11_init_66 : decode cX11_init 66 = .ok (.invokespecial 26, 3) := by decide +kernel
theorem dX11_init_69 : decode cX11_init 69 = .ok (.aastore, 1) := by decide +kernel
theorem dX11_init_70 : decode cX11_init 70 = .ok (.dup, 1) := by decide +kernel
theorem dX11_init_71 : decode cX11_init 71 = .ok (.bipush 6, 2) := by decide +kernel
theorem dX11_init_73 : decode cX11_init 73 = .ok (.new 27, 3) := by decide +kernel
theorem dX11_init_76 : decode cX11_init 76 = .ok (.dup, 1) := by decide +kernel
theorem dX11_init_77 : decode cX11_init 77 = .ok (.invokespecial 29, 3) := by decide +kernel
theorem dX11_init_80 : decode cX11_init 80 = .ok (.aastore, 1) := by decide +kernel
theorem dX11_init_81 : decode cX11_init 81 = .ok (.putfield 30, 3) := by decide +kernel
theorem dX11_init_84 : decode cX11_init 84 = .ok (.aload_n 0, 1) := by decide +kernel
theorem dX11_init_85 : decode cX11_init 85 = .ok (.bipush 100, 2) := by decide +kernel
theorem dX11_init_87 : decode cX11_init 87 = .ok (.newarray .byte, 2) := by decide +kernel
theorem dX11_init_89 : decode cX11_init 89 = .ok (.putfield 36, 3) := by decide +kernel
theorem dX11_init_92 : decode cX11_init 92 = .ok (.aload_n 0, 1) := by decide +kernel
theorem dX11_init_93 : decode cX11_init 93 = .ok (.bipush 7, 2) := by decide +kernel
theorem dX11_init_95 : decode cX11_init 95 = .ok (.anewarray 40, 3) := by decide +kernel
theorem dX11_init_98 : decode cX11_init 98 = .ok (.putfield 42, 3) := by decide +kernel
theorem dX11_init_101 : decode cX11_init 101 = .ok (.iconst 0, 1) := by decide +kernel
theorem dX11_init_102 : decode cX11_init 102 = .ok (.istore_n 1, 1) := by decide +kernel
theorem dX11_init_103 : decode cX11_init 103 = .ok (.iload_n 1, 1) := by decide +kernel
theorem dX11_init_104 : decode cX11_init 104 = .ok (.bipush 6, 2) := by decide +kernel
theorem dX11_init_106 : decode cX11_init 106 = .ok (.if_icmp .gt 26, 3) := by decide +kernel
theorem dX11_init_109 : decode cX11_init 109 = .ok (.aload_n 0, 1) := by decide +kernel
theorem dX11_init_110 : decode cX11_init 110 = .ok (.getfield 42, 3) := by decide +kernel
theorem dX11_init_113 : decode cX11_init 113 = .ok (.iload_n 1, 1) := by decide +kernel
theorem dX11_init_114 : decode cX11_init 114 = .ok (.new 40, 3) := by decide +kernel
theorem dX11_init_117 : decode cX11_init 117 = .ok (.dup, 1) := by decide +kernel
theorem dX11_init_118 : decode cX11_init 118 = .ok (.aload_n 0, 1) := by decide +kernel
theorem dX11_init_119 : decode cX11_init 119 = .ok (.getfield 36, 3) := by decide +kernel
theorem dX11_init_122 : decode cX11_init 122 = .ok (.invokespecial 46, 3) := by decide +kernel
theorem dX11_init_125 : decode cX11_init 125 = .ok (.aastore, 1) := by decide +kernel
theorem dX11_init_126 : decode cX11_init 126 = .ok (.iinc 1 1, 3) := by decide +kernel
theorem dX11_init_129 : decode cX11_init 129 = .ok (.goto (-26), 3) := by decide +kernel
theorem dX11_init_132 : decode cX11_init 132 = .ok (.aload_n 0, 1) := by decide +kernel
theorem dX11_init_133 : decode cX11_init 133 = .ok (.new 49, 3) := by decide +kernel
theorem dX11_init_136 : decode cX11_init 136 = .ok (.dup, 1) := by decide +kernel
theorem dX11_init_137 : decode cX11_init 137 = .ok (.aload_n 0, 1) := by decide +kernel
theorem dX11_init_138 : decode cX11_init 138 = .ok (.getfield 42, 3) := by decide +kernel
theorem dX11_init_141 : decode cX11_init 141 = .ok (.iconst 0, 1) := by decide +kernel
theorem dX11_init_142 : decode cX11_init 142 = .ok (.aaload, 1) := by decide +kernel
theorem dX11_init_143 : decode cX11_init 143 = .ok (.invokespecial 51, 3) := by decide +kernel
theorem dX11_init_146 : decode cX11_init 146 = .ok (.putfield 54, 3) := by decide +kernel
theorem dX11_init_149 : decode cX11_init 149 = .ok (.aload_n 0, 1) := by decide +kernel
theorem dX11_init_150 : decode cX11_init 150 = .ok (.new 49, 3) := by decide +kernel
theorem dX11_init_153 : decode cX11_init 153 = .ok (.dup, 1) := by decide +kernel
theorem dX11_init_154 : decode cX11_init 154 = .ok (.aload_n 0, 1) := by decide +kernel
theorem dX11_init_155 : decode cX11_init 155 = .ok (.getfield 42, 3) := by decide +kernel
theorem dX11_init_158 : decode cX11_init 158 = .ok (.iconst 0, 1) := by decide +kernel
theorem dX11_init_159 : decode cX11_init 159 = .ok (.aaload, 1) := by decide +kernel
theorem dX11_init_160 : decode cX11_init 160 = .ok (.invokespecial 51, 3) := by decide +kernel
theorem dX11_init_163 : decode cX11_init 163 = .ok (.putfield 58, 3) := by decide +kernel
theorem dX11_init_166 : decode cX11_init 166 = .ok (.aload_n 0, 1) := by decide +kernel
theorem dX11_init_167 : decode cX11_init 167 = .ok (.new 49, 3) := by decide +kernel
theorem dX11_init_170 : decode cX11_init 170 = .ok (.dup, 1) := by decide +kernel
theorem dX11_init_171 : decode cX11_init 171 = .ok (.aload_n 0, 1) := by decide +kernel
theorem dX11_init_172 : decode cX11_init 172 = .ok (.getfield 42, 3) := by decide +kernel
theorem dX11_init_175 : decode cX11_init 175 = .ok (.iconst 0, 1) := by decide +kernel
theorem dX11_init_176 : decode cX11_init 176 = .ok (.aaload, 1) := by decide +kernel
theorem dX11_init_177 : decode cX11_init 177 = .ok (.invokespecial 51, 3) := by decide +kernel
theorem dX11_init_180 : decode cX11_init 180 = .ok (.putfield 61, 3) := by decide +kernel
theorem dX11_init_183 : decode cX11_init 183 = .ok (.aload_n 0, 1) := by decide +kernel
theorem dX11_init_184 : decode cX11_init 184 = .ok (.new 64, 3) := by decide +kernel
theorem dX11_init_187 : decode cX11_init 187 = .ok (.dup, 1) := by decide +kernel
theorem dX11_init_188 : decode cX11_init 188 = .ok (.aload_n 0, 1) := by decide +kernel
theorem dX11_init_189 : decode cX11_init 189 = .ok (.getfield 30, 3) := by decide +kernel
theorem dX11_init_192 : decode cX11_init 192 = .ok (.invokespecial 66, 3) := by decide +kernel
theorem dX11_init_195 : decode cX11_init 195 = .ok (.putfield 69, 3) := by decide +kernel
theorem dX11_init_198 : decode cX11_init 198 = .ok (.aload_n 0, 1) := by decide +kernel
theorem dX11_init_199 : decode cX11_init 199 = .ok (.new 73, 3) := by decide +kernel
theorem dX11_init_202 : decode cX11_init 202 = .ok (.dup, 1) := by decide +kernel
theorem dX11_init_203 : decode cX11_init 203 = .ok (.invokespecial 75, 3) := by decide +kernel
theorem dX11_init_206 : decode cX11_init 206 = .ok (.putfield 76, 3) := by decide +kernel
theorem dX11_init_209 : decode cX11_init 209 = .ok (.aload_n 0, 1) := by decide +kernel
theorem dX11_init_210 : decode cX11_init 210 = .ok (.bipush 6, 2) := by decide +kernel
theorem dX11_init_212 : decode cX11_init 212 = .ok (.bipush 60, 2) := by decide +kernel
theorem dX11_init_214 : decode cX11_init 214 = .ok (.multianewarray 80 2, 4) := by decide +kernel
theorem dX11_init_218 : decode cX11_init 218 = .ok (.putfield 82, 3) := by decide +kernel
theorem dX11_init_221 : decode cX11_init 221 = .ok (.aload_n 0, 1) := by decide +kernel
theorem dX11_init_222 : decode cX11_init 222 = .ok (.bipush 6, 2) := by decide +kernel
theorem dX11_init_224 : decode cX11_init 224 = .ok (.newarray .int, 2) := by decide +kernel
theorem dX11_init_226 : decode cX11_init 226 = .ok (.putfield 85, 3) := by decide +kernel
theorem dX11_init_229 : decode cX11_init 229 = .ok (.aload_n 0, 1) := by decide +kernel
theorem dX11_init_230 : decode cX11_init 230 = .ok (.bipush 6, 2) := by decide +kernel
theorem dX11_init_232 : decode cX11_init 232 = .ok (.newarray .int, 2) := by decide +kernel
theorem dX11_init_234 : decode cX11_init 234 = .ok (.putfield 89, 3) := by decide +kernel
theorem dX11_init_237 : decode cX11_init 237 = .ok (.iconst 0, 1) := by decide +kernel
theorem dX11_init_238 : decode cX11_init 238 = .ok (.istore_n 1, 1) := by decide +kernel
theorem dX11_init_239 : decode cX11_init 239 = .ok (.iload_n 1, 1) := by decide +kernel
theorem dX11_init_240 : decode cX11_init 240 = .ok (.bipush 6, 2) := by decide +kernel
theorem dX11_init_242 : decode cX11_init 242 = .ok (.if_icmp .ge 16, 3) := by decide +kernel
theorem dX11_init_245 : decode cX11_init 245 = .ok (.aload_n 0, 1) := by decide +kernel
theorem dX11_init_246 : decode cX11_init 246 = .ok (.getfield 85, 3) := by decide +kernel
theorem dX11_init_249 : decode cX11_init 249 = .ok (.iload_n 1, 1) := by decide +kernel
theorem dX11_init_250 : decode cX11_init 250 = .ok (.iconst (-1), 1) := by decide +kernel
theorem dX11_init_251 : decode cX11_init 251 = .ok (.iastore, 1) := by decide +kernel
theorem dX11_init_252 : decode cX11_init 252 = .ok (.iinc 1 1, 3) := by decide +kernel
theorem dX11_init_255 : decode cX11_init 255 = .ok (.goto (-16), 3) := by decide +kernel
theorem dX11_init_258 : decode cX11_init 258 = .ok (.return_, 1) := by decide +kernel
theorem dX11_child_0 : decode cX11_child 0 = .ok (.iload_n 1, 1) := by decide +kernel
theorem dX11_child_1 : decode cX11_child 1 = .ok (.iconst 0, 1) := by decide +kernel
theorem dX11_child_2 : decode cX11_child 2 = .ok (.bipush 6, 2) := by decide +kernel
theorem dX11_child_4 : decode cX11_child 4 = .ok (.invokestatic 92, 3) := by decide +kernel
theorem dX11_child_7 : decode cX11_child 7 = .ok (.ifCond .ne 5, 3) := by decide +kernel
theorem dX11_child_10 : decode cX11_child 10 = .ok (.iconst (-1), 1) := by decide +kernel
theorem dX11_child_11 : decode cX11_child 11 = .ok (.ireturn, 1) := by decide +kernel
theorem dX11_child_12 : decode cX11_child 12 = .ok (.iload_n 2, 1) := by decide +kernel
theorem dX11_child_13 : decode cX11_child 13 = .ok (.iconst 0, 1) := by decide +kernel
theorem dX11_child_14 : decode cX11_child 14 = .ok (.bipush 9, 2) := by decide +kernel
theorem dX11_child_16 : decode cX11_child 16 = .ok (.invokestatic 92, 3) := by decide +kernel
theorem dX11_child_19 : decode cX11_child 19 = .ok (.ifCond .ne 6, 3) := by decide +kernel
theorem dX11_child_22 : decode cX11_child 22 = .ok (.bipush (-2), 2) := by decide +kernel
theorem dX11_child_24 : decode cX11_child 24 = .ok (.ireturn, 1) := by decide +kernel
theorem dX11_child_25 : decode cX11_child 25 = .ok (.aload_n 0, 1) := by decide +kernel
theorem dX11_child_26 : decode cX11_child 26 = .ok (.getfield 54, 3) := by decide +kernel
theorem dX11_child_29 : decode cX11_child 29 = .ok (.getfield 96, 3) := by decide +kernel
theorem dX11_child_32 : decode cX11_child 32 = .ok (.bipush 7, 2) := by decide +kernel
theorem dX11_child_34 : decode cX11_child 34 = .ok (.if_icmp .lt 6, 3) := by decide +kernel
theorem dX11_child_37 : decode cX11_child 37 = .ok (.bipush (-4), 2) := by decide +kernel
theorem dX11_child_39 : decode cX11_child 39 = .ok (.ireturn, 1) := by decide +kernel
theorem dX11_child_40 : decode cX11_child 40 = .ok (.aload_n 0, 1) := by decide +kernel
theorem dX11_child_41 : decode cX11_child 41 = .ok (.getfield 54, 3) := by decide +kernel
theorem dX11_child_44 : decode cX11_child 44 = .ok (.iload_n 1, 1) := by decide +kernel
theorem dX11_child_45 : decode cX11_child 45 = .ok (.iload_n 2, 1) := by decide +kernel
theorem dX11_child_46 : decode cX11_child 46 = .ok (.invokevirtual 100, 3) := by decide +kernel
theorem dX11_child_49 : decode cX11_child 49 = .ok (.ireturn, 1) := by decide +kernel
theorem dX11_of_0 : decode cX11_of 0 = .ok (.aload_n 0, 1) := by decide +kernel
theorem dX11_of_1 : decode cX11_of 1 = .ok (.getfield 54, 3) := by decide +kernel
theorem dX11_of_4 : decode cX11_of 4 = .ok (.iload_n 1, 1) := by decide +kernel
theorem dX11_of_5 : decode cX11_of 5 = .ok (.invokevirtual 104, 3) := by decide +kernel
theorem dX11_of_8 : decode cX11_of 8 = .ok (.ifCond .ne 5, 3) := by decide +kernel
theorem dX11_of_11 : decode cX11_of 11 = .ok (.iconst (-1), 1) := by decide +kernel
theorem dX11_of_12 : decode cX11_of 12 = .ok (.ireturn, 1) := by decide +kernel
theorem dX11_of_13 : decode cX11_of 13 = .ok (.aload_n 0, 1) := by decide +kernel
theorem dX11_of_14 : decode cX11_of 14 = .ok (.getfield 69, 3) := by decide +kernel
theorem dX11_of_17 : decode cX11_of 17 = .ok (.aload_n 0, 1) := by decide +kernel
theorem dX11_of_18 : decode cX11_of 18 = .ok (.getfield 54, 3) := by decide +kernel
theorem dX11_of_21 : decode cX11_of 21 = .ok (.invokevirtual 108, 3) := by decide +kernel
theorem dX11_of_24 : decode cX11_of 24 = .ok (.iload_n 2, 1) := by decide +kernel
theorem dX11_of_25 : decode cX11_of 25 = .ok (.tableswitch 148 0 8 #[51, 61, 71, 81, 91, 101, 118, 128, 138], 51) := by decide +kernel
theorem dX11_of_76 : decode cX11_of 76 = .ok (.aload_n 0, 1) := by decide +kernel
theorem dX11_of_77 : decode cX11_of 77 = .ok (.getfield 54, 3) := by decide +kernel
theorem dX11_of_80 : decode cX11_of 80 = .ok (.getfield 112, 3) := by decide +kernel
theorem dX11_of_83 : decode cX11_of 83 = .ok (.iload_n 1, 1) := by decide +kernel
theorem dX11_of_84 : decode cX11_of 84 = .ok (.iaload, 1) := by decide +kernel
theorem dX11_of_85 : decode cX11_of 85 = .ok (.ireturn, 1) := by decide +kernel
theorem dX11_of_86 : decode cX11_of 86 = .ok (.aload_n 0, 1) := by decide +kernel
theorem dX11_of_87 : decode cX11_of 87 = .ok (.getfield 54, 3) := by decide +kernel
theorem dX11_of_90 : decode cX11_of 90 = .ok (.getfield 115, 3) := by decide +kernel
theorem dX11_of_93 : decode cX11_of 93 = .ok (.iload_n 1, 1) := by decide +kernel
theorem dX11_of_94 : decode cX11_of 94 = .ok (.iaload, 1) := by decide +kernel
theorem dX11_of_95 : decode cX11_of 95 = .ok (.ireturn, 1) := by decide +kernel
theorem dX11_of_96 : decode cX11_of 96 = .ok (.aload_n 0, 1) := by decide +kernel
theorem dX11_of_97 : decode cX11_of 97 = .ok (.getfield 54, 3) := by decide +kernel
theorem dX11_of_100 : decode cX11_of 100 = .ok (.getfield 118, 3) := by decide +kernel
theorem dX11_of_103 : decode cX11_of 103 = .ok (.iload_n 1, 1) := by decide +kernel
theorem dX11_of_104 : decode cX11_of 104 = .ok (.iaload, 1) := by decide +kernel
theorem dX11_of_105 : decode cX11_of 105 = .ok (.ireturn, 1) := by decide +kernel
theorem dX11_of_106 : decode cX11_of 106 = .ok (.aload_n 0, 1) := by decide +kernel
theorem dX11_of_107 : decode cX11_of 107 = .ok (.getfield 54, 3) := by decide +kernel
theorem dX11_of_110 : decode cX11_of 110 = .ok (.getfield 121, 3) := by decide +kernel
theorem dX11_of_113 : decode cX11_of 113 = .ok (.iload_n 1, 1) := by decide +kernel
theorem dX11_of_114 : decode cX11_of 114 = .ok (.iaload, 1) := by decide +kernel
theorem dX11_of_115 : decode cX11_of 115 = .ok (.ireturn, 1) := by decide +kernel
theorem dX11_of_116 : decode cX11_of 116 = .ok (.aload_n 0, 1) := by decide +kernel
theorem dX11_of_117 : decode cX11_of 117 = .ok (.getfield 54, 3) := by decide +kernel
theorem dX11_of_120 : decode cX11_of 120 = .ok (.getfield 124, 3) := by decide +kernel
theorem dX11_of_123 : decode cX11_of 123 = .ok (.iload_n 1, 1) := by decide +kernel
theorem dX11_of_124 : decode cX11_of 124 = .ok (.iaload, 1) := by decide +kernel
theorem dX11_of_125 : decode cX11_of 125 = .ok (.ireturn, 1) := by decide +kernel
theorem dX11_of_126 : decode cX11_of 126 = .ok (.aload_n 0, 1) := by decide +kernel
theorem dX11_of_127 : decode cX11_of 127 = .ok (.getfield 54, 3) := by decide +kernel
theorem dX11_of_130 : decode cX11_of 130 = .ok (.iload_n 1, 1) := by decide +kernel
theorem dX11_of_131 : decode cX11_of 131 = .ok (.invokevirtual 127, 3) := by decide +kernel
theorem dX11_of_134 : decode cX11_of 134 = .ok (.ifCond .eq 7, 3) := by decide +kernel
theorem dX11_of_137 : decode cX11_of 137 = .ok (.iconst 1, 1) := by decide +kernel
theorem dX11_of_138 : decode cX11_of 138 = .ok (.goto 4, 3) := by decide +kernel
theorem dX11_of_141 : decode cX11_of 141 = .ok (.iconst 0, 1) := by decide +kernel
theorem dX11_of_142 : decode cX11_of 142 = .ok (.ireturn, 1) := by decide +kernel
theorem dX11_of_143 : decode cX11_of 143 = .ok (.aload_n 0, 1) := by decide +kernel
theorem dX11_of_144 : decode cX11_of 144 = .ok (.getfield 69, 3) := by decide +kernel
theorem dX11_of_147 : decode cX11_of 147 = .ok (.getfield 130, 3) := by decide +kernel
theorem dX11_of_150 : decode cX11_of 150 = .ok (.iload_n 1, 1) := by decide +kernel
theorem dX11_of_151 : decode cX11_of 151 = .ok (.iaload, 1) := by decide +kernel
theorem dX11_of_152 : decode cX11_of 152 = .ok (.ireturn, 1) := by decide +kernel
theorem dX11_of_153 : decode cX11_of 153 = .ok (.aload_n 0, 1) := by decide +kernel
theorem dX11_of_154 : decode cX11_of 154 = .ok (.getfield 69, 3) := by decide +kernel
theorem dX11_of_157 : decode cX11_of 157 = .ok (.getfield 133, 3) := by decide +kernel
theorem dX11_of_160 : decode cX11_of 160 = .ok (.iload_n 1, 1) := by decide +kernel
theorem dX11_of_161 : decode cX11_of 161 = .ok (.iaload, 1) := by decide +kernel
theorem dX11_of_162 : decode cX11_of 162 = .ok (.ireturn, 1) := by decide +kernel
theorem dX11_of_163 : decode cX11_of 163 = .ok (.aload_n 0, 1) := by decide +kernel
theorem dX11_of_164 : decode cX11_of 164 = .ok (.getfield 69, 3) := by decide +kernel
theorem dX11_of_167 : decode cX11_of 167 = .ok (.getfield 136, 3) := by decide +kernel
theorem dX11_of_170 : decode cX11_of 170 = .ok (.iload_n 1, 1) := by decide +kernel
theorem dX11_of_171 : decode cX11_of 171 = .ok (.iaload, 1) := by decide +kernel
theorem dX11_of_172 : decode cX11_of 172 = .ok (.ireturn, 1) := by decide +kernel
theorem dX11_of_173 : decode cX11_of 173 = .ok (.iconst (-1), 1) := by decide +kernel
theorem dX11_of_174 : decode cX11_of 174 = .ok (.ireturn, 1) := by decide +kernel
theorem dX11_set_0 : decode cX11_set 0 = .ok (.aload_n 0, 1) := by decide +kernel
theorem dX11_set_1 : decode cX11_set 1 = .ok (.getfield 54, 3) := by decide +kernel
theorem dX11_set_4 : decode cX11_set 4 = .ok (.iload_n 1, 1) := by decide +kernel
theorem dX11_set_5 : decode cX11_set 5 = .ok (.invokevirtual 104, 3) := by decide +kernel
theorem dX11_set_8 : decode cX11_set 8 = .ok (.ifCond .eq 12, 3) := by decide +kernel
theorem dX11_set_11 : decode cX11_set 11 = .ok (.iload_n 2, 1) := by decide +kernel
theorem dX11_set_12 : decode cX11_set 12 = .ok (.iconst 0, 1) := by decide +kernel
theorem dX11_set_13 : decode cX11_set 13 = .ok (.iconst 1, 1) := by decide +kernel
theorem dX11_set_14 : decode cX11_set 14 = .ok (.invokestatic 92, 3) := by decide +kernel
theorem dX11_set_17 : decode cX11_set 17 = .ok (.ifCond .ne 5, 3) := by decide +kernel
theorem dX11_set_20 : decode cX11_set 20 = .ok (.iconst (-1), 1) := by decide +kernel
theorem dX11_set_21 : decode cX11_set 21 = .ok (.ireturn, 1) := by decide +kernel
theorem dX11_set_22 : decode cX11_set 22 = .ok (.iload_n 3, 1) := by decide +kernel
theorem dX11_set_23 : decode cX11_set 23 = .ok (.iconst 0, 1) := by decide +kernel
theorem dX11_set_24 : decode cX11_set 24 = .ok (.iload_n 2, 1) := by decide +kernel
theorem dX11_set_25 : decode cX11_set 25 = .ok (.ifCond .ne 18, 3) := by decide +kernel
theorem dX11_set_28 : decode cX11_set 28 = .ok (.aload_n 0, 1) := by decide +kernel
theorem dX11_set_29 : decode cX11_set 29 = .ok (.getfield 54, 3) := by decide +kernel
theorem dX11_set_32 : decode cX11_set 32 = .ok (.getfield 139, 3) := by decide +kernel
theorem dX11_set_35 : decode cX11_set 35 = .ok (.getfield 143, 3) := by decide +kernel
theorem dX11_set_38 : decode cX11_set 38 = .ok (.iconst 1, 1) := by decide +kernel
theorem dX11_set_39 : decode cX11_set 39 = .ok (.isub, 1) := by decide +kernel
theorem dX11_set_40 : decode cX11_set 40 = .ok (.goto 5, 3) := by decide +kernel
theorem dX11_set_43 : decode cX11_set 43 = .ok (.bipush 9, 2) := by decide +kernel
theorem dX11_set_45 : decode cX11_set 45 = .ok (.invokestatic 92, 3) := by decide +kernel
theorem dX11_set_48 : decode cX11_set 48 = .ok (.ifCond .ne 6, 3) := by decide +kernel
theorem dX11_set_51 : decode cX11_set 51 = .ok (.bipush (-2), 2) := by decide +kernel
theorem dX11_set_53 : decode cX11_set 53 = .ok (.ireturn, 1) := by decide +kernel
theorem dX11_set_54 : decode cX11_set 54 = .ok (.iload_n 2, 1) := by decide +kernel
theorem dX11_set_55 : decode cX11_set 55 = .ok (.ifCond .ne 26, 3) := by decide +kernel
theorem dX11_set_58 : decode cX11_set 58 = .ok (.aload_n 0, 1) := by decide +kernel
theorem dX11_set_59 : decode cX11_set 59 = .ok (.getfield 54, 3) := by decide +kernel
theorem dX11_set_62 : decode cX11_set 62 = .ok (.getfield 118, 3) := by decide +kernel
theorem dX11_set_65 : decode cX11_set 65 = .ok (.iload_n 1, 1) := by decide +kernel
theorem dX11_set_66 : decode cX11_set 66 = .ok (.iaload, 1) := by decide +kernel
theorem dX11_set_67 : decode cX11_set 67 = .ok (.istore 4, 2) := by decide +kernel
theorem dX11_set_69 : decode cX11_set 69 = .ok (.aload_n 0, 1) := by decide +kernel
theorem dX11_set_70 : decode cX11_set 70 = .ok (.getfield 54, 3) := by decide +kernel
theorem dX11_set_73 : decode cX11_set 73 = .ok (.iload_n 1, 1) := by decide +kernel
theorem dX11_set_74 : decode cX11_set 74 = .ok (.iload_n 3, 1) := by decide +kernel
theorem dX11_set_75 : decode cX11_set 75 = .ok (.invokevirtual 146, 3) := by decide +kernel
theorem dX11_set_78 : decode cX11_set 78 = .ok (.iload 4, 2) := by decide +kernel
theorem dX11_set_80 : decode cX11_set 80 = .ok (.ireturn, 1) := by decide +kernel
theorem dX11_set_81 : decode cX11_set 81 = .ok (.aload_n 0, 1) := by decide +kernel
theorem dX11_set_82 : decode cX11_set 82 = .ok (.getfield 54, 3) := by decide +kernel
theorem dX11_set_85 : decode cX11_set 85 = .ok (.getfield 121, 3) := by decide +kernel
theorem dX11_set_88 : decode cX11_set 88 = .ok (.iload_n 1, 1) := by decide +kernel
theorem dX11_set_89 : decode cX11_set 89 = .ok (.iaload, 1) := by decide +kernel
theorem dX11_set_90 : decode cX11_set 90 = .ok (.istore 4, 2) := by decide +kernel
theorem dX11_set_92 : decode cX11_set 92 = .ok (.aload_n 0, 1) := by decide +kernel
theorem dX11_set_93 : decode cX11_set 93 = .ok (.getfield 54, 3) := by decide +kernel
theorem dX11_set_96 : decode cX11_set 96 = .ok (.getfield 121, 3) := by decide +kernel
theorem dX11_set_99 : decode cX11_set 99 = .ok (.iload_n 1, 1) := by decide +kernel
theorem dX11_set_100 : decode cX11_set 100 = .ok (.iload_n 3, 1) := by decide +kernel
theorem dX11_set_101 : decode cX11_set 101 = .ok (.iastore, 1) := by decide +kernel
theorem dX11_set_102 : decode cX11_set 102 = .ok (.iload 4, 2) := by decide +kernel
theorem dX11_set_104 : decode cX11_set 104 = .ok (.ireturn, 1) := by decide +kernel
theorem dX11_row_0 : decode cX11_row 0 = .ok (.aload_n 0, 1) := by decide +kernel
theorem dX11_row_1 : decode cX11_row 1 = .ok (.getfield 54, 3) := by decide +kernel
theorem dX11_row_4 : decode cX11_row 4 = .ok (.iload_n 1, 1) := by decide +kernel
theorem dX11_row_5 : decode cX11_row 5 = .ok (.invokevirtual 104, 3) := by decide +kernel
theorem dX11_row_8 : decode cX11_row 8 = .ok (.ifCond .eq 12, 3) := by decide +kernel
theorem dX11_row_11 : decode cX11_row 11 = .ok (.iload_n 2, 1) := by decide +kernel
theorem dX11_row_12 : decode cX11_row 12 = .ok (.iconst 0, 1) := by decide +kernel
theorem dX11_row_13 : decode cX11_row 13 = .ok (.iconst 3, 1) := by decide +kernel
theorem dX11_row_14 : decode cX11_row 14 = .ok (.invokestatic 92, 3) := by decide +kernel
theorem dX11_row_17 : decode cX11_row 17 = .ok (.ifCond .ne 5, 3) := by decide +kernel
theorem dX11_row_20 : decode cX11_row 20 = .ok (.iconst (-1), 1) := by decide +kernel
theorem dX11_row_21 : decode cX11_row 21 = .ok (.ireturn, 1) := by decide +kernel
theorem dX11_row_22 : decode cX11_row 22 = .ok (.iload_n 3, 1) := by decide +kernel
theorem dX11_row_23 : decode cX11_row 23 = .ok (.iconst 0, 1) := by decide +kernel
theorem dX11_row_24 : decode cX11_row 24 = .ok (.bipush 9, 2) := by decide +kernel
theorem dX11_row_26 : decode cX11_row 26 = .ok (.invokestatic 92, 3) := by decide +kernel
theorem dX11_row_29 : decode cX11_row 29 = .ok (.ifCond .ne 6, 3) := by decide +kernel
theorem dX11_row_32 : decode cX11_row 32 = .ok (.bipush (-2), 2) := by decide +kernel
theorem dX11_row_34 : decode cX11_row 34 = .ok (.ireturn, 1) := by decide +kernel
theorem dX11_row_35 : decode cX11_row 35 = .ok (.aload_n 0, 1) := by decide +kernel
theorem dX11_row_36 : decode cX11_row 36 = .ok (.getfield 54, 3) := by decide +kernel
theorem dX11_row_39 : decode cX11_row 39 = .ok (.getfield 112, 3) := by decide +kernel
theorem dX11_row_42 : decode cX11_row 42 = .ok (.iload_n 1, 1) := by decide +kernel
theorem dX11_row_43 : decode cX11_row 43 = .ok (.iaload, 1) := by decide +kernel
theorem dX11_row_44 : decode cX11_row 44 = .ok (.bipush 6, 2) := by decide +kernel
theorem dX11_row_46 : decode cX11_row 46 = .ok (.if_icmp .eq 6, 3) := by decide +kernel
theorem dX11_row_49 : decode cX11_row 49 = .ok (.bipush (-3), 2) := by decide +kernel
theorem dX11_row_51 : decode cX11_row 51 = .ok (.ireturn, 1) := by decide +kernel
theorem dX11_row_52 : decode cX11_row 52 = .ok (.aload_n 0, 1) := by decide +kernel
theorem dX11_row_53 : decode cX11_row 53 = .ok (.getfield 54, 3) := by decide +kernel
theorem dX11_row_56 : decode cX11_row 56 = .ok (.getfield 150, 3) := by decide +kernel
theorem dX11_row_59 : decode cX11_row 59 = .ok (.iload_n 1, 1) := by decide +kernel
theorem dX11_row_60 : decode cX11_row 60 = .ok (.iconst 4, 1) := by decide +kernel
theorem dX11_row_61 : decode cX11_row 61 = .ok (.imul, 1) := by decide +kernel
theorem dX11_row_62 : decode cX11_row 62 = .ok (.iload_n 2, 1) := by decide +kernel
theorem dX11_row_63 : decode cX11_row 63 = .ok (.iadd, 1) := by decide +kernel
theorem dX11_row_64 : decode cX11_row 64 = .ok (.iaload, 1) := by decide +kernel
theorem dX11_row_65 : decode cX11_row 65 = .ok (.istore 4, 2) := by decide +kernel
theorem dX11_row_67 : decode cX11_row 67 = .ok (.aload_n 0, 1) := by decide +kernel
theorem dX11_row_68 : decode cX11_row 68 = .ok (.getfield 54, 3) := by decide +kernel
theorem dX11_row_71 : decode cX11_row 71 = .ok (.getfield 150, 3) := by decide +kernel
theorem dX11_row_74 : decode cX11_row 74 = .ok (.iload_n 1, 1) := by decide +kernel
theorem dX11_row_75 : decode cX11_row 75 = .ok (.iconst 4, 1) := by decide +kernel
theorem dX11_row_76 : decode cX11_row 76 = .ok (.imul, 1) := by decide +kernel
theorem dX11_row_77 : decode cX11_row 77 = .ok (.iload_n 2, 1) := by decide +kernel
theorem dX11_row_78 : decode cX11_row 78 = .ok (.iadd, 1) := by decide +kernel
theorem dX11_row_79 : decode cX11_row 79 = .ok (.iload_n 3, 1) := by decide +kernel
theorem dX11_row_80 : decode cX11_row 80 = .ok (.iastore, 1) := by decide +kernel
theorem dX11_row_81 : decode cX11_row 81 = .ok (.iload 4, 2) := by decide +kernel
theorem dX11_row_83 : decode cX11_row 83 = .ok (.ireturn, 1) := by decide +kernel
theorem dX11_counts_0 : decode cX11_counts 0 = .ok (.iload_n 1, 1) := by decide +kernel
theorem dX11_counts_1 : decode cX11_counts 1 = .ok (.iconst 0, 1) := by decide +kernel
theorem dX11_counts_2 : decode cX11_counts 2 = .ok (.iconst 3, 1) := by decide +kernel
theorem dX11_counts_3 : decode cX11_counts 3 = .ok (.invokestatic 92, 3) := by decide +kernel
theorem dX11_counts_6 : decode cX11_counts 6 = .ok (.ifCond .ne 5, 3) := by decide +kernel
theorem dX11_counts_9 : decode cX11_counts 9 = .ok (.iconst (-1), 1) := by decide +kernel
theorem dX11_counts_10 : decode cX11_counts 10 = .ok (.ireturn, 1) := by decide +kernel
theorem dX11_counts_11 : decode cX11_counts 11 = .ok (.iload_n 2, 1) := by decide +kernel
theorem dX11_counts_12 : decode cX11_counts 12 = .ok (.iconst 1, 1) := by decide +kernel
theorem dX11_counts_13 : decode cX11_counts 13 = .ok (.bipush 9, 2) := by decide +kernel
theorem dX11_counts_15 : decode cX11_counts 15 = .ok (.invokestatic 92, 3) := by decide +kernel
theorem dX11_counts_18 : decode cX11_counts 18 = .ok (.ifCond .ne 6, 3) := by decide +kernel
theorem dX11_counts_21 : decode cX11_counts 21 = .ok (.bipush (-2), 2) := by decide +kernel
theorem dX11_counts_23 : decode cX11_counts 23 = .ok (.ireturn, 1) := by decide +kernel
theorem dX11_counts_24 : decode cX11_counts 24 = .ok (.aload_n 0, 1) := by decide +kernel
theorem dX11_counts_25 : decode cX11_counts 25 = .ok (.getfield 54, 3) := by decide +kernel
theorem dX11_counts_28 : decode cX11_counts 28 = .ok (.getfield 153, 3) := by decide +kernel
theorem dX11_counts_31 : decode cX11_counts 31 = .ok (.iload_n 1, 1) := by decide +kernel
theorem dX11_counts_32 : decode cX11_counts 32 = .ok (.iaload, 1) := by decide +kernel
theorem dX11_counts_33 : decode cX11_counts 33 = .ok (.istore_n 3, 1) := by decide +kernel
theorem dX11_counts_34 : decode cX11_counts 34 = .ok (.aload_n 0, 1) := by decide +kernel
theorem dX11_counts_35 : decode cX11_counts 35 = .ok (.getfield 54, 3) := by decide +kernel
theorem dX11_counts_38 : decode cX11_counts 38 = .ok (.getfield 153, 3) := by decide +kernel
theorem dX11_counts_41 : decode cX11_counts 41 = .ok (.iload_n 1, 1) := by decide +kernel
theorem dX11_counts_42 : decode cX11_counts 42 = .ok (.iload_n 2, 1) := by decide +kernel
theorem dX11_counts_43 : decode cX11_counts 43 = .ok (.iastore, 1) := by decide +kernel
theorem dX11_counts_44 : decode cX11_counts 44 = .ok (.iload_n 3, 1) := by decide +kernel
theorem dX11_counts_45 : decode cX11_counts 45 = .ok (.ireturn, 1) := by decide +kernel
theorem dX11_feed_0 : decode cX11_feed 0 = .ok (.iload_n 1, 1) := by decide +kernel
theorem dX11_feed_1 : decode cX11_feed 1 = .ok (.iconst 0, 1) := by decide +kernel
theorem dX11_feed_2 : decode cX11_feed 2 = .ok (.bipush 127, 2) := by decide +kernel
theorem dX11_feed_4 : decode cX11_feed 4 = .ok (.invokestatic 92, 3) := by decide +kernel
theorem dX11_feed_7 : decode cX11_feed 7 = .ok (.ifCond .ne 6, 3) := by decide +kernel
theorem dX11_feed_10 : decode cX11_feed 10 = .ok (.bipush (-2), 2) := by decide +kernel
theorem dX11_feed_12 : decode cX11_feed 12 = .ok (.ireturn, 1) := by decide +kernel
theorem dX11_feed_13 : decode cX11_feed 13 = .ok (.aload_n 0, 1) := by decide +kernel
theorem dX11_feed_14 : decode cX11_feed 14 = .ok (.getfield 156, 3) := by decide +kernel
theorem dX11_feed_17 : decode cX11_feed 17 = .ok (.bipush 100, 2) := by decide +kernel
theorem dX11_feed_19 : decode cX11_feed 19 = .ok (.if_icmp .lt 6, 3) := by decide +kernel
theorem dX11_feed_22 : decode cX11_feed 22 = .ok (.bipush (-4), 2) := by decide +kernel
theorem dX11_feed_24 : decode cX11_feed 24 = .ok (.ireturn, 1) := by decide +kernel
theorem dX11_feed_25 : decode cX11_feed 25 = .ok (.aload_n 0, 1) := by decide +kernel
theorem dX11_feed_26 : decode cX11_feed 26 = .ok (.getfield 36, 3) := by decide +kernel
theorem dX11_feed_29 : decode cX11_feed 29 = .ok (.aload_n 0, 1) := by decide +kernel
theorem dX11_feed_30 : decode cX11_feed 30 = .ok (.getfield 156, 3) := by decide +kernel
theorem dX11_feed_33 : decode cX11_feed 33 = .ok (.iload_n 1, 1) := by decide +kernel
theorem dX11_feed_34 : decode cX11_feed 34 = .ok (.i2b, 1) := by decide +kernel
theorem dX11_feed_35 : decode cX11_feed 35 = .ok (.bastore, 1) := by decide +kernel
theorem dX11_feed_36 : decode cX11_feed 36 = .ok (.aload_n 0, 1) := by decide +kernel
theorem dX11_feed_37 : decode cX11_feed 37 = .ok (.dup, 1) := by decide +kernel
theorem dX11_feed_38 : decode cX11_feed 38 = .ok (.getfield 156, 3) := by decide +kernel
theorem dX11_feed_41 : decode cX11_feed 41 = .ok (.iconst 1, 1) := by decide +kernel
theorem dX11_feed_42 : decode cX11_feed 42 = .ok (.iadd, 1) := by decide +kernel
theorem dX11_feed_43 : decode cX11_feed 43 = .ok (.putfield 156, 3) := by decide +kernel
theorem dX11_feed_46 : decode cX11_feed 46 = .ok (.aload_n 0, 1) := by decide +kernel
theorem dX11_feed_47 : decode cX11_feed 47 = .ok (.getfield 156, 3) := by decide +kernel
theorem dX11_feed_50 : decode cX11_feed 50 = .ok (.ireturn, 1) := by decide +kernel
theorem dX11_yard_0 : decode cX11_yard 0 = .ok (.aload_n 0, 1) := by decide +kernel
theorem dX11_yard_1 : decode cX11_yard 1 = .ok (.getfield 159, 3) := by decide +kernel
theorem dX11_yard_4 : decode cX11_yard 4 = .ok (.bipush 6, 2) := by decide +kernel
theorem dX11_yard_6 : decode cX11_yard 6 = .ok (.if_icmp .lt 6, 3) := by decide +kernel
theorem dX11_yard_9 : decode cX11_yard 9 = .ok (.bipush (-4), 2) := by decide +kernel
theorem dX11_yard_11 : decode cX11_yard 11 = .ok (.ireturn, 1) := by decide +kernel
theorem dX11_yard_12 : decode cX11_yard 12 = .ok (.aload_n 0, 1) := by decide +kernel
theorem dX11_yard_13 : decode cX11_yard 13 = .ok (.getfield 42, 3) := by decide +kernel
theorem dX11_yard_16 : decode cX11_yard 16 = .ok (.aload_n 0, 1) := by decide +kernel
theorem dX11_yard_17 : decode cX11_yard 17 = .ok (.getfield 159, 3) := by decide +kernel
theorem dX11_yard_20 : decode cX11_yard 20 = .ok (.iconst 1, 1) := by decide +kernel
theorem dX11_yard_21 : decode cX11_yard 21 = .ok (.iadd, 1) := by decide +kernel
theorem dX11_yard_22 : decode cX11_yard 22 = .ok (.aaload, 1) := by decide +kernel
theorem dX11_yard_23 : decode cX11_yard 23 = .ok (.astore_n 1, 1) := by decide +kernel
theorem dX11_yard_24 : decode cX11_yard 24 = .ok (.aload_n 1, 1) := by decide +kernel
theorem dX11_yard_25 : decode cX11_yard 25 = .ok (.aload_n 0, 1) := by decide +kernel
theorem dX11_yard_26 : decode cX11_yard 26 = .ok (.getfield 156, 3) := by decide +kernel
theorem dX11_yard_29 : decode cX11_yard 29 = .ok (.invokevirtual 162, 3) := by decide +kernel
theorem dX11_yard_32 : decode cX11_yard 32 = .ok (.istore_n 2, 1) := by decide +kernel
theorem dX11_yard_33 : decode cX11_yard 33 = .ok (.aload_n 0, 1) := by decide +kernel
theorem dX11_yard_34 : decode cX11_yard 34 = .ok (.iconst 0, 1) := by decide +kernel
theorem dX11_yard_35 : decode cX11_yard 35 = .ok (.putfield 156, 3) := by decide +kernel
theorem dX11_yard_38 : decode cX11_yard 38 = .ok (.iload_n 2, 1) := by decide +kernel
theorem dX11_yard_39 : decode cX11_yard 39 = .ok (.iconst (-1), 1) := by decide +kernel
theorem dX11_yard_40 : decode cX11_yard 40 = .ok (.if_icmp .eq 8, 3) := by decide +kernel
theorem dX11_yard_43 : decode cX11_yard 43 = .ok (.bipush (-10), 2) := by decide +kernel
theorem dX11_yard_45 : decode cX11_yard 45 = .ok (.iload_n 2, 1) := by decide +kernel
theorem dX11_yard_46 : decode cX11_yard 46 = .ok (.isub, 1) := by decide +kernel
theorem dX11_yard_47 : decode cX11_yard 47 = .ok (.ireturn, 1) := by decide +kernel
theorem dX11_yard_48 : decode cX11_yard 48 = .ok (.aload_n 0, 1) := by decide +kernel
theorem dX11_yard_49 : decode cX11_yard 49 = .ok (.getfield 54, 3) := by decide +kernel
theorem dX11_yard_52 : decode cX11_yard 52 = .ok (.aload_n 1, 1) := by decide +kernel
theorem dX11_yard_53 : decode cX11_yard 53 = .ok (.putfield 139, 3) := by decide +kernel
theorem dX11_yard_56 : decode cX11_yard 56 = .ok (.aload_n 0, 1) := by decide +kernel
theorem dX11_yard_57 : decode cX11_yard 57 = .ok (.dup, 1) := by decide +kernel
theorem dX11_yard_58 : decode cX11_yard 58 = .ok (.getfield 159, 3) := by decide +kernel
theorem dX11_yard_61 : decode cX11_yard 61 = .ok (.iconst 1, 1) := by decide +kernel
theorem dX11_yard_62 : decode cX11_yard 62 = .ok (.iadd, 1) := by decide +kernel
theorem dX11_yard_63 : decode cX11_yard 63 = .ok (.putfield 159, 3) := by decide +kernel
theorem dX11_yard_66 : decode cX11_yard 66 = .ok (.aload_n 0, 1) := by decide +kernel
theorem dX11_yard_67 : decode cX11_yard 67 = .ok (.getfield 159, 3) := by decide +kernel
theorem dX11_yard_70 : decode cX11_yard 70 = .ok (.iconst 1, 1) := by decide +kernel
theorem dX11_yard_71 : decode cX11_yard 71 = .ok (.isub, 1) := by decide +kernel
theorem dX11_yard_72 : decode cX11_yard 72 = .ok (.ireturn, 1) := by decide +kernel
theorem dX11_told_0 : decode cX11_told 0 = .ok (.iload_n 1, 1) := by decide +kernel
theorem dX11_told_1 : decode cX11_told 1 = .ok (.tableswitch 84 0 4 #[35, 43, 54, 65, 76], 35) := by decide +kernel
theorem dX11_told_36 : decode cX11_told 36 = .ok (.aload_n 0, 1) := by decide +kernel
theorem dX11_told_37 : decode cX11_told 37 = .ok (.getfield 54, 3) := by decide +kernel
theorem dX11_told_40 : decode cX11_told 40 = .ok (.getfield 166, 3) := by decide +kernel
theorem dX11_told_43 : decode cX11_told 43 = .ok (.ireturn, 1) := by decide +kernel
theorem dX11_told_44 : decode cX11_told 44 = .ok (.aload_n 0, 1) := by decide +kernel
theorem dX11_told_45 : decode cX11_told 45 = .ok (.getfield 54, 3) := by decide +kernel
theorem dX11_told_48 : decode cX11_told 48 = .ok (.getfield 139, 3) := by decide +kernel
theorem dX11_told_51 : decode cX11_told 51 = .ok (.getfield 143, 3) := by decide +kernel
theorem dX11_told_54 : decode cX11_told 54 = .ok (.ireturn, 1) := by decide +kernel
theorem dX11_told_55 : decode cX11_told 55 = .ok (.aload_n 0, 1) := by decide +kernel
theorem dX11_told_56 : decode cX11_told 56 = .ok (.getfield 54, 3) := by decide +kernel
theorem dX11_told_59 : decode cX11_told 59 = .ok (.getfield 139, 3) := by decide +kernel
theorem dX11_told_62 : decode cX11_told 62 = .ok (.getfield 169, 3) := by decide +kernel
theorem dX11_told_65 : decode cX11_told 65 = .ok (.ireturn, 1) := by decide +kernel
theorem dX11_told_66 : decode cX11_told 66 = .ok (.aload_n 0, 1) := by decide +kernel
theorem dX11_told_67 : decode cX11_told 67 = .ok (.getfield 54, 3) := by decide +kernel
theorem dX11_told_70 : decode cX11_told 70 = .ok (.getfield 139, 3) := by decide +kernel
theorem dX11_told_73 : decode cX11_told 73 = .ok (.getfield 172, 3) := by decide +kernel
theorem dX11_told_76 : decode cX11_told 76 = .ok (.ireturn, 1) := by decide +kernel
theorem dX11_told_77 : decode cX11_told 77 = .ok (.aload_n 0, 1) := by decide +kernel
theorem dX11_told_78 : decode cX11_told 78 = .ok (.getfield 54, 3) := by decide +kernel
theorem dX11_told_81 : decode cX11_told 81 = .ok (.getfield 175, 3) := by decide +kernel
theorem dX11_told_84 : decode cX11_told 84 = .ok (.ireturn, 1) := by decide +kernel
theorem dX11_told_85 : decode cX11_told 85 = .ok (.iload_n 1, 1) := by decide +kernel
theorem dX11_told_86 : decode cX11_told 86 = .ok (.bipush 10, 2) := by decide +kernel
theorem dX11_told_88 : decode cX11_told 88 = .ok (.bipush 13, 2) := by decide +kernel
theorem dX11_told_90 : decode cX11_told 90 = .ok (.invokestatic 92, 3) := by decide +kernel
theorem dX11_told_93 : decode cX11_told 93 = .ok (.ifCond .ne 5, 3) := by decide +kernel
theorem dX11_told_96 : decode cX11_told 96 = .ok (.iconst (-1), 1) := by decide +kernel
theorem dX11_told_97 : decode cX11_told 97 = .ok (.ireturn, 1) := by decide +kernel
theorem dX11_told_98 : decode cX11_told 98 = .ok (.aload_n 0, 1) := by decide +kernel
theorem dX11_told_99 : decode cX11_told 99 = .ok (.getfield 54, 3) := by decide +kernel
theorem dX11_told_102 : decode cX11_told 102 = .ok (.getfield 153, 3) := by decide +kernel
theorem dX11_told_105 : decode cX11_told 105 = .ok (.iload_n 1, 1) := by decide +kernel
theorem dX11_told_106 : decode cX11_told 106 = .ok (.bipush 10, 2) := by decide +kernel
theorem dX11_told_108 : decode cX11_told 108 = .ok (.isub, 1) := by decide +kernel
theorem dX11_told_109 : decode cX11_told 109 = .ok (.iaload, 1) := by decide +kernel
theorem dX11_told_110 : decode cX11_told 110 = .ok (.ireturn, 1) := by decide +kernel
theorem dX11_turn_0 : decode cX11_turn 0 = .ok (.aload_n 0, 1) := by decide +kernel
theorem dX11_turn_1 : decode cX11_turn 1 = .ok (.getfield 54, 3) := by decide +kernel
theorem dX11_turn_4 : decode cX11_turn 4 = .ok (.getfield 166, 3) := by decide +kernel
theorem dX11_turn_7 : decode cX11_turn 7 = .ok (.sipush 9999, 3) := by decide +kernel
theorem dX11_turn_10 : decode cX11_turn 10 = .ok (.if_icmp .lt 6, 3) := by decide +kernel
theorem dX11_turn_13 : decode cX11_turn 13 = .ok (.bipush (-3), 2) := by decide +kernel
theorem dX11_turn_15 : decode cX11_turn 15 = .ok (.ireturn, 1) := by decide +kernel
theorem dX11_turn_16 : decode cX11_turn 16 = .ok (.aload_n 0, 1) := by decide +kernel
theorem dX11_turn_17 : decode cX11_turn 17 = .ok (.getfield 69, 3) := by decide +kernel
theorem dX11_turn_20 : decode cX11_turn 20 = .ok (.aload_n 0, 1) := by decide +kernel
theorem dX11_turn_21 : decode cX11_turn 21 = .ok (.getfield 54, 3) := by decide +kernel
theorem dX11_turn_24 : decode cX11_turn 24 = .ok (.iconst 1, 1) := by decide +kernel
theorem dX11_turn_25 : decode cX11_turn 25 = .ok (.invokevirtual 178, 3) := by decide +kernel
theorem dX11_turn_28 : decode cX11_turn 28 = .ok (.ireturn, 1) := by decide +kernel
theorem dX11_on_0 : decode cX11_on 0 = .ok (.iload_n 2, 1) := by decide +kernel
theorem dX11_on_1 : decode cX11_on 1 = .ok (.bipush 10, 2) := by decide +kernel
theorem dX11_on_3 : decode cX11_on 3 = .ok (.bipush 16, 2) := by decide +kernel
theorem dX11_on_5 : decode cX11_on 5 = .ok (.invokestatic 92, 3) := by decide +kernel
theorem dX11_on_8 : decode cX11_on 8 = .ok (.ifCond .eq 21, 3) := by decide +kernel
theorem dX11_on_11 : decode cX11_on 11 = .ok (.aload_n 0, 1) := by decide +kernel
theorem dX11_on_12 : decode cX11_on 12 = .ok (.getfield 54, 3) := by decide +kernel
theorem dX11_on_15 : decode cX11_on 15 = .ok (.iload_n 2, 1) := by decide +kernel
theorem dX11_on_16 : decode cX11_on 16 = .ok (.bipush 10, 2) := by decide +kernel
theorem dX11_on_18 : decode cX11_on 18 = .ok (.isub, 1) := by decide +kernel
theorem dX11_on_19 : decode cX11_on 19 = .ok (.invokevirtual 104, 3) := by decide +kernel
theorem dX11_on_22 : decode cX11_on 22 = .ok (.ifCond .eq 7, 3) := by decide +kernel
theorem dX11_on_25 : decode cX11_on 25 = .ok (.iconst 1, 1) := by decide +kernel
theorem dX11_on_26 : decode cX11_on 26 = .ok (.goto 4, 3) := by decide +kernel
theorem dX11_on_29 : decode cX11_on 29 = .ok (.iconst 0, 1) := by decide +kernel
theorem dX11_on_30 : decode cX11_on 30 = .ok (.istore_n 3, 1) := by decide +kernel
theorem dX11_on_31 : decode cX11_on 31 = .ok (.iload_n 3, 1) := by decide +kernel
theorem dX11_on_32 : decode cX11_on 32 = .ok (.ifCond .ne 14, 3) := by decide +kernel
theorem dX11_on_35 : decode cX11_on 35 = .ok (.iload_n 2, 1) := by decide +kernel
theorem dX11_on_36 : decode cX11_on 36 = .ok (.iconst 0, 1) := by decide +kernel
theorem dX11_on_37 : decode cX11_on 37 = .ok (.iconst 1, 1) := by decide +kernel
theorem dX11_on_38 : decode cX11_on 38 = .ok (.invokestatic 92, 3) := by decide +kernel
theorem dX11_on_41 : decode cX11_on 41 = .ok (.ifCond .ne 5, 3) := by decide +kernel
theorem dX11_on_44 : decode cX11_on 44 = .ok (.iconst (-1), 1) := by decide +kernel
theorem dX11_on_45 : decode cX11_on 45 = .ok (.ireturn, 1) := by decide +kernel
theorem dX11_on_46 : decode cX11_on 46 = .ok (.iload_n 1, 1) := by decide +kernel
theorem dX11_on_47 : decode cX11_on 47 = .ok (.iconst 0, 1) := by decide +kernel
theorem dX11_on_48 : decode cX11_on 48 = .ok (.bipush 40, 2) := by decide +kernel
theorem dX11_on_50 : decode cX11_on 50 = .ok (.invokestatic 92, 3) := by decide +kernel
theorem dX11_on_53 : decode cX11_on 53 = .ok (.ifCond .ne 6, 3) := by decide +kernel
theorem dX11_on_56 : decode cX11_on 56 = .ok (.bipush (-2), 2) := by decide +kernel
theorem dX11_on_58 : decode cX11_on 58 = .ok (.ireturn, 1) := by decide +kernel
theorem dX11_on_59 : decode cX11_on 59 = .ok (.aload_n 0, 1) := by decide +kernel
theorem dX11_on_60 : decode cX11_on 60 = .ok (.getfield 58, 3) := by decide +kernel
theorem dX11_on_63 : decode cX11_on 63 = .ok (.aload_n 0, 1) := by decide +kernel
theorem dX11_on_64 : decode cX11_on 64 = .ok (.getfield 54, 3) := by decide +kernel
theorem dX11_on_67 : decode cX11_on 67 = .ok (.invokevirtual 182, 3) := by decide +kernel
theorem dX11_on_70 : decode cX11_on 70 = .ok (.aload_n 0, 1) := by decide +kernel
theorem dX11_on_71 : decode cX11_on 71 = .ok (.getfield 69, 3) := by decide +kernel
theorem dX11_on_74 : decode cX11_on 74 = .ok (.aload_n 0, 1) := by decide +kernel
theorem dX11_on_75 : decode cX11_on 75 = .ok (.getfield 58, 3) := by decide +kernel
theorem dX11_on_78 : decode cX11_on 78 = .ok (.iload_n 1, 1) := by decide +kernel
theorem dX11_on_79 : decode cX11_on 79 = .ok (.invokevirtual 178, 3) := by decide +kernel
theorem dX11_on_82 : decode cX11_on 82 = .ok (.istore 4, 2) := by decide +kernel
theorem dX11_on_84 : decode cX11_on 84 = .ok (.iload_n 3, 1) := by decide +kernel
theorem dX11_on_85 : decode cX11_on 85 = .ok (.ifCond .eq 16, 3) := by decide +kernel
theorem dX11_on_88 : decode cX11_on 88 = .ok (.aload_n 0, 1) := by decide +kernel
theorem dX11_on_89 : decode cX11_on 89 = .ok (.getfield 58, 3) := by decide +kernel
theorem dX11_on_92 : decode cX11_on 92 = .ok (.getfield 118, 3) := by decide +kernel
theorem dX11_on_95 : decode cX11_on 95 = .ok (.iload_n 2, 1) := by decide +kernel
theorem dX11_on_96 : decode cX11_on 96 = .ok (.bipush 10, 2) := by decide +kernel
theorem dX11_on_98 : decode cX11_on 98 = .ok (.isub, 1) := by decide +kernel
theorem dX11_on_99 : decode cX11_on 99 = .ok (.iaload, 1) := by decide +kernel
theorem dX11_on_100 : decode cX11_on 100 = .ok (.ireturn, 1) := by decide +kernel
theorem dX11_on_101 : decode cX11_on 101 = .ok (.iload_n 2, 1) := by decide +kernel
theorem dX11_on_102 : decode cX11_on 102 = .ok (.ifCond .ne 16, 3) := by decide +kernel
theorem dX11_on_105 : decode cX11_on 105 = .ok (.aload_n 0, 1) := by decide +kernel
theorem dX11_on_106 : decode cX11_on 106 = .ok (.getfield 58, 3) := by decide +kernel
theorem dX11_on_109 : decode cX11_on 109 = .ok (.getfield 175, 3) := by decide +kernel
theorem dX11_on_112 : decode cX11_on 112 = .ok (.invokestatic 185, 3) := by decide +kernel
theorem dX11_on_115 : decode cX11_on 115 = .ok (.goto 5, 3) := by decide +kernel
theorem dX11_on_118 : decode cX11_on 118 = .ok (.iload 4, 2) := by decide +kernel
theorem dX11_on_120 : decode cX11_on 120 = .ok (.ireturn, 1) := by decide +kernel
theorem dX11_touches_0 : decode cX11_touches 0 = .ok (.aload_n 0, 1) := by decide +kernel
theorem dX11_touches_1 : decode cX11_touches 1 = .ok (.getfield 54, 3) := by decide +kernel
theorem dX11_touches_4 : decode cX11_touches 4 = .ok (.iload_n 1, 1) := by decide +kernel
theorem dX11_touches_5 : decode cX11_touches 5 = .ok (.invokevirtual 104, 3) := by decide +kernel
theorem dX11_touches_8 : decode cX11_touches 8 = .ok (.ifCond .ne 5, 3) := by decide +kernel
theorem dX11_touches_11 : decode cX11_touches 11 = .ok (.iconst (-1), 1) := by decide +kernel
theorem dX11_touches_12 : decode cX11_touches 12 = .ok (.ireturn, 1) := by decide +kernel
theorem dX11_touches_13 : decode cX11_touches 13 = .ok (.aload_n 0, 1) := by decide +kernel
theorem dX11_touches_14 : decode cX11_touches 14 = .ok (.getfield 58, 3) := by decide +kernel
theorem dX11_touches_17 : decode cX11_touches 17 = .ok (.aload_n 0, 1) := by decide +kernel
theorem dX11_touches_18 : decode cX11_touches 18 = .ok (.getfield 54, 3) := by decide +kernel
theorem dX11_touches_21 : decode cX11_touches 21 = .ok (.invokevirtual 182, 3) := by decide +kernel
theorem dX11_touches_24 : decode cX11_touches 24 = .ok (.aload_n 0, 1) := by decide +kernel
theorem dX11_touches_25 : decode cX11_touches 25 = .ok (.getfield 69, 3) := by decide +kernel
theorem dX11_touches_28 : decode cX11_touches 28 = .ok (.aload_n 0, 1) := by decide +kernel
theorem dX11_touches_29 : decode cX11_touches 29 = .ok (.getfield 58, 3) := by decide +kernel
theorem dX11_touches_32 : decode cX11_touches 32 = .ok (.iconst 1, 1) := by decide +kernel
theorem dX11_touches_33 : decode cX11_touches 33 = .ok (.iload_n 1, 1) := by decide +kernel
theorem dX11_touches_34 : decode cX11_touches 34 = .ok (.ishl, 1) := by decide +kernel
theorem dX11_touches_35 : decode cX11_touches 35 = .ok (.invokevirtual 190, 3) := by decide +kernel
theorem dX11_touches_38 : decode cX11_touches 38 = .ok (.ireturn, 1) := by decide +kernel
theorem dX11_first_0 : decode cX11_first 0 = .ok (.aload_n 0, 1) := by decide +kernel
theorem dX11_first_1 : decode cX11_first 1 = .ok (.getfield 54, 3) := by decide +kernel
theorem dX11_first_4 : decode cX11_first 4 = .ok (.invokevirtual 193, 3) := by decide +kernel
theorem dX11_first_7 : decode cX11_first 7 = .ok (.aload_n 0, 1) := by decide +kernel
theorem dX11_first_8 : decode cX11_first 8 = .ok (.getfield 54, 3) := by decide +kernel
theorem dX11_first_11 : decode cX11_first 11 = .ok (.getfield 175, 3) := by decide +kernel
theorem dX11_first_14 : decode cX11_first 14 = .ok (.iconst (-1), 1) := by decide +kernel
theorem dX11_first_15 : decode cX11_first 15 = .ok (.ixor, 1) := by decide +kernel
theorem dX11_first_16 : decode cX11_first 16 = .ok (.iand, 1) := by decide +kernel
theorem dX11_first_17 : decode cX11_first 17 = .ok (.istore_n 1, 1) := by decide +kernel
theorem dX11_first_18 : decode cX11_first 18 = .ok (.aload_n 0, 1) := by decide +kernel
theorem dX11_first_19 : decode cX11_first 19 = .ok (.getfield 58, 3) := by decide +kernel
theorem dX11_first_22 : decode cX11_first 22 = .ok (.aload_n 0, 1) := by decide +kernel
theorem dX11_first_23 : decode cX11_first 23 = .ok (.getfield 54, 3) := by decide +kernel
theorem dX11_first_26 : decode cX11_first 26 = .ok (.invokevirtual 182, 3) := by decide +kernel
theorem dX11_first_29 : decode cX11_first 29 = .ok (.iload_n 1, 1) := by decide +kernel
theorem dX11_first_30 : decode cX11_first 30 = .ok (.ifCond .eq 20, 3) := by decide +kernel
theorem dX11_first_33 : decode cX11_first 33 = .ok (.aload_n 0, 1) := by decide +kernel
theorem dX11_first_34 : decode cX11_first 34 = .ok (.getfield 69, 3) := by decide +kernel
theorem dX11_first_37 : decode cX11_first 37 = .ok (.aload_n 0, 1) := by decide +kernel
theorem dX11_first_38 : decode cX11_first 38 = .ok (.getfield 58, 3) := by decide +kernel
theorem dX11_first_41 : decode cX11_first 41 = .ok (.iload_n 1, 1) := by decide +kernel
theorem dX11_first_42 : decode cX11_first 42 = .ok (.invokevirtual 190, 3) := by decide +kernel
theorem dX11_first_45 : decode cX11_first 45 = .ok (.bipush (-5), 2) := by decide +kernel
theorem dX11_first_47 : decode cX11_first 47 = .ok (.if_icmp .ne 6, 3) := by decide +kernel
theorem dX11_first_50 : decode cX11_first 50 = .ok (.bipush (-5), 2) := by decide +kernel
theorem dX11_first_52 : decode cX11_first 52 = .ok (.ireturn, 1) := by decide +kernel
theorem dX11_first_53 : decode cX11_first 53 = .ok (.iconst 0, 1) := by decide +kernel
theorem dX11_first_54 : decode cX11_first 54 = .ok (.istore_n 2, 1) := by decide +kernel
theorem dX11_first_55 : decode cX11_first 55 = .ok (.iload_n 2, 1) := by decide +kernel
theorem dX11_first_56 : decode cX11_first 56 = .ok (.aload_n 0, 1) := by decide +kernel
theorem dX11_first_57 : decode cX11_first 57 = .ok (.getfield 58, 3) := by decide +kernel
theorem dX11_first_60 : decode cX11_first 60 = .ok (.getfield 96, 3) := by decide +kernel
theorem dX11_first_63 : decode cX11_first 63 = .ok (.iconst 1, 1) := by decide +kernel
theorem dX11_first_64 : decode cX11_first 64 = .ok (.isub, 1) := by decide +kernel
theorem dX11_first_65 : decode cX11_first 65 = .ok (.if_icmp .ge 25, 3) := by decide +kernel
theorem dX11_first_68 : decode cX11_first 68 = .ok (.aload_n 0, 1) := by decide +kernel
theorem dX11_first_69 : decode cX11_first 69 = .ok (.getfield 58, 3) := by decide +kernel
theorem dX11_first_72 : decode cX11_first 72 = .ok (.getfield 175, 3) := by decide +kernel
theorem dX11_first_75 : decode cX11_first 75 = .ok (.iload_n 1, 1) := by decide +kernel
theorem dX11_first_76 : decode cX11_first 76 = .ok (.iand, 1) := by decide +kernel
theorem dX11_first_77 : decode cX11_first 77 = .ok (.iconst 1, 1) := by decide +kernel
theorem dX11_first_78 : decode cX11_first 78 = .ok (.iload_n 2, 1) := by decide +kernel
theorem dX11_first_79 : decode cX11_first 79 = .ok (.ishl, 1) := by decide +kernel
theorem dX11_first_80 : decode cX11_first 80 = .ok (.iand, 1) := by decide +kernel
theorem dX11_first_81 : decode cX11_first 81 = .ok (.ifCond .ne 9, 3) := by decide +kernel
theorem dX11_first_84 : decode cX11_first 84 = .ok (.iinc 2 1, 3) := by decide +kernel
theorem dX11_first_87 : decode cX11_first 87 = .ok (.goto (-32), 3) := by decide +kernel
theorem dX11_first_90 : decode cX11_first 90 = .ok (.iload_n 2, 1) := by decide +kernel
theorem dX11_first_91 : decode cX11_first 91 = .ok (.ireturn, 1) := by decide +kernel
theorem dX11_risks_0 : decode cX11_risks 0 = .ok (.aload_n 0, 1) := by decide +kernel
theorem dX11_risks_1 : decode cX11_risks 1 = .ok (.getfield 69, 3) := by decide +kernel
theorem dX11_risks_4 : decode cX11_risks 4 = .ok (.aload_n 0, 1) := by decide +kernel
theorem dX11_risks_5 : decode cX11_risks 5 = .ok (.getfield 54, 3) := by decide +kernel
theorem dX11_risks_8 : decode cX11_risks 8 = .ok (.invokevirtual 108, 3) := by decide +kernel
theorem dX11_risks_11 : decode cX11_risks 11 = .ok (.iconst 0, 1) := by decide +kernel
theorem dX11_risks_12 : decode cX11_risks 12 = .ok (.istore_n 1, 1) := by decide +kernel
theorem dX11_risks_13 : decode cX11_risks 13 = .ok (.iconst 0, 1) := by decide +kernel
theorem dX11_risks_14 : decode cX11_risks 14 = .ok (.istore_n 2, 1) := by decide +kernel
theorem dX11_risks_15 : decode cX11_risks 15 = .ok (.iload_n 2, 1) := by decide +kernel
theorem dX11_risks_16 : decode cX11_risks 16 = .ok (.aload_n 0, 1) := by decide +kernel
theorem dX11_risks_17 : decode cX11_risks 17 = .ok (.getfield 54, 3) := by decide +kernel
theorem dX11_risks_20 : decode cX11_risks 20 = .ok (.getfield 96, 3) := by decide +kernel
theorem dX11_risks_23 : decode cX11_risks 23 = .ok (.if_icmp .ge 48, 3) := by decide +kernel
theorem dX11_risks_26 : decode cX11_risks 26 = .ok (.aload_n 0, 1) := by decide +kernel
theorem dX11_risks_27 : decode cX11_risks 27 = .ok (.getfield 54, 3) := by decide +kernel
theorem dX11_risks_30 : decode cX11_risks 30 = .ok (.iload_n 2, 1) := by decide +kernel
theorem dX11_risks_31 : decode cX11_risks 31 = .ok (.invokevirtual 127, 3) := by decide +kernel
theorem dX11_risks_34 : decode cX11_risks 34 = .ok (.ifCond .ne 31, 3) := by decide +kernel
theorem dX11_risks_37 : decode cX11_risks 37 = .ok (.aload_n 0, 1) := by decide +kernel
theorem dX11_risks_38 : decode cX11_risks 38 = .ok (.getfield 69, 3) := by decide +kernel
theorem dX11_risks_41 : decode cX11_risks 41 = .ok (.getfield 136, 3) := by decide +kernel
theorem dX11_risks_44 : decode cX11_risks 44 = .ok (.iload_n 2, 1) := by decide +kernel
theorem dX11_risks_45 : decode cX11_risks 45 = .ok (.iaload, 1) := by decide +kernel
theorem dX11_risks_46 : decode cX11_risks 46 = .ok (.aload_n 0, 1) := by decide +kernel
theorem dX11_risks_47 : decode cX11_risks 47 = .ok (.getfield 54, 3) := by decide +kernel
theorem dX11_risks_50 : decode cX11_risks 50 = .ok (.getfield 139, 3) := by decide +kernel
theorem dX11_risks_53 : decode cX11_risks 53 = .ok (.getfield 169, 3) := by decide +kernel
theorem dX11_risks_56 : decode cX11_risks 56 = .ok (.if_icmp .le 9, 3) := by decide +kernel
theorem dX11_risks_59 : decode cX11_risks 59 = .ok (.iload_n 1, 1) := by decide +kernel
theorem dX11_risks_60 : decode cX11_risks 60 = .ok (.iconst 1, 1) := by decide +kernel
theorem dX11_risks_61 : decode cX11_risks 61 = .ok (.iload_n 2, 1) := by decide +kernel
theorem dX11_risks_62 : decode cX11_risks 62 = .ok (.ishl, 1) := by decide +kernel
theorem dX11_risks_63 : decode cX11_risks 63 = .ok (.ior, 1) := by decide +kernel
theorem dX11_risks_64 : decode cX11_risks 64 = .ok (.istore_n 1, 1) := by decide +kernel
theorem dX11_risks_65 : decode cX11_risks 65 = .ok (.iinc 2 1, 3) := by decide +kernel
theorem dX11_risks_68 : decode cX11_risks 68 = .ok (.goto (-53), 3) := by decide +kernel
theorem dX11_risks_71 : decode cX11_risks 71 = .ok (.iload_n 1, 1) := by decide +kernel
theorem dX11_risks_72 : decode cX11_risks 72 = .ok (.ireturn, 1) := by decide +kernel
theorem dX11_stands_0 : decode cX11_stands 0 = .ok (.aload_n 0, 1) := by decide +kernel
theorem dX11_stands_1 : decode cX11_stands 1 = .ok (.getfield 54, 3) := by decide +kernel
theorem dX11_stands_4 : decode cX11_stands 4 = .ok (.iload_n 1, 1) := by decide +kernel
theorem dX11_stands_5 : decode cX11_stands 5 = .ok (.invokevirtual 104, 3) := by decide +kernel
theorem dX11_stands_8 : decode cX11_stands 8 = .ok (.ifCond .ne 5, 3) := by decide +kernel
theorem dX11_stands_11 : decode cX11_stands 11 = .ok (.iconst (-1), 1) := by decide +kernel
theorem dX11_stands_12 : decode cX11_stands 12 = .ok (.ireturn, 1) := by decide +kernel
theorem dX11_stands_13 : decode cX11_stands 13 = .ok (.bipush (-5), 2) := by decide +kernel
theorem dX11_stands_15 : decode cX11_stands 15 = .ok (.istore_n 2, 1) := by decide +kernel
theorem dX11_stands_16 : decode cX11_stands 16 = .ok (.bipush 60, 2) := by decide +kernel
theorem dX11_stands_18 : decode cX11_stands 18 = .ok (.istore_n 3, 1) := by decide +kernel
theorem dX11_stands_19 : decode cX11_stands 19 = .ok (.iconst 0, 1) := by decide +kernel
theorem dX11_stands_20 : decode cX11_stands 20 = .ok (.istore 4, 2) := by decide +kernel
theorem dX11_stands_22 : decode cX11_stands 22 = .ok (.iload 4, 2) := by decide +kernel
theorem dX11_stands_24 : decode cX11_stands 24 = .ok (.bipush 9, 2) := by decide +kernel
theorem dX11_stands_26 : decode cX11_stands 26 = .ok (.if_icmp .gt 66, 3) := by decide +kernel
theorem dX11_stands_29 : decode cX11_stands 29 = .ok (.aload_n 0, 1) := by decide +kernel
theorem dX11_stands_30 : decode cX11_stands 30 = .ok (.getfield 58, 3) := by decide +kernel
theorem dX11_stands_33 : decode cX11_stands 33 = .ok (.aload_n 0, 1) := by decide +kernel
theorem dX11_stands_34 : decode cX11_stands 34 = .ok (.getfield 54, 3) := by decide +kernel
theorem dX11_stands_37 : decode cX11_stands 37 = .ok (.invokevirtual 182, 3) := by decide +kernel
theorem dX11_stands_40 : decode cX11_stands 40 = .ok (.aload_n 0, 1) := by decide +kernel
theorem dX11_stands_41 : decode cX11_stands 41 = .ok (.getfield 58, 3) := by decide +kernel
theorem dX11_stands_44 : decode cX11_stands 44 = .ok (.getfield 121, 3) := by decide +kernel
theorem dX11_stands_47 : decode cX11_stands 47 = .ok (.iload_n 1, 1) := by decide +kernel
theorem dX11_stands_48 : decode cX11_stands 48 = .ok (.iload 4, 2) := by decide +kernel
theorem dX11_stands_50 : decode cX11_stands 50 = .ok (.iastore, 1) := by decide +kernel
theorem dX11_stands_51 : decode cX11_stands 51 = .ok (.aload_n 0, 1) := by decide +kernel
theorem dX11_stands_52 : decode cX11_stands 52 = .ok (.getfield 69, 3) := by decide +kernel
theorem dX11_stands_55 : decode cX11_stands 55 = .ok (.aload_n 0, 1) := by decide +kernel
theorem dX11_stands_56 : decode cX11_stands 56 = .ok (.getfield 58, 3) := by decide +kernel
theorem dX11_stands_59 : decode cX11_stands 59 = .ok (.iconst 1, 1) := by decide +kernel
theorem dX11_stands_60 : decode cX11_stands 60 = .ok (.iload_n 1, 1) := by decide +kernel
theorem dX11_stands_61 : decode cX11_stands 61 = .ok (.ishl, 1) := by decide +kernel
theorem dX11_stands_62 : decode cX11_stands 62 = .ok (.invokevirtual 190, 3) := by decide +kernel
theorem dX11_stands_65 : decode cX11_stands 65 = .ok (.istore 5, 2) := by decide +kernel
theorem dX11_stands_67 : decode cX11_stands 67 = .ok (.iload 5, 2) := by decide +kernel
theorem dX11_stands_69 : decode cX11_stands 69 = .ok (.bipush (-5), 2) := by decide +kernel
theorem dX11_stands_71 : decode cX11_stands 71 = .ok (.if_icmp .eq 15, 3) := by decide +kernel
theorem dX11_stands_74 : decode cX11_stands 74 = .ok (.iload 5, 2) := by decide +kernel
theorem dX11_stands_76 : decode cX11_stands 76 = .ok (.iload_n 3, 1) := by decide +kernel
theorem dX11_stands_77 : decode cX11_stands 77 = .ok (.if_icmp .gt 9, 3) := by decide +kernel
theorem dX11_stands_80 : decode cX11_stands 80 = .ok (.iload 5, 2) := by decide +kernel
theorem dX11_stands_82 : decode cX11_stands 82 = .ok (.istore_n 3, 1) := by decide +kernel
theorem dX11_stands_83 : decode cX11_stands 83 = .ok (.iload 4, 2) := by decide +kernel
theorem dX11_stands_85 : decode cX11_stands 85 = .ok (.istore_n 2, 1) := by decide +kernel
theorem dX11_stands_86 : decode cX11_stands 86 = .ok (.iinc 4 1, 3) := by decide +kernel
theorem dX11_stands_89 : decode cX11_stands 89 = .ok (.goto (-67), 3) := by decide +kernel
theorem dX11_stands_92 : decode cX11_stands 92 = .ok (.iload_n 2, 1) := by decide +kernel
theorem dX11_stands_93 : decode cX11_stands 93 = .ok (.ireturn, 1) := by decide +kernel
theorem dX11_slow_0 : decode cX11_slow 0 = .ok (.iload_n 2, 1) := by decide +kernel
theorem dX11_slow_1 : decode cX11_slow 1 = .ok (.iconst 0, 1) := by decide +kernel
theorem dX11_slow_2 : decode cX11_slow 2 = .ok (.iconst 1, 1) := by decide +kernel
theorem dX11_slow_3 : decode cX11_slow 3 = .ok (.invokestatic 92, 3) := by decide +kernel
theorem dX11_slow_6 : decode cX11_slow 6 = .ok (.ifCond .ne 5, 3) := by decide +kernel
theorem dX11_slow_9 : decode cX11_slow 9 = .ok (.iconst (-1), 1) := by decide +kernel
theorem dX11_slow_10 : decode cX11_slow 10 = .ok (.ireturn, 1) := by decide +kernel
theorem dX11_slow_11 : decode cX11_slow 11 = .ok (.iload_n 1, 1) := by decide +kernel
theorem dX11_slow_12 : decode cX11_slow 12 = .ok (.iconst 1, 1) := by decide +kernel
theorem dX11_slow_13 : decode cX11_slow 13 = .ok (.bipush 20, 2) := by decide +kernel
theorem dX11_slow_15 : decode cX11_slow 15 = .ok (.invokestatic 92, 3) := by decide +kernel
theorem dX11_slow_18 : decode cX11_slow 18 = .ok (.ifCond .ne 6, 3) := by decide +kernel
theorem dX11_slow_21 : decode cX11_slow 21 = .ok (.bipush (-2), 2) := by decide +kernel
theorem dX11_slow_23 : decode cX11_slow 23 = .ok (.ireturn, 1) := by decide +kernel
theorem dX11_slow_24 : decode cX11_slow 24 = .ok (.iconst 0, 1) := by decide +kernel
theorem dX11_slow_25 : decode cX11_slow 25 = .ok (.istore_n 3, 1) := by decide +kernel
theorem dX11_slow_26 : decode cX11_slow 26 = .ok (.bipush 7, 2) := by decide +kernel
theorem dX11_slow_28 : decode cX11_slow 28 = .ok (.istore 4, 2) := by decide +kernel
theorem dX11_slow_30 : decode cX11_slow 30 = .ok (.iconst 1, 1) := by decide +kernel
theorem dX11_slow_31 : decode cX11_slow 31 = .ok (.istore 5, 2) := by decide +kernel
theorem dX11_slow_33 : decode cX11_slow 33 = .ok (.iload 5, 2) := by decide +kernel
theorem dX11_slow_35 : decode cX11_slow 35 = .ok (.bipush 9, 2) := by decide +kernel
theorem dX11_slow_37 : decode cX11_slow 37 = .ok (.if_icmp .gt 86, 3) := by decide +kernel
theorem dX11_slow_40 : decode cX11_slow 40 = .ok (.aload_n 0, 1) := by decide +kernel
theorem dX11_slow_41 : decode cX11_slow 41 = .ok (.getfield 58, 3) := by decide +kernel
theorem dX11_slow_44 : decode cX11_slow 44 = .ok (.aload_n 0, 1) := by decide +kernel
theorem dX11_slow_45 : decode cX11_slow 45 = .ok (.getfield 54, 3) := by decide +kernel
theorem dX11_slow_48 : decode cX11_slow 48 = .ok (.invokevirtual 182, 3) := by decide +kernel
theorem dX11_slow_51 : decode cX11_slow 51 = .ok (.iconst 0, 1) := by decide +kernel
theorem dX11_slow_52 : decode cX11_slow 52 = .ok (.istore 6, 2) := by decide +kernel
theorem dX11_slow_54 : decode cX11_slow 54 = .ok (.iload 6, 2) := by decide +kernel
theorem dX11_slow_56 : decode cX11_slow 56 = .ok (.iconst 4, 1) := by decide +kernel
theorem dX11_slow_57 : decode cX11_slow 57 = .ok (.if_icmp .ge 21, 3) := by decide +kernel
theorem dX11_slow_60 : decode cX11_slow 60 = .ok (.aload_n 0, 1) := by decide +kernel
theorem dX11_slow_61 : decode cX11_slow 61 = .ok (.getfield 58, 3) := by decide +kernel
theorem dX11_slow_64 : decode cX11_slow 64 = .ok (.getfield 153, 3) := by decide +kernel
theorem dX11_slow_67 : decode cX11_slow 67 = .ok (.iload 6, 2) := by decide +kernel
theorem dX11_slow_69 : decode cX11_slow 69 = .ok (.iload 5, 2) := by decide +kernel
theorem dX11_slow_71 : decode cX11_slow 71 = .ok (.iastore, 1) := by decide +kernel
theorem dX11_slow_72 : decode cX11_slow 72 = .ok (.iinc 6 1, 3) := by decide +kernel
theorem dX11_slow_75 : decode cX11_slow 75 = .ok (.goto (-21), 3) := by decide +kernel
theorem dX11_slow_78 : decode cX11_slow 78 = .ok (.aload_n 0, 1) := by decide +kernel
theorem dX11_slow_79 : decode cX11_slow 79 = .ok (.getfield 69, 3) := by decide +kernel
theorem dX11_slow_82 : decode cX11_slow 82 = .ok (.aload_n 0, 1) := by decide +kernel
theorem dX11_slow_83 : decode cX11_slow 83 = .ok (.getfield 58, 3) := by decide +kernel
theorem dX11_slow_86 : decode cX11_slow 86 = .ok (.iload_n 1, 1) := by decide +kernel
theorem dX11_slow_87 : decode cX11_slow 87 = .ok (.invokevirtual 178, 3) := by decide +kernel
theorem dX11_slow_90 : decode cX11_slow 90 = .ok (.pop, 1) := by decide +kernel
theorem dX11_slow_91 : decode cX11_slow 91 = .ok (.aload_n 0, 1) := by decide +kernel
theorem dX11_slow_92 : decode cX11_slow 92 = .ok (.getfield 58, 3) := by decide +kernel
theorem dX11_slow_95 : decode cX11_slow 95 = .ok (.getfield 175, 3) := by decide +kernel
theorem dX11_slow_98 : decode cX11_slow 98 = .ok (.invokestatic 185, 3) := by decide +kernel
theorem dX11_slow_101 : decode cX11_slow 101 = .ok (.istore 6, 2) := by decide +kernel
theorem dX11_slow_103 : decode cX11_slow 103 = .ok (.iload 6, 2) := by decide +kernel
theorem dX11_slow_105 : decode cX11_slow 105 = .ok (.iload 4, 2) := by decide +kernel
theorem dX11_slow_107 : decode cX11_slow 107 = .ok (.if_icmp .gt 10, 3) := by decide +kernel
theorem dX11_slow_110 : decode cX11_slow 110 = .ok (.iload 6, 2) := by decide +kernel
theorem dX11_slow_112 : decode cX11_slow 112 = .ok (.istore 4, 2) := by decide +kernel
theorem dX11_slow_114 : decode cX11_slow 114 = .ok (.iload 5, 2) := by decide +kernel
theorem dX11_slow_116 : decode cX11_slow 116 = .ok (.istore_n 3, 1) := by decide +kernel
theorem dX11_slow_117 : decode cX11_slow 117 = .ok (.iinc 5 1, 3) := by decide +kernel
theorem dX11_slow_120 : decode cX11_slow 120 = .ok (.goto (-87), 3) := by decide +kernel
theorem dX11_slow_123 : decode cX11_slow 123 = .ok (.iload_n 2, 1) := by decide +kernel
theorem dX11_slow_124 : decode cX11_slow 124 = .ok (.ifCond .ne 7, 3) := by decide +kernel
theorem dX11_slow_127 : decode cX11_slow 127 = .ok (.iload_n 3, 1) := by decide +kernel
theorem dX11_slow_128 : decode cX11_slow 128 = .ok (.goto 5, 3) := by decide +kernel
theorem dX11_slow_131 : decode cX11_slow 131 = .ok (.iload 4, 2) := by decide +kernel
theorem dX11_slow_133 : decode cX11_slow 133 = .ok (.ireturn, 1) := by decide +kernel
theorem dX11_order_0 : decode cX11_order 0 = .ok (.iload_n 2, 1) := by decide +kernel
theorem dX11_order_1 : decode cX11_order 1 = .ok (.iconst (-1), 1) := by decide +kernel
theorem dX11_order_2 : decode cX11_order 2 = .ok (.iconst 3, 1) := by decide +kernel
theorem dX11_order_3 : decode cX11_order 3 = .ok (.invokestatic 92, 3) := by decide +kernel
theorem dX11_order_6 : decode cX11_order 6 = .ok (.ifCond .ne 5, 3) := by decide +kernel
theorem dX11_order_9 : decode cX11_order 9 = .ok (.iconst (-1), 1) := by decide +kernel
theorem dX11_order_10 : decode cX11_order 10 = .ok (.ireturn, 1) := by decide +kernel
theorem dX11_order_11 : decode cX11_order 11 = .ok (.iload_n 1, 1) := by decide +kernel
theorem dX11_order_12 : decode cX11_order 12 = .ok (.iconst 1, 1) := by decide +kernel
theorem dX11_order_13 : decode cX11_order 13 = .ok (.bipush 20, 2) := by decide +kernel
theorem dX11_order_15 : decode cX11_order 15 = .ok (.invokestatic 92, 3) := by decide +kernel
theorem dX11_order_18 : decode cX11_order 18 = .ok (.ifCond .ne 6, 3) := by decide +kernel
theorem dX11_order_21 : decode cX11_order 21 = .ok (.bipush (-2), 2) := by decide +kernel
theorem dX11_order_23 : decode cX11_order 23 = .ok (.ireturn, 1) := by decide +kernel
theorem dX11_order_24 : decode cX11_order 24 = .ok (.iconst 0, 1) := by decide +kernel
theorem dX11_order_25 : decode cX11_order 25 = .ok (.istore_n 3, 1) := by decide +kernel
theorem dX11_order_26 : decode cX11_order 26 = .ok (.bipush 8, 2) := by decide +kernel
theorem dX11_order_28 : decode cX11_order 28 = .ok (.istore 4, 2) := by decide +kernel
theorem dX11_order_30 : decode cX11_order 30 = .ok (.iconst 0, 1) := by decide +kernel
theorem dX11_order_31 : decode cX11_order 31 = .ok (.istore 5, 2) := by decide +kernel
theorem dX11_order_33 : decode cX11_order 33 = .ok (.iload 5, 2) := by decide +kernel
theorem dX11_order_35 : decode cX11_order 35 = .ok (.sipush 256, 3) := by decide +kernel
theorem dX11_order_38 : decode cX11_order 38 = .ok (.if_icmp .ge 110, 3) := by decide +kernel
theorem dX11_order_41 : decode cX11_order 41 = .ok (.iload 5, 2) := by decide +kernel
theorem dX11_order_43 : decode cX11_order 43 = .ok (.invokestatic 197, 3) := by decide +kernel
theorem dX11_order_46 : decode cX11_order 46 = .ok (.ifCond .ne 6, 3) := by decide +kernel
theorem dX11_order_49 : decode cX11_order 49 = .ok (.goto 93, 3) := by decide +kernel
theorem dX11_order_52 : decode cX11_order 52 = .ok (.aload_n 0, 1) := by decide +kernel
theorem dX11_order_53 : decode cX11_order 53 = .ok (.getfield 58, 3) := by decide +kernel
theorem dX11_order_56 : decode cX11_order 56 = .ok (.aload_n 0, 1) := by decide +kernel
theorem dX11_order_57 : decode cX11_order 57 = .ok (.getfield 54, 3) := by decide +kernel
theorem dX11_order_60 : decode cX11_order 60 = .ok (.invokevirtual 182, 3) := by decide +kernel
theorem dX11_order_63 : decode cX11_order 63 = .ok (.iconst 0, 1) := by decide +kernel
theorem dX11_order_64 : decode cX11_order 64 = .ok (.istore 6, 2) := by decide +kernel
theorem dX11_order_66 : decode cX11_order 66 = .ok (.iload 6, 2) := by decide +kernel
theorem dX11_order_68 : decode cX11_order 68 = .ok (.iconst 4, 1) := by decide +kernel
theorem dX11_order_69 : decode cX11_order 69 = .ok (.if_icmp .ge 34, 3) := by decide +kernel
theorem dX11_order_72 : decode cX11_order 72 = .ok (.aload_n 0, 1) := by decide +kernel
theorem dX11_order_73 : decode cX11_order 73 = .ok (.getfield 58, 3) := by decide +kernel
theorem dX11_order_76 : decode cX11_order 76 = .ok (.getfield 153, 3) := by decide +kernel
theorem dX11_order_79 : decode cX11_order 79 = .ok (.iload 6, 2) := by decide +kernel
theorem dX11_order_81 : decode cX11_order 81 = .ok (.aload_n 0, 1) := by decide +kernel
theorem dX11_order_82 : decode cX11_order 82 = .ok (.getfield 54, 3) := by decide +kernel
theorem dX11_order_85 : decode cX11_order 85 = .ok (.getfield 153, 3) := by decide +kernel
theorem dX11_order_88 : decode cX11_order 88 = .ok (.iload 5, 2) := by decide +kernel
theorem dX11_order_90 : decode cX11_order 90 = .ok (.iload 6, 2) := by decide +kernel
theorem dX11_order_92 : decode cX11_order 92 = .ok (.invokestatic 200, 3) := by decide +kernel
theorem dX11_order_95 : decode cX11_order 95 = .ok (.iaload, 1) := by decide +kernel
theorem dX11_order_96 : decode cX11_order 96 = .ok (.iastore, 1) := by decide +kernel
theorem dX11_order_97 : decode cX11_order 97 = .ok (.iinc 6 1, 3) := by decide +kernel
theorem dX11_order_100 : decode cX11_order 100 = .ok (.goto (-34), 3) := by decide +kernel
theorem dX11_order_103 : decode cX11_order 103 = .ok (.aload_n 0, 1) := by decide +kernel
theorem dX11_order_104 : decode cX11_order 104 = .ok (.getfield 69, 3) := by decide +kernel
theorem dX11_order_107 : decode cX11_order 107 = .ok (.aload_n 0, 1) := by decide +kernel
theorem dX11_order_108 : decode cX11_order 108 = .ok (.getfield 58, 3) := by decide +kernel
theorem dX11_order_111 : decode cX11_order 111 = .ok (.iload_n 1, 1) := by decide +kernel
theorem dX11_order_112 : decode cX11_order 112 = .ok (.invokevirtual 178, 3) := by decide +kernel
theorem dX11_order_115 : decode cX11_order 115 = .ok (.pop, 1) := by decide +kernel
theorem dX11_order_116 : decode cX11_order 116 = .ok (.aload_n 0, 1) := by decide +kernel
theorem dX11_order_117 : decode cX11_order 117 = .ok (.getfield 58, 3) := by decide +kernel
theorem dX11_order_120 : decode cX11_order 120 = .ok (.getfield 175, 3) := by decide +kernel
theorem dX11_order_123 : decode cX11_order 123 = .ok (.invokestatic 185, 3) := by decide +kernel
theorem dX11_order_126 : decode cX11_order 126 = .ok (.istore 6, 2) := by decide +kernel
theorem dX11_order_128 : decode cX11_order 128 = .ok (.iload 6, 2) := by decide +kernel
theorem dX11_order_130 : decode cX11_order 130 = .ok (.iload 4, 2) := by decide +kernel
theorem dX11_order_132 : decode cX11_order 132 = .ok (.if_icmp .ge 10, 3) := by decide +kernel
theorem dX11_order_135 : decode cX11_order 135 = .ok (.iload 6, 2) := by decide +kernel
theorem dX11_order_137 : decode cX11_order 137 = .ok (.istore 4, 2) := by decide +kernel
theorem dX11_order_139 : decode cX11_order 139 = .ok (.iload 5, 2) := by decide +kernel
theorem dX11_order_141 : decode cX11_order 141 = .ok (.istore_n 3, 1) := by decide +kernel
theorem dX11_order_142 : decode cX11_order 142 = .ok (.iinc 5 1, 3) := by decide +kernel
theorem dX11_order_145 : decode cX11_order 145 = .ok (.goto (-112), 3) := by decide +kernel
theorem dX11_order_148 : decode cX11_order 148 = .ok (.iload_n 2, 1) := by decide +kernel
theorem dX11_order_149 : decode cX11_order 149 = .ok (.ifCond .ge 8, 3) := by decide +kernel
theorem dX11_order_152 : decode cX11_order 152 = .ok (.iload 4, 2) := by decide +kernel
theorem dX11_order_154 : decode cX11_order 154 = .ok (.goto 16, 3) := by decide +kernel
theorem dX11_order_157 : decode cX11_order 157 = .ok (.aload_n 0, 1) := by decide +kernel
theorem dX11_order_158 : decode cX11_order 158 = .ok (.getfield 54, 3) := by decide +kernel
theorem dX11_order_161 : decode cX11_order 161 = .ok (.getfield 153, 3) := by decide +kernel
theorem dX11_order_164 : decode cX11_order 164 = .ok (.iload_n 3, 1) := by decide +kernel
theorem dX11_order_165 : decode cX11_order 165 = .ok (.iload_n 2, 1) := by decide +kernel
theorem dX11_order_166 : decode cX11_order 166 = .ok (.invokestatic 200, 3) := by decide +kernel
theorem dX11_order_169 : decode cX11_order 169 = .ok (.iaload, 1) := by decide +kernel
theorem dX11_order_170 : decode cX11_order 170 = .ok (.ireturn, 1) := by decide +kernel
theorem dX11_look_0 : decode cX11_look 0 = .ok (.iload_n 1, 1) := by decide +kernel
theorem dX11_look_1 : decode cX11_look 1 = .ok (.iconst 1, 1) := by decide +kernel
theorem dX11_look_2 : decode cX11_look 2 = .ok (.bipush 20, 2) := by decide +kernel
theorem dX11_look_4 : decode cX11_look 4 = .ok (.invokestatic 92, 3) := by decide +kernel
theorem dX11_look_7 : decode cX11_look 7 = .ok (.ifCond .ne 6, 3) := by decide +kernel
theorem dX11_look_10 : decode cX11_look 10 = .ok (.bipush (-2), 2) := by decide +kernel
theorem dX11_look_12 : decode cX11_look 12 = .ok (.ireturn, 1) := by decide +kernel
theorem dX11_look_13 : decode cX11_look 13 = .ok (.iconst 0, 1) := by decide +kernel
theorem dX11_look_14 : decode cX11_look 14 = .ok (.istore_n 2, 1) := by decide +kernel
theorem dX11_look_15 : decode cX11_look 15 = .ok (.iload_n 2, 1) := by decide +kernel
theorem dX11_look_16 : decode cX11_look 16 = .ok (.bipush 9, 2) := by decide +kernel
theorem dX11_look_18 : decode cX11_look 18 = .ok (.if_icmp .gt 66, 3) := by decide +kernel
theorem dX11_look_21 : decode cX11_look 21 = .ok (.aload_n 0, 1) := by decide +kernel
theorem dX11_look_22 : decode cX11_look 22 = .ok (.getfield 58, 3) := by decide +kernel
theorem dX11_look_25 : decode cX11_look 25 = .ok (.aload_n 0, 1) := by decide +kernel
theorem dX11_look_26 : decode cX11_look 26 = .ok (.getfield 54, 3) := by decide +kernel
theorem dX11_look_29 : decode cX11_look 29 = .ok (.invokevirtual 182, 3) := by decide +kernel
theorem dX11_look_32 : decode cX11_look 32 = .ok (.iconst 0, 1) := by decide +kernel
theorem dX11_look_33 : decode cX11_look 33 = .ok (.istore_n 3, 1) := by decide +kernel
theorem dX11_look_34 : decode cX11_look 34 = .ok (.iload_n 3, 1) := by decide +kernel
theorem dX11_look_35 : decode cX11_look 35 = .ok (.iload_n 1, 1) := by decide +kernel
theorem dX11_look_36 : decode cX11_look 36 = .ok (.if_icmp .ge 23, 3) := by decide +kernel
theorem dX11_look_39 : decode cX11_look 39 = .ok (.aload_n 0, 1) := by decide +kernel
theorem dX11_look_40 : decode cX11_look 40 = .ok (.getfield 69, 3) := by decide +kernel
theorem dX11_look_43 : decode cX11_look 43 = .ok (.aload_n 0, 1) := by decide +kernel
theorem dX11_look_44 : decode cX11_look 44 = .ok (.getfield 58, 3) := by decide +kernel
theorem dX11_look_47 : decode cX11_look 47 = .ok (.iload_n 2, 1) := by decide +kernel
theorem dX11_look_48 : decode cX11_look 48 = .ok (.iconst (-1), 1) := by decide +kernel
theorem dX11_look_49 : decode cX11_look 49 = .ok (.invokevirtual 203, 3) := by decide +kernel
theorem dX11_look_52 : decode cX11_look 52 = .ok (.pop, 1) := by decide +kernel
theorem dX11_look_53 : decode cX11_look 53 = .ok (.iinc 3 1, 3) := by decide +kernel
theorem dX11_look_56 : decode cX11_look 56 = .ok (.goto (-22), 3) := by decide +kernel
theorem dX11_look_59 : decode cX11_look 59 = .ok (.aload_n 0, 1) := by decide +kernel
theorem dX11_look_60 : decode cX11_look 60 = .ok (.getfield 58, 3) := by decide +kernel
theorem dX11_look_63 : decode cX11_look 63 = .ok (.getfield 175, 3) := by decide +kernel
theorem dX11_look_66 : decode cX11_look 66 = .ok (.aload_n 0, 1) := by decide +kernel
theorem dX11_look_67 : decode cX11_look 67 = .ok (.getfield 54, 3) := by decide +kernel
theorem dX11_look_70 : decode cX11_look 70 = .ok (.getfield 175, 3) := by decide +kernel
theorem dX11_look_73 : decode cX11_look 73 = .ok (.if_icmp .ne 5, 3) := by decide +kernel
theorem dX11_look_76 : decode cX11_look 76 = .ok (.iload_n 2, 1) := by decide +kernel
theorem dX11_look_77 : decode cX11_look 77 = .ok (.ireturn, 1) := by decide +kernel
theorem dX11_look_78 : decode cX11_look 78 = .ok (.iinc 2 1, 3) := by decide +kernel
theorem dX11_look_81 : decode cX11_look 81 = .ok (.goto (-66), 3) := by decide +kernel
theorem dX11_look_84 : decode cX11_look 84 = .ok (.bipush (-5), 2) := by decide +kernel
theorem dX11_look_86 : decode cX11_look 86 = .ok (.ireturn, 1) := by decide +kernel
theorem dX11_needs_0 : decode cX11_needs 0 = .ok (.aload_n 0, 1) := by decide +kernel
theorem dX11_needs_1 : decode cX11_needs 1 = .ok (.getfield 54, 3) := by decide +kernel
theorem dX11_needs_4 : decode cX11_needs 4 = .ok (.iload_n 1, 1) := by decide +kernel
theorem dX11_needs_5 : decode cX11_needs 5 = .ok (.invokevirtual 104, 3) := by decide +kernel
theorem dX11_needs_8 : decode cX11_needs 8 = .ok (.ifCond .ne 5, 3) := by decide +kernel
theorem dX11_needs_11 : decode cX11_needs 11 = .ok (.iconst (-1), 1) := by decide +kernel
theorem dX11_needs_12 : decode cX11_needs 12 = .ok (.ireturn, 1) := by decide +kernel
theorem dX11_needs_13 : decode cX11_needs 13 = .ok (.iload_n 2, 1) := by decide +kernel
theorem dX11_needs_14 : decode cX11_needs 14 = .ok (.iconst 1, 1) := by decide +kernel
theorem dX11_needs_15 : decode cX11_needs 15 = .ok (.bipush 8, 2) := by decide +kernel
theorem dX11_needs_17 : decode cX11_needs 17 = .ok (.invokestatic 92, 3) := by decide +kernel
theorem dX11_needs_20 : decode cX11_needs 20 = .ok (.ifCond .ne 6, 3) := by decide +kernel
theorem dX11_needs_23 : decode cX11_needs 23 = .ok (.bipush (-2), 2) := by decide +kernel
theorem dX11_needs_25 : decode cX11_needs 25 = .ok (.ireturn, 1) := by decide +kernel
theorem dX11_needs_26 : decode cX11_needs 26 = .ok (.iconst 0, 1) := by decide +kernel
theorem dX11_needs_27 : decode cX11_needs 27 = .ok (.istore_n 3, 1) := by decide +kernel
theorem dX11_needs_28 : decode cX11_needs 28 = .ok (.iload_n 3, 1) := by decide +kernel
theorem dX11_needs_29 : decode cX11_needs 29 = .ok (.aload_n 0, 1) := by decide +kernel
theorem dX11_needs_30 : decode cX11_needs 30 = .ok (.getfield 54, 3) := by decide +kernel
theorem dX11_needs_33 : decode cX11_needs 33 = .ok (.getfield 139, 3) := by decide +kernel
theorem dX11_needs_36 : decode cX11_needs 36 = .ok (.getfield 143, 3) := by decide +kernel
theorem dX11_needs_39 : decode cX11_needs 39 = .ok (.if_icmp .ge 55, 3) := by decide +kernel
theorem dX11_needs_42 : decode cX11_needs 42 = .ok (.aload_n 0, 1) := by decide +kernel
theorem dX11_needs_43 : decode cX11_needs 43 = .ok (.getfield 58, 3) := by decide +kernel
theorem dX11_needs_46 : decode cX11_needs 46 = .ok (.aload_n 0, 1) := by decide +kernel
theorem dX11_needs_47 : decode cX11_needs 47 = .ok (.getfield 54, 3) := by decide +kernel
theorem dX11_needs_50 : decode cX11_needs 50 = .ok (.invokevirtual 182, 3) := by decide +kernel
theorem dX11_needs_53 : decode cX11_needs 53 = .ok (.aload_n 0, 1) := by decide +kernel
theorem dX11_needs_54 : decode cX11_needs 54 = .ok (.getfield 58, 3) := by decide +kernel
theorem dX11_needs_57 : decode cX11_needs 57 = .ok (.iload_n 1, 1) := by decide +kernel
theorem dX11_needs_58 : decode cX11_needs 58 = .ok (.iload_n 3, 1) := by decide +kernel
theorem dX11_needs_59 : decode cX11_needs 59 = .ok (.invokevirtual 146, 3) := by decide +kernel
theorem dX11_needs_62 : decode cX11_needs 62 = .ok (.aload_n 0, 1) := by decide +kernel
theorem dX11_needs_63 : decode cX11_needs 63 = .ok (.getfield 69, 3) := by decide +kernel
theorem dX11_needs_66 : decode cX11_needs 66 = .ok (.aload_n 0, 1) := by decide +kernel
theorem dX11_needs_67 : decode cX11_needs 67 = .ok (.getfield 58, 3) := by decide +kernel
theorem dX11_needs_70 : decode cX11_needs 70 = .ok (.iload_n 2, 1) := by decide +kernel
theorem dX11_needs_71 : decode cX11_needs 71 = .ok (.invokevirtual 178, 3) := by decide +kernel
theorem dX11_needs_74 : decode cX11_needs 74 = .ok (.pop, 1) := by decide +kernel
theorem dX11_needs_75 : decode cX11_needs 75 = .ok (.aload_n 0, 1) := by decide +kernel
theorem dX11_needs_76 : decode cX11_needs 76 = .ok (.getfield 58, 3) := by decide +kernel
theorem dX11_needs_79 : decode cX11_needs 79 = .ok (.iload_n 1, 1) := by decide +kernel
theorem dX11_needs_80 : decode cX11_needs 80 = .ok (.invokevirtual 127, 3) := by decide +kernel
theorem dX11_needs_83 : decode cX11_needs 83 = .ok (.ifCond .eq 5, 3) := by decide +kernel
theorem dX11_needs_86 : decode cX11_needs 86 = .ok (.iload_n 3, 1) := by decide +kernel
theorem dX11_needs_87 : decode cX11_needs 87 = .ok (.ireturn, 1) := by decide +kernel
theorem dX11_needs_88 : decode cX11_needs 88 = .ok (.iinc 3 1, 3) := by decide +kernel
theorem dX11_needs_91 : decode cX11_needs 91 = .ok (.goto (-63), 3) := by decide +kernel
theorem dX11_needs_94 : decode cX11_needs 94 = .ok (.bipush (-5), 2) := by decide +kernel
theorem dX11_needs_96 : decode cX11_needs 96 = .ok (.ireturn, 1) := by decide +kernel
theorem dX11_held_0 : decode cX11_held 0 = .ok (.aload_n 0, 1) := by decide +kernel
theorem dX11_held_1 : decode cX11_held 1 = .ok (.getfield 54, 3) := by decide +kernel
theorem dX11_held_4 : decode cX11_held 4 = .ok (.iload_n 1, 1) := by decide +kernel
theorem dX11_held_5 : decode cX11_held 5 = .ok (.invokevirtual 104, 3) := by decide +kernel
theorem dX11_held_8 : decode cX11_held 8 = .ok (.ifCond .ne 5, 3) := by decide +kernel
theorem dX11_held_11 : decode cX11_held 11 = .ok (.iconst (-1), 1) := by decide +kernel
theorem dX11_held_12 : decode cX11_held 12 = .ok (.ireturn, 1) := by decide +kernel
theorem dX11_held_13 : decode cX11_held 13 = .ok (.iload_n 2, 1) := by decide +kernel
theorem dX11_held_14 : decode cX11_held 14 = .ok (.iconst 1, 1) := by decide +kernel
theorem dX11_held_15 : decode cX11_held 15 = .ok (.bipush 20, 2) := by decide +kernel
theorem dX11_held_17 : decode cX11_held 17 = .ok (.invokestatic 92, 3) := by decide +kernel
theorem dX11_held_20 : decode cX11_held 20 = .ok (.ifCond .ne 6, 3) := by decide +kernel
theorem dX11_held_23 : decode cX11_held 23 = .ok (.bipush (-2), 2) := by decide +kernel
theorem dX11_held_25 : decode cX11_held 25 = .ok (.ireturn, 1) := by decide +kernel
theorem dX11_held_26 : decode cX11_held 26 = .ok (.iconst 0, 1) := by decide +kernel
theorem dX11_held_27 : decode cX11_held 27 = .ok (.istore_n 3, 1) := by decide +kernel
theorem dX11_held_28 : decode cX11_held 28 = .ok (.iconst (-1), 1) := by decide +kernel
theorem dX11_held_29 : decode cX11_held 29 = .ok (.istore 4, 2) := by decide +kernel
theorem dX11_held_31 : decode cX11_held 31 = .ok (.iconst 0, 1) := by decide +kernel
theorem dX11_held_32 : decode cX11_held 32 = .ok (.istore 5, 2) := by decide +kernel
theorem dX11_held_34 : decode cX11_held 34 = .ok (.iload 5, 2) := by decide +kernel
theorem dX11_held_36 : decode cX11_held 36 = .ok (.iload_n 2, 1) := by decide +kernel
theorem dX11_held_37 : decode cX11_held 37 = .ok (.if_icmp .gt 97, 3) := by decide +kernel
theorem dX11_held_40 : decode cX11_held 40 = .ok (.aload_n 0, 1) := by decide +kernel
theorem dX11_held_41 : decode cX11_held 41 = .ok (.getfield 58, 3) := by decide +kernel
theorem dX11_held_44 : decode cX11_held 44 = .ok (.aload_n 0, 1) := by decide +kernel
theorem dX11_held_45 : decode cX11_held 45 = .ok (.getfield 54, 3) := by decide +kernel
theorem dX11_held_48 : decode cX11_held 48 = .ok (.invokevirtual 182, 3) := by decide +kernel
theorem dX11_held_51 : decode cX11_held 51 = .ok (.iconst 0, 1) := by decide +kernel
theorem dX11_held_52 : decode cX11_held 52 = .ok (.istore 6, 2) := by decide +kernel
theorem dX11_held_54 : decode cX11_held 54 = .ok (.iload 6, 2) := by decide +kernel
theorem dX11_held_56 : decode cX11_held 56 = .ok (.iload_n 2, 1) := by decide +kernel
theorem dX11_held_57 : decode cX11_held 57 = .ok (.if_icmp .ge 43, 3) := by decide +kernel
theorem dX11_held_60 : decode cX11_held 60 = .ok (.aload_n 0, 1) := by decide +kernel
theorem dX11_held_61 : decode cX11_held 61 = .ok (.getfield 69, 3) := by decide +kernel
theorem dX11_held_64 : decode cX11_held 64 = .ok (.aload_n 0, 1) := by decide +kernel
theorem dX11_held_65 : decode cX11_held 65 = .ok (.getfield 58, 3) := by decide +kernel
theorem dX11_held_68 : decode cX11_held 68 = .ok (.aload_n 0, 1) := by decide +kernel
theorem dX11_held_69 : decode cX11_held 69 = .ok (.getfield 58, 3) := by decide +kernel
theorem dX11_held_72 : decode cX11_held 72 = .ok (.getfield 139, 3) := by decide +kernel
theorem dX11_held_75 : decode cX11_held 75 = .ok (.getfield 172, 3) := by decide +kernel
theorem dX11_held_78 : decode cX11_held 78 = .ok (.iload 6, 2) := by decide +kernel
theorem dX11_held_80 : decode cX11_held 80 = .ok (.iload 5, 2) := by decide +kernel
theorem dX11_held_82 : decode cX11_held 82 = .ok (.if_icmp .ge 7, 3) := by decide +kernel
theorem dX11_held_85 : decode cX11_held 85 = .ok (.iload_n 1, 1) := by decide +kernel
theorem dX11_held_86 : decode cX11_held 86 = .ok (.goto 4, 3) := by decide +kernel
theorem dX11_held_89 : decode cX11_held 89 = .ok (.iconst (-1), 1) := by decide +kernel
theorem dX11_held_90 : decode cX11_held 90 = .ok (.invokevirtual 203, 3) := by decide +kernel
theorem dX11_held_93 : decode cX11_held 93 = .ok (.pop, 1) := by decide +kernel
theorem dX11_held_94 : decode cX11_held 94 = .ok (.iinc 6 1, 3) := by decide +kernel
theorem dX11_held_97 : decode cX11_held 97 = .ok (.goto (-43), 3) := by decide +kernel
theorem dX11_held_100 : decode cX11_held 100 = .ok (.aload_n 0, 1) := by decide +kernel
theorem dX11_held_101 : decode cX11_held 101 = .ok (.getfield 58, 3) := by decide +kernel
theorem dX11_held_104 : decode cX11_held 104 = .ok (.getfield 118, 3) := by decide +kernel
theorem dX11_held_107 : decode cX11_held 107 = .ok (.iload_n 1, 1) := by decide +kernel
theorem dX11_held_108 : decode cX11_held 108 = .ok (.iaload, 1) := by decide +kernel
theorem dX11_held_109 : decode cX11_held 109 = .ok (.iload 4, 2) := by decide +kernel
theorem dX11_held_111 : decode cX11_held 111 = .ok (.if_icmp .le 17, 3) := by decide +kernel
theorem dX11_held_114 : decode cX11_held 114 = .ok (.aload_n 0, 1) := by decide +kernel
theorem dX11_held_115 : decode cX11_held 115 = .ok (.getfield 58, 3) := by decide +kernel
theorem dX11_held_118 : decode cX11_held 118 = .ok (.getfield 118, 3) := by decide +kernel
theorem dX11_held_121 : decode cX11_held 121 = .ok (.iload_n 1, 1) := by decide +kernel
theorem dX11_held_122 : decode cX11_held 122 = .ok (.iaload, 1) := by decide +kernel
theorem dX11_held_123 : decode cX11_held 123 = .ok (.istore 4, 2) := by decide +kernel
theorem dX11_held_125 : decode cX11_held 125 = .ok (.iload 5, 2) := by decide +kernel
theorem dX11_held_127 : decode cX11_held 127 = .ok (.istore_n 3, 1) := by decide +kernel
theorem dX11_held_128 : decode cX11_held 128 = .ok (.iinc 5 1, 3) := by decide +kernel
theorem dX11_held_131 : decode cX11_held 131 = .ok (.goto (-97), 3) := by decide +kernel
theorem dX11_held_134 : decode cX11_held 134 = .ok (.iload_n 3, 1) := by decide +kernel
theorem dX11_held_135 : decode cX11_held 135 = .ok (.ireturn, 1) := by decide +kernel
theorem dX11_shield_0 : decode cX11_shield 0 = .ok (.aload_n 0, 1) := by decide +kernel
theorem dX11_shield_1 : decode cX11_shield 1 = .ok (.getfield 54, 3) := by decide +kernel
theorem dX11_shield_4 : decode cX11_shield 4 = .ok (.iload_n 1, 1) := by decide +kernel
theorem dX11_shield_5 : decode cX11_shield 5 = .ok (.invokevirtual 104, 3) := by decide +kernel
theorem dX11_shield_8 : decode cX11_shield 8 = .ok (.ifCond .eq 14, 3) := by decide +kernel
theorem dX11_shield_11 : decode cX11_shield 11 = .ok (.aload_n 0, 1) := by decide +kernel
theorem dX11_shield_12 : decode cX11_shield 12 = .ok (.getfield 54, 3) := by decide +kernel
theorem dX11_shield_15 : decode cX11_shield 15 = .ok (.iload_n 2, 1) := by decide +kernel
theorem dX11_shield_16 : decode cX11_shield 16 = .ok (.invokevirtual 104, 3) := by decide +kernel
theorem dX11_shield_19 : decode cX11_shield 19 = .ok (.ifCond .ne 7, 3) := by decide +kernel
theorem dX11_shield_22 : decode cX11_shield 22 = .ok (.sipush (-1001), 3) := by decide +kernel
theorem dX11_shield_25 : decode cX11_shield 25 = .ok (.ireturn, 1) := by decide +kernel
theorem dX11_shield_26 : decode cX11_shield 26 = .ok (.iload_n 1, 1) := by decide +kernel
theorem dX11_shield_27 : decode cX11_shield 27 = .ok (.iload_n 2, 1) := by decide +kernel
theorem dX11_shield_28 : decode cX11_shield 28 = .ok (.if_icmp .eq 13, 3) := by decide +kernel
theorem dX11_shield_31 : decode cX11_shield 31 = .ok (.iload_n 3, 1) := by decide +kernel
theorem dX11_shield_32 : decode cX11_shield 32 = .ok (.iconst 1, 1) := by decide +kernel
theorem dX11_shield_33 : decode cX11_shield 33 = .ok (.bipush 20, 2) := by decide +kernel
theorem dX11_shield_35 : decode cX11_shield 35 = .ok (.invokestatic 92, 3) := by decide +kernel
theorem dX11_shield_38 : decode cX11_shield 38 = .ok (.ifCond .ne 7, 3) := by decide +kernel
theorem dX11_shield_41 : decode cX11_shield 41 = .ok (.sipush (-1002), 3) := by decide +kernel
theorem dX11_shield_44 : decode cX11_shield 44 = .ok (.ireturn, 1) := by decide +kernel
theorem dX11_shield_45 : decode cX11_shield 45 = .ok (.aload_n 0, 1) := by decide +kernel
theorem dX11_shield_46 : decode cX11_shield 46 = .ok (.getfield 58, 3) := by decide +kernel
theorem dX11_shield_49 : decode cX11_shield 49 = .ok (.aload_n 0, 1) := by decide +kernel
theorem dX11_shield_50 : decode cX11_shield 50 = .ok (.getfield 54, 3) := by decide +kernel
theorem dX11_shield_53 : decode cX11_shield 53 = .ok (.invokevirtual 182, 3) := by decide +kernel
theorem dX11_shield_56 : decode cX11_shield 56 = .ok (.aload_n 0, 1) := by decide +kernel
theorem dX11_shield_57 : decode cX11_shield 57 = .ok (.getfield 69, 3) := by decide +kernel
theorem dX11_shield_60 : decode cX11_shield 60 = .ok (.aload_n 0, 1) := by decide +kernel
theorem dX11_shield_61 : decode cX11_shield 61 = .ok (.getfield 58, 3) := by decide +kernel
theorem dX11_shield_64 : decode cX11_shield 64 = .ok (.iload_n 3, 1) := by decide +kernel
theorem dX11_shield_65 : decode cX11_shield 65 = .ok (.invokevirtual 178, 3) := by decide +kernel
theorem dX11_shield_68 : decode cX11_shield 68 = .ok (.pop, 1) := by decide +kernel
theorem dX11_shield_69 : decode cX11_shield 69 = .ok (.aload_n 0, 1) := by decide +kernel
theorem dX11_shield_70 : decode cX11_shield 70 = .ok (.getfield 58, 3) := by decide +kernel
theorem dX11_shield_73 : decode cX11_shield 73 = .ok (.getfield 118, 3) := by decide +kernel
theorem dX11_shield_76 : decode cX11_shield 76 = .ok (.iload_n 1, 1) := by decide +kernel
theorem dX11_shield_77 : decode cX11_shield 77 = .ok (.iaload, 1) := by decide +kernel
theorem dX11_shield_78 : decode cX11_shield 78 = .ok (.istore 4, 2) := by decide +kernel
theorem dX11_shield_80 : decode cX11_shield 80 = .ok (.aload_n 0, 1) := by decide +kernel
theorem dX11_shield_81 : decode cX11_shield 81 = .ok (.getfield 58, 3) := by decide +kernel
theorem dX11_shield_84 : decode cX11_shield 84 = .ok (.aload_n 0, 1) := by decide +kernel
theorem dX11_shield_85 : decode cX11_shield 85 = .ok (.getfield 54, 3) := by decide +kernel
theorem dX11_shield_88 : decode cX11_shield 88 = .ok (.invokevirtual 182, 3) := by decide +kernel
theorem dX11_shield_91 : decode cX11_shield 91 = .ok (.aload_n 0, 1) := by decide +kernel
theorem dX11_shield_92 : decode cX11_shield 92 = .ok (.getfield 58, 3) := by decide +kernel
theorem dX11_shield_95 : decode cX11_shield 95 = .ok (.dup, 1) := by decide +kernel
theorem dX11_shield_96 : decode cX11_shield 96 = .ok (.getfield 175, 3) := by decide +kernel
theorem dX11_shield_99 : decode cX11_shield 99 = .ok (.iconst 1, 1) := by decide +kernel
theorem dX11_shield_100 : decode cX11_shield 100 = .ok (.iload_n 2, 1) := by decide +kernel
theorem dX11_shield_101 : decode cX11_shield 101 = .ok (.ishl, 1) := by decide +kernel
theorem dX11_shield_102 : decode cX11_shield 102 = .ok (.ior, 1) := by decide +kernel
theorem dX11_shield_103 : decode cX11_shield 103 = .ok (.putfield 175, 3) := by decide +kernel
theorem dX11_shield_106 : decode cX11_shield 106 = .ok (.aload_n 0, 1) := by decide +kernel
theorem dX11_shield_107 : decode cX11_shield 107 = .ok (.getfield 69, 3) := by decide +kernel
theorem dX11_shield_110 : decode cX11_shield 110 = .ok (.aload_n 0, 1) := by decide +kernel
theorem dX11_shield_111 : decode cX11_shield 111 = .ok (.getfield 58, 3) := by decide +kernel
theorem dX11_shield_114 : decode cX11_shield 114 = .ok (.iload_n 3, 1) := by decide +kernel
theorem dX11_shield_115 : decode cX11_shield 115 = .ok (.invokevirtual 178, 3) := by decide +kernel
theorem dX11_shield_118 : decode cX11_shield 118 = .ok (.pop, 1) := by decide +kernel
theorem dX11_shield_119 : decode cX11_shield 119 = .ok (.iload 4, 2) := by decide +kernel
theorem dX11_shield_121 : decode cX11_shield 121 = .ok (.aload_n 0, 1) := by decide +kernel
theorem dX11_shield_122 : decode cX11_shield 122 = .ok (.getfield 58, 3) := by decide +kernel
theorem dX11_shield_125 : decode cX11_shield 125 = .ok (.getfield 118, 3) := by decide +kernel
theorem dX11_shield_128 : decode cX11_shield 128 = .ok (.iload_n 1, 1) := by decide +kernel
theorem dX11_shield_129 : decode cX11_shield 129 = .ok (.iaload, 1) := by decide +kernel
theorem dX11_shield_130 : decode cX11_shield 130 = .ok (.isub, 1) := by decide +kernel
theorem dX11_shield_131 : decode cX11_shield 131 = .ok (.ireturn, 1) := by decide +kernel
theorem dX11_see_0 : decode cX11_see 0 = .ok (.iload_n 1, 1) := by decide +kernel
theorem dX11_see_1 : decode cX11_see 1 = .ok (.iconst (-1), 1) := by decide +kernel
theorem dX11_see_2 : decode cX11_see 2 = .ok (.if_icmp .ne 13, 3) := by decide +kernel
theorem dX11_see_5 : decode cX11_see 5 = .ok (.aload_n 0, 1) := by decide +kernel
theorem dX11_see_6 : decode cX11_see 6 = .ok (.getfield 54, 3) := by decide +kernel
theorem dX11_see_9 : decode cX11_see 9 = .ok (.iconst 0, 1) := by decide +kernel
theorem dX11_see_10 : decode cX11_see 10 = .ok (.putfield 207, 3) := by decide +kernel
theorem dX11_see_13 : decode cX11_see 13 = .ok (.iconst 0, 1) := by decide +kernel
theorem dX11_see_14 : decode cX11_see 14 = .ok (.ireturn, 1) := by decide +kernel
theorem dX11_see_15 : decode cX11_see 15 = .ok (.aload_n 0, 1) := by decide +kernel
theorem dX11_see_16 : decode cX11_see 16 = .ok (.getfield 54, 3) := by decide +kernel
theorem dX11_see_19 : decode cX11_see 19 = .ok (.iload_n 1, 1) := by decide +kernel
theorem dX11_see_20 : decode cX11_see 20 = .ok (.invokevirtual 104, 3) := by decide +kernel
theorem dX11_see_23 : decode cX11_see 23 = .ok (.ifCond .ne 5, 3) := by decide +kernel
theorem dX11_see_26 : decode cX11_see 26 = .ok (.iconst (-1), 1) := by decide +kernel
theorem dX11_see_27 : decode cX11_see 27 = .ok (.ireturn, 1) := by decide +kernel
theorem dX11_see_28 : decode cX11_see 28 = .ok (.iload_n 2, 1) := by decide +kernel
theorem dX11_see_29 : decode cX11_see 29 = .ok (.iconst 0, 1) := by decide +kernel
theorem dX11_see_30 : decode cX11_see 30 = .ok (.bipush 20, 2) := by decide +kernel
theorem dX11_see_32 : decode cX11_see 32 = .ok (.invokestatic 92, 3) := by decide +kernel
theorem dX11_see_35 : decode cX11_see 35 = .ok (.ifCond .eq 13, 3) := by decide +kernel
theorem dX11_see_38 : decode cX11_see 38 = .ok (.iload_n 3, 1) := by decide +kernel
theorem dX11_see_39 : decode cX11_see 39 = .ok (.iconst 0, 1) := by decide +kernel
theorem dX11_see_40 : decode cX11_see 40 = .ok (.bipush 99, 2) := by decide +kernel
theorem dX11_see_42 : decode cX11_see 42 = .ok (.invokestatic 92, 3) := by decide +kernel
theorem dX11_see_45 : decode cX11_see 45 = .ok (.ifCond .ne 6, 3) := by decide +kernel
theorem dX11_see_48 : decode cX11_see 48 = .ok (.bipush (-2), 2) := by decide +kernel
theorem dX11_see_50 : decode cX11_see 50 = .ok (.ireturn, 1) := by decide +kernel
theorem dX11_see_51 : decode cX11_see 51 = .ok (.aload_n 0, 1) := by decide +kernel
theorem dX11_see_52 : decode cX11_see 52 = .ok (.getfield 54, 3) := by decide +kernel
theorem dX11_see_55 : decode cX11_see 55 = .ok (.getfield 207, 3) := by decide +kernel
theorem dX11_see_58 : decode cX11_see 58 = .ok (.iconst 4, 1) := by decide +kernel
theorem dX11_see_59 : decode cX11_see 59 = .ok (.if_icmp .lt 6, 3) := by decide +kernel
theorem dX11_see_62 : decode cX11_see 62 = .ok (.bipush (-4), 2) := by decide +kernel
theorem dX11_see_64 : decode cX11_see 64 = .ok (.ireturn, 1) := by decide +kernel
theorem dX11_see_65 : decode cX11_see 65 = .ok (.aload_n 0, 1) := by decide +kernel
theorem dX11_see_66 : decode cX11_see 66 = .ok (.getfield 54, 3) := by decide +kernel
theorem dX11_see_69 : decode cX11_see 69 = .ok (.iload_n 1, 1) := by decide +kernel
theorem dX11_see_70 : decode cX11_see 70 = .ok (.iload_n 2, 1) := by decide +kernel
theorem dX11_see_71 : decode cX11_see 71 = .ok (.iload_n 3, 1) := by decide +kernel
theorem dX11_see_72 : decode cX11_see 72 = .ok (.invokevirtual 210, 3) := by decide +kernel
theorem dX11_see_75 : decode cX11_see 75 = .ok (.ireturn, 1) := by decide +kernel
theorem dX11_since_0 : decode cX11_since 0 = .ok (.iconst 0, 1) := by decide +kernel
theorem dX11_since_1 : decode cX11_since 1 = .ok (.istore_n 1, 1) := by decide +kernel
theorem dX11_since_2 : decode cX11_since 2 = .ok (.iconst 0, 1) := by decide +kernel
theorem dX11_since_3 : decode cX11_since 3 = .ok (.istore_n 2, 1) := by decide +kernel
theorem dX11_since_4 : decode cX11_since 4 = .ok (.iload_n 2, 1) := by decide +kernel
theorem dX11_since_5 : decode cX11_since 5 = .ok (.iconst 4, 1) := by decide +kernel
theorem dX11_since_6 : decode cX11_since 6 = .ok (.if_icmp .ge 46, 3) := by decide +kernel
theorem dX11_since_9 : decode cX11_since 9 = .ok (.aload_n 0, 1) := by decide +kernel
theorem dX11_since_10 : decode cX11_since 10 = .ok (.getfield 58, 3) := by decide +kernel
theorem dX11_since_13 : decode cX11_since 13 = .ok (.aload_n 0, 1) := by decide +kernel
theorem dX11_since_14 : decode cX11_since 14 = .ok (.getfield 54, 3) := by decide +kernel
theorem dX11_since_17 : decode cX11_since 17 = .ok (.invokevirtual 182, 3) := by decide +kernel
theorem dX11_since_20 : decode cX11_since 20 = .ok (.aload_n 0, 1) := by decide +kernel
theorem dX11_since_21 : decode cX11_since 21 = .ok (.getfield 58, 3) := by decide +kernel
theorem dX11_since_24 : decode cX11_since 24 = .ok (.dup, 1) := by decide +kernel
theorem dX11_since_25 : decode cX11_since 25 = .ok (.getfield 166, 3) := by decide +kernel
theorem dX11_since_28 : decode cX11_since 28 = .ok (.iload_n 2, 1) := by decide +kernel
theorem dX11_since_29 : decode cX11_since 29 = .ok (.iadd, 1) := by decide +kernel
theorem dX11_since_30 : decode cX11_since 30 = .ok (.putfield 166, 3) := by decide +kernel
theorem dX11_since_33 : decode cX11_since 33 = .ok (.aload_n 0, 1) := by decide +kernel
theorem dX11_since_34 : decode cX11_since 34 = .ok (.invokevirtual 214, 3) := by decide +kernel
theorem dX11_since_37 : decode cX11_since 37 = .ok (.ifCond .eq 9, 3) := by decide +kernel
theorem dX11_since_40 : decode cX11_since 40 = .ok (.iload_n 1, 1) := by decide +kernel
theorem dX11_since_41 : decode cX11_since 41 = .ok (.iconst 1, 1) := by decide +kernel
theorem dX11_since_42 : decode cX11_since 42 = .ok (.iload_n 2, 1) := by decide +kernel
theorem dX11_since_43 : decode cX11_since 43 = .ok (.ishl, 1) := by decide +kernel
theorem dX11_since_44 : decode cX11_since 44 = .ok (.ior, 1) := by decide +kernel
theorem dX11_since_45 : decode cX11_since 45 = .ok (.istore_n 1, 1) := by decide +kernel
theorem dX11_since_46 : decode cX11_since 46 = .ok (.iinc 2 1, 3) := by decide +kernel
theorem dX11_since_49 : decode cX11_since 49 = .ok (.goto (-45), 3) := by decide +kernel
theorem dX11_since_52 : decode cX11_since 52 = .ok (.iload_n 1, 1) := by decide +kernel
theorem dX11_since_53 : decode cX11_since 53 = .ok (.ireturn, 1) := by decide +kernel
theorem dX11_who_0 : decode cX11_who 0 = .ok (.iload_n 1, 1) := by decide +kernel
theorem dX11_who_1 : decode cX11_who 1 = .ok (.iconst 0, 1) := by decide +kernel
theorem dX11_who_2 : decode cX11_who 2 = .ok (.bipush 20, 2) := by decide +kernel
theorem dX11_who_4 : decode cX11_who 4 = .ok (.invokestatic 92, 3) := by decide +kernel
theorem dX11_who_7 : decode cX11_who 7 = .ok (.ifCond .eq 13, 3) := by decide +kernel
theorem dX11_who_10 : decode cX11_who 10 = .ok (.iload_n 2, 1) := by decide +kernel
theorem dX11_who_11 : decode cX11_who 11 = .ok (.iconst 0, 1) := by decide +kernel
theorem dX11_who_12 : decode cX11_who 12 = .ok (.bipush 99, 2) := by decide +kernel
theorem dX11_who_14 : decode cX11_who 14 = .ok (.invokestatic 92, 3) := by decide +kernel
theorem dX11_who_17 : decode cX11_who 17 = .ok (.ifCond .ne 6, 3) := by decide +kernel
theorem dX11_who_20 : decode cX11_who 20 = .ok (.bipush (-2), 2) := by decide +kernel
theorem dX11_who_22 : decode cX11_who 22 = .ok (.ireturn, 1) := by decide +kernel
theorem dX11_who_23 : decode cX11_who 23 = .ok (.aload_n 0, 1) := by decide +kernel
theorem dX11_who_24 : decode cX11_who 24 = .ok (.getfield 58, 3) := by decide +kernel
theorem dX11_who_27 : decode cX11_who 27 = .ok (.aload_n 0, 1) := by decide +kernel
theorem dX11_who_28 : decode cX11_who 28 = .ok (.getfield 54, 3) := by decide +kernel
theorem dX11_who_31 : decode cX11_who 31 = .ok (.invokevirtual 182, 3) := by decide +kernel
theorem dX11_who_34 : decode cX11_who 34 = .ok (.aload_n 0, 1) := by decide +kernel
theorem dX11_who_35 : decode cX11_who 35 = .ok (.getfield 69, 3) := by decide +kernel
theorem dX11_who_38 : decode cX11_who 38 = .ok (.aload_n 0, 1) := by decide +kernel
theorem dX11_who_39 : decode cX11_who 39 = .ok (.getfield 58, 3) := by decide +kernel
theorem dX11_who_42 : decode cX11_who 42 = .ok (.iload_n 1, 1) := by decide +kernel
theorem dX11_who_43 : decode cX11_who 43 = .ok (.invokevirtual 178, 3) := by decide +kernel
theorem dX11_who_46 : decode cX11_who 46 = .ok (.pop, 1) := by decide +kernel
theorem dX11_who_47 : decode cX11_who 47 = .ok (.iconst 0, 1) := by decide +kernel
theorem dX11_who_48 : decode cX11_who 48 = .ok (.istore_n 3, 1) := by decide +kernel
theorem dX11_who_49 : decode cX11_who 49 = .ok (.iconst 0, 1) := by decide +kernel
theorem dX11_who_50 : decode cX11_who 50 = .ok (.istore 4, 2) := by decide +kernel
theorem dX11_who_52 : decode cX11_who 52 = .ok (.iload 4, 2) := by decide +kernel
theorem dX11_who_54 : decode cX11_who 54 = .ok (.aload_n 0, 1) := by decide +kernel
theorem dX11_who_55 : decode cX11_who 55 = .ok (.getfield 58, 3) := by decide +kernel
theorem dX11_who_58 : decode cX11_who 58 = .ok (.getfield 96, 3) := by decide +kernel
theorem dX11_who_61 : decode cX11_who 61 = .ok (.if_icmp .ge 30, 3) := by decide +kernel
theorem dX11_who_64 : decode cX11_who 64 = .ok (.aload_n 0, 1) := by decide +kernel
theorem dX11_who_65 : decode cX11_who 65 = .ok (.getfield 58, 3) := by decide +kernel
theorem dX11_who_68 : decode cX11_who 68 = .ok (.getfield 118, 3) := by decide +kernel
theorem dX11_who_71 : decode cX11_who 71 = .ok (.iload 4, 2) := by decide +kernel
theorem dX11_who_73 : decode cX11_who 73 = .ok (.iaload, 1) := by decide +kernel
theorem dX11_who_74 : decode cX11_who 74 = .ok (.iload_n 2, 1) := by decide +kernel
theorem dX11_who_75 : decode cX11_who 75 = .ok (.if_icmp .ne 10, 3) := by decide +kernel
theorem dX11_who_78 : decode cX11_who 78 = .ok (.iload_n 3, 1) := by decide +kernel
theorem dX11_who_79 : decode cX11_who 79 = .ok (.iconst 1, 1) := by decide +kernel
theorem dX11_who_80 : decode cX11_who 80 = .ok (.iload 4, 2) := by decide +kernel
theorem dX11_who_82 : decode cX11_who 82 = .ok (.ishl, 1) := by decide +kernel
theorem dX11_who_83 : decode cX11_who 83 = .ok (.ior, 1) := by decide +kernel
theorem dX11_who_84 : decode cX11_who 84 = .ok (.istore_n 3, 1) := by decide +kernel
theorem dX11_who_85 : decode cX11_who 85 = .ok (.iinc 4 1, 3) := by decide +kernel
theorem dX11_who_88 : decode cX11_who 88 = .ok (.goto (-36), 3) := by decide +kernel
theorem dX11_who_91 : decode cX11_who 91 = .ok (.iload_n 3, 1) := by decide +kernel
theorem dX11_who_92 : decode cX11_who 92 = .ok (.ireturn, 1) := by decide +kernel
theorem dX11_odds_0 : decode cX11_odds 0 = .ok (.iload_n 1, 1) := by decide +kernel
theorem dX11_odds_1 : decode cX11_odds 1 = .ok (.iconst 1, 1) := by decide +kernel
theorem dX11_odds_2 : decode cX11_odds 2 = .ok (.bipush 20, 2) := by decide +kernel
theorem dX11_odds_4 : decode cX11_odds 4 = .ok (.invokestatic 92, 3) := by decide +kernel
theorem dX11_odds_7 : decode cX11_odds 7 = .ok (.ifCond .eq 12, 3) := by decide +kernel
theorem dX11_odds_10 : decode cX11_odds 10 = .ok (.iload_n 2, 1) := by decide +kernel
theorem dX11_odds_11 : decode cX11_odds 11 = .ok (.iconst 0, 1) := by decide +kernel
theorem dX11_odds_12 : decode cX11_odds 12 = .ok (.iconst 1, 1) := by decide +kernel
theorem dX11_odds_13 : decode cX11_odds 13 = .ok (.invokestatic 92, 3) := by decide +kernel
theorem dX11_odds_16 : decode cX11_odds 16 = .ok (.ifCond .ne 7, 3) := by decide +kernel
theorem dX11_odds_19 : decode cX11_odds 19 = .ok (.ldc2_w 218, 3) := by decide +kernel
theorem dX11_odds_22 : decode cX11_odds 22 = .ok (.lreturn, 1) := by decide +kernel
theorem dX11_odds_23 : decode cX11_odds 23 = .ok (.iconst 0, 1) := by decide +kernel
theorem dX11_odds_24 : decode cX11_odds 24 = .ok (.istore_n 3, 1) := by decide +kernel
theorem dX11_odds_25 : decode cX11_odds 25 = .ok (.iconst 0, 1) := by decide +kernel
theorem dX11_odds_26 : decode cX11_odds 26 = .ok (.istore 4, 2) := by decide +kernel
theorem dX11_odds_28 : decode cX11_odds 28 = .ok (.iload 4, 2) := by decide +kernel
theorem dX11_odds_30 : decode cX11_odds 30 = .ok (.iconst 4, 1) := by decide +kernel
theorem dX11_odds_31 : decode cX11_odds 31 = .ok (.if_icmp .ge 52, 3) := by decide +kernel
theorem dX11_odds_34 : decode cX11_odds 34 = .ok (.aload_n 0, 1) := by decide +kernel
theorem dX11_odds_35 : decode cX11_odds 35 = .ok (.getfield 58, 3) := by decide +kernel
theorem dX11_odds_38 : decode cX11_odds 38 = .ok (.aload_n 0, 1) := by decide +kernel
theorem dX11_odds_39 : decode cX11_odds 39 = .ok (.getfield 54, 3) := by decide +kernel
theorem dX11_odds_42 : decode cX11_odds 42 = .ok (.invokevirtual 182, 3) := by decide +kernel
theorem dX11_odds_45 : decode cX11_odds 45 = .ok (.aload_n 0, 1) := by decide +kernel
theorem dX11_odds_46 : decode cX11_odds 46 = .ok (.getfield 58, 3) := by decide +kernel
theorem dX11_odds_49 : decode cX11_odds 49 = .ok (.dup, 1) := by decide +kernel
theorem dX11_odds_50 : decode cX11_odds 50 = .ok (.getfield 166, 3) := by decide +kernel
theorem dX11_odds_53 : decode cX11_odds 53 = .ok (.iload 4, 2) := by decide +kernel
theorem dX11_odds_55 : decode cX11_odds 55 = .ok (.iadd, 1) := by decide +kernel
theorem dX11_odds_56 : decode cX11_odds 56 = .ok (.putfield 166, 3) := by decide +kernel
theorem dX11_odds_59 : decode cX11_odds 59 = .ok (.aload_n 0, 1) := by decide +kernel
theorem dX11_odds_60 : decode cX11_odds 60 = .ok (.getfield 69, 3) := by decide +kernel
theorem dX11_odds_63 : decode cX11_odds 63 = .ok (.aload_n 0, 1) := by decide +kernel
theorem dX11_odds_64 : decode cX11_odds 64 = .ok (.getfield 58, 3) := by decide +kernel
theorem dX11_odds_67 : decode cX11_odds 67 = .ok (.iload_n 1, 1) := by decide +kernel
theorem dX11_odds_68 : decode cX11_odds 68 = .ok (.invokevirtual 178, 3) := by decide +kernel
theorem dX11_odds_71 : decode cX11_odds 71 = .ok (.ifCond .ne 6, 3) := by decide +kernel
theorem dX11_odds_74 : decode cX11_odds 74 = .ok (.iinc 3 1, 3) := by decide +kernel
theorem dX11_odds_77 : decode cX11_odds 77 = .ok (.iinc 4 1, 3) := by decide +kernel
theorem dX11_odds_80 : decode cX11_odds 80 = .ok (.goto (-52), 3) := by decide +kernel
theorem dX11_odds_83 : decode cX11_odds 83 = .ok (.iload_n 3, 1) := by decide +kernel
theorem dX11_odds_84 : decode cX11_odds 84 = .ok (.iconst 4, 1) := by decide +kernel
theorem dX11_odds_85 : decode cX11_odds 85 = .ok (.iload_n 2, 1) := by decide +kernel
theorem dX11_odds_86 : decode cX11_odds 86 = .ok (.invokestatic 220, 3) := by decide +kernel
theorem dX11_odds_89 : decode cX11_odds 89 = .ok (.lreturn, 1) := by decide +kernel
theorem dX11_mean_0 : decode cX11_mean 0 = .ok (.iload_n 1, 1) := by decide +kernel
theorem dX11_mean_1 : decode cX11_mean 1 = .ok (.iconst 0, 1) := by decide +kernel
theorem dX11_mean_2 : decode cX11_mean 2 = .ok (.bipush 40, 2) := by decide +kernel
theorem dX11_mean_4 : decode cX11_mean 4 = .ok (.invokestatic 92, 3) := by decide +kernel
theorem dX11_mean_7 : decode cX11_mean 7 = .ok (.ifCond .eq 22, 3) := by decide +kernel
theorem dX11_mean_10 : decode cX11_mean 10 = .ok (.iload_n 2, 1) := by decide +kernel
theorem dX11_mean_11 : decode cX11_mean 11 = .ok (.iconst 0, 1) := by decide +kernel
theorem dX11_mean_12 : decode cX11_mean 12 = .ok (.iconst 1, 1) := by decide +kernel
theorem dX11_mean_13 : decode cX11_mean 13 = .ok (.invokestatic 92, 3) := by decide +kernel
theorem dX11_mean_16 : decode cX11_mean 16 = .ok (.ifCond .eq 13, 3) := by decide +kernel
theorem dX11_mean_19 : decode cX11_mean 19 = .ok (.aload_n 0, 1) := by decide +kernel
theorem dX11_mean_20 : decode cX11_mean 20 = .ok (.getfield 54, 3) := by decide +kernel
theorem dX11_mean_23 : decode cX11_mean 23 = .ok (.getfield 96, 3) := by decide +kernel
theorem dX11_mean_26 : decode cX11_mean 26 = .ok (.ifCond .ne 7, 3) := by decide +kernel
theorem dX11_mean_29 : decode cX11_mean 29 = .ok (.ldc2_w 218, 3) := by decide +kernel
theorem dX11_mean_32 : decode cX11_mean 32 = .ok (.lreturn, 1) := by decide +kernel
theorem dX11_mean_33 : decode cX11_mean 33 = .ok (.aload_n 0, 1) := by decide +kernel
theorem dX11_mean_34 : decode cX11_mean 34 = .ok (.getfield 58, 3) := by decide +kernel
theorem dX11_mean_37 : decode cX11_mean 37 = .ok (.aload_n 0, 1) := by decide +kernel
theorem dX11_mean_38 : decode cX11_mean 38 = .ok (.getfield 54, 3) := by decide +kernel
theorem dX11_mean_41 : decode cX11_mean 41 = .ok (.invokevirtual 182, 3) := by decide +kernel
theorem dX11_mean_44 : decode cX11_mean 44 = .ok (.aload_n 0, 1) := by decide +kernel
theorem dX11_mean_45 : decode cX11_mean 45 = .ok (.getfield 69, 3) := by decide +kernel
theorem dX11_mean_48 : decode cX11_mean 48 = .ok (.aload_n 0, 1) := by decide +kernel
theorem dX11_mean_49 : decode cX11_mean 49 = .ok (.getfield 58, 3) := by decide +kernel
theorem dX11_mean_52 : decode cX11_mean 52 = .ok (.iload_n 1, 1) := by decide +kernel
theorem dX11_mean_53 : decode cX11_mean 53 = .ok (.invokevirtual 178, 3) := by decide +kernel
theorem dX11_mean_56 : decode cX11_mean 56 = .ok (.pop, 1) := by decide +kernel
theorem dX11_mean_57 : decode cX11_mean 57 = .ok (.iconst 0, 1) := by decide +kernel
theorem dX11_mean_58 : decode cX11_mean 58 = .ok (.istore_n 3, 1) := by decide +kernel
theorem dX11_mean_59 : decode cX11_mean 59 = .ok (.iconst 0, 1) := by decide +kernel
theorem dX11_mean_60 : decode cX11_mean 60 = .ok (.istore 4, 2) := by decide +kernel
theorem dX11_mean_62 : decode cX11_mean 62 = .ok (.iload 4, 2) := by decide +kernel
theorem dX11_mean_64 : decode cX11_mean 64 = .ok (.aload_n 0, 1) := by decide +kernel
theorem dX11_mean_65 : decode cX11_mean 65 = .ok (.getfield 58, 3) := by decide +kernel
theorem dX11_mean_68 : decode cX11_mean 68 = .ok (.getfield 96, 3) := by decide +kernel
theorem dX11_mean_71 : decode cX11_mean 71 = .ok (.if_icmp .ge 22, 3) := by decide +kernel
theorem dX11_mean_74 : decode cX11_mean 74 = .ok (.iload_n 3, 1) := by decide +kernel
theorem dX11_mean_75 : decode cX11_mean 75 = .ok (.aload_n 0, 1) := by decide +kernel
theorem dX11_mean_76 : decode cX11_mean 76 = .ok (.getfield 58, 3) := by decide +kernel
theorem dX11_mean_79 : decode cX11_mean 79 = .ok (.getfield 118, 3) := by decide +kernel
theorem dX11_mean_82 : decode cX11_mean 82 = .ok (.iload 4, 2) := by decide +kernel
theorem dX11_mean_84 : decode cX11_mean 84 = .ok (.iaload, 1) := by decide +kernel
theorem dX11_mean_85 : decode cX11_mean 85 = .ok (.iadd, 1) := by decide +kernel
theorem dX11_mean_86 : decode cX11_mean 86 = .ok (.istore_n 3, 1) := by decide +kernel
theorem dX11_mean_87 : decode cX11_mean 87 = .ok (.iinc 4 1, 3) := by decide +kernel
theorem dX11_mean_90 : decode cX11_mean 90 = .ok (.goto (-28), 3) := by decide +kernel
theorem dX11_mean_93 : decode cX11_mean 93 = .ok (.iload_n 3, 1) := by decide +kernel
theorem dX11_mean_94 : decode cX11_mean 94 = .ok (.aload_n 0, 1) := by decide +kernel
theorem dX11_mean_95 : decode cX11_mean 95 = .ok (.getfield 58, 3) := by decide +kernel
theorem dX11_mean_98 : decode cX11_mean 98 = .ok (.getfield 96, 3) := by decide +kernel
theorem dX11_mean_101 : decode cX11_mean 101 = .ok (.iload_n 2, 1) := by decide +kernel
theorem dX11_mean_102 : decode cX11_mean 102 = .ok (.invokestatic 220, 3) := by decide +kernel
theorem dX11_mean_105 : decode cX11_mean 105 = .ok (.lreturn, 1) := by decide +kernel
theorem dX11_book_0 : decode cX11_book 0 = .ok (.iload_n 1, 1) := by decide +kernel
theorem dX11_book_1 : decode cX11_book 1 = .ok (.iconst (-1), 1) := by decide +kernel
theorem dX11_book_2 : decode cX11_book 2 = .ok (.if_icmp .ne 13, 3) := by decide +kernel
theorem dX11_book_5 : decode cX11_book 5 = .ok (.aload_n 0, 1) := by decide +kernel
theorem dX11_book_6 : decode cX11_book 6 = .ok (.getfield 54, 3) := by decide +kernel
theorem dX11_book_9 : decode cX11_book 9 = .ok (.iconst 0, 1) := by decide +kernel
theorem dX11_book_10 : decode cX11_book 10 = .ok (.putfield 224, 3) := by decide +kernel
theorem dX11_book_13 : decode cX11_book 13 = .ok (.iconst 0, 1) := by decide +kernel
theorem dX11_book_14 : decode cX11_book 14 = .ok (.ireturn, 1) := by decide +kernel
theorem dX11_book_15 : decode cX11_book 15 = .ok (.aload_n 0, 1) := by decide +kernel
theorem dX11_book_16 : decode cX11_book 16 = .ok (.getfield 54, 3) := by decide +kernel
theorem dX11_book_19 : decode cX11_book 19 = .ok (.iload_n 1, 1) := by decide +kernel
theorem dX11_book_20 : decode cX11_book 20 = .ok (.invokevirtual 104, 3) := by decide +kernel
theorem dX11_book_23 : decode cX11_book 23 = .ok (.ifCond .ne 5, 3) := by decide +kernel
theorem dX11_book_26 : decode cX11_book 26 = .ok (.iconst (-1), 1) := by decide +kernel
theorem dX11_book_27 : decode cX11_book 27 = .ok (.ireturn, 1) := by decide +kernel
theorem dX11_book_28 : decode cX11_book 28 = .ok (.iload_n 2, 1) := by decide +kernel
theorem dX11_book_29 : decode cX11_book 29 = .ok (.iconst 0, 1) := by decide +kernel
theorem dX11_book_30 : decode cX11_book 30 = .ok (.bipush 99, 2) := by decide +kernel
theorem dX11_book_32 : decode cX11_book 32 = .ok (.invokestatic 92, 3) := by decide +kernel
theorem dX11_book_35 : decode cX11_book 35 = .ok (.ifCond .ne 6, 3) := by decide +kernel
theorem dX11_book_38 : decode cX11_book 38 = .ok (.bipush (-2), 2) := by decide +kernel
theorem dX11_book_40 : decode cX11_book 40 = .ok (.ireturn, 1) := by decide +kernel
theorem dX11_book_41 : decode cX11_book 41 = .ok (.aload_n 0, 1) := by decide +kernel
theorem dX11_book_42 : decode cX11_book 42 = .ok (.getfield 54, 3) := by decide +kernel
theorem dX11_book_45 : decode cX11_book 45 = .ok (.getfield 224, 3) := by decide +kernel
theorem dX11_book_48 : decode cX11_book 48 = .ok (.bipush 8, 2) := by decide +kernel
theorem dX11_book_50 : decode cX11_book 50 = .ok (.if_icmp .lt 6, 3) := by decide +kernel
theorem dX11_book_53 : decode cX11_book 53 = .ok (.bipush (-4), 2) := by decide +kernel
theorem dX11_book_55 : decode cX11_book 55 = .ok (.ireturn, 1) := by decide +kernel
theorem dX11_book_56 : decode cX11_book 56 = .ok (.aload_n 0, 1) := by decide +kernel
theorem dX11_book_57 : decode cX11_book 57 = .ok (.getfield 54, 3) := by decide +kernel
theorem dX11_book_60 : decode cX11_book 60 = .ok (.iload_n 1, 1) := by decide +kernel
theorem dX11_book_61 : decode cX11_book 61 = .ok (.iload_n 2, 1) := by decide +kernel
theorem dX11_book_62 : decode cX11_book 62 = .ok (.invokevirtual 227, 3) := by decide +kernel
theorem dX11_book_65 : decode cX11_book 65 = .ok (.ireturn, 1) := by decide +kernel
theorem dX11_looked_0 : decode cX11_looked 0 = .ok (.iconst 0, 1) := by decide +kernel
theorem dX11_looked_1 : decode cX11_looked 1 = .ok (.istore_n 1, 1) := by decide +kernel
theorem dX11_looked_2 : decode cX11_looked 2 = .ok (.iload_n 1, 1) := by decide +kernel
theorem dX11_looked_3 : decode cX11_looked 3 = .ok (.aload_n 0, 1) := by decide +kernel
theorem dX11_looked_4 : decode cX11_looked 4 = .ok (.getfield 54, 3) := by decide +kernel
theorem dX11_looked_7 : decode cX11_looked 7 = .ok (.getfield 224, 3) := by decide +kernel
theorem dX11_looked_10 : decode cX11_looked 10 = .ok (.if_icmp .ge 53, 3) := by decide +kernel
theorem dX11_looked_13 : decode cX11_looked 13 = .ok (.aload_n 0, 1) := by decide +kernel
theorem dX11_looked_14 : decode cX11_looked 14 = .ok (.getfield 54, 3) := by decide +kernel
theorem dX11_looked_17 : decode cX11_looked 17 = .ok (.getfield 230, 3) := by decide +kernel
theorem dX11_looked_20 : decode cX11_looked 20 = .ok (.iload_n 1, 1) := by decide +kernel
theorem dX11_looked_21 : decode cX11_looked 21 = .ok (.iaload, 1) := by decide +kernel
theorem dX11_looked_22 : decode cX11_looked 22 = .ok (.istore_n 2, 1) := by decide +kernel
theorem dX11_looked_23 : decode cX11_looked 23 = .ok (.aload_n 0, 1) := by decide +kernel
theorem dX11_looked_24 : decode cX11_looked 24 = .ok (.getfield 54, 3) := by decide +kernel
theorem dX11_looked_27 : decode cX11_looked 27 = .ok (.iload_n 2, 1) := by decide +kernel
theorem dX11_looked_28 : decode cX11_looked 28 = .ok (.invokevirtual 104, 3) := by decide +kernel
theorem dX11_looked_31 : decode cX11_looked 31 = .ok (.ifCond .eq 26, 3) := by decide +kernel
theorem dX11_looked_34 : decode cX11_looked 34 = .ok (.aload_n 0, 1) := by decide +kernel
theorem dX11_looked_35 : decode cX11_looked 35 = .ok (.getfield 54, 3) := by decide +kernel
theorem dX11_looked_38 : decode cX11_looked 38 = .ok (.getfield 118, 3) := by decide +kernel
theorem dX11_looked_41 : decode cX11_looked 41 = .ok (.iload_n 2, 1) := by decide +kernel
theorem dX11_looked_42 : decode cX11_looked 42 = .ok (.iaload, 1) := by decide +kernel
theorem dX11_looked_43 : decode cX11_looked 43 = .ok (.aload_n 0, 1) := by decide +kernel
theorem dX11_looked_44 : decode cX11_looked 44 = .ok (.getfield 54, 3) := by decide +kernel
theorem dX11_looked_47 : decode cX11_looked 47 = .ok (.getfield 233, 3) := by decide +kernel
theorem dX11_looked_50 : decode cX11_looked 50 = .ok (.iload_n 1, 1) := by decide +kernel
theorem dX11_looked_51 : decode cX11_looked 51 = .ok (.iaload, 1) := by decide +kernel
theorem dX11_looked_52 : decode cX11_looked 52 = .ok (.if_icmp .eq 5, 3) := by decide +kernel
theorem dX11_looked_55 : decode cX11_looked 55 = .ok (.iload_n 1, 1) := by decide +kernel
theorem dX11_looked_56 : decode cX11_looked 56 = .ok (.ireturn, 1) := by decide +kernel
theorem dX11_looked_57 : decode cX11_looked 57 = .ok (.iinc 1 1, 3) := by decide +kernel
theorem dX11_looked_60 : decode cX11_looked 60 = .ok (.goto (-58), 3) := by decide +kernel
theorem dX11_looked_63 : decode cX11_looked 63 = .ok (.bipush (-5), 2) := by decide +kernel
theorem dX11_looked_65 : decode cX11_looked 65 = .ok (.ireturn, 1) := by decide +kernel
theorem dX11_judge_0 : decode cX11_judge 0 = .ok (.iload_n 1, 1) := by decide +kernel
theorem dX11_judge_1 : decode cX11_judge 1 = .ok (.invokestatic 236, 3) := by decide +kernel
theorem dX11_judge_4 : decode cX11_judge 4 = .ok (.ifCond .ne 5, 3) := by decide +kernel
theorem dX11_judge_7 : decode cX11_judge 7 = .ok (.iconst (-1), 1) := by decide +kernel
theorem dX11_judge_8 : decode cX11_judge 8 = .ok (.ireturn, 1) := by decide +kernel
theorem dX11_judge_9 : decode cX11_judge 9 = .ok (.aload_n 0, 1) := by decide +kernel
theorem dX11_judge_10 : decode cX11_judge 10 = .ok (.getfield 85, 3) := by decide +kernel
theorem dX11_judge_13 : decode cX11_judge 13 = .ok (.iload_n 1, 1) := by decide +kernel
theorem dX11_judge_14 : decode cX11_judge 14 = .ok (.iaload, 1) := by decide +kernel
theorem dX11_judge_15 : decode cX11_judge 15 = .ok (.iconst 1, 1) := by decide +kernel
theorem dX11_judge_16 : decode cX11_judge 16 = .ok (.if_icmp .eq 16, 3) := by decide +kernel
theorem dX11_judge_19 : decode cX11_judge 19 = .ok (.aload_n 0, 1) := by decide +kernel
theorem dX11_judge_20 : decode cX11_judge 20 = .ok (.getfield 85, 3) := by decide +kernel
theorem dX11_judge_23 : decode cX11_judge 23 = .ok (.iload_n 1, 1) := by decide +kernel
theorem dX11_judge_24 : decode cX11_judge 24 = .ok (.iaload, 1) := by decide +kernel
theorem dX11_judge_25 : decode cX11_judge 25 = .ok (.iconst (-1), 1) := by decide +kernel
theorem dX11_judge_26 : decode cX11_judge 26 = .ok (.if_icmp .eq 6, 3) := by decide +kernel
theorem dX11_judge_29 : decode cX11_judge 29 = .ok (.bipush (-12), 2) := by decide +kernel
theorem dX11_judge_31 : decode cX11_judge 31 = .ok (.ireturn, 1) := by decide +kernel
theorem dX11_judge_32 : decode cX11_judge 32 = .ok (.iconst 0, 1) := by decide +kernel
theorem dX11_judge_33 : decode cX11_judge 33 = .ok (.istore_n 3, 1) := by decide +kernel
theorem dX11_judge_34 : decode cX11_judge 34 = .ok (.iload_n 3, 1) := by decide +kernel
theorem dX11_judge_35 : decode cX11_judge 35 = .ok (.aload_n 0, 1) := by decide +kernel
theorem dX11_judge_36 : decode cX11_judge 36 = .ok (.getfield 54, 3) := by decide +kernel
theorem dX11_judge_39 : decode cX11_judge 39 = .ok (.getfield 96, 3) := by decide +kernel
theorem dX11_judge_42 : decode cX11_judge 42 = .ok (.if_icmp .ge 56, 3) := by decide +kernel
theorem dX11_judge_45 : decode cX11_judge 45 = .ok (.iload_n 2, 1) := by decide +kernel
theorem dX11_judge_46 : decode cX11_judge 46 = .ok (.ifCond .lt 15, 3) := by decide +kernel
theorem dX11_judge_49 : decode cX11_judge 49 = .ok (.iload_n 2, 1) := by decide +kernel
theorem dX11_judge_50 : decode cX11_judge 50 = .ok (.aload_n 0, 1) := by decide +kernel
theorem dX11_judge_51 : decode cX11_judge 51 = .ok (.getfield 89, 3) := by decide +kernel
theorem dX11_judge_54 : decode cX11_judge 54 = .ok (.iload_n 1, 1) := by decide +kernel
theorem dX11_judge_55 : decode cX11_judge 55 = .ok (.iaload, 1) := by decide +kernel
theorem dX11_judge_56 : decode cX11_judge 56 = .ok (.iload_n 3, 1) := by decide +kernel
theorem dX11_judge_57 : decode cX11_judge 57 = .ok (.isub, 1) := by decide +kernel
theorem dX11_judge_58 : decode cX11_judge 58 = .ok (.if_icmp .lt 8, 3) := by decide +kernel
theorem dX11_judge_61 : decode cX11_judge 61 = .ok (.bipush 100, 2) := by decide +kernel
theorem dX11_judge_63 : decode cX11_judge 63 = .ok (.iload_n 3, 1) := by decide +kernel
theorem dX11_judge_64 : decode cX11_judge 64 = .ok (.iadd, 1) := by decide +kernel
theorem dX11_judge_65 : decode cX11_judge 65 = .ok (.ireturn, 1) := by decide +kernel
theorem dX11_judge_66 : decode cX11_judge 66 = .ok (.aload_n 0, 1) := by decide +kernel
theorem dX11_judge_67 : decode cX11_judge 67 = .ok (.getfield 82, 3) := by decide +kernel
theorem dX11_judge_70 : decode cX11_judge 70 = .ok (.iload_n 1, 1) := by decide +kernel
theorem dX11_judge_71 : decode cX11_judge 71 = .ok (.aaload, 1) := by decide +kernel
theorem dX11_judge_72 : decode cX11_judge 72 = .ok (.iload_n 2, 1) := by decide +kernel
theorem dX11_judge_73 : decode cX11_judge 73 = .ok (.iload_n 3, 1) := by decide +kernel
theorem dX11_judge_74 : decode cX11_judge 74 = .ok (.iadd, 1) := by decide +kernel
theorem dX11_judge_75 : decode cX11_judge 75 = .ok (.laload, 1) := by decide +kernel
theorem dX11_judge_76 : decode cX11_judge 76 = .ok (.aload_n 0, 1) := by decide +kernel
theorem dX11_judge_77 : decode cX11_judge 77 = .ok (.getfield 54, 3) := by decide +kernel
theorem dX11_judge_80 : decode cX11_judge 80 = .ok (.getfield 118, 3) := by decide +kernel
theorem dX11_judge_83 : decode cX11_judge 83 = .ok (.iload_n 3, 1) := by decide +kernel
theorem dX11_judge_84 : decode cX11_judge 84 = .ok (.iaload, 1) := by decide +kernel
theorem dX11_judge_85 : decode cX11_judge 85 = .ok (.i2l, 1) := by decide +kernel
theorem dX11_judge_86 : decode cX11_judge 86 = .ok (.lcmp, 1) := by decide +kernel
theorem dX11_judge_87 : decode cX11_judge 87 = .ok (.ifCond .eq 5, 3) := by decide +kernel
theorem dX11_judge_90 : decode cX11_judge 90 = .ok (.iload_n 3, 1) := by decide +kernel
theorem dX11_judge_91 : decode cX11_judge 91 = .ok (.ireturn, 1) := by decide +kernel
theorem dX11_judge_92 : decode cX11_judge 92 = .ok (.iinc 3 1, 3) := by decide +kernel
theorem dX11_judge_95 : decode cX11_judge 95 = .ok (.goto (-61), 3) := by decide +kernel
theorem dX11_judge_98 : decode cX11_judge 98 = .ok (.bipush (-5), 2) := by decide +kernel
theorem dX11_judge_100 : decode cX11_judge 100 = .ok (.ireturn, 1) := by decide +kernel
theorem dX11_image_0 : decode cX11_image 0 = .ok (.aload_n 0, 1) := by decide +kernel
theorem dX11_image_1 : decode cX11_image 1 = .ok (.getfield 61, 3) := by decide +kernel
theorem dX11_image_4 : decode cX11_image 4 = .ok (.aload_n 0, 1) := by decide +kernel
theorem dX11_image_5 : decode cX11_image 5 = .ok (.getfield 54, 3) := by decide +kernel
theorem dX11_image_8 : decode cX11_image 8 = .ok (.invokevirtual 182, 3) := by decide +kernel
theorem dX11_image_11 : decode cX11_image 11 = .ok (.aload_n 0, 1) := by decide +kernel
theorem dX11_image_12 : decode cX11_image 12 = .ok (.iconst 1, 1) := by decide +kernel
theorem dX11_image_13 : decode cX11_image 13 = .ok (.putfield 239, 3) := by decide +kernel
theorem dX11_image_16 : decode cX11_image 16 = .ok (.aload_n 0, 1) := by decide +kernel
theorem dX11_image_17 : decode cX11_image 17 = .ok (.getfield 61, 3) := by decide +kernel
theorem dX11_image_20 : decode cX11_image 20 = .ok (.getfield 96, 3) := by decide +kernel
theorem dX11_image_23 : decode cX11_image 23 = .ok (.ireturn, 1) := by decide +kernel
theorem dX11_undo_0 : decode cX11_undo 0 = .ok (.aload_n 0, 1) := by decide +kernel
theorem dX11_undo_1 : decode cX11_undo 1 = .ok (.getfield 239, 3) := by decide +kernel
theorem dX11_undo_4 : decode cX11_undo 4 = .ok (.ifCond .ne 6, 3) := by decide +kernel
theorem dX11_undo_7 : decode cX11_undo 7 = .ok (.bipush (-3), 2) := by decide +kernel
theorem dX11_undo_9 : decode cX11_undo 9 = .ok (.ireturn, 1) := by decide +kernel
theorem dX11_undo_10 : decode cX11_undo 10 = .ok (.aload_n 0, 1) := by decide +kernel
theorem dX11_undo_11 : decode cX11_undo 11 = .ok (.getfield 54, 3) := by decide +kernel
theorem dX11_undo_14 : decode cX11_undo 14 = .ok (.aload_n 0, 1) := by decide +kernel
theorem dX11_undo_15 : decode cX11_undo 15 = .ok (.getfield 61, 3) := by decide +kernel
theorem dX11_undo_18 : decode cX11_undo 18 = .ok (.invokevirtual 182, 3) := by decide +kernel
theorem dX11_undo_21 : decode cX11_undo 21 = .ok (.aload_n 0, 1) := by decide +kernel
theorem dX11_undo_22 : decode cX11_undo 22 = .ok (.getfield 54, 3) := by decide +kernel
theorem dX11_undo_25 : decode cX11_undo 25 = .ok (.getfield 96, 3) := by decide +kernel
theorem dX11_undo_28 : decode cX11_undo 28 = .ok (.ireturn, 1) := by decide +kernel
theorem dX11_act_0 : decode cX11_act 0 = .ok (.aload_n 0, 1) := by decide +kernel
theorem dX11_act_1 : decode cX11_act 1 = .ok (.getfield 76, 3) := by decide +kernel
theorem dX11_act_4 : decode cX11_act 4 = .ok (.iconst 0, 1) := by decide +kernel
theorem dX11_act_5 : decode cX11_act 5 = .ok (.putfield 243, 3) := by decide +kernel
theorem dX11_act_8 : decode cX11_act 8 = .ok (.aload_n 0, 1) := by decide +kernel
theorem dX11_act_9 : decode cX11_act 9 = .ok (.getfield 54, 3) := by decide +kernel
theorem dX11_act_12 : decode cX11_act 12 = .ok (.iload_n 1, 1) := by decide +kernel
theorem dX11_act_13 : decode cX11_act 13 = .ok (.invokevirtual 104, 3) := by decide +kernel
theorem dX11_act_16 : decode cX11_act 16 = .ok (.ifCond .ne 5, 3) := by decide +kernel
theorem dX11_act_19 : decode cX11_act 19 = .ok (.iconst 0, 1) := by decide +kernel
theorem dX11_act_20 : decode cX11_act 20 = .ok (.ireturn, 1) := by decide +kernel
theorem dX11_act_21 : decode cX11_act 21 = .ok (.aload_n 0, 1) := by decide +kernel
theorem dX11_act_22 : decode cX11_act 22 = .ok (.getfield 76, 3) := by decide +kernel
theorem dX11_act_25 : decode cX11_act 25 = .ok (.iload_n 1, 1) := by decide +kernel
theorem dX11_act_26 : decode cX11_act 26 = .ok (.putfield 246, 3) := by decide +kernel
theorem dX11_act_29 : decode cX11_act 29 = .ok (.aload_n 0, 1) := by decide +kernel
theorem dX11_act_30 : decode cX11_act 30 = .ok (.getfield 76, 3) := by decide +kernel
theorem dX11_act_33 : decode cX11_act 33 = .ok (.aload_n 0, 1) := by decide +kernel
theorem dX11_act_34 : decode cX11_act 34 = .ok (.getfield 54, 3) := by decide +kernel
theorem dX11_act_37 : decode cX11_act 37 = .ok (.getfield 115, 3) := by decide +kernel
theorem dX11_act_40 : decode cX11_act 40 = .ok (.iload_n 1, 1) := by decide +kernel
theorem dX11_act_41 : decode cX11_act 41 = .ok (.iaload, 1) := by decide +kernel
theorem dX11_act_42 : decode cX11_act 42 = .ok (.putfield 249, 3) := by decide +kernel
theorem dX11_act_45 : decode cX11_act 45 = .ok (.aload_n 0, 1) := by decide +kernel
theorem dX11_act_46 : decode cX11_act 46 = .ok (.getfield 30, 3) := by decide +kernel
theorem dX11_act_49 : decode cX11_act 49 = .ok (.aload_n 0, 1) := by decide +kernel
theorem dX11_act_50 : decode cX11_act 50 = .ok (.getfield 54, 3) := by decide +kernel
theorem dX11_act_53 : decode cX11_act 53 = .ok (.getfield 112, 3) := by decide +kernel
theorem dX11_act_56 : decode cX11_act 56 = .ok (.iload_n 1, 1) := by decide +kernel
theorem dX11_act_57 : decode cX11_act 57 = .ok (.iaload, 1) := by decide +kernel
theorem dX11_act_58 : decode cX11_act 58 = .ok (.aaload, 1) := by decide +kernel
theorem dX11_act_59 : decode cX11_act 59 = .ok (.astore 4, 2) := by decide +kernel
theorem dX11_act_61 : decode cX11_act 61 = .ok (.iload_n 2, 1) := by decide +kernel
theorem dX11_act_62 : decode cX11_act 62 = .ok (.tableswitch 59 0 2 #[26, 37, 48], 26) := by decide +kernel
theorem dX11_act_88 : decode cX11_act 88 = .ok (.aload 4, 2) := by decide +kernel
theorem dX11_act_90 : decode cX11_act 90 = .ok (.aload_n 0, 1) := by decide +kernel
theorem dX11_act_91 : decode cX11_act 91 = .ok (.getfield 76, 3) := by decide +kernel
theorem dX11_act_94 : decode cX11_act 94 = .ok (.iload_n 3, 1) := by decide +kernel
theorem dX11_act_95 : decode cX11_act 95 = .ok (.invokevirtual 251, 3) := by decide +kernel
theorem dX11_act_98 : decode cX11_act 98 = .ok (.ireturn, 1) := by decide +kernel
theorem dX11_act_99 : decode cX11_act 99 = .ok (.aload 4, 2) := by decide +kernel
theorem dX11_act_101 : decode cX11_act 101 = .ok (.aload_n 0, 1) := by decide +kernel
theorem dX11_act_102 : decode cX11_act 102 = .ok (.getfield 76, 3) := by decide +kernel
theorem dX11_act_105 : decode cX11_act 105 = .ok (.iload_n 3, 1) := by decide +kernel
theorem dX11_act_106 : decode cX11_act 106 = .ok (.invokevirtual 255, 3) := by decide +kernel
theorem dX11_act_109 : decode cX11_act 109 = .ok (.ireturn, 1) := by decide +kernel
theorem dX11_act_110 : decode cX11_act 110 = .ok (.aload 4, 2) := by decide +kernel
theorem dX11_act_112 : decode cX11_act 112 = .ok (.aload_n 0, 1) := by decide +kernel
theorem dX11_act_113 : decode cX11_act 113 = .ok (.getfield 76, 3) := by decide +kernel
theorem dX11_act_116 : decode cX11_act 116 = .ok (.iload_n 3, 1) := by decide +kernel
theorem dX11_act_117 : decode cX11_act 117 = .ok (.invokevirtual 258, 3) := by decide +kernel
theorem dX11_act_120 : decode cX11_act 120 = .ok (.ireturn, 1) := by decide +kernel
theorem dX11_act_121 : decode cX11_act 121 = .ok (.iconst 0, 1) := by decide +kernel
theorem dX11_act_122 : decode cX11_act 122 = .ok (.ireturn, 1) := by decide +kernel
theorem dX11_trace_0 : decode cX11_trace 0 = .ok (.iload_n 1, 1) := by decide +kernel
theorem dX11_trace_1 : decode cX11_trace 1 = .ok (.ifCond .lt 20, 3) := by decide +kernel
theorem dX11_trace_4 : decode cX11_trace 4 = .ok (.iload_n 1, 1) := by decide +kernel
theorem dX11_trace_5 : decode cX11_trace 5 = .ok (.aload_n 0, 1) := by decide +kernel
theorem dX11_trace_6 : decode cX11_trace 6 = .ok (.getfield 76, 3) := by decide +kernel
theorem dX11_trace_9 : decode cX11_trace 9 = .ok (.getfield 243, 3) := by decide +kernel
theorem dX11_trace_12 : decode cX11_trace 12 = .ok (.if_icmp .ge 9, 3) := by decide +kernel
theorem dX11_trace_15 : decode cX11_trace 15 = .ok (.iload_n 1, 1) := by decide +kernel
theorem dX11_trace_16 : decode cX11_trace 16 = .ok (.bipush 20, 2) := by decide +kernel
theorem dX11_trace_18 : decode cX11_trace 18 = .ok (.if_icmp .lt 5, 3) := by decide +kernel
theorem dX11_trace_21 : decode cX11_trace 21 = .ok (.iconst (-1), 1) := by decide +kernel
theorem dX11_trace_22 : decode cX11_trace 22 = .ok (.ireturn, 1) := by decide +kernel
theorem dX11_trace_23 : decode cX11_trace 23 = .ok (.aload_n 0, 1) := by decide +kernel
theorem dX11_trace_24 : decode cX11_trace 24 = .ok (.getfield 76, 3) := by decide +kernel
theorem dX11_trace_27 : decode cX11_trace 27 = .ok (.getfield 261, 3) := by decide +kernel
theorem dX11_trace_30 : decode cX11_trace 30 = .ok (.iload_n 1, 1) := by decide +kernel
theorem dX11_trace_31 : decode cX11_trace 31 = .ok (.iaload, 1) := by decide +kernel
theorem dX11_trace_32 : decode cX11_trace 32 = .ok (.ireturn, 1) := by decide +kernel
theorem dX11_taken_0 : decode cX11_taken 0 = .ok (.iload_n 2, 1) := by decide +kernel
theorem dX11_taken_1 : decode cX11_taken 1 = .ok (.iconst 0, 1) := by decide +kernel
theorem dX11_taken_2 : decode cX11_taken 2 = .ok (.bipush 6, 2) := by decide +kernel
theorem dX11_taken_4 : decode cX11_taken 4 = .ok (.invokestatic 92, 3) := by decide +kernel
theorem dX11_taken_7 : decode cX11_taken 7 = .ok (.ifCond .ne 6, 3) := by decide +kernel
theorem dX11_taken_10 : decode cX11_taken 10 = .ok (.bipush (-2), 2) := by decide +kernel
theorem dX11_taken_12 : decode cX11_taken 12 = .ok (.ireturn, 1) := by decide +kernel
theorem dX11_taken_13 : decode cX11_taken 13 = .ok (.aload_n 0, 1) := by decide +kernel
theorem dX11_taken_14 : decode cX11_taken 14 = .ok (.getfield 54, 3) := by decide +kernel
theorem dX11_taken_17 : decode cX11_taken 17 = .ok (.iload_n 1, 1) := by decide +kernel
theorem dX11_taken_18 : decode cX11_taken 18 = .ok (.invokevirtual 104, 3) := by decide +kernel
theorem dX11_taken_21 : decode cX11_taken 21 = .ok (.ifCond .ne 6, 3) := by decide +kernel
theorem dX11_taken_24 : decode cX11_taken 24 = .ok (.bipush (-11), 2) := by decide +kernel
theorem dX11_taken_26 : decode cX11_taken 26 = .ok (.ireturn, 1) := by decide +kernel
theorem dX11_taken_27 : decode cX11_taken 27 = .ok (.aload_n 0, 1) := by decide +kernel
theorem dX11_taken_28 : decode cX11_taken 28 = .ok (.getfield 54, 3) := by decide +kernel
theorem dX11_taken_31 : decode cX11_taken 31 = .ok (.getfield 112, 3) := by decide +kernel
theorem dX11_taken_34 : decode cX11_taken 34 = .ok (.iload_n 1, 1) := by decide +kernel
theorem dX11_taken_35 : decode cX11_taken 35 = .ok (.iaload, 1) := by decide +kernel
theorem dX11_taken_36 : decode cX11_taken 36 = .ok (.istore_n 3, 1) := by decide +kernel
theorem dX11_taken_37 : decode cX11_taken 37 = .ok (.iconst 0, 1) := by decide +kernel
theorem dX11_taken_38 : decode cX11_taken 38 = .ok (.istore 4, 2) := by decide +kernel
theorem dX11_taken_40 : decode cX11_taken 40 = .ok (.iload 4, 2) := by decide +kernel
theorem dX11_taken_42 : decode cX11_taken 42 = .ok (.bipush 7, 2) := by decide +kernel
theorem dX11_taken_44 : decode cX11_taken 44 = .ok (.if_icmp .ge 40, 3) := by decide +kernel
theorem dX11_taken_47 : decode cX11_taken 47 = .ok (.iload_n 3, 1) := by decide +kernel
theorem dX11_taken_48 : decode cX11_taken 48 = .ok (.iconst 0, 1) := by decide +kernel
theorem dX11_taken_49 : decode cX11_taken 49 = .ok (.bipush 6, 2) := by decide +kernel
theorem dX11_taken_51 : decode cX11_taken 51 = .ok (.invokestatic 92, 3) := by decide +kernel
theorem dX11_taken_54 : decode cX11_taken 54 = .ok (.ifCond .eq 30, 3) := by decide +kernel
theorem dX11_taken_57 : decode cX11_taken 57 = .ok (.iload_n 3, 1) := by decide +kernel
theorem dX11_taken_58 : decode cX11_taken 58 = .ok (.iload_n 2, 1) := by decide +kernel
theorem dX11_taken_59 : decode cX11_taken 59 = .ok (.if_icmp .ne 13, 3) := by decide +kernel
theorem dX11_taken_62 : decode cX11_taken 62 = .ok (.aload_n 0, 1) := by decide +kernel
theorem dX11_taken_63 : decode cX11_taken 63 = .ok (.getfield 54, 3) := by decide +kernel
theorem dX11_taken_66 : decode cX11_taken 66 = .ok (.getfield 112, 3) := by decide +kernel
theorem dX11_taken_69 : decode cX11_taken 69 = .ok (.iload_n 1, 1) := by decide +kernel
theorem dX11_taken_70 : decode cX11_taken 70 = .ok (.iaload, 1) := by decide +kernel
theorem dX11_taken_71 : decode cX11_taken 71 = .ok (.ireturn, 1) := by decide +kernel
theorem dX11_taken_72 : decode cX11_taken 72 = .ok (.getstatic 264, 3) := by decide +kernel
theorem dX11_taken_75 : decode cX11_taken 75 = .ok (.iload_n 3, 1) := by decide +kernel
theorem dX11_taken_76 : decode cX11_taken 76 = .ok (.iaload, 1) := by decide +kernel
theorem dX11_taken_77 : decode cX11_taken 77 = .ok (.istore_n 3, 1) := by decide +kernel
theorem dX11_taken_78 : decode cX11_taken 78 = .ok (.iinc 4 1, 3) := by decide +kernel
theorem dX11_taken_81 : decode cX11_taken 81 = .ok (.goto (-41), 3) := by decide +kernel
theorem dX11_taken_84 : decode cX11_taken 84 = .ok (.bipush (-12), 2) := by decide +kernel
theorem dX11_taken_86 : decode cX11_taken 86 = .ok (.ireturn, 1) := by decide +kernel
theorem dX11_count_0 : decode cX11_count 0 = .ok (.iload_n 1, 1) := by decide +kernel
theorem dX11_count_1 : decode cX11_count 1 = .ok (.tableswitch 81 0 5 #[39, 47, 52, 60, 68, 73], 39) := by decide +kernel
theorem dX11_count_40 : decode cX11_count 40 = .ok (.aload_n 0, 1) := by decide +kernel
theorem dX11_count_41 : decode cX11_count 41 = .ok (.getfield 54, 3) := by decide +kernel
theorem dX11_count_44 : decode cX11_count 44 = .ok (.getfield 96, 3) := by decide +kernel
theorem dX11_count_47 : decode cX11_count 47 = .ok (.ireturn, 1) := by decide +kernel
theorem dX11_count_48 : decode cX11_count 48 = .ok (.aload_n 0, 1) := by decide +kernel
theorem dX11_count_49 : decode cX11_count 49 = .ok (.getfield 159, 3) := by decide +kernel
theorem dX11_count_52 : decode cX11_count 52 = .ok (.ireturn, 1) := by decide +kernel
theorem dX11_count_53 : decode cX11_count 53 = .ok (.aload_n 0, 1) := by decide +kernel
theorem dX11_count_54 : decode cX11_count 54 = .ok (.getfield 54, 3) := by decide +kernel
theorem dX11_count_57 : decode cX11_count 57 = .ok (.getfield 207, 3) := by decide +kernel
theorem dX11_count_60 : decode cX11_count 60 = .ok (.ireturn, 1) := by decide +kernel
theorem dX11_count_61 : decode cX11_count 61 = .ok (.aload_n 0, 1) := by decide +kernel
theorem dX11_count_62 : decode cX11_count 62 = .ok (.getfield 54, 3) := by decide +kernel
theorem dX11_count_65 : decode cX11_count 65 = .ok (.getfield 224, 3) := by decide +kernel
theorem dX11_count_68 : decode cX11_count 68 = .ok (.ireturn, 1) := by decide +kernel
theorem dX11_count_69 : decode cX11_count 69 = .ok (.aload_n 0, 1) := by decide +kernel
theorem dX11_count_70 : decode cX11_count 70 = .ok (.getfield 156, 3) := by decide +kernel
theorem dX11_count_73 : decode cX11_count 73 = .ok (.ireturn, 1) := by decide +kernel
theorem dX11_count_74 : decode cX11_count 74 = .ok (.aload_n 0, 1) := by decide +kernel
theorem dX11_count_75 : decode cX11_count 75 = .ok (.getfield 76, 3) := by decide +kernel
theorem dX11_count_78 : decode cX11_count 78 = .ok (.getfield 243, 3) := by decide +kernel
theorem dX11_count_81 : decode cX11_count 81 = .ok (.ireturn, 1) := by decide +kernel
theorem dX11_count_82 : decode cX11_count 82 = .ok (.bipush (-2), 2) := by decide +kernel
theorem dX11_count_84 : decode cX11_count 84 = .ok (.ireturn, 1) := by decide +kernel
theorem dX11_tape_0 : decode cX11_tape 0 = .ok (.iload_n 1, 1) := by decide +kernel
theorem dX11_tape_1 : decode cX11_tape 1 = .ok (.invokestatic 236, 3) := by decide +kernel
theorem dX11_tape_4 : decode cX11_tape 4 = .ok (.ifCond .ne 5, 3) := by decide +kernel
theorem dX11_tape_7 : decode cX11_tape 7 = .ok (.iconst (-1), 1) := by decide +kernel
theorem dX11_tape_8 : decode cX11_tape 8 = .ok (.ireturn, 1) := by decide +kernel
theorem dX11_tape_9 : decode cX11_tape 9 = .ok (.iload_n 2, 1) := by decide +kernel
theorem dX11_tape_10 : decode cX11_tape 10 = .ok (.iconst (-1), 1) := by decide +kernel
theorem dX11_tape_11 : decode cX11_tape 11 = .ok (.if_icmp .ne 19, 3) := by decide +kernel
theorem dX11_tape_14 : decode cX11_tape 14 = .ok (.aload_n 0, 1) := by decide +kernel
theorem dX11_tape_15 : decode cX11_tape 15 = .ok (.getfield 85, 3) := by decide +kernel
theorem dX11_tape_18 : decode cX11_tape 18 = .ok (.iload_n 1, 1) := by decide +kernel
theorem dX11_tape_19 : decode cX11_tape 19 = .ok (.iconst (-1), 1) := by decide +kernel
theorem dX11_tape_20 : decode cX11_tape 20 = .ok (.iastore, 1) := by decide +kernel
theorem dX11_tape_21 : decode cX11_tape 21 = .ok (.aload_n 0, 1) := by decide +kernel
theorem dX11_tape_22 : decode cX11_tape 22 = .ok (.getfield 89, 3) := by decide +kernel
theorem dX11_tape_25 : decode cX11_tape 25 = .ok (.iload_n 1, 1) := by decide +kernel
theorem dX11_tape_26 : decode cX11_tape 26 = .ok (.iconst 0, 1) := by decide +kernel
theorem dX11_tape_27 : decode cX11_tape 27 = .ok (.iastore, 1) := by decide +kernel
theorem dX11_tape_28 : decode cX11_tape 28 = .ok (.iconst 1, 1) := by decide +kernel
theorem dX11_tape_29 : decode cX11_tape 29 = .ok (.ireturn, 1) := by decide +kernel
theorem dX11_tape_30 : decode cX11_tape 30 = .ok (.iload_n 2, 1) := by decide +kernel
theorem dX11_tape_31 : decode cX11_tape 31 = .ok (.iconst 0, 1) := by decide +kernel
theorem dX11_tape_32 : decode cX11_tape 32 = .ok (.iconst 4, 1) := by decide +kernel
theorem dX11_tape_33 : decode cX11_tape 33 = .ok (.invokestatic 92, 3) := by decide +kernel
theorem dX11_tape_36 : decode cX11_tape 36 = .ok (.ifCond .eq 9, 3) := by decide +kernel
theorem dX11_tape_39 : decode cX11_tape 39 = .ok (.iload_n 3, 1) := by decide +kernel
theorem dX11_tape_40 : decode cX11_tape 40 = .ok (.bipush 60, 2) := by decide +kernel
theorem dX11_tape_42 : decode cX11_tape 42 = .ok (.if_icmp .le 6, 3) := by decide +kernel
theorem dX11_tape_45 : decode cX11_tape 45 = .ok (.bipush (-2), 2) := by decide +kernel
theorem dX11_tape_47 : decode cX11_tape 47 = .ok (.ireturn, 1) := by decide +kernel
theorem dX11_tape_48 : decode cX11_tape 48 = .ok (.iload_n 3, 1) := by decide +kernel
theorem dX11_tape_49 : decode cX11_tape 49 = .ok (.ifCond .ge 6, 3) := by decide +kernel
theorem dX11_tape_52 : decode cX11_tape 52 = .ok (.bipush (-14), 2) := by decide +kernel
theorem dX11_tape_54 : decode cX11_tape 54 = .ok (.ireturn, 1) := by decide +kernel
theorem dX11_tape_55 : decode cX11_tape 55 = .ok (.aload_n 0, 1) := by decide +kernel
theorem dX11_tape_56 : decode cX11_tape 56 = .ok (.getfield 85, 3) := by decide +kernel
theorem dX11_tape_59 : decode cX11_tape 59 = .ok (.iload_n 1, 1) := by decide +kernel
theorem dX11_tape_60 : decode cX11_tape 60 = .ok (.iload_n 2, 1) := by decide +kernel
theorem dX11_tape_61 : decode cX11_tape 61 = .ok (.iastore, 1) := by decide +kernel
theorem dX11_tape_62 : decode cX11_tape 62 = .ok (.aload_n 0, 1) := by decide +kernel
theorem dX11_tape_63 : decode cX11_tape 63 = .ok (.getfield 89, 3) := by decide +kernel
theorem dX11_tape_66 : decode cX11_tape 66 = .ok (.iload_n 1, 1) := by decide +kernel
theorem dX11_tape_67 : decode cX11_tape 67 = .ok (.iload_n 3, 1) := by decide +kernel
theorem dX11_tape_68 : decode cX11_tape 68 = .ok (.iastore, 1) := by decide +kernel
theorem dX11_tape_69 : decode cX11_tape 69 = .ok (.iconst 0, 1) := by decide +kernel
theorem dX11_tape_70 : decode cX11_tape 70 = .ok (.istore 4, 2) := by decide +kernel
theorem dX11_tape_72 : decode cX11_tape 72 = .ok (.iload 4, 2) := by decide +kernel
theorem dX11_tape_74 : decode cX11_tape 74 = .ok (.iload_n 3, 1) := by decide +kernel
theorem dX11_tape_75 : decode cX11_tape 75 = .ok (.if_icmp .ge 19, 3) := by decide +kernel
theorem dX11_tape_78 : decode cX11_tape 78 = .ok (.aload_n 0, 1) := by decide +kernel
theorem dX11_tape_79 : decode cX11_tape 79 = .ok (.getfield 82, 3) := by decide +kernel
theorem dX11_tape_82 : decode cX11_tape 82 = .ok (.iload_n 1, 1) := by decide +kernel
theorem dX11_tape_83 : decode cX11_tape 83 = .ok (.aaload, 1) := by decide +kernel
theorem dX11_tape_84 : decode cX11_tape 84 = .ok (.iload 4, 2) := by decide +kernel
theorem dX11_tape_86 : decode cX11_tape 86 = .ok (.lconst 0, 1) := by decide +kernel
theorem dX11_tape_87 : decode cX11_tape 87 = .ok (.lastore, 1) := by decide +kernel
theorem dX11_tape_88 : decode cX11_tape 88 = .ok (.iinc 4 1, 3) := by decide +kernel
theorem dX11_tape_91 : decode cX11_tape 91 = .ok (.goto (-19), 3) := by decide +kernel
theorem dX11_tape_94 : decode cX11_tape 94 = .ok (.iconst 1, 1) := by decide +kernel
theorem dX11_tape_95 : decode cX11_tape 95 = .ok (.ireturn, 1) := by decide +kernel
theorem dX11_item_0 : decode cX11_item 0 = .ok (.iload_n 1, 1) := by decide +kernel
theorem dX11_item_1 : decode cX11_item 1 = .ok (.invokestatic 236, 3) := by decide +kernel
theorem dX11_item_4 : decode cX11_item 4 = .ok (.ifCond .ne 5, 3) := by decide +kernel
theorem dX11_item_7 : decode cX11_item 7 = .ok (.iconst (-1), 1) := by decide +kernel
theorem dX11_item_8 : decode cX11_item 8 = .ok (.ireturn, 1) := by decide +kernel
theorem dX11_item_9 : decode cX11_item 9 = .ok (.aload_n 0, 1) := by decide +kernel
theorem dX11_item_10 : decode cX11_item 10 = .ok (.getfield 85, 3) := by decide +kernel
theorem dX11_item_13 : decode cX11_item 13 = .ok (.iload_n 1, 1) := by decide +kernel
theorem dX11_item_14 : decode cX11_item 14 = .ok (.iaload, 1) := by decide +kernel
theorem dX11_item_15 : decode cX11_item 15 = .ok (.iconst (-1), 1) := by decide +kernel
theorem dX11_item_16 : decode cX11_item 16 = .ok (.if_icmp .ne 6, 3) := by decide +kernel
theorem dX11_item_19 : decode cX11_item 19 = .ok (.bipush (-11), 2) := by decide +kernel
theorem dX11_item_21 : decode cX11_item 21 = .ok (.ireturn, 1) := by decide +kernel
theorem dX11_item_22 : decode cX11_item 22 = .ok (.iload_n 2, 1) := by decide +kernel
theorem dX11_item_23 : decode cX11_item 23 = .ok (.ifCond .lt 13, 3) := by decide +kernel
theorem dX11_item_26 : decode cX11_item 26 = .ok (.iload_n 2, 1) := by decide +kernel
theorem dX11_item_27 : decode cX11_item 27 = .ok (.aload_n 0, 1) := by decide +kernel
theorem dX11_item_28 : decode cX11_item 28 = .ok (.getfield 89, 3) := by decide +kernel
theorem dX11_item_31 : decode cX11_item 31 = .ok (.iload_n 1, 1) := by decide +kernel
theorem dX11_item_32 : decode cX11_item 32 = .ok (.iaload, 1) := by decide +kernel
theorem dX11_item_33 : decode cX11_item 33 = .ok (.if_icmp .lt 6, 3) := by decide +kernel
theorem dX11_item_36 : decode cX11_item 36 = .ok (.bipush (-13), 2) := by decide +kernel
theorem dX11_item_38 : decode cX11_item 38 = .ok (.ireturn, 1) := by decide +kernel
theorem dX11_item_39 : decode cX11_item 39 = .ok (.aload_n 0, 1) := by decide +kernel
theorem dX11_item_40 : decode cX11_item 40 = .ok (.getfield 82, 3) := by decide +kernel
theorem dX11_item_43 : decode cX11_item 43 = .ok (.iload_n 1, 1) := by decide +kernel
theorem dX11_item_44 : decode cX11_item 44 = .ok (.aaload, 1) := by decide +kernel
theorem dX11_item_45 : decode cX11_item 45 = .ok (.iload_n 2, 1) := by decide +kernel
theorem dX11_item_46 : decode cX11_item 46 = .ok (.aload_n 0, 1) := by decide +kernel
theorem dX11_item_47 : decode cX11_item 47 = .ok (.getfield 85, 3) := by decide +kernel
theorem dX11_item_50 : decode cX11_item 50 = .ok (.iload_n 1, 1) := by decide +kernel
theorem dX11_item_51 : decode cX11_item 51 = .ok (.iaload, 1) := by decide +kernel
theorem dX11_item_52 : decode cX11_item 52 = .ok (.lload_n 3, 1) := by decide +kernel
theorem dX11_item_53 : decode cX11_item 53 = .ok (.invokestatic 267, 3) := by decide +kernel
theorem dX11_item_56 : decode cX11_item 56 = .ok (.lastore, 1) := by decide +kernel
theorem dX11_item_57 : decode cX11_item 57 = .ok (.iconst 1, 1) := by decide +kernel
theorem dX11_item_58 : decode cX11_item 58 = .ok (.ireturn, 1) := by decide +kernel
theorem dX11_read_0 : decode cX11_read 0 = .ok (.iload_n 1, 1) := by decide +kernel
theorem dX11_read_1 : decode cX11_read 1 = .ok (.invokestatic 236, 3) := by decide +kernel
theorem dX11_read_4 : decode cX11_read 4 = .ok (.ifCond .eq 17, 3) := by decide +kernel
theorem dX11_read_7 : decode cX11_read 7 = .ok (.iload_n 2, 1) := by decide +kernel
theorem dX11_read_8 : decode cX11_read 8 = .ok (.ifCond .lt 13, 3) := by decide +kernel
theorem dX11_read_11 : decode cX11_read 11 = .ok (.iload_n 2, 1) := by decide +kernel
theorem dX11_read_12 : decode cX11_read 12 = .ok (.aload_n 0, 1) := by decide +kernel
theorem dX11_read_13 : decode cX11_read 13 = .ok (.getfield 89, 3) := by decide +kernel
theorem dX11_read_16 : decode cX11_read 16 = .ok (.iload_n 1, 1) := by decide +kernel
theorem dX11_read_17 : decode cX11_read 17 = .ok (.iaload, 1) := by decide +kernel
theorem dX11_read_18 : decode cX11_read 18 = .ok (.if_icmp .lt 7, 3) := by decide +kernel
theorem dX11_read_21 : decode cX11_read 21 = .ok (.ldc2_w 218, 3) := by decide +kernel
theorem dX11_read_24 : decode cX11_read 24 = .ok (.lreturn, 1) := by decide +kernel
theorem dX11_read_25 : decode cX11_read 25 = .ok (.aload_n 0, 1) := by decide +kernel
theorem dX11_read_26 : decode cX11_read 26 = .ok (.getfield 82, 3) := by decide +kernel
theorem dX11_read_29 : decode cX11_read 29 = .ok (.iload_n 1, 1) := by decide +kernel
theorem dX11_read_30 : decode cX11_read 30 = .ok (.aaload, 1) := by decide +kernel
theorem dX11_read_31 : decode cX11_read 31 = .ok (.iload_n 2, 1) := by decide +kernel
theorem dX11_read_32 : decode cX11_read 32 = .ok (.laload, 1) := by decide +kernel
theorem dX11_read_33 : decode cX11_read 33 = .ok (.lreturn, 1) := by decide +kernel
theorem dX11_shift_0 : decode cX11_shift 0 = .ok (.iload_n 1, 1) := by decide +kernel
theorem dX11_shift_1 : decode cX11_shift 1 = .ok (.invokestatic 236, 3) := by decide +kernel
theorem dX11_shift_4 : decode cX11_shift 4 = .ok (.ifCond .eq 10, 3) := by decide +kernel
theorem dX11_shift_7 : decode cX11_shift 7 = .ok (.iload_n 3, 1) := by decide +kernel
theorem dX11_shift_8 : decode cX11_shift 8 = .ok (.invokestatic 236, 3) := by decide +kernel
theorem dX11_shift_11 : decode cX11_shift 11 = .ok (.ifCond .ne 5, 3) := by decide +kernel
theorem dX11_shift_14 : decode cX11_shift 14 = .ok (.iconst (-1), 1) := by decide +kernel
theorem dX11_shift_15 : decode cX11_shift 15 = .ok (.ireturn, 1) := by decide +kernel
theorem dX11_shift_16 : decode cX11_shift 16 = .ok (.aload_n 0, 1) := by decide +kernel
theorem dX11_shift_17 : decode cX11_shift 17 = .ok (.getfield 85, 3) := by decide +kernel
theorem dX11_shift_20 : decode cX11_shift 20 = .ok (.iload_n 1, 1) := by decide +kernel
theorem dX11_shift_21 : decode cX11_shift 21 = .ok (.iaload, 1) := by decide +kernel
theorem dX11_shift_22 : decode cX11_shift 22 = .ok (.iconst (-1), 1) := by decide +kernel
theorem dX11_shift_23 : decode cX11_shift 23 = .ok (.if_icmp .eq 13, 3) := by decide +kernel
theorem dX11_shift_26 : decode cX11_shift 26 = .ok (.aload_n 0, 1) := by decide +kernel
theorem dX11_shift_27 : decode cX11_shift 27 = .ok (.getfield 85, 3) := by decide +kernel
theorem dX11_shift_30 : decode cX11_shift 30 = .ok (.iload_n 3, 1) := by decide +kernel
theorem dX11_shift_31 : decode cX11_shift 31 = .ok (.iaload, 1) := by decide +kernel
theorem dX11_shift_32 : decode cX11_shift 32 = .ok (.iconst (-1), 1) := by decide +kernel
theorem dX11_shift_33 : decode cX11_shift 33 = .ok (.if_icmp .ne 6, 3) := by decide +kernel
theorem dX11_shift_36 : decode cX11_shift 36 = .ok (.bipush (-11), 2) := by decide +kernel
theorem dX11_shift_38 : decode cX11_shift 38 = .ok (.ireturn, 1) := by decide +kernel
theorem dX11_shift_39 : decode cX11_shift 39 = .ok (.aload_n 0, 1) := by decide +kernel
theorem dX11_shift_40 : decode cX11_shift 40 = .ok (.getfield 85, 3) := by decide +kernel
theorem dX11_shift_43 : decode cX11_shift 43 = .ok (.iload_n 1, 1) := by decide +kernel
theorem dX11_shift_44 : decode cX11_shift 44 = .ok (.iaload, 1) := by decide +kernel
theorem dX11_shift_45 : decode cX11_shift 45 = .ok (.aload_n 0, 1) := by decide +kernel
theorem dX11_shift_46 : decode cX11_shift 46 = .ok (.getfield 85, 3) := by decide +kernel
theorem dX11_shift_49 : decode cX11_shift 49 = .ok (.iload_n 3, 1) := by decide +kernel
theorem dX11_shift_50 : decode cX11_shift 50 = .ok (.iaload, 1) := by decide +kernel
theorem dX11_shift_51 : decode cX11_shift 51 = .ok (.if_icmp .eq 6, 3) := by decide +kernel
theorem dX11_shift_54 : decode cX11_shift 54 = .ok (.bipush (-12), 2) := by decide +kernel
theorem dX11_shift_56 : decode cX11_shift 56 = .ok (.ireturn, 1) := by decide +kernel
theorem dX11_shift_57 : decode cX11_shift 57 = .ok (.iload 5, 2) := by decide +kernel
theorem dX11_shift_59 : decode cX11_shift 59 = .ok (.ifCond .lt 39, 3) := by decide +kernel
theorem dX11_shift_62 : decode cX11_shift 62 = .ok (.iload_n 2, 1) := by decide +kernel
theorem dX11_shift_63 : decode cX11_shift 63 = .ok (.ifCond .lt 35, 3) := by decide +kernel
theorem dX11_shift_66 : decode cX11_shift 66 = .ok (.iload 4, 2) := by decide +kernel
theorem dX11_shift_68 : decode cX11_shift 68 = .ok (.ifCond .lt 30, 3) := by decide +kernel
theorem dX11_shift_71 : decode cX11_shift 71 = .ok (.iload 5, 2) := by decide +kernel
theorem dX11_shift_73 : decode cX11_shift 73 = .ok (.aload_n 0, 1) := by decide +kernel
theorem dX11_shift_74 : decode cX11_shift 74 = .ok (.getfield 89, 3) := by decide +kernel
theorem dX11_shift_77 : decode cX11_shift 77 = .ok (.iload_n 1, 1) := by decide +kernel
theorem dX11_shift_78 : decode cX11_shift 78 = .ok (.iaload, 1) := by decide +kernel
theorem dX11_shift_79 : decode cX11_shift 79 = .ok (.iload_n 2, 1) := by decide +kernel
theorem dX11_shift_80 : decode cX11_shift 80 = .ok (.isub, 1) := by decide +kernel
theorem dX11_shift_81 : decode cX11_shift 81 = .ok (.if_icmp .gt 17, 3) := by decide +kernel
theorem dX11_shift_84 : decode cX11_shift 84 = .ok (.iload 5, 2) := by decide +kernel
theorem dX11_shift_86 : decode cX11_shift 86 = .ok (.aload_n 0, 1) := by decide +kernel
theorem dX11_shift_87 : decode cX11_shift 87 = .ok (.getfield 89, 3) := by decide +kernel
theorem dX11_shift_90 : decode cX11_shift 90 = .ok (.iload_n 3, 1) := by decide +kernel
theorem dX11_shift_91 : decode cX11_shift 91 = .ok (.iaload, 1) := by decide +kernel
theorem dX11_shift_92 : decode cX11_shift 92 = .ok (.iload 4, 2) := by decide +kernel
theorem dX11_shift_94 : decode cX11_shift 94 = .ok (.isub, 1) := by decide +kernel
theorem dX11_shift_95 : decode cX11_shift 95 = .ok (.if_icmp .le 6, 3) := by decide +kernel
theorem dX11_shift_98 : decode cX11_shift 98 = .ok (.bipush (-13), 2) := by decide +kernel
theorem dX11_shift_100 : decode cX11_shift 100 = .ok (.ireturn, 1) := by decide +kernel
theorem dX11_shift_101 : decode cX11_shift 101 = .ok (.aload_n 0, 1) := by decide +kernel
theorem dX11_shift_102 : decode cX11_shift 102 = .ok (.getfield 82, 3) := by decide +kernel
theorem dX11_shift_105 : decode cX11_shift 105 = .ok (.iload_n 1, 1) := by decide +kernel
theorem dX11_shift_106 : decode cX11_shift 106 = .ok (.aaload, 1) := by decide +kernel
theorem dX11_shift_107 : decode cX11_shift 107 = .ok (.iload_n 2, 1) := by decide +kernel
theorem dX11_shift_108 : decode cX11_shift 108 = .ok (.aload_n 0, 1) := by decide +kernel
theorem dX11_shift_109 : decode cX11_shift 109 = .ok (.getfield 82, 3) := by decide +kernel
theorem dX11_shift_112 : decode cX11_shift 112 = .ok (.iload_n 3, 1) := by decide +kernel
theorem dX11_shift_113 : decode cX11_shift 113 = .ok (.aaload, 1) := by decide +kernel
theorem dX11_shift_114 : decode cX11_shift 114 = .ok (.iload 4, 2) := by decide +kernel
theorem dX11_shift_116 : decode cX11_shift 116 = .ok (.iload 5, 2) := by decide +kernel
theorem dX11_shift_118 : decode cX11_shift 118 = .ok (.invokestatic 271, 3) := by decide +kernel
theorem dX11_shift_121 : decode cX11_shift 121 = .ok (.iload 5, 2) := by decide +kernel
theorem dX11_shift_123 : decode cX11_shift 123 = .ok (.ireturn, 1) := by decide +kernel
theorem dX11_within_0 : decode cX11_within 0 = .ok (.iload_n 0, 1) := by decide +kernel
theorem dX11_within_1 : decode cX11_within 1 = .ok (.iload_n 1, 1) := by decide +kernel
theorem dX11_within_2 : decode cX11_within 2 = .ok (.if_icmp .lt 12, 3) := by decide +kernel
theorem dX11_within_5 : decode cX11_within 5 = .ok (.iload_n 0, 1) := by decide +kernel
theorem dX11_within_6 : decode cX11_within 6 = .ok (.iload_n 2, 1) := by decide +kernel
theorem dX11_within_7 : decode cX11_within 7 = .ok (.if_icmp .gt 7, 3) := by decide +kernel
theorem dX11_within_10 : decode cX11_within 10 = .ok (.iconst 1, 1) := by decide +kernel
theorem dX11_within_11 : decode cX11_within 11 = .ok (.goto 4, 3) := by decide +kernel
theorem dX11_within_14 : decode cX11_within 14 = .ok (.iconst 0, 1) := by decide +kernel
theorem dX11_within_15 : decode cX11_within 15 = .ok (.ireturn, 1) := by decide +kernel
theorem dX11_isTape_0 : decode cX11_isTape 0 = .ok (.iload_n 0, 1) := by decide +kernel
theorem dX11_isTape_1 : decode cX11_isTape 1 = .ok (.iconst 0, 1) := by decide +kernel
theorem dX11_isTape_2 : decode cX11_isTape 2 = .ok (.iconst 5, 1) := by decide +kernel
theorem dX11_isTape_3 : decode cX11_isTape 3 = .ok (.invokestatic 92, 3) := by decide +kernel
theorem dX11_isTape_6 : decode cX11_isTape 6 = .ok (.ireturn, 1) := by decide +kernel
theorem dX11_placeIn_0 : decode cX11_placeIn 0 = .ok (.iload_n 0, 1) := by decide +kernel
theorem dX11_placeIn_1 : decode cX11_placeIn 1 = .ok (.iconst 2, 1) := by decide +kernel
theorem dX11_placeIn_2 : decode cX11_placeIn 2 = .ok (.iconst 3, 1) := by decide +kernel
theorem dX11_placeIn_3 : decode cX11_placeIn 3 = .ok (.iload_n 1, 1) := by decide +kernel
theorem dX11_placeIn_4 : decode cX11_placeIn 4 = .ok (.isub, 1) := by decide +kernel
theorem dX11_placeIn_5 : decode cX11_placeIn 5 = .ok (.imul, 1) := by decide +kernel
theorem dX11_placeIn_6 : decode cX11_placeIn 6 = .ok (.ishr, 1) := by decide +kernel
theorem dX11_placeIn_7 : decode cX11_placeIn 7 = .ok (.iconst 3, 1) := by decide +kernel
theorem dX11_placeIn_8 : decode cX11_placeIn 8 = .ok (.iand, 1) := by decide +kernel
theorem dX11_placeIn_9 : decode cX11_placeIn 9 = .ok (.ireturn, 1) := by decide +kernel
theorem dX11_namesEachPlace_0 : decode cX11_namesEachPlace 0 = .ok (.iconst 0, 1) := by decide +kernel
theorem dX11_namesEachPlace_1 : decode cX11_namesEachPlace 1 = .ok (.istore_n 1, 1) := by decide +kernel
theorem dX11_namesEachPlace_2 : decode cX11_namesEachPlace 2 = .ok (.iconst 0, 1) := by decide +kernel
theorem dX11_namesEachPlace_3 : decode cX11_namesEachPlace 3 = .ok (.istore_n 2, 1) := by decide +kernel
theorem dX11_namesEachPlace_4 : decode cX11_namesEachPlace 4 = .ok (.iload_n 2, 1) := by decide +kernel
theorem dX11_namesEachPlace_5 : decode cX11_namesEachPlace 5 = .ok (.iconst 4, 1) := by decide +kernel
theorem dX11_namesEachPlace_6 : decode cX11_namesEachPlace 6 = .ok (.if_icmp .ge 19, 3) := by decide +kernel
theorem dX11_namesEachPlace_9 : decode cX11_namesEachPlace 9 = .ok (.iload_n 1, 1) := by decide +kernel
theorem dX11_namesEachPlace_10 : decode cX11_namesEachPlace 10 = .ok (.iconst 1, 1) := by decide +kernel
theorem dX11_namesEachPlace_11 : decode cX11_namesEachPlace 11 = .ok (.iload_n 0, 1) := by decide +kernel
theorem dX11_namesEachPlace_12 : decode cX11_namesEachPlace 12 = .ok (.iload_n 2, 1) := by decide +kernel
theorem dX11_namesEachPlace_13 : decode cX11_namesEachPlace 13 = .ok (.invokestatic 200, 3) := by decide +kernel
theorem dX11_namesEachPlace_16 : decode cX11_namesEachPlace 16 = .ok (.ishl, 1) := by decide +kernel
theorem dX11_namesEachPlace_17 : decode cX11_namesEachPlace 17 = .ok (.ior, 1) := by decide +kernel
theorem dX11_namesEachPlace_18 : decode cX11_namesEachPlace 18 = .ok (.istore_n 1, 1) := by decide +kernel
theorem dX11_namesEachPlace_19 : decode cX11_namesEachPlace 19 = .ok (.iinc 2 1, 3) := by decide +kernel
theorem dX11_namesEachPlace_22 : decode cX11_namesEachPlace 22 = .ok (.goto (-18), 3) := by decide +kernel
theorem dX11_namesEachPlace_25 : decode cX11_namesEachPlace 25 = .ok (.iload_n 1, 1) := by decide +kernel
theorem dX11_namesEachPlace_26 : decode cX11_namesEachPlace 26 = .ok (.bipush 15, 2) := by decide +kernel
theorem dX11_namesEachPlace_28 : decode cX11_namesEachPlace 28 = .ok (.if_icmp .ne 7, 3) := by decide +kernel
theorem dX11_namesEachPlace_31 : decode cX11_namesEachPlace 31 = .ok (.iconst 1, 1) := by decide +kernel
theorem dX11_namesEachPlace_32 : decode cX11_namesEachPlace 32 = .ok (.goto 4, 3) := by decide +kernel
theorem dX11_namesEachPlace_35 : decode cX11_namesEachPlace 35 = .ok (.iconst 0, 1) := by decide +kernel
theorem dX11_namesEachPlace_36 : decode cX11_namesEachPlace 36 = .ok (.ireturn, 1) := by decide +kernel
theorem dX11_allSeenIsSo_0 : decode cX11_allSeenIsSo 0 = .ok (.iconst 0, 1) := by decide +kernel
theorem dX11_allSeenIsSo_1 : decode cX11_allSeenIsSo 1 = .ok (.istore_n 1, 1) := by decide +kernel
theorem dX11_allSeenIsSo_2 : decode cX11_allSeenIsSo 2 = .ok (.iload_n 1, 1) := by decide +kernel
theorem dX11_allSeenIsSo_3 : decode cX11_allSeenIsSo 3 = .ok (.bipush 20, 2) := by decide +kernel
theorem dX11_allSeenIsSo_5 : decode cX11_allSeenIsSo 5 = .ok (.if_icmp .gt 108, 3) := by decide +kernel
theorem dX11_allSeenIsSo_8 : decode cX11_allSeenIsSo 8 = .ok (.iconst 0, 1) := by decide +kernel
theorem dX11_allSeenIsSo_9 : decode cX11_allSeenIsSo 9 = .ok (.istore_n 2, 1) := by decide +kernel
theorem dX11_allSeenIsSo_10 : decode cX11_allSeenIsSo 10 = .ok (.iload_n 2, 1) := by decide +kernel
theorem dX11_allSeenIsSo_11 : decode cX11_allSeenIsSo 11 = .ok (.aload_n 0, 1) := by decide +kernel
theorem dX11_allSeenIsSo_12 : decode cX11_allSeenIsSo 12 = .ok (.getfield 54, 3) := by decide +kernel
theorem dX11_allSeenIsSo_15 : decode cX11_allSeenIsSo 15 = .ok (.getfield 207, 3) := by decide +kernel
theorem dX11_allSeenIsSo_18 : decode cX11_allSeenIsSo 18 = .ok (.if_icmp .ge 66, 3) := by decide +kernel
theorem dX11_allSeenIsSo_21 : decode cX11_allSeenIsSo 21 = .ok (.aload_n 0, 1) := by decide +kernel
theorem dX11_allSeenIsSo_22 : decode cX11_allSeenIsSo 22 = .ok (.getfield 54, 3) := by decide +kernel
theorem dX11_allSeenIsSo_25 : decode cX11_allSeenIsSo 25 = .ok (.getfield 277, 3) := by decide +kernel
theorem dX11_allSeenIsSo_28 : decode cX11_allSeenIsSo 28 = .ok (.iload_n 2, 1) := by decide +kernel
theorem dX11_allSeenIsSo_29 : decode cX11_allSeenIsSo 29 = .ok (.iaload, 1) := by decide +kernel
theorem dX11_allSeenIsSo_30 : decode cX11_allSeenIsSo 30 = .ok (.istore_n 3, 1) := by decide +kernel
theorem dX11_allSeenIsSo_31 : decode cX11_allSeenIsSo 31 = .ok (.aload_n 0, 1) := by decide +kernel
theorem dX11_allSeenIsSo_32 : decode cX11_allSeenIsSo 32 = .ok (.getfield 54, 3) := by decide +kernel
theorem dX11_allSeenIsSo_35 : decode cX11_allSeenIsSo 35 = .ok (.getfield 280, 3) := by decide +kernel
theorem dX11_allSeenIsSo_38 : decode cX11_allSeenIsSo 38 = .ok (.iload_n 2, 1) := by decide +kernel
theorem dX11_allSeenIsSo_39 : decode cX11_allSeenIsSo 39 = .ok (.iaload, 1) := by decide +kernel
theorem dX11_allSeenIsSo_40 : decode cX11_allSeenIsSo 40 = .ok (.iload_n 1, 1) := by decide +kernel
theorem dX11_allSeenIsSo_41 : decode cX11_allSeenIsSo 41 = .ok (.if_icmp .ne 37, 3) := by decide +kernel
theorem dX11_allSeenIsSo_44 : decode cX11_allSeenIsSo 44 = .ok (.aload_n 0, 1) := by decide +kernel
theorem dX11_allSeenIsSo_45 : decode cX11_allSeenIsSo 45 = .ok (.getfield 54, 3) := by decide +kernel
theorem dX11_allSeenIsSo_48 : decode cX11_allSeenIsSo 48 = .ok (.iload_n 3, 1) := by decide +kernel
theorem dX11_allSeenIsSo_49 : decode cX11_allSeenIsSo 49 = .ok (.invokevirtual 104, 3) := by decide +kernel
theorem dX11_allSeenIsSo_52 : decode cX11_allSeenIsSo 52 = .ok (.ifCond .eq 26, 3) := by decide +kernel
theorem dX11_allSeenIsSo_55 : decode cX11_allSeenIsSo 55 = .ok (.aload_n 0, 1) := by decide +kernel
theorem dX11_allSeenIsSo_56 : decode cX11_allSeenIsSo 56 = .ok (.getfield 58, 3) := by decide +kernel
theorem dX11_allSeenIsSo_59 : decode cX11_allSeenIsSo 59 = .ok (.getfield 118, 3) := by decide +kernel
theorem dX11_allSeenIsSo_62 : decode cX11_allSeenIsSo 62 = .ok (.iload_n 3, 1) := by decide +kernel
theorem dX11_allSeenIsSo_63 : decode cX11_allSeenIsSo 63 = .ok (.iaload, 1) := by decide +kernel
theorem dX11_allSeenIsSo_64 : decode cX11_allSeenIsSo 64 = .ok (.aload_n 0, 1) := by decide +kernel
theorem dX11_allSeenIsSo_65 : decode cX11_allSeenIsSo 65 = .ok (.getfield 54, 3) := by decide +kernel
theorem dX11_allSeenIsSo_68 : decode cX11_allSeenIsSo 68 = .ok (.getfield 283, 3) := by decide +kernel
theorem dX11_allSeenIsSo_71 : decode cX11_allSeenIsSo 71 = .ok (.iload_n 2, 1) := by decide +kernel
theorem dX11_allSeenIsSo_72 : decode cX11_allSeenIsSo 72 = .ok (.iaload, 1) := by decide +kernel
theorem dX11_allSeenIsSo_73 : decode cX11_allSeenIsSo 73 = .ok (.if_icmp .eq 5, 3) := by decide +kernel
theorem dX11_allSeenIsSo_76 : decode cX11_allSeenIsSo 76 = .ok (.iconst 0, 1) := by decide +kernel
theorem dX11_allSeenIsSo_77 : decode cX11_allSeenIsSo 77 = .ok (.ireturn, 1) := by decide +kernel
theorem dX11_allSeenIsSo_78 : decode cX11_allSeenIsSo 78 = .ok (.iinc 2 1, 3) := by decide +kernel
theorem dX11_allSeenIsSo_81 : decode cX11_allSeenIsSo 81 = .ok (.goto (-71), 3) := by decide +kernel
theorem dX11_allSeenIsSo_84 : decode cX11_allSeenIsSo 84 = .ok (.aload_n 0, 1) := by decide +kernel
theorem dX11_allSeenIsSo_85 : decode cX11_allSeenIsSo 85 = .ok (.getfield 69, 3) := by decide +kernel
theorem dX11_allSeenIsSo_88 : decode cX11_allSeenIsSo 88 = .ok (.aload_n 0, 1) := by decide +kernel
theorem dX11_allSeenIsSo_89 : decode cX11_allSeenIsSo 89 = .ok (.getfield 58, 3) := by decide +kernel
theorem dX11_allSeenIsSo_92 : decode cX11_allSeenIsSo 92 = .ok (.aload_n 0, 1) := by decide +kernel
theorem dX11_allSeenIsSo_93 : decode cX11_allSeenIsSo 93 = .ok (.getfield 58, 3) := by decide +kernel
theorem dX11_allSeenIsSo_96 : decode cX11_allSeenIsSo 96 = .ok (.getfield 139, 3) := by decide +kernel
theorem dX11_allSeenIsSo_99 : decode cX11_allSeenIsSo 99 = .ok (.getfield 172, 3) := by decide +kernel
theorem dX11_allSeenIsSo_102 : decode cX11_allSeenIsSo 102 = .ok (.iconst (-1), 1) := by decide +kernel
theorem dX11_allSeenIsSo_103 : decode cX11_allSeenIsSo 103 = .ok (.invokevirtual 203, 3) := by decide +kernel
theorem dX11_allSeenIsSo_106 : decode cX11_allSeenIsSo 106 = .ok (.pop, 1) := by decide +kernel
theorem dX11_allSeenIsSo_107 : decode cX11_allSeenIsSo 107 = .ok (.iinc 1 1, 3) := by decide +kernel
theorem dX11_allSeenIsSo_110 : decode cX11_allSeenIsSo 110 = .ok (.goto (-108), 3) := by decide +kernel
theorem dX11_allSeenIsSo_113 : decode cX11_allSeenIsSo 113 = .ok (.iconst 1, 1) := by decide +kernel
theorem dX11_allSeenIsSo_114 : decode cX11_allSeenIsSo 114 = .ok (.ireturn, 1) := by decide +kernel
theorem dX11_partOfFraction_0 : decode cX11_partOfFraction 0 = .ok (.iconst 1, 1) := by decide +kernel
theorem dX11_partOfFraction_1 : decode cX11_partOfFraction 1 = .ok (.istore_n 3, 1) := by decide +kernel
theorem dX11_partOfFraction_2 : decode cX11_partOfFraction 2 = .ok (.iconst 2, 1) := by decide +kernel
theorem dX11_partOfFraction_3 : decode cX11_partOfFraction 3 = .ok (.istore 4, 2) := by decide +kernel
theorem dX11_partOfFraction_5 : decode cX11_partOfFraction 5 = .ok (.iload 4, 2) := by decide +kernel
theorem dX11_partOfFraction_7 : decode cX11_partOfFraction 7 = .ok (.iload_n 1, 1) := by decide +kernel
theorem dX11_partOfFraction_8 : decode cX11_partOfFraction 8 = .ok (.if_icmp .gt 26, 3) := by decide +kernel
theorem dX11_partOfFraction_11 : decode cX11_partOfFraction 11 = .ok (.iload_n 0, 1) := by decide +kernel
theorem dX11_partOfFraction_12 : decode cX11_partOfFraction 12 = .ok (.iload 4, 2) := by decide +kernel
theorem dX11_partOfFraction_14 : decode cX11_partOfFraction 14 = .ok (.irem, 1) := by decide +kernel
theorem dX11_partOfFraction_15 : decode cX11_partOfFraction 15 = .ok (.ifCond .ne 13, 3) := by decide +kernel
theorem dX11_partOfFraction_18 : decode cX11_partOfFraction 18 = .ok (.iload_n 1, 1) := by decide +kernel
theorem dX11_partOfFraction_19 : decode cX11_partOfFraction 19 = .ok (.iload 4, 2) := by decide +kernel
theorem dX11_partOfFraction_21 : decode cX11_partOfFraction 21 = .ok (.irem, 1) := by decide +kernel
theorem dX11_partOfFraction_22 : decode cX11_partOfFraction 22 = .ok (.ifCond .ne 6, 3) := by decide +kernel
theorem dX11_partOfFraction_25 : decode cX11_partOfFraction 25 = .ok (.iload 4, 2) := by decide +kernel
theorem dX11_partOfFraction_27 : decode cX11_partOfFraction 27 = .ok (.istore_n 3, 1) := by decide +kernel
theorem dX11_partOfFraction_28 : decode cX11_partOfFraction 28 = .ok (.iinc 4 1, 3) := by decide +kernel
theorem dX11_partOfFraction_31 : decode cX11_partOfFraction 31 = .ok (.goto (-26), 3) := by decide +kernel
theorem dX11_partOfFraction_34 : decode cX11_partOfFraction 34 = .ok (.iload_n 2, 1) := by decide +kernel
theorem dX11_partOfFraction_35 : decode cX11_partOfFraction 35 = .ok (.ifCond .ne 10, 3) := by decide +kernel
theorem dX11_partOfFraction_38 : decode cX11_partOfFraction 38 = .ok (.iload_n 0, 1) := by decide +kernel
theorem dX11_partOfFraction_39 : decode cX11_partOfFraction 39 = .ok (.iload_n 3, 1) := by decide +kernel
theorem dX11_partOfFraction_40 : decode cX11_partOfFraction 40 = .ok (.idiv, 1) := by decide +kernel
theorem dX11_partOfFraction_41 : decode cX11_partOfFraction 41 = .ok (.i2l, 1) := by decide +kernel
theorem dX11_partOfFraction_42 : decode cX11_partOfFraction 42 = .ok (.goto 7, 3) := by decide +kernel
theorem dX11_partOfFraction_45 : decode cX11_partOfFraction 45 = .ok (.iload_n 1, 1) := by decide +kernel
theorem dX11_partOfFraction_46 : decode cX11_partOfFraction 46 = .ok (.iload_n 3, 1) := by decide +kernel
theorem dX11_partOfFraction_47 : decode cX11_partOfFraction 47 = .ok (.idiv, 1) := by decide +kernel
theorem dX11_partOfFraction_48 : decode cX11_partOfFraction 48 = .ok (.i2l, 1) := by decide +kernel
theorem dX11_partOfFraction_49 : decode cX11_partOfFraction 49 = .ok (.lreturn, 1) := by decide +kernel
theorem dX11_asItem_0 : decode cX11_asItem 0 = .ok (.iload_n 0, 1) := by decide +kernel
theorem dX11_asItem_1 : decode cX11_asItem 1 = .ok (.tableswitch 47 0 3 #[31, 36, 41, 45], 31) := by decide +kernel
theorem dX11_asItem_32 : decode cX11_asItem 32 = .ok (.lload_n 1, 1) := by decide +kernel
theorem dX11_asItem_33 : decode cX11_asItem 33 = .ok (.l2i, 1) := by decide +kernel
theorem dX11_asItem_34 : decode cX11_asItem 34 = .ok (.i2b, 1) := by decide +kernel
theorem dX11_asItem_35 : decode cX11_asItem 35 = .ok (.i2l, 1) := by decide +kernel
theorem dX11_asItem_36 : decode cX11_asItem 36 = .ok (.lreturn, 1) := by decide +kernel
theorem dX11_asItem_37 : decode cX11_asItem 37 = .ok (.lload_n 1, 1) := by decide +kernel
theorem dX11_asItem_38 : decode cX11_asItem 38 = .ok (.l2i, 1) := by decide +kernel
theorem dX11_asItem_39 : decode cX11_asItem 39 = .ok (.i2s, 1) := by decide +kernel
theorem dX11_asItem_40 : decode cX11_asItem 40 = .ok (.i2l, 1) := by decide +kernel
theorem dX11_asItem_41 : decode cX11_asItem 41 = .ok (.lreturn, 1) := by decide +kernel
theorem dX11_asItem_42 : decode cX11_asItem 42 = .ok (.lload_n 1, 1) := by decide +kernel
theorem dX11_asItem_43 : decode cX11_asItem 43 = .ok (.l2i, 1) := by decide +kernel
theorem dX11_asItem_44 : decode cX11_asItem 44 = .ok (.i2l, 1) := by decide +kernel
theorem dX11_asItem_45 : decode cX11_asItem 45 = .ok (.lreturn, 1) := by decide +kernel
theorem dX11_asItem_46 : decode cX11_asItem 46 = .ok (.lload_n 1, 1) := by decide +kernel
theorem dX11_asItem_47 : decode cX11_asItem 47 = .ok (.lreturn, 1) := by decide +kernel
theorem dX11_asItem_48 : decode cX11_asItem 48 = .ok (.lload_n 1, 1) := by decide +kernel
theorem dX11_asItem_49 : decode cX11_asItem 49 = .ok (.lconst 0, 1) := by decide +kernel
theorem dX11_asItem_50 : decode cX11_asItem 50 = .ok (.lcmp, 1) := by decide +kernel
theorem dX11_asItem_51 : decode cX11_asItem 51 = .ok (.ifCond .eq 7, 3) := by decide +kernel
theorem dX11_asItem_54 : decode cX11_asItem 54 = .ok (.lconst 1, 1) := by decide +kernel
theorem dX11_asItem_55 : decode cX11_asItem 55 = .ok (.goto 4, 3) := by decide +kernel
theorem dX11_asItem_58 : decode cX11_asItem 58 = .ok (.lconst 0, 1) := by decide +kernel
theorem dX11_asItem_59 : decode cX11_asItem 59 = .ok (.lreturn, 1) := by decide +kernel
end
section
theorem dX12_init_0 : decode cX12_init 0 = .ok (.aload_n 0, 1) := by decide +kernel
theorem dX12_init_1 : decode cX12_init 1 = .ok (.invokespecial 1, 3) := by decide +kernel
theorem dX12_init_4 : decode cX12_init 4 = .ok (.aload_n 0, 1) := by decide +kernel
theorem dX12_init_5 : decode cX12_init 5 = .ok (.iconst 0, 1) := by decide +kernel
theorem dX12_init_6 : decode cX12_init 6 = .ok (.putfield 7, 3) := by decide +kernel
theorem dX12_init_9 : decode cX12_init 9 = .ok (.aload_n 0, 1) := by decide +kernel
theorem dX12_init_10 : decode cX12_init 10 = .ok (.iconst 0, 1) := by decide +kernel
theorem dX12_init_11 : decode cX12_init 11 = .ok (.putfield 13, 3) := by decide +kernel
theorem dX12_init_14 : decode cX12_init 14 = .ok (.aload_n 0, 1) := by decide +kernel
theorem dX12_init_15 : decode cX12_init 15 = .ok (.iconst 0, 1) := by decide +kernel
theorem dX12_init_16 : decode cX12_init 16 = .ok (.putfield 16, 3) := by decide +kernel
theorem dX12_init_19 : decode cX12_init 19 = .ok (.aload_n 0, 1) := by decide +kernel
theorem dX12_init_20 : decode cX12_init 20 = .ok (.bipush 7, 2) := by decide +kernel
theorem dX12_init_22 : decode cX12_init 22 = .ok (.newarray .int, 2) := by decide +kernel
theorem dX12_init_24 : decode cX12_init 24 = .ok (.putfield 19, 3) := by decide +kernel
theorem dX12_init_27 : decode cX12_init 27 = .ok (.aload_n 0, 1) := by decide +kernel
theorem dX12_init_28 : decode cX12_init 28 = .ok (.bipush 7, 2) := by decide +kernel
theorem dX12_init_30 : decode cX12_init 30 = .ok (.newarray .int, 2) := by decide +kernel
theorem dX12_init_32 : decode cX12_init 32 = .ok (.putfield 23, 3) := by decide +kernel
theorem dX12_init_35 : decode cX12_init 35 = .ok (.aload_n 0, 1) := by decide +kernel
theorem dX12_init_36 : decode cX12_init 36 = .ok (.bipush 7, 2) := by decide +kernel
theorem dX12_init_38 : decode cX12_init 38 = .ok (.newarray .int, 2) := by decide +kernel
theorem dX12_init_40 : decode cX12_init 40 = .ok (.putfield 26, 3) := by decide +kernel
theorem dX12_init_43 : decode cX12_init 43 = .ok (.aload_n 0, 1) := by decide +kernel
theorem dX12_init_44 : decode cX12_init 44 = .ok (.bipush 7, 2) := by decide +kernel
theorem dX12_init_46 : decode cX12_init 46 = .ok (.newarray .int, 2) := by decide +kernel
theorem dX12_init_48 : decode cX12_init 48 = .ok (.putfield 29, 3) := by decide +kernel
theorem dX12_init_51 : decode cX12_init 51 = .ok (.aload_n 0, 1) := by decide +kernel
theorem dX12_init_52 : decode cX12_init 52 = .ok (.bipush 7, 2) := by decide +kernel
theorem dX12_init_54 : decode cX12_init 54 = .ok (.newarray .int, 2) := by decide +kernel
theorem dX12_init_56 : decode cX12_init 56 = .ok (.putfield 32, 3) := by decide +kernel
theorem dX12_init_59 : decode cX12_init 59 = .ok (.aload_n 0, 1) := by decide +kernel
theorem dX12_init_60 : decode cX12_init 60 = .ok (.bipush 28, 2) := by decide +kernel
theorem dX12_init_62 : decode cX12_init 62 = .ok (.newarray .int, 2) := by decide +kernel
theorem dX12_init_64 : decode cX12_init 64 = .ok (.putfield 35, 3) := by decide +kernel
theorem dX12_init_67 : decode cX12_init 67 = .ok (.aload_n 0, 1) := by decide +kernel
theorem dX12_init_68 : decode cX12_init 68 = .ok (.iconst 4, 1) := by decide +kernel
theorem dX12_init_69 : decode cX12_init 69 = .ok (.newarray .int, 2) := by decide +kernel
theorem dX12_init_71 : decode cX12_init 71 = .ok (.dup, 1) := by decide +kernel
theorem dX12_init_72 : decode cX12_init 72 = .ok (.iconst 0, 1) := by decide +kernel
theorem dX12_init_73 : decode cX12_init 73 = .ok (.iconst 3, 1) := by decide +kernel
theorem dX12_init_74 : decode cX12_init 74 = .ok (.iastore, 1) := by decide +kernel
theorem dX12_init_75 : decode cX12_init 75 = .ok (.dup, 1) := by decide +kernel
theorem dX12_init_76 : decode cX12_init 76 = .ok (.iconst 1, 1) := by decide +kernel
theorem dX12_init_77 : decode cX12_init 77 = .ok (.iconst 3, 1) := by decide +kernel
theorem dX12_init_78 : decode cX12_init 78 = .ok (.iastore, 1) := by decide +kernel
theorem dX12_init_79 : decode cX12_init 79 = .ok (.dup, 1) := by decide +kernel
theorem dX12_init_80 : decode cX12_init 80 = .ok (.iconst 2, 1) := by decide +kernel
theorem dX12_init_81 : decode cX12_init 81 = .ok (.iconst 3, 1) := by decide +kernel
theorem dX12_init_82 : decode cX12_init 82 = .ok (.iastore, 1) := by decide +kernel
theorem dX12_init_83 : decode cX12_init 83 = .ok (.dup, 1) := by decide +kernel
theorem dX12_init_84 : decode cX12_init 84 = .ok (.iconst 3, 1) := by decide +kernel
theorem dX12_init_85 : decode cX12_init 85 = .ok (.iconst 3, 1) := by decide +kernel
theorem dX12_init_86 : decode cX12_init 86 = .ok (.iastore, 1) := by decide +kernel
theorem dX12_init_87 : decode cX12_init 87 = .ok (.putfield 38, 3) := by decide +kernel
theorem dX12_init_90 : decode cX12_init 90 = .ok (.aload_n 0, 1) := by decide +kernel
theorem dX12_init_91 : decode cX12_init 91 = .ok (.iconst 0, 1) := by decide +kernel
theorem dX12_init_92 : decode cX12_init 92 = .ok (.putfield 41, 3) := by decide +kernel
theorem dX12_init_95 : decode cX12_init 95 = .ok (.aload_n 0, 1) := by decide +kernel
theorem dX12_init_96 : decode cX12_init 96 = .ok (.iconst (-1), 1) := by decide +kernel
theorem dX12_init_97 : decode cX12_init 97 = .ok (.putfield 44, 3) := by decide +kernel
theorem dX12_init_100 : decode cX12_init 100 = .ok (.aload_n 0, 1) := by decide +kernel
theorem dX12_init_101 : decode cX12_init 101 = .ok (.iconst 0, 1) := by decide +kernel
theorem dX12_init_102 : decode cX12_init 102 = .ok (.putfield 47, 3) := by decide +kernel
theorem dX12_init_105 : decode cX12_init 105 = .ok (.aload_n 0, 1) := by decide +kernel
theorem dX12_init_106 : decode cX12_init 106 = .ok (.iconst 0, 1) := by decide +kernel
theorem dX12_init_107 : decode cX12_init 107 = .ok (.putfield 50, 3) := by decide +kernel
theorem dX12_init_110 : decode cX12_init 110 = .ok (.aload_n 0, 1) := by decide +kernel
theorem dX12_init_111 : decode cX12_init 111 = .ok (.iconst 0, 1) := by decide +kernel
theorem dX12_init_112 : decode cX12_init 112 = .ok (.putfield 53, 3) := by decide +kernel
theorem dX12_init_115 : decode cX12_init 115 = .ok (.aload_n 0, 1) := by decide +kernel
theorem dX12_init_116 : decode cX12_init 116 = .ok (.bipush 100, 2) := by decide +kernel
theorem dX12_init_118 : decode cX12_init 118 = .ok (.newarray .int, 2) := by decide +kernel
theorem dX12_init_120 : decode cX12_init 120 = .ok (.putfield 56, 3) := by decide +kernel
theorem dX12_init_123 : decode cX12_init 123 = .ok (.aload_n 0, 1) := by decide +kernel
theorem dX12_init_124 : decode cX12_init 124 = .ok (.bipush 6, 2) := by decide +kernel
theorem dX12_init_126 : decode cX12_init 126 = .ok (.newarray .int, 2) := by decide +kernel
theorem dX12_init_128 : decode cX12_init 128 = .ok (.putfield 59, 3) := by decide +kernel
theorem dX12_init_131 : decode cX12_init 131 = .ok (.aload_n 0, 1) := by decide +kernel
theorem dX12_init_132 : decode cX12_init 132 = .ok (.bipush 60, 2) := by decide +kernel
theorem dX12_init_134 : decode cX12_init 134 = .ok (.newarray .int, 2) := by decide +kernel
theorem dX12_init_136 : decode cX12_init 136 = .ok (.putfield 62, 3) := by decide +kernel
theorem dX12_init_139 : decode cX12_init 139 = .ok (.aload_n 0, 1) := by decide +kernel
theorem dX12_init_140 : decode cX12_init 140 = .ok (.bipush 60, 2) := by decide +kernel
theorem dX12_init_142 : decode cX12_init 142 = .ok (.newarray .int, 2) := by decide +kernel
theorem dX12_init_144 : decode cX12_init 144 = .ok (.putfield 65, 3) := by decide +kernel
theorem dX12_init_147 : decode cX12_init 147 = .ok (.aload_n 0, 1) := by decide +kernel
theorem dX12_init_148 : decode cX12_init 148 = .ok (.bipush 60, 2) := by decide +kernel
theorem dX12_init_150 : decode cX12_init 150 = .ok (.newarray .int, 2) := by decide +kernel
theorem dX12_init_152 : decode cX12_init 152 = .ok (.putfield 68, 3) := by decide +kernel
theorem dX12_init_155 : decode cX12_init 155 = .ok (.aload_n 0, 1) := by decide +kernel
theorem dX12_init_156 : decode cX12_init 156 = .ok (.bipush 60, 2) := by decide +kernel
theorem dX12_init_158 : decode cX12_init 158 = .ok (.newarray .int, 2) := by decide +kernel
theorem dX12_init_160 : decode cX12_init 160 = .ok (.putfield 71, 3) := by decide +kernel
theorem dX12_init_163 : decode cX12_init 163 = .ok (.aload_n 0, 1) := by decide +kernel
theorem dX12_init_164 : decode cX12_init 164 = .ok (.sipush 600, 3) := by decide +kernel
theorem dX12_init_167 : decode cX12_init 167 = .ok (.newarray .int, 2) := by decide +kernel
theorem dX12_init_169 : decode cX12_init 169 = .ok (.putfield 74, 3) := by decide +kernel
theorem dX12_init_172 : decode cX12_init 172 = .ok (.aload_n 0, 1) := by decide +kernel
theorem dX12_init_173 : decode cX12_init 173 = .ok (.bipush 101, 2) := by decide +kernel
theorem dX12_init_175 : decode cX12_init 175 = .ok (.newarray .int, 2) := by decide +kernel
theorem dX12_init_177 : decode cX12_init 177 = .ok (.putfield 77, 3) := by decide +kernel
theorem dX12_init_180 : decode cX12_init 180 = .ok (.aload_n 0, 1) := by decide +kernel
theorem dX12_init_181 : decode cX12_init 181 = .ok (.iconst 0, 1) := by decide +kernel
theorem dX12_init_182 : decode cX12_init 182 = .ok (.putfield 80, 3) := by decide +kernel
theorem dX12_init_185 : decode cX12_init 185 = .ok (.aload_n 0, 1) := by decide +kernel
theorem dX12_init_186 : decode cX12_init 186 = .ok (.iconst 0, 1) := by decide +kernel
theorem dX12_init_187 : decode cX12_init 187 = .ok (.putfield 83, 3) := by decide +kernel
theorem dX12_init_190 : decode cX12_init 190 = .ok (.aload_n 0, 1) := by decide +kernel
theorem dX12_init_191 : decode cX12_init 191 = .ok (.iconst 0, 1) := by decide +kernel
theorem dX12_init_192 : decode cX12_init 192 = .ok (.putfield 86, 3) := by decide +kernel
theorem dX12_init_195 : decode cX12_init 195 = .ok (.aload_n 0, 1) := by decide +kernel
theorem dX12_init_196 : decode cX12_init 196 = .ok (.bipush 23, 2) := by decide +kernel
theorem dX12_init_198 : decode cX12_init 198 = .ok (.newarray .int, 2) := by decide +kernel
theorem dX12_init_200 : decode cX12_init 200 = .ok (.dup, 1) := by decide +kernel
theorem dX12_init_201 : decode cX12_init 201 = .ok (.iconst 0, 1) := by decide +kernel
theorem dX12_init_202 : decode cX12_init 202 = .ok (.bipush 119, 2) := by decide +kernel
theorem dX12_init_204 : decode cX12_init 204 = .ok (.iastore, 1) := by decide +kernel
theorem dX12_init_205 : decode cX12_init 205 = .ok (.dup, 1) := by decide +kernel
theorem dX12_init_206 : decode cX12_init 206 = .ok (.iconst 1, 1) := by decide +kernel
theorem dX12_init_207 : decode cX12_init 207 = .ok (.bipush 111, 2) := by decide +kernel
theorem dX12_init_209 : decode cX12_init 209 = .ok (.iastore, 1) := by decide +kernel
theorem dX12_init_210 : decode cX12_init 210 = .ok (.dup, 1) := by decide +kernel
theorem dX12_init_211 : decode cX12_init 211 = .ok (.iconst 2, 1) := by decide +kernel
theorem dX12_init_212 : decode cX12_init 212 = .ok (.bipush 98, 2) := by decide +kernel
theorem dX12_init_214 : decode cX12_init 214 = .ok (.iastore, 1) := by decide +kernel
theorem dX12_init_215 : decode cX12_init 215 = .ok (.dup, 1) := by decide +kernel
theorem dX12_init_216 : decode cX12_init 216 = .ok (.iconst 3, 1) := by decide +kernel
theorem dX12_init_217 : decode cX12_init 217 = .ok (.bipush 98, 2) := by decide +kernel
theorem dX12_init_219 : decode cX12_init 219 = .ok (.iastore, 1) := by decide +kernel
theorem dX12_init_220 : decode cX12_init 220 = .ok (.dup, 1) := by decide +kernel
theorem dX12_init_221 : decode cX12_init 221 = .ok (.iconst 4, 1) := by decide +kernel
theorem dX12_init_222 : decode cX12_init 222 = .ok (.bipush 108, 2) := by decide +kernel
theorem dX12_init_224 : decode cX12_init 224 = .ok (.iastore, 1) := by decide +kernel
theorem dX12_init_225 : decode cX12_init 225 = .ok (.dup, 1) := by decide +kernel
theorem dX12_init_226 : decode cX12_init 226 = .ok (.iconst 5, 1) := by decide +kernel
theorem dX12_init_227 : decode cX12_init 227 = .ok (.bipush 101, 2) := by decide +kernel
theorem dX12_init_229 : decode cX12_init 229 = .ok (.iastore, 1) := by decide +kernel
theorem dX12_init_230 : decode cX12_init 230 = .ok (.dup, 1) := by decide +kernel
theorem dX12_init_231 : decode cX12_init 231 = .ok (.bipush 6, 2) := by decide +kernel
theorem dX12_init_233 : decode cX12_init 233 = .ok (.bipush 115, 2) := by decide +kernel
theorem dX12_init_235 : decode cX12_init 235 = .ok (.iastore, 1) := by decide +kernel
theorem dX12_init_236 : decode cX12_init 236 = .ok (.dup, 1) := by decide +kernel
theorem dX12_init_237 : decode cX12_init 237 = .ok (.bipush 7, 2) := by decide +kernel
theorem dX12_init_239 : decode cX12_init 239 = .ok (.bipush 116, 2) := by decide +kernel
theorem dX12_init_241 : decode cX12_init 241 = .ok (.iastore, 1) := by decide +kernel
theorem dX12_init_242 : decode cX12_init 242 = .ok (.dup, 1) := by decide +kernel
theorem dX12_init_243 : decode cX12_init 243 = .ok (.bipush 8, 2) := by decide +kernel
theorem dX12_init_245 : decode cX12_init 245 = .ok (.bipush 105, 2) := by decide +kernel
theorem dX12_init_247 : decode cX12_init 247 = .ok (.iastore, 1) := by decide +kernel
theorem dX12_init_248 : decode cX12_init 248 = .ok (.dup, 1) := by decide +kernel
theorem dX12_init_249 : decode cX12_init 249 = .ok (.bipush 9, 2) := by decide +kernel
theorem dX12_init_251 : decode cX12_init 251 = .ok (.bipush 108, 2) := by decide +kernel
theorem dX12_init_253 : decode cX12_init 253 = .ok (.iastore, 1) := by decide +kernel
theorem dX12_init_254 : decode cX12_init 254 = .ok (.dup, 1) := by decide +kernel
theorem dX12_init_255 : decode cX12_init 255 = .ok (.bipush 10, 2) := by decide +kernel
theorem dX12_init_257 : decode cX12_init 257 = .ok (.bipush 108, 2) := by decide +kernel
theorem dX12_init_259 : decode cX12_init 259 = .ok (.iastore, 1) := by decide +kernel
theorem dX12_init_260 : decode cX12_init 260 = .ok (.dup, 1) := by decide +kernel
theorem dX12_init_261 : decode cX12_init 261 = .ok (.bipush 11, 2) := by decide +kernel
theorem dX12_init_263 : decode cX12_init 263 = .ok (.bipush 102, 2) := by decide +kernel
theorem dX12_init_265 : decode cX12_init 265 = .ok (.iastore, 1) := by decide +kernel
theorem dX12_init_266 : decode cX12_init 266 = .ok (.dup, 1) := by decide +kernel
theorem dX12_init_267 : decode cX12_init 267 = .ok (.bipush 12, 2) := by decide +kernel
theorem dX12_init_269 : decode cX12_init 269 = .ok (.bipush 97, 2) := by decide +kernel
theorem dX12_init_271 : decode cX12_init 271 = .ok (.iastore, 1) := by decide +kernel
theorem dX12_init_272 : decode cX12_init 272 = .ok (.dup, 1) := by decide +kernel
theorem dX12_init_273 : decode cX12_init 273 = .ok (.bipush 13, 2) := by decide +kernel
theorem dX12_init_275 : decode cX12_init 275 = .ok (.bipush 114, 2) := by decide +kernel
theorem dX12_init_277 : decode cX12_init 277 = .ok (.iastore, 1) := by decide +kernel
theorem dX12_init_278 : decode cX12_init 278 = .ok (.dup, 1) := by decide +kernel
theorem dX12_init_279 : decode cX12_init 279 = .ok (.bipush 14, 2) := by decide +kernel
theorem dX12_init_281 : decode cX12_init 281 = .ok (.bipush 115, 2) := by decide +kernel
theorem dX12_init_283 : decode cX12_init 283 = .ok (.iastore, 1) := by decide +kernel
theorem dX12_init_284 : decode cX12_init 284 = .ok (.dup, 1) := by decide +kernel
theorem dX12_init_285 : decode cX12_init 285 = .ok (.bipush 15, 2) := by decide +kernel
theorem dX12_init_287 : decode cX12_init 287 = .ok (.bipush 104, 2) := by decide +kernel
theorem dX12_init_289 : decode cX12_init 289 = .ok (.iastore, 1) := by decide +kernel
theorem dX12_init_290 : decode cX12_init 290 = .ok (.dup, 1) := by decide +kernel
theorem dX12_init_291 : decode cX12_init 291 = .ok (.bipush 16, 2) := by decide +kernel
theorem dX12_init_293 : decode cX12_init 293 = .ok (.bipush 97, 2) := by decide +kernel
theorem dX12_init_295 : decode cX12_init 295 = .ok (.iastore, 1) := by decide +kernel
theorem dX12_init_296 : decode cX12_init 296 = .ok (.dup, 1) := by decide +kernel
theorem dX12_init_297 : decode cX12_init 297 = .ok (.bipush 17, 2) := by decide +kernel
theorem dX12_init_299 : decode cX12_init 299 = .ok (.bipush 114, 2) := by decide +kernel
theorem dX12_init_301 : decode cX12_init 301 = .ok (.iastore, 1) := by decide +kernel
theorem dX12_init_302 : decode cX12_init 302 = .ok (.dup, 1) := by decide +kernel
theorem dX12_init_303 : decode cX12_init 303 = .ok (.bipush 18, 2) := by decide +kernel
theorem dX12_init_305 : decode cX12_init 305 = .ok (.bipush 112, 2) := by decide +kernel
theorem dX12_init_307 : decode cX12_init 307 = .ok (.iastore, 1) := by decide +kernel
theorem dX12_init_308 : decode cX12_init 308 = .ok (.dup, 1) := by decide +kernel
theorem dX12_init_309 : decode cX12_init 309 = .ok (.bipush 19, 2) := by decide +kernel
theorem dX12_init_311 : decode cX12_init 311 = .ok (.bipush 115, 2) := by decide +kernel
theorem dX12_init_313 : decode cX12_init 313 = .ok (.iastore, 1) := by decide +kernel
theorem dX12_init_314 : decode cX12_init 314 = .ok (.dup, 1) := by decide +kernel
theorem dX12_init_315 : decode cX12_init 315 = .ok (.bipush 20, 2) := by decide +kernel
theorem dX12_init_317 : decode cX12_init 317 = .ok (.bipush 101, 2) := by decide +kernel
theorem dX12_init_319 : decode cX12_init 319 = .ok (.iastore, 1) := by decide +kernel
theorem dX12_init_320 : decode cX12_init 320 = .ok (.dup, 1) := by decide +kernel
theorem dX12_init_321 : decode cX12_init 321 = .ok (.bipush 21, 2) := by decide +kernel
theorem dX12_init_323 : decode cX12_init 323 = .ok (.bipush 101, 2) := by decide +kernel
theorem dX12_init_325 : decode cX12_init 325 = .ok (.iastore, 1) := by decide +kernel
theorem dX12_init_326 : decode cX12_init 326 = .ok (.dup, 1) := by decide +kernel
theorem dX12_init_327 : decode cX12_init 327 = .ok (.bipush 22, 2) := by decide +kernel
theorem dX12_init_329 : decode cX12_init 329 = .ok (.bipush 115, 2) := by decide +kernel
theorem dX12_init_331 : decode cX12_init 331 = .ok (.iastore, 1) := by decide +kernel
theorem dX12_init_332 : decode cX12_init 332 = .ok (.putfield 89, 3) := by decide +kernel
theorem dX12_init_335 : decode cX12_init 335 = .ok (.aload_n 0, 1) := by decide +kernel
theorem dX12_init_336 : decode cX12_init 336 = .ok (.iconst (-1), 1) := by decide +kernel
theorem dX12_init_337 : decode cX12_init 337 = .ok (.putfield 92, 3) := by decide +kernel
theorem dX12_init_340 : decode cX12_init 340 = .ok (.aload_n 0, 1) := by decide +kernel
theorem dX12_init_341 : decode cX12_init 341 = .ok (.bipush 100, 2) := by decide +kernel
theorem dX12_init_343 : decode cX12_init 343 = .ok (.newarray .boolean, 2) := by decide +kernel
theorem dX12_init_345 : decode cX12_init 345 = .ok (.putfield 95, 3) := by decide +kernel
theorem dX12_init_348 : decode cX12_init 348 = .ok (.aload_n 0, 1) := by decide +kernel
theorem dX12_init_349 : decode cX12_init 349 = .ok (.sipush 9999, 3) := by decide +kernel
theorem dX12_init_352 : decode cX12_init 352 = .ok (.putfield 99, 3) := by decide +kernel
theorem dX12_init_355 : decode cX12_init 355 = .ok (.aload_n 0, 1) := by decide +kernel
theorem dX12_init_356 : decode cX12_init 356 = .ok (.iconst (-1), 1) := by decide +kernel
theorem dX12_init_357 : decode cX12_init 357 = .ok (.putfield 102, 3) := by decide +kernel
theorem dX12_init_360 : decode cX12_init 360 = .ok (.aload_n 0, 1) := by decide +kernel
theorem dX12_init_361 : decode cX12_init 361 = .ok (.bipush 7, 2) := by decide +kernel
theorem dX12_init_363 : decode cX12_init 363 = .ok (.newarray .int, 2) := by decide +kernel
theorem dX12_init_365 : decode cX12_init 365 = .ok (.putfield 105, 3) := by decide +kernel
theorem dX12_init_368 : decode cX12_init 368 = .ok (.aload_n 0, 1) := by decide +kernel
theorem dX12_init_369 : decode cX12_init 369 = .ok (.bipush 7, 2) := by decide +kernel
theorem dX12_init_371 : decode cX12_init 371 = .ok (.newarray .int, 2) := by decide +kernel
theorem dX12_init_373 : decode cX12_init 373 = .ok (.putfield 108, 3) := by decide +kernel
theorem dX12_init_376 : decode cX12_init 376 = .ok (.aload_n 0, 1) := by decide +kernel
theorem dX12_init_377 : decode cX12_init 377 = .ok (.iconst 0, 1) := by decide +kernel
theorem dX12_init_378 : decode cX12_init 378 = .ok (.putfield 111, 3) := by decide +kernel
theorem dX12_init_381 : decode cX12_init 381 = .ok (.aload_n 0, 1) := by decide +kernel
theorem dX12_init_382 : decode cX12_init 382 = .ok (.iconst 0, 1) := by decide +kernel
theorem dX12_init_383 : decode cX12_init 383 = .ok (.putfield 114, 3) := by decide +kernel
theorem dX12_init_386 : decode cX12_init 386 = .ok (.aload_n 0, 1) := by decide +kernel
theorem dX12_init_387 : decode cX12_init 387 = .ok (.bipush 7, 2) := by decide +kernel
theorem dX12_init_389 : decode cX12_init 389 = .ok (.newarray .int, 2) := by decide +kernel
theorem dX12_init_391 : decode cX12_init 391 = .ok (.putfield 117, 3) := by decide +kernel
theorem dX12_init_394 : decode cX12_init 394 = .ok (.aload_n 0, 1) := by decide +kernel
theorem dX12_init_395 : decode cX12_init 395 = .ok (.bipush 7, 2) := by decide +kernel
theorem dX12_init_397 : decode cX12_init 397 = .ok (.newarray .int, 2) := by decide +kernel
theorem dX12_init_399 : decode cX12_init 399 = .ok (.putfield 120, 3) := by decide +kernel
theorem dX12_init_402 : decode cX12_init 402 = .ok (.aload_n 0, 1) := by decide +kernel
theorem dX12_init_403 : decode cX12_init 403 = .ok (.bipush 7, 2) := by decide +kernel
theorem dX12_init_405 : decode cX12_init 405 = .ok (.newarray .int, 2) := by decide +kernel
theorem dX12_init_407 : decode cX12_init 407 = .ok (.putfield 123, 3) := by decide +kernel
theorem dX12_init_410 : decode cX12_init 410 = .ok (.aload_n 0, 1) := by decide +kernel
theorem dX12_init_411 : decode cX12_init 411 = .ok (.iconst 0, 1) := by decide +kernel
theorem dX12_init_412 : decode cX12_init 412 = .ok (.putfield 126, 3) := by decide +kernel
theorem dX12_init_415 : decode cX12_init 415 = .ok (.aload_n 0, 1) := by decide +kernel
theorem dX12_init_416 : decode cX12_init 416 = .ok (.iconst 0, 1) := by decide +kernel
theorem dX12_init_417 : decode cX12_init 417 = .ok (.putfield 129, 3) := by decide +kernel
theorem dX12_init_420 : decode cX12_init 420 = .ok (.aload_n 0, 1) := by decide +kernel
theorem dX12_init_421 : decode cX12_init 421 = .ok (.iconst 4, 1) := by decide +kernel
theorem dX12_init_422 : decode cX12_init 422 = .ok (.newarray .int, 2) := by decide +kernel
theorem dX12_init_424 : decode cX12_init 424 = .ok (.putfield 132, 3) := by decide +kernel
theorem dX12_init_427 : decode cX12_init 427 = .ok (.aload_n 0, 1) := by decide +kernel
theorem dX12_init_428 : decode cX12_init 428 = .ok (.iconst 4, 1) := by decide +kernel
theorem dX12_init_429 : decode cX12_init 429 = .ok (.newarray .int, 2) := by decide +kernel
theorem dX12_init_431 : decode cX12_init 431 = .ok (.putfield 135, 3) := by decide +kernel
theorem dX12_init_434 : decode cX12_init 434 = .ok (.aload_n 0, 1) := by decide +kernel
theorem dX12_init_435 : decode cX12_init 435 = .ok (.iconst 0, 1) := by decide +kernel
theorem dX12_init_436 : decode cX12_init 436 = .ok (.putfield 138, 3) := by decide +kernel
theorem dX12_init_439 : decode cX12_init 439 = .ok (.aload_n 0, 1) := by decide +kernel
theorem dX12_init_440 : decode cX12_init 440 = .ok (.iconst 4, 1) := by decide +kernel
theorem dX12_init_441 : decode cX12_init 441 = .ok (.newarray .int, 2) := by decide +kernel
theorem dX12_init_443 : decode cX12_init 443 = .ok (.putfield 141, 3) := by decide +kernel
theorem dX12_init_446 : decode cX12_init 446 = .ok (.aload_n 0, 1) := by decide +kernel
theorem dX12_init_447 : decode cX12_init 447 = .ok (.iconst 4, 1) := by decide +kernel
theorem dX12_init_448 : decode cX12_init 448 = .ok (.newarray .int, 2) := by decide +kernel
theorem dX12_init_450 : decode cX12_init 450 = .ok (.putfield 144, 3) := by decide +kernel
theorem dX12_init_453 : decode cX12_init 453 = .ok (.aload_n 0, 1) := by decide +kernel
theorem dX12_init_454 : decode cX12_init 454 = .ok (.iconst 4, 1) := by decide +kernel
theorem dX12_init_455 : decode cX12_init 455 = .ok (.newarray .int, 2) := by decide +kernel
theorem dX12_init_457 : decode cX12_init 457 = .ok (.putfield 147, 3) := by decide +kernel
theorem dX12_init_460 : decode cX12_init 460 = .ok (.aload_n 0, 1) := by decide +kernel
theorem dX12_init_461 : decode cX12_init 461 = .ok (.iconst 0, 1) := by decide +kernel
theorem dX12_init_462 : decode cX12_init 462 = .ok (.putfield 150, 3) := by decide +kernel
theorem dX12_init_465 : decode cX12_init 465 = .ok (.aload_n 0, 1) := by decide +kernel
theorem dX12_init_466 : decode cX12_init 466 = .ok (.bipush 8, 2) := by decide +kernel
theorem dX12_init_468 : decode cX12_init 468 = .ok (.newarray .int, 2) := by decide +kernel
theorem dX12_init_470 : decode cX12_init 470 = .ok (.putfield 153, 3) := by decide +kernel
theorem dX12_init_473 : decode cX12_init 473 = .ok (.aload_n 0, 1) := by decide +kernel
theorem dX12_init_474 : decode cX12_init 474 = .ok (.bipush 8, 2) := by decide +kernel
theorem dX12_init_476 : decode cX12_init 476 = .ok (.newarray .int, 2) := by decide +kernel
theorem dX12_init_478 : decode cX12_init 478 = .ok (.putfield 156, 3) := by decide +kernel
theorem dX12_init_481 : decode cX12_init 481 = .ok (.aload_n 0, 1) := by decide +kernel
theorem dX12_init_482 : decode cX12_init 482 = .ok (.iconst 0, 1) := by decide +kernel
theorem dX12_init_483 : decode cX12_init 483 = .ok (.putfield 159, 3) := by decide +kernel
theorem dX12_init_486 : decode cX12_init 486 = .ok (.aload_n 0, 1) := by decide +kernel
theorem dX12_init_487 : decode cX12_init 487 = .ok (.iconst (-1), 1) := by decide +kernel
theorem dX12_init_488 : decode cX12_init 488 = .ok (.putfield 163, 3) := by decide +kernel
theorem dX12_init_491 : decode cX12_init 491 = .ok (.aload_n 0, 1) := by decide +kernel
theorem dX12_init_492 : decode cX12_init 492 = .ok (.iconst 0, 1) := by decide +kernel
theorem dX12_init_493 : decode cX12_init 493 = .ok (.putfield 166, 3) := by decide +kernel
theorem dX12_init_496 : decode cX12_init 496 = .ok (.aload_n 0, 1) := by decide +kernel
theorem dX12_init_497 : decode cX12_init 497 = .ok (.iconst 0, 1) := by decide +kernel
theorem dX12_init_498 : decode cX12_init 498 = .ok (.putfield 169, 3) := by decide +kernel
theorem dX12_init_501 : decode cX12_init 501 = .ok (.aload_n 0, 1) := by decide +kernel
theorem dX12_init_502 : decode cX12_init 502 = .ok (.iconst 0, 1) := by decide +kernel
theorem dX12_init_503 : decode cX12_init 503 = .ok (.putfield 172, 3) := by decide +kernel
theorem dX12_init_506 : decode cX12_init 506 = .ok (.aload_n 0, 1) := by decide +kernel
theorem dX12_init_507 : decode cX12_init 507 = .ok (.iconst 0, 1) := by decide +kernel
theorem dX12_init_508 : decode cX12_init 508 = .ok (.putfield 175, 3) := by decide +kernel
theorem dX12_init_511 : decode cX12_init 511 = .ok (.aload_n 0, 1) := by decide +kernel
theorem dX12_init_512 : decode cX12_init 512 = .ok (.iconst 0, 1) := by decide +kernel
theorem dX12_init_513 : decode cX12_init 513 = .ok (.putfield 178, 3) := by decide +kernel
theorem dX12_init_516 : decode cX12_init 516 = .ok (.aload_n 0, 1) := by decide +kernel
theorem dX12_init_517 : decode cX12_init 517 = .ok (.bipush 7, 2) := by decide +kernel
theorem dX12_init_519 : decode cX12_init 519 = .ok (.newarray .int, 2) := by decide +kernel
theorem dX12_init_521 : decode cX12_init 521 = .ok (.putfield 181, 3) := by decide +kernel
theorem dX12_init_524 : decode cX12_init 524 = .ok (.aload_n 0, 1) := by decide +kernel
theorem dX12_init_525 : decode cX12_init 525 = .ok (.bipush 7, 2) := by decide +kernel
theorem dX12_init_527 : decode cX12_init 527 = .ok (.newarray .int, 2) := by decide +kernel
theorem dX12_init_529 : decode cX12_init 529 = .ok (.putfield 184, 3) := by decide +kernel
theorem dX12_init_532 : decode cX12_init 532 = .ok (.aload_n 0, 1) := by decide +kernel
theorem dX12_init_533 : decode cX12_init 533 = .ok (.bipush 7, 2) := by decide +kernel
theorem dX12_init_535 : decode cX12_init 535 = .ok (.newarray .int, 2) := by decide +kernel
theorem dX12_init_537 : decode cX12_init 537 = .ok (.putfield 187, 3) := by decide +kernel
theorem dX12_init_540 : decode cX12_init 540 = .ok (.aload_n 0, 1) := by decide +kernel
theorem dX12_init_541 : decode cX12_init 541 = .ok (.bipush 7, 2) := by decide +kernel
theorem dX12_init_543 : decode cX12_init 543 = .ok (.newarray .int, 2) := by decide +kernel
theorem dX12_init_545 : decode cX12_init 545 = .ok (.putfield 190, 3) := by decide +kernel
theorem dX12_init_548 : decode cX12_init 548 = .ok (.aload_n 0, 1) := by decide +kernel
theorem dX12_init_549 : decode cX12_init 549 = .ok (.bipush 7, 2) := by decide +kernel
theorem dX12_init_551 : decode cX12_init 551 = .ok (.newarray .int, 2) := by decide +kernel
theorem dX12_init_553 : decode cX12_init 553 = .ok (.putfield 193, 3) := by decide +kernel
theorem dX12_init_556 : decode cX12_init 556 = .ok (.aload_n 0, 1) := by decide +kernel
theorem dX12_init_557 : decode cX12_init 557 = .ok (.bipush 28, 2) := by decide +kernel
theorem dX12_init_559 : decode cX12_init 559 = .ok (.newarray .int, 2) := by decide +kernel
theorem dX12_init_561 : decode cX12_init 561 = .ok (.putfield 196, 3) := by decide +kernel
theorem dX12_init_564 : decode cX12_init 564 = .ok (.aload_n 0, 1) := by decide +kernel
theorem dX12_init_565 : decode cX12_init 565 = .ok (.iconst 4, 1) := by decide +kernel
theorem dX12_init_566 : decode cX12_init 566 = .ok (.newarray .int, 2) := by decide +kernel
theorem dX12_init_568 : decode cX12_init 568 = .ok (.putfield 199, 3) := by decide +kernel
theorem dX12_init_571 : decode cX12_init 571 = .ok (.aload_n 0, 1) := by decide +kernel
theorem dX12_init_572 : decode cX12_init 572 = .ok (.iconst 4, 1) := by decide +kernel
theorem dX12_init_573 : decode cX12_init 573 = .ok (.newarray .int, 2) := by decide +kernel
theorem dX12_init_575 : decode cX12_init 575 = .ok (.putfield 202, 3) := by decide +kernel
theorem dX12_init_578 : decode cX12_init 578 = .ok (.aload_n 0, 1) := by decide +kernel
theorem dX12_init_579 : decode cX12_init 579 = .ok (.iconst 4, 1) := by decide +kernel
theorem dX12_init_580 : decode cX12_init 580 = .ok (.newarray .int, 2) := by decide +kernel
theorem dX12_init_582 : decode cX12_init 582 = .ok (.putfield 205, 3) := by decide +kernel
theorem dX12_init_585 : decode cX12_init 585 = .ok (.aload_n 0, 1) := by decide +kernel
theorem dX12_init_586 : decode cX12_init 586 = .ok (.iconst 4, 1) := by decide +kernel
theorem dX12_init_587 : decode cX12_init 587 = .ok (.newarray .int, 2) := by decide +kernel
theorem dX12_init_589 : decode cX12_init 589 = .ok (.putfield 208, 3) := by decide +kernel
theorem dX12_init_592 : decode cX12_init 592 = .ok (.aload_n 0, 1) := by decide +kernel
theorem dX12_init_593 : decode cX12_init 593 = .ok (.bipush 8, 2) := by decide +kernel
theorem dX12_init_595 : decode cX12_init 595 = .ok (.newarray .int, 2) := by decide +kernel
theorem dX12_init_597 : decode cX12_init 597 = .ok (.putfield 211, 3) := by decide +kernel
theorem dX12_init_600 : decode cX12_init 600 = .ok (.aload_n 0, 1) := by decide +kernel
theorem dX12_init_601 : decode cX12_init 601 = .ok (.bipush 8, 2) := by decide +kernel
theorem dX12_init_603 : decode cX12_init 603 = .ok (.newarray .int, 2) := by decide +kernel
theorem dX12_init_605 : decode cX12_init 605 = .ok (.putfield 214, 3) := by decide +kernel
theorem dX12_init_608 : decode cX12_init 608 = .ok (.aload_n 0, 1) := by decide +kernel
theorem dX12_init_609 : decode cX12_init 609 = .ok (.iconst 0, 1) := by decide +kernel
theorem dX12_init_610 : decode cX12_init 610 = .ok (.putfield 217, 3) := by decide +kernel
theorem dX12_init_613 : decode cX12_init 613 = .ok (.aload_n 0, 1) := by decide +kernel
theorem dX12_init_614 : decode cX12_init 614 = .ok (.bipush 20, 2) := by decide +kernel
theorem dX12_init_616 : decode cX12_init 616 = .ok (.newarray .int, 2) := by decide +kernel
theorem dX12_init_618 : decode cX12_init 618 = .ok (.putfield 220, 3) := by decide +kernel
theorem dX12_init_621 : decode cX12_init 621 = .ok (.aload_n 0, 1) := by decide +kernel
theorem dX12_init_622 : decode cX12_init 622 = .ok (.bipush 6, 2) := by decide +kernel
theorem dX12_init_624 : decode cX12_init 624 = .ok (.newarray .int, 2) := by decide +kernel
theorem dX12_init_626 : decode cX12_init 626 = .ok (.dup, 1) := by decide +kernel
theorem dX12_init_627 : decode cX12_init 627 = .ok (.iconst 0, 1) := by decide +kernel
theorem dX12_init_628 : decode cX12_init 628 = .ok (.iconst (-1), 1) := by decide +kernel
theorem dX12_init_629 : decode cX12_init 629 = .ok (.iastore, 1) := by decide +kernel
theorem dX12_init_630 : decode cX12_init 630 = .ok (.dup, 1) := by decide +kernel
theorem dX12_init_631 : decode cX12_init 631 = .ok (.iconst 1, 1) := by decide +kernel
theorem dX12_init_632 : decode cX12_init 632 = .ok (.iconst (-1), 1) := by decide +kernel
theorem dX12_init_633 : decode cX12_init 633 = .ok (.iastore, 1) := by decide +kernel
theorem dX12_init_634 : decode cX12_init 634 = .ok (.dup, 1) := by decide +kernel
theorem dX12_init_635 : decode cX12_init 635 = .ok (.iconst 2, 1) := by decide +kernel
theorem dX12_init_636 : decode cX12_init 636 = .ok (.iconst (-1), 1) := by decide +kernel
theorem dX12_init_637 : decode cX12_init 637 = .ok (.iastore, 1) := by decide +kernel
theorem dX12_init_638 : decode cX12_init 638 = .ok (.dup, 1) := by decide +kernel
theorem dX12_init_639 : decode cX12_init 639 = .ok (.iconst 3, 1) := by decide +kernel
theorem dX12_init_640 : decode cX12_init 640 = .ok (.iconst (-1), 1) := by decide +kernel
theorem dX12_init_641 : decode cX12_init 641 = .ok (.iastore, 1) := by decide +kernel
theorem dX12_init_642 : decode cX12_init 642 = .ok (.dup, 1) := by decide +kernel
theorem dX12_init_643 : decode cX12_init 643 = .ok (.iconst 4, 1) := by decide +kernel
theorem dX12_init_644 : decode cX12_init 644 = .ok (.iconst (-1), 1) := by decide +kernel
theorem dX12_init_645 : decode cX12_init 645 = .ok (.iastore, 1) := by decide +kernel
theorem dX12_init_646 : decode cX12_init 646 = .ok (.dup, 1) := by decide +kernel
theorem dX12_init_647 : decode cX12_init 647 = .ok (.iconst 5, 1) := by decide +kernel
theorem dX12_init_648 : decode cX12_init 648 = .ok (.iconst (-1), 1) := by decide +kernel
theorem dX12_init_649 : decode cX12_init 649 = .ok (.iastore, 1) := by decide +kernel
theorem dX12_init_650 : decode cX12_init 650 = .ok (.putfield 223, 3) := by decide +kernel
theorem dX12_init_653 : decode cX12_init 653 = .ok (.aload_n 0, 1) := by decide +kernel
theorem dX12_init_654 : decode cX12_init 654 = .ok (.bipush 6, 2) := by decide +kernel
theorem dX12_init_656 : decode cX12_init 656 = .ok (.newarray .int, 2) := by decide +kernel
theorem dX12_init_658 : decode cX12_init 658 = .ok (.putfield 226, 3) := by decide +kernel
theorem dX12_init_661 : decode cX12_init 661 = .ok (.aload_n 0, 1) := by decide +kernel
theorem dX12_init_662 : decode cX12_init 662 = .ok (.sipush 360, 3) := by decide +kernel
theorem dX12_init_665 : decode cX12_init 665 = .ok (.newarray .long, 2) := by decide +kernel
theorem dX12_init_667 : decode cX12_init 667 = .ok (.putfield 229, 3) := by decide +kernel
theorem dX12_init_670 : decode cX12_init 670 = .ok (.aload_n 0, 1) := by decide +kernel
theorem dX12_init_671 : decode cX12_init 671 = .ok (.bipush 60, 2) := by decide +kernel
theorem dX12_init_673 : decode cX12_init 673 = .ok (.newarray .long, 2) := by decide +kernel
theorem dX12_init_675 : decode cX12_init 675 = .ok (.putfield 233, 3) := by decide +kernel
theorem dX12_init_678 : decode cX12_init 678 = .ok (.return_, 1) := by decide +kernel
theorem dX12_in_0 : decode cX12_in 0 = .ok (.iload_n 1, 1) := by decide +kernel
theorem dX12_in_1 : decode cX12_in 1 = .ok (.iload_n 2, 1) := by decide +kernel
theorem dX12_in_2 : decode cX12_in 2 = .ok (.if_icmp .lt 12, 3) := by decide +kernel
theorem dX12_in_5 : decode cX12_in 5 = .ok (.iload_n 1, 1) := by decide +kernel
theorem dX12_in_6 : decode cX12_in 6 = .ok (.iload_n 3, 1) := by decide +kernel
theorem dX12_in_7 : decode cX12_in 7 = .ok (.if_icmp .gt 7, 3) := by decide +kernel
theorem dX12_in_10 : decode cX12_in 10 = .ok (.iconst 1, 1) := by decide +kernel
theorem dX12_in_11 : decode cX12_in 11 = .ok (.goto 4, 3) := by decide +kernel
theorem dX12_in_14 : decode cX12_in 14 = .ok (.iconst 0, 1) := by decide +kernel
theorem dX12_in_15 : decode cX12_in 15 = .ok (.ireturn, 1) := by decide +kernel
theorem dX12_has_0 : decode cX12_has 0 = .ok (.iload_n 1, 1) := by decide +kernel
theorem dX12_has_1 : decode cX12_has 1 = .ok (.iload_n 2, 1) := by decide +kernel
theorem dX12_has_2 : decode cX12_has 2 = .ok (.ishr, 1) := by decide +kernel
theorem dX12_has_3 : decode cX12_has 3 = .ok (.iconst 1, 1) := by decide +kernel
theorem dX12_has_4 : decode cX12_has 4 = .ok (.iand, 1) := by decide +kernel
theorem dX12_has_5 : decode cX12_has 5 = .ok (.iconst 1, 1) := by decide +kernel
theorem dX12_has_6 : decode cX12_has 6 = .ok (.if_icmp .ne 7, 3) := by decide +kernel
theorem dX12_has_9 : decode cX12_has 9 = .ok (.iconst 1, 1) := by decide +kernel
theorem dX12_has_10 : decode cX12_has 10 = .ok (.goto 4, 3) := by decide +kernel
theorem dX12_has_13 : decode cX12_has 13 = .ok (.iconst 0, 1) := by decide +kernel
theorem dX12_has_14 : decode cX12_has 14 = .ok (.ireturn, 1) := by decide +kernel
theorem dX12_ones_0 : decode cX12_ones 0 = .ok (.iconst 0, 1) := by decide +kernel
theorem dX12_ones_1 : decode cX12_ones 1 = .ok (.istore_n 2, 1) := by decide +kernel
theorem dX12_ones_2 : decode cX12_ones 2 = .ok (.iload_n 1, 1) := by decide +kernel
theorem dX12_ones_3 : decode cX12_ones 3 = .ok (.istore_n 3, 1) := by decide +kernel
theorem dX12_ones_4 : decode cX12_ones 4 = .ok (.iload_n 3, 1) := by decide +kernel
theorem dX12_ones_5 : decode cX12_ones 5 = .ok (.ifCond .eq 15, 3) := by decide +kernel
theorem dX12_ones_8 : decode cX12_ones 8 = .ok (.iinc 2 1, 3) := by decide +kernel
theorem dX12_ones_11 : decode cX12_ones 11 = .ok (.iload_n 3, 1) := by decide +kernel
theorem dX12_ones_12 : decode cX12_ones 12 = .ok (.iload_n 3, 1) := by decide +kernel
theorem dX12_ones_13 : decode cX12_ones 13 = .ok (.iconst 1, 1) := by decide +kernel
theorem dX12_ones_14 : decode cX12_ones 14 = .ok (.isub, 1) := by decide +kernel
theorem dX12_ones_15 : decode cX12_ones 15 = .ok (.iand, 1) := by decide +kernel
theorem dX12_ones_16 : decode cX12_ones 16 = .ok (.istore_n 3, 1) := by decide +kernel
theorem dX12_ones_17 : decode cX12_ones 17 = .ok (.goto (-13), 3) := by decide +kernel
theorem dX12_ones_20 : decode cX12_ones 20 = .ok (.iload_n 2, 1) := by decide +kernel
theorem dX12_ones_21 : decode cX12_ones 21 = .ok (.ireturn, 1) := by decide +kernel
theorem dX12_isChild_0 : decode cX12_isChild 0 = .ok (.aload_n 0, 1) := by decide +kernel
theorem dX12_isChild_1 : decode cX12_isChild 1 = .ok (.iload_n 1, 1) := by decide +kernel
theorem dX12_isChild_2 : decode cX12_isChild 2 = .ok (.iconst 0, 1) := by decide +kernel
theorem dX12_isChild_3 : decode cX12_isChild 3 = .ok (.aload_n 0, 1) := by decide +kernel
theorem dX12_isChild_4 : decode cX12_isChild 4 = .ok (.getfield 7, 3) := by decide +kernel
theorem dX12_isChild_7 : decode cX12_isChild 7 = .ok (.iconst 1, 1) := by decide +kernel
theorem dX12_isChild_8 : decode cX12_isChild 8 = .ok (.isub, 1) := by decide +kernel
theorem dX12_isChild_9 : decode cX12_isChild 9 = .ok (.invokevirtual 236, 3) := by decide +kernel
theorem dX12_isChild_12 : decode cX12_isChild 12 = .ok (.ireturn, 1) := by decide +kernel
theorem dX12_child_0 : decode cX12_child 0 = .ok (.aload_n 0, 1) := by decide +kernel
theorem dX12_child_1 : decode cX12_child 1 = .ok (.iload_n 1, 1) := by decide +kernel
theorem dX12_child_2 : decode cX12_child 2 = .ok (.iconst 0, 1) := by decide +kernel
theorem dX12_child_3 : decode cX12_child 3 = .ok (.bipush 6, 2) := by decide +kernel
theorem dX12_child_5 : decode cX12_child 5 = .ok (.invokevirtual 236, 3) := by decide +kernel
theorem dX12_child_8 : decode cX12_child 8 = .ok (.ifCond .ne 5, 3) := by decide +kernel
theorem dX12_child_11 : decode cX12_child 11 = .ok (.iconst (-1), 1) := by decide +kernel
theorem dX12_child_12 : decode cX12_child 12 = .ok (.ireturn, 1) := by decide +kernel
theorem dX12_child_13 : decode cX12_child 13 = .ok (.aload_n 0, 1) := by decide +kernel
theorem dX12_child_14 : decode cX12_child 14 = .ok (.iload_n 2, 1) := by decide +kernel
theorem dX12_child_15 : decode cX12_child 15 = .ok (.iconst 0, 1) := by decide +kernel
theorem dX12_child_16 : decode cX12_child 16 = .ok (.bipush 9, 2) := by decide +kernel
theorem dX12_child_18 : decode cX12_child 18 = .ok (.invokevirtual 236, 3) := by decide +kernel
theorem dX12_child_21 : decode cX12_child 21 = .ok (.ifCond .ne 6, 3) := by decide +kernel
theorem dX12_child_24 : decode cX12_child 24 = .ok (.bipush (-2), 2) := by decide +kernel
theorem dX12_child_26 : decode cX12_child 26 = .ok (.ireturn, 1) := by decide +kernel
theorem dX12_child_27 : decode cX12_child 27 = .ok (.aload_n 0, 1) := by decide +kernel
theorem dX12_child_28 : decode cX12_child 28 = .ok (.getfield 7, 3) := by decide +kernel
theorem dX12_child_31 : decode cX12_child 31 = .ok (.bipush 7, 2) := by decide +kernel
theorem dX12_child_33 : decode cX12_child 33 = .ok (.if_icmp .ne 6, 3) := by decide +kernel
theorem dX12_child_36 : decode cX12_child 36 = .ok (.bipush (-4), 2) := by decide +kernel
theorem dX12_child_38 : decode cX12_child 38 = .ok (.ireturn, 1) := by decide +kernel
theorem dX12_child_39 : decode cX12_child 39 = .ok (.aload_n 0, 1) := by decide +kernel
theorem dX12_child_40 : decode cX12_child 40 = .ok (.getfield 19, 3) := by decide +kernel
theorem dX12_child_43 : decode cX12_child 43 = .ok (.aload_n 0, 1) := by decide +kernel
theorem dX12_child_44 : decode cX12_child 44 = .ok (.getfield 7, 3) := by decide +kernel
theorem dX12_child_47 : decode cX12_child 47 = .ok (.iload_n 1, 1) := by decide +kernel
theorem dX12_child_48 : decode cX12_child 48 = .ok (.iastore, 1) := by decide +kernel
theorem dX12_child_49 : decode cX12_child 49 = .ok (.aload_n 0, 1) := by decide +kernel
theorem dX12_child_50 : decode cX12_child 50 = .ok (.getfield 23, 3) := by decide +kernel
theorem dX12_child_53 : decode cX12_child 53 = .ok (.aload_n 0, 1) := by decide +kernel
theorem dX12_child_54 : decode cX12_child 54 = .ok (.getfield 7, 3) := by decide +kernel
theorem dX12_child_57 : decode cX12_child 57 = .ok (.iload_n 2, 1) := by decide +kernel
theorem dX12_child_58 : decode cX12_child 58 = .ok (.iastore, 1) := by decide +kernel
theorem dX12_child_59 : decode cX12_child 59 = .ok (.aload_n 0, 1) := by decide +kernel
theorem dX12_child_60 : decode cX12_child 60 = .ok (.getfield 26, 3) := by decide +kernel
theorem dX12_child_63 : decode cX12_child 63 = .ok (.aload_n 0, 1) := by decide +kernel
theorem dX12_child_64 : decode cX12_child 64 = .ok (.getfield 7, 3) := by decide +kernel
theorem dX12_child_67 : decode cX12_child 67 = .ok (.iconst 0, 1) := by decide +kernel
theorem dX12_child_68 : decode cX12_child 68 = .ok (.iastore, 1) := by decide +kernel
theorem dX12_child_69 : decode cX12_child 69 = .ok (.aload_n 0, 1) := by decide +kernel
theorem dX12_child_70 : decode cX12_child 70 = .ok (.getfield 29, 3) := by decide +kernel
theorem dX12_child_73 : decode cX12_child 73 = .ok (.aload_n 0, 1) := by decide +kernel
theorem dX12_child_74 : decode cX12_child 74 = .ok (.getfield 7, 3) := by decide +kernel
theorem dX12_child_77 : decode cX12_child 77 = .ok (.iconst 1, 1) := by decide +kernel
theorem dX12_child_78 : decode cX12_child 78 = .ok (.iastore, 1) := by decide +kernel
theorem dX12_child_79 : decode cX12_child 79 = .ok (.aload_n 0, 1) := by decide +kernel
theorem dX12_child_80 : decode cX12_child 80 = .ok (.getfield 32, 3) := by decide +kernel
theorem dX12_child_83 : decode cX12_child 83 = .ok (.aload_n 0, 1) := by decide +kernel
theorem dX12_child_84 : decode cX12_child 84 = .ok (.getfield 7, 3) := by decide +kernel
theorem dX12_child_87 : decode cX12_child 87 = .ok (.iconst 0, 1) := by decide +kernel
theorem dX12_child_88 : decode cX12_child 88 = .ok (.iastore, 1) := by decide +kernel
theorem dX12_child_89 : decode cX12_child 89 = .ok (.aload_n 0, 1) := by decide +kernel
theorem dX12_child_90 : decode cX12_child 90 = .ok (.dup, 1) := by decide +kernel
theorem dX12_child_91 : decode cX12_child 91 = .ok (.getfield 16, 3) := by decide +kernel
theorem dX12_child_94 : decode cX12_child 94 = .ok (.iconst 1, 1) := by decide +kernel
theorem dX12_child_95 : decode cX12_child 95 = .ok (.aload_n 0, 1) := by decide +kernel
theorem dX12_child_96 : decode cX12_child 96 = .ok (.getfield 7, 3) := by decide +kernel
theorem dX12_child_99 : decode cX12_child 99 = .ok (.ishl, 1) := by decide +kernel
theorem dX12_child_100 : decode cX12_child 100 = .ok (.iconst (-1), 1) := by decide +kernel
theorem dX12_child_101 : decode cX12_child 101 = .ok (.ixor, 1) := by decide +kernel
theorem dX12_child_102 : decode cX12_child 102 = .ok (.iand, 1) := by decide +kernel
theorem dX12_child_103 : decode cX12_child 103 = .ok (.putfield 16, 3) := by decide +kernel
theorem dX12_child_106 : decode cX12_child 106 = .ok (.iconst 0, 1) := by decide +kernel
theorem dX12_child_107 : decode cX12_child 107 = .ok (.istore_n 3, 1) := by decide +kernel
theorem dX12_child_108 : decode cX12_child 108 = .ok (.iload_n 3, 1) := by decide +kernel
theorem dX12_child_109 : decode cX12_child 109 = .ok (.iconst 4, 1) := by decide +kernel
theorem dX12_child_110 : decode cX12_child 110 = .ok (.if_icmp .ge 23, 3) := by decide +kernel
theorem dX12_child_113 : decode cX12_child 113 = .ok (.aload_n 0, 1) := by decide +kernel
theorem dX12_child_114 : decode cX12_child 114 = .ok (.getfield 35, 3) := by decide +kernel
theorem dX12_child_117 : decode cX12_child 117 = .ok (.iconst 4, 1) := by decide +kernel
theorem dX12_child_118 : decode cX12_child 118 = .ok (.aload_n 0, 1) := by decide +kernel
theorem dX12_child_119 : decode cX12_child 119 = .ok (.getfield 7, 3) := by decide +kernel
theorem dX12_child_122 : decode cX12_child 122 = .ok (.imul, 1) := by decide +kernel
theorem dX12_child_123 : decode cX12_child 123 = .ok (.iload_n 3, 1) := by decide +kernel
theorem dX12_child_124 : decode cX12_child 124 = .ok (.iadd, 1) := by decide +kernel
theorem dX12_child_125 : decode cX12_child 125 = .ok (.iconst 0, 1) := by decide +kernel
theorem dX12_child_126 : decode cX12_child 126 = .ok (.iastore, 1) := by decide +kernel
theorem dX12_child_127 : decode cX12_child 127 = .ok (.iinc 3 1, 3) := by decide +kernel
theorem dX12_child_130 : decode cX12_child 130 = .ok (.goto (-22), 3) := by decide +kernel
theorem dX12_child_133 : decode cX12_child 133 = .ok (.aload_n 0, 1) := by decide +kernel
theorem dX12_child_134 : decode cX12_child 134 = .ok (.dup, 1) := by decide +kernel
theorem dX12_child_135 : decode cX12_child 135 = .ok (.getfield 7, 3) := by decide +kernel
theorem dX12_child_138 : decode cX12_child 138 = .ok (.iconst 1, 1) := by decide +kernel
theorem dX12_child_139 : decode cX12_child 139 = .ok (.iadd, 1) := by decide +kernel
theorem dX12_child_140 : decode cX12_child 140 = .ok (.putfield 7, 3) := by decide +kernel
theorem dX12_child_143 : decode cX12_child 143 = .ok (.aload_n 0, 1) := by decide +kernel
theorem dX12_child_144 : decode cX12_child 144 = .ok (.getfield 7, 3) := by decide +kernel
theorem dX12_child_147 : decode cX12_child 147 = .ok (.iconst 1, 1) := by decide +kernel
theorem dX12_child_148 : decode cX12_child 148 = .ok (.isub, 1) := by decide +kernel
theorem dX12_child_149 : decode cX12_child 149 = .ok (.ireturn, 1) := by decide +kernel
theorem dX12_set_0 : decode cX12_set 0 = .ok (.aload_n 0, 1) := by decide +kernel
theorem dX12_set_1 : decode cX12_set 1 = .ok (.iload_n 1, 1) := by decide +kernel
theorem dX12_set_2 : decode cX12_set 2 = .ok (.invokevirtual 240, 3) := by decide +kernel
theorem dX12_set_5 : decode cX12_set 5 = .ok (.ifCond .eq 13, 3) := by decide +kernel
theorem dX12_set_8 : decode cX12_set 8 = .ok (.aload_n 0, 1) := by decide +kernel
theorem dX12_set_9 : decode cX12_set 9 = .ok (.iload_n 2, 1) := by decide +kernel
theorem dX12_set_10 : decode cX12_set 10 = .ok (.iconst 0, 1) := by decide +kernel
theorem dX12_set_11 : decode cX12_set 11 = .ok (.iconst 1, 1) := by decide +kernel
theorem dX12_set_12 : decode cX12_set 12 = .ok (.invokevirtual 236, 3) := by decide +kernel
theorem dX12_set_15 : decode cX12_set 15 = .ok (.ifCond .ne 5, 3) := by decide +kernel
theorem dX12_set_18 : decode cX12_set 18 = .ok (.iconst (-1), 1) := by decide +kernel
theorem dX12_set_19 : decode cX12_set 19 = .ok (.ireturn, 1) := by decide +kernel
theorem dX12_set_20 : decode cX12_set 20 = .ok (.aload_n 0, 1) := by decide +kernel
theorem dX12_set_21 : decode cX12_set 21 = .ok (.iload_n 3, 1) := by decide +kernel
theorem dX12_set_22 : decode cX12_set 22 = .ok (.iconst 0, 1) := by decide +kernel
theorem dX12_set_23 : decode cX12_set 23 = .ok (.iload_n 2, 1) := by decide +kernel
theorem dX12_set_24 : decode cX12_set 24 = .ok (.ifCond .ne 12, 3) := by decide +kernel
theorem dX12_set_27 : decode cX12_set 27 = .ok (.aload_n 0, 1) := by decide +kernel
theorem dX12_set_28 : decode cX12_set 28 = .ok (.invokevirtual 244, 3) := by decide +kernel
theorem dX12_set_31 : decode cX12_set 31 = .ok (.iconst 1, 1) := by decide +kernel
theorem dX12_set_32 : decode cX12_set 32 = .ok (.isub, 1) := by decide +kernel
theorem dX12_set_33 : decode cX12_set 33 = .ok (.goto 5, 3) := by decide +kernel
theorem dX12_set_36 : decode cX12_set 36 = .ok (.bipush 9, 2) := by decide +kernel
theorem dX12_set_38 : decode cX12_set 38 = .ok (.invokevirtual 236, 3) := by decide +kernel
theorem dX12_set_41 : decode cX12_set 41 = .ok (.ifCond .ne 6, 3) := by decide +kernel
theorem dX12_set_44 : decode cX12_set 44 = .ok (.bipush (-2), 2) := by decide +kernel
theorem dX12_set_46 : decode cX12_set 46 = .ok (.ireturn, 1) := by decide +kernel
theorem dX12_set_47 : decode cX12_set 47 = .ok (.iload_n 2, 1) := by decide +kernel
theorem dX12_set_48 : decode cX12_set 48 = .ok (.ifCond .ne 12, 3) := by decide +kernel
theorem dX12_set_51 : decode cX12_set 51 = .ok (.aload_n 0, 1) := by decide +kernel
theorem dX12_set_52 : decode cX12_set 52 = .ok (.getfield 26, 3) := by decide +kernel
theorem dX12_set_55 : decode cX12_set 55 = .ok (.iload_n 1, 1) := by decide +kernel
theorem dX12_set_56 : decode cX12_set 56 = .ok (.iaload, 1) := by decide +kernel
theorem dX12_set_57 : decode cX12_set 57 = .ok (.goto 9, 3) := by decide +kernel
theorem dX12_set_60 : decode cX12_set 60 = .ok (.aload_n 0, 1) := by decide +kernel
theorem dX12_set_61 : decode cX12_set 61 = .ok (.getfield 29, 3) := by decide +kernel
theorem dX12_set_64 : decode cX12_set 64 = .ok (.iload_n 1, 1) := by decide +kernel
theorem dX12_set_65 : decode cX12_set 65 = .ok (.iaload, 1) := by decide +kernel
theorem dX12_set_66 : decode cX12_set 66 = .ok (.istore 4, 2) := by decide +kernel
theorem dX12_set_68 : decode cX12_set 68 = .ok (.iload_n 2, 1) := by decide +kernel
theorem dX12_set_69 : decode cX12_set 69 = .ok (.ifCond .ne 27, 3) := by decide +kernel
theorem dX12_set_72 : decode cX12_set 72 = .ok (.aload_n 0, 1) := by decide +kernel
theorem dX12_set_73 : decode cX12_set 73 = .ok (.getfield 26, 3) := by decide +kernel
theorem dX12_set_76 : decode cX12_set 76 = .ok (.iload_n 1, 1) := by decide +kernel
theorem dX12_set_77 : decode cX12_set 77 = .ok (.iload_n 3, 1) := by decide +kernel
theorem dX12_set_78 : decode cX12_set 78 = .ok (.iastore, 1) := by decide +kernel
theorem dX12_set_79 : decode cX12_set 79 = .ok (.aload_n 0, 1) := by decide +kernel
theorem dX12_set_80 : decode cX12_set 80 = .ok (.dup, 1) := by decide +kernel
theorem dX12_set_81 : decode cX12_set 81 = .ok (.getfield 16, 3) := by decide +kernel
theorem dX12_set_84 : decode cX12_set 84 = .ok (.iconst 1, 1) := by decide +kernel
theorem dX12_set_85 : decode cX12_set 85 = .ok (.iload_n 1, 1) := by decide +kernel
theorem dX12_set_86 : decode cX12_set 86 = .ok (.ishl, 1) := by decide +kernel
theorem dX12_set_87 : decode cX12_set 87 = .ok (.iconst (-1), 1) := by decide +kernel
theorem dX12_set_88 : decode cX12_set 88 = .ok (.ixor, 1) := by decide +kernel
theorem dX12_set_89 : decode cX12_set 89 = .ok (.iand, 1) := by decide +kernel
theorem dX12_set_90 : decode cX12_set 90 = .ok (.putfield 16, 3) := by decide +kernel
theorem dX12_set_93 : decode cX12_set 93 = .ok (.goto 10, 3) := by decide +kernel
theorem dX12_set_96 : decode cX12_set 96 = .ok (.aload_n 0, 1) := by decide +kernel
theorem dX12_set_97 : decode cX12_set 97 = .ok (.getfield 29, 3) := by decide +kernel
theorem dX12_set_100 : decode cX12_set 100 = .ok (.iload_n 1, 1) := by decide +kernel
theorem dX12_set_101 : decode cX12_set 101 = .ok (.iload_n 3, 1) := by decide +kernel
theorem dX12_set_102 : decode cX12_set 102 = .ok (.iastore, 1) := by decide +kernel
theorem dX12_set_103 : decode cX12_set 103 = .ok (.iload 4, 2) := by decide +kernel
theorem dX12_set_105 : decode cX12_set 105 = .ok (.ireturn, 1) := by decide +kernel
theorem dX12_row_0 : decode cX12_row 0 = .ok (.aload_n 0, 1) := by decide +kernel
theorem dX12_row_1 : decode cX12_row 1 = .ok (.iload_n 1, 1) := by decide +kernel
theorem dX12_row_2 : decode cX12_row 2 = .ok (.invokevirtual 240, 3) := by decide +kernel
theorem dX12_row_5 : decode cX12_row 5 = .ok (.ifCond .eq 13, 3) := by decide +kernel
theorem dX12_row_8 : decode cX12_row 8 = .ok (.aload_n 0, 1) := by decide +kernel
theorem dX12_row_9 : decode cX12_row 9 = .ok (.iload_n 2, 1) := by decide +kernel
theorem dX12_row_10 : decode cX12_row 10 = .ok (.iconst 0, 1) := by decide +kernel
theorem dX12_row_11 : decode cX12_row 11 = .ok (.iconst 3, 1) := by decide +kernel
theorem dX12_row_12 : decode cX12_row 12 = .ok (.invokevirtual 236, 3) := by decide +kernel
theorem dX12_row_15 : decode cX12_row 15 = .ok (.ifCond .ne 5, 3) := by decide +kernel
theorem dX12_row_18 : decode cX12_row 18 = .ok (.iconst (-1), 1) := by decide +kernel
theorem dX12_row_19 : decode cX12_row 19 = .ok (.ireturn, 1) := by decide +kernel
theorem dX12_row_20 : decode cX12_row 20 = .ok (.aload_n 0, 1) := by decide +kernel
theorem dX12_row_21 : decode cX12_row 21 = .ok (.iload_n 3, 1) := by decide +kernel
theorem dX12_row_22 : decode cX12_row 22 = .ok (.iconst 0, 1) := by decide +kernel
theorem dX12_row_23 : decode cX12_row 23 = .ok (.bipush 9, 2) := by decide +kernel
theorem dX12_row_25 : decode cX12_row 25 = .ok (.invokevirtual 236, 3) := by decide +kernel
theorem dX12_row_28 : decode cX12_row 28 = .ok (.ifCond .ne 6, 3) := by decide +kernel
theorem dX12_row_31 : decode cX12_row 31 = .ok (.bipush (-2), 2) := by decide +kernel
theorem dX12_row_33 : decode cX12_row 33 = .ok (.ireturn, 1) := by decide +kernel
theorem dX12_row_34 : decode cX12_row 34 = .ok (.aload_n 0, 1) := by decide +kernel
theorem dX12_row_35 : decode cX12_row 35 = .ok (.getfield 19, 3) := by decide +kernel
theorem dX12_row_38 : decode cX12_row 38 = .ok (.iload_n 1, 1) := by decide +kernel
theorem dX12_row_39 : decode cX12_row 39 = .ok (.iaload, 1) := by decide +kernel
theorem dX12_row_40 : decode cX12_row 40 = .ok (.bipush 6, 2) := by decide +kernel
theorem dX12_row_42 : decode cX12_row 42 = .ok (.if_icmp .eq 6, 3) := by decide +kernel
theorem dX12_row_45 : decode cX12_row 45 = .ok (.bipush (-3), 2) := by decide +kernel
theorem dX12_row_47 : decode cX12_row 47 = .ok (.ireturn, 1) := by decide +kernel
theorem dX12_row_48 : decode cX12_row 48 = .ok (.aload_n 0, 1) := by decide +kernel
theorem dX12_row_49 : decode cX12_row 49 = .ok (.getfield 35, 3) := by decide +kernel
theorem dX12_row_52 : decode cX12_row 52 = .ok (.iconst 4, 1) := by decide +kernel
theorem dX12_row_53 : decode cX12_row 53 = .ok (.iload_n 1, 1) := by decide +kernel
theorem dX12_row_54 : decode cX12_row 54 = .ok (.imul, 1) := by decide +kernel
theorem dX12_row_55 : decode cX12_row 55 = .ok (.iload_n 2, 1) := by decide +kernel
theorem dX12_row_56 : decode cX12_row 56 = .ok (.iadd, 1) := by decide +kernel
theorem dX12_row_57 : decode cX12_row 57 = .ok (.iaload, 1) := by decide +kernel
theorem dX12_row_58 : decode cX12_row 58 = .ok (.istore 4, 2) := by decide +kernel
theorem dX12_row_60 : decode cX12_row 60 = .ok (.aload_n 0, 1) := by decide +kernel
theorem dX12_row_61 : decode cX12_row 61 = .ok (.getfield 35, 3) := by decide +kernel
theorem dX12_row_64 : decode cX12_row 64 = .ok (.iconst 4, 1) := by decide +kernel
theorem dX12_row_65 : decode cX12_row 65 = .ok (.iload_n 1, 1) := by decide +kernel
theorem dX12_row_66 : decode cX12_row 66 = .ok (.imul, 1) := by decide +kernel
theorem dX12_row_67 : decode cX12_row 67 = .ok (.iload_n 2, 1) := by decide +kernel
theorem dX12_row_68 : decode cX12_row 68 = .ok (.iadd, 1) := by decide +kernel
theorem dX12_row_69 : decode cX12_row 69 = .ok (.iload_n 3, 1) := by decide +kernel
theorem dX12_row_70 : decode cX12_row 70 = .ok (.iastore, 1) := by decide +kernel
theorem dX12_row_71 : decode cX12_row 71 = .ok (.iload 4, 2) := by decide +kernel
theorem dX12_row_73 : decode cX12_row 73 = .ok (.ireturn, 1) := by decide +kernel
theorem dX12_counts_0 : decode cX12_counts 0 = .ok (.aload_n 0, 1) := by decide +kernel
theorem dX12_counts_1 : decode cX12_counts 1 = .ok (.iload_n 1, 1) := by decide +kernel
theorem dX12_counts_2 : decode cX12_counts 2 = .ok (.iconst 0, 1) := by decide +kernel
theorem dX12_counts_3 : decode cX12_counts 3 = .ok (.iconst 3, 1) := by decide +kernel
theorem dX12_counts_4 : decode cX12_counts 4 = .ok (.invokevirtual 236, 3) := by decide +kernel
theorem dX12_counts_7 : decode cX12_counts 7 = .ok (.ifCond .ne 5, 3) := by decide +kernel
theorem dX12_counts_10 : decode cX12_counts 10 = .ok (.iconst (-1), 1) := by decide +kernel
theorem dX12_counts_11 : decode cX12_counts 11 = .ok (.ireturn, 1) := by decide +kernel
theorem dX12_counts_12 : decode cX12_counts 12 = .ok (.aload_n 0, 1) := by decide +kernel
theorem dX12_counts_13 : decode cX12_counts 13 = .ok (.iload_n 2, 1) := by decide +kernel
theorem dX12_counts_14 : decode cX12_counts 14 = .ok (.iconst 1, 1) := by decide +kernel
theorem dX12_counts_15 : decode cX12_counts 15 = .ok (.bipush 9, 2) := by decide +kernel
theorem dX12_counts_17 : decode cX12_counts 17 = .ok (.invokevirtual 236, 3) := by decide +kernel
theorem dX12_counts_20 : decode cX12_counts 20 = .ok (.ifCond .ne 6, 3) := by decide +kernel
theorem dX12_counts_23 : decode cX12_counts 23 = .ok (.bipush (-2), 2) := by decide +kernel
theorem dX12_counts_25 : decode cX12_counts 25 = .ok (.ireturn, 1) := by decide +kernel
theorem dX12_counts_26 : decode cX12_counts 26 = .ok (.aload_n 0, 1) := by decide +kernel
theorem dX12_counts_27 : decode cX12_counts 27 = .ok (.getfield 38, 3) := by decide +kernel
theorem dX12_counts_30 : decode cX12_counts 30 = .ok (.iload_n 1, 1) := by decide +kernel
theorem dX12_counts_31 : decode cX12_counts 31 = .ok (.iaload, 1) := by decide +kernel
theorem dX12_counts_32 : decode cX12_counts 32 = .ok (.istore_n 3, 1) := by decide +kernel
theorem dX12_counts_33 : decode cX12_counts 33 = .ok (.aload_n 0, 1) := by decide +kernel
theorem dX12_counts_34 : decode cX12_counts 34 = .ok (.getfield 38, 3) := by decide +kernel
theorem dX12_counts_37 : decode cX12_counts 37 = .ok (.iload_n 1, 1) := by decide +kernel
theorem dX12_counts_38 : decode cX12_counts 38 = .ok (.iload_n 2, 1) := by decide +kernel
theorem dX12_counts_39 : decode cX12_counts 39 = .ok (.iastore, 1) := by decide +kernel
theorem dX12_counts_40 : decode cX12_counts 40 = .ok (.iload_n 3, 1) := by decide +kernel
theorem dX12_counts_41 : decode cX12_counts 41 = .ok (.ireturn, 1) := by decide +kernel
theorem dX12_feed_0 : decode cX12_feed 0 = .ok (.aload_n 0, 1) := by decide +kernel
theorem dX12_feed_1 : decode cX12_feed 1 = .ok (.iload_n 1, 1) := by decide +kernel
theorem dX12_feed_2 : decode cX12_feed 2 = .ok (.iconst 0, 1) := by decide +kernel
theorem dX12_feed_3 : decode cX12_feed 3 = .ok (.bipush 127, 2) := by decide +kernel
theorem dX12_feed_5 : decode cX12_feed 5 = .ok (.invokevirtual 236, 3) := by decide +kernel
theorem dX12_feed_8 : decode cX12_feed 8 = .ok (.ifCond .ne 6, 3) := by decide +kernel
theorem dX12_feed_11 : decode cX12_feed 11 = .ok (.bipush (-2), 2) := by decide +kernel
theorem dX12_feed_13 : decode cX12_feed 13 = .ok (.ireturn, 1) := by decide +kernel
theorem dX12_feed_14 : decode cX12_feed 14 = .ok (.aload_n 0, 1) := by decide +kernel
theorem dX12_feed_15 : decode cX12_feed 15 = .ok (.getfield 47, 3) := by decide +kernel
theorem dX12_feed_18 : decode cX12_feed 18 = .ok (.bipush 100, 2) := by decide +kernel
theorem dX12_feed_20 : decode cX12_feed 20 = .ok (.if_icmp .ne 6, 3) := by decide +kernel
theorem dX12_feed_23 : decode cX12_feed 23 = .ok (.bipush (-4), 2) := by decide +kernel
theorem dX12_feed_25 : decode cX12_feed 25 = .ok (.ireturn, 1) := by decide +kernel
theorem dX12_feed_26 : decode cX12_feed 26 = .ok (.aload_n 0, 1) := by decide +kernel
theorem dX12_feed_27 : decode cX12_feed 27 = .ok (.getfield 56, 3) := by decide +kernel
theorem dX12_feed_30 : decode cX12_feed 30 = .ok (.aload_n 0, 1) := by decide +kernel
theorem dX12_feed_31 : decode cX12_feed 31 = .ok (.getfield 47, 3) := by decide +kernel
theorem dX12_feed_34 : decode cX12_feed 34 = .ok (.iload_n 1, 1) := by decide +kernel
theorem dX12_feed_35 : decode cX12_feed 35 = .ok (.iastore, 1) := by decide +kernel
theorem dX12_feed_36 : decode cX12_feed 36 = .ok (.aload_n 0, 1) := by decide +kernel
theorem dX12_feed_37 : decode cX12_feed 37 = .ok (.dup, 1) := by decide +kernel
theorem dX12_feed_38 : decode cX12_feed 38 = .ok (.getfield 47, 3) := by decide +kernel
theorem dX12_feed_41 : decode cX12_feed 41 = .ok (.iconst 1, 1) := by decide +kernel
theorem dX12_feed_42 : decode cX12_feed 42 = .ok (.iadd, 1) := by decide +kernel
theorem dX12_feed_43 : decode cX12_feed 43 = .ok (.putfield 47, 3) := by decide +kernel
theorem dX12_feed_46 : decode cX12_feed 46 = .ok (.aload_n 0, 1) := by decide +kernel
theorem dX12_feed_47 : decode cX12_feed 47 = .ok (.getfield 47, 3) := by decide +kernel
theorem dX12_feed_50 : decode cX12_feed 50 = .ok (.ireturn, 1) := by decide +kernel
theorem dX12_next_0 : decode cX12_next 0 = .ok (.aload_n 0, 1) := by decide +kernel
theorem dX12_next_1 : decode cX12_next 1 = .ok (.getfield 50, 3) := by decide +kernel
theorem dX12_next_4 : decode cX12_next 4 = .ok (.aload_n 0, 1) := by decide +kernel
theorem dX12_next_5 : decode cX12_next 5 = .ok (.getfield 47, 3) := by decide +kernel
theorem dX12_next_8 : decode cX12_next 8 = .ok (.if_icmp .ge 15, 3) := by decide +kernel
theorem dX12_next_11 : decode cX12_next 11 = .ok (.aload_n 0, 1) := by decide +kernel
theorem dX12_next_12 : decode cX12_next 12 = .ok (.getfield 56, 3) := by decide +kernel
theorem dX12_next_15 : decode cX12_next 15 = .ok (.aload_n 0, 1) := by decide +kernel
theorem dX12_next_16 : decode cX12_next 16 = .ok (.getfield 50, 3) := by decide +kernel
theorem dX12_next_19 : decode cX12_next 19 = .ok (.iaload, 1) := by decide +kernel
theorem dX12_next_20 : decode cX12_next 20 = .ok (.goto 4, 3) := by decide +kernel
theorem dX12_next_23 : decode cX12_next 23 = .ok (.iconst (-1), 1) := by decide +kernel
theorem dX12_next_24 : decode cX12_next 24 = .ok (.ireturn, 1) := by decide +kernel
theorem dX12_second_0 : decode cX12_second 0 = .ok (.aload_n 0, 1) := by decide +kernel
theorem dX12_second_1 : decode cX12_second 1 = .ok (.getfield 50, 3) := by decide +kernel
theorem dX12_second_4 : decode cX12_second 4 = .ok (.iconst 1, 1) := by decide +kernel
theorem dX12_second_5 : decode cX12_second 5 = .ok (.iadd, 1) := by decide +kernel
theorem dX12_second_6 : decode cX12_second 6 = .ok (.aload_n 0, 1) := by decide +kernel
theorem dX12_second_7 : decode cX12_second 7 = .ok (.getfield 47, 3) := by decide +kernel
theorem dX12_second_10 : decode cX12_second 10 = .ok (.if_icmp .ge 17, 3) := by decide +kernel
theorem dX12_second_13 : decode cX12_second 13 = .ok (.aload_n 0, 1) := by decide +kernel
theorem dX12_second_14 : decode cX12_second 14 = .ok (.getfield 56, 3) := by decide +kernel
theorem dX12_second_17 : decode cX12_second 17 = .ok (.aload_n 0, 1) := by decide +kernel
theorem dX12_second_18 : decode cX12_second 18 = .ok (.getfield 50, 3) := by decide +kernel
theorem dX12_second_21 : decode cX12_second 21 = .ok (.iconst 1, 1) := by decide +kernel
theorem dX12_second_22 : decode cX12_second 22 = .ok (.iadd, 1) := by decide +kernel
theorem dX12_second_23 : decode cX12_second 23 = .ok (.iaload, 1) := by decide +kernel
theorem dX12_second_24 : decode cX12_second 24 = .ok (.goto 4, 3) := by decide +kernel
theorem dX12_second_27 : decode cX12_second 27 = .ok (.iconst (-1), 1) := by decide +kernel
theorem dX12_second_28 : decode cX12_second 28 = .ok (.ireturn, 1) := by decide +kernel
theorem dX12_takes_0 : decode cX12_takes 0 = .ok (.aload_n 0, 1) := by decide +kernel
theorem dX12_takes_1 : decode cX12_takes 1 = .ok (.invokevirtual 248, 3) := by decide +kernel
theorem dX12_takes_4 : decode cX12_takes 4 = .ok (.iload_n 1, 1) := by decide +kernel
theorem dX12_takes_5 : decode cX12_takes 5 = .ok (.if_icmp .eq 5, 3) := by decide +kernel
theorem dX12_takes_8 : decode cX12_takes 8 = .ok (.iconst 0, 1) := by decide +kernel
theorem dX12_takes_9 : decode cX12_takes 9 = .ok (.ireturn, 1) := by decide +kernel
theorem dX12_takes_10 : decode cX12_takes 10 = .ok (.aload_n 0, 1) := by decide +kernel
theorem dX12_takes_11 : decode cX12_takes 11 = .ok (.dup, 1) := by decide +kernel
theorem dX12_takes_12 : decode cX12_takes 12 = .ok (.getfield 50, 3) := by decide +kernel
theorem dX12_takes_15 : decode cX12_takes 15 = .ok (.iconst 1, 1) := by decide +kernel
theorem dX12_takes_16 : decode cX12_takes 16 = .ok (.iadd, 1) := by decide +kernel
theorem dX12_takes_17 : decode cX12_takes 17 = .ok (.putfield 50, 3) := by decide +kernel
theorem dX12_takes_20 : decode cX12_takes 20 = .ok (.iconst 1, 1) := by decide +kernel
theorem dX12_takes_21 : decode cX12_takes 21 = .ok (.ireturn, 1) := by decide +kernel
theorem dX12_takesWord_0 : decode cX12_takesWord 0 = .ok (.iconst 0, 1) := by decide +kernel
theorem dX12_takesWord_1 : decode cX12_takesWord 1 = .ok (.istore_n 3, 1) := by decide +kernel
theorem dX12_takesWord_2 : decode cX12_takesWord 2 = .ok (.iload_n 3, 1) := by decide +kernel
theorem dX12_takesWord_3 : decode cX12_takesWord 3 = .ok (.iload_n 2, 1) := by decide +kernel
theorem dX12_takesWord_4 : decode cX12_takesWord 4 = .ok (.if_icmp .ge 26, 3) := by decide +kernel
theorem dX12_takesWord_7 : decode cX12_takesWord 7 = .ok (.aload_n 0, 1) := by decide +kernel
theorem dX12_takesWord_8 : decode cX12_takesWord 8 = .ok (.aload_n 0, 1) := by decide +kernel
theorem dX12_takesWord_9 : decode cX12_takesWord 9 = .ok (.getfield 89, 3) := by decide +kernel
theorem dX12_takesWord_12 : decode cX12_takesWord 12 = .ok (.iload_n 1, 1) := by decide +kernel
theorem dX12_takesWord_13 : decode cX12_takesWord 13 = .ok (.iload_n 3, 1) := by decide +kernel
theorem dX12_takesWord_14 : decode cX12_takesWord 14 = .ok (.iadd, 1) := by decide +kernel
theorem dX12_takesWord_15 : decode cX12_takesWord 15 = .ok (.iaload, 1) := by decide +kernel
theorem dX12_takesWord_16 : decode cX12_takesWord 16 = .ok (.invokevirtual 251, 3) := by decide +kernel
theorem dX12_takesWord_19 : decode cX12_takesWord 19 = .ok (.ifCond .ne 5, 3) := by decide +kernel
theorem dX12_takesWord_22 : decode cX12_takesWord 22 = .ok (.iconst 0, 1) := by decide +kernel
theorem dX12_takesWord_23 : decode cX12_takesWord 23 = .ok (.ireturn, 1) := by decide +kernel
theorem dX12_takesWord_24 : decode cX12_takesWord 24 = .ok (.iinc 3 1, 3) := by decide +kernel
theorem dX12_takesWord_27 : decode cX12_takesWord 27 = .ok (.goto (-25), 3) := by decide +kernel
theorem dX12_takesWord_30 : decode cX12_takesWord 30 = .ok (.aload_n 0, 1) := by decide +kernel
theorem dX12_takesWord_31 : decode cX12_takesWord 31 = .ok (.bipush 32, 2) := by decide +kernel
theorem dX12_takesWord_33 : decode cX12_takesWord 33 = .ok (.invokevirtual 251, 3) := by decide +kernel
theorem dX12_takesWord_36 : decode cX12_takesWord 36 = .ok (.ireturn, 1) := by decide +kernel
theorem dX12_isDigit_0 : decode cX12_isDigit 0 = .ok (.aload_n 0, 1) := by decide +kernel
theorem dX12_isDigit_1 : decode cX12_isDigit 1 = .ok (.aload_n 0, 1) := by decide +kernel
theorem dX12_isDigit_2 : decode cX12_isDigit 2 = .ok (.invokevirtual 248, 3) := by decide +kernel
theorem dX12_isDigit_5 : decode cX12_isDigit 5 = .ok (.bipush 48, 2) := by decide +kernel
theorem dX12_isDigit_7 : decode cX12_isDigit 7 = .ok (.bipush 57, 2) := by decide +kernel
theorem dX12_isDigit_9 : decode cX12_isDigit 9 = .ok (.invokevirtual 236, 3) := by decide +kernel
theorem dX12_isDigit_12 : decode cX12_isDigit 12 = .ok (.ireturn, 1) := by decide +kernel
theorem dX12_takesNumber_0 : decode cX12_takesNumber 0 = .ok (.aload_n 0, 1) := by decide +kernel
theorem dX12_takesNumber_1 : decode cX12_takesNumber 1 = .ok (.invokevirtual 254, 3) := by decide +kernel
theorem dX12_takesNumber_4 : decode cX12_takesNumber 4 = .ok (.ifCond .ne 5, 3) := by decide +kernel
theorem dX12_takesNumber_7 : decode cX12_takesNumber 7 = .ok (.iconst 0, 1) := by decide +kernel
theorem dX12_takesNumber_8 : decode cX12_takesNumber 8 = .ok (.ireturn, 1) := by decide +kernel
theorem dX12_takesNumber_9 : decode cX12_takesNumber 9 = .ok (.aload_n 0, 1) := by decide +kernel
theorem dX12_takesNumber_10 : decode cX12_takesNumber 10 = .ok (.iconst 0, 1) := by decide +kernel
theorem dX12_takesNumber_11 : decode cX12_takesNumber 11 = .ok (.putfield 53, 3) := by decide +kernel
theorem dX12_takesNumber_14 : decode cX12_takesNumber 14 = .ok (.iconst 0, 1) := by decide +kernel
theorem dX12_takesNumber_15 : decode cX12_takesNumber 15 = .ok (.istore_n 1, 1) := by decide +kernel
theorem dX12_takesNumber_16 : decode cX12_takesNumber 16 = .ok (.iload_n 1, 1) := by decide +kernel
theorem dX12_takesNumber_17 : decode cX12_takesNumber 17 = .ok (.iconst 2, 1) := by decide +kernel
theorem dX12_takesNumber_18 : decode cX12_takesNumber 18 = .ok (.if_icmp .ge 45, 3) := by decide +kernel
theorem dX12_takesNumber_21 : decode cX12_takesNumber 21 = .ok (.aload_n 0, 1) := by decide +kernel
theorem dX12_takesNumber_22 : decode cX12_takesNumber 22 = .ok (.invokevirtual 254, 3) := by decide +kernel
theorem dX12_takesNumber_25 : decode cX12_takesNumber 25 = .ok (.ifCond .eq 38, 3) := by decide +kernel
theorem dX12_takesNumber_28 : decode cX12_takesNumber 28 = .ok (.aload_n 0, 1) := by decide +kernel
theorem dX12_takesNumber_29 : decode cX12_takesNumber 29 = .ok (.bipush 10, 2) := by decide +kernel
theorem dX12_takesNumber_31 : decode cX12_takesNumber 31 = .ok (.aload_n 0, 1) := by decide +kernel
theorem dX12_takesNumber_32 : decode cX12_takesNumber 32 = .ok (.getfield 53, 3) := by decide +kernel
theorem dX12_takesNumber_35 : decode cX12_takesNumber 35 = .ok (.imul, 1) := by decide +kernel
theorem dX12_takesNumber_36 : decode cX12_takesNumber 36 = .ok (.aload_n 0, 1) := by decide +kernel
theorem dX12_takesNumber_37 : decode cX12_takesNumber 37 = .ok (.invokevirtual 248, 3) := by decide +kernel
theorem dX12_takesNumber_40 : decode cX12_takesNumber 40 = .ok (.iadd, 1) := by decide +kernel
theorem dX12_takesNumber_41 : decode cX12_takesNumber 41 = .ok (.bipush 48, 2) := by decide +kernel
theorem dX12_takesNumber_43 : decode cX12_takesNumber 43 = .ok (.isub, 1) := by decide +kernel
theorem dX12_takesNumber_44 : decode cX12_takesNumber 44 = .ok (.putfield 53, 3) := by decide +kernel
theorem dX12_takesNumber_47 : decode cX12_takesNumber 47 = .ok (.aload_n 0, 1) := by decide +kernel
theorem dX12_takesNumber_48 : decode cX12_takesNumber 48 = .ok (.dup, 1) := by decide +kernel
theorem dX12_takesNumber_49 : decode cX12_takesNumber 49 = .ok (.getfield 50, 3) := by decide +kernel
theorem dX12_takesNumber_52 : decode cX12_takesNumber 52 = .ok (.iconst 1, 1) := by decide +kernel
theorem dX12_takesNumber_53 : decode cX12_takesNumber 53 = .ok (.iadd, 1) := by decide +kernel
theorem dX12_takesNumber_54 : decode cX12_takesNumber 54 = .ok (.putfield 50, 3) := by decide +kernel
theorem dX12_takesNumber_57 : decode cX12_takesNumber 57 = .ok (.iinc 1 1, 3) := by decide +kernel
theorem dX12_takesNumber_60 : decode cX12_takesNumber 60 = .ok (.goto (-44), 3) := by decide +kernel
theorem dX12_takesNumber_63 : decode cX12_takesNumber 63 = .ok (.iconst 1, 1) := by decide +kernel
theorem dX12_takesNumber_64 : decode cX12_takesNumber 64 = .ok (.ireturn, 1) := by decide +kernel
theorem dX12_emits_0 : decode cX12_emits 0 = .ok (.aload_n 0, 1) := by decide +kernel
theorem dX12_emits_1 : decode cX12_emits 1 = .ok (.getfield 74, 3) := by decide +kernel
theorem dX12_emits_4 : decode cX12_emits 4 = .ok (.aload_n 0, 1) := by decide +kernel
theorem dX12_emits_5 : decode cX12_emits 5 = .ok (.getfield 80, 3) := by decide +kernel
theorem dX12_emits_8 : decode cX12_emits 8 = .ok (.iload_n 1, 1) := by decide +kernel
theorem dX12_emits_9 : decode cX12_emits 9 = .ok (.iastore, 1) := by decide +kernel
theorem dX12_emits_10 : decode cX12_emits 10 = .ok (.aload_n 0, 1) := by decide +kernel
theorem dX12_emits_11 : decode cX12_emits 11 = .ok (.dup, 1) := by decide +kernel
theorem dX12_emits_12 : decode cX12_emits 12 = .ok (.getfield 80, 3) := by decide +kernel
theorem dX12_emits_15 : decode cX12_emits 15 = .ok (.iconst 1, 1) := by decide +kernel
theorem dX12_emits_16 : decode cX12_emits 16 = .ok (.iadd, 1) := by decide +kernel
theorem dX12_emits_17 : decode cX12_emits 17 = .ok (.putfield 80, 3) := by decide +kernel
theorem dX12_emits_20 : decode cX12_emits 20 = .ok (.return_, 1) := by decide +kernel
theorem dX12_whole_0 : decode cX12_whole 0 = .ok (.aload_n 0, 1) := by decide +kernel
theorem dX12_whole_1 : decode cX12_whole 1 = .ok (.getfield 83, 3) := by decide +kernel
theorem dX12_whole_4 : decode cX12_whole 4 = .ok (.ifCond .le 48, 3) := by decide +kernel
theorem dX12_whole_7 : decode cX12_whole 7 = .ok (.aload_n 0, 1) := by decide +kernel
theorem dX12_whole_8 : decode cX12_whole 8 = .ok (.getfield 77, 3) := by decide +kernel
theorem dX12_whole_11 : decode cX12_whole 11 = .ok (.aload_n 0, 1) := by decide +kernel
theorem dX12_whole_12 : decode cX12_whole 12 = .ok (.getfield 83, 3) := by decide +kernel
theorem dX12_whole_15 : decode cX12_whole 15 = .ok (.iconst 1, 1) := by decide +kernel
theorem dX12_whole_16 : decode cX12_whole 16 = .ok (.isub, 1) := by decide +kernel
theorem dX12_whole_17 : decode cX12_whole 17 = .ok (.iaload, 1) := by decide +kernel
theorem dX12_whole_18 : decode cX12_whole 18 = .ok (.bipush 33, 2) := by decide +kernel
theorem dX12_whole_20 : decode cX12_whole 20 = .ok (.if_icmp .ne 32, 3) := by decide +kernel
theorem dX12_whole_23 : decode cX12_whole 23 = .ok (.aload_n 0, 1) := by decide +kernel
theorem dX12_whole_24 : decode cX12_whole 24 = .ok (.bipush (-33), 2) := by decide +kernel
theorem dX12_whole_26 : decode cX12_whole 26 = .ok (.invokevirtual 258, 3) := by decide +kernel
theorem dX12_whole_29 : decode cX12_whole 29 = .ok (.aload_n 0, 1) := by decide +kernel
theorem dX12_whole_30 : decode cX12_whole 30 = .ok (.dup, 1) := by decide +kernel
theorem dX12_whole_31 : decode cX12_whole 31 = .ok (.getfield 83, 3) := by decide +kernel
theorem dX12_whole_34 : decode cX12_whole 34 = .ok (.iconst 1, 1) := by decide +kernel
theorem dX12_whole_35 : decode cX12_whole 35 = .ok (.isub, 1) := by decide +kernel
theorem dX12_whole_36 : decode cX12_whole 36 = .ok (.putfield 83, 3) := by decide +kernel
theorem dX12_whole_39 : decode cX12_whole 39 = .ok (.aload_n 0, 1) := by decide +kernel
theorem dX12_whole_40 : decode cX12_whole 40 = .ok (.dup, 1) := by decide +kernel
theorem dX12_whole_41 : decode cX12_whole 41 = .ok (.getfield 86, 3) := by decide +kernel
theorem dX12_whole_44 : decode cX12_whole 44 = .ok (.iconst 1, 1) := by decide +kernel
theorem dX12_whole_45 : decode cX12_whole 45 = .ok (.isub, 1) := by decide +kernel
theorem dX12_whole_46 : decode cX12_whole 46 = .ok (.putfield 86, 3) := by decide +kernel
theorem dX12_whole_49 : decode cX12_whole 49 = .ok (.goto (-49), 3) := by decide +kernel
theorem dX12_whole_52 : decode cX12_whole 52 = .ok (.return_, 1) := by decide +kernel
theorem dX12_settle_0 : decode cX12_settle 0 = .ok (.aload_n 0, 1) := by decide +kernel
theorem dX12_settle_1 : decode cX12_settle 1 = .ok (.getfield 83, 3) := by decide +kernel
theorem dX12_settle_4 : decode cX12_settle 4 = .ok (.ifCond .le 68, 3) := by decide +kernel
theorem dX12_settle_7 : decode cX12_settle 7 = .ok (.aload_n 0, 1) := by decide +kernel
theorem dX12_settle_8 : decode cX12_settle 8 = .ok (.getfield 77, 3) := by decide +kernel
theorem dX12_settle_11 : decode cX12_settle 11 = .ok (.aload_n 0, 1) := by decide +kernel
theorem dX12_settle_12 : decode cX12_settle 12 = .ok (.getfield 83, 3) := by decide +kernel
theorem dX12_settle_15 : decode cX12_settle 15 = .ok (.iconst 1, 1) := by decide +kernel
theorem dX12_settle_16 : decode cX12_settle 16 = .ok (.isub, 1) := by decide +kernel
theorem dX12_settle_17 : decode cX12_settle 17 = .ok (.iaload, 1) := by decide +kernel
theorem dX12_settle_18 : decode cX12_settle 18 = .ok (.bipush 38, 2) := by decide +kernel
theorem dX12_settle_20 : decode cX12_settle 20 = .ok (.if_icmp .eq 25, 3) := by decide +kernel
theorem dX12_settle_23 : decode cX12_settle 23 = .ok (.aload_n 0, 1) := by decide +kernel
theorem dX12_settle_24 : decode cX12_settle 24 = .ok (.getfield 77, 3) := by decide +kernel
theorem dX12_settle_27 : decode cX12_settle 27 = .ok (.aload_n 0, 1) := by decide +kernel
theorem dX12_settle_28 : decode cX12_settle 28 = .ok (.getfield 83, 3) := by decide +kernel
theorem dX12_settle_31 : decode cX12_settle 31 = .ok (.iconst 1, 1) := by decide +kernel
theorem dX12_settle_32 : decode cX12_settle 32 = .ok (.isub, 1) := by decide +kernel
theorem dX12_settle_33 : decode cX12_settle 33 = .ok (.iaload, 1) := by decide +kernel
theorem dX12_settle_34 : decode cX12_settle 34 = .ok (.bipush 124, 2) := by decide +kernel
theorem dX12_settle_36 : decode cX12_settle 36 = .ok (.if_icmp .ne 36, 3) := by decide +kernel
theorem dX12_settle_39 : decode cX12_settle 39 = .ok (.iload_n 1, 1) := by decide +kernel
theorem dX12_settle_40 : decode cX12_settle 40 = .ok (.bipush 38, 2) := by decide +kernel
theorem dX12_settle_42 : decode cX12_settle 42 = .ok (.if_icmp .eq 30, 3) := by decide +kernel
theorem dX12_settle_45 : decode cX12_settle 45 = .ok (.aload_n 0, 1) := by decide +kernel
theorem dX12_settle_46 : decode cX12_settle 46 = .ok (.dup, 1) := by decide +kernel
theorem dX12_settle_47 : decode cX12_settle 47 = .ok (.getfield 83, 3) := by decide +kernel
theorem dX12_settle_50 : decode cX12_settle 50 = .ok (.iconst 1, 1) := by decide +kernel
theorem dX12_settle_51 : decode cX12_settle 51 = .ok (.isub, 1) := by decide +kernel
theorem dX12_settle_52 : decode cX12_settle 52 = .ok (.putfield 83, 3) := by decide +kernel
theorem dX12_settle_55 : decode cX12_settle 55 = .ok (.aload_n 0, 1) := by decide +kernel
theorem dX12_settle_56 : decode cX12_settle 56 = .ok (.aload_n 0, 1) := by decide +kernel
theorem dX12_settle_57 : decode cX12_settle 57 = .ok (.getfield 77, 3) := by decide +kernel
theorem dX12_settle_60 : decode cX12_settle 60 = .ok (.aload_n 0, 1) := by decide +kernel
theorem dX12_settle_61 : decode cX12_settle 61 = .ok (.getfield 83, 3) := by decide +kernel
theorem dX12_settle_64 : decode cX12_settle 64 = .ok (.iaload, 1) := by decide +kernel
theorem dX12_settle_65 : decode cX12_settle 65 = .ok (.ineg, 1) := by decide +kernel
theorem dX12_settle_66 : decode cX12_settle 66 = .ok (.invokevirtual 258, 3) := by decide +kernel
theorem dX12_settle_69 : decode cX12_settle 69 = .ok (.goto (-69), 3) := by decide +kernel
theorem dX12_settle_72 : decode cX12_settle 72 = .ok (.return_, 1) := by decide +kernel
theorem dX12_place_0 : decode cX12_place 0 = .ok (.iload_n 1, 1) := by decide +kernel
theorem dX12_place_1 : decode cX12_place 1 = .ok (.tableswitch 107 97 116 #[103, 101, 95, 107, 99, 107, 107, 107, 107, 107, 97, 107, 107, 107, 107, 107, 107, 107, 107, 105], 95) := by decide +kernel
theorem dX12_place_96 : decode cX12_place 96 = .ok (.iconst 0, 1) := by decide +kernel
theorem dX12_place_97 : decode cX12_place 97 = .ok (.ireturn, 1) := by decide +kernel
theorem dX12_place_98 : decode cX12_place 98 = .ok (.iconst 1, 1) := by decide +kernel
theorem dX12_place_99 : decode cX12_place 99 = .ok (.ireturn, 1) := by decide +kernel
theorem dX12_place_100 : decode cX12_place 100 = .ok (.iconst 2, 1) := by decide +kernel
theorem dX12_place_101 : decode cX12_place 101 = .ok (.ireturn, 1) := by decide +kernel
theorem dX12_place_102 : decode cX12_place 102 = .ok (.iconst 3, 1) := by decide +kernel
theorem dX12_place_103 : decode cX12_place 103 = .ok (.ireturn, 1) := by decide +kernel
theorem dX12_place_104 : decode cX12_place 104 = .ok (.iconst 4, 1) := by decide +kernel
theorem dX12_place_105 : decode cX12_place 105 = .ok (.ireturn, 1) := by decide +kernel
theorem dX12_place_106 : decode cX12_place 106 = .ok (.iconst 5, 1) := by decide +kernel
theorem dX12_place_107 : decode cX12_place 107 = .ok (.ireturn, 1) := by decide +kernel
theorem dX12_place_108 : decode cX12_place 108 = .ok (.iconst (-1), 1) := by decide +kernel
theorem dX12_place_109 : decode cX12_place 109 = .ok (.ireturn, 1) := by decide +kernel
theorem dX12_takesTest_0 : decode cX12_takesTest 0 = .ok (.aload_n 0, 1) := by decide +kernel
theorem dX12_takesTest_1 : decode cX12_takesTest 1 = .ok (.aload_n 0, 1) := by decide +kernel
theorem dX12_takesTest_2 : decode cX12_takesTest 2 = .ok (.invokevirtual 248, 3) := by decide +kernel
theorem dX12_takesTest_5 : decode cX12_takesTest 5 = .ok (.invokevirtual 262, 3) := by decide +kernel
theorem dX12_takesTest_8 : decode cX12_takesTest 8 = .ok (.istore_n 1, 1) := by decide +kernel
theorem dX12_takesTest_9 : decode cX12_takesTest 9 = .ok (.iload_n 1, 1) := by decide +kernel
theorem dX12_takesTest_10 : decode cX12_takesTest 10 = .ok (.ifCond .ge 5, 3) := by decide +kernel
theorem dX12_takesTest_13 : decode cX12_takesTest 13 = .ok (.iconst 0, 1) := by decide +kernel
theorem dX12_takesTest_14 : decode cX12_takesTest 14 = .ok (.ireturn, 1) := by decide +kernel
theorem dX12_takesTest_15 : decode cX12_takesTest 15 = .ok (.aload_n 0, 1) := by decide +kernel
theorem dX12_takesTest_16 : decode cX12_takesTest 16 = .ok (.dup, 1) := by decide +kernel
theorem dX12_takesTest_17 : decode cX12_takesTest 17 = .ok (.getfield 50, 3) := by decide +kernel
theorem dX12_takesTest_20 : decode cX12_takesTest 20 = .ok (.iconst 1, 1) := by decide +kernel
theorem dX12_takesTest_21 : decode cX12_takesTest 21 = .ok (.iadd, 1) := by decide +kernel
theorem dX12_takesTest_22 : decode cX12_takesTest 22 = .ok (.putfield 50, 3) := by decide +kernel
theorem dX12_takesTest_25 : decode cX12_takesTest 25 = .ok (.aload_n 0, 1) := by decide +kernel
theorem dX12_takesTest_26 : decode cX12_takesTest 26 = .ok (.invokevirtual 248, 3) := by decide +kernel
theorem dX12_takesTest_29 : decode cX12_takesTest 29 = .ok (.istore_n 2, 1) := by decide +kernel
theorem dX12_takesTest_30 : decode cX12_takesTest 30 = .ok (.aload_n 0, 1) := by decide +kernel
theorem dX12_takesTest_31 : decode cX12_takesTest 31 = .ok (.iload_n 2, 1) := by decide +kernel
theorem dX12_takesTest_32 : decode cX12_takesTest 32 = .ok (.bipush 60, 2) := by decide +kernel
theorem dX12_takesTest_34 : decode cX12_takesTest 34 = .ok (.bipush 62, 2) := by decide +kernel
theorem dX12_takesTest_36 : decode cX12_takesTest 36 = .ok (.invokevirtual 236, 3) := by decide +kernel
theorem dX12_takesTest_39 : decode cX12_takesTest 39 = .ok (.ifCond .ne 5, 3) := by decide +kernel
theorem dX12_takesTest_42 : decode cX12_takesTest 42 = .ok (.iconst 0, 1) := by decide +kernel
theorem dX12_takesTest_43 : decode cX12_takesTest 43 = .ok (.ireturn, 1) := by decide +kernel
theorem dX12_takesTest_44 : decode cX12_takesTest 44 = .ok (.aload_n 0, 1) := by decide +kernel
theorem dX12_takesTest_45 : decode cX12_takesTest 45 = .ok (.dup, 1) := by decide +kernel
theorem dX12_takesTest_46 : decode cX12_takesTest 46 = .ok (.getfield 50, 3) := by decide +kernel
theorem dX12_takesTest_49 : decode cX12_takesTest 49 = .ok (.iconst 1, 1) := by decide +kernel
theorem dX12_takesTest_50 : decode cX12_takesTest 50 = .ok (.iadd, 1) := by decide +kernel
theorem dX12_takesTest_51 : decode cX12_takesTest 51 = .ok (.putfield 50, 3) := by decide +kernel
theorem dX12_takesTest_54 : decode cX12_takesTest 54 = .ok (.aload_n 0, 1) := by decide +kernel
theorem dX12_takesTest_55 : decode cX12_takesTest 55 = .ok (.invokevirtual 266, 3) := by decide +kernel
theorem dX12_takesTest_58 : decode cX12_takesTest 58 = .ok (.ifCond .ne 5, 3) := by decide +kernel
theorem dX12_takesTest_61 : decode cX12_takesTest 61 = .ok (.iconst 0, 1) := by decide +kernel
theorem dX12_takesTest_62 : decode cX12_takesTest 62 = .ok (.ireturn, 1) := by decide +kernel
theorem dX12_takesTest_63 : decode cX12_takesTest 63 = .ok (.aload_n 0, 1) := by decide +kernel
theorem dX12_takesTest_64 : decode cX12_takesTest 64 = .ok (.sipush 1000, 3) := by decide +kernel
theorem dX12_takesTest_67 : decode cX12_takesTest 67 = .ok (.iload_n 1, 1) := by decide +kernel
theorem dX12_takesTest_68 : decode cX12_takesTest 68 = .ok (.imul, 1) := by decide +kernel
theorem dX12_takesTest_69 : decode cX12_takesTest 69 = .ok (.bipush 100, 2) := by decide +kernel
theorem dX12_takesTest_71 : decode cX12_takesTest 71 = .ok (.iload_n 2, 1) := by decide +kernel
theorem dX12_takesTest_72 : decode cX12_takesTest 72 = .ok (.bipush 60, 2) := by decide +kernel
theorem dX12_takesTest_74 : decode cX12_takesTest 74 = .ok (.isub, 1) := by decide +kernel
theorem dX12_takesTest_75 : decode cX12_takesTest 75 = .ok (.imul, 1) := by decide +kernel
theorem dX12_takesTest_76 : decode cX12_takesTest 76 = .ok (.iadd, 1) := by decide +kernel
theorem dX12_takesTest_77 : decode cX12_takesTest 77 = .ok (.aload_n 0, 1) := by decide +kernel
theorem dX12_takesTest_78 : decode cX12_takesTest 78 = .ok (.getfield 53, 3) := by decide +kernel
theorem dX12_takesTest_81 : decode cX12_takesTest 81 = .ok (.iadd, 1) := by decide +kernel
theorem dX12_takesTest_82 : decode cX12_takesTest 82 = .ok (.invokevirtual 258, 3) := by decide +kernel
theorem dX12_takesTest_85 : decode cX12_takesTest 85 = .ok (.aload_n 0, 1) := by decide +kernel
theorem dX12_takesTest_86 : decode cX12_takesTest 86 = .ok (.invokevirtual 269, 3) := by decide +kernel
theorem dX12_takesTest_89 : decode cX12_takesTest 89 = .ok (.iconst 1, 1) := by decide +kernel
theorem dX12_takesTest_90 : decode cX12_takesTest 90 = .ok (.ireturn, 1) := by decide +kernel
theorem dX12_takesE_0 : decode cX12_takesE 0 = .ok (.aload_n 0, 1) := by decide +kernel
theorem dX12_takesE_1 : decode cX12_takesE 1 = .ok (.iconst 0, 1) := by decide +kernel
theorem dX12_takesE_2 : decode cX12_takesE 2 = .ok (.putfield 83, 3) := by decide +kernel
theorem dX12_takesE_5 : decode cX12_takesE 5 = .ok (.aload_n 0, 1) := by decide +kernel
theorem dX12_takesE_6 : decode cX12_takesE 6 = .ok (.iconst 0, 1) := by decide +kernel
theorem dX12_takesE_7 : decode cX12_takesE 7 = .ok (.putfield 86, 3) := by decide +kernel
theorem dX12_takesE_10 : decode cX12_takesE 10 = .ok (.aload_n 0, 1) := by decide +kernel
theorem dX12_takesE_11 : decode cX12_takesE 11 = .ok (.getfield 68, 3) := by decide +kernel
theorem dX12_takesE_14 : decode cX12_takesE 14 = .ok (.iload_n 1, 1) := by decide +kernel
theorem dX12_takesE_15 : decode cX12_takesE 15 = .ok (.aload_n 0, 1) := by decide +kernel
theorem dX12_takesE_16 : decode cX12_takesE 16 = .ok (.getfield 80, 3) := by decide +kernel
theorem dX12_takesE_19 : decode cX12_takesE 19 = .ok (.iastore, 1) := by decide +kernel
theorem dX12_takesE_20 : decode cX12_takesE 20 = .ok (.iconst 1, 1) := by decide +kernel
theorem dX12_takesE_21 : decode cX12_takesE 21 = .ok (.istore_n 2, 1) := by decide +kernel
theorem dX12_takesE_22 : decode cX12_takesE 22 = .ok (.aload_n 0, 1) := by decide +kernel
theorem dX12_takesE_23 : decode cX12_takesE 23 = .ok (.invokevirtual 248, 3) := by decide +kernel
theorem dX12_takesE_26 : decode cX12_takesE 26 = .ok (.istore_n 3, 1) := by decide +kernel
theorem dX12_takesE_27 : decode cX12_takesE 27 = .ok (.iload_n 2, 1) := by decide +kernel
theorem dX12_takesE_28 : decode cX12_takesE 28 = .ok (.ifCond .eq 82, 3) := by decide +kernel
theorem dX12_takesE_31 : decode cX12_takesE 31 = .ok (.iload_n 3, 1) := by decide +kernel
theorem dX12_takesE_32 : decode cX12_takesE 32 = .ok (.bipush 33, 2) := by decide +kernel
theorem dX12_takesE_34 : decode cX12_takesE 34 = .ok (.if_icmp .eq 9, 3) := by decide +kernel
theorem dX12_takesE_37 : decode cX12_takesE 37 = .ok (.iload_n 3, 1) := by decide +kernel
theorem dX12_takesE_38 : decode cX12_takesE 38 = .ok (.bipush 40, 2) := by decide +kernel
theorem dX12_takesE_40 : decode cX12_takesE 40 = .ok (.if_icmp .ne 56, 3) := by decide +kernel
theorem dX12_takesE_43 : decode cX12_takesE 43 = .ok (.aload_n 0, 1) := by decide +kernel
theorem dX12_takesE_44 : decode cX12_takesE 44 = .ok (.getfield 86, 3) := by decide +kernel
theorem dX12_takesE_47 : decode cX12_takesE 47 = .ok (.iconst 4, 1) := by decide +kernel
theorem dX12_takesE_48 : decode cX12_takesE 48 = .ok (.if_icmp .ne 5, 3) := by decide +kernel
theorem dX12_takesE_51 : decode cX12_takesE 51 = .ok (.iconst 0, 1) := by decide +kernel
theorem dX12_takesE_52 : decode cX12_takesE 52 = .ok (.ireturn, 1) := by decide +kernel
theorem dX12_takesE_53 : decode cX12_takesE 53 = .ok (.aload_n 0, 1) := by decide +kernel
theorem dX12_takesE_54 : decode cX12_takesE 54 = .ok (.dup, 1) := by decide +kernel
theorem dX12_takesE_55 : decode cX12_takesE 55 = .ok (.getfield 86, 3) := by decide +kernel
theorem dX12_takesE_58 : decode cX12_takesE 58 = .ok (.iconst 1, 1) := by decide +kernel
theorem dX12_takesE_59 : decode cX12_takesE 59 = .ok (.iadd, 1) := by decide +kernel
theorem dX12_takesE_60 : decode cX12_takesE 60 = .ok (.putfield 86, 3) := by decide +kernel
theorem dX12_takesE_63 : decode cX12_takesE 63 = .ok (.aload_n 0, 1) := by decide +kernel
theorem dX12_takesE_64 : decode cX12_takesE 64 = .ok (.getfield 77, 3) := by decide +kernel
theorem dX12_takesE_67 : decode cX12_takesE 67 = .ok (.aload_n 0, 1) := by decide +kernel
theorem dX12_takesE_68 : decode cX12_takesE 68 = .ok (.getfield 83, 3) := by decide +kernel
theorem dX12_takesE_71 : decode cX12_takesE 71 = .ok (.iload_n 3, 1) := by decide +kernel
theorem dX12_takesE_72 : decode cX12_takesE 72 = .ok (.iastore, 1) := by decide +kernel
theorem dX12_takesE_73 : decode cX12_takesE 73 = .ok (.aload_n 0, 1) := by decide +kernel
theorem dX12_takesE_74 : decode cX12_takesE 74 = .ok (.dup, 1) := by decide +kernel
theorem dX12_takesE_75 : decode cX12_takesE 75 = .ok (.getfield 83, 3) := by decide +kernel
theorem dX12_takesE_78 : decode cX12_takesE 78 = .ok (.iconst 1, 1) := by decide +kernel
theorem dX12_takesE_79 : decode cX12_takesE 79 = .ok (.iadd, 1) := by decide +kernel
theorem dX12_takesE_80 : decode cX12_takesE 80 = .ok (.putfield 83, 3) := by decide +kernel
theorem dX12_takesE_83 : decode cX12_takesE 83 = .ok (.aload_n 0, 1) := by decide +kernel
theorem dX12_takesE_84 : decode cX12_takesE 84 = .ok (.dup, 1) := by decide +kernel
theorem dX12_takesE_85 : decode cX12_takesE 85 = .ok (.getfield 50, 3) := by decide +kernel
theorem dX12_takesE_88 : decode cX12_takesE 88 = .ok (.iconst 1, 1) := by decide +kernel
theorem dX12_takesE_89 : decode cX12_takesE 89 = .ok (.iadd, 1) := by decide +kernel
theorem dX12_takesE_90 : decode cX12_takesE 90 = .ok (.putfield 50, 3) := by decide +kernel
theorem dX12_takesE_93 : decode cX12_takesE 93 = .ok (.goto (-71), 3) := by decide +kernel
theorem dX12_takesE_96 : decode cX12_takesE 96 = .ok (.aload_n 0, 1) := by decide +kernel
theorem dX12_takesE_97 : decode cX12_takesE 97 = .ok (.invokevirtual 272, 3) := by decide +kernel
theorem dX12_takesE_100 : decode cX12_takesE 100 = .ok (.ifCond .eq 8, 3) := by decide +kernel
theorem dX12_takesE_103 : decode cX12_takesE 103 = .ok (.iconst 0, 1) := by decide +kernel
theorem dX12_takesE_104 : decode cX12_takesE 104 = .ok (.istore_n 2, 1) := by decide +kernel
theorem dX12_takesE_105 : decode cX12_takesE 105 = .ok (.goto (-83), 3) := by decide +kernel
theorem dX12_takesE_108 : decode cX12_takesE 108 = .ok (.iconst 0, 1) := by decide +kernel
theorem dX12_takesE_109 : decode cX12_takesE 109 = .ok (.ireturn, 1) := by decide +kernel
theorem dX12_takesE_110 : decode cX12_takesE 110 = .ok (.iload_n 3, 1) := by decide +kernel
theorem dX12_takesE_111 : decode cX12_takesE 111 = .ok (.bipush 38, 2) := by decide +kernel
theorem dX12_takesE_113 : decode cX12_takesE 113 = .ok (.if_icmp .eq 9, 3) := by decide +kernel
theorem dX12_takesE_116 : decode cX12_takesE 116 = .ok (.iload_n 3, 1) := by decide +kernel
theorem dX12_takesE_117 : decode cX12_takesE 117 = .ok (.bipush 124, 2) := by decide +kernel
theorem dX12_takesE_119 : decode cX12_takesE 119 = .ok (.if_icmp .ne 43, 3) := by decide +kernel
theorem dX12_takesE_122 : decode cX12_takesE 122 = .ok (.aload_n 0, 1) := by decide +kernel
theorem dX12_takesE_123 : decode cX12_takesE 123 = .ok (.iload_n 3, 1) := by decide +kernel
theorem dX12_takesE_124 : decode cX12_takesE 124 = .ok (.invokevirtual 275, 3) := by decide +kernel
theorem dX12_takesE_127 : decode cX12_takesE 127 = .ok (.aload_n 0, 1) := by decide +kernel
theorem dX12_takesE_128 : decode cX12_takesE 128 = .ok (.getfield 77, 3) := by decide +kernel
theorem dX12_takesE_131 : decode cX12_takesE 131 = .ok (.aload_n 0, 1) := by decide +kernel
theorem dX12_takesE_132 : decode cX12_takesE 132 = .ok (.getfield 83, 3) := by decide +kernel
theorem dX12_takesE_135 : decode cX12_takesE 135 = .ok (.iload_n 3, 1) := by decide +kernel
theorem dX12_takesE_136 : decode cX12_takesE 136 = .ok (.iastore, 1) := by decide +kernel
theorem dX12_takesE_137 : decode cX12_takesE 137 = .ok (.aload_n 0, 1) := by decide +kernel
theorem dX12_takesE_138 : decode cX12_takesE 138 = .ok (.dup, 1) := by decide +kernel
theorem dX12_takesE_139 : decode cX12_takesE 139 = .ok (.getfield 83, 3) := by decide +kernel
theorem dX12_takesE_142 : decode cX12_takesE 142 = .ok (.iconst 1, 1) := by decide +kernel
theorem dX12_takesE_143 : decode cX12_takesE 143 = .ok (.iadd, 1) := by decide +kernel
theorem dX12_takesE_144 : decode cX12_takesE 144 = .ok (.putfield 83, 3) := by decide +kernel
theorem dX12_takesE_147 : decode cX12_takesE 147 = .ok (.iconst 1, 1) := by decide +kernel
theorem dX12_takesE_148 : decode cX12_takesE 148 = .ok (.istore_n 2, 1) := by decide +kernel
theorem dX12_takesE_149 : decode cX12_takesE 149 = .ok (.aload_n 0, 1) := by decide +kernel
theorem dX12_takesE_150 : decode cX12_takesE 150 = .ok (.dup, 1) := by decide +kernel
theorem dX12_takesE_151 : decode cX12_takesE 151 = .ok (.getfield 50, 3) := by decide +kernel
theorem dX12_takesE_154 : decode cX12_takesE 154 = .ok (.iconst 1, 1) := by decide +kernel
theorem dX12_takesE_155 : decode cX12_takesE 155 = .ok (.iadd, 1) := by decide +kernel
theorem dX12_takesE_156 : decode cX12_takesE 156 = .ok (.putfield 50, 3) := by decide +kernel
theorem dX12_takesE_159 : decode cX12_takesE 159 = .ok (.goto (-137), 3) := by decide +kernel
theorem dX12_takesE_162 : decode cX12_takesE 162 = .ok (.aload_n 0, 1) := by decide +kernel
theorem dX12_takesE_163 : decode cX12_takesE 163 = .ok (.bipush 124, 2) := by decide +kernel
theorem dX12_takesE_165 : decode cX12_takesE 165 = .ok (.invokevirtual 275, 3) := by decide +kernel
theorem dX12_takesE_168 : decode cX12_takesE 168 = .ok (.aload_n 0, 1) := by decide +kernel
theorem dX12_takesE_169 : decode cX12_takesE 169 = .ok (.getfield 71, 3) := by decide +kernel
theorem dX12_takesE_172 : decode cX12_takesE 172 = .ok (.iload_n 1, 1) := by decide +kernel
theorem dX12_takesE_173 : decode cX12_takesE 173 = .ok (.aload_n 0, 1) := by decide +kernel
theorem dX12_takesE_174 : decode cX12_takesE 174 = .ok (.getfield 80, 3) := by decide +kernel
theorem dX12_takesE_177 : decode cX12_takesE 177 = .ok (.iastore, 1) := by decide +kernel
theorem dX12_takesE_178 : decode cX12_takesE 178 = .ok (.aload_n 0, 1) := by decide +kernel
theorem dX12_takesE_179 : decode cX12_takesE 179 = .ok (.getfield 83, 3) := by decide +kernel
theorem dX12_takesE_182 : decode cX12_takesE 182 = .ok (.ifCond .ne 5, 3) := by decide +kernel
theorem dX12_takesE_185 : decode cX12_takesE 185 = .ok (.iconst 1, 1) := by decide +kernel
theorem dX12_takesE_186 : decode cX12_takesE 186 = .ok (.ireturn, 1) := by decide +kernel
theorem dX12_takesE_187 : decode cX12_takesE 187 = .ok (.iload_n 3, 1) := by decide +kernel
theorem dX12_takesE_188 : decode cX12_takesE 188 = .ok (.bipush 41, 2) := by decide +kernel
theorem dX12_takesE_190 : decode cX12_takesE 190 = .ok (.if_icmp .eq 5, 3) := by decide +kernel
theorem dX12_takesE_193 : decode cX12_takesE 193 = .ok (.iconst 0, 1) := by decide +kernel
theorem dX12_takesE_194 : decode cX12_takesE 194 = .ok (.ireturn, 1) := by decide +kernel
theorem dX12_takesE_195 : decode cX12_takesE 195 = .ok (.aload_n 0, 1) := by decide +kernel
theorem dX12_takesE_196 : decode cX12_takesE 196 = .ok (.dup, 1) := by decide +kernel
theorem dX12_takesE_197 : decode cX12_takesE 197 = .ok (.getfield 83, 3) := by decide +kernel
theorem dX12_takesE_200 : decode cX12_takesE 200 = .ok (.iconst 1, 1) := by decide +kernel
theorem dX12_takesE_201 : decode cX12_takesE 201 = .ok (.isub, 1) := by decide +kernel
theorem dX12_takesE_202 : decode cX12_takesE 202 = .ok (.putfield 83, 3) := by decide +kernel
theorem dX12_takesE_205 : decode cX12_takesE 205 = .ok (.aload_n 0, 1) := by decide +kernel
theorem dX12_takesE_206 : decode cX12_takesE 206 = .ok (.dup, 1) := by decide +kernel
theorem dX12_takesE_207 : decode cX12_takesE 207 = .ok (.getfield 86, 3) := by decide +kernel
theorem dX12_takesE_210 : decode cX12_takesE 210 = .ok (.iconst 1, 1) := by decide +kernel
theorem dX12_takesE_211 : decode cX12_takesE 211 = .ok (.isub, 1) := by decide +kernel
theorem dX12_takesE_212 : decode cX12_takesE 212 = .ok (.putfield 86, 3) := by decide +kernel
theorem dX12_takesE_215 : decode cX12_takesE 215 = .ok (.aload_n 0, 1) := by decide +kernel
theorem dX12_takesE_216 : decode cX12_takesE 216 = .ok (.dup, 1) := by decide +kernel
theorem dX12_takesE_217 : decode cX12_takesE 217 = .ok (.getfield 50, 3) := by decide +kernel
theorem dX12_takesE_220 : decode cX12_takesE 220 = .ok (.iconst 1, 1) := by decide +kernel
theorem dX12_takesE_221 : decode cX12_takesE 221 = .ok (.iadd, 1) := by decide +kernel
theorem dX12_takesE_222 : decode cX12_takesE 222 = .ok (.putfield 50, 3) := by decide +kernel
theorem dX12_takesE_225 : decode cX12_takesE 225 = .ok (.aload_n 0, 1) := by decide +kernel
theorem dX12_takesE_226 : decode cX12_takesE 226 = .ok (.invokevirtual 269, 3) := by decide +kernel
theorem dX12_takesE_229 : decode cX12_takesE 229 = .ok (.goto (-207), 3) := by decide +kernel
theorem dX12_takesHead_0 : decode cX12_takesHead 0 = .ok (.aload_n 0, 1) := by decide +kernel
theorem dX12_takesHead_1 : decode cX12_takesHead 1 = .ok (.invokevirtual 248, 3) := by decide +kernel
theorem dX12_takesHead_4 : decode cX12_takesHead 4 = .ok (.lookupswitch 58 #[(102, 43), (119, 28)], 28) := by decide +kernel
theorem dX12_takesHead_32 : decode cX12_takesHead 32 = .ok (.aload_n 0, 1) := by decide +kernel
theorem dX12_takesHead_33 : decode cX12_takesHead 33 = .ok (.getfield 62, 3) := by decide +kernel
theorem dX12_takesHead_36 : decode cX12_takesHead 36 = .ok (.iload_n 1, 1) := by decide +kernel
theorem dX12_takesHead_37 : decode cX12_takesHead 37 = .ok (.iconst 0, 1) := by decide +kernel
theorem dX12_takesHead_38 : decode cX12_takesHead 38 = .ok (.iastore, 1) := by decide +kernel
theorem dX12_takesHead_39 : decode cX12_takesHead 39 = .ok (.aload_n 0, 1) := by decide +kernel
theorem dX12_takesHead_40 : decode cX12_takesHead 40 = .ok (.iconst 0, 1) := by decide +kernel
theorem dX12_takesHead_41 : decode cX12_takesHead 41 = .ok (.bipush 6, 2) := by decide +kernel
theorem dX12_takesHead_43 : decode cX12_takesHead 43 = .ok (.invokevirtual 278, 3) := by decide +kernel
theorem dX12_takesHead_46 : decode cX12_takesHead 46 = .ok (.ireturn, 1) := by decide +kernel
theorem dX12_takesHead_47 : decode cX12_takesHead 47 = .ok (.aload_n 0, 1) := by decide +kernel
theorem dX12_takesHead_48 : decode cX12_takesHead 48 = .ok (.getfield 62, 3) := by decide +kernel
theorem dX12_takesHead_51 : decode cX12_takesHead 51 = .ok (.iload_n 1, 1) := by decide +kernel
theorem dX12_takesHead_52 : decode cX12_takesHead 52 = .ok (.iconst 2, 1) := by decide +kernel
theorem dX12_takesHead_53 : decode cX12_takesHead 53 = .ok (.iastore, 1) := by decide +kernel
theorem dX12_takesHead_54 : decode cX12_takesHead 54 = .ok (.aload_n 0, 1) := by decide +kernel
theorem dX12_takesHead_55 : decode cX12_takesHead 55 = .ok (.bipush 11, 2) := by decide +kernel
theorem dX12_takesHead_57 : decode cX12_takesHead 57 = .ok (.iconst 3, 1) := by decide +kernel
theorem dX12_takesHead_58 : decode cX12_takesHead 58 = .ok (.invokevirtual 278, 3) := by decide +kernel
theorem dX12_takesHead_61 : decode cX12_takesHead 61 = .ok (.ireturn, 1) := by decide +kernel
theorem dX12_takesHead_62 : decode cX12_takesHead 62 = .ok (.aload_n 0, 1) := by decide +kernel
theorem dX12_takesHead_63 : decode cX12_takesHead 63 = .ok (.getfield 62, 3) := by decide +kernel
theorem dX12_takesHead_66 : decode cX12_takesHead 66 = .ok (.iload_n 1, 1) := by decide +kernel
theorem dX12_takesHead_67 : decode cX12_takesHead 67 = .ok (.aload_n 0, 1) := by decide +kernel
theorem dX12_takesHead_68 : decode cX12_takesHead 68 = .ok (.invokevirtual 282, 3) := by decide +kernel
theorem dX12_takesHead_71 : decode cX12_takesHead 71 = .ok (.bipush 116, 2) := by decide +kernel
theorem dX12_takesHead_73 : decode cX12_takesHead 73 = .ok (.if_icmp .ne 7, 3) := by decide +kernel
theorem dX12_takesHead_76 : decode cX12_takesHead 76 = .ok (.iconst 1, 1) := by decide +kernel
theorem dX12_takesHead_77 : decode cX12_takesHead 77 = .ok (.goto 17, 3) := by decide +kernel
theorem dX12_takesHead_80 : decode cX12_takesHead 80 = .ok (.aload_n 0, 1) := by decide +kernel
theorem dX12_takesHead_81 : decode cX12_takesHead 81 = .ok (.invokevirtual 282, 3) := by decide +kernel
theorem dX12_takesHead_84 : decode cX12_takesHead 84 = .ok (.bipush 104, 2) := by decide +kernel
theorem dX12_takesHead_86 : decode cX12_takesHead 86 = .ok (.if_icmp .ne 7, 3) := by decide +kernel
theorem dX12_takesHead_89 : decode cX12_takesHead 89 = .ok (.iconst 3, 1) := by decide +kernel
theorem dX12_takesHead_90 : decode cX12_takesHead 90 = .ok (.goto 4, 3) := by decide +kernel
theorem dX12_takesHead_93 : decode cX12_takesHead 93 = .ok (.iconst 4, 1) := by decide +kernel
theorem dX12_takesHead_94 : decode cX12_takesHead 94 = .ok (.iastore, 1) := by decide +kernel
theorem dX12_takesHead_95 : decode cX12_takesHead 95 = .ok (.aload_n 0, 1) := by decide +kernel
theorem dX12_takesHead_96 : decode cX12_takesHead 96 = .ok (.getfield 62, 3) := by decide +kernel
theorem dX12_takesHead_99 : decode cX12_takesHead 99 = .ok (.iload_n 1, 1) := by decide +kernel
theorem dX12_takesHead_100 : decode cX12_takesHead 100 = .ok (.iaload, 1) := by decide +kernel
theorem dX12_takesHead_101 : decode cX12_takesHead 101 = .ok (.iconst 1, 1) := by decide +kernel
theorem dX12_takesHead_102 : decode cX12_takesHead 102 = .ok (.if_icmp .ne 13, 3) := by decide +kernel
theorem dX12_takesHead_105 : decode cX12_takesHead 105 = .ok (.aload_n 0, 1) := by decide +kernel
theorem dX12_takesHead_106 : decode cX12_takesHead 106 = .ok (.bipush 6, 2) := by decide +kernel
theorem dX12_takesHead_108 : decode cX12_takesHead 108 = .ok (.iconst 5, 1) := by decide +kernel
theorem dX12_takesHead_109 : decode cX12_takesHead 109 = .ok (.invokevirtual 278, 3) := by decide +kernel
theorem dX12_takesHead_112 : decode cX12_takesHead 112 = .ok (.goto 30, 3) := by decide +kernel
theorem dX12_takesHead_115 : decode cX12_takesHead 115 = .ok (.aload_n 0, 1) := by decide +kernel
theorem dX12_takesHead_116 : decode cX12_takesHead 116 = .ok (.getfield 62, 3) := by decide +kernel
theorem dX12_takesHead_119 : decode cX12_takesHead 119 = .ok (.iload_n 1, 1) := by decide +kernel
theorem dX12_takesHead_120 : decode cX12_takesHead 120 = .ok (.iaload, 1) := by decide +kernel
theorem dX12_takesHead_121 : decode cX12_takesHead 121 = .ok (.iconst 3, 1) := by decide +kernel
theorem dX12_takesHead_122 : decode cX12_takesHead 122 = .ok (.if_icmp .ne 13, 3) := by decide +kernel
theorem dX12_takesHead_125 : decode cX12_takesHead 125 = .ok (.aload_n 0, 1) := by decide +kernel
theorem dX12_takesHead_126 : decode cX12_takesHead 126 = .ok (.bipush 14, 2) := by decide +kernel
theorem dX12_takesHead_128 : decode cX12_takesHead 128 = .ok (.iconst 5, 1) := by decide +kernel
theorem dX12_takesHead_129 : decode cX12_takesHead 129 = .ok (.invokevirtual 278, 3) := by decide +kernel
theorem dX12_takesHead_132 : decode cX12_takesHead 132 = .ok (.goto 10, 3) := by decide +kernel
theorem dX12_takesHead_135 : decode cX12_takesHead 135 = .ok (.aload_n 0, 1) := by decide +kernel
theorem dX12_takesHead_136 : decode cX12_takesHead 136 = .ok (.bipush 19, 2) := by decide +kernel
theorem dX12_takesHead_138 : decode cX12_takesHead 138 = .ok (.iconst 4, 1) := by decide +kernel
theorem dX12_takesHead_139 : decode cX12_takesHead 139 = .ok (.invokevirtual 278, 3) := by decide +kernel
theorem dX12_takesHead_142 : decode cX12_takesHead 142 = .ok (.ireturn, 1) := by decide +kernel
theorem dX12_takesClause_0 : decode cX12_takesClause 0 = .ok (.aload_n 0, 1) := by decide +kernel
theorem dX12_takesClause_1 : decode cX12_takesClause 1 = .ok (.iload_n 1, 1) := by decide +kernel
theorem dX12_takesClause_2 : decode cX12_takesClause 2 = .ok (.invokevirtual 285, 3) := by decide +kernel
theorem dX12_takesClause_5 : decode cX12_takesClause 5 = .ok (.ifCond .eq 10, 3) := by decide +kernel
theorem dX12_takesClause_8 : decode cX12_takesClause 8 = .ok (.aload_n 0, 1) := by decide +kernel
theorem dX12_takesClause_9 : decode cX12_takesClause 9 = .ok (.invokevirtual 266, 3) := by decide +kernel
theorem dX12_takesClause_12 : decode cX12_takesClause 12 = .ok (.ifCond .ne 5, 3) := by decide +kernel
theorem dX12_takesClause_15 : decode cX12_takesClause 15 = .ok (.iconst 0, 1) := by decide +kernel
theorem dX12_takesClause_16 : decode cX12_takesClause 16 = .ok (.ireturn, 1) := by decide +kernel
theorem dX12_takesClause_17 : decode cX12_takesClause 17 = .ok (.aload_n 0, 1) := by decide +kernel
theorem dX12_takesClause_18 : decode cX12_takesClause 18 = .ok (.getfield 65, 3) := by decide +kernel
theorem dX12_takesClause_21 : decode cX12_takesClause 21 = .ok (.iload_n 1, 1) := by decide +kernel
theorem dX12_takesClause_22 : decode cX12_takesClause 22 = .ok (.aload_n 0, 1) := by decide +kernel
theorem dX12_takesClause_23 : decode cX12_takesClause 23 = .ok (.getfield 53, 3) := by decide +kernel
theorem dX12_takesClause_26 : decode cX12_takesClause 26 = .ok (.iastore, 1) := by decide +kernel
theorem dX12_takesClause_27 : decode cX12_takesClause 27 = .ok (.aload_n 0, 1) := by decide +kernel
theorem dX12_takesClause_28 : decode cX12_takesClause 28 = .ok (.getfield 62, 3) := by decide +kernel
theorem dX12_takesClause_31 : decode cX12_takesClause 31 = .ok (.iload_n 1, 1) := by decide +kernel
theorem dX12_takesClause_32 : decode cX12_takesClause 32 = .ok (.iaload, 1) := by decide +kernel
theorem dX12_takesClause_33 : decode cX12_takesClause 33 = .ok (.iconst 2, 1) := by decide +kernel
theorem dX12_takesClause_34 : decode cX12_takesClause 34 = .ok (.if_icmp .ge 20, 3) := by decide +kernel
theorem dX12_takesClause_37 : decode cX12_takesClause 37 = .ok (.aload_n 0, 1) := by decide +kernel
theorem dX12_takesClause_38 : decode cX12_takesClause 38 = .ok (.bipush 32, 2) := by decide +kernel
theorem dX12_takesClause_40 : decode cX12_takesClause 40 = .ok (.invokevirtual 251, 3) := by decide +kernel
theorem dX12_takesClause_43 : decode cX12_takesClause 43 = .ok (.ifCond .eq 15, 3) := by decide +kernel
theorem dX12_takesClause_46 : decode cX12_takesClause 46 = .ok (.aload_n 0, 1) := by decide +kernel
theorem dX12_takesClause_47 : decode cX12_takesClause 47 = .ok (.iload_n 1, 1) := by decide +kernel
theorem dX12_takesClause_48 : decode cX12_takesClause 48 = .ok (.invokevirtual 288, 3) := by decide +kernel
theorem dX12_takesClause_51 : decode cX12_takesClause 51 = .ok (.ifCond .eq 7, 3) := by decide +kernel
theorem dX12_takesClause_54 : decode cX12_takesClause 54 = .ok (.iconst 1, 1) := by decide +kernel
theorem dX12_takesClause_55 : decode cX12_takesClause 55 = .ok (.goto 4, 3) := by decide +kernel
theorem dX12_takesClause_58 : decode cX12_takesClause 58 = .ok (.iconst 0, 1) := by decide +kernel
theorem dX12_takesClause_59 : decode cX12_takesClause 59 = .ok (.ireturn, 1) := by decide +kernel
theorem dX12_goesText_0 : decode cX12_goesText 0 = .ok (.aload_n 0, 1) := by decide +kernel
theorem dX12_goesText_1 : decode cX12_goesText 1 = .ok (.iconst 0, 1) := by decide +kernel
theorem dX12_goesText_2 : decode cX12_goesText 2 = .ok (.putfield 50, 3) := by decide +kernel
theorem dX12_goesText_5 : decode cX12_goesText 5 = .ok (.aload_n 0, 1) := by decide +kernel
theorem dX12_goesText_6 : decode cX12_goesText 6 = .ok (.bipush 100, 2) := by decide +kernel
theorem dX12_goesText_8 : decode cX12_goesText 8 = .ok (.iload_n 1, 1) := by decide +kernel
theorem dX12_goesText_9 : decode cX12_goesText 9 = .ok (.imul, 1) := by decide +kernel
theorem dX12_goesText_10 : decode cX12_goesText 10 = .ok (.putfield 80, 3) := by decide +kernel
theorem dX12_goesText_13 : decode cX12_goesText 13 = .ok (.iconst 0, 1) := by decide +kernel
theorem dX12_goesText_14 : decode cX12_goesText 14 = .ok (.istore_n 2, 1) := by decide +kernel
theorem dX12_goesText_15 : decode cX12_goesText 15 = .ok (.aload_n 0, 1) := by decide +kernel
theorem dX12_goesText_16 : decode cX12_goesText 16 = .ok (.bipush 10, 2) := by decide +kernel
theorem dX12_goesText_18 : decode cX12_goesText 18 = .ok (.iload_n 1, 1) := by decide +kernel
theorem dX12_goesText_19 : decode cX12_goesText 19 = .ok (.imul, 1) := by decide +kernel
theorem dX12_goesText_20 : decode cX12_goesText 20 = .ok (.iload_n 2, 1) := by decide +kernel
theorem dX12_goesText_21 : decode cX12_goesText 21 = .ok (.iadd, 1) := by decide +kernel
theorem dX12_goesText_22 : decode cX12_goesText 22 = .ok (.invokevirtual 291, 3) := by decide +kernel
theorem dX12_goesText_25 : decode cX12_goesText 25 = .ok (.ifCond .ne 5, 3) := by decide +kernel
theorem dX12_goesText_28 : decode cX12_goesText 28 = .ok (.iconst 0, 1) := by decide +kernel
theorem dX12_goesText_29 : decode cX12_goesText 29 = .ok (.ireturn, 1) := by decide +kernel
theorem dX12_goesText_30 : decode cX12_goesText 30 = .ok (.iinc 2 1, 3) := by decide +kernel
theorem dX12_goesText_33 : decode cX12_goesText 33 = .ok (.aload_n 0, 1) := by decide +kernel
theorem dX12_goesText_34 : decode cX12_goesText 34 = .ok (.getfield 59, 3) := by decide +kernel
theorem dX12_goesText_37 : decode cX12_goesText 37 = .ok (.iload_n 1, 1) := by decide +kernel
theorem dX12_goesText_38 : decode cX12_goesText 38 = .ok (.iload_n 2, 1) := by decide +kernel
theorem dX12_goesText_39 : decode cX12_goesText 39 = .ok (.iastore, 1) := by decide +kernel
theorem dX12_goesText_40 : decode cX12_goesText 40 = .ok (.aload_n 0, 1) := by decide +kernel
theorem dX12_goesText_41 : decode cX12_goesText 41 = .ok (.getfield 50, 3) := by decide +kernel
theorem dX12_goesText_44 : decode cX12_goesText 44 = .ok (.aload_n 0, 1) := by decide +kernel
theorem dX12_goesText_45 : decode cX12_goesText 45 = .ok (.getfield 47, 3) := by decide +kernel
theorem dX12_goesText_48 : decode cX12_goesText 48 = .ok (.if_icmp .ne 5, 3) := by decide +kernel
theorem dX12_goesText_51 : decode cX12_goesText 51 = .ok (.iconst 1, 1) := by decide +kernel
theorem dX12_goesText_52 : decode cX12_goesText 52 = .ok (.ireturn, 1) := by decide +kernel
theorem dX12_goesText_53 : decode cX12_goesText 53 = .ok (.iload_n 2, 1) := by decide +kernel
theorem dX12_goesText_54 : decode cX12_goesText 54 = .ok (.bipush 10, 2) := by decide +kernel
theorem dX12_goesText_56 : decode cX12_goesText 56 = .ok (.if_icmp .eq 12, 3) := by decide +kernel
theorem dX12_goesText_59 : decode cX12_goesText 59 = .ok (.aload_n 0, 1) := by decide +kernel
theorem dX12_goesText_60 : decode cX12_goesText 60 = .ok (.bipush 59, 2) := by decide +kernel
theorem dX12_goesText_62 : decode cX12_goesText 62 = .ok (.invokevirtual 251, 3) := by decide +kernel
theorem dX12_goesText_65 : decode cX12_goesText 65 = .ok (.ifCond .ne (-50), 3) := by decide +kernel
theorem dX12_goesText_68 : decode cX12_goesText 68 = .ok (.iconst 0, 1) := by decide +kernel
theorem dX12_goesText_69 : decode cX12_goesText 69 = .ok (.ireturn, 1) := by decide +kernel
theorem dX12_yard_0 : decode cX12_yard 0 = .ok (.aload_n 0, 1) := by decide +kernel
theorem dX12_yard_1 : decode cX12_yard 1 = .ok (.getfield 41, 3) := by decide +kernel
theorem dX12_yard_4 : decode cX12_yard 4 = .ok (.bipush 6, 2) := by decide +kernel
theorem dX12_yard_6 : decode cX12_yard 6 = .ok (.if_icmp .ne 6, 3) := by decide +kernel
theorem dX12_yard_9 : decode cX12_yard 9 = .ok (.bipush (-4), 2) := by decide +kernel
theorem dX12_yard_11 : decode cX12_yard 11 = .ok (.ireturn, 1) := by decide +kernel
theorem dX12_yard_12 : decode cX12_yard 12 = .ok (.aload_n 0, 1) := by decide +kernel
theorem dX12_yard_13 : decode cX12_yard 13 = .ok (.aload_n 0, 1) := by decide +kernel
theorem dX12_yard_14 : decode cX12_yard 14 = .ok (.getfield 41, 3) := by decide +kernel
theorem dX12_yard_17 : decode cX12_yard 17 = .ok (.invokevirtual 294, 3) := by decide +kernel
theorem dX12_yard_20 : decode cX12_yard 20 = .ok (.istore_n 1, 1) := by decide +kernel
theorem dX12_yard_21 : decode cX12_yard 21 = .ok (.aload_n 0, 1) := by decide +kernel
theorem dX12_yard_22 : decode cX12_yard 22 = .ok (.iconst 0, 1) := by decide +kernel
theorem dX12_yard_23 : decode cX12_yard 23 = .ok (.putfield 47, 3) := by decide +kernel
theorem dX12_yard_26 : decode cX12_yard 26 = .ok (.iload_n 1, 1) := by decide +kernel
theorem dX12_yard_27 : decode cX12_yard 27 = .ok (.ifCond .ne 11, 3) := by decide +kernel
theorem dX12_yard_30 : decode cX12_yard 30 = .ok (.bipush (-10), 2) := by decide +kernel
theorem dX12_yard_32 : decode cX12_yard 32 = .ok (.aload_n 0, 1) := by decide +kernel
theorem dX12_yard_33 : decode cX12_yard 33 = .ok (.getfield 50, 3) := by decide +kernel
theorem dX12_yard_36 : decode cX12_yard 36 = .ok (.isub, 1) := by decide +kernel
theorem dX12_yard_37 : decode cX12_yard 37 = .ok (.ireturn, 1) := by decide +kernel
theorem dX12_yard_38 : decode cX12_yard 38 = .ok (.aload_n 0, 1) := by decide +kernel
theorem dX12_yard_39 : decode cX12_yard 39 = .ok (.aload_n 0, 1) := by decide +kernel
theorem dX12_yard_40 : decode cX12_yard 40 = .ok (.getfield 41, 3) := by decide +kernel
theorem dX12_yard_43 : decode cX12_yard 43 = .ok (.putfield 44, 3) := by decide +kernel
theorem dX12_yard_46 : decode cX12_yard 46 = .ok (.aload_n 0, 1) := by decide +kernel
theorem dX12_yard_47 : decode cX12_yard 47 = .ok (.dup, 1) := by decide +kernel
theorem dX12_yard_48 : decode cX12_yard 48 = .ok (.getfield 41, 3) := by decide +kernel
theorem dX12_yard_51 : decode cX12_yard 51 = .ok (.iconst 1, 1) := by decide +kernel
theorem dX12_yard_52 : decode cX12_yard 52 = .ok (.iadd, 1) := by decide +kernel
theorem dX12_yard_53 : decode cX12_yard 53 = .ok (.putfield 41, 3) := by decide +kernel
theorem dX12_yard_56 : decode cX12_yard 56 = .ok (.aload_n 0, 1) := by decide +kernel
theorem dX12_yard_57 : decode cX12_yard 57 = .ok (.getfield 44, 3) := by decide +kernel
theorem dX12_yard_60 : decode cX12_yard 60 = .ok (.ireturn, 1) := by decide +kernel
theorem dX12_begin_0 : decode cX12_begin 0 = .ok (.aload_n 0, 1) := by decide +kernel
theorem dX12_begin_1 : decode cX12_begin 1 = .ok (.getfield 44, 3) := by decide +kernel
theorem dX12_begin_4 : decode cX12_begin 4 = .ok (.ifCond .ge 7, 3) := by decide +kernel
theorem dX12_begin_7 : decode cX12_begin 7 = .ok (.iconst 0, 1) := by decide +kernel
theorem dX12_begin_8 : decode cX12_begin 8 = .ok (.goto 10, 3) := by decide +kernel
theorem dX12_begin_11 : decode cX12_begin 11 = .ok (.bipush 10, 2) := by decide +kernel
theorem dX12_begin_13 : decode cX12_begin 13 = .ok (.aload_n 0, 1) := by decide +kernel
theorem dX12_begin_14 : decode cX12_begin 14 = .ok (.getfield 44, 3) := by decide +kernel
theorem dX12_begin_17 : decode cX12_begin 17 = .ok (.imul, 1) := by decide +kernel
theorem dX12_begin_18 : decode cX12_begin 18 = .ok (.ireturn, 1) := by decide +kernel
theorem dX12_behind_0 : decode cX12_behind 0 = .ok (.aload_n 0, 1) := by decide +kernel
theorem dX12_behind_1 : decode cX12_behind 1 = .ok (.getfield 44, 3) := by decide +kernel
theorem dX12_behind_4 : decode cX12_behind 4 = .ok (.ifCond .ge 7, 3) := by decide +kernel
theorem dX12_behind_7 : decode cX12_behind 7 = .ok (.iconst 0, 1) := by decide +kernel
theorem dX12_behind_8 : decode cX12_behind 8 = .ok (.goto 20, 3) := by decide +kernel
theorem dX12_behind_11 : decode cX12_behind 11 = .ok (.bipush 10, 2) := by decide +kernel
theorem dX12_behind_13 : decode cX12_behind 13 = .ok (.aload_n 0, 1) := by decide +kernel
theorem dX12_behind_14 : decode cX12_behind 14 = .ok (.getfield 44, 3) := by decide +kernel
theorem dX12_behind_17 : decode cX12_behind 17 = .ok (.imul, 1) := by decide +kernel
theorem dX12_behind_18 : decode cX12_behind 18 = .ok (.aload_n 0, 1) := by decide +kernel
theorem dX12_behind_19 : decode cX12_behind 19 = .ok (.getfield 59, 3) := by decide +kernel
theorem dX12_behind_22 : decode cX12_behind 22 = .ok (.aload_n 0, 1) := by decide +kernel
theorem dX12_behind_23 : decode cX12_behind 23 = .ok (.getfield 44, 3) := by decide +kernel
theorem dX12_behind_26 : decode cX12_behind 26 = .ok (.iaload, 1) := by decide +kernel
theorem dX12_behind_27 : decode cX12_behind 27 = .ok (.iadd, 1) := by decide +kernel
theorem dX12_behind_28 : decode cX12_behind 28 = .ok (.ireturn, 1) := by decide +kernel
theorem dX12_lastOf_0 : decode cX12_lastOf 0 = .ok (.iload_n 2, 1) := by decide +kernel
theorem dX12_lastOf_1 : decode cX12_lastOf 1 = .ok (.istore_n 3, 1) := by decide +kernel
theorem dX12_lastOf_2 : decode cX12_lastOf 2 = .ok (.aload_n 0, 1) := by decide +kernel
theorem dX12_lastOf_3 : decode cX12_lastOf 3 = .ok (.invokevirtual 297, 3) := by decide +kernel
theorem dX12_lastOf_6 : decode cX12_lastOf 6 = .ok (.istore 4, 2) := by decide +kernel
theorem dX12_lastOf_8 : decode cX12_lastOf 8 = .ok (.iload 4, 2) := by decide +kernel
theorem dX12_lastOf_10 : decode cX12_lastOf 10 = .ok (.aload_n 0, 1) := by decide +kernel
theorem dX12_lastOf_11 : decode cX12_lastOf 11 = .ok (.invokevirtual 300, 3) := by decide +kernel
theorem dX12_lastOf_14 : decode cX12_lastOf 14 = .ok (.if_icmp .ge 32, 3) := by decide +kernel
theorem dX12_lastOf_17 : decode cX12_lastOf 17 = .ok (.aload_n 0, 1) := by decide +kernel
theorem dX12_lastOf_18 : decode cX12_lastOf 18 = .ok (.getfield 62, 3) := by decide +kernel
theorem dX12_lastOf_21 : decode cX12_lastOf 21 = .ok (.iload 4, 2) := by decide +kernel
theorem dX12_lastOf_23 : decode cX12_lastOf 23 = .ok (.iaload, 1) := by decide +kernel
theorem dX12_lastOf_24 : decode cX12_lastOf 24 = .ok (.iload_n 1, 1) := by decide +kernel
theorem dX12_lastOf_25 : decode cX12_lastOf 25 = .ok (.if_icmp .ne 13, 3) := by decide +kernel
theorem dX12_lastOf_28 : decode cX12_lastOf 28 = .ok (.aload_n 0, 1) := by decide +kernel
theorem dX12_lastOf_29 : decode cX12_lastOf 29 = .ok (.getfield 65, 3) := by decide +kernel
theorem dX12_lastOf_32 : decode cX12_lastOf 32 = .ok (.iload 4, 2) := by decide +kernel
theorem dX12_lastOf_34 : decode cX12_lastOf 34 = .ok (.iaload, 1) := by decide +kernel
theorem dX12_lastOf_35 : decode cX12_lastOf 35 = .ok (.goto 4, 3) := by decide +kernel
theorem dX12_lastOf_38 : decode cX12_lastOf 38 = .ok (.iload_n 3, 1) := by decide +kernel
theorem dX12_lastOf_39 : decode cX12_lastOf 39 = .ok (.istore_n 3, 1) := by decide +kernel
theorem dX12_lastOf_40 : decode cX12_lastOf 40 = .ok (.iinc 4 1, 3) := by decide +kernel
theorem dX12_lastOf_43 : decode cX12_lastOf 43 = .ok (.goto (-35), 3) := by decide +kernel
theorem dX12_lastOf_46 : decode cX12_lastOf 46 = .ok (.iload_n 3, 1) := by decide +kernel
theorem dX12_lastOf_47 : decode cX12_lastOf 47 = .ok (.ireturn, 1) := by decide +kernel
theorem dX12_far_0 : decode cX12_far 0 = .ok (.aload_n 0, 1) := by decide +kernel
theorem dX12_far_1 : decode cX12_far 1 = .ok (.iconst 2, 1) := by decide +kernel
theorem dX12_far_2 : decode cX12_far 2 = .ok (.bipush 40, 2) := by decide +kernel
theorem dX12_far_4 : decode cX12_far 4 = .ok (.invokevirtual 303, 3) := by decide +kernel
theorem dX12_far_7 : decode cX12_far 7 = .ok (.istore_n 1, 1) := by decide +kernel
theorem dX12_far_8 : decode cX12_far 8 = .ok (.iload_n 1, 1) := by decide +kernel
theorem dX12_far_9 : decode cX12_far 9 = .ok (.iconst 1, 1) := by decide +kernel
theorem dX12_far_10 : decode cX12_far 10 = .ok (.if_icmp .ge 7, 3) := by decide +kernel
theorem dX12_far_13 : decode cX12_far 13 = .ok (.iconst 1, 1) := by decide +kernel
theorem dX12_far_14 : decode cX12_far 14 = .ok (.goto 4, 3) := by decide +kernel
theorem dX12_far_17 : decode cX12_far 17 = .ok (.iload_n 1, 1) := by decide +kernel
theorem dX12_far_18 : decode cX12_far 18 = .ok (.ireturn, 1) := by decide +kernel
theorem dX12_sharp_0 : decode cX12_sharp 0 = .ok (.aload_n 0, 1) := by decide +kernel
theorem dX12_sharp_1 : decode cX12_sharp 1 = .ok (.iconst 3, 1) := by decide +kernel
theorem dX12_sharp_2 : decode cX12_sharp 2 = .ok (.iconst 3, 1) := by decide +kernel
theorem dX12_sharp_3 : decode cX12_sharp 3 = .ok (.invokevirtual 303, 3) := by decide +kernel
theorem dX12_sharp_6 : decode cX12_sharp 6 = .ok (.ireturn, 1) := by decide +kernel
theorem dX12_sees_0 : decode cX12_sees 0 = .ok (.aload_n 0, 1) := by decide +kernel
theorem dX12_sees_1 : decode cX12_sees 1 = .ok (.getfield 92, 3) := by decide +kernel
theorem dX12_sees_4 : decode cX12_sees 4 = .ok (.ifCond .lt 10, 3) := by decide +kernel
theorem dX12_sees_7 : decode cX12_sees 7 = .ok (.aload_n 0, 1) := by decide +kernel
theorem dX12_sees_8 : decode cX12_sees 8 = .ok (.getfield 92, 3) := by decide +kernel
theorem dX12_sees_11 : decode cX12_sees 11 = .ok (.goto 10, 3) := by decide +kernel
theorem dX12_sees_14 : decode cX12_sees 14 = .ok (.aload_n 0, 1) := by decide +kernel
theorem dX12_sees_15 : decode cX12_sees 15 = .ok (.iconst 4, 1) := by decide +kernel
theorem dX12_sees_16 : decode cX12_sees 16 = .ok (.bipush 9, 2) := by decide +kernel
theorem dX12_sees_18 : decode cX12_sees 18 = .ok (.invokevirtual 303, 3) := by decide +kernel
theorem dX12_sees_21 : decode cX12_sees 21 = .ok (.ireturn, 1) := by decide +kernel
theorem dX12_countNow_0 : decode cX12_countNow 0 = .ok (.aload_n 0, 1) := by decide +kernel
theorem dX12_countNow_1 : decode cX12_countNow 1 = .ok (.getfield 38, 3) := by decide +kernel
theorem dX12_countNow_4 : decode cX12_countNow 4 = .ok (.aload_n 0, 1) := by decide +kernel
theorem dX12_countNow_5 : decode cX12_countNow 5 = .ok (.getfield 13, 3) := by decide +kernel
theorem dX12_countNow_8 : decode cX12_countNow 8 = .ok (.iconst 4, 1) := by decide +kernel
theorem dX12_countNow_9 : decode cX12_countNow 9 = .ok (.irem, 1) := by decide +kernel
theorem dX12_countNow_10 : decode cX12_countNow 10 = .ok (.iaload, 1) := by decide +kernel
theorem dX12_countNow_11 : decode cX12_countNow 11 = .ok (.ireturn, 1) := by decide +kernel
theorem dX12_factOf_0 : decode cX12_factOf 0 = .ok (.iload_n 1, 1) := by decide +kernel
theorem dX12_factOf_1 : decode cX12_factOf 1 = .ok (.tableswitch 65 0 4 #[35, 37, 44, 51, 56], 35) := by decide +kernel
theorem dX12_factOf_36 : decode cX12_factOf 36 = .ok (.iload_n 2, 1) := by decide +kernel
theorem dX12_factOf_37 : decode cX12_factOf 37 = .ok (.ireturn, 1) := by decide +kernel
theorem dX12_factOf_38 : decode cX12_factOf 38 = .ok (.aload_n 0, 1) := by decide +kernel
theorem dX12_factOf_39 : decode cX12_factOf 39 = .ok (.getfield 19, 3) := by decide +kernel
theorem dX12_factOf_42 : decode cX12_factOf 42 = .ok (.iload_n 2, 1) := by decide +kernel
theorem dX12_factOf_43 : decode cX12_factOf 43 = .ok (.iaload, 1) := by decide +kernel
theorem dX12_factOf_44 : decode cX12_factOf 44 = .ok (.ireturn, 1) := by decide +kernel
theorem dX12_factOf_45 : decode cX12_factOf 45 = .ok (.aload_n 0, 1) := by decide +kernel
theorem dX12_factOf_46 : decode cX12_factOf 46 = .ok (.getfield 29, 3) := by decide +kernel
theorem dX12_factOf_49 : decode cX12_factOf 49 = .ok (.iload_n 2, 1) := by decide +kernel
theorem dX12_factOf_50 : decode cX12_factOf 50 = .ok (.iaload, 1) := by decide +kernel
theorem dX12_factOf_51 : decode cX12_factOf 51 = .ok (.ireturn, 1) := by decide +kernel
theorem dX12_factOf_52 : decode cX12_factOf 52 = .ok (.aload_n 0, 1) := by decide +kernel
theorem dX12_factOf_53 : decode cX12_factOf 53 = .ok (.invokevirtual 307, 3) := by decide +kernel
theorem dX12_factOf_56 : decode cX12_factOf 56 = .ok (.ireturn, 1) := by decide +kernel
theorem dX12_factOf_57 : decode cX12_factOf 57 = .ok (.aload_n 0, 1) := by decide +kernel
theorem dX12_factOf_58 : decode cX12_factOf 58 = .ok (.getfield 26, 3) := by decide +kernel
theorem dX12_factOf_61 : decode cX12_factOf 61 = .ok (.iload_n 2, 1) := by decide +kernel
theorem dX12_factOf_62 : decode cX12_factOf 62 = .ok (.iaload, 1) := by decide +kernel
theorem dX12_factOf_63 : decode cX12_factOf 63 = .ok (.iconst 5, 1) := by decide +kernel
theorem dX12_factOf_64 : decode cX12_factOf 64 = .ok (.idiv, 1) := by decide +kernel
theorem dX12_factOf_65 : decode cX12_factOf 65 = .ok (.ireturn, 1) := by decide +kernel
theorem dX12_factOf_66 : decode cX12_factOf 66 = .ok (.aload_n 0, 1) := by decide +kernel
theorem dX12_factOf_67 : decode cX12_factOf 67 = .ok (.getfield 13, 3) := by decide +kernel
theorem dX12_factOf_70 : decode cX12_factOf 70 = .ok (.bipush 10, 2) := by decide +kernel
theorem dX12_factOf_72 : decode cX12_factOf 72 = .ok (.irem, 1) := by decide +kernel
theorem dX12_factOf_73 : decode cX12_factOf 73 = .ok (.ireturn, 1) := by decide +kernel
theorem dX12_holds_0 : decode cX12_holds 0 = .ok (.iconst 0, 1) := by decide +kernel
theorem dX12_holds_1 : decode cX12_holds 1 = .ok (.istore_n 3, 1) := by decide +kernel
theorem dX12_holds_2 : decode cX12_holds 2 = .ok (.aload_n 0, 1) := by decide +kernel
theorem dX12_holds_3 : decode cX12_holds 3 = .ok (.getfield 68, 3) := by decide +kernel
theorem dX12_holds_6 : decode cX12_holds 6 = .ok (.iload_n 1, 1) := by decide +kernel
theorem dX12_holds_7 : decode cX12_holds 7 = .ok (.iaload, 1) := by decide +kernel
theorem dX12_holds_8 : decode cX12_holds 8 = .ok (.istore 4, 2) := by decide +kernel
theorem dX12_holds_10 : decode cX12_holds 10 = .ok (.iload 4, 2) := by decide +kernel
theorem dX12_holds_12 : decode cX12_holds 12 = .ok (.aload_n 0, 1) := by decide +kernel
theorem dX12_holds_13 : decode cX12_holds 13 = .ok (.getfield 71, 3) := by decide +kernel
theorem dX12_holds_16 : decode cX12_holds 16 = .ok (.iload_n 1, 1) := by decide +kernel
theorem dX12_holds_17 : decode cX12_holds 17 = .ok (.iaload, 1) := by decide +kernel
theorem dX12_holds_18 : decode cX12_holds 18 = .ok (.if_icmp .ge 225, 3) := by decide +kernel
theorem dX12_holds_21 : decode cX12_holds 21 = .ok (.aload_n 0, 1) := by decide +kernel
theorem dX12_holds_22 : decode cX12_holds 22 = .ok (.getfield 74, 3) := by decide +kernel
theorem dX12_holds_25 : decode cX12_holds 25 = .ok (.iload 4, 2) := by decide +kernel
theorem dX12_holds_27 : decode cX12_holds 27 = .ok (.iaload, 1) := by decide +kernel
theorem dX12_holds_28 : decode cX12_holds 28 = .ok (.istore 5, 2) := by decide +kernel
theorem dX12_holds_30 : decode cX12_holds 30 = .ok (.iload 5, 2) := by decide +kernel
theorem dX12_holds_32 : decode cX12_holds 32 = .ok (.bipush (-33), 2) := by decide +kernel
theorem dX12_holds_34 : decode cX12_holds 34 = .ok (.if_icmp .ne 30, 3) := by decide +kernel
theorem dX12_holds_37 : decode cX12_holds 37 = .ok (.aload_n 0, 1) := by decide +kernel
theorem dX12_holds_38 : decode cX12_holds 38 = .ok (.getfield 95, 3) := by decide +kernel
theorem dX12_holds_41 : decode cX12_holds 41 = .ok (.iload_n 3, 1) := by decide +kernel
theorem dX12_holds_42 : decode cX12_holds 42 = .ok (.iconst 1, 1) := by decide +kernel
theorem dX12_holds_43 : decode cX12_holds 43 = .ok (.isub, 1) := by decide +kernel
theorem dX12_holds_44 : decode cX12_holds 44 = .ok (.aload_n 0, 1) := by decide +kernel
theorem dX12_holds_45 : decode cX12_holds 45 = .ok (.getfield 95, 3) := by decide +kernel
theorem dX12_holds_48 : decode cX12_holds 48 = .ok (.iload_n 3, 1) := by decide +kernel
theorem dX12_holds_49 : decode cX12_holds 49 = .ok (.iconst 1, 1) := by decide +kernel
theorem dX12_holds_50 : decode cX12_holds 50 = .ok (.isub, 1) := by decide +kernel
theorem dX12_holds_51 : decode cX12_holds 51 = .ok (.baload, 1) := by decide +kernel
theorem dX12_holds_52 : decode cX12_holds 52 = .ok (.ifCond .ne 7, 3) := by decide +kernel
theorem dX12_holds_55 : decode cX12_holds 55 = .ok (.iconst 1, 1) := by decide +kernel
theorem dX12_holds_56 : decode cX12_holds 56 = .ok (.goto 4, 3) := by decide +kernel
theorem dX12_holds_59 : decode cX12_holds 59 = .ok (.iconst 0, 1) := by decide +kernel
theorem dX12_holds_60 : decode cX12_holds 60 = .ok (.bastore, 1) := by decide +kernel
theorem dX12_holds_61 : decode cX12_holds 61 = .ok (.goto 176, 3) := by decide +kernel
theorem dX12_holds_64 : decode cX12_holds 64 = .ok (.iload 5, 2) := by decide +kernel
theorem dX12_holds_66 : decode cX12_holds 66 = .ok (.ifCond .ge 77, 3) := by decide +kernel
theorem dX12_holds_69 : decode cX12_holds 69 = .ok (.iinc 3 (-1), 3) := by decide +kernel
theorem dX12_holds_72 : decode cX12_holds 72 = .ok (.aload_n 0, 1) := by decide +kernel
theorem dX12_holds_73 : decode cX12_holds 73 = .ok (.getfield 95, 3) := by decide +kernel
theorem dX12_holds_76 : decode cX12_holds 76 = .ok (.iload_n 3, 1) := by decide +kernel
theorem dX12_holds_77 : decode cX12_holds 77 = .ok (.iconst 1, 1) := by decide +kernel
theorem dX12_holds_78 : decode cX12_holds 78 = .ok (.isub, 1) := by decide +kernel
theorem dX12_holds_79 : decode cX12_holds 79 = .ok (.iload 5, 2) := by decide +kernel
theorem dX12_holds_81 : decode cX12_holds 81 = .ok (.bipush (-38), 2) := by decide +kernel
theorem dX12_holds_83 : decode cX12_holds 83 = .ok (.if_icmp .ne 31, 3) := by decide +kernel
theorem dX12_holds_86 : decode cX12_holds 86 = .ok (.aload_n 0, 1) := by decide +kernel
theorem dX12_holds_87 : decode cX12_holds 87 = .ok (.getfield 95, 3) := by decide +kernel
theorem dX12_holds_90 : decode cX12_holds 90 = .ok (.iload_n 3, 1) := by decide +kernel
theorem dX12_holds_91 : decode cX12_holds 91 = .ok (.iconst 1, 1) := by decide +kernel
theorem dX12_holds_92 : decode cX12_holds 92 = .ok (.isub, 1) := by decide +kernel
theorem dX12_holds_93 : decode cX12_holds 93 = .ok (.baload, 1) := by decide +kernel
theorem dX12_holds_94 : decode cX12_holds 94 = .ok (.ifCond .eq 16, 3) := by decide +kernel
theorem dX12_holds_97 : decode cX12_holds 97 = .ok (.aload_n 0, 1) := by decide +kernel
theorem dX12_holds_98 : decode cX12_holds 98 = .ok (.getfield 95, 3) := by decide +kernel
theorem dX12_holds_101 : decode cX12_holds 101 = .ok (.iload_n 3, 1) := by decide +kernel
theorem dX12_holds_102 : decode cX12_holds 102 = .ok (.baload, 1) := by decide +kernel
theorem dX12_holds_103 : decode cX12_holds 103 = .ok (.ifCond .eq 7, 3) := by decide +kernel
theorem dX12_holds_106 : decode cX12_holds 106 = .ok (.iconst 1, 1) := by decide +kernel
theorem dX12_holds_107 : decode cX12_holds 107 = .ok (.goto 32, 3) := by decide +kernel
theorem dX12_holds_110 : decode cX12_holds 110 = .ok (.iconst 0, 1) := by decide +kernel
theorem dX12_holds_111 : decode cX12_holds 111 = .ok (.goto 28, 3) := by decide +kernel
theorem dX12_holds_114 : decode cX12_holds 114 = .ok (.aload_n 0, 1) := by decide +kernel
theorem dX12_holds_115 : decode cX12_holds 115 = .ok (.getfield 95, 3) := by decide +kernel
theorem dX12_holds_118 : decode cX12_holds 118 = .ok (.iload_n 3, 1) := by decide +kernel
theorem dX12_holds_119 : decode cX12_holds 119 = .ok (.iconst 1, 1) := by decide +kernel
theorem dX12_holds_120 : decode cX12_holds 120 = .ok (.isub, 1) := by decide +kernel
theorem dX12_holds_121 : decode cX12_holds 121 = .ok (.baload, 1) := by decide +kernel
theorem dX12_holds_122 : decode cX12_holds 122 = .ok (.ifCond .ne 12, 3) := by decide +kernel
theorem dX12_holds_125 : decode cX12_holds 125 = .ok (.aload_n 0, 1) := by decide +kernel
theorem dX12_holds_126 : decode cX12_holds 126 = .ok (.getfield 95, 3) := by decide +kernel
theorem dX12_holds_129 : decode cX12_holds 129 = .ok (.iload_n 3, 1) := by decide +kernel
theorem dX12_holds_130 : decode cX12_holds 130 = .ok (.baload, 1) := by decide +kernel
theorem dX12_holds_131 : decode cX12_holds 131 = .ok (.ifCond .eq 7, 3) := by decide +kernel
theorem dX12_holds_134 : decode cX12_holds 134 = .ok (.iconst 1, 1) := by decide +kernel
theorem dX12_holds_135 : decode cX12_holds 135 = .ok (.goto 4, 3) := by decide +kernel
theorem dX12_holds_138 : decode cX12_holds 138 = .ok (.iconst 0, 1) := by decide +kernel
theorem dX12_holds_139 : decode cX12_holds 139 = .ok (.bastore, 1) := by decide +kernel
theorem dX12_holds_140 : decode cX12_holds 140 = .ok (.goto 97, 3) := by decide +kernel
theorem dX12_holds_143 : decode cX12_holds 143 = .ok (.aload_n 0, 1) := by decide +kernel
theorem dX12_holds_144 : decode cX12_holds 144 = .ok (.iload 5, 2) := by decide +kernel
theorem dX12_holds_146 : decode cX12_holds 146 = .ok (.sipush 1000, 3) := by decide +kernel
theorem dX12_holds_149 : decode cX12_holds 149 = .ok (.idiv, 1) := by decide +kernel
theorem dX12_holds_150 : decode cX12_holds 150 = .ok (.iload_n 2, 1) := by decide +kernel
theorem dX12_holds_151 : decode cX12_holds 151 = .ok (.invokevirtual 310, 3) := by decide +kernel
theorem dX12_holds_154 : decode cX12_holds 154 = .ok (.istore 6, 2) := by decide +kernel
theorem dX12_holds_156 : decode cX12_holds 156 = .ok (.iload 5, 2) := by decide +kernel
theorem dX12_holds_158 : decode cX12_holds 158 = .ok (.bipush 100, 2) := by decide +kernel
theorem dX12_holds_160 : decode cX12_holds 160 = .ok (.idiv, 1) := by decide +kernel
theorem dX12_holds_161 : decode cX12_holds 161 = .ok (.bipush 10, 2) := by decide +kernel
theorem dX12_holds_163 : decode cX12_holds 163 = .ok (.irem, 1) := by decide +kernel
theorem dX12_holds_164 : decode cX12_holds 164 = .ok (.istore 7, 2) := by decide +kernel
theorem dX12_holds_166 : decode cX12_holds 166 = .ok (.aload_n 0, 1) := by decide +kernel
theorem dX12_holds_167 : decode cX12_holds 167 = .ok (.getfield 95, 3) := by decide +kernel
theorem dX12_holds_170 : decode cX12_holds 170 = .ok (.iload_n 3, 1) := by decide +kernel
theorem dX12_holds_171 : decode cX12_holds 171 = .ok (.iload 7, 2) := by decide +kernel
theorem dX12_holds_173 : decode cX12_holds 173 = .ok (.ifCond .ne 21, 3) := by decide +kernel
theorem dX12_holds_176 : decode cX12_holds 176 = .ok (.iload 6, 2) := by decide +kernel
theorem dX12_holds_178 : decode cX12_holds 178 = .ok (.iload 5, 2) := by decide +kernel
theorem dX12_holds_180 : decode cX12_holds 180 = .ok (.bipush 100, 2) := by decide +kernel
theorem dX12_holds_182 : decode cX12_holds 182 = .ok (.irem, 1) := by decide +kernel
theorem dX12_holds_183 : decode cX12_holds 183 = .ok (.if_icmp .ge 7, 3) := by decide +kernel
theorem dX12_holds_186 : decode cX12_holds 186 = .ok (.iconst 1, 1) := by decide +kernel
theorem dX12_holds_187 : decode cX12_holds 187 = .ok (.goto 46, 3) := by decide +kernel
theorem dX12_holds_190 : decode cX12_holds 190 = .ok (.iconst 0, 1) := by decide +kernel
theorem dX12_holds_191 : decode cX12_holds 191 = .ok (.goto 42, 3) := by decide +kernel
theorem dX12_holds_194 : decode cX12_holds 194 = .ok (.iload 7, 2) := by decide +kernel
theorem dX12_holds_196 : decode cX12_holds 196 = .ok (.iconst 1, 1) := by decide +kernel
theorem dX12_holds_197 : decode cX12_holds 197 = .ok (.if_icmp .ne 21, 3) := by decide +kernel
theorem dX12_holds_200 : decode cX12_holds 200 = .ok (.iload 6, 2) := by decide +kernel
theorem dX12_holds_202 : decode cX12_holds 202 = .ok (.iload 5, 2) := by decide +kernel
theorem dX12_holds_204 : decode cX12_holds 204 = .ok (.bipush 100, 2) := by decide +kernel
theorem dX12_holds_206 : decode cX12_holds 206 = .ok (.irem, 1) := by decide +kernel
theorem dX12_holds_207 : decode cX12_holds 207 = .ok (.if_icmp .ne 7, 3) := by decide +kernel
theorem dX12_holds_210 : decode cX12_holds 210 = .ok (.iconst 1, 1) := by decide +kernel
theorem dX12_holds_211 : decode cX12_holds 211 = .ok (.goto 22, 3) := by decide +kernel
theorem dX12_holds_214 : decode cX12_holds 214 = .ok (.iconst 0, 1) := by decide +kernel
theorem dX12_holds_215 : decode cX12_holds 215 = .ok (.goto 18, 3) := by decide +kernel
theorem dX12_holds_218 : decode cX12_holds 218 = .ok (.iload 6, 2) := by decide +kernel
theorem dX12_holds_220 : decode cX12_holds 220 = .ok (.iload 5, 2) := by decide +kernel
theorem dX12_holds_222 : decode cX12_holds 222 = .ok (.bipush 100, 2) := by decide +kernel
theorem dX12_holds_224 : decode cX12_holds 224 = .ok (.irem, 1) := by decide +kernel
theorem dX12_holds_225 : decode cX12_holds 225 = .ok (.if_icmp .le 7, 3) := by decide +kernel
theorem dX12_holds_228 : decode cX12_holds 228 = .ok (.iconst 1, 1) := by decide +kernel
theorem dX12_holds_229 : decode cX12_holds 229 = .ok (.goto 4, 3) := by decide +kernel
theorem dX12_holds_232 : decode cX12_holds 232 = .ok (.iconst 0, 1) := by decide +kernel
theorem dX12_holds_233 : decode cX12_holds 233 = .ok (.bastore, 1) := by decide +kernel
theorem dX12_holds_234 : decode cX12_holds 234 = .ok (.iinc 3 1, 3) := by decide +kernel
theorem dX12_holds_237 : decode cX12_holds 237 = .ok (.iinc 4 1, 3) := by decide +kernel
theorem dX12_holds_240 : decode cX12_holds 240 = .ok (.goto (-230), 3) := by decide +kernel
theorem dX12_holds_243 : decode cX12_holds 243 = .ok (.aload_n 0, 1) := by decide +kernel
theorem dX12_holds_244 : decode cX12_holds 244 = .ok (.getfield 95, 3) := by decide +kernel
theorem dX12_holds_247 : decode cX12_holds 247 = .ok (.iconst 0, 1) := by decide +kernel
theorem dX12_holds_248 : decode cX12_holds 248 = .ok (.baload, 1) := by decide +kernel
theorem dX12_holds_249 : decode cX12_holds 249 = .ok (.ireturn, 1) := by decide +kernel
theorem dX12_shake_0 : decode cX12_shake 0 = .ok (.iconst 0, 1) := by decide +kernel
theorem dX12_shake_1 : decode cX12_shake 1 = .ok (.istore_n 2, 1) := by decide +kernel
theorem dX12_shake_2 : decode cX12_shake 2 = .ok (.aload_n 0, 1) := by decide +kernel
theorem dX12_shake_3 : decode cX12_shake 3 = .ok (.invokevirtual 297, 3) := by decide +kernel
theorem dX12_shake_6 : decode cX12_shake 6 = .ok (.istore_n 3, 1) := by decide +kernel
theorem dX12_shake_7 : decode cX12_shake 7 = .ok (.iload_n 3, 1) := by decide +kernel
theorem dX12_shake_8 : decode cX12_shake 8 = .ok (.aload_n 0, 1) := by decide +kernel
theorem dX12_shake_9 : decode cX12_shake 9 = .ok (.invokevirtual 300, 3) := by decide +kernel
theorem dX12_shake_12 : decode cX12_shake 12 = .ok (.if_icmp .ge 59, 3) := by decide +kernel
theorem dX12_shake_15 : decode cX12_shake 15 = .ok (.aload_n 0, 1) := by decide +kernel
theorem dX12_shake_16 : decode cX12_shake 16 = .ok (.getfield 62, 3) := by decide +kernel
theorem dX12_shake_19 : decode cX12_shake 19 = .ok (.iload_n 3, 1) := by decide +kernel
theorem dX12_shake_20 : decode cX12_shake 20 = .ok (.iaload, 1) := by decide +kernel
theorem dX12_shake_21 : decode cX12_shake 21 = .ok (.iconst 1, 1) := by decide +kernel
theorem dX12_shake_22 : decode cX12_shake 22 = .ok (.if_icmp .gt 43, 3) := by decide +kernel
theorem dX12_shake_25 : decode cX12_shake 25 = .ok (.aload_n 0, 1) := by decide +kernel
theorem dX12_shake_26 : decode cX12_shake 26 = .ok (.iload_n 3, 1) := by decide +kernel
theorem dX12_shake_27 : decode cX12_shake 27 = .ok (.iload_n 1, 1) := by decide +kernel
theorem dX12_shake_28 : decode cX12_shake 28 = .ok (.invokevirtual 313, 3) := by decide +kernel
theorem dX12_shake_31 : decode cX12_shake 31 = .ok (.ifCond .ne 6, 3) := by decide +kernel
theorem dX12_shake_34 : decode cX12_shake 34 = .ok (.goto 31, 3) := by decide +kernel
theorem dX12_shake_37 : decode cX12_shake 37 = .ok (.iload_n 2, 1) := by decide +kernel
theorem dX12_shake_38 : decode cX12_shake 38 = .ok (.aload_n 0, 1) := by decide +kernel
theorem dX12_shake_39 : decode cX12_shake 39 = .ok (.getfield 62, 3) := by decide +kernel
theorem dX12_shake_42 : decode cX12_shake 42 = .ok (.iload_n 3, 1) := by decide +kernel
theorem dX12_shake_43 : decode cX12_shake 43 = .ok (.iaload, 1) := by decide +kernel
theorem dX12_shake_44 : decode cX12_shake 44 = .ok (.ifCond .ne 12, 3) := by decide +kernel
theorem dX12_shake_47 : decode cX12_shake 47 = .ok (.aload_n 0, 1) := by decide +kernel
theorem dX12_shake_48 : decode cX12_shake 48 = .ok (.getfield 65, 3) := by decide +kernel
theorem dX12_shake_51 : decode cX12_shake 51 = .ok (.iload_n 3, 1) := by decide +kernel
theorem dX12_shake_52 : decode cX12_shake 52 = .ok (.iaload, 1) := by decide +kernel
theorem dX12_shake_53 : decode cX12_shake 53 = .ok (.goto 10, 3) := by decide +kernel
theorem dX12_shake_56 : decode cX12_shake 56 = .ok (.aload_n 0, 1) := by decide +kernel
theorem dX12_shake_57 : decode cX12_shake 57 = .ok (.getfield 65, 3) := by decide +kernel
theorem dX12_shake_60 : decode cX12_shake 60 = .ok (.iload_n 3, 1) := by decide +kernel
theorem dX12_shake_61 : decode cX12_shake 61 = .ok (.iaload, 1) := by decide +kernel
theorem dX12_shake_62 : decode cX12_shake 62 = .ok (.ineg, 1) := by decide +kernel
theorem dX12_shake_63 : decode cX12_shake 63 = .ok (.iadd, 1) := by decide +kernel
theorem dX12_shake_64 : decode cX12_shake 64 = .ok (.istore_n 2, 1) := by decide +kernel
theorem dX12_shake_65 : decode cX12_shake 65 = .ok (.iinc 3 1, 3) := by decide +kernel
theorem dX12_shake_68 : decode cX12_shake 68 = .ok (.goto (-61), 3) := by decide +kernel
theorem dX12_shake_71 : decode cX12_shake 71 = .ok (.iload_n 2, 1) := by decide +kernel
theorem dX12_shake_72 : decode cX12_shake 72 = .ok (.ireturn, 1) := by decide +kernel
theorem dX12_pace_0 : decode cX12_pace 0 = .ok (.iconst 2, 1) := by decide +kernel
theorem dX12_pace_1 : decode cX12_pace 1 = .ok (.aload_n 0, 1) := by decide +kernel
theorem dX12_pace_2 : decode cX12_pace 2 = .ok (.getfield 23, 3) := by decide +kernel
theorem dX12_pace_5 : decode cX12_pace 5 = .ok (.iload_n 1, 1) := by decide +kernel
theorem dX12_pace_6 : decode cX12_pace 6 = .ok (.iaload, 1) := by decide +kernel
theorem dX12_pace_7 : decode cX12_pace 7 = .ok (.iconst 3, 1) := by decide +kernel
theorem dX12_pace_8 : decode cX12_pace 8 = .ok (.idiv, 1) := by decide +kernel
theorem dX12_pace_9 : decode cX12_pace 9 = .ok (.iadd, 1) := by decide +kernel
theorem dX12_pace_10 : decode cX12_pace 10 = .ok (.istore_n 2, 1) := by decide +kernel
theorem dX12_pace_11 : decode cX12_pace 11 = .ok (.aload_n 0, 1) := by decide +kernel
theorem dX12_pace_12 : decode cX12_pace 12 = .ok (.getfield 19, 3) := by decide +kernel
theorem dX12_pace_15 : decode cX12_pace 15 = .ok (.iload_n 1, 1) := by decide +kernel
theorem dX12_pace_16 : decode cX12_pace 16 = .ok (.iaload, 1) := by decide +kernel
theorem dX12_pace_17 : decode cX12_pace 17 = .ok (.tableswitch 91 1 6 #[39, 91, 43, 54, 60, 64], 39) := by decide +kernel
theorem dX12_pace_56 : decode cX12_pace 56 = .ok (.iload_n 2, 1) := by decide +kernel
theorem dX12_pace_57 : decode cX12_pace 57 = .ok (.iconst 2, 1) := by decide +kernel
theorem dX12_pace_58 : decode cX12_pace 58 = .ok (.iadd, 1) := by decide +kernel
theorem dX12_pace_59 : decode cX12_pace 59 = .ok (.ireturn, 1) := by decide +kernel
theorem dX12_pace_60 : decode cX12_pace 60 = .ok (.iconst 1, 1) := by decide +kernel
theorem dX12_pace_61 : decode cX12_pace 61 = .ok (.aload_n 0, 1) := by decide +kernel
theorem dX12_pace_62 : decode cX12_pace 62 = .ok (.getfield 23, 3) := by decide +kernel
theorem dX12_pace_65 : decode cX12_pace 65 = .ok (.iload_n 1, 1) := by decide +kernel
theorem dX12_pace_66 : decode cX12_pace 66 = .ok (.iaload, 1) := by decide +kernel
theorem dX12_pace_67 : decode cX12_pace 67 = .ok (.iconst 4, 1) := by decide +kernel
theorem dX12_pace_68 : decode cX12_pace 68 = .ok (.idiv, 1) := by decide +kernel
theorem dX12_pace_69 : decode cX12_pace 69 = .ok (.iadd, 1) := by decide +kernel
theorem dX12_pace_70 : decode cX12_pace 70 = .ok (.ireturn, 1) := by decide +kernel
theorem dX12_pace_71 : decode cX12_pace 71 = .ok (.iconst 2, 1) := by decide +kernel
theorem dX12_pace_72 : decode cX12_pace 72 = .ok (.iload_n 2, 1) := by decide +kernel
theorem dX12_pace_73 : decode cX12_pace 73 = .ok (.iconst 2, 1) := by decide +kernel
theorem dX12_pace_74 : decode cX12_pace 74 = .ok (.iadd, 1) := by decide +kernel
theorem dX12_pace_75 : decode cX12_pace 75 = .ok (.imul, 1) := by decide +kernel
theorem dX12_pace_76 : decode cX12_pace 76 = .ok (.ireturn, 1) := by decide +kernel
theorem dX12_pace_77 : decode cX12_pace 77 = .ok (.iload_n 2, 1) := by decide +kernel
theorem dX12_pace_78 : decode cX12_pace 78 = .ok (.iconst 1, 1) := by decide +kernel
theorem dX12_pace_79 : decode cX12_pace 79 = .ok (.isub, 1) := by decide +kernel
theorem dX12_pace_80 : decode cX12_pace 80 = .ok (.ireturn, 1) := by decide +kernel
theorem dX12_pace_81 : decode cX12_pace 81 = .ok (.iconst 1, 1) := by decide +kernel
theorem dX12_pace_82 : decode cX12_pace 82 = .ok (.aload_n 0, 1) := by decide +kernel
theorem dX12_pace_83 : decode cX12_pace 83 = .ok (.getfield 23, 3) := by decide +kernel
theorem dX12_pace_86 : decode cX12_pace 86 = .ok (.iload_n 1, 1) := by decide +kernel
theorem dX12_pace_87 : decode cX12_pace 87 = .ok (.iaload, 1) := by decide +kernel
theorem dX12_pace_88 : decode cX12_pace 88 = .ok (.iconst 4, 1) := by decide +kernel
theorem dX12_pace_89 : decode cX12_pace 89 = .ok (.idiv, 1) := by decide +kernel
theorem dX12_pace_90 : decode cX12_pace 90 = .ok (.iadd, 1) := by decide +kernel
theorem dX12_pace_91 : decode cX12_pace 91 = .ok (.aload_n 0, 1) := by decide +kernel
theorem dX12_pace_92 : decode cX12_pace 92 = .ok (.getfield 35, 3) := by decide +kernel
theorem dX12_pace_95 : decode cX12_pace 95 = .ok (.iconst 4, 1) := by decide +kernel
theorem dX12_pace_96 : decode cX12_pace 96 = .ok (.iload_n 1, 1) := by decide +kernel
theorem dX12_pace_97 : decode cX12_pace 97 = .ok (.imul, 1) := by decide +kernel
theorem dX12_pace_98 : decode cX12_pace 98 = .ok (.aload_n 0, 1) := by decide +kernel
theorem dX12_pace_99 : decode cX12_pace 99 = .ok (.getfield 13, 3) := by decide +kernel
theorem dX12_pace_102 : decode cX12_pace 102 = .ok (.iconst 4, 1) := by decide +kernel
theorem dX12_pace_103 : decode cX12_pace 103 = .ok (.irem, 1) := by decide +kernel
theorem dX12_pace_104 : decode cX12_pace 104 = .ok (.iadd, 1) := by decide +kernel
theorem dX12_pace_105 : decode cX12_pace 105 = .ok (.iaload, 1) := by decide +kernel
theorem dX12_pace_106 : decode cX12_pace 106 = .ok (.iadd, 1) := by decide +kernel
theorem dX12_pace_107 : decode cX12_pace 107 = .ok (.ireturn, 1) := by decide +kernel
theorem dX12_pace_108 : decode cX12_pace 108 = .ok (.iload_n 2, 1) := by decide +kernel
theorem dX12_pace_109 : decode cX12_pace 109 = .ok (.ireturn, 1) := by decide +kernel
theorem dX12_goes_0 : decode cX12_goes 0 = .ok (.aload_n 0, 1) := by decide +kernel
theorem dX12_goes_1 : decode cX12_goes 1 = .ok (.invokevirtual 307, 3) := by decide +kernel
theorem dX12_goes_4 : decode cX12_goes 4 = .ok (.aload_n 0, 1) := by decide +kernel
theorem dX12_goes_5 : decode cX12_goes 5 = .ok (.getfield 29, 3) := by decide +kernel
theorem dX12_goes_8 : decode cX12_goes 8 = .ok (.iload_n 1, 1) := by decide +kernel
theorem dX12_goes_9 : decode cX12_goes 9 = .ok (.iaload, 1) := by decide +kernel
theorem dX12_goes_10 : decode cX12_goes 10 = .ok (.if_icmp .le 23, 3) := by decide +kernel
theorem dX12_goes_13 : decode cX12_goes 13 = .ok (.aload_n 0, 1) := by decide +kernel
theorem dX12_goes_14 : decode cX12_goes 14 = .ok (.iload_n 1, 1) := by decide +kernel
theorem dX12_goes_15 : decode cX12_goes 15 = .ok (.invokevirtual 316, 3) := by decide +kernel
theorem dX12_goes_18 : decode cX12_goes 18 = .ok (.aload_n 0, 1) := by decide +kernel
theorem dX12_goes_19 : decode cX12_goes 19 = .ok (.invokevirtual 307, 3) := by decide +kernel
theorem dX12_goes_22 : decode cX12_goes 22 = .ok (.aload_n 0, 1) := by decide +kernel
theorem dX12_goes_23 : decode cX12_goes 23 = .ok (.getfield 29, 3) := by decide +kernel
theorem dX12_goes_26 : decode cX12_goes 26 = .ok (.iload_n 1, 1) := by decide +kernel
theorem dX12_goes_27 : decode cX12_goes 27 = .ok (.iaload, 1) := by decide +kernel
theorem dX12_goes_28 : decode cX12_goes 28 = .ok (.isub, 1) := by decide +kernel
theorem dX12_goes_29 : decode cX12_goes 29 = .ok (.imul, 1) := by decide +kernel
theorem dX12_goes_30 : decode cX12_goes 30 = .ok (.goto 4, 3) := by decide +kernel
theorem dX12_goes_33 : decode cX12_goes 33 = .ok (.iconst 0, 1) := by decide +kernel
theorem dX12_goes_34 : decode cX12_goes 34 = .ok (.ireturn, 1) := by decide +kernel
theorem dX12_least0_0 : decode cX12_least0 0 = .ok (.iload_n 1, 1) := by decide +kernel
theorem dX12_least0_1 : decode cX12_least0 1 = .ok (.ifCond .ge 7, 3) := by decide +kernel
theorem dX12_least0_4 : decode cX12_least0 4 = .ok (.iconst 0, 1) := by decide +kernel
theorem dX12_least0_5 : decode cX12_least0 5 = .ok (.goto 4, 3) := by decide +kernel
theorem dX12_least0_8 : decode cX12_least0 8 = .ok (.iload_n 1, 1) := by decide +kernel
theorem dX12_least0_9 : decode cX12_least0 9 = .ok (.ireturn, 1) := by decide +kernel
theorem dX12_wobbles_0 : decode cX12_wobbles 0 = .ok (.aload_n 0, 1) := by decide +kernel
theorem dX12_wobbles_1 : decode cX12_wobbles 1 = .ok (.iload_n 1, 1) := by decide +kernel
theorem dX12_wobbles_2 : decode cX12_wobbles 2 = .ok (.invokevirtual 319, 3) := by decide +kernel
theorem dX12_wobbles_5 : decode cX12_wobbles 5 = .ok (.ifCond .ne 7, 3) := by decide +kernel
theorem dX12_wobbles_8 : decode cX12_wobbles 8 = .ok (.iconst 0, 1) := by decide +kernel
theorem dX12_wobbles_9 : decode cX12_wobbles 9 = .ok (.goto 27, 3) := by decide +kernel
theorem dX12_wobbles_12 : decode cX12_wobbles 12 = .ok (.aload_n 0, 1) := by decide +kernel
theorem dX12_wobbles_13 : decode cX12_wobbles 13 = .ok (.aload_n 0, 1) := by decide +kernel
theorem dX12_wobbles_14 : decode cX12_wobbles 14 = .ok (.iload_n 1, 1) := by decide +kernel
theorem dX12_wobbles_15 : decode cX12_wobbles 15 = .ok (.invokevirtual 316, 3) := by decide +kernel
theorem dX12_wobbles_18 : decode cX12_wobbles 18 = .ok (.aload_n 0, 1) := by decide +kernel
theorem dX12_wobbles_19 : decode cX12_wobbles 19 = .ok (.iload_n 1, 1) := by decide +kernel
theorem dX12_wobbles_20 : decode cX12_wobbles 20 = .ok (.invokevirtual 322, 3) := by decide +kernel
theorem dX12_wobbles_23 : decode cX12_wobbles 23 = .ok (.iadd, 1) := by decide +kernel
theorem dX12_wobbles_24 : decode cX12_wobbles 24 = .ok (.iconst 2, 1) := by decide +kernel
theorem dX12_wobbles_25 : decode cX12_wobbles 25 = .ok (.aload_n 0, 1) := by decide +kernel
theorem dX12_wobbles_26 : decode cX12_wobbles 26 = .ok (.getfield 29, 3) := by decide +kernel
theorem dX12_wobbles_29 : decode cX12_wobbles 29 = .ok (.iload_n 1, 1) := by decide +kernel
theorem dX12_wobbles_30 : decode cX12_wobbles 30 = .ok (.iaload, 1) := by decide +kernel
theorem dX12_wobbles_31 : decode cX12_wobbles 31 = .ok (.imul, 1) := by decide +kernel
theorem dX12_wobbles_32 : decode cX12_wobbles 32 = .ok (.isub, 1) := by decide +kernel
theorem dX12_wobbles_33 : decode cX12_wobbles 33 = .ok (.invokevirtual 325, 3) := by decide +kernel
theorem dX12_wobbles_36 : decode cX12_wobbles 36 = .ok (.istore_n 2, 1) := by decide +kernel
theorem dX12_wobbles_37 : decode cX12_wobbles 37 = .ok (.aload_n 0, 1) := by decide +kernel
theorem dX12_wobbles_38 : decode cX12_wobbles 38 = .ok (.getfield 19, 3) := by decide +kernel
theorem dX12_wobbles_41 : decode cX12_wobbles 41 = .ok (.iload_n 1, 1) := by decide +kernel
theorem dX12_wobbles_42 : decode cX12_wobbles 42 = .ok (.iaload, 1) := by decide +kernel
theorem dX12_wobbles_43 : decode cX12_wobbles 43 = .ok (.tableswitch 88 2 6 #[33, 46, 57, 61, 46], 33) := by decide +kernel
theorem dX12_wobbles_76 : decode cX12_wobbles 76 = .ok (.aload_n 0, 1) := by decide +kernel
theorem dX12_wobbles_77 : decode cX12_wobbles 77 = .ok (.iload_n 2, 1) := by decide +kernel
theorem dX12_wobbles_78 : decode cX12_wobbles 78 = .ok (.aload_n 0, 1) := by decide +kernel
theorem dX12_wobbles_79 : decode cX12_wobbles 79 = .ok (.getfield 23, 3) := by decide +kernel
theorem dX12_wobbles_82 : decode cX12_wobbles 82 = .ok (.iload_n 1, 1) := by decide +kernel
theorem dX12_wobbles_83 : decode cX12_wobbles 83 = .ok (.iaload, 1) := by decide +kernel
theorem dX12_wobbles_84 : decode cX12_wobbles 84 = .ok (.isub, 1) := by decide +kernel
theorem dX12_wobbles_85 : decode cX12_wobbles 85 = .ok (.invokevirtual 325, 3) := by decide +kernel
theorem dX12_wobbles_88 : decode cX12_wobbles 88 = .ok (.ireturn, 1) := by decide +kernel
theorem dX12_wobbles_89 : decode cX12_wobbles 89 = .ok (.iload_n 2, 1) := by decide +kernel
theorem dX12_wobbles_90 : decode cX12_wobbles 90 = .ok (.iconst 3, 1) := by decide +kernel
theorem dX12_wobbles_91 : decode cX12_wobbles 91 = .ok (.if_icmp .le 7, 3) := by decide +kernel
theorem dX12_wobbles_94 : decode cX12_wobbles 94 = .ok (.iconst 3, 1) := by decide +kernel
theorem dX12_wobbles_95 : decode cX12_wobbles 95 = .ok (.goto 4, 3) := by decide +kernel
theorem dX12_wobbles_98 : decode cX12_wobbles 98 = .ok (.iload_n 2, 1) := by decide +kernel
theorem dX12_wobbles_99 : decode cX12_wobbles 99 = .ok (.ireturn, 1) := by decide +kernel
theorem dX12_wobbles_100 : decode cX12_wobbles 100 = .ok (.iload_n 2, 1) := by decide +kernel
theorem dX12_wobbles_101 : decode cX12_wobbles 101 = .ok (.iconst 1, 1) := by decide +kernel
theorem dX12_wobbles_102 : decode cX12_wobbles 102 = .ok (.iadd, 1) := by decide +kernel
theorem dX12_wobbles_103 : decode cX12_wobbles 103 = .ok (.ireturn, 1) := by decide +kernel
theorem dX12_wobbles_104 : decode cX12_wobbles 104 = .ok (.aload_n 0, 1) := by decide +kernel
theorem dX12_wobbles_105 : decode cX12_wobbles 105 = .ok (.getfield 29, 3) := by decide +kernel
theorem dX12_wobbles_108 : decode cX12_wobbles 108 = .ok (.iload_n 1, 1) := by decide +kernel
theorem dX12_wobbles_109 : decode cX12_wobbles 109 = .ok (.iaload, 1) := by decide +kernel
theorem dX12_wobbles_110 : decode cX12_wobbles 110 = .ok (.iconst 2, 1) := by decide +kernel
theorem dX12_wobbles_111 : decode cX12_wobbles 111 = .ok (.if_icmp .lt 7, 3) := by decide +kernel
theorem dX12_wobbles_114 : decode cX12_wobbles 114 = .ok (.iconst 0, 1) := by decide +kernel
theorem dX12_wobbles_115 : decode cX12_wobbles 115 = .ok (.goto 15, 3) := by decide +kernel
theorem dX12_wobbles_118 : decode cX12_wobbles 118 = .ok (.aload_n 0, 1) := by decide +kernel
theorem dX12_wobbles_119 : decode cX12_wobbles 119 = .ok (.iload_n 2, 1) := by decide +kernel
theorem dX12_wobbles_120 : decode cX12_wobbles 120 = .ok (.aload_n 0, 1) := by decide +kernel
theorem dX12_wobbles_121 : decode cX12_wobbles 121 = .ok (.getfield 23, 3) := by decide +kernel
theorem dX12_wobbles_124 : decode cX12_wobbles 124 = .ok (.iload_n 1, 1) := by decide +kernel
theorem dX12_wobbles_125 : decode cX12_wobbles 125 = .ok (.iaload, 1) := by decide +kernel
theorem dX12_wobbles_126 : decode cX12_wobbles 126 = .ok (.isub, 1) := by decide +kernel
theorem dX12_wobbles_127 : decode cX12_wobbles 127 = .ok (.invokevirtual 325, 3) := by decide +kernel
theorem dX12_wobbles_130 : decode cX12_wobbles 130 = .ok (.ireturn, 1) := by decide +kernel
theorem dX12_wobbles_131 : decode cX12_wobbles 131 = .ok (.iload_n 2, 1) := by decide +kernel
theorem dX12_wobbles_132 : decode cX12_wobbles 132 = .ok (.ireturn, 1) := by decide +kernel
theorem dX12_of_0 : decode cX12_of 0 = .ok (.aload_n 0, 1) := by decide +kernel
theorem dX12_of_1 : decode cX12_of 1 = .ok (.iload_n 1, 1) := by decide +kernel
theorem dX12_of_2 : decode cX12_of 2 = .ok (.invokevirtual 240, 3) := by decide +kernel
theorem dX12_of_5 : decode cX12_of 5 = .ok (.ifCond .ne 5, 3) := by decide +kernel
theorem dX12_of_8 : decode cX12_of 8 = .ok (.iconst (-1), 1) := by decide +kernel
theorem dX12_of_9 : decode cX12_of 9 = .ok (.ireturn, 1) := by decide +kernel
theorem dX12_of_10 : decode cX12_of 10 = .ok (.iload_n 2, 1) := by decide +kernel
theorem dX12_of_11 : decode cX12_of 11 = .ok (.tableswitch 120 0 8 #[49, 56, 63, 70, 77, 84, 102, 108, 114], 49) := by decide +kernel
theorem dX12_of_60 : decode cX12_of 60 = .ok (.aload_n 0, 1) := by decide +kernel
theorem dX12_of_61 : decode cX12_of 61 = .ok (.getfield 19, 3) := by decide +kernel
theorem dX12_of_64 : decode cX12_of 64 = .ok (.iload_n 1, 1) := by decide +kernel
theorem dX12_of_65 : decode cX12_of 65 = .ok (.iaload, 1) := by decide +kernel
theorem dX12_of_66 : decode cX12_of 66 = .ok (.ireturn, 1) := by decide +kernel
theorem dX12_of_67 : decode cX12_of 67 = .ok (.aload_n 0, 1) := by decide +kernel
theorem dX12_of_68 : decode cX12_of 68 = .ok (.getfield 23, 3) := by decide +kernel
theorem dX12_of_71 : decode cX12_of 71 = .ok (.iload_n 1, 1) := by decide +kernel
theorem dX12_of_72 : decode cX12_of 72 = .ok (.iaload, 1) := by decide +kernel
theorem dX12_of_73 : decode cX12_of 73 = .ok (.ireturn, 1) := by decide +kernel
theorem dX12_of_74 : decode cX12_of 74 = .ok (.aload_n 0, 1) := by decide +kernel
theorem dX12_of_75 : decode cX12_of 75 = .ok (.getfield 26, 3) := by decide +kernel
theorem dX12_of_78 : decode cX12_of 78 = .ok (.iload_n 1, 1) := by decide +kernel
theorem dX12_of_79 : decode cX12_of 79 = .ok (.iaload, 1) := by decide +kernel
theorem dX12_of_80 : decode cX12_of 80 = .ok (.ireturn, 1) := by decide +kernel
theorem dX12_of_81 : decode cX12_of 81 = .ok (.aload_n 0, 1) := by decide +kernel
theorem dX12_of_82 : decode cX12_of 82 = .ok (.getfield 29, 3) := by decide +kernel
theorem dX12_of_85 : decode cX12_of 85 = .ok (.iload_n 1, 1) := by decide +kernel
theorem dX12_of_86 : decode cX12_of 86 = .ok (.iaload, 1) := by decide +kernel
theorem dX12_of_87 : decode cX12_of 87 = .ok (.ireturn, 1) := by decide +kernel
theorem dX12_of_88 : decode cX12_of 88 = .ok (.aload_n 0, 1) := by decide +kernel
theorem dX12_of_89 : decode cX12_of 89 = .ok (.getfield 32, 3) := by decide +kernel
theorem dX12_of_92 : decode cX12_of 92 = .ok (.iload_n 1, 1) := by decide +kernel
theorem dX12_of_93 : decode cX12_of 93 = .ok (.iaload, 1) := by decide +kernel
theorem dX12_of_94 : decode cX12_of 94 = .ok (.ireturn, 1) := by decide +kernel
theorem dX12_of_95 : decode cX12_of 95 = .ok (.aload_n 0, 1) := by decide +kernel
theorem dX12_of_96 : decode cX12_of 96 = .ok (.aload_n 0, 1) := by decide +kernel
theorem dX12_of_97 : decode cX12_of 97 = .ok (.getfield 16, 3) := by decide +kernel
theorem dX12_of_100 : decode cX12_of 100 = .ok (.iload_n 1, 1) := by decide +kernel
theorem dX12_of_101 : decode cX12_of 101 = .ok (.invokevirtual 328, 3) := by decide +kernel
theorem dX12_of_104 : decode cX12_of 104 = .ok (.ifCond .eq 7, 3) := by decide +kernel
theorem dX12_of_107 : decode cX12_of 107 = .ok (.iconst 1, 1) := by decide +kernel
theorem dX12_of_108 : decode cX12_of 108 = .ok (.goto 4, 3) := by decide +kernel
theorem dX12_of_111 : decode cX12_of 111 = .ok (.iconst 0, 1) := by decide +kernel
theorem dX12_of_112 : decode cX12_of 112 = .ok (.ireturn, 1) := by decide +kernel
theorem dX12_of_113 : decode cX12_of 113 = .ok (.aload_n 0, 1) := by decide +kernel
theorem dX12_of_114 : decode cX12_of 114 = .ok (.iload_n 1, 1) := by decide +kernel
theorem dX12_of_115 : decode cX12_of 115 = .ok (.invokevirtual 316, 3) := by decide +kernel
theorem dX12_of_118 : decode cX12_of 118 = .ok (.ireturn, 1) := by decide +kernel
theorem dX12_of_119 : decode cX12_of 119 = .ok (.aload_n 0, 1) := by decide +kernel
theorem dX12_of_120 : decode cX12_of 120 = .ok (.iload_n 1, 1) := by decide +kernel
theorem dX12_of_121 : decode cX12_of 121 = .ok (.invokevirtual 319, 3) := by decide +kernel
theorem dX12_of_124 : decode cX12_of 124 = .ok (.ireturn, 1) := by decide +kernel
theorem dX12_of_125 : decode cX12_of 125 = .ok (.aload_n 0, 1) := by decide +kernel
theorem dX12_of_126 : decode cX12_of 126 = .ok (.iload_n 1, 1) := by decide +kernel
theorem dX12_of_127 : decode cX12_of 127 = .ok (.invokevirtual 331, 3) := by decide +kernel
theorem dX12_of_130 : decode cX12_of 130 = .ok (.ireturn, 1) := by decide +kernel
theorem dX12_of_131 : decode cX12_of 131 = .ok (.iconst (-1), 1) := by decide +kernel
theorem dX12_of_132 : decode cX12_of 132 = .ok (.ireturn, 1) := by decide +kernel
theorem dX12_told_0 : decode cX12_told 0 = .ok (.aload_n 0, 1) := by decide +kernel
theorem dX12_told_1 : decode cX12_told 1 = .ok (.iload_n 1, 1) := by decide +kernel
theorem dX12_told_2 : decode cX12_told 2 = .ok (.bipush 10, 2) := by decide +kernel
theorem dX12_told_4 : decode cX12_told 4 = .ok (.bipush 13, 2) := by decide +kernel
theorem dX12_told_6 : decode cX12_told 6 = .ok (.invokevirtual 236, 3) := by decide +kernel
theorem dX12_told_9 : decode cX12_told 9 = .ok (.ifCond .eq 13, 3) := by decide +kernel
theorem dX12_told_12 : decode cX12_told 12 = .ok (.aload_n 0, 1) := by decide +kernel
theorem dX12_told_13 : decode cX12_told 13 = .ok (.getfield 38, 3) := by decide +kernel
theorem dX12_told_16 : decode cX12_told 16 = .ok (.iload_n 1, 1) := by decide +kernel
theorem dX12_told_17 : decode cX12_told 17 = .ok (.bipush 10, 2) := by decide +kernel
theorem dX12_told_19 : decode cX12_told 19 = .ok (.isub, 1) := by decide +kernel
theorem dX12_told_20 : decode cX12_told 20 = .ok (.iaload, 1) := by decide +kernel
theorem dX12_told_21 : decode cX12_told 21 = .ok (.ireturn, 1) := by decide +kernel
theorem dX12_told_22 : decode cX12_told 22 = .ok (.iload_n 1, 1) := by decide +kernel
theorem dX12_told_23 : decode cX12_told 23 = .ok (.tableswitch 58 0 4 #[33, 38, 43, 48, 53], 33) := by decide +kernel
theorem dX12_told_56 : decode cX12_told 56 = .ok (.aload_n 0, 1) := by decide +kernel
theorem dX12_told_57 : decode cX12_told 57 = .ok (.getfield 13, 3) := by decide +kernel
theorem dX12_told_60 : decode cX12_told 60 = .ok (.ireturn, 1) := by decide +kernel
theorem dX12_told_61 : decode cX12_told 61 = .ok (.aload_n 0, 1) := by decide +kernel
theorem dX12_told_62 : decode cX12_told 62 = .ok (.invokevirtual 244, 3) := by decide +kernel
theorem dX12_told_65 : decode cX12_told 65 = .ok (.ireturn, 1) := by decide +kernel
theorem dX12_told_66 : decode cX12_told 66 = .ok (.aload_n 0, 1) := by decide +kernel
theorem dX12_told_67 : decode cX12_told 67 = .ok (.invokevirtual 334, 3) := by decide +kernel
theorem dX12_told_70 : decode cX12_told 70 = .ok (.ireturn, 1) := by decide +kernel
theorem dX12_told_71 : decode cX12_told 71 = .ok (.aload_n 0, 1) := by decide +kernel
theorem dX12_told_72 : decode cX12_told 72 = .ok (.invokevirtual 337, 3) := by decide +kernel
theorem dX12_told_75 : decode cX12_told 75 = .ok (.ireturn, 1) := by decide +kernel
theorem dX12_told_76 : decode cX12_told 76 = .ok (.aload_n 0, 1) := by decide +kernel
theorem dX12_told_77 : decode cX12_told 77 = .ok (.getfield 16, 3) := by decide +kernel
theorem dX12_told_80 : decode cX12_told 80 = .ok (.ireturn, 1) := by decide +kernel
theorem dX12_told_81 : decode cX12_told 81 = .ok (.iconst (-1), 1) := by decide +kernel
theorem dX12_told_82 : decode cX12_told 82 = .ok (.ireturn, 1) := by decide +kernel
theorem dX12_ahead_0 : decode cX12_ahead 0 = .ok (.iconst 0, 1) := by decide +kernel
theorem dX12_ahead_1 : decode cX12_ahead 1 = .ok (.istore_n 2, 1) := by decide +kernel
theorem dX12_ahead_2 : decode cX12_ahead 2 = .ok (.iconst 0, 1) := by decide +kernel
theorem dX12_ahead_3 : decode cX12_ahead 3 = .ok (.istore_n 3, 1) := by decide +kernel
theorem dX12_ahead_4 : decode cX12_ahead 4 = .ok (.iload_n 3, 1) := by decide +kernel
theorem dX12_ahead_5 : decode cX12_ahead 5 = .ok (.aload_n 0, 1) := by decide +kernel
theorem dX12_ahead_6 : decode cX12_ahead 6 = .ok (.getfield 7, 3) := by decide +kernel
theorem dX12_ahead_9 : decode cX12_ahead 9 = .ok (.if_icmp .ge 64, 3) := by decide +kernel
theorem dX12_ahead_12 : decode cX12_ahead 12 = .ok (.iload_n 2, 1) := by decide +kernel
theorem dX12_ahead_13 : decode cX12_ahead 13 = .ok (.aload_n 0, 1) := by decide +kernel
theorem dX12_ahead_14 : decode cX12_ahead 14 = .ok (.aload_n 0, 1) := by decide +kernel
theorem dX12_ahead_15 : decode cX12_ahead 15 = .ok (.getfield 16, 3) := by decide +kernel
theorem dX12_ahead_18 : decode cX12_ahead 18 = .ok (.iload_n 3, 1) := by decide +kernel
theorem dX12_ahead_19 : decode cX12_ahead 19 = .ok (.invokevirtual 328, 3) := by decide +kernel
theorem dX12_ahead_22 : decode cX12_ahead 22 = .ok (.ifCond .ne 42, 3) := by decide +kernel
theorem dX12_ahead_25 : decode cX12_ahead 25 = .ok (.aload_n 0, 1) := by decide +kernel
theorem dX12_ahead_26 : decode cX12_ahead 26 = .ok (.getfield 26, 3) := by decide +kernel
theorem dX12_ahead_29 : decode cX12_ahead 29 = .ok (.iload_n 3, 1) := by decide +kernel
theorem dX12_ahead_30 : decode cX12_ahead 30 = .ok (.iaload, 1) := by decide +kernel
theorem dX12_ahead_31 : decode cX12_ahead 31 = .ok (.aload_n 0, 1) := by decide +kernel
theorem dX12_ahead_32 : decode cX12_ahead 32 = .ok (.getfield 26, 3) := by decide +kernel
theorem dX12_ahead_35 : decode cX12_ahead 35 = .ok (.iload_n 1, 1) := by decide +kernel
theorem dX12_ahead_36 : decode cX12_ahead 36 = .ok (.iaload, 1) := by decide +kernel
theorem dX12_ahead_37 : decode cX12_ahead 37 = .ok (.if_icmp .gt 23, 3) := by decide +kernel
theorem dX12_ahead_40 : decode cX12_ahead 40 = .ok (.aload_n 0, 1) := by decide +kernel
theorem dX12_ahead_41 : decode cX12_ahead 41 = .ok (.getfield 26, 3) := by decide +kernel
theorem dX12_ahead_44 : decode cX12_ahead 44 = .ok (.iload_n 3, 1) := by decide +kernel
theorem dX12_ahead_45 : decode cX12_ahead 45 = .ok (.iaload, 1) := by decide +kernel
theorem dX12_ahead_46 : decode cX12_ahead 46 = .ok (.aload_n 0, 1) := by decide +kernel
theorem dX12_ahead_47 : decode cX12_ahead 47 = .ok (.getfield 26, 3) := by decide +kernel
theorem dX12_ahead_50 : decode cX12_ahead 50 = .ok (.iload_n 1, 1) := by decide +kernel
theorem dX12_ahead_51 : decode cX12_ahead 51 = .ok (.iaload, 1) := by decide +kernel
theorem dX12_ahead_52 : decode cX12_ahead 52 = .ok (.if_icmp .ne 12, 3) := by decide +kernel
theorem dX12_ahead_55 : decode cX12_ahead 55 = .ok (.iload_n 3, 1) := by decide +kernel
theorem dX12_ahead_56 : decode cX12_ahead 56 = .ok (.iload_n 1, 1) := by decide +kernel
theorem dX12_ahead_57 : decode cX12_ahead 57 = .ok (.if_icmp .ge 7, 3) := by decide +kernel
theorem dX12_ahead_60 : decode cX12_ahead 60 = .ok (.iconst 1, 1) := by decide +kernel
theorem dX12_ahead_61 : decode cX12_ahead 61 = .ok (.goto 4, 3) := by decide +kernel
theorem dX12_ahead_64 : decode cX12_ahead 64 = .ok (.iconst 0, 1) := by decide +kernel
theorem dX12_ahead_65 : decode cX12_ahead 65 = .ok (.iadd, 1) := by decide +kernel
theorem dX12_ahead_66 : decode cX12_ahead 66 = .ok (.istore_n 2, 1) := by decide +kernel
theorem dX12_ahead_67 : decode cX12_ahead 67 = .ok (.iinc 3 1, 3) := by decide +kernel
theorem dX12_ahead_70 : decode cX12_ahead 70 = .ok (.goto (-66), 3) := by decide +kernel
theorem dX12_ahead_73 : decode cX12_ahead 73 = .ok (.iload_n 2, 1) := by decide +kernel
theorem dX12_ahead_74 : decode cX12_ahead 74 = .ok (.ireturn, 1) := by decide +kernel
theorem dX12_goTurn_0 : decode cX12_goTurn 0 = .ok (.iconst 0, 1) := by decide +kernel
theorem dX12_goTurn_1 : decode cX12_goTurn 1 = .ok (.istore_n 1, 1) := by decide +kernel
theorem dX12_goTurn_2 : decode cX12_goTurn 2 = .ok (.iload_n 1, 1) := by decide +kernel
theorem dX12_goTurn_3 : decode cX12_goTurn 3 = .ok (.aload_n 0, 1) := by decide +kernel
theorem dX12_goTurn_4 : decode cX12_goTurn 4 = .ok (.getfield 7, 3) := by decide +kernel
theorem dX12_goTurn_7 : decode cX12_goTurn 7 = .ok (.if_icmp .ge 55, 3) := by decide +kernel
theorem dX12_goTurn_10 : decode cX12_goTurn 10 = .ok (.aload_n 0, 1) := by decide +kernel
theorem dX12_goTurn_11 : decode cX12_goTurn 11 = .ok (.getfield 105, 3) := by decide +kernel
theorem dX12_goTurn_14 : decode cX12_goTurn 14 = .ok (.iload_n 1, 1) := by decide +kernel
theorem dX12_goTurn_15 : decode cX12_goTurn 15 = .ok (.iload_n 1, 1) := by decide +kernel
theorem dX12_goTurn_16 : decode cX12_goTurn 16 = .ok (.aload_n 0, 1) := by decide +kernel
theorem dX12_goTurn_17 : decode cX12_goTurn 17 = .ok (.getfield 102, 3) := by decide +kernel
theorem dX12_goTurn_20 : decode cX12_goTurn 20 = .ok (.if_icmp .ne 7, 3) := by decide +kernel
theorem dX12_goTurn_23 : decode cX12_goTurn 23 = .ok (.iconst 0, 1) := by decide +kernel
theorem dX12_goTurn_24 : decode cX12_goTurn 24 = .ok (.goto 8, 3) := by decide +kernel
theorem dX12_goTurn_27 : decode cX12_goTurn 27 = .ok (.aload_n 0, 1) := by decide +kernel
theorem dX12_goTurn_28 : decode cX12_goTurn 28 = .ok (.iload_n 1, 1) := by decide +kernel
theorem dX12_goTurn_29 : decode cX12_goTurn 29 = .ok (.invokevirtual 319, 3) := by decide +kernel
theorem dX12_goTurn_32 : decode cX12_goTurn 32 = .ok (.iastore, 1) := by decide +kernel
theorem dX12_goTurn_33 : decode cX12_goTurn 33 = .ok (.aload_n 0, 1) := by decide +kernel
theorem dX12_goTurn_34 : decode cX12_goTurn 34 = .ok (.getfield 108, 3) := by decide +kernel
theorem dX12_goTurn_37 : decode cX12_goTurn 37 = .ok (.iload_n 1, 1) := by decide +kernel
theorem dX12_goTurn_38 : decode cX12_goTurn 38 = .ok (.iload_n 1, 1) := by decide +kernel
theorem dX12_goTurn_39 : decode cX12_goTurn 39 = .ok (.aload_n 0, 1) := by decide +kernel
theorem dX12_goTurn_40 : decode cX12_goTurn 40 = .ok (.getfield 102, 3) := by decide +kernel
theorem dX12_goTurn_43 : decode cX12_goTurn 43 = .ok (.if_icmp .ne 7, 3) := by decide +kernel
theorem dX12_goTurn_46 : decode cX12_goTurn 46 = .ok (.iconst 0, 1) := by decide +kernel
theorem dX12_goTurn_47 : decode cX12_goTurn 47 = .ok (.goto 8, 3) := by decide +kernel
theorem dX12_goTurn_50 : decode cX12_goTurn 50 = .ok (.aload_n 0, 1) := by decide +kernel
theorem dX12_goTurn_51 : decode cX12_goTurn 51 = .ok (.iload_n 1, 1) := by decide +kernel
theorem dX12_goTurn_52 : decode cX12_goTurn 52 = .ok (.invokevirtual 331, 3) := by decide +kernel
theorem dX12_goTurn_55 : decode cX12_goTurn 55 = .ok (.iastore, 1) := by decide +kernel
theorem dX12_goTurn_56 : decode cX12_goTurn 56 = .ok (.iinc 1 1, 3) := by decide +kernel
theorem dX12_goTurn_59 : decode cX12_goTurn 59 = .ok (.goto (-57), 3) := by decide +kernel
theorem dX12_goTurn_62 : decode cX12_goTurn 62 = .ok (.iconst 0, 1) := by decide +kernel
theorem dX12_goTurn_63 : decode cX12_goTurn 63 = .ok (.istore_n 1, 1) := by decide +kernel
theorem dX12_goTurn_64 : decode cX12_goTurn 64 = .ok (.iload_n 1, 1) := by decide +kernel
theorem dX12_goTurn_65 : decode cX12_goTurn 65 = .ok (.aload_n 0, 1) := by decide +kernel
theorem dX12_goTurn_66 : decode cX12_goTurn 66 = .ok (.getfield 7, 3) := by decide +kernel
theorem dX12_goTurn_69 : decode cX12_goTurn 69 = .ok (.if_icmp .ge 77, 3) := by decide +kernel
theorem dX12_goTurn_72 : decode cX12_goTurn 72 = .ok (.aload_n 0, 1) := by decide +kernel
theorem dX12_goTurn_73 : decode cX12_goTurn 73 = .ok (.aload_n 0, 1) := by decide +kernel
theorem dX12_goTurn_74 : decode cX12_goTurn 74 = .ok (.getfield 16, 3) := by decide +kernel
theorem dX12_goTurn_77 : decode cX12_goTurn 77 = .ok (.iload_n 1, 1) := by decide +kernel
theorem dX12_goTurn_78 : decode cX12_goTurn 78 = .ok (.invokevirtual 328, 3) := by decide +kernel
theorem dX12_goTurn_81 : decode cX12_goTurn 81 = .ok (.ifCond .eq 6, 3) := by decide +kernel
theorem dX12_goTurn_84 : decode cX12_goTurn 84 = .ok (.goto 56, 3) := by decide +kernel
theorem dX12_goTurn_87 : decode cX12_goTurn 87 = .ok (.aload_n 0, 1) := by decide +kernel
theorem dX12_goTurn_88 : decode cX12_goTurn 88 = .ok (.getfield 26, 3) := by decide +kernel
theorem dX12_goTurn_91 : decode cX12_goTurn 91 = .ok (.iload_n 1, 1) := by decide +kernel
theorem dX12_goTurn_92 : decode cX12_goTurn 92 = .ok (.dup2, 1) := by decide +kernel
theorem dX12_goTurn_93 : decode cX12_goTurn 93 = .ok (.iaload, 1) := by decide +kernel
theorem dX12_goTurn_94 : decode cX12_goTurn 94 = .ok (.aload_n 0, 1) := by decide +kernel
theorem dX12_goTurn_95 : decode cX12_goTurn 95 = .ok (.getfield 105, 3) := by decide +kernel
theorem dX12_goTurn_98 : decode cX12_goTurn 98 = .ok (.iload_n 1, 1) := by decide +kernel
theorem dX12_goTurn_99 : decode cX12_goTurn 99 = .ok (.iaload, 1) := by decide +kernel
theorem dX12_goTurn_100 : decode cX12_goTurn 100 = .ok (.iadd, 1) := by decide +kernel
theorem dX12_goTurn_101 : decode cX12_goTurn 101 = .ok (.iastore, 1) := by decide +kernel
theorem dX12_goTurn_102 : decode cX12_goTurn 102 = .ok (.aload_n 0, 1) := by decide +kernel
theorem dX12_goTurn_103 : decode cX12_goTurn 103 = .ok (.getfield 26, 3) := by decide +kernel
theorem dX12_goTurn_106 : decode cX12_goTurn 106 = .ok (.iload_n 1, 1) := by decide +kernel
theorem dX12_goTurn_107 : decode cX12_goTurn 107 = .ok (.iaload, 1) := by decide +kernel
theorem dX12_goTurn_108 : decode cX12_goTurn 108 = .ok (.aload_n 0, 1) := by decide +kernel
theorem dX12_goTurn_109 : decode cX12_goTurn 109 = .ok (.invokevirtual 244, 3) := by decide +kernel
theorem dX12_goTurn_112 : decode cX12_goTurn 112 = .ok (.if_icmp .ge 6, 3) := by decide +kernel
theorem dX12_goTurn_115 : decode cX12_goTurn 115 = .ok (.goto 25, 3) := by decide +kernel
theorem dX12_goTurn_118 : decode cX12_goTurn 118 = .ok (.aload_n 0, 1) := by decide +kernel
theorem dX12_goTurn_119 : decode cX12_goTurn 119 = .ok (.getfield 26, 3) := by decide +kernel
theorem dX12_goTurn_122 : decode cX12_goTurn 122 = .ok (.iload_n 1, 1) := by decide +kernel
theorem dX12_goTurn_123 : decode cX12_goTurn 123 = .ok (.aload_n 0, 1) := by decide +kernel
theorem dX12_goTurn_124 : decode cX12_goTurn 124 = .ok (.invokevirtual 244, 3) := by decide +kernel
theorem dX12_goTurn_127 : decode cX12_goTurn 127 = .ok (.iastore, 1) := by decide +kernel
theorem dX12_goTurn_128 : decode cX12_goTurn 128 = .ok (.aload_n 0, 1) := by decide +kernel
theorem dX12_goTurn_129 : decode cX12_goTurn 129 = .ok (.dup, 1) := by decide +kernel
theorem dX12_goTurn_130 : decode cX12_goTurn 130 = .ok (.getfield 16, 3) := by decide +kernel
theorem dX12_goTurn_133 : decode cX12_goTurn 133 = .ok (.iconst 1, 1) := by decide +kernel
theorem dX12_goTurn_134 : decode cX12_goTurn 134 = .ok (.iload_n 1, 1) := by decide +kernel
theorem dX12_goTurn_135 : decode cX12_goTurn 135 = .ok (.ishl, 1) := by decide +kernel
theorem dX12_goTurn_136 : decode cX12_goTurn 136 = .ok (.ior, 1) := by decide +kernel
theorem dX12_goTurn_137 : decode cX12_goTurn 137 = .ok (.putfield 16, 3) := by decide +kernel
theorem dX12_goTurn_140 : decode cX12_goTurn 140 = .ok (.iinc 1 1, 3) := by decide +kernel
theorem dX12_goTurn_143 : decode cX12_goTurn 143 = .ok (.goto (-79), 3) := by decide +kernel
theorem dX12_goTurn_146 : decode cX12_goTurn 146 = .ok (.iconst 0, 1) := by decide +kernel
theorem dX12_goTurn_147 : decode cX12_goTurn 147 = .ok (.istore_n 1, 1) := by decide +kernel
theorem dX12_goTurn_148 : decode cX12_goTurn 148 = .ok (.iconst 0, 1) := by decide +kernel
theorem dX12_goTurn_149 : decode cX12_goTurn 149 = .ok (.istore_n 2, 1) := by decide +kernel
theorem dX12_goTurn_150 : decode cX12_goTurn 150 = .ok (.iload_n 2, 1) := by decide +kernel
theorem dX12_goTurn_151 : decode cX12_goTurn 151 = .ok (.aload_n 0, 1) := by decide +kernel
theorem dX12_goTurn_152 : decode cX12_goTurn 152 = .ok (.getfield 7, 3) := by decide +kernel
theorem dX12_goTurn_155 : decode cX12_goTurn 155 = .ok (.if_icmp .ge 56, 3) := by decide +kernel
theorem dX12_goTurn_158 : decode cX12_goTurn 158 = .ok (.iload_n 1, 1) := by decide +kernel
theorem dX12_goTurn_159 : decode cX12_goTurn 159 = .ok (.aload_n 0, 1) := by decide +kernel
theorem dX12_goTurn_160 : decode cX12_goTurn 160 = .ok (.aload_n 0, 1) := by decide +kernel
theorem dX12_goTurn_161 : decode cX12_goTurn 161 = .ok (.getfield 16, 3) := by decide +kernel
theorem dX12_goTurn_164 : decode cX12_goTurn 164 = .ok (.iload_n 2, 1) := by decide +kernel
theorem dX12_goTurn_165 : decode cX12_goTurn 165 = .ok (.invokevirtual 328, 3) := by decide +kernel
theorem dX12_goTurn_168 : decode cX12_goTurn 168 = .ok (.ifCond .ne 34, 3) := by decide +kernel
theorem dX12_goTurn_171 : decode cX12_goTurn 171 = .ok (.aload_n 0, 1) := by decide +kernel
theorem dX12_goTurn_172 : decode cX12_goTurn 172 = .ok (.iload_n 2, 1) := by decide +kernel
theorem dX12_goTurn_173 : decode cX12_goTurn 173 = .ok (.invokevirtual 340, 3) := by decide +kernel
theorem dX12_goTurn_176 : decode cX12_goTurn 176 = .ok (.aload_n 0, 1) := by decide +kernel
theorem dX12_goTurn_177 : decode cX12_goTurn 177 = .ok (.invokevirtual 337, 3) := by decide +kernel
theorem dX12_goTurn_180 : decode cX12_goTurn 180 = .ok (.if_icmp .ge 22, 3) := by decide +kernel
theorem dX12_goTurn_183 : decode cX12_goTurn 183 = .ok (.aload_n 0, 1) := by decide +kernel
theorem dX12_goTurn_184 : decode cX12_goTurn 184 = .ok (.getfield 108, 3) := by decide +kernel
theorem dX12_goTurn_187 : decode cX12_goTurn 187 = .ok (.iload_n 2, 1) := by decide +kernel
theorem dX12_goTurn_188 : decode cX12_goTurn 188 = .ok (.iaload, 1) := by decide +kernel
theorem dX12_goTurn_189 : decode cX12_goTurn 189 = .ok (.aload_n 0, 1) := by decide +kernel
theorem dX12_goTurn_190 : decode cX12_goTurn 190 = .ok (.invokevirtual 334, 3) := by decide +kernel
theorem dX12_goTurn_193 : decode cX12_goTurn 193 = .ok (.if_icmp .le 9, 3) := by decide +kernel
theorem dX12_goTurn_196 : decode cX12_goTurn 196 = .ok (.iconst 1, 1) := by decide +kernel
theorem dX12_goTurn_197 : decode cX12_goTurn 197 = .ok (.iload_n 2, 1) := by decide +kernel
theorem dX12_goTurn_198 : decode cX12_goTurn 198 = .ok (.ishl, 1) := by decide +kernel
theorem dX12_goTurn_199 : decode cX12_goTurn 199 = .ok (.goto 4, 3) := by decide +kernel
theorem dX12_goTurn_202 : decode cX12_goTurn 202 = .ok (.iconst 0, 1) := by decide +kernel
theorem dX12_goTurn_203 : decode cX12_goTurn 203 = .ok (.ior, 1) := by decide +kernel
theorem dX12_goTurn_204 : decode cX12_goTurn 204 = .ok (.istore_n 1, 1) := by decide +kernel
theorem dX12_goTurn_205 : decode cX12_goTurn 205 = .ok (.iinc 2 1, 3) := by decide +kernel
theorem dX12_goTurn_208 : decode cX12_goTurn 208 = .ok (.goto (-58), 3) := by decide +kernel
theorem dX12_goTurn_211 : decode cX12_goTurn 211 = .ok (.iconst 0, 1) := by decide +kernel
theorem dX12_goTurn_212 : decode cX12_goTurn 212 = .ok (.istore_n 2, 1) := by decide +kernel
theorem dX12_goTurn_213 : decode cX12_goTurn 213 = .ok (.iload_n 2, 1) := by decide +kernel
theorem dX12_goTurn_214 : decode cX12_goTurn 214 = .ok (.aload_n 0, 1) := by decide +kernel
theorem dX12_goTurn_215 : decode cX12_goTurn 215 = .ok (.getfield 7, 3) := by decide +kernel
theorem dX12_goTurn_218 : decode cX12_goTurn 218 = .ok (.if_icmp .ge 62, 3) := by decide +kernel
theorem dX12_goTurn_221 : decode cX12_goTurn 221 = .ok (.aload_n 0, 1) := by decide +kernel
theorem dX12_goTurn_222 : decode cX12_goTurn 222 = .ok (.iload_n 1, 1) := by decide +kernel
theorem dX12_goTurn_223 : decode cX12_goTurn 223 = .ok (.iload_n 2, 1) := by decide +kernel
theorem dX12_goTurn_224 : decode cX12_goTurn 224 = .ok (.invokevirtual 328, 3) := by decide +kernel
theorem dX12_goTurn_227 : decode cX12_goTurn 227 = .ok (.ifCond .ne 6, 3) := by decide +kernel
theorem dX12_goTurn_230 : decode cX12_goTurn 230 = .ok (.goto 44, 3) := by decide +kernel
theorem dX12_goTurn_233 : decode cX12_goTurn 233 = .ok (.aload_n 0, 1) := by decide +kernel
theorem dX12_goTurn_234 : decode cX12_goTurn 234 = .ok (.getfield 26, 3) := by decide +kernel
theorem dX12_goTurn_237 : decode cX12_goTurn 237 = .ok (.iload_n 2, 1) := by decide +kernel
theorem dX12_goTurn_238 : decode cX12_goTurn 238 = .ok (.iconst 0, 1) := by decide +kernel
theorem dX12_goTurn_239 : decode cX12_goTurn 239 = .ok (.iastore, 1) := by decide +kernel
theorem dX12_goTurn_240 : decode cX12_goTurn 240 = .ok (.aload_n 0, 1) := by decide +kernel
theorem dX12_goTurn_241 : decode cX12_goTurn 241 = .ok (.getfield 32, 3) := by decide +kernel
theorem dX12_goTurn_244 : decode cX12_goTurn 244 = .ok (.iload_n 2, 1) := by decide +kernel
theorem dX12_goTurn_245 : decode cX12_goTurn 245 = .ok (.aload_n 0, 1) := by decide +kernel
theorem dX12_goTurn_246 : decode cX12_goTurn 246 = .ok (.getfield 32, 3) := by decide +kernel
theorem dX12_goTurn_249 : decode cX12_goTurn 249 = .ok (.iload_n 2, 1) := by decide +kernel
theorem dX12_goTurn_250 : decode cX12_goTurn 250 = .ok (.iaload, 1) := by decide +kernel
theorem dX12_goTurn_251 : decode cX12_goTurn 251 = .ok (.aload_n 0, 1) := by decide +kernel
theorem dX12_goTurn_252 : decode cX12_goTurn 252 = .ok (.getfield 99, 3) := by decide +kernel
theorem dX12_goTurn_255 : decode cX12_goTurn 255 = .ok (.if_icmp .ge 14, 3) := by decide +kernel
theorem dX12_goTurn_258 : decode cX12_goTurn 258 = .ok (.aload_n 0, 1) := by decide +kernel
theorem dX12_goTurn_259 : decode cX12_goTurn 259 = .ok (.getfield 32, 3) := by decide +kernel
theorem dX12_goTurn_262 : decode cX12_goTurn 262 = .ok (.iload_n 2, 1) := by decide +kernel
theorem dX12_goTurn_263 : decode cX12_goTurn 263 = .ok (.iaload, 1) := by decide +kernel
theorem dX12_goTurn_264 : decode cX12_goTurn 264 = .ok (.iconst 1, 1) := by decide +kernel
theorem dX12_goTurn_265 : decode cX12_goTurn 265 = .ok (.iadd, 1) := by decide +kernel
theorem dX12_goTurn_266 : decode cX12_goTurn 266 = .ok (.goto 7, 3) := by decide +kernel
theorem dX12_goTurn_269 : decode cX12_goTurn 269 = .ok (.aload_n 0, 1) := by decide +kernel
theorem dX12_goTurn_270 : decode cX12_goTurn 270 = .ok (.getfield 99, 3) := by decide +kernel
theorem dX12_goTurn_273 : decode cX12_goTurn 273 = .ok (.iastore, 1) := by decide +kernel
theorem dX12_goTurn_274 : decode cX12_goTurn 274 = .ok (.iinc 2 1, 3) := by decide +kernel
theorem dX12_goTurn_277 : decode cX12_goTurn 277 = .ok (.goto (-64), 3) := by decide +kernel
theorem dX12_goTurn_280 : decode cX12_goTurn 280 = .ok (.aload_n 0, 1) := by decide +kernel
theorem dX12_goTurn_281 : decode cX12_goTurn 281 = .ok (.dup, 1) := by decide +kernel
theorem dX12_goTurn_282 : decode cX12_goTurn 282 = .ok (.getfield 13, 3) := by decide +kernel
theorem dX12_goTurn_285 : decode cX12_goTurn 285 = .ok (.iconst 1, 1) := by decide +kernel
theorem dX12_goTurn_286 : decode cX12_goTurn 286 = .ok (.iadd, 1) := by decide +kernel
theorem dX12_goTurn_287 : decode cX12_goTurn 287 = .ok (.putfield 13, 3) := by decide +kernel
theorem dX12_goTurn_290 : decode cX12_goTurn 290 = .ok (.iload_n 1, 1) := by decide +kernel
theorem dX12_goTurn_291 : decode cX12_goTurn 291 = .ok (.ireturn, 1) := by decide +kernel
theorem dX12_turn_0 : decode cX12_turn 0 = .ok (.aload_n 0, 1) := by decide +kernel
theorem dX12_turn_1 : decode cX12_turn 1 = .ok (.getfield 13, 3) := by decide +kernel
theorem dX12_turn_4 : decode cX12_turn 4 = .ok (.sipush 9999, 3) := by decide +kernel
theorem dX12_turn_7 : decode cX12_turn 7 = .ok (.if_icmp .ne 8, 3) := by decide +kernel
theorem dX12_turn_10 : decode cX12_turn 10 = .ok (.bipush (-3), 2) := by decide +kernel
theorem dX12_turn_12 : decode cX12_turn 12 = .ok (.goto 7, 3) := by decide +kernel
theorem dX12_turn_15 : decode cX12_turn 15 = .ok (.aload_n 0, 1) := by decide +kernel
theorem dX12_turn_16 : decode cX12_turn 16 = .ok (.invokevirtual 343, 3) := by decide +kernel
theorem dX12_turn_19 : decode cX12_turn 19 = .ok (.ireturn, 1) := by decide +kernel
theorem dX12_save_0 : decode cX12_save 0 = .ok (.aload_n 0, 1) := by decide +kernel
theorem dX12_save_1 : decode cX12_save 1 = .ok (.ldc_w 346, 3) := by decide +kernel
theorem dX12_save_4 : decode cX12_save 4 = .ok (.putfield 99, 3) := by decide +kernel
theorem dX12_save_7 : decode cX12_save 7 = .ok (.aload_n 0, 1) := by decide +kernel
theorem dX12_save_8 : decode cX12_save 8 = .ok (.aload_n 0, 1) := by decide +kernel
theorem dX12_save_9 : decode cX12_save 9 = .ok (.getfield 13, 3) := by decide +kernel
theorem dX12_save_12 : decode cX12_save 12 = .ok (.putfield 111, 3) := by decide +kernel
theorem dX12_save_15 : decode cX12_save 15 = .ok (.aload_n 0, 1) := by decide +kernel
theorem dX12_save_16 : decode cX12_save 16 = .ok (.aload_n 0, 1) := by decide +kernel
theorem dX12_save_17 : decode cX12_save 17 = .ok (.getfield 16, 3) := by decide +kernel
theorem dX12_save_20 : decode cX12_save 20 = .ok (.putfield 114, 3) := by decide +kernel
theorem dX12_save_23 : decode cX12_save 23 = .ok (.iconst 0, 1) := by decide +kernel
theorem dX12_save_24 : decode cX12_save 24 = .ok (.istore_n 1, 1) := by decide +kernel
theorem dX12_save_25 : decode cX12_save 25 = .ok (.iload_n 1, 1) := by decide +kernel
theorem dX12_save_26 : decode cX12_save 26 = .ok (.bipush 7, 2) := by decide +kernel
theorem dX12_save_28 : decode cX12_save 28 = .ok (.if_icmp .ge 33, 3) := by decide +kernel
theorem dX12_save_31 : decode cX12_save 31 = .ok (.aload_n 0, 1) := by decide +kernel
theorem dX12_save_32 : decode cX12_save 32 = .ok (.getfield 117, 3) := by decide +kernel
theorem dX12_save_35 : decode cX12_save 35 = .ok (.iload_n 1, 1) := by decide +kernel
theorem dX12_save_36 : decode cX12_save 36 = .ok (.aload_n 0, 1) := by decide +kernel
theorem dX12_save_37 : decode cX12_save 37 = .ok (.getfield 26, 3) := by decide +kernel
theorem dX12_save_40 : decode cX12_save 40 = .ok (.iload_n 1, 1) := by decide +kernel
theorem dX12_save_41 : decode cX12_save 41 = .ok (.iaload, 1) := by decide +kernel
theorem dX12_save_42 : decode cX12_save 42 = .ok (.iastore, 1) := by decide +kernel
theorem dX12_save_43 : decode cX12_save 43 = .ok (.aload_n 0, 1) := by decide +kernel
theorem dX12_save_44 : decode cX12_save 44 = .ok (.getfield 120, 3) := by decide +kernel
theorem dX12_save_47 : decode cX12_save 47 = .ok (.iload_n 1, 1) := by decide +kernel
theorem dX12_save_48 : decode cX12_save 48 = .ok (.aload_n 0, 1) := by decide +kernel
theorem dX12_save_49 : decode cX12_save 49 = .ok (.getfield 32, 3) := by decide +kernel
theorem dX12_save_52 : decode cX12_save 52 = .ok (.iload_n 1, 1) := by decide +kernel
theorem dX12_save_53 : decode cX12_save 53 = .ok (.iaload, 1) := by decide +kernel
theorem dX12_save_54 : decode cX12_save 54 = .ok (.iastore, 1) := by decide +kernel
theorem dX12_save_55 : decode cX12_save 55 = .ok (.iinc 1 1, 3) := by decide +kernel
theorem dX12_save_58 : decode cX12_save 58 = .ok (.goto (-33), 3) := by decide +kernel
theorem dX12_save_61 : decode cX12_save 61 = .ok (.return_, 1) := by decide +kernel
theorem dX12_putBack_0 : decode cX12_putBack 0 = .ok (.aload_n 0, 1) := by decide +kernel
theorem dX12_putBack_1 : decode cX12_putBack 1 = .ok (.sipush 9999, 3) := by decide +kernel
theorem dX12_putBack_4 : decode cX12_putBack 4 = .ok (.putfield 99, 3) := by decide +kernel
theorem dX12_putBack_7 : decode cX12_putBack 7 = .ok (.aload_n 0, 1) := by decide +kernel
theorem dX12_putBack_8 : decode cX12_putBack 8 = .ok (.aload_n 0, 1) := by decide +kernel
theorem dX12_putBack_9 : decode cX12_putBack 9 = .ok (.getfield 111, 3) := by decide +kernel
theorem dX12_putBack_12 : decode cX12_putBack 12 = .ok (.putfield 13, 3) := by decide +kernel
theorem dX12_putBack_15 : decode cX12_putBack 15 = .ok (.aload_n 0, 1) := by decide +kernel
theorem dX12_putBack_16 : decode cX12_putBack 16 = .ok (.aload_n 0, 1) := by decide +kernel
theorem dX12_putBack_17 : decode cX12_putBack 17 = .ok (.getfield 114, 3) := by decide +kernel
theorem dX12_putBack_20 : decode cX12_putBack 20 = .ok (.putfield 16, 3) := by decide +kernel
theorem dX12_putBack_23 : decode cX12_putBack 23 = .ok (.iconst 0, 1) := by decide +kernel
theorem dX12_putBack_24 : decode cX12_putBack 24 = .ok (.istore_n 1, 1) := by decide +kernel
theorem dX12_putBack_25 : decode cX12_putBack 25 = .ok (.iload_n 1, 1) := by decide +kernel
theorem dX12_putBack_26 : decode cX12_putBack 26 = .ok (.bipush 7, 2) := by decide +kernel
theorem dX12_putBack_28 : decode cX12_putBack 28 = .ok (.if_icmp .ge 33, 3) := by decide +kernel
theorem dX12_putBack_31 : decode cX12_putBack 31 = .ok (.aload_n 0, 1) := by decide +kernel
theorem dX12_putBack_32 : decode cX12_putBack 32 = .ok (.getfield 26, 3) := by decide +kernel
theorem dX12_putBack_35 : decode cX12_putBack 35 = .ok (.iload_n 1, 1) := by decide +kernel
theorem dX12_putBack_36 : decode cX12_putBack 36 = .ok (.aload_n 0, 1) := by decide +kernel
theorem dX12_putBack_37 : decode cX12_putBack 37 = .ok (.getfield 117, 3) := by decide +kernel
theorem dX12_putBack_40 : decode cX12_putBack 40 = .ok (.iload_n 1, 1) := by decide +kernel
theorem dX12_putBack_41 : decode cX12_putBack 41 = .ok (.iaload, 1) := by decide +kernel
theorem dX12_putBack_42 : decode cX12_putBack 42 = .ok (.iastore, 1) := by decide +kernel
theorem dX12_putBack_43 : decode cX12_putBack 43 = .ok (.aload_n 0, 1) := by decide +kernel
theorem dX12_putBack_44 : decode cX12_putBack 44 = .ok (.getfield 32, 3) := by decide +kernel
theorem dX12_putBack_47 : decode cX12_putBack 47 = .ok (.iload_n 1, 1) := by decide +kernel
theorem dX12_putBack_48 : decode cX12_putBack 48 = .ok (.aload_n 0, 1) := by decide +kernel
theorem dX12_putBack_49 : decode cX12_putBack 49 = .ok (.getfield 120, 3) := by decide +kernel
theorem dX12_putBack_52 : decode cX12_putBack 52 = .ok (.iload_n 1, 1) := by decide +kernel
theorem dX12_putBack_53 : decode cX12_putBack 53 = .ok (.iaload, 1) := by decide +kernel
theorem dX12_putBack_54 : decode cX12_putBack 54 = .ok (.iastore, 1) := by decide +kernel
theorem dX12_putBack_55 : decode cX12_putBack 55 = .ok (.iinc 1 1, 3) := by decide +kernel
theorem dX12_putBack_58 : decode cX12_putBack 58 = .ok (.goto (-33), 3) := by decide +kernel
theorem dX12_putBack_61 : decode cX12_putBack 61 = .ok (.return_, 1) := by decide +kernel
theorem dX12_lay_0 : decode cX12_lay 0 = .ok (.aload_n 0, 1) := by decide +kernel
theorem dX12_lay_1 : decode cX12_lay 1 = .ok (.invokevirtual 347, 3) := by decide +kernel
theorem dX12_lay_4 : decode cX12_lay 4 = .ok (.aload_n 0, 1) := by decide +kernel
theorem dX12_lay_5 : decode cX12_lay 5 = .ok (.iconst 0, 1) := by decide +kernel
theorem dX12_lay_6 : decode cX12_lay 6 = .ok (.putfield 129, 3) := by decide +kernel
theorem dX12_lay_9 : decode cX12_lay 9 = .ok (.iconst 0, 1) := by decide +kernel
theorem dX12_lay_10 : decode cX12_lay 10 = .ok (.istore_n 2, 1) := by decide +kernel
theorem dX12_lay_11 : decode cX12_lay 11 = .ok (.iload_n 2, 1) := by decide +kernel
theorem dX12_lay_12 : decode cX12_lay 12 = .ok (.iload_n 1, 1) := by decide +kernel
theorem dX12_lay_13 : decode cX12_lay 13 = .ok (.if_icmp .ge 22, 3) := by decide +kernel
theorem dX12_lay_16 : decode cX12_lay 16 = .ok (.aload_n 0, 1) := by decide +kernel
theorem dX12_lay_17 : decode cX12_lay 17 = .ok (.dup, 1) := by decide +kernel
theorem dX12_lay_18 : decode cX12_lay 18 = .ok (.getfield 129, 3) := by decide +kernel
theorem dX12_lay_21 : decode cX12_lay 21 = .ok (.aload_n 0, 1) := by decide +kernel
theorem dX12_lay_22 : decode cX12_lay 22 = .ok (.invokevirtual 343, 3) := by decide +kernel
theorem dX12_lay_25 : decode cX12_lay 25 = .ok (.ior, 1) := by decide +kernel
theorem dX12_lay_26 : decode cX12_lay 26 = .ok (.putfield 129, 3) := by decide +kernel
theorem dX12_lay_29 : decode cX12_lay 29 = .ok (.iinc 2 1, 3) := by decide +kernel
theorem dX12_lay_32 : decode cX12_lay 32 = .ok (.goto (-21), 3) := by decide +kernel
theorem dX12_lay_35 : decode cX12_lay 35 = .ok (.iconst 0, 1) := by decide +kernel
theorem dX12_lay_36 : decode cX12_lay 36 = .ok (.istore_n 2, 1) := by decide +kernel
theorem dX12_lay_37 : decode cX12_lay 37 = .ok (.iload_n 2, 1) := by decide +kernel
theorem dX12_lay_38 : decode cX12_lay 38 = .ok (.bipush 7, 2) := by decide +kernel
theorem dX12_lay_40 : decode cX12_lay 40 = .ok (.if_icmp .ge 21, 3) := by decide +kernel
theorem dX12_lay_43 : decode cX12_lay 43 = .ok (.aload_n 0, 1) := by decide +kernel
theorem dX12_lay_44 : decode cX12_lay 44 = .ok (.getfield 123, 3) := by decide +kernel
theorem dX12_lay_47 : decode cX12_lay 47 = .ok (.iload_n 2, 1) := by decide +kernel
theorem dX12_lay_48 : decode cX12_lay 48 = .ok (.aload_n 0, 1) := by decide +kernel
theorem dX12_lay_49 : decode cX12_lay 49 = .ok (.getfield 26, 3) := by decide +kernel
theorem dX12_lay_52 : decode cX12_lay 52 = .ok (.iload_n 2, 1) := by decide +kernel
theorem dX12_lay_53 : decode cX12_lay 53 = .ok (.iaload, 1) := by decide +kernel
theorem dX12_lay_54 : decode cX12_lay 54 = .ok (.iastore, 1) := by decide +kernel
theorem dX12_lay_55 : decode cX12_lay 55 = .ok (.iinc 2 1, 3) := by decide +kernel
theorem dX12_lay_58 : decode cX12_lay 58 = .ok (.goto (-21), 3) := by decide +kernel
theorem dX12_lay_61 : decode cX12_lay 61 = .ok (.aload_n 0, 1) := by decide +kernel
theorem dX12_lay_62 : decode cX12_lay 62 = .ok (.aload_n 0, 1) := by decide +kernel
theorem dX12_lay_63 : decode cX12_lay 63 = .ok (.getfield 16, 3) := by decide +kernel
theorem dX12_lay_66 : decode cX12_lay 66 = .ok (.putfield 126, 3) := by decide +kernel
theorem dX12_lay_69 : decode cX12_lay 69 = .ok (.aload_n 0, 1) := by decide +kernel
theorem dX12_lay_70 : decode cX12_lay 70 = .ok (.invokevirtual 350, 3) := by decide +kernel
theorem dX12_lay_73 : decode cX12_lay 73 = .ok (.return_, 1) := by decide +kernel
theorem dX12_on_0 : decode cX12_on 0 = .ok (.aload_n 0, 1) := by decide +kernel
theorem dX12_on_1 : decode cX12_on 1 = .ok (.iload_n 2, 1) := by decide +kernel
theorem dX12_on_2 : decode cX12_on 2 = .ok (.iconst 0, 1) := by decide +kernel
theorem dX12_on_3 : decode cX12_on 3 = .ok (.iconst 1, 1) := by decide +kernel
theorem dX12_on_4 : decode cX12_on 4 = .ok (.invokevirtual 236, 3) := by decide +kernel
theorem dX12_on_7 : decode cX12_on 7 = .ok (.ifCond .ne 22, 3) := by decide +kernel
theorem dX12_on_10 : decode cX12_on 10 = .ok (.aload_n 0, 1) := by decide +kernel
theorem dX12_on_11 : decode cX12_on 11 = .ok (.iload_n 2, 1) := by decide +kernel
theorem dX12_on_12 : decode cX12_on 12 = .ok (.bipush 10, 2) := by decide +kernel
theorem dX12_on_14 : decode cX12_on 14 = .ok (.bipush 9, 2) := by decide +kernel
theorem dX12_on_16 : decode cX12_on 16 = .ok (.aload_n 0, 1) := by decide +kernel
theorem dX12_on_17 : decode cX12_on 17 = .ok (.getfield 7, 3) := by decide +kernel
theorem dX12_on_20 : decode cX12_on 20 = .ok (.iadd, 1) := by decide +kernel
theorem dX12_on_21 : decode cX12_on 21 = .ok (.invokevirtual 236, 3) := by decide +kernel
theorem dX12_on_24 : decode cX12_on 24 = .ok (.ifCond .ne 5, 3) := by decide +kernel
theorem dX12_on_27 : decode cX12_on 27 = .ok (.iconst (-1), 1) := by decide +kernel
theorem dX12_on_28 : decode cX12_on 28 = .ok (.ireturn, 1) := by decide +kernel
theorem dX12_on_29 : decode cX12_on 29 = .ok (.aload_n 0, 1) := by decide +kernel
theorem dX12_on_30 : decode cX12_on 30 = .ok (.iload_n 1, 1) := by decide +kernel
theorem dX12_on_31 : decode cX12_on 31 = .ok (.iconst 0, 1) := by decide +kernel
theorem dX12_on_32 : decode cX12_on 32 = .ok (.bipush 40, 2) := by decide +kernel
theorem dX12_on_34 : decode cX12_on 34 = .ok (.invokevirtual 236, 3) := by decide +kernel
theorem dX12_on_37 : decode cX12_on 37 = .ok (.ifCond .ne 6, 3) := by decide +kernel
theorem dX12_on_40 : decode cX12_on 40 = .ok (.bipush (-2), 2) := by decide +kernel
theorem dX12_on_42 : decode cX12_on 42 = .ok (.ireturn, 1) := by decide +kernel
theorem dX12_on_43 : decode cX12_on 43 = .ok (.aload_n 0, 1) := by decide +kernel
theorem dX12_on_44 : decode cX12_on 44 = .ok (.iload_n 1, 1) := by decide +kernel
theorem dX12_on_45 : decode cX12_on 45 = .ok (.invokevirtual 353, 3) := by decide +kernel
theorem dX12_on_48 : decode cX12_on 48 = .ok (.iload_n 2, 1) := by decide +kernel
theorem dX12_on_49 : decode cX12_on 49 = .ok (.ifCond .ne 14, 3) := by decide +kernel
theorem dX12_on_52 : decode cX12_on 52 = .ok (.aload_n 0, 1) := by decide +kernel
theorem dX12_on_53 : decode cX12_on 53 = .ok (.aload_n 0, 1) := by decide +kernel
theorem dX12_on_54 : decode cX12_on 54 = .ok (.getfield 126, 3) := by decide +kernel
theorem dX12_on_57 : decode cX12_on 57 = .ok (.invokevirtual 356, 3) := by decide +kernel
theorem dX12_on_60 : decode cX12_on 60 = .ok (.goto 24, 3) := by decide +kernel
theorem dX12_on_63 : decode cX12_on 63 = .ok (.iload_n 2, 1) := by decide +kernel
theorem dX12_on_64 : decode cX12_on 64 = .ok (.iconst 1, 1) := by decide +kernel
theorem dX12_on_65 : decode cX12_on 65 = .ok (.if_icmp .ne 10, 3) := by decide +kernel
theorem dX12_on_68 : decode cX12_on 68 = .ok (.aload_n 0, 1) := by decide +kernel
theorem dX12_on_69 : decode cX12_on 69 = .ok (.getfield 129, 3) := by decide +kernel
theorem dX12_on_72 : decode cX12_on 72 = .ok (.goto 12, 3) := by decide +kernel
theorem dX12_on_75 : decode cX12_on 75 = .ok (.aload_n 0, 1) := by decide +kernel
theorem dX12_on_76 : decode cX12_on 76 = .ok (.getfield 123, 3) := by decide +kernel
theorem dX12_on_79 : decode cX12_on 79 = .ok (.iload_n 2, 1) := by decide +kernel
theorem dX12_on_80 : decode cX12_on 80 = .ok (.bipush 10, 2) := by decide +kernel
theorem dX12_on_82 : decode cX12_on 82 = .ok (.isub, 1) := by decide +kernel
theorem dX12_on_83 : decode cX12_on 83 = .ok (.iaload, 1) := by decide +kernel
theorem dX12_on_84 : decode cX12_on 84 = .ok (.ireturn, 1) := by decide +kernel
theorem dX12_touchesOf_0 : decode cX12_touchesOf 0 = .ok (.aload_n 0, 1) := by decide +kernel
theorem dX12_touchesOf_1 : decode cX12_touchesOf 1 = .ok (.invokevirtual 347, 3) := by decide +kernel
theorem dX12_touchesOf_4 : decode cX12_touchesOf 4 = .ok (.iconst 0, 1) := by decide +kernel
theorem dX12_touchesOf_5 : decode cX12_touchesOf 5 = .ok (.istore_n 2, 1) := by decide +kernel
theorem dX12_touchesOf_6 : decode cX12_touchesOf 6 = .ok (.iload_n 2, 1) := by decide +kernel
theorem dX12_touchesOf_7 : decode cX12_touchesOf 7 = .ok (.bipush 61, 2) := by decide +kernel
theorem dX12_touchesOf_9 : decode cX12_touchesOf 9 = .ok (.if_icmp .ge 26, 3) := by decide +kernel
theorem dX12_touchesOf_12 : decode cX12_touchesOf 12 = .ok (.aload_n 0, 1) := by decide +kernel
theorem dX12_touchesOf_13 : decode cX12_touchesOf 13 = .ok (.aload_n 0, 1) := by decide +kernel
theorem dX12_touchesOf_14 : decode cX12_touchesOf 14 = .ok (.getfield 16, 3) := by decide +kernel
theorem dX12_touchesOf_17 : decode cX12_touchesOf 17 = .ok (.iload_n 1, 1) := by decide +kernel
theorem dX12_touchesOf_18 : decode cX12_touchesOf 18 = .ok (.invokevirtual 328, 3) := by decide +kernel
theorem dX12_touchesOf_21 : decode cX12_touchesOf 21 = .ok (.ifCond .ne 14, 3) := by decide +kernel
theorem dX12_touchesOf_24 : decode cX12_touchesOf 24 = .ok (.aload_n 0, 1) := by decide +kernel
theorem dX12_touchesOf_25 : decode cX12_touchesOf 25 = .ok (.invokevirtual 343, 3) := by decide +kernel
theorem dX12_touchesOf_28 : decode cX12_touchesOf 28 = .ok (.istore_n 3, 1) := by decide +kernel
theorem dX12_touchesOf_29 : decode cX12_touchesOf 29 = .ok (.iinc 2 1, 3) := by decide +kernel
theorem dX12_touchesOf_32 : decode cX12_touchesOf 32 = .ok (.goto (-26), 3) := by decide +kernel
theorem dX12_touchesOf_35 : decode cX12_touchesOf 35 = .ok (.aload_n 0, 1) := by decide +kernel
theorem dX12_touchesOf_36 : decode cX12_touchesOf 36 = .ok (.invokevirtual 350, 3) := by decide +kernel
theorem dX12_touchesOf_39 : decode cX12_touchesOf 39 = .ok (.iload_n 2, 1) := by decide +kernel
theorem dX12_touchesOf_40 : decode cX12_touchesOf 40 = .ok (.bipush 61, 2) := by decide +kernel
theorem dX12_touchesOf_42 : decode cX12_touchesOf 42 = .ok (.if_icmp .ge 7, 3) := by decide +kernel
theorem dX12_touchesOf_45 : decode cX12_touchesOf 45 = .ok (.iload_n 2, 1) := by decide +kernel
theorem dX12_touchesOf_46 : decode cX12_touchesOf 46 = .ok (.goto 5, 3) := by decide +kernel
theorem dX12_touchesOf_49 : decode cX12_touchesOf 49 = .ok (.bipush (-5), 2) := by decide +kernel
theorem dX12_touchesOf_51 : decode cX12_touchesOf 51 = .ok (.ireturn, 1) := by decide +kernel
theorem dX12_touches_0 : decode cX12_touches 0 = .ok (.aload_n 0, 1) := by decide +kernel
theorem dX12_touches_1 : decode cX12_touches 1 = .ok (.iload_n 1, 1) := by decide +kernel
theorem dX12_touches_2 : decode cX12_touches 2 = .ok (.invokevirtual 240, 3) := by decide +kernel
theorem dX12_touches_5 : decode cX12_touches 5 = .ok (.ifCond .eq 11, 3) := by decide +kernel
theorem dX12_touches_8 : decode cX12_touches 8 = .ok (.aload_n 0, 1) := by decide +kernel
theorem dX12_touches_9 : decode cX12_touches 9 = .ok (.iload_n 1, 1) := by decide +kernel
theorem dX12_touches_10 : decode cX12_touches 10 = .ok (.invokevirtual 359, 3) := by decide +kernel
theorem dX12_touches_13 : decode cX12_touches 13 = .ok (.goto 4, 3) := by decide +kernel
theorem dX12_touches_16 : decode cX12_touches 16 = .ok (.iconst (-1), 1) := by decide +kernel
theorem dX12_touches_17 : decode cX12_touches 17 = .ok (.ireturn, 1) := by decide +kernel
theorem dX12_first_0 : decode cX12_first 0 = .ok (.bipush (-5), 2) := by decide +kernel
theorem dX12_first_2 : decode cX12_first 2 = .ok (.istore_n 1, 1) := by decide +kernel
theorem dX12_first_3 : decode cX12_first 3 = .ok (.iconst 0, 1) := by decide +kernel
theorem dX12_first_4 : decode cX12_first 4 = .ok (.istore_n 2, 1) := by decide +kernel
theorem dX12_first_5 : decode cX12_first 5 = .ok (.iconst 0, 1) := by decide +kernel
theorem dX12_first_6 : decode cX12_first 6 = .ok (.istore_n 3, 1) := by decide +kernel
theorem dX12_first_7 : decode cX12_first 7 = .ok (.iload_n 3, 1) := by decide +kernel
theorem dX12_first_8 : decode cX12_first 8 = .ok (.aload_n 0, 1) := by decide +kernel
theorem dX12_first_9 : decode cX12_first 9 = .ok (.getfield 7, 3) := by decide +kernel
theorem dX12_first_12 : decode cX12_first 12 = .ok (.if_icmp .ge 56, 3) := by decide +kernel
theorem dX12_first_15 : decode cX12_first 15 = .ok (.aload_n 0, 1) := by decide +kernel
theorem dX12_first_16 : decode cX12_first 16 = .ok (.aload_n 0, 1) := by decide +kernel
theorem dX12_first_17 : decode cX12_first 17 = .ok (.getfield 16, 3) := by decide +kernel
theorem dX12_first_20 : decode cX12_first 20 = .ok (.iload_n 3, 1) := by decide +kernel
theorem dX12_first_21 : decode cX12_first 21 = .ok (.invokevirtual 328, 3) := by decide +kernel
theorem dX12_first_24 : decode cX12_first 24 = .ok (.ifCond .eq 8, 3) := by decide +kernel
theorem dX12_first_27 : decode cX12_first 27 = .ok (.bipush (-5), 2) := by decide +kernel
theorem dX12_first_29 : decode cX12_first 29 = .ok (.goto 8, 3) := by decide +kernel
theorem dX12_first_32 : decode cX12_first 32 = .ok (.aload_n 0, 1) := by decide +kernel
theorem dX12_first_33 : decode cX12_first 33 = .ok (.iload_n 3, 1) := by decide +kernel
theorem dX12_first_34 : decode cX12_first 34 = .ok (.invokevirtual 359, 3) := by decide +kernel
theorem dX12_first_37 : decode cX12_first 37 = .ok (.istore 4, 2) := by decide +kernel
theorem dX12_first_39 : decode cX12_first 39 = .ok (.iload 4, 2) := by decide +kernel
theorem dX12_first_41 : decode cX12_first 41 = .ok (.ifCond .lt 21, 3) := by decide +kernel
theorem dX12_first_44 : decode cX12_first 44 = .ok (.iload_n 1, 1) := by decide +kernel
theorem dX12_first_45 : decode cX12_first 45 = .ok (.ifCond .lt 12, 3) := by decide +kernel
theorem dX12_first_48 : decode cX12_first 48 = .ok (.iload 4, 2) := by decide +kernel
theorem dX12_first_50 : decode cX12_first 50 = .ok (.iload_n 2, 1) := by decide +kernel
theorem dX12_first_51 : decode cX12_first 51 = .ok (.if_icmp .lt 6, 3) := by decide +kernel
theorem dX12_first_54 : decode cX12_first 54 = .ok (.goto 8, 3) := by decide +kernel
theorem dX12_first_57 : decode cX12_first 57 = .ok (.iload_n 3, 1) := by decide +kernel
theorem dX12_first_58 : decode cX12_first 58 = .ok (.istore_n 1, 1) := by decide +kernel
theorem dX12_first_59 : decode cX12_first 59 = .ok (.iload 4, 2) := by decide +kernel
theorem dX12_first_61 : decode cX12_first 61 = .ok (.istore_n 2, 1) := by decide +kernel
theorem dX12_first_62 : decode cX12_first 62 = .ok (.iinc 3 1, 3) := by decide +kernel
theorem dX12_first_65 : decode cX12_first 65 = .ok (.goto (-58), 3) := by decide +kernel
theorem dX12_first_68 : decode cX12_first 68 = .ok (.iload_n 1, 1) := by decide +kernel
theorem dX12_first_69 : decode cX12_first 69 = .ok (.ireturn, 1) := by decide +kernel
theorem dX12_risks_0 : decode cX12_risks 0 = .ok (.iconst 0, 1) := by decide +kernel
theorem dX12_risks_1 : decode cX12_risks 1 = .ok (.istore_n 1, 1) := by decide +kernel
theorem dX12_risks_2 : decode cX12_risks 2 = .ok (.iconst 0, 1) := by decide +kernel
theorem dX12_risks_3 : decode cX12_risks 3 = .ok (.istore_n 2, 1) := by decide +kernel
theorem dX12_risks_4 : decode cX12_risks 4 = .ok (.iload_n 2, 1) := by decide +kernel
theorem dX12_risks_5 : decode cX12_risks 5 = .ok (.aload_n 0, 1) := by decide +kernel
theorem dX12_risks_6 : decode cX12_risks 6 = .ok (.getfield 7, 3) := by decide +kernel
theorem dX12_risks_9 : decode cX12_risks 9 = .ok (.if_icmp .ge 43, 3) := by decide +kernel
theorem dX12_risks_12 : decode cX12_risks 12 = .ok (.iload_n 1, 1) := by decide +kernel
theorem dX12_risks_13 : decode cX12_risks 13 = .ok (.aload_n 0, 1) := by decide +kernel
theorem dX12_risks_14 : decode cX12_risks 14 = .ok (.aload_n 0, 1) := by decide +kernel
theorem dX12_risks_15 : decode cX12_risks 15 = .ok (.getfield 16, 3) := by decide +kernel
theorem dX12_risks_18 : decode cX12_risks 18 = .ok (.iload_n 2, 1) := by decide +kernel
theorem dX12_risks_19 : decode cX12_risks 19 = .ok (.invokevirtual 328, 3) := by decide +kernel
theorem dX12_risks_22 : decode cX12_risks 22 = .ok (.ifCond .ne 21, 3) := by decide +kernel
theorem dX12_risks_25 : decode cX12_risks 25 = .ok (.aload_n 0, 1) := by decide +kernel
theorem dX12_risks_26 : decode cX12_risks 26 = .ok (.iload_n 2, 1) := by decide +kernel
theorem dX12_risks_27 : decode cX12_risks 27 = .ok (.invokevirtual 331, 3) := by decide +kernel
theorem dX12_risks_30 : decode cX12_risks 30 = .ok (.aload_n 0, 1) := by decide +kernel
theorem dX12_risks_31 : decode cX12_risks 31 = .ok (.invokevirtual 334, 3) := by decide +kernel
theorem dX12_risks_34 : decode cX12_risks 34 = .ok (.if_icmp .le 9, 3) := by decide +kernel
theorem dX12_risks_37 : decode cX12_risks 37 = .ok (.iconst 1, 1) := by decide +kernel
theorem dX12_risks_38 : decode cX12_risks 38 = .ok (.iload_n 2, 1) := by decide +kernel
theorem dX12_risks_39 : decode cX12_risks 39 = .ok (.ishl, 1) := by decide +kernel
theorem dX12_risks_40 : decode cX12_risks 40 = .ok (.goto 4, 3) := by decide +kernel
theorem dX12_risks_43 : decode cX12_risks 43 = .ok (.iconst 0, 1) := by decide +kernel
theorem dX12_risks_44 : decode cX12_risks 44 = .ok (.ior, 1) := by decide +kernel
theorem dX12_risks_45 : decode cX12_risks 45 = .ok (.istore_n 1, 1) := by decide +kernel
theorem dX12_risks_46 : decode cX12_risks 46 = .ok (.iinc 2 1, 3) := by decide +kernel
theorem dX12_risks_49 : decode cX12_risks 49 = .ok (.goto (-45), 3) := by decide +kernel
theorem dX12_risks_52 : decode cX12_risks 52 = .ok (.iload_n 1, 1) := by decide +kernel
theorem dX12_risks_53 : decode cX12_risks 53 = .ok (.ireturn, 1) := by decide +kernel
theorem dX12_stands_0 : decode cX12_stands 0 = .ok (.aload_n 0, 1) := by decide +kernel
theorem dX12_stands_1 : decode cX12_stands 1 = .ok (.iload_n 1, 1) := by decide +kernel
theorem dX12_stands_2 : decode cX12_stands 2 = .ok (.invokevirtual 240, 3) := by decide +kernel
theorem dX12_stands_5 : decode cX12_stands 5 = .ok (.ifCond .ne 5, 3) := by decide +kernel
theorem dX12_stands_8 : decode cX12_stands 8 = .ok (.iconst (-1), 1) := by decide +kernel
theorem dX12_stands_9 : decode cX12_stands 9 = .ok (.ireturn, 1) := by decide +kernel
theorem dX12_stands_10 : decode cX12_stands 10 = .ok (.aload_n 0, 1) := by decide +kernel
theorem dX12_stands_11 : decode cX12_stands 11 = .ok (.getfield 29, 3) := by decide +kernel
theorem dX12_stands_14 : decode cX12_stands 14 = .ok (.iload_n 1, 1) := by decide +kernel
theorem dX12_stands_15 : decode cX12_stands 15 = .ok (.iaload, 1) := by decide +kernel
theorem dX12_stands_16 : decode cX12_stands 16 = .ok (.istore_n 2, 1) := by decide +kernel
theorem dX12_stands_17 : decode cX12_stands 17 = .ok (.bipush (-5), 2) := by decide +kernel
theorem dX12_stands_19 : decode cX12_stands 19 = .ok (.istore_n 3, 1) := by decide +kernel
theorem dX12_stands_20 : decode cX12_stands 20 = .ok (.iconst 0, 1) := by decide +kernel
theorem dX12_stands_21 : decode cX12_stands 21 = .ok (.istore 4, 2) := by decide +kernel
theorem dX12_stands_23 : decode cX12_stands 23 = .ok (.bipush 9, 2) := by decide +kernel
theorem dX12_stands_25 : decode cX12_stands 25 = .ok (.istore 5, 2) := by decide +kernel
theorem dX12_stands_27 : decode cX12_stands 27 = .ok (.iload 5, 2) := by decide +kernel
theorem dX12_stands_29 : decode cX12_stands 29 = .ok (.ifCond .lt 50, 3) := by decide +kernel
theorem dX12_stands_32 : decode cX12_stands 32 = .ok (.aload_n 0, 1) := by decide +kernel
theorem dX12_stands_33 : decode cX12_stands 33 = .ok (.getfield 29, 3) := by decide +kernel
theorem dX12_stands_36 : decode cX12_stands 36 = .ok (.iload_n 1, 1) := by decide +kernel
theorem dX12_stands_37 : decode cX12_stands 37 = .ok (.iload 5, 2) := by decide +kernel
theorem dX12_stands_39 : decode cX12_stands 39 = .ok (.iastore, 1) := by decide +kernel
theorem dX12_stands_40 : decode cX12_stands 40 = .ok (.aload_n 0, 1) := by decide +kernel
theorem dX12_stands_41 : decode cX12_stands 41 = .ok (.iload_n 1, 1) := by decide +kernel
theorem dX12_stands_42 : decode cX12_stands 42 = .ok (.invokevirtual 359, 3) := by decide +kernel
theorem dX12_stands_45 : decode cX12_stands 45 = .ok (.istore 6, 2) := by decide +kernel
theorem dX12_stands_47 : decode cX12_stands 47 = .ok (.iload 6, 2) := by decide +kernel
theorem dX12_stands_49 : decode cX12_stands 49 = .ok (.ifCond .lt 24, 3) := by decide +kernel
theorem dX12_stands_52 : decode cX12_stands 52 = .ok (.iload_n 3, 1) := by decide +kernel
theorem dX12_stands_53 : decode cX12_stands 53 = .ok (.ifCond .lt 13, 3) := by decide +kernel
theorem dX12_stands_56 : decode cX12_stands 56 = .ok (.iload 6, 2) := by decide +kernel
theorem dX12_stands_58 : decode cX12_stands 58 = .ok (.iload 4, 2) := by decide +kernel
theorem dX12_stands_60 : decode cX12_stands 60 = .ok (.if_icmp .lt 6, 3) := by decide +kernel
theorem dX12_stands_63 : decode cX12_stands 63 = .ok (.goto 10, 3) := by decide +kernel
theorem dX12_stands_66 : decode cX12_stands 66 = .ok (.iload 5, 2) := by decide +kernel
theorem dX12_stands_68 : decode cX12_stands 68 = .ok (.istore_n 3, 1) := by decide +kernel
theorem dX12_stands_69 : decode cX12_stands 69 = .ok (.iload 6, 2) := by decide +kernel
theorem dX12_stands_71 : decode cX12_stands 71 = .ok (.istore 4, 2) := by decide +kernel
theorem dX12_stands_73 : decode cX12_stands 73 = .ok (.iinc 5 (-1), 3) := by decide +kernel
theorem dX12_stands_76 : decode cX12_stands 76 = .ok (.goto (-49), 3) := by decide +kernel
theorem dX12_stands_79 : decode cX12_stands 79 = .ok (.aload_n 0, 1) := by decide +kernel
theorem dX12_stands_80 : decode cX12_stands 80 = .ok (.getfield 29, 3) := by decide +kernel
theorem dX12_stands_83 : decode cX12_stands 83 = .ok (.iload_n 1, 1) := by decide +kernel
theorem dX12_stands_84 : decode cX12_stands 84 = .ok (.iload_n 2, 1) := by decide +kernel
theorem dX12_stands_85 : decode cX12_stands 85 = .ok (.iastore, 1) := by decide +kernel
theorem dX12_stands_86 : decode cX12_stands 86 = .ok (.iload_n 3, 1) := by decide +kernel
theorem dX12_stands_87 : decode cX12_stands 87 = .ok (.ireturn, 1) := by decide +kernel
theorem dX12_keepCounts_0 : decode cX12_keepCounts 0 = .ok (.iconst 0, 1) := by decide +kernel
theorem dX12_keepCounts_1 : decode cX12_keepCounts 1 = .ok (.istore_n 1, 1) := by decide +kernel
theorem dX12_keepCounts_2 : decode cX12_keepCounts 2 = .ok (.iload_n 1, 1) := by decide +kernel
theorem dX12_keepCounts_3 : decode cX12_keepCounts 3 = .ok (.iconst 4, 1) := by decide +kernel
theorem dX12_keepCounts_4 : decode cX12_keepCounts 4 = .ok (.if_icmp .ge 21, 3) := by decide +kernel
theorem dX12_keepCounts_7 : decode cX12_keepCounts 7 = .ok (.aload_n 0, 1) := by decide +kernel
theorem dX12_keepCounts_8 : decode cX12_keepCounts 8 = .ok (.getfield 132, 3) := by decide +kernel
theorem dX12_keepCounts_11 : decode cX12_keepCounts 11 = .ok (.iload_n 1, 1) := by decide +kernel
theorem dX12_keepCounts_12 : decode cX12_keepCounts 12 = .ok (.aload_n 0, 1) := by decide +kernel
theorem dX12_keepCounts_13 : decode cX12_keepCounts 13 = .ok (.getfield 38, 3) := by decide +kernel
theorem dX12_keepCounts_16 : decode cX12_keepCounts 16 = .ok (.iload_n 1, 1) := by decide +kernel
theorem dX12_keepCounts_17 : decode cX12_keepCounts 17 = .ok (.iaload, 1) := by decide +kernel
theorem dX12_keepCounts_18 : decode cX12_keepCounts 18 = .ok (.iastore, 1) := by decide +kernel
theorem dX12_keepCounts_19 : decode cX12_keepCounts 19 = .ok (.iinc 1 1, 3) := by decide +kernel
theorem dX12_keepCounts_22 : decode cX12_keepCounts 22 = .ok (.goto (-20), 3) := by decide +kernel
theorem dX12_keepCounts_25 : decode cX12_keepCounts 25 = .ok (.return_, 1) := by decide +kernel
theorem dX12_putCounts_0 : decode cX12_putCounts 0 = .ok (.iconst 0, 1) := by decide +kernel
theorem dX12_putCounts_1 : decode cX12_putCounts 1 = .ok (.istore_n 1, 1) := by decide +kernel
theorem dX12_putCounts_2 : decode cX12_putCounts 2 = .ok (.iload_n 1, 1) := by decide +kernel
theorem dX12_putCounts_3 : decode cX12_putCounts 3 = .ok (.iconst 4, 1) := by decide +kernel
theorem dX12_putCounts_4 : decode cX12_putCounts 4 = .ok (.if_icmp .ge 21, 3) := by decide +kernel
theorem dX12_putCounts_7 : decode cX12_putCounts 7 = .ok (.aload_n 0, 1) := by decide +kernel
theorem dX12_putCounts_8 : decode cX12_putCounts 8 = .ok (.getfield 38, 3) := by decide +kernel
theorem dX12_putCounts_11 : decode cX12_putCounts 11 = .ok (.iload_n 1, 1) := by decide +kernel
theorem dX12_putCounts_12 : decode cX12_putCounts 12 = .ok (.aload_n 0, 1) := by decide +kernel
theorem dX12_putCounts_13 : decode cX12_putCounts 13 = .ok (.getfield 132, 3) := by decide +kernel
theorem dX12_putCounts_16 : decode cX12_putCounts 16 = .ok (.iload_n 1, 1) := by decide +kernel
theorem dX12_putCounts_17 : decode cX12_putCounts 17 = .ok (.iaload, 1) := by decide +kernel
theorem dX12_putCounts_18 : decode cX12_putCounts 18 = .ok (.iastore, 1) := by decide +kernel
theorem dX12_putCounts_19 : decode cX12_putCounts 19 = .ok (.iinc 1 1, 3) := by decide +kernel
theorem dX12_putCounts_22 : decode cX12_putCounts 22 = .ok (.goto (-20), 3) := by decide +kernel
theorem dX12_putCounts_25 : decode cX12_putCounts 25 = .ok (.return_, 1) := by decide +kernel
theorem dX12_wallBehind_0 : decode cX12_wallBehind 0 = .ok (.aload_n 0, 1) := by decide +kernel
theorem dX12_wallBehind_1 : decode cX12_wallBehind 1 = .ok (.iload_n 1, 1) := by decide +kernel
theorem dX12_wallBehind_2 : decode cX12_wallBehind 2 = .ok (.invokevirtual 353, 3) := by decide +kernel
theorem dX12_wallBehind_5 : decode cX12_wallBehind 5 = .ok (.aload_n 0, 1) := by decide +kernel
theorem dX12_wallBehind_6 : decode cX12_wallBehind 6 = .ok (.aload_n 0, 1) := by decide +kernel
theorem dX12_wallBehind_7 : decode cX12_wallBehind 7 = .ok (.getfield 126, 3) := by decide +kernel
theorem dX12_wallBehind_10 : decode cX12_wallBehind 10 = .ok (.invokevirtual 356, 3) := by decide +kernel
theorem dX12_wallBehind_13 : decode cX12_wallBehind 13 = .ok (.ireturn, 1) := by decide +kernel
theorem dX12_slow_0 : decode cX12_slow 0 = .ok (.aload_n 0, 1) := by decide +kernel
theorem dX12_slow_1 : decode cX12_slow 1 = .ok (.iload_n 2, 1) := by decide +kernel
theorem dX12_slow_2 : decode cX12_slow 2 = .ok (.iconst 0, 1) := by decide +kernel
theorem dX12_slow_3 : decode cX12_slow 3 = .ok (.iconst 1, 1) := by decide +kernel
theorem dX12_slow_4 : decode cX12_slow 4 = .ok (.invokevirtual 236, 3) := by decide +kernel
theorem dX12_slow_7 : decode cX12_slow 7 = .ok (.ifCond .ne 5, 3) := by decide +kernel
theorem dX12_slow_10 : decode cX12_slow 10 = .ok (.iconst (-1), 1) := by decide +kernel
theorem dX12_slow_11 : decode cX12_slow 11 = .ok (.ireturn, 1) := by decide +kernel
theorem dX12_slow_12 : decode cX12_slow 12 = .ok (.aload_n 0, 1) := by decide +kernel
theorem dX12_slow_13 : decode cX12_slow 13 = .ok (.iload_n 1, 1) := by decide +kernel
theorem dX12_slow_14 : decode cX12_slow 14 = .ok (.iconst 1, 1) := by decide +kernel
theorem dX12_slow_15 : decode cX12_slow 15 = .ok (.bipush 20, 2) := by decide +kernel
theorem dX12_slow_17 : decode cX12_slow 17 = .ok (.invokevirtual 236, 3) := by decide +kernel
theorem dX12_slow_20 : decode cX12_slow 20 = .ok (.ifCond .ne 6, 3) := by decide +kernel
theorem dX12_slow_23 : decode cX12_slow 23 = .ok (.bipush (-2), 2) := by decide +kernel
theorem dX12_slow_25 : decode cX12_slow 25 = .ok (.ireturn, 1) := by decide +kernel
theorem dX12_slow_26 : decode cX12_slow 26 = .ok (.aload_n 0, 1) := by decide +kernel
theorem dX12_slow_27 : decode cX12_slow 27 = .ok (.invokevirtual 362, 3) := by decide +kernel
theorem dX12_slow_30 : decode cX12_slow 30 = .ok (.iconst 0, 1) := by decide +kernel
theorem dX12_slow_31 : decode cX12_slow 31 = .ok (.istore_n 3, 1) := by decide +kernel
theorem dX12_slow_32 : decode cX12_slow 32 = .ok (.bipush 99, 2) := by decide +kernel
theorem dX12_slow_34 : decode cX12_slow 34 = .ok (.istore 4, 2) := by decide +kernel
theorem dX12_slow_36 : decode cX12_slow 36 = .ok (.bipush 9, 2) := by decide +kernel
theorem dX12_slow_38 : decode cX12_slow 38 = .ok (.istore 5, 2) := by decide +kernel
theorem dX12_slow_40 : decode cX12_slow 40 = .ok (.iload 5, 2) := by decide +kernel
theorem dX12_slow_42 : decode cX12_slow 42 = .ok (.ifCond .le 57, 3) := by decide +kernel
theorem dX12_slow_45 : decode cX12_slow 45 = .ok (.iconst 0, 1) := by decide +kernel
theorem dX12_slow_46 : decode cX12_slow 46 = .ok (.istore 6, 2) := by decide +kernel
theorem dX12_slow_48 : decode cX12_slow 48 = .ok (.iload 6, 2) := by decide +kernel
theorem dX12_slow_50 : decode cX12_slow 50 = .ok (.iconst 4, 1) := by decide +kernel
theorem dX12_slow_51 : decode cX12_slow 51 = .ok (.if_icmp .ge 18, 3) := by decide +kernel
theorem dX12_slow_54 : decode cX12_slow 54 = .ok (.aload_n 0, 1) := by decide +kernel
theorem dX12_slow_55 : decode cX12_slow 55 = .ok (.getfield 38, 3) := by decide +kernel
theorem dX12_slow_58 : decode cX12_slow 58 = .ok (.iload 6, 2) := by decide +kernel
theorem dX12_slow_60 : decode cX12_slow 60 = .ok (.iload 5, 2) := by decide +kernel
theorem dX12_slow_62 : decode cX12_slow 62 = .ok (.iastore, 1) := by decide +kernel
theorem dX12_slow_63 : decode cX12_slow 63 = .ok (.iinc 6 1, 3) := by decide +kernel
theorem dX12_slow_66 : decode cX12_slow 66 = .ok (.goto (-18), 3) := by decide +kernel
theorem dX12_slow_69 : decode cX12_slow 69 = .ok (.aload_n 0, 1) := by decide +kernel
theorem dX12_slow_70 : decode cX12_slow 70 = .ok (.iload_n 1, 1) := by decide +kernel
theorem dX12_slow_71 : decode cX12_slow 71 = .ok (.invokevirtual 365, 3) := by decide +kernel
theorem dX12_slow_74 : decode cX12_slow 74 = .ok (.istore 6, 2) := by decide +kernel
theorem dX12_slow_76 : decode cX12_slow 76 = .ok (.iload 6, 2) := by decide +kernel
theorem dX12_slow_78 : decode cX12_slow 78 = .ok (.iload 4, 2) := by decide +kernel
theorem dX12_slow_80 : decode cX12_slow 80 = .ok (.if_icmp .lt 6, 3) := by decide +kernel
theorem dX12_slow_83 : decode cX12_slow 83 = .ok (.goto 10, 3) := by decide +kernel
theorem dX12_slow_86 : decode cX12_slow 86 = .ok (.iload 5, 2) := by decide +kernel
theorem dX12_slow_88 : decode cX12_slow 88 = .ok (.istore_n 3, 1) := by decide +kernel
theorem dX12_slow_89 : decode cX12_slow 89 = .ok (.iload 6, 2) := by decide +kernel
theorem dX12_slow_91 : decode cX12_slow 91 = .ok (.istore 4, 2) := by decide +kernel
theorem dX12_slow_93 : decode cX12_slow 93 = .ok (.iinc 5 (-1), 3) := by decide +kernel
theorem dX12_slow_96 : decode cX12_slow 96 = .ok (.goto (-56), 3) := by decide +kernel
theorem dX12_slow_99 : decode cX12_slow 99 = .ok (.aload_n 0, 1) := by decide +kernel
theorem dX12_slow_100 : decode cX12_slow 100 = .ok (.invokevirtual 368, 3) := by decide +kernel
theorem dX12_slow_103 : decode cX12_slow 103 = .ok (.iload_n 2, 1) := by decide +kernel
theorem dX12_slow_104 : decode cX12_slow 104 = .ok (.ifCond .ne 7, 3) := by decide +kernel
theorem dX12_slow_107 : decode cX12_slow 107 = .ok (.iload_n 3, 1) := by decide +kernel
theorem dX12_slow_108 : decode cX12_slow 108 = .ok (.goto 5, 3) := by decide +kernel
theorem dX12_slow_111 : decode cX12_slow 111 = .ok (.iload 4, 2) := by decide +kernel
theorem dX12_slow_113 : decode cX12_slow 113 = .ok (.ireturn, 1) := by decide +kernel
theorem dX12_order_0 : decode cX12_order 0 = .ok (.aload_n 0, 1) := by decide +kernel
theorem dX12_order_1 : decode cX12_order 1 = .ok (.iload_n 2, 1) := by decide +kernel
theorem dX12_order_2 : decode cX12_order 2 = .ok (.iconst (-1), 1) := by decide +kernel
theorem dX12_order_3 : decode cX12_order 3 = .ok (.iconst 3, 1) := by decide +kernel
theorem dX12_order_4 : decode cX12_order 4 = .ok (.invokevirtual 236, 3) := by decide +kernel
theorem dX12_order_7 : decode cX12_order 7 = .ok (.ifCond .ne 5, 3) := by decide +kernel
theorem dX12_order_10 : decode cX12_order 10 = .ok (.iconst (-1), 1) := by decide +kernel
theorem dX12_order_11 : decode cX12_order 11 = .ok (.ireturn, 1) := by decide +kernel
theorem dX12_order_12 : decode cX12_order 12 = .ok (.aload_n 0, 1) := by decide +kernel
theorem dX12_order_13 : decode cX12_order 13 = .ok (.iload_n 1, 1) := by decide +kernel
theorem dX12_order_14 : decode cX12_order 14 = .ok (.iconst 1, 1) := by decide +kernel
theorem dX12_order_15 : decode cX12_order 15 = .ok (.bipush 20, 2) := by decide +kernel
theorem dX12_order_17 : decode cX12_order 17 = .ok (.invokevirtual 236, 3) := by decide +kernel
theorem dX12_order_20 : decode cX12_order 20 = .ok (.ifCond .ne 6, 3) := by decide +kernel
theorem dX12_order_23 : decode cX12_order 23 = .ok (.bipush (-2), 2) := by decide +kernel
theorem dX12_order_25 : decode cX12_order 25 = .ok (.ireturn, 1) := by decide +kernel
theorem dX12_order_26 : decode cX12_order 26 = .ok (.aload_n 0, 1) := by decide +kernel
theorem dX12_order_27 : decode cX12_order 27 = .ok (.invokevirtual 362, 3) := by decide +kernel
theorem dX12_order_30 : decode cX12_order 30 = .ok (.bipush 99, 2) := by decide +kernel
theorem dX12_order_32 : decode cX12_order 32 = .ok (.istore_n 3, 1) := by decide +kernel
theorem dX12_order_33 : decode cX12_order 33 = .ok (.iconst 0, 1) := by decide +kernel
theorem dX12_order_34 : decode cX12_order 34 = .ok (.istore 4, 2) := by decide +kernel
theorem dX12_order_36 : decode cX12_order 36 = .ok (.iload 4, 2) := by decide +kernel
theorem dX12_order_38 : decode cX12_order 38 = .ok (.sipush 256, 3) := by decide +kernel
theorem dX12_order_41 : decode cX12_order 41 = .ok (.if_icmp .ge 165, 3) := by decide +kernel
theorem dX12_order_44 : decode cX12_order 44 = .ok (.iload 4, 2) := by decide +kernel
theorem dX12_order_46 : decode cX12_order 46 = .ok (.bipush 6, 2) := by decide +kernel
theorem dX12_order_48 : decode cX12_order 48 = .ok (.ishr, 1) := by decide +kernel
theorem dX12_order_49 : decode cX12_order 49 = .ok (.istore 5, 2) := by decide +kernel
theorem dX12_order_51 : decode cX12_order 51 = .ok (.iload 4, 2) := by decide +kernel
theorem dX12_order_53 : decode cX12_order 53 = .ok (.iconst 4, 1) := by decide +kernel
theorem dX12_order_54 : decode cX12_order 54 = .ok (.ishr, 1) := by decide +kernel
theorem dX12_order_55 : decode cX12_order 55 = .ok (.iconst 3, 1) := by decide +kernel
theorem dX12_order_56 : decode cX12_order 56 = .ok (.iand, 1) := by decide +kernel
theorem dX12_order_57 : decode cX12_order 57 = .ok (.istore 6, 2) := by decide +kernel
theorem dX12_order_59 : decode cX12_order 59 = .ok (.iload 4, 2) := by decide +kernel
theorem dX12_order_61 : decode cX12_order 61 = .ok (.iconst 2, 1) := by decide +kernel
theorem dX12_order_62 : decode cX12_order 62 = .ok (.ishr, 1) := by decide +kernel
theorem dX12_order_63 : decode cX12_order 63 = .ok (.iconst 3, 1) := by decide +kernel
theorem dX12_order_64 : decode cX12_order 64 = .ok (.iand, 1) := by decide +kernel
theorem dX12_order_65 : decode cX12_order 65 = .ok (.istore 7, 2) := by decide +kernel
theorem dX12_order_67 : decode cX12_order 67 = .ok (.iload 4, 2) := by decide +kernel
theorem dX12_order_69 : decode cX12_order 69 = .ok (.iconst 3, 1) := by decide +kernel
theorem dX12_order_70 : decode cX12_order 70 = .ok (.iand, 1) := by decide +kernel
theorem dX12_order_71 : decode cX12_order 71 = .ok (.istore 8, 2) := by decide +kernel
theorem dX12_order_73 : decode cX12_order 73 = .ok (.iconst 1, 1) := by decide +kernel
theorem dX12_order_74 : decode cX12_order 74 = .ok (.iload 5, 2) := by decide +kernel
theorem dX12_order_76 : decode cX12_order 76 = .ok (.ishl, 1) := by decide +kernel
theorem dX12_order_77 : decode cX12_order 77 = .ok (.iconst 1, 1) := by decide +kernel
theorem dX12_order_78 : decode cX12_order 78 = .ok (.iload 6, 2) := by decide +kernel
theorem dX12_order_80 : decode cX12_order 80 = .ok (.ishl, 1) := by decide +kernel
theorem dX12_order_81 : decode cX12_order 81 = .ok (.ior, 1) := by decide +kernel
theorem dX12_order_82 : decode cX12_order 82 = .ok (.iconst 1, 1) := by decide +kernel
theorem dX12_order_83 : decode cX12_order 83 = .ok (.iload 7, 2) := by decide +kernel
theorem dX12_order_85 : decode cX12_order 85 = .ok (.ishl, 1) := by decide +kernel
theorem dX12_order_86 : decode cX12_order 86 = .ok (.ior, 1) := by decide +kernel
theorem dX12_order_87 : decode cX12_order 87 = .ok (.iconst 1, 1) := by decide +kernel
theorem dX12_order_88 : decode cX12_order 88 = .ok (.iload 8, 2) := by decide +kernel
theorem dX12_order_90 : decode cX12_order 90 = .ok (.ishl, 1) := by decide +kernel
theorem dX12_order_91 : decode cX12_order 91 = .ok (.ior, 1) := by decide +kernel
theorem dX12_order_92 : decode cX12_order 92 = .ok (.bipush 15, 2) := by decide +kernel
theorem dX12_order_94 : decode cX12_order 94 = .ok (.if_icmp .eq 6, 3) := by decide +kernel
theorem dX12_order_97 : decode cX12_order 97 = .ok (.goto 103, 3) := by decide +kernel
theorem dX12_order_100 : decode cX12_order 100 = .ok (.aload_n 0, 1) := by decide +kernel
theorem dX12_order_101 : decode cX12_order 101 = .ok (.getfield 38, 3) := by decide +kernel
theorem dX12_order_104 : decode cX12_order 104 = .ok (.iconst 0, 1) := by decide +kernel
theorem dX12_order_105 : decode cX12_order 105 = .ok (.aload_n 0, 1) := by decide +kernel
theorem dX12_order_106 : decode cX12_order 106 = .ok (.getfield 132, 3) := by decide +kernel
theorem dX12_order_109 : decode cX12_order 109 = .ok (.iload 5, 2) := by decide +kernel
theorem dX12_order_111 : decode cX12_order 111 = .ok (.iaload, 1) := by decide +kernel
theorem dX12_order_112 : decode cX12_order 112 = .ok (.iastore, 1) := by decide +kernel
theorem dX12_order_113 : decode cX12_order 113 = .ok (.aload_n 0, 1) := by decide +kernel
theorem dX12_order_114 : decode cX12_order 114 = .ok (.getfield 38, 3) := by decide +kernel
theorem dX12_order_117 : decode cX12_order 117 = .ok (.iconst 1, 1) := by decide +kernel
theorem dX12_order_118 : decode cX12_order 118 = .ok (.aload_n 0, 1) := by decide +kernel
theorem dX12_order_119 : decode cX12_order 119 = .ok (.getfield 132, 3) := by decide +kernel
theorem dX12_order_122 : decode cX12_order 122 = .ok (.iload 6, 2) := by decide +kernel
theorem dX12_order_124 : decode cX12_order 124 = .ok (.iaload, 1) := by decide +kernel
theorem dX12_order_125 : decode cX12_order 125 = .ok (.iastore, 1) := by decide +kernel
theorem dX12_order_126 : decode cX12_order 126 = .ok (.aload_n 0, 1) := by decide +kernel
theorem dX12_order_127 : decode cX12_order 127 = .ok (.getfield 38, 3) := by decide +kernel
theorem dX12_order_130 : decode cX12_order 130 = .ok (.iconst 2, 1) := by decide +kernel
theorem dX12_order_131 : decode cX12_order 131 = .ok (.aload_n 0, 1) := by decide +kernel
theorem dX12_order_132 : decode cX12_order 132 = .ok (.getfield 132, 3) := by decide +kernel
theorem dX12_order_135 : decode cX12_order 135 = .ok (.iload 7, 2) := by decide +kernel
theorem dX12_order_137 : decode cX12_order 137 = .ok (.iaload, 1) := by decide +kernel
theorem dX12_order_138 : decode cX12_order 138 = .ok (.iastore, 1) := by decide +kernel
theorem dX12_order_139 : decode cX12_order 139 = .ok (.aload_n 0, 1) := by decide +kernel
theorem dX12_order_140 : decode cX12_order 140 = .ok (.getfield 38, 3) := by decide +kernel
theorem dX12_order_143 : decode cX12_order 143 = .ok (.iconst 3, 1) := by decide +kernel
theorem dX12_order_144 : decode cX12_order 144 = .ok (.aload_n 0, 1) := by decide +kernel
theorem dX12_order_145 : decode cX12_order 145 = .ok (.getfield 132, 3) := by decide +kernel
theorem dX12_order_148 : decode cX12_order 148 = .ok (.iload 8, 2) := by decide +kernel
theorem dX12_order_150 : decode cX12_order 150 = .ok (.iaload, 1) := by decide +kernel
theorem dX12_order_151 : decode cX12_order 151 = .ok (.iastore, 1) := by decide +kernel
theorem dX12_order_152 : decode cX12_order 152 = .ok (.aload_n 0, 1) := by decide +kernel
theorem dX12_order_153 : decode cX12_order 153 = .ok (.iload_n 1, 1) := by decide +kernel
theorem dX12_order_154 : decode cX12_order 154 = .ok (.invokevirtual 365, 3) := by decide +kernel
theorem dX12_order_157 : decode cX12_order 157 = .ok (.istore 9, 2) := by decide +kernel
theorem dX12_order_159 : decode cX12_order 159 = .ok (.iload 9, 2) := by decide +kernel
theorem dX12_order_161 : decode cX12_order 161 = .ok (.iload_n 3, 1) := by decide +kernel
theorem dX12_order_162 : decode cX12_order 162 = .ok (.if_icmp .lt 6, 3) := by decide +kernel
theorem dX12_order_165 : decode cX12_order 165 = .ok (.goto 35, 3) := by decide +kernel
theorem dX12_order_168 : decode cX12_order 168 = .ok (.iload 9, 2) := by decide +kernel
theorem dX12_order_170 : decode cX12_order 170 = .ok (.istore_n 3, 1) := by decide +kernel
theorem dX12_order_171 : decode cX12_order 171 = .ok (.iconst 0, 1) := by decide +kernel
theorem dX12_order_172 : decode cX12_order 172 = .ok (.istore 10, 2) := by decide +kernel
theorem dX12_order_174 : decode cX12_order 174 = .ok (.iload 10, 2) := by decide +kernel
theorem dX12_order_176 : decode cX12_order 176 = .ok (.iconst 4, 1) := by decide +kernel
theorem dX12_order_177 : decode cX12_order 177 = .ok (.if_icmp .ge 23, 3) := by decide +kernel
theorem dX12_order_180 : decode cX12_order 180 = .ok (.aload_n 0, 1) := by decide +kernel
theorem dX12_order_181 : decode cX12_order 181 = .ok (.getfield 135, 3) := by decide +kernel
theorem dX12_order_184 : decode cX12_order 184 = .ok (.iload 10, 2) := by decide +kernel
theorem dX12_order_186 : decode cX12_order 186 = .ok (.aload_n 0, 1) := by decide +kernel
theorem dX12_order_187 : decode cX12_order 187 = .ok (.getfield 38, 3) := by decide +kernel
theorem dX12_order_190 : decode cX12_order 190 = .ok (.iload 10, 2) := by decide +kernel
theorem dX12_order_192 : decode cX12_order 192 = .ok (.iaload, 1) := by decide +kernel
theorem dX12_order_193 : decode cX12_order 193 = .ok (.iastore, 1) := by decide +kernel
theorem dX12_order_194 : decode cX12_order 194 = .ok (.iinc 10 1, 3) := by decide +kernel
theorem dX12_order_197 : decode cX12_order 197 = .ok (.goto (-23), 3) := by decide +kernel
theorem dX12_order_200 : decode cX12_order 200 = .ok (.iinc 4 1, 3) := by decide +kernel
theorem dX12_order_203 : decode cX12_order 203 = .ok (.goto (-167), 3) := by decide +kernel
theorem dX12_order_206 : decode cX12_order 206 = .ok (.aload_n 0, 1) := by decide +kernel
theorem dX12_order_207 : decode cX12_order 207 = .ok (.invokevirtual 368, 3) := by decide +kernel
theorem dX12_order_210 : decode cX12_order 210 = .ok (.iload_n 2, 1) := by decide +kernel
theorem dX12_order_211 : decode cX12_order 211 = .ok (.ifCond .ge 7, 3) := by decide +kernel
theorem dX12_order_214 : decode cX12_order 214 = .ok (.iload_n 3, 1) := by decide +kernel
theorem dX12_order_215 : decode cX12_order 215 = .ok (.goto 9, 3) := by decide +kernel
theorem dX12_order_218 : decode cX12_order 218 = .ok (.aload_n 0, 1) := by decide +kernel
theorem dX12_order_219 : decode cX12_order 219 = .ok (.getfield 135, 3) := by decide +kernel
theorem dX12_order_222 : decode cX12_order 222 = .ok (.iload_n 2, 1) := by decide +kernel
theorem dX12_order_223 : decode cX12_order 223 = .ok (.iaload, 1) := by decide +kernel
theorem dX12_order_224 : decode cX12_order 224 = .ok (.ireturn, 1) := by decide +kernel
theorem dX12_look_0 : decode cX12_look 0 = .ok (.aload_n 0, 1) := by decide +kernel
theorem dX12_look_1 : decode cX12_look 1 = .ok (.iload_n 1, 1) := by decide +kernel
theorem dX12_look_2 : decode cX12_look 2 = .ok (.iconst 1, 1) := by decide +kernel
theorem dX12_look_3 : decode cX12_look 3 = .ok (.bipush 20, 2) := by decide +kernel
theorem dX12_look_5 : decode cX12_look 5 = .ok (.invokevirtual 236, 3) := by decide +kernel
theorem dX12_look_8 : decode cX12_look 8 = .ok (.ifCond .ne 6, 3) := by decide +kernel
theorem dX12_look_11 : decode cX12_look 11 = .ok (.bipush (-2), 2) := by decide +kernel
theorem dX12_look_13 : decode cX12_look 13 = .ok (.ireturn, 1) := by decide +kernel
theorem dX12_look_14 : decode cX12_look 14 = .ok (.bipush (-5), 2) := by decide +kernel
theorem dX12_look_16 : decode cX12_look 16 = .ok (.istore_n 2, 1) := by decide +kernel
theorem dX12_look_17 : decode cX12_look 17 = .ok (.iconst 0, 1) := by decide +kernel
theorem dX12_look_18 : decode cX12_look 18 = .ok (.istore_n 3, 1) := by decide +kernel
theorem dX12_look_19 : decode cX12_look 19 = .ok (.iload_n 3, 1) := by decide +kernel
theorem dX12_look_20 : decode cX12_look 20 = .ok (.bipush 10, 2) := by decide +kernel
theorem dX12_look_22 : decode cX12_look 22 = .ok (.if_icmp .ge 41, 3) := by decide +kernel
theorem dX12_look_25 : decode cX12_look 25 = .ok (.iload_n 2, 1) := by decide +kernel
theorem dX12_look_26 : decode cX12_look 26 = .ok (.ifCond .ge 37, 3) := by decide +kernel
theorem dX12_look_29 : decode cX12_look 29 = .ok (.aload_n 0, 1) := by decide +kernel
theorem dX12_look_30 : decode cX12_look 30 = .ok (.iload_n 3, 1) := by decide +kernel
theorem dX12_look_31 : decode cX12_look 31 = .ok (.putfield 92, 3) := by decide +kernel
theorem dX12_look_34 : decode cX12_look 34 = .ok (.aload_n 0, 1) := by decide +kernel
theorem dX12_look_35 : decode cX12_look 35 = .ok (.iload_n 1, 1) := by decide +kernel
theorem dX12_look_36 : decode cX12_look 36 = .ok (.invokevirtual 365, 3) := by decide +kernel
theorem dX12_look_39 : decode cX12_look 39 = .ok (.aload_n 0, 1) := by decide +kernel
theorem dX12_look_40 : decode cX12_look 40 = .ok (.aload_n 0, 1) := by decide +kernel
theorem dX12_look_41 : decode cX12_look 41 = .ok (.getfield 16, 3) := by decide +kernel
theorem dX12_look_44 : decode cX12_look 44 = .ok (.invokevirtual 356, 3) := by decide +kernel
theorem dX12_look_47 : decode cX12_look 47 = .ok (.if_icmp .ne 7, 3) := by decide +kernel
theorem dX12_look_50 : decode cX12_look 50 = .ok (.iload_n 3, 1) := by decide +kernel
theorem dX12_look_51 : decode cX12_look 51 = .ok (.goto 5, 3) := by decide +kernel
theorem dX12_look_54 : decode cX12_look 54 = .ok (.bipush (-5), 2) := by decide +kernel
theorem dX12_look_56 : decode cX12_look 56 = .ok (.istore_n 2, 1) := by decide +kernel
theorem dX12_look_57 : decode cX12_look 57 = .ok (.iinc 3 1, 3) := by decide +kernel
theorem dX12_look_60 : decode cX12_look 60 = .ok (.goto (-41), 3) := by decide +kernel
theorem dX12_look_63 : decode cX12_look 63 = .ok (.aload_n 0, 1) := by decide +kernel
theorem dX12_look_64 : decode cX12_look 64 = .ok (.iconst (-1), 1) := by decide +kernel
theorem dX12_look_65 : decode cX12_look 65 = .ok (.putfield 92, 3) := by decide +kernel
theorem dX12_look_68 : decode cX12_look 68 = .ok (.iload_n 2, 1) := by decide +kernel
theorem dX12_look_69 : decode cX12_look 69 = .ok (.ireturn, 1) := by decide +kernel
theorem dX12_needs_0 : decode cX12_needs 0 = .ok (.aload_n 0, 1) := by decide +kernel
theorem dX12_needs_1 : decode cX12_needs 1 = .ok (.iload_n 1, 1) := by decide +kernel
theorem dX12_needs_2 : decode cX12_needs 2 = .ok (.invokevirtual 240, 3) := by decide +kernel
theorem dX12_needs_5 : decode cX12_needs 5 = .ok (.ifCond .ne 5, 3) := by decide +kernel
theorem dX12_needs_8 : decode cX12_needs 8 = .ok (.iconst (-1), 1) := by decide +kernel
theorem dX12_needs_9 : decode cX12_needs 9 = .ok (.ireturn, 1) := by decide +kernel
theorem dX12_needs_10 : decode cX12_needs 10 = .ok (.aload_n 0, 1) := by decide +kernel
theorem dX12_needs_11 : decode cX12_needs 11 = .ok (.iload_n 2, 1) := by decide +kernel
theorem dX12_needs_12 : decode cX12_needs 12 = .ok (.iconst 1, 1) := by decide +kernel
theorem dX12_needs_13 : decode cX12_needs 13 = .ok (.bipush 8, 2) := by decide +kernel
theorem dX12_needs_15 : decode cX12_needs 15 = .ok (.invokevirtual 236, 3) := by decide +kernel
theorem dX12_needs_18 : decode cX12_needs 18 = .ok (.ifCond .ne 6, 3) := by decide +kernel
theorem dX12_needs_21 : decode cX12_needs 21 = .ok (.bipush (-2), 2) := by decide +kernel
theorem dX12_needs_23 : decode cX12_needs 23 = .ok (.ireturn, 1) := by decide +kernel
theorem dX12_needs_24 : decode cX12_needs 24 = .ok (.aload_n 0, 1) := by decide +kernel
theorem dX12_needs_25 : decode cX12_needs 25 = .ok (.getfield 26, 3) := by decide +kernel
theorem dX12_needs_28 : decode cX12_needs 28 = .ok (.iload_n 1, 1) := by decide +kernel
theorem dX12_needs_29 : decode cX12_needs 29 = .ok (.iaload, 1) := by decide +kernel
theorem dX12_needs_30 : decode cX12_needs 30 = .ok (.istore_n 3, 1) := by decide +kernel
theorem dX12_needs_31 : decode cX12_needs 31 = .ok (.aload_n 0, 1) := by decide +kernel
theorem dX12_needs_32 : decode cX12_needs 32 = .ok (.getfield 16, 3) := by decide +kernel
theorem dX12_needs_35 : decode cX12_needs 35 = .ok (.istore 4, 2) := by decide +kernel
theorem dX12_needs_37 : decode cX12_needs 37 = .ok (.bipush (-5), 2) := by decide +kernel
theorem dX12_needs_39 : decode cX12_needs 39 = .ok (.istore 5, 2) := by decide +kernel
theorem dX12_needs_41 : decode cX12_needs 41 = .ok (.aload_n 0, 1) := by decide +kernel
theorem dX12_needs_42 : decode cX12_needs 42 = .ok (.dup, 1) := by decide +kernel
theorem dX12_needs_43 : decode cX12_needs 43 = .ok (.getfield 16, 3) := by decide +kernel
theorem dX12_needs_46 : decode cX12_needs 46 = .ok (.iconst 1, 1) := by decide +kernel
theorem dX12_needs_47 : decode cX12_needs 47 = .ok (.iload_n 1, 1) := by decide +kernel
theorem dX12_needs_48 : decode cX12_needs 48 = .ok (.ishl, 1) := by decide +kernel
theorem dX12_needs_49 : decode cX12_needs 49 = .ok (.iconst (-1), 1) := by decide +kernel
theorem dX12_needs_50 : decode cX12_needs 50 = .ok (.ixor, 1) := by decide +kernel
theorem dX12_needs_51 : decode cX12_needs 51 = .ok (.iand, 1) := by decide +kernel
theorem dX12_needs_52 : decode cX12_needs 52 = .ok (.putfield 16, 3) := by decide +kernel
theorem dX12_needs_55 : decode cX12_needs 55 = .ok (.iconst 0, 1) := by decide +kernel
theorem dX12_needs_56 : decode cX12_needs 56 = .ok (.istore 6, 2) := by decide +kernel
theorem dX12_needs_58 : decode cX12_needs 58 = .ok (.iload 6, 2) := by decide +kernel
theorem dX12_needs_60 : decode cX12_needs 60 = .ok (.aload_n 0, 1) := by decide +kernel
theorem dX12_needs_61 : decode cX12_needs 61 = .ok (.invokevirtual 244, 3) := by decide +kernel
theorem dX12_needs_64 : decode cX12_needs 64 = .ok (.if_icmp .ge 48, 3) := by decide +kernel
theorem dX12_needs_67 : decode cX12_needs 67 = .ok (.iload 5, 2) := by decide +kernel
theorem dX12_needs_69 : decode cX12_needs 69 = .ok (.ifCond .ge 43, 3) := by decide +kernel
theorem dX12_needs_72 : decode cX12_needs 72 = .ok (.aload_n 0, 1) := by decide +kernel
theorem dX12_needs_73 : decode cX12_needs 73 = .ok (.getfield 26, 3) := by decide +kernel
theorem dX12_needs_76 : decode cX12_needs 76 = .ok (.iload_n 1, 1) := by decide +kernel
theorem dX12_needs_77 : decode cX12_needs 77 = .ok (.iload 6, 2) := by decide +kernel
theorem dX12_needs_79 : decode cX12_needs 79 = .ok (.iastore, 1) := by decide +kernel
theorem dX12_needs_80 : decode cX12_needs 80 = .ok (.aload_n 0, 1) := by decide +kernel
theorem dX12_needs_81 : decode cX12_needs 81 = .ok (.iload_n 2, 1) := by decide +kernel
theorem dX12_needs_82 : decode cX12_needs 82 = .ok (.invokevirtual 353, 3) := by decide +kernel
theorem dX12_needs_85 : decode cX12_needs 85 = .ok (.aload_n 0, 1) := by decide +kernel
theorem dX12_needs_86 : decode cX12_needs 86 = .ok (.aload_n 0, 1) := by decide +kernel
theorem dX12_needs_87 : decode cX12_needs 87 = .ok (.getfield 126, 3) := by decide +kernel
theorem dX12_needs_90 : decode cX12_needs 90 = .ok (.iload_n 1, 1) := by decide +kernel
theorem dX12_needs_91 : decode cX12_needs 91 = .ok (.invokevirtual 328, 3) := by decide +kernel
theorem dX12_needs_94 : decode cX12_needs 94 = .ok (.ifCond .eq 8, 3) := by decide +kernel
theorem dX12_needs_97 : decode cX12_needs 97 = .ok (.iload 6, 2) := by decide +kernel
theorem dX12_needs_99 : decode cX12_needs 99 = .ok (.goto 5, 3) := by decide +kernel
theorem dX12_needs_102 : decode cX12_needs 102 = .ok (.bipush (-5), 2) := by decide +kernel
theorem dX12_needs_104 : decode cX12_needs 104 = .ok (.istore 5, 2) := by decide +kernel
theorem dX12_needs_106 : decode cX12_needs 106 = .ok (.iinc 6 1, 3) := by decide +kernel
theorem dX12_needs_109 : decode cX12_needs 109 = .ok (.goto (-51), 3) := by decide +kernel
theorem dX12_needs_112 : decode cX12_needs 112 = .ok (.aload_n 0, 1) := by decide +kernel
theorem dX12_needs_113 : decode cX12_needs 113 = .ok (.getfield 26, 3) := by decide +kernel
theorem dX12_needs_116 : decode cX12_needs 116 = .ok (.iload_n 1, 1) := by decide +kernel
theorem dX12_needs_117 : decode cX12_needs 117 = .ok (.iload_n 3, 1) := by decide +kernel
theorem dX12_needs_118 : decode cX12_needs 118 = .ok (.iastore, 1) := by decide +kernel
theorem dX12_needs_119 : decode cX12_needs 119 = .ok (.aload_n 0, 1) := by decide +kernel
theorem dX12_needs_120 : decode cX12_needs 120 = .ok (.iload 4, 2) := by decide +kernel
theorem dX12_needs_122 : decode cX12_needs 122 = .ok (.putfield 16, 3) := by decide +kernel
theorem dX12_needs_125 : decode cX12_needs 125 = .ok (.iload 5, 2) := by decide +kernel
theorem dX12_needs_127 : decode cX12_needs 127 = .ok (.ireturn, 1) := by decide +kernel
theorem dX12_comeBy_0 : decode cX12_comeBy 0 = .ok (.aload_n 0, 1) := by decide +kernel
theorem dX12_comeBy_1 : decode cX12_comeBy 1 = .ok (.invokevirtual 347, 3) := by decide +kernel
theorem dX12_comeBy_4 : decode cX12_comeBy 4 = .ok (.iconst 0, 1) := by decide +kernel
theorem dX12_comeBy_5 : decode cX12_comeBy 5 = .ok (.istore 4, 2) := by decide +kernel
theorem dX12_comeBy_7 : decode cX12_comeBy 7 = .ok (.iload 4, 2) := by decide +kernel
theorem dX12_comeBy_9 : decode cX12_comeBy 9 = .ok (.iload_n 2, 1) := by decide +kernel
theorem dX12_comeBy_10 : decode cX12_comeBy 10 = .ok (.if_icmp .ge 30, 3) := by decide +kernel
theorem dX12_comeBy_13 : decode cX12_comeBy 13 = .ok (.aload_n 0, 1) := by decide +kernel
theorem dX12_comeBy_14 : decode cX12_comeBy 14 = .ok (.iload 4, 2) := by decide +kernel
theorem dX12_comeBy_16 : decode cX12_comeBy 16 = .ok (.iload_n 3, 1) := by decide +kernel
theorem dX12_comeBy_17 : decode cX12_comeBy 17 = .ok (.if_icmp .ge 7, 3) := by decide +kernel
theorem dX12_comeBy_20 : decode cX12_comeBy 20 = .ok (.iload_n 1, 1) := by decide +kernel
theorem dX12_comeBy_21 : decode cX12_comeBy 21 = .ok (.goto 4, 3) := by decide +kernel
theorem dX12_comeBy_24 : decode cX12_comeBy 24 = .ok (.iconst (-1), 1) := by decide +kernel
theorem dX12_comeBy_25 : decode cX12_comeBy 25 = .ok (.putfield 102, 3) := by decide +kernel
theorem dX12_comeBy_28 : decode cX12_comeBy 28 = .ok (.aload_n 0, 1) := by decide +kernel
theorem dX12_comeBy_29 : decode cX12_comeBy 29 = .ok (.invokevirtual 343, 3) := by decide +kernel
theorem dX12_comeBy_32 : decode cX12_comeBy 32 = .ok (.istore 5, 2) := by decide +kernel
theorem dX12_comeBy_34 : decode cX12_comeBy 34 = .ok (.iinc 4 1, 3) := by decide +kernel
theorem dX12_comeBy_37 : decode cX12_comeBy 37 = .ok (.goto (-30), 3) := by decide +kernel
theorem dX12_comeBy_40 : decode cX12_comeBy 40 = .ok (.aload_n 0, 1) := by decide +kernel
theorem dX12_comeBy_41 : decode cX12_comeBy 41 = .ok (.iconst (-1), 1) := by decide +kernel
theorem dX12_comeBy_42 : decode cX12_comeBy 42 = .ok (.putfield 102, 3) := by decide +kernel
theorem dX12_comeBy_45 : decode cX12_comeBy 45 = .ok (.aload_n 0, 1) := by decide +kernel
theorem dX12_comeBy_46 : decode cX12_comeBy 46 = .ok (.getfield 26, 3) := by decide +kernel
theorem dX12_comeBy_49 : decode cX12_comeBy 49 = .ok (.iload_n 1, 1) := by decide +kernel
theorem dX12_comeBy_50 : decode cX12_comeBy 50 = .ok (.iaload, 1) := by decide +kernel
theorem dX12_comeBy_51 : decode cX12_comeBy 51 = .ok (.istore 4, 2) := by decide +kernel
theorem dX12_comeBy_53 : decode cX12_comeBy 53 = .ok (.aload_n 0, 1) := by decide +kernel
theorem dX12_comeBy_54 : decode cX12_comeBy 54 = .ok (.invokevirtual 350, 3) := by decide +kernel
theorem dX12_comeBy_57 : decode cX12_comeBy 57 = .ok (.iload 4, 2) := by decide +kernel
theorem dX12_comeBy_59 : decode cX12_comeBy 59 = .ok (.ireturn, 1) := by decide +kernel
theorem dX12_held_0 : decode cX12_held 0 = .ok (.aload_n 0, 1) := by decide +kernel
theorem dX12_held_1 : decode cX12_held 1 = .ok (.iload_n 1, 1) := by decide +kernel
theorem dX12_held_2 : decode cX12_held 2 = .ok (.invokevirtual 240, 3) := by decide +kernel
theorem dX12_held_5 : decode cX12_held 5 = .ok (.ifCond .ne 5, 3) := by decide +kernel
theorem dX12_held_8 : decode cX12_held 8 = .ok (.iconst (-1), 1) := by decide +kernel
theorem dX12_held_9 : decode cX12_held 9 = .ok (.ireturn, 1) := by decide +kernel
theorem dX12_held_10 : decode cX12_held 10 = .ok (.aload_n 0, 1) := by decide +kernel
theorem dX12_held_11 : decode cX12_held 11 = .ok (.iload_n 2, 1) := by decide +kernel
theorem dX12_held_12 : decode cX12_held 12 = .ok (.iconst 1, 1) := by decide +kernel
theorem dX12_held_13 : decode cX12_held 13 = .ok (.bipush 20, 2) := by decide +kernel
theorem dX12_held_15 : decode cX12_held 15 = .ok (.invokevirtual 236, 3) := by decide +kernel
theorem dX12_held_18 : decode cX12_held 18 = .ok (.ifCond .ne 6, 3) := by decide +kernel
theorem dX12_held_21 : decode cX12_held 21 = .ok (.bipush (-2), 2) := by decide +kernel
theorem dX12_held_23 : decode cX12_held 23 = .ok (.ireturn, 1) := by decide +kernel
theorem dX12_held_24 : decode cX12_held 24 = .ok (.iconst 0, 1) := by decide +kernel
theorem dX12_held_25 : decode cX12_held 25 = .ok (.istore_n 3, 1) := by decide +kernel
theorem dX12_held_26 : decode cX12_held 26 = .ok (.iconst (-1), 1) := by decide +kernel
theorem dX12_held_27 : decode cX12_held 27 = .ok (.istore 4, 2) := by decide +kernel
theorem dX12_held_29 : decode cX12_held 29 = .ok (.iconst 0, 1) := by decide +kernel
theorem dX12_held_30 : decode cX12_held 30 = .ok (.istore 5, 2) := by decide +kernel
theorem dX12_held_32 : decode cX12_held 32 = .ok (.iload 5, 2) := by decide +kernel
theorem dX12_held_34 : decode cX12_held 34 = .ok (.iload_n 2, 1) := by decide +kernel
theorem dX12_held_35 : decode cX12_held 35 = .ok (.if_icmp .gt 36, 3) := by decide +kernel
theorem dX12_held_38 : decode cX12_held 38 = .ok (.aload_n 0, 1) := by decide +kernel
theorem dX12_held_39 : decode cX12_held 39 = .ok (.iload_n 1, 1) := by decide +kernel
theorem dX12_held_40 : decode cX12_held 40 = .ok (.iload_n 2, 1) := by decide +kernel
theorem dX12_held_41 : decode cX12_held 41 = .ok (.iload 5, 2) := by decide +kernel
theorem dX12_held_43 : decode cX12_held 43 = .ok (.invokevirtual 371, 3) := by decide +kernel
theorem dX12_held_46 : decode cX12_held 46 = .ok (.istore 6, 2) := by decide +kernel
theorem dX12_held_48 : decode cX12_held 48 = .ok (.iload 6, 2) := by decide +kernel
theorem dX12_held_50 : decode cX12_held 50 = .ok (.iload 4, 2) := by decide +kernel
theorem dX12_held_52 : decode cX12_held 52 = .ok (.if_icmp .gt 6, 3) := by decide +kernel
theorem dX12_held_55 : decode cX12_held 55 = .ok (.goto 10, 3) := by decide +kernel
theorem dX12_held_58 : decode cX12_held 58 = .ok (.iload 5, 2) := by decide +kernel
theorem dX12_held_60 : decode cX12_held 60 = .ok (.istore_n 3, 1) := by decide +kernel
theorem dX12_held_61 : decode cX12_held 61 = .ok (.iload 6, 2) := by decide +kernel
theorem dX12_held_63 : decode cX12_held 63 = .ok (.istore 4, 2) := by decide +kernel
theorem dX12_held_65 : decode cX12_held 65 = .ok (.iinc 5 1, 3) := by decide +kernel
theorem dX12_held_68 : decode cX12_held 68 = .ok (.goto (-36), 3) := by decide +kernel
theorem dX12_held_71 : decode cX12_held 71 = .ok (.iload_n 3, 1) := by decide +kernel
theorem dX12_held_72 : decode cX12_held 72 = .ok (.ireturn, 1) := by decide +kernel
theorem dX12_shield_0 : decode cX12_shield 0 = .ok (.aload_n 0, 1) := by decide +kernel
theorem dX12_shield_1 : decode cX12_shield 1 = .ok (.iload_n 1, 1) := by decide +kernel
theorem dX12_shield_2 : decode cX12_shield 2 = .ok (.invokevirtual 240, 3) := by decide +kernel
theorem dX12_shield_5 : decode cX12_shield 5 = .ok (.ifCond .eq 11, 3) := by decide +kernel
theorem dX12_shield_8 : decode cX12_shield 8 = .ok (.aload_n 0, 1) := by decide +kernel
theorem dX12_shield_9 : decode cX12_shield 9 = .ok (.iload_n 2, 1) := by decide +kernel
theorem dX12_shield_10 : decode cX12_shield 10 = .ok (.invokevirtual 240, 3) := by decide +kernel
theorem dX12_shield_13 : decode cX12_shield 13 = .ok (.ifCond .ne 7, 3) := by decide +kernel
theorem dX12_shield_16 : decode cX12_shield 16 = .ok (.sipush (-1001), 3) := by decide +kernel
theorem dX12_shield_19 : decode cX12_shield 19 = .ok (.ireturn, 1) := by decide +kernel
theorem dX12_shield_20 : decode cX12_shield 20 = .ok (.iload_n 1, 1) := by decide +kernel
theorem dX12_shield_21 : decode cX12_shield 21 = .ok (.iload_n 2, 1) := by decide +kernel
theorem dX12_shield_22 : decode cX12_shield 22 = .ok (.if_icmp .eq 14, 3) := by decide +kernel
theorem dX12_shield_25 : decode cX12_shield 25 = .ok (.aload_n 0, 1) := by decide +kernel
theorem dX12_shield_26 : decode cX12_shield 26 = .ok (.iload_n 3, 1) := by decide +kernel
theorem dX12_shield_27 : decode cX12_shield 27 = .ok (.iconst 1, 1) := by decide +kernel
theorem dX12_shield_28 : decode cX12_shield 28 = .ok (.bipush 20, 2) := by decide +kernel
theorem dX12_shield_30 : decode cX12_shield 30 = .ok (.invokevirtual 236, 3) := by decide +kernel
theorem dX12_shield_33 : decode cX12_shield 33 = .ok (.ifCond .ne 7, 3) := by decide +kernel
theorem dX12_shield_36 : decode cX12_shield 36 = .ok (.sipush (-1002), 3) := by decide +kernel
theorem dX12_shield_39 : decode cX12_shield 39 = .ok (.ireturn, 1) := by decide +kernel
theorem dX12_shield_40 : decode cX12_shield 40 = .ok (.aload_n 0, 1) := by decide +kernel
theorem dX12_shield_41 : decode cX12_shield 41 = .ok (.iload_n 3, 1) := by decide +kernel
theorem dX12_shield_42 : decode cX12_shield 42 = .ok (.invokevirtual 353, 3) := by decide +kernel
theorem dX12_shield_45 : decode cX12_shield 45 = .ok (.aload_n 0, 1) := by decide +kernel
theorem dX12_shield_46 : decode cX12_shield 46 = .ok (.getfield 123, 3) := by decide +kernel
theorem dX12_shield_49 : decode cX12_shield 49 = .ok (.iload_n 1, 1) := by decide +kernel
theorem dX12_shield_50 : decode cX12_shield 50 = .ok (.iaload, 1) := by decide +kernel
theorem dX12_shield_51 : decode cX12_shield 51 = .ok (.istore 4, 2) := by decide +kernel
theorem dX12_shield_53 : decode cX12_shield 53 = .ok (.aload_n 0, 1) := by decide +kernel
theorem dX12_shield_54 : decode cX12_shield 54 = .ok (.getfield 16, 3) := by decide +kernel
theorem dX12_shield_57 : decode cX12_shield 57 = .ok (.istore 5, 2) := by decide +kernel
theorem dX12_shield_59 : decode cX12_shield 59 = .ok (.aload_n 0, 1) := by decide +kernel
theorem dX12_shield_60 : decode cX12_shield 60 = .ok (.dup, 1) := by decide +kernel
theorem dX12_shield_61 : decode cX12_shield 61 = .ok (.getfield 16, 3) := by decide +kernel
theorem dX12_shield_64 : decode cX12_shield 64 = .ok (.iconst 1, 1) := by decide +kernel
theorem dX12_shield_65 : decode cX12_shield 65 = .ok (.iload_n 2, 1) := by decide +kernel
theorem dX12_shield_66 : decode cX12_shield 66 = .ok (.ishl, 1) := by decide +kernel
theorem dX12_shield_67 : decode cX12_shield 67 = .ok (.ior, 1) := by decide +kernel
theorem dX12_shield_68 : decode cX12_shield 68 = .ok (.putfield 16, 3) := by decide +kernel
theorem dX12_shield_71 : decode cX12_shield 71 = .ok (.aload_n 0, 1) := by decide +kernel
theorem dX12_shield_72 : decode cX12_shield 72 = .ok (.iload_n 3, 1) := by decide +kernel
theorem dX12_shield_73 : decode cX12_shield 73 = .ok (.invokevirtual 353, 3) := by decide +kernel
theorem dX12_shield_76 : decode cX12_shield 76 = .ok (.aload_n 0, 1) := by decide +kernel
theorem dX12_shield_77 : decode cX12_shield 77 = .ok (.iload 5, 2) := by decide +kernel
theorem dX12_shield_79 : decode cX12_shield 79 = .ok (.putfield 16, 3) := by decide +kernel
theorem dX12_shield_82 : decode cX12_shield 82 = .ok (.iload 4, 2) := by decide +kernel
theorem dX12_shield_84 : decode cX12_shield 84 = .ok (.aload_n 0, 1) := by decide +kernel
theorem dX12_shield_85 : decode cX12_shield 85 = .ok (.getfield 123, 3) := by decide +kernel
theorem dX12_shield_88 : decode cX12_shield 88 = .ok (.iload_n 1, 1) := by decide +kernel
theorem dX12_shield_89 : decode cX12_shield 89 = .ok (.iaload, 1) := by decide +kernel
theorem dX12_shield_90 : decode cX12_shield 90 = .ok (.isub, 1) := by decide +kernel
theorem dX12_shield_91 : decode cX12_shield 91 = .ok (.ireturn, 1) := by decide +kernel
theorem dX12_see_0 : decode cX12_see 0 = .ok (.iload_n 1, 1) := by decide +kernel
theorem dX12_see_1 : decode cX12_see 1 = .ok (.iconst (-1), 1) := by decide +kernel
theorem dX12_see_2 : decode cX12_see 2 = .ok (.if_icmp .ne 10, 3) := by decide +kernel
theorem dX12_see_5 : decode cX12_see 5 = .ok (.aload_n 0, 1) := by decide +kernel
theorem dX12_see_6 : decode cX12_see 6 = .ok (.iconst 0, 1) := by decide +kernel
theorem dX12_see_7 : decode cX12_see 7 = .ok (.putfield 138, 3) := by decide +kernel
theorem dX12_see_10 : decode cX12_see 10 = .ok (.iconst 0, 1) := by decide +kernel
theorem dX12_see_11 : decode cX12_see 11 = .ok (.ireturn, 1) := by decide +kernel
theorem dX12_see_12 : decode cX12_see 12 = .ok (.aload_n 0, 1) := by decide +kernel
theorem dX12_see_13 : decode cX12_see 13 = .ok (.iload_n 1, 1) := by decide +kernel
theorem dX12_see_14 : decode cX12_see 14 = .ok (.invokevirtual 240, 3) := by decide +kernel
theorem dX12_see_17 : decode cX12_see 17 = .ok (.ifCond .ne 5, 3) := by decide +kernel
theorem dX12_see_20 : decode cX12_see 20 = .ok (.iconst (-1), 1) := by decide +kernel
theorem dX12_see_21 : decode cX12_see 21 = .ok (.ireturn, 1) := by decide +kernel
theorem dX12_see_22 : decode cX12_see 22 = .ok (.aload_n 0, 1) := by decide +kernel
theorem dX12_see_23 : decode cX12_see 23 = .ok (.iload_n 2, 1) := by decide +kernel
theorem dX12_see_24 : decode cX12_see 24 = .ok (.iconst 0, 1) := by decide +kernel
theorem dX12_see_25 : decode cX12_see 25 = .ok (.bipush 20, 2) := by decide +kernel
theorem dX12_see_27 : decode cX12_see 27 = .ok (.invokevirtual 236, 3) := by decide +kernel
theorem dX12_see_30 : decode cX12_see 30 = .ok (.ifCond .eq 14, 3) := by decide +kernel
theorem dX12_see_33 : decode cX12_see 33 = .ok (.aload_n 0, 1) := by decide +kernel
theorem dX12_see_34 : decode cX12_see 34 = .ok (.iload_n 3, 1) := by decide +kernel
theorem dX12_see_35 : decode cX12_see 35 = .ok (.iconst 0, 1) := by decide +kernel
theorem dX12_see_36 : decode cX12_see 36 = .ok (.bipush 99, 2) := by decide +kernel
theorem dX12_see_38 : decode cX12_see 38 = .ok (.invokevirtual 236, 3) := by decide +kernel
theorem dX12_see_41 : decode cX12_see 41 = .ok (.ifCond .ne 6, 3) := by decide +kernel
theorem dX12_see_44 : decode cX12_see 44 = .ok (.bipush (-2), 2) := by decide +kernel
theorem dX12_see_46 : decode cX12_see 46 = .ok (.ireturn, 1) := by decide +kernel
theorem dX12_see_47 : decode cX12_see 47 = .ok (.aload_n 0, 1) := by decide +kernel
theorem dX12_see_48 : decode cX12_see 48 = .ok (.getfield 138, 3) := by decide +kernel
theorem dX12_see_51 : decode cX12_see 51 = .ok (.iconst 4, 1) := by decide +kernel
theorem dX12_see_52 : decode cX12_see 52 = .ok (.if_icmp .ne 6, 3) := by decide +kernel
theorem dX12_see_55 : decode cX12_see 55 = .ok (.bipush (-4), 2) := by decide +kernel
theorem dX12_see_57 : decode cX12_see 57 = .ok (.ireturn, 1) := by decide +kernel
theorem dX12_see_58 : decode cX12_see 58 = .ok (.aload_n 0, 1) := by decide +kernel
theorem dX12_see_59 : decode cX12_see 59 = .ok (.getfield 141, 3) := by decide +kernel
theorem dX12_see_62 : decode cX12_see 62 = .ok (.aload_n 0, 1) := by decide +kernel
theorem dX12_see_63 : decode cX12_see 63 = .ok (.getfield 138, 3) := by decide +kernel
theorem dX12_see_66 : decode cX12_see 66 = .ok (.iload_n 1, 1) := by decide +kernel
theorem dX12_see_67 : decode cX12_see 67 = .ok (.iastore, 1) := by decide +kernel
theorem dX12_see_68 : decode cX12_see 68 = .ok (.aload_n 0, 1) := by decide +kernel
theorem dX12_see_69 : decode cX12_see 69 = .ok (.getfield 144, 3) := by decide +kernel
theorem dX12_see_72 : decode cX12_see 72 = .ok (.aload_n 0, 1) := by decide +kernel
theorem dX12_see_73 : decode cX12_see 73 = .ok (.getfield 138, 3) := by decide +kernel
theorem dX12_see_76 : decode cX12_see 76 = .ok (.iload_n 2, 1) := by decide +kernel
theorem dX12_see_77 : decode cX12_see 77 = .ok (.iastore, 1) := by decide +kernel
theorem dX12_see_78 : decode cX12_see 78 = .ok (.aload_n 0, 1) := by decide +kernel
theorem dX12_see_79 : decode cX12_see 79 = .ok (.getfield 147, 3) := by decide +kernel
theorem dX12_see_82 : decode cX12_see 82 = .ok (.aload_n 0, 1) := by decide +kernel
theorem dX12_see_83 : decode cX12_see 83 = .ok (.getfield 138, 3) := by decide +kernel
theorem dX12_see_86 : decode cX12_see 86 = .ok (.iload_n 3, 1) := by decide +kernel
theorem dX12_see_87 : decode cX12_see 87 = .ok (.iastore, 1) := by decide +kernel
theorem dX12_see_88 : decode cX12_see 88 = .ok (.aload_n 0, 1) := by decide +kernel
theorem dX12_see_89 : decode cX12_see 89 = .ok (.dup, 1) := by decide +kernel
theorem dX12_see_90 : decode cX12_see 90 = .ok (.getfield 138, 3) := by decide +kernel
theorem dX12_see_93 : decode cX12_see 93 = .ok (.iconst 1, 1) := by decide +kernel
theorem dX12_see_94 : decode cX12_see 94 = .ok (.iadd, 1) := by decide +kernel
theorem dX12_see_95 : decode cX12_see 95 = .ok (.putfield 138, 3) := by decide +kernel
theorem dX12_see_98 : decode cX12_see 98 = .ok (.aload_n 0, 1) := by decide +kernel
theorem dX12_see_99 : decode cX12_see 99 = .ok (.getfield 138, 3) := by decide +kernel
theorem dX12_see_102 : decode cX12_see 102 = .ok (.ireturn, 1) := by decide +kernel
theorem dX12_isSeen_0 : decode cX12_isSeen 0 = .ok (.iconst 0, 1) := by decide +kernel
theorem dX12_isSeen_1 : decode cX12_isSeen 1 = .ok (.istore_n 1, 1) := by decide +kernel
theorem dX12_isSeen_2 : decode cX12_isSeen 2 = .ok (.iload_n 1, 1) := by decide +kernel
theorem dX12_isSeen_3 : decode cX12_isSeen 3 = .ok (.aload_n 0, 1) := by decide +kernel
theorem dX12_isSeen_4 : decode cX12_isSeen 4 = .ok (.getfield 138, 3) := by decide +kernel
theorem dX12_isSeen_7 : decode cX12_isSeen 7 = .ok (.if_icmp .ge 41, 3) := by decide +kernel
theorem dX12_isSeen_10 : decode cX12_isSeen 10 = .ok (.aload_n 0, 1) := by decide +kernel
theorem dX12_isSeen_11 : decode cX12_isSeen 11 = .ok (.aload_n 0, 1) := by decide +kernel
theorem dX12_isSeen_12 : decode cX12_isSeen 12 = .ok (.getfield 144, 3) := by decide +kernel
theorem dX12_isSeen_15 : decode cX12_isSeen 15 = .ok (.iload_n 1, 1) := by decide +kernel
theorem dX12_isSeen_16 : decode cX12_isSeen 16 = .ok (.iaload, 1) := by decide +kernel
theorem dX12_isSeen_17 : decode cX12_isSeen 17 = .ok (.invokevirtual 353, 3) := by decide +kernel
theorem dX12_isSeen_20 : decode cX12_isSeen 20 = .ok (.aload_n 0, 1) := by decide +kernel
theorem dX12_isSeen_21 : decode cX12_isSeen 21 = .ok (.getfield 123, 3) := by decide +kernel
theorem dX12_isSeen_24 : decode cX12_isSeen 24 = .ok (.aload_n 0, 1) := by decide +kernel
theorem dX12_isSeen_25 : decode cX12_isSeen 25 = .ok (.getfield 141, 3) := by decide +kernel
theorem dX12_isSeen_28 : decode cX12_isSeen 28 = .ok (.iload_n 1, 1) := by decide +kernel
theorem dX12_isSeen_29 : decode cX12_isSeen 29 = .ok (.iaload, 1) := by decide +kernel
theorem dX12_isSeen_30 : decode cX12_isSeen 30 = .ok (.iaload, 1) := by decide +kernel
theorem dX12_isSeen_31 : decode cX12_isSeen 31 = .ok (.aload_n 0, 1) := by decide +kernel
theorem dX12_isSeen_32 : decode cX12_isSeen 32 = .ok (.getfield 147, 3) := by decide +kernel
theorem dX12_isSeen_35 : decode cX12_isSeen 35 = .ok (.iload_n 1, 1) := by decide +kernel
theorem dX12_isSeen_36 : decode cX12_isSeen 36 = .ok (.iaload, 1) := by decide +kernel
theorem dX12_isSeen_37 : decode cX12_isSeen 37 = .ok (.if_icmp .eq 5, 3) := by decide +kernel
theorem dX12_isSeen_40 : decode cX12_isSeen 40 = .ok (.iconst 0, 1) := by decide +kernel
theorem dX12_isSeen_41 : decode cX12_isSeen 41 = .ok (.ireturn, 1) := by decide +kernel
theorem dX12_isSeen_42 : decode cX12_isSeen 42 = .ok (.iinc 1 1, 3) := by decide +kernel
theorem dX12_isSeen_45 : decode cX12_isSeen 45 = .ok (.goto (-43), 3) := by decide +kernel
theorem dX12_isSeen_48 : decode cX12_isSeen 48 = .ok (.iconst 1, 1) := by decide +kernel
theorem dX12_isSeen_49 : decode cX12_isSeen 49 = .ok (.ireturn, 1) := by decide +kernel
theorem dX12_since_0 : decode cX12_since 0 = .ok (.aload_n 0, 1) := by decide +kernel
theorem dX12_since_1 : decode cX12_since 1 = .ok (.getfield 13, 3) := by decide +kernel
theorem dX12_since_4 : decode cX12_since 4 = .ok (.istore_n 1, 1) := by decide +kernel
theorem dX12_since_5 : decode cX12_since 5 = .ok (.iconst 0, 1) := by decide +kernel
theorem dX12_since_6 : decode cX12_since 6 = .ok (.istore_n 2, 1) := by decide +kernel
theorem dX12_since_7 : decode cX12_since 7 = .ok (.iconst 0, 1) := by decide +kernel
theorem dX12_since_8 : decode cX12_since 8 = .ok (.istore_n 3, 1) := by decide +kernel
theorem dX12_since_9 : decode cX12_since 9 = .ok (.iload_n 3, 1) := by decide +kernel
theorem dX12_since_10 : decode cX12_since 10 = .ok (.iconst 4, 1) := by decide +kernel
theorem dX12_since_11 : decode cX12_since 11 = .ok (.if_icmp .ge 33, 3) := by decide +kernel
theorem dX12_since_14 : decode cX12_since 14 = .ok (.aload_n 0, 1) := by decide +kernel
theorem dX12_since_15 : decode cX12_since 15 = .ok (.iload_n 1, 1) := by decide +kernel
theorem dX12_since_16 : decode cX12_since 16 = .ok (.iload_n 3, 1) := by decide +kernel
theorem dX12_since_17 : decode cX12_since 17 = .ok (.iadd, 1) := by decide +kernel
theorem dX12_since_18 : decode cX12_since 18 = .ok (.putfield 13, 3) := by decide +kernel
theorem dX12_since_21 : decode cX12_since 21 = .ok (.iload_n 2, 1) := by decide +kernel
theorem dX12_since_22 : decode cX12_since 22 = .ok (.aload_n 0, 1) := by decide +kernel
theorem dX12_since_23 : decode cX12_since 23 = .ok (.invokevirtual 375, 3) := by decide +kernel
theorem dX12_since_26 : decode cX12_since 26 = .ok (.ifCond .eq 9, 3) := by decide +kernel
theorem dX12_since_29 : decode cX12_since 29 = .ok (.iconst 1, 1) := by decide +kernel
theorem dX12_since_30 : decode cX12_since 30 = .ok (.iload_n 3, 1) := by decide +kernel
theorem dX12_since_31 : decode cX12_since 31 = .ok (.ishl, 1) := by decide +kernel
theorem dX12_since_32 : decode cX12_since 32 = .ok (.goto 4, 3) := by decide +kernel
theorem dX12_since_35 : decode cX12_since 35 = .ok (.iconst 0, 1) := by decide +kernel
theorem dX12_since_36 : decode cX12_since 36 = .ok (.ior, 1) := by decide +kernel
theorem dX12_since_37 : decode cX12_since 37 = .ok (.istore_n 2, 1) := by decide +kernel
theorem dX12_since_38 : decode cX12_since 38 = .ok (.iinc 3 1, 3) := by decide +kernel
theorem dX12_since_41 : decode cX12_since 41 = .ok (.goto (-32), 3) := by decide +kernel
theorem dX12_since_44 : decode cX12_since 44 = .ok (.aload_n 0, 1) := by decide +kernel
theorem dX12_since_45 : decode cX12_since 45 = .ok (.iload_n 1, 1) := by decide +kernel
theorem dX12_since_46 : decode cX12_since 46 = .ok (.putfield 13, 3) := by decide +kernel
theorem dX12_since_49 : decode cX12_since 49 = .ok (.iload_n 2, 1) := by decide +kernel
theorem dX12_since_50 : decode cX12_since 50 = .ok (.ireturn, 1) := by decide +kernel
theorem dX12_who_0 : decode cX12_who 0 = .ok (.aload_n 0, 1) := by decide +kernel
theorem dX12_who_1 : decode cX12_who 1 = .ok (.iload_n 1, 1) := by decide +kernel
theorem dX12_who_2 : decode cX12_who 2 = .ok (.iconst 0, 1) := by decide +kernel
theorem dX12_who_3 : decode cX12_who 3 = .ok (.bipush 20, 2) := by decide +kernel
theorem dX12_who_5 : decode cX12_who 5 = .ok (.invokevirtual 236, 3) := by decide +kernel
theorem dX12_who_8 : decode cX12_who 8 = .ok (.ifCond .eq 14, 3) := by decide +kernel
theorem dX12_who_11 : decode cX12_who 11 = .ok (.aload_n 0, 1) := by decide +kernel
theorem dX12_who_12 : decode cX12_who 12 = .ok (.iload_n 2, 1) := by decide +kernel
theorem dX12_who_13 : decode cX12_who 13 = .ok (.iconst 0, 1) := by decide +kernel
theorem dX12_who_14 : decode cX12_who 14 = .ok (.bipush 99, 2) := by decide +kernel
theorem dX12_who_16 : decode cX12_who 16 = .ok (.invokevirtual 236, 3) := by decide +kernel
theorem dX12_who_19 : decode cX12_who 19 = .ok (.ifCond .ne 6, 3) := by decide +kernel
theorem dX12_who_22 : decode cX12_who 22 = .ok (.bipush (-2), 2) := by decide +kernel
theorem dX12_who_24 : decode cX12_who 24 = .ok (.ireturn, 1) := by decide +kernel
theorem dX12_who_25 : decode cX12_who 25 = .ok (.aload_n 0, 1) := by decide +kernel
theorem dX12_who_26 : decode cX12_who 26 = .ok (.iload_n 1, 1) := by decide +kernel
theorem dX12_who_27 : decode cX12_who 27 = .ok (.invokevirtual 353, 3) := by decide +kernel
theorem dX12_who_30 : decode cX12_who 30 = .ok (.iconst 0, 1) := by decide +kernel
theorem dX12_who_31 : decode cX12_who 31 = .ok (.istore_n 3, 1) := by decide +kernel
theorem dX12_who_32 : decode cX12_who 32 = .ok (.iconst 0, 1) := by decide +kernel
theorem dX12_who_33 : decode cX12_who 33 = .ok (.istore 4, 2) := by decide +kernel
theorem dX12_who_35 : decode cX12_who 35 = .ok (.iload 4, 2) := by decide +kernel
theorem dX12_who_37 : decode cX12_who 37 = .ok (.aload_n 0, 1) := by decide +kernel
theorem dX12_who_38 : decode cX12_who 38 = .ok (.getfield 7, 3) := by decide +kernel
theorem dX12_who_41 : decode cX12_who 41 = .ok (.if_icmp .ge 31, 3) := by decide +kernel
theorem dX12_who_44 : decode cX12_who 44 = .ok (.iload_n 3, 1) := by decide +kernel
theorem dX12_who_45 : decode cX12_who 45 = .ok (.aload_n 0, 1) := by decide +kernel
theorem dX12_who_46 : decode cX12_who 46 = .ok (.getfield 123, 3) := by decide +kernel
theorem dX12_who_49 : decode cX12_who 49 = .ok (.iload 4, 2) := by decide +kernel
theorem dX12_who_51 : decode cX12_who 51 = .ok (.iaload, 1) := by decide +kernel
theorem dX12_who_52 : decode cX12_who 52 = .ok (.iload_n 2, 1) := by decide +kernel
theorem dX12_who_53 : decode cX12_who 53 = .ok (.if_icmp .ne 10, 3) := by decide +kernel
theorem dX12_who_56 : decode cX12_who 56 = .ok (.iconst 1, 1) := by decide +kernel
theorem dX12_who_57 : decode cX12_who 57 = .ok (.iload 4, 2) := by decide +kernel
theorem dX12_who_59 : decode cX12_who 59 = .ok (.ishl, 1) := by decide +kernel
theorem dX12_who_60 : decode cX12_who 60 = .ok (.goto 4, 3) := by decide +kernel
theorem dX12_who_63 : decode cX12_who 63 = .ok (.iconst 0, 1) := by decide +kernel
theorem dX12_who_64 : decode cX12_who 64 = .ok (.ior, 1) := by decide +kernel
theorem dX12_who_65 : decode cX12_who 65 = .ok (.istore_n 3, 1) := by decide +kernel
theorem dX12_who_66 : decode cX12_who 66 = .ok (.iinc 4 1, 3) := by decide +kernel
theorem dX12_who_69 : decode cX12_who 69 = .ok (.goto (-34), 3) := by decide +kernel
theorem dX12_who_72 : decode cX12_who 72 = .ok (.iload_n 3, 1) := by decide +kernel
theorem dX12_who_73 : decode cX12_who 73 = .ok (.ireturn, 1) := by decide +kernel
theorem dX12_divisor_0 : decode cX12_divisor 0 = .ok (.iload_n 1, 1) := by decide +kernel
theorem dX12_divisor_1 : decode cX12_divisor 1 = .ok (.istore_n 3, 1) := by decide +kernel
theorem dX12_divisor_2 : decode cX12_divisor 2 = .ok (.iload_n 2, 1) := by decide +kernel
theorem dX12_divisor_3 : decode cX12_divisor 3 = .ok (.istore 4, 2) := by decide +kernel
theorem dX12_divisor_5 : decode cX12_divisor 5 = .ok (.iload 4, 2) := by decide +kernel
theorem dX12_divisor_7 : decode cX12_divisor 7 = .ok (.ifCond .eq 19, 3) := by decide +kernel
theorem dX12_divisor_10 : decode cX12_divisor 10 = .ok (.iload_n 3, 1) := by decide +kernel
theorem dX12_divisor_11 : decode cX12_divisor 11 = .ok (.iload 4, 2) := by decide +kernel
theorem dX12_divisor_13 : decode cX12_divisor 13 = .ok (.irem, 1) := by decide +kernel
theorem dX12_divisor_14 : decode cX12_divisor 14 = .ok (.istore 5, 2) := by decide +kernel
theorem dX12_divisor_16 : decode cX12_divisor 16 = .ok (.iload 4, 2) := by decide +kernel
theorem dX12_divisor_18 : decode cX12_divisor 18 = .ok (.istore_n 3, 1) := by decide +kernel
theorem dX12_divisor_19 : decode cX12_divisor 19 = .ok (.iload 5, 2) := by decide +kernel
theorem dX12_divisor_21 : decode cX12_divisor 21 = .ok (.istore 4, 2) := by decide +kernel
theorem dX12_divisor_23 : decode cX12_divisor 23 = .ok (.goto (-18), 3) := by decide +kernel
theorem dX12_divisor_26 : decode cX12_divisor 26 = .ok (.iload_n 3, 1) := by decide +kernel
theorem dX12_divisor_27 : decode cX12_divisor 27 = .ok (.ireturn, 1) := by decide +kernel
theorem dX12_lowest_0 : decode cX12_lowest 0 = .ok (.aload_n 0, 1) := by decide +kernel
theorem dX12_lowest_1 : decode cX12_lowest 1 = .ok (.iload_n 1, 1) := by decide +kernel
theorem dX12_lowest_2 : decode cX12_lowest 2 = .ok (.iload_n 2, 1) := by decide +kernel
theorem dX12_lowest_3 : decode cX12_lowest 3 = .ok (.invokevirtual 378, 3) := by decide +kernel
theorem dX12_lowest_6 : decode cX12_lowest 6 = .ok (.istore 4, 2) := by decide +kernel
theorem dX12_lowest_8 : decode cX12_lowest 8 = .ok (.iload_n 3, 1) := by decide +kernel
theorem dX12_lowest_9 : decode cX12_lowest 9 = .ok (.ifCond .ne 11, 3) := by decide +kernel
theorem dX12_lowest_12 : decode cX12_lowest 12 = .ok (.iload_n 1, 1) := by decide +kernel
theorem dX12_lowest_13 : decode cX12_lowest 13 = .ok (.iload 4, 2) := by decide +kernel
theorem dX12_lowest_15 : decode cX12_lowest 15 = .ok (.idiv, 1) := by decide +kernel
theorem dX12_lowest_16 : decode cX12_lowest 16 = .ok (.i2l, 1) := by decide +kernel
theorem dX12_lowest_17 : decode cX12_lowest 17 = .ok (.goto 8, 3) := by decide +kernel
theorem dX12_lowest_20 : decode cX12_lowest 20 = .ok (.iload_n 2, 1) := by decide +kernel
theorem dX12_lowest_21 : decode cX12_lowest 21 = .ok (.iload 4, 2) := by decide +kernel
theorem dX12_lowest_23 : decode cX12_lowest 23 = .ok (.idiv, 1) := by decide +kernel
theorem dX12_lowest_24 : decode cX12_lowest 24 = .ok (.i2l, 1) := by decide +kernel
theorem dX12_lowest_25 : decode cX12_lowest 25 = .ok (.lreturn, 1) := by decide +kernel
theorem dX12_odds_0 : decode cX12_odds 0 = .ok (.aload_n 0, 1) := by decide +kernel
theorem dX12_odds_1 : decode cX12_odds 1 = .ok (.iload_n 1, 1) := by decide +kernel
theorem dX12_odds_2 : decode cX12_odds 2 = .ok (.iconst 1, 1) := by decide +kernel
theorem dX12_odds_3 : decode cX12_odds 3 = .ok (.bipush 20, 2) := by decide +kernel
theorem dX12_odds_5 : decode cX12_odds 5 = .ok (.invokevirtual 236, 3) := by decide +kernel
theorem dX12_odds_8 : decode cX12_odds 8 = .ok (.ifCond .eq 13, 3) := by decide +kernel
theorem dX12_odds_11 : decode cX12_odds 11 = .ok (.aload_n 0, 1) := by decide +kernel
theorem dX12_odds_12 : decode cX12_odds 12 = .ok (.iload_n 2, 1) := by decide +kernel
theorem dX12_odds_13 : decode cX12_odds 13 = .ok (.iconst 0, 1) := by decide +kernel
theorem dX12_odds_14 : decode cX12_odds 14 = .ok (.iconst 1, 1) := by decide +kernel
theorem dX12_odds_15 : decode cX12_odds 15 = .ok (.invokevirtual 236, 3) := by decide +kernel
theorem dX12_odds_18 : decode cX12_odds 18 = .ok (.ifCond .ne 7, 3) := by decide +kernel
theorem dX12_odds_21 : decode cX12_odds 21 = .ok (.ldc2_w 381, 3) := by decide +kernel
theorem dX12_odds_24 : decode cX12_odds 24 = .ok (.lreturn, 1) := by decide +kernel
theorem dX12_odds_25 : decode cX12_odds 25 = .ok (.aload_n 0, 1) := by decide +kernel
theorem dX12_odds_26 : decode cX12_odds 26 = .ok (.getfield 13, 3) := by decide +kernel
theorem dX12_odds_29 : decode cX12_odds 29 = .ok (.istore_n 3, 1) := by decide +kernel
theorem dX12_odds_30 : decode cX12_odds 30 = .ok (.iconst 0, 1) := by decide +kernel
theorem dX12_odds_31 : decode cX12_odds 31 = .ok (.istore 4, 2) := by decide +kernel
theorem dX12_odds_33 : decode cX12_odds 33 = .ok (.iconst 0, 1) := by decide +kernel
theorem dX12_odds_34 : decode cX12_odds 34 = .ok (.istore 5, 2) := by decide +kernel
theorem dX12_odds_36 : decode cX12_odds 36 = .ok (.iload 5, 2) := by decide +kernel
theorem dX12_odds_38 : decode cX12_odds 38 = .ok (.iconst 4, 1) := by decide +kernel
theorem dX12_odds_39 : decode cX12_odds 39 = .ok (.if_icmp .ge 39, 3) := by decide +kernel
theorem dX12_odds_42 : decode cX12_odds 42 = .ok (.aload_n 0, 1) := by decide +kernel
theorem dX12_odds_43 : decode cX12_odds 43 = .ok (.iload_n 3, 1) := by decide +kernel
theorem dX12_odds_44 : decode cX12_odds 44 = .ok (.iload 5, 2) := by decide +kernel
theorem dX12_odds_46 : decode cX12_odds 46 = .ok (.iadd, 1) := by decide +kernel
theorem dX12_odds_47 : decode cX12_odds 47 = .ok (.putfield 13, 3) := by decide +kernel
theorem dX12_odds_50 : decode cX12_odds 50 = .ok (.aload_n 0, 1) := by decide +kernel
theorem dX12_odds_51 : decode cX12_odds 51 = .ok (.iload_n 1, 1) := by decide +kernel
theorem dX12_odds_52 : decode cX12_odds 52 = .ok (.invokevirtual 353, 3) := by decide +kernel
theorem dX12_odds_55 : decode cX12_odds 55 = .ok (.iload 4, 2) := by decide +kernel
theorem dX12_odds_57 : decode cX12_odds 57 = .ok (.aload_n 0, 1) := by decide +kernel
theorem dX12_odds_58 : decode cX12_odds 58 = .ok (.getfield 129, 3) := by decide +kernel
theorem dX12_odds_61 : decode cX12_odds 61 = .ok (.ifCond .ne 7, 3) := by decide +kernel
theorem dX12_odds_64 : decode cX12_odds 64 = .ok (.iconst 1, 1) := by decide +kernel
theorem dX12_odds_65 : decode cX12_odds 65 = .ok (.goto 4, 3) := by decide +kernel
theorem dX12_odds_68 : decode cX12_odds 68 = .ok (.iconst 0, 1) := by decide +kernel
theorem dX12_odds_69 : decode cX12_odds 69 = .ok (.iadd, 1) := by decide +kernel
theorem dX12_odds_70 : decode cX12_odds 70 = .ok (.istore 4, 2) := by decide +kernel
theorem dX12_odds_72 : decode cX12_odds 72 = .ok (.iinc 5 1, 3) := by decide +kernel
theorem dX12_odds_75 : decode cX12_odds 75 = .ok (.goto (-39), 3) := by decide +kernel
theorem dX12_odds_78 : decode cX12_odds 78 = .ok (.aload_n 0, 1) := by decide +kernel
theorem dX12_odds_79 : decode cX12_odds 79 = .ok (.iload_n 3, 1) := by decide +kernel
theorem dX12_odds_80 : decode cX12_odds 80 = .ok (.putfield 13, 3) := by decide +kernel
theorem dX12_odds_83 : decode cX12_odds 83 = .ok (.aload_n 0, 1) := by decide +kernel
theorem dX12_odds_84 : decode cX12_odds 84 = .ok (.iload 4, 2) := by decide +kernel
theorem dX12_odds_86 : decode cX12_odds 86 = .ok (.iconst 4, 1) := by decide +kernel
theorem dX12_odds_87 : decode cX12_odds 87 = .ok (.iload_n 2, 1) := by decide +kernel
theorem dX12_odds_88 : decode cX12_odds 88 = .ok (.invokevirtual 383, 3) := by decide +kernel
theorem dX12_odds_91 : decode cX12_odds 91 = .ok (.lreturn, 1) := by decide +kernel
theorem dX12_mean_0 : decode cX12_mean 0 = .ok (.aload_n 0, 1) := by decide +kernel
theorem dX12_mean_1 : decode cX12_mean 1 = .ok (.iload_n 1, 1) := by decide +kernel
theorem dX12_mean_2 : decode cX12_mean 2 = .ok (.iconst 0, 1) := by decide +kernel
theorem dX12_mean_3 : decode cX12_mean 3 = .ok (.bipush 40, 2) := by decide +kernel
theorem dX12_mean_5 : decode cX12_mean 5 = .ok (.invokevirtual 236, 3) := by decide +kernel
theorem dX12_mean_8 : decode cX12_mean 8 = .ok (.ifCond .eq 20, 3) := by decide +kernel
theorem dX12_mean_11 : decode cX12_mean 11 = .ok (.aload_n 0, 1) := by decide +kernel
theorem dX12_mean_12 : decode cX12_mean 12 = .ok (.iload_n 2, 1) := by decide +kernel
theorem dX12_mean_13 : decode cX12_mean 13 = .ok (.iconst 0, 1) := by decide +kernel
theorem dX12_mean_14 : decode cX12_mean 14 = .ok (.iconst 1, 1) := by decide +kernel
theorem dX12_mean_15 : decode cX12_mean 15 = .ok (.invokevirtual 236, 3) := by decide +kernel
theorem dX12_mean_18 : decode cX12_mean 18 = .ok (.ifCond .eq 10, 3) := by decide +kernel
theorem dX12_mean_21 : decode cX12_mean 21 = .ok (.aload_n 0, 1) := by decide +kernel
theorem dX12_mean_22 : decode cX12_mean 22 = .ok (.getfield 7, 3) := by decide +kernel
theorem dX12_mean_25 : decode cX12_mean 25 = .ok (.ifCond .ne 7, 3) := by decide +kernel
theorem dX12_mean_28 : decode cX12_mean 28 = .ok (.ldc2_w 381, 3) := by decide +kernel
theorem dX12_mean_31 : decode cX12_mean 31 = .ok (.lreturn, 1) := by decide +kernel
theorem dX12_mean_32 : decode cX12_mean 32 = .ok (.aload_n 0, 1) := by decide +kernel
theorem dX12_mean_33 : decode cX12_mean 33 = .ok (.iload_n 1, 1) := by decide +kernel
theorem dX12_mean_34 : decode cX12_mean 34 = .ok (.invokevirtual 353, 3) := by decide +kernel
theorem dX12_mean_37 : decode cX12_mean 37 = .ok (.iconst 0, 1) := by decide +kernel
theorem dX12_mean_38 : decode cX12_mean 38 = .ok (.istore_n 3, 1) := by decide +kernel
theorem dX12_mean_39 : decode cX12_mean 39 = .ok (.iconst 0, 1) := by decide +kernel
theorem dX12_mean_40 : decode cX12_mean 40 = .ok (.istore 4, 2) := by decide +kernel
theorem dX12_mean_42 : decode cX12_mean 42 = .ok (.iload 4, 2) := by decide +kernel
theorem dX12_mean_44 : decode cX12_mean 44 = .ok (.aload_n 0, 1) := by decide +kernel
theorem dX12_mean_45 : decode cX12_mean 45 = .ok (.getfield 7, 3) := by decide +kernel
theorem dX12_mean_48 : decode cX12_mean 48 = .ok (.if_icmp .ge 19, 3) := by decide +kernel
theorem dX12_mean_51 : decode cX12_mean 51 = .ok (.iload_n 3, 1) := by decide +kernel
theorem dX12_mean_52 : decode cX12_mean 52 = .ok (.aload_n 0, 1) := by decide +kernel
theorem dX12_mean_53 : decode cX12_mean 53 = .ok (.getfield 123, 3) := by decide +kernel
theorem dX12_mean_56 : decode cX12_mean 56 = .ok (.iload 4, 2) := by decide +kernel
theorem dX12_mean_58 : decode cX12_mean 58 = .ok (.iaload, 1) := by decide +kernel
theorem dX12_mean_59 : decode cX12_mean 59 = .ok (.iadd, 1) := by decide +kernel
theorem dX12_mean_60 : decode cX12_mean 60 = .ok (.istore_n 3, 1) := by decide +kernel
theorem dX12_mean_61 : decode cX12_mean 61 = .ok (.iinc 4 1, 3) := by decide +kernel
theorem dX12_mean_64 : decode cX12_mean 64 = .ok (.goto (-22), 3) := by decide +kernel
theorem dX12_mean_67 : decode cX12_mean 67 = .ok (.aload_n 0, 1) := by decide +kernel
theorem dX12_mean_68 : decode cX12_mean 68 = .ok (.iload_n 3, 1) := by decide +kernel
theorem dX12_mean_69 : decode cX12_mean 69 = .ok (.aload_n 0, 1) := by decide +kernel
theorem dX12_mean_70 : decode cX12_mean 70 = .ok (.getfield 7, 3) := by decide +kernel
theorem dX12_mean_73 : decode cX12_mean 73 = .ok (.iload_n 2, 1) := by decide +kernel
theorem dX12_mean_74 : decode cX12_mean 74 = .ok (.invokevirtual 383, 3) := by decide +kernel
theorem dX12_mean_77 : decode cX12_mean 77 = .ok (.lreturn, 1) := by decide +kernel
theorem dX12_book_0 : decode cX12_book 0 = .ok (.iload_n 1, 1) := by decide +kernel
theorem dX12_book_1 : decode cX12_book 1 = .ok (.iconst (-1), 1) := by decide +kernel
theorem dX12_book_2 : decode cX12_book 2 = .ok (.if_icmp .ne 10, 3) := by decide +kernel
theorem dX12_book_5 : decode cX12_book 5 = .ok (.aload_n 0, 1) := by decide +kernel
theorem dX12_book_6 : decode cX12_book 6 = .ok (.iconst 0, 1) := by decide +kernel
theorem dX12_book_7 : decode cX12_book 7 = .ok (.putfield 150, 3) := by decide +kernel
theorem dX12_book_10 : decode cX12_book 10 = .ok (.iconst 0, 1) := by decide +kernel
theorem dX12_book_11 : decode cX12_book 11 = .ok (.ireturn, 1) := by decide +kernel
theorem dX12_book_12 : decode cX12_book 12 = .ok (.aload_n 0, 1) := by decide +kernel
theorem dX12_book_13 : decode cX12_book 13 = .ok (.iload_n 1, 1) := by decide +kernel
theorem dX12_book_14 : decode cX12_book 14 = .ok (.invokevirtual 240, 3) := by decide +kernel
theorem dX12_book_17 : decode cX12_book 17 = .ok (.ifCond .ne 5, 3) := by decide +kernel
theorem dX12_book_20 : decode cX12_book 20 = .ok (.iconst (-1), 1) := by decide +kernel
theorem dX12_book_21 : decode cX12_book 21 = .ok (.ireturn, 1) := by decide +kernel
theorem dX12_book_22 : decode cX12_book 22 = .ok (.aload_n 0, 1) := by decide +kernel
theorem dX12_book_23 : decode cX12_book 23 = .ok (.iload_n 2, 1) := by decide +kernel
theorem dX12_book_24 : decode cX12_book 24 = .ok (.iconst 0, 1) := by decide +kernel
theorem dX12_book_25 : decode cX12_book 25 = .ok (.bipush 99, 2) := by decide +kernel
theorem dX12_book_27 : decode cX12_book 27 = .ok (.invokevirtual 236, 3) := by decide +kernel
theorem dX12_book_30 : decode cX12_book 30 = .ok (.ifCond .ne 6, 3) := by decide +kernel
theorem dX12_book_33 : decode cX12_book 33 = .ok (.bipush (-2), 2) := by decide +kernel
theorem dX12_book_35 : decode cX12_book 35 = .ok (.ireturn, 1) := by decide +kernel
theorem dX12_book_36 : decode cX12_book 36 = .ok (.aload_n 0, 1) := by decide +kernel
theorem dX12_book_37 : decode cX12_book 37 = .ok (.getfield 150, 3) := by decide +kernel
theorem dX12_book_40 : decode cX12_book 40 = .ok (.bipush 8, 2) := by decide +kernel
theorem dX12_book_42 : decode cX12_book 42 = .ok (.if_icmp .ne 6, 3) := by decide +kernel
theorem dX12_book_45 : decode cX12_book 45 = .ok (.bipush (-4), 2) := by decide +kernel
theorem dX12_book_47 : decode cX12_book 47 = .ok (.ireturn, 1) := by decide +kernel
theorem dX12_book_48 : decode cX12_book 48 = .ok (.aload_n 0, 1) := by decide +kernel
theorem dX12_book_49 : decode cX12_book 49 = .ok (.getfield 153, 3) := by decide +kernel
theorem dX12_book_52 : decode cX12_book 52 = .ok (.aload_n 0, 1) := by decide +kernel
theorem dX12_book_53 : decode cX12_book 53 = .ok (.getfield 150, 3) := by decide +kernel
theorem dX12_book_56 : decode cX12_book 56 = .ok (.iload_n 1, 1) := by decide +kernel
theorem dX12_book_57 : decode cX12_book 57 = .ok (.iastore, 1) := by decide +kernel
theorem dX12_book_58 : decode cX12_book 58 = .ok (.aload_n 0, 1) := by decide +kernel
theorem dX12_book_59 : decode cX12_book 59 = .ok (.getfield 156, 3) := by decide +kernel
theorem dX12_book_62 : decode cX12_book 62 = .ok (.aload_n 0, 1) := by decide +kernel
theorem dX12_book_63 : decode cX12_book 63 = .ok (.getfield 150, 3) := by decide +kernel
theorem dX12_book_66 : decode cX12_book 66 = .ok (.iload_n 2, 1) := by decide +kernel
theorem dX12_book_67 : decode cX12_book 67 = .ok (.iastore, 1) := by decide +kernel
theorem dX12_book_68 : decode cX12_book 68 = .ok (.aload_n 0, 1) := by decide +kernel
theorem dX12_book_69 : decode cX12_book 69 = .ok (.dup, 1) := by decide +kernel
theorem dX12_book_70 : decode cX12_book 70 = .ok (.getfield 150, 3) := by decide +kernel
theorem dX12_book_73 : decode cX12_book 73 = .ok (.iconst 1, 1) := by decide +kernel
theorem dX12_book_74 : decode cX12_book 74 = .ok (.iadd, 1) := by decide +kernel
theorem dX12_book_75 : decode cX12_book 75 = .ok (.putfield 150, 3) := by decide +kernel
theorem dX12_book_78 : decode cX12_book 78 = .ok (.aload_n 0, 1) := by decide +kernel
theorem dX12_book_79 : decode cX12_book 79 = .ok (.getfield 150, 3) := by decide +kernel
theorem dX12_book_82 : decode cX12_book 82 = .ok (.ireturn, 1) := by decide +kernel
theorem dX12_looked_0 : decode cX12_looked 0 = .ok (.iconst 0, 1) := by decide +kernel
theorem dX12_looked_1 : decode cX12_looked 1 = .ok (.istore_n 1, 1) := by decide +kernel
theorem dX12_looked_2 : decode cX12_looked 2 = .ok (.iload_n 1, 1) := by decide +kernel
theorem dX12_looked_3 : decode cX12_looked 3 = .ok (.aload_n 0, 1) := by decide +kernel
theorem dX12_looked_4 : decode cX12_looked 4 = .ok (.getfield 150, 3) := by decide +kernel
theorem dX12_looked_7 : decode cX12_looked 7 = .ok (.if_icmp .ge 31, 3) := by decide +kernel
theorem dX12_looked_10 : decode cX12_looked 10 = .ok (.aload_n 0, 1) := by decide +kernel
theorem dX12_looked_11 : decode cX12_looked 11 = .ok (.getfield 26, 3) := by decide +kernel
theorem dX12_looked_14 : decode cX12_looked 14 = .ok (.aload_n 0, 1) := by decide +kernel
theorem dX12_looked_15 : decode cX12_looked 15 = .ok (.getfield 153, 3) := by decide +kernel
theorem dX12_looked_18 : decode cX12_looked 18 = .ok (.iload_n 1, 1) := by decide +kernel
theorem dX12_looked_19 : decode cX12_looked 19 = .ok (.iaload, 1) := by decide +kernel
theorem dX12_looked_20 : decode cX12_looked 20 = .ok (.iaload, 1) := by decide +kernel
theorem dX12_looked_21 : decode cX12_looked 21 = .ok (.aload_n 0, 1) := by decide +kernel
theorem dX12_looked_22 : decode cX12_looked 22 = .ok (.getfield 156, 3) := by decide +kernel
theorem dX12_looked_25 : decode cX12_looked 25 = .ok (.iload_n 1, 1) := by decide +kernel
theorem dX12_looked_26 : decode cX12_looked 26 = .ok (.iaload, 1) := by decide +kernel
theorem dX12_looked_27 : decode cX12_looked 27 = .ok (.if_icmp .eq 5, 3) := by decide +kernel
theorem dX12_looked_30 : decode cX12_looked 30 = .ok (.iload_n 1, 1) := by decide +kernel
theorem dX12_looked_31 : decode cX12_looked 31 = .ok (.ireturn, 1) := by decide +kernel
theorem dX12_looked_32 : decode cX12_looked 32 = .ok (.iinc 1 1, 3) := by decide +kernel
theorem dX12_looked_35 : decode cX12_looked 35 = .ok (.goto (-33), 3) := by decide +kernel
theorem dX12_looked_38 : decode cX12_looked 38 = .ok (.bipush (-5), 2) := by decide +kernel
theorem dX12_looked_40 : decode cX12_looked 40 = .ok (.ireturn, 1) := by decide +kernel
theorem dX12_judge_0 : decode cX12_judge 0 = .ok (.aload_n 0, 1) := by decide +kernel
theorem dX12_judge_1 : decode cX12_judge 1 = .ok (.iload_n 1, 1) := by decide +kernel
theorem dX12_judge_2 : decode cX12_judge 2 = .ok (.invokevirtual 387, 3) := by decide +kernel
theorem dX12_judge_5 : decode cX12_judge 5 = .ok (.ifCond .ne 5, 3) := by decide +kernel
theorem dX12_judge_8 : decode cX12_judge 8 = .ok (.iconst (-1), 1) := by decide +kernel
theorem dX12_judge_9 : decode cX12_judge 9 = .ok (.ireturn, 1) := by decide +kernel
theorem dX12_judge_10 : decode cX12_judge 10 = .ok (.aload_n 0, 1) := by decide +kernel
theorem dX12_judge_11 : decode cX12_judge 11 = .ok (.getfield 223, 3) := by decide +kernel
theorem dX12_judge_14 : decode cX12_judge 14 = .ok (.iload_n 1, 1) := by decide +kernel
theorem dX12_judge_15 : decode cX12_judge 15 = .ok (.iaload, 1) := by decide +kernel
theorem dX12_judge_16 : decode cX12_judge 16 = .ok (.ifCond .lt 16, 3) := by decide +kernel
theorem dX12_judge_19 : decode cX12_judge 19 = .ok (.aload_n 0, 1) := by decide +kernel
theorem dX12_judge_20 : decode cX12_judge 20 = .ok (.getfield 223, 3) := by decide +kernel
theorem dX12_judge_23 : decode cX12_judge 23 = .ok (.iload_n 1, 1) := by decide +kernel
theorem dX12_judge_24 : decode cX12_judge 24 = .ok (.iaload, 1) := by decide +kernel
theorem dX12_judge_25 : decode cX12_judge 25 = .ok (.iconst 1, 1) := by decide +kernel
theorem dX12_judge_26 : decode cX12_judge 26 = .ok (.if_icmp .eq 6, 3) := by decide +kernel
theorem dX12_judge_29 : decode cX12_judge 29 = .ok (.bipush (-12), 2) := by decide +kernel
theorem dX12_judge_31 : decode cX12_judge 31 = .ok (.ireturn, 1) := by decide +kernel
theorem dX12_judge_32 : decode cX12_judge 32 = .ok (.iconst 0, 1) := by decide +kernel
theorem dX12_judge_33 : decode cX12_judge 33 = .ok (.istore_n 3, 1) := by decide +kernel
theorem dX12_judge_34 : decode cX12_judge 34 = .ok (.iload_n 3, 1) := by decide +kernel
theorem dX12_judge_35 : decode cX12_judge 35 = .ok (.aload_n 0, 1) := by decide +kernel
theorem dX12_judge_36 : decode cX12_judge 36 = .ok (.getfield 7, 3) := by decide +kernel
theorem dX12_judge_39 : decode cX12_judge 39 = .ok (.if_icmp .ge 67, 3) := by decide +kernel
theorem dX12_judge_42 : decode cX12_judge 42 = .ok (.aload_n 0, 1) := by decide +kernel
theorem dX12_judge_43 : decode cX12_judge 43 = .ok (.getfield 223, 3) := by decide +kernel
theorem dX12_judge_46 : decode cX12_judge 46 = .ok (.iload_n 1, 1) := by decide +kernel
theorem dX12_judge_47 : decode cX12_judge 47 = .ok (.iaload, 1) := by decide +kernel
theorem dX12_judge_48 : decode cX12_judge 48 = .ok (.ifCond .lt 21, 3) := by decide +kernel
theorem dX12_judge_51 : decode cX12_judge 51 = .ok (.iload_n 2, 1) := by decide +kernel
theorem dX12_judge_52 : decode cX12_judge 52 = .ok (.ifCond .lt 17, 3) := by decide +kernel
theorem dX12_judge_55 : decode cX12_judge 55 = .ok (.iload_n 2, 1) := by decide +kernel
theorem dX12_judge_56 : decode cX12_judge 56 = .ok (.aload_n 0, 1) := by decide +kernel
theorem dX12_judge_57 : decode cX12_judge 57 = .ok (.getfield 226, 3) := by decide +kernel
theorem dX12_judge_60 : decode cX12_judge 60 = .ok (.iload_n 1, 1) := by decide +kernel
theorem dX12_judge_61 : decode cX12_judge 61 = .ok (.iaload, 1) := by decide +kernel
theorem dX12_judge_62 : decode cX12_judge 62 = .ok (.iload_n 3, 1) := by decide +kernel
theorem dX12_judge_63 : decode cX12_judge 63 = .ok (.isub, 1) := by decide +kernel
theorem dX12_judge_64 : decode cX12_judge 64 = .ok (.iconst 1, 1) := by decide +kernel
theorem dX12_judge_65 : decode cX12_judge 65 = .ok (.isub, 1) := by decide +kernel
theorem dX12_judge_66 : decode cX12_judge 66 = .ok (.if_icmp .le 8, 3) := by decide +kernel
theorem dX12_judge_69 : decode cX12_judge 69 = .ok (.bipush 100, 2) := by decide +kernel
theorem dX12_judge_71 : decode cX12_judge 71 = .ok (.iload_n 3, 1) := by decide +kernel
theorem dX12_judge_72 : decode cX12_judge 72 = .ok (.iadd, 1) := by decide +kernel
theorem dX12_judge_73 : decode cX12_judge 73 = .ok (.ireturn, 1) := by decide +kernel
theorem dX12_judge_74 : decode cX12_judge 74 = .ok (.aload_n 0, 1) := by decide +kernel
theorem dX12_judge_75 : decode cX12_judge 75 = .ok (.getfield 229, 3) := by decide +kernel
theorem dX12_judge_78 : decode cX12_judge 78 = .ok (.bipush 60, 2) := by decide +kernel
theorem dX12_judge_80 : decode cX12_judge 80 = .ok (.iload_n 1, 1) := by decide +kernel
theorem dX12_judge_81 : decode cX12_judge 81 = .ok (.imul, 1) := by decide +kernel
theorem dX12_judge_82 : decode cX12_judge 82 = .ok (.iload_n 2, 1) := by decide +kernel
theorem dX12_judge_83 : decode cX12_judge 83 = .ok (.iadd, 1) := by decide +kernel
theorem dX12_judge_84 : decode cX12_judge 84 = .ok (.iload_n 3, 1) := by decide +kernel
theorem dX12_judge_85 : decode cX12_judge 85 = .ok (.iadd, 1) := by decide +kernel
theorem dX12_judge_86 : decode cX12_judge 86 = .ok (.laload, 1) := by decide +kernel
theorem dX12_judge_87 : decode cX12_judge 87 = .ok (.aload_n 0, 1) := by decide +kernel
theorem dX12_judge_88 : decode cX12_judge 88 = .ok (.getfield 26, 3) := by decide +kernel
theorem dX12_judge_91 : decode cX12_judge 91 = .ok (.iload_n 3, 1) := by decide +kernel
theorem dX12_judge_92 : decode cX12_judge 92 = .ok (.iaload, 1) := by decide +kernel
theorem dX12_judge_93 : decode cX12_judge 93 = .ok (.i2l, 1) := by decide +kernel
theorem dX12_judge_94 : decode cX12_judge 94 = .ok (.lcmp, 1) := by decide +kernel
theorem dX12_judge_95 : decode cX12_judge 95 = .ok (.ifCond .eq 5, 3) := by decide +kernel
theorem dX12_judge_98 : decode cX12_judge 98 = .ok (.iload_n 3, 1) := by decide +kernel
theorem dX12_judge_99 : decode cX12_judge 99 = .ok (.ireturn, 1) := by decide +kernel
theorem dX12_judge_100 : decode cX12_judge 100 = .ok (.iinc 3 1, 3) := by decide +kernel
theorem dX12_judge_103 : decode cX12_judge 103 = .ok (.goto (-69), 3) := by decide +kernel
theorem dX12_judge_106 : decode cX12_judge 106 = .ok (.bipush (-5), 2) := by decide +kernel
theorem dX12_judge_108 : decode cX12_judge 108 = .ok (.ireturn, 1) := by decide +kernel
theorem dX12_image_0 : decode cX12_image 0 = .ok (.aload_n 0, 1) := by decide +kernel
theorem dX12_image_1 : decode cX12_image 1 = .ok (.iconst 1, 1) := by decide +kernel
theorem dX12_image_2 : decode cX12_image 2 = .ok (.putfield 159, 3) := by decide +kernel
theorem dX12_image_5 : decode cX12_image 5 = .ok (.aload_n 0, 1) := by decide +kernel
theorem dX12_image_6 : decode cX12_image 6 = .ok (.aload_n 0, 1) := by decide +kernel
theorem dX12_image_7 : decode cX12_image 7 = .ok (.getfield 44, 3) := by decide +kernel
theorem dX12_image_10 : decode cX12_image 10 = .ok (.putfield 163, 3) := by decide +kernel
theorem dX12_image_13 : decode cX12_image 13 = .ok (.aload_n 0, 1) := by decide +kernel
theorem dX12_image_14 : decode cX12_image 14 = .ok (.aload_n 0, 1) := by decide +kernel
theorem dX12_image_15 : decode cX12_image 15 = .ok (.getfield 7, 3) := by decide +kernel
theorem dX12_image_18 : decode cX12_image 18 = .ok (.putfield 166, 3) := by decide +kernel
theorem dX12_image_21 : decode cX12_image 21 = .ok (.aload_n 0, 1) := by decide +kernel
theorem dX12_image_22 : decode cX12_image 22 = .ok (.aload_n 0, 1) := by decide +kernel
theorem dX12_image_23 : decode cX12_image 23 = .ok (.getfield 13, 3) := by decide +kernel
theorem dX12_image_26 : decode cX12_image 26 = .ok (.putfield 169, 3) := by decide +kernel
theorem dX12_image_29 : decode cX12_image 29 = .ok (.aload_n 0, 1) := by decide +kernel
theorem dX12_image_30 : decode cX12_image 30 = .ok (.aload_n 0, 1) := by decide +kernel
theorem dX12_image_31 : decode cX12_image 31 = .ok (.getfield 16, 3) := by decide +kernel
theorem dX12_image_34 : decode cX12_image 34 = .ok (.putfield 172, 3) := by decide +kernel
theorem dX12_image_37 : decode cX12_image 37 = .ok (.aload_n 0, 1) := by decide +kernel
theorem dX12_image_38 : decode cX12_image 38 = .ok (.aload_n 0, 1) := by decide +kernel
theorem dX12_image_39 : decode cX12_image 39 = .ok (.getfield 138, 3) := by decide +kernel
theorem dX12_image_42 : decode cX12_image 42 = .ok (.putfield 175, 3) := by decide +kernel
theorem dX12_image_45 : decode cX12_image 45 = .ok (.aload_n 0, 1) := by decide +kernel
theorem dX12_image_46 : decode cX12_image 46 = .ok (.aload_n 0, 1) := by decide +kernel
theorem dX12_image_47 : decode cX12_image 47 = .ok (.getfield 150, 3) := by decide +kernel
theorem dX12_image_50 : decode cX12_image 50 = .ok (.putfield 178, 3) := by decide +kernel
theorem dX12_image_53 : decode cX12_image 53 = .ok (.iconst 0, 1) := by decide +kernel
theorem dX12_image_54 : decode cX12_image 54 = .ok (.istore_n 1, 1) := by decide +kernel
theorem dX12_image_55 : decode cX12_image 55 = .ok (.iload_n 1, 1) := by decide +kernel
theorem dX12_image_56 : decode cX12_image 56 = .ok (.bipush 7, 2) := by decide +kernel
theorem dX12_image_58 : decode cX12_image 58 = .ok (.if_icmp .ge 69, 3) := by decide +kernel
theorem dX12_image_61 : decode cX12_image 61 = .ok (.aload_n 0, 1) := by decide +kernel
theorem dX12_image_62 : decode cX12_image 62 = .ok (.getfield 181, 3) := by decide +kernel
theorem dX12_image_65 : decode cX12_image 65 = .ok (.iload_n 1, 1) := by decide +kernel
theorem dX12_image_66 : decode cX12_image 66 = .ok (.aload_n 0, 1) := by decide +kernel
theorem dX12_image_67 : decode cX12_image 67 = .ok (.getfield 19, 3) := by decide +kernel
theorem dX12_image_70 : decode cX12_image 70 = .ok (.iload_n 1, 1) := by decide +kernel
theorem dX12_image_71 : decode cX12_image 71 = .ok (.iaload, 1) := by decide +kernel
theorem dX12_image_72 : decode cX12_image 72 = .ok (.iastore, 1) := by decide +kernel
theorem dX12_image_73 : decode cX12_image 73 = .ok (.aload_n 0, 1) := by decide +kernel
theorem dX12_image_74 : decode cX12_image 74 = .ok (.getfield 184, 3) := by decide +kernel
theorem dX12_image_77 : decode cX12_image 77 = .ok (.iload_n 1, 1) := by decide +kernel
theorem dX12_image_78 : decode cX12_image 78 = .ok (.aload_n 0, 1) := by decide +kernel
theorem dX12_image_79 : decode cX12_image 79 = .ok (.getfield 23, 3) := by decide +kernel
theorem dX12_image_82 : decode cX12_image 82 = .ok (.iload_n 1, 1) := by decide +kernel
theorem dX12_image_83 : decode cX12_image 83 = .ok (.iaload, 1) := by decide +kernel
theorem dX12_image_84 : decode cX12_image 84 = .ok (.iastore, 1) := by decide +kernel
theorem dX12_image_85 : decode cX12_image 85 = .ok (.aload_n 0, 1) := by decide +kernel
theorem dX12_image_86 : decode cX12_image 86 = .ok (.getfield 187, 3) := by decide +kernel
theorem dX12_image_89 : decode cX12_image 89 = .ok (.iload_n 1, 1) := by decide +kernel
theorem dX12_image_90 : decode cX12_image 90 = .ok (.aload_n 0, 1) := by decide +kernel
theorem dX12_image_91 : decode cX12_image 91 = .ok (.getfield 26, 3) := by decide +kernel
theorem dX12_image_94 : decode cX12_image 94 = .ok (.iload_n 1, 1) := by decide +kernel
theorem dX12_image_95 : decode cX12_image 95 = .ok (.iaload, 1) := by decide +kernel
theorem dX12_image_96 : decode cX12_image 96 = .ok (.iastore, 1) := by decide +kernel
theorem dX12_image_97 : decode cX12_image 97 = .ok (.aload_n 0, 1) := by decide +kernel
theorem dX12_image_98 : decode cX12_image 98 = .ok (.getfield 190, 3) := by decide +kernel
theorem dX12_image_101 : decode cX12_image 101 = .ok (.iload_n 1, 1) := by decide +kernel
theorem dX12_image_102 : decode cX12_image 102 = .ok (.aload_n 0, 1) := by decide +kernel
theorem dX12_image_103 : decode cX12_image 103 = .ok (.getfield 29, 3) := by decide +kernel
theorem dX12_image_106 : decode cX12_image 106 = .ok (.iload_n 1, 1) := by decide +kernel
theorem dX12_image_107 : decode cX12_image 107 = .ok (.iaload, 1) := by decide +kernel
theorem dX12_image_108 : decode cX12_image 108 = .ok (.iastore, 1) := by decide +kernel
theorem dX12_image_109 : decode cX12_image 109 = .ok (.aload_n 0, 1) := by decide +kernel
theorem dX12_image_110 : decode cX12_image 110 = .ok (.getfield 193, 3) := by decide +kernel
theorem dX12_image_113 : decode cX12_image 113 = .ok (.iload_n 1, 1) := by decide +kernel
theorem dX12_image_114 : decode cX12_image 114 = .ok (.aload_n 0, 1) := by decide +kernel
theorem dX12_image_115 : decode cX12_image 115 = .ok (.getfield 32, 3) := by decide +kernel
theorem dX12_image_118 : decode cX12_image 118 = .ok (.iload_n 1, 1) := by decide +kernel
theorem dX12_image_119 : decode cX12_image 119 = .ok (.iaload, 1) := by decide +kernel
theorem dX12_image_120 : decode cX12_image 120 = .ok (.iastore, 1) := by decide +kernel
theorem dX12_image_121 : decode cX12_image 121 = .ok (.iinc 1 1, 3) := by decide +kernel
theorem dX12_image_124 : decode cX12_image 124 = .ok (.goto (-69), 3) := by decide +kernel
theorem dX12_image_127 : decode cX12_image 127 = .ok (.iconst 0, 1) := by decide +kernel
theorem dX12_image_128 : decode cX12_image 128 = .ok (.istore_n 1, 1) := by decide +kernel
theorem dX12_image_129 : decode cX12_image 129 = .ok (.iload_n 1, 1) := by decide +kernel
theorem dX12_image_130 : decode cX12_image 130 = .ok (.bipush 28, 2) := by decide +kernel
theorem dX12_image_132 : decode cX12_image 132 = .ok (.if_icmp .ge 21, 3) := by decide +kernel
theorem dX12_image_135 : decode cX12_image 135 = .ok (.aload_n 0, 1) := by decide +kernel
theorem dX12_image_136 : decode cX12_image 136 = .ok (.getfield 196, 3) := by decide +kernel
theorem dX12_image_139 : decode cX12_image 139 = .ok (.iload_n 1, 1) := by decide +kernel
theorem dX12_image_140 : decode cX12_image 140 = .ok (.aload_n 0, 1) := by decide +kernel
theorem dX12_image_141 : decode cX12_image 141 = .ok (.getfield 35, 3) := by decide +kernel
theorem dX12_image_144 : decode cX12_image 144 = .ok (.iload_n 1, 1) := by decide +kernel
theorem dX12_image_145 : decode cX12_image 145 = .ok (.iaload, 1) := by decide +kernel
theorem dX12_image_146 : decode cX12_image 146 = .ok (.iastore, 1) := by decide +kernel
theorem dX12_image_147 : decode cX12_image 147 = .ok (.iinc 1 1, 3) := by decide +kernel
theorem dX12_image_150 : decode cX12_image 150 = .ok (.goto (-21), 3) := by decide +kernel
theorem dX12_image_153 : decode cX12_image 153 = .ok (.iconst 0, 1) := by decide +kernel
theorem dX12_image_154 : decode cX12_image 154 = .ok (.istore_n 1, 1) := by decide +kernel
theorem dX12_image_155 : decode cX12_image 155 = .ok (.iload_n 1, 1) := by decide +kernel
theorem dX12_image_156 : decode cX12_image 156 = .ok (.iconst 4, 1) := by decide +kernel
theorem dX12_image_157 : decode cX12_image 157 = .ok (.if_icmp .ge 57, 3) := by decide +kernel
theorem dX12_image_160 : decode cX12_image 160 = .ok (.aload_n 0, 1) := by decide +kernel
theorem dX12_image_161 : decode cX12_image 161 = .ok (.getfield 199, 3) := by decide +kernel
theorem dX12_image_164 : decode cX12_image 164 = .ok (.iload_n 1, 1) := by decide +kernel
theorem dX12_image_165 : decode cX12_image 165 = .ok (.aload_n 0, 1) := by decide +kernel
theorem dX12_image_166 : decode cX12_image 166 = .ok (.getfield 38, 3) := by decide +kernel
theorem dX12_image_169 : decode cX12_image 169 = .ok (.iload_n 1, 1) := by decide +kernel
theorem dX12_image_170 : decode cX12_image 170 = .ok (.iaload, 1) := by decide +kernel
theorem dX12_image_171 : decode cX12_image 171 = .ok (.iastore, 1) := by decide +kernel
theorem dX12_image_172 : decode cX12_image 172 = .ok (.aload_n 0, 1) := by decide +kernel
theorem dX12_image_173 : decode cX12_image 173 = .ok (.getfield 202, 3) := by decide +kernel
theorem dX12_image_176 : decode cX12_image 176 = .ok (.iload_n 1, 1) := by decide +kernel
theorem dX12_image_177 : decode cX12_image 177 = .ok (.aload_n 0, 1) := by decide +kernel
theorem dX12_image_178 : decode cX12_image 178 = .ok (.getfield 141, 3) := by decide +kernel
theorem dX12_image_181 : decode cX12_image 181 = .ok (.iload_n 1, 1) := by decide +kernel
theorem dX12_image_182 : decode cX12_image 182 = .ok (.iaload, 1) := by decide +kernel
theorem dX12_image_183 : decode cX12_image 183 = .ok (.iastore, 1) := by decide +kernel
theorem dX12_image_184 : decode cX12_image 184 = .ok (.aload_n 0, 1) := by decide +kernel
theorem dX12_image_185 : decode cX12_image 185 = .ok (.getfield 205, 3) := by decide +kernel
theorem dX12_image_188 : decode cX12_image 188 = .ok (.iload_n 1, 1) := by decide +kernel
theorem dX12_image_189 : decode cX12_image 189 = .ok (.aload_n 0, 1) := by decide +kernel
theorem dX12_image_190 : decode cX12_image 190 = .ok (.getfield 144, 3) := by decide +kernel
theorem dX12_image_193 : decode cX12_image 193 = .ok (.iload_n 1, 1) := by decide +kernel
theorem dX12_image_194 : decode cX12_image 194 = .ok (.iaload, 1) := by decide +kernel
theorem dX12_image_195 : decode cX12_image 195 = .ok (.iastore, 1) := by decide +kernel
theorem dX12_image_196 : decode cX12_image 196 = .ok (.aload_n 0, 1) := by decide +kernel
theorem dX12_image_197 : decode cX12_image 197 = .ok (.getfield 208, 3) := by decide +kernel
theorem dX12_image_200 : decode cX12_image 200 = .ok (.iload_n 1, 1) := by decide +kernel
theorem dX12_image_201 : decode cX12_image 201 = .ok (.aload_n 0, 1) := by decide +kernel
theorem dX12_image_202 : decode cX12_image 202 = .ok (.getfield 147, 3) := by decide +kernel
theorem dX12_image_205 : decode cX12_image 205 = .ok (.iload_n 1, 1) := by decide +kernel
theorem dX12_image_206 : decode cX12_image 206 = .ok (.iaload, 1) := by decide +kernel
theorem dX12_image_207 : decode cX12_image 207 = .ok (.iastore, 1) := by decide +kernel
theorem dX12_image_208 : decode cX12_image 208 = .ok (.iinc 1 1, 3) := by decide +kernel
theorem dX12_image_211 : decode cX12_image 211 = .ok (.goto (-56), 3) := by decide +kernel
theorem dX12_image_214 : decode cX12_image 214 = .ok (.iconst 0, 1) := by decide +kernel
theorem dX12_image_215 : decode cX12_image 215 = .ok (.istore_n 1, 1) := by decide +kernel
theorem dX12_image_216 : decode cX12_image 216 = .ok (.iload_n 1, 1) := by decide +kernel
theorem dX12_image_217 : decode cX12_image 217 = .ok (.bipush 8, 2) := by decide +kernel
theorem dX12_image_219 : decode cX12_image 219 = .ok (.if_icmp .ge 33, 3) := by decide +kernel
theorem dX12_image_222 : decode cX12_image 222 = .ok (.aload_n 0, 1) := by decide +kernel
theorem dX12_image_223 : decode cX12_image 223 = .ok (.getfield 211, 3) := by decide +kernel
theorem dX12_image_226 : decode cX12_image 226 = .ok (.iload_n 1, 1) := by decide +kernel
theorem dX12_image_227 : decode cX12_image 227 = .ok (.aload_n 0, 1) := by decide +kernel
theorem dX12_image_228 : decode cX12_image 228 = .ok (.getfield 153, 3) := by decide +kernel
theorem dX12_image_231 : decode cX12_image 231 = .ok (.iload_n 1, 1) := by decide +kernel
theorem dX12_image_232 : decode cX12_image 232 = .ok (.iaload, 1) := by decide +kernel
theorem dX12_image_233 : decode cX12_image 233 = .ok (.iastore, 1) := by decide +kernel
theorem dX12_image_234 : decode cX12_image 234 = .ok (.aload_n 0, 1) := by decide +kernel
theorem dX12_image_235 : decode cX12_image 235 = .ok (.getfield 214, 3) := by decide +kernel
theorem dX12_image_238 : decode cX12_image 238 = .ok (.iload_n 1, 1) := by decide +kernel
theorem dX12_image_239 : decode cX12_image 239 = .ok (.aload_n 0, 1) := by decide +kernel
theorem dX12_image_240 : decode cX12_image 240 = .ok (.getfield 156, 3) := by decide +kernel
theorem dX12_image_243 : decode cX12_image 243 = .ok (.iload_n 1, 1) := by decide +kernel
theorem dX12_image_244 : decode cX12_image 244 = .ok (.iaload, 1) := by decide +kernel
theorem dX12_image_245 : decode cX12_image 245 = .ok (.iastore, 1) := by decide +kernel
theorem dX12_image_246 : decode cX12_image 246 = .ok (.iinc 1 1, 3) := by decide +kernel
theorem dX12_image_249 : decode cX12_image 249 = .ok (.goto (-33), 3) := by decide +kernel
theorem dX12_image_252 : decode cX12_image 252 = .ok (.aload_n 0, 1) := by decide +kernel
theorem dX12_image_253 : decode cX12_image 253 = .ok (.getfield 7, 3) := by decide +kernel
theorem dX12_image_256 : decode cX12_image 256 = .ok (.ireturn, 1) := by decide +kernel
theorem dX12_undo_0 : decode cX12_undo 0 = .ok (.aload_n 0, 1) := by decide +kernel
theorem dX12_undo_1 : decode cX12_undo 1 = .ok (.getfield 159, 3) := by decide +kernel
theorem dX12_undo_4 : decode cX12_undo 4 = .ok (.ifCond .ne 6, 3) := by decide +kernel
theorem dX12_undo_7 : decode cX12_undo 7 = .ok (.bipush (-3), 2) := by decide +kernel
theorem dX12_undo_9 : decode cX12_undo 9 = .ok (.ireturn, 1) := by decide +kernel
theorem dX12_undo_10 : decode cX12_undo 10 = .ok (.aload_n 0, 1) := by decide +kernel
theorem dX12_undo_11 : decode cX12_undo 11 = .ok (.aload_n 0, 1) := by decide +kernel
theorem dX12_undo_12 : decode cX12_undo 12 = .ok (.getfield 163, 3) := by decide +kernel
theorem dX12_undo_15 : decode cX12_undo 15 = .ok (.putfield 44, 3) := by decide +kernel
theorem dX12_undo_18 : decode cX12_undo 18 = .ok (.aload_n 0, 1) := by decide +kernel
theorem dX12_undo_19 : decode cX12_undo 19 = .ok (.aload_n 0, 1) := by decide +kernel
theorem dX12_undo_20 : decode cX12_undo 20 = .ok (.getfield 166, 3) := by decide +kernel
theorem dX12_undo_23 : decode cX12_undo 23 = .ok (.putfield 7, 3) := by decide +kernel
theorem dX12_undo_26 : decode cX12_undo 26 = .ok (.aload_n 0, 1) := by decide +kernel
theorem dX12_undo_27 : decode cX12_undo 27 = .ok (.aload_n 0, 1) := by decide +kernel
theorem dX12_undo_28 : decode cX12_undo 28 = .ok (.getfield 169, 3) := by decide +kernel
theorem dX12_undo_31 : decode cX12_undo 31 = .ok (.putfield 13, 3) := by decide +kernel
theorem dX12_undo_34 : decode cX12_undo 34 = .ok (.aload_n 0, 1) := by decide +kernel
theorem dX12_undo_35 : decode cX12_undo 35 = .ok (.aload_n 0, 1) := by decide +kernel
theorem dX12_undo_36 : decode cX12_undo 36 = .ok (.getfield 172, 3) := by decide +kernel
theorem dX12_undo_39 : decode cX12_undo 39 = .ok (.putfield 16, 3) := by decide +kernel
theorem dX12_undo_42 : decode cX12_undo 42 = .ok (.aload_n 0, 1) := by decide +kernel
theorem dX12_undo_43 : decode cX12_undo 43 = .ok (.aload_n 0, 1) := by decide +kernel
theorem dX12_undo_44 : decode cX12_undo 44 = .ok (.getfield 175, 3) := by decide +kernel
theorem dX12_undo_47 : decode cX12_undo 47 = .ok (.putfield 138, 3) := by decide +kernel
theorem dX12_undo_50 : decode cX12_undo 50 = .ok (.aload_n 0, 1) := by decide +kernel
theorem dX12_undo_51 : decode cX12_undo 51 = .ok (.aload_n 0, 1) := by decide +kernel
theorem dX12_undo_52 : decode cX12_undo 52 = .ok (.getfield 178, 3) := by decide +kernel
theorem dX12_undo_55 : decode cX12_undo 55 = .ok (.putfield 150, 3) := by decide +kernel
theorem dX12_undo_58 : decode cX12_undo 58 = .ok (.iconst 0, 1) := by decide +kernel
theorem dX12_undo_59 : decode cX12_undo 59 = .ok (.istore_n 1, 1) := by decide +kernel
theorem dX12_undo_60 : decode cX12_undo 60 = .ok (.iload_n 1, 1) := by decide +kernel
theorem dX12_undo_61 : decode cX12_undo 61 = .ok (.bipush 7, 2) := by decide +kernel
theorem dX12_undo_63 : decode cX12_undo 63 = .ok (.if_icmp .ge 69, 3) := by decide +kernel
theorem dX12_undo_66 : decode cX12_undo 66 = .ok (.aload_n 0, 1) := by decide +kernel
theorem dX12_undo_67 : decode cX12_undo 67 = .ok (.getfield 19, 3) := by decide +kernel
theorem dX12_undo_70 : decode cX12_undo 70 = .ok (.iload_n 1, 1) := by decide +kernel
theorem dX12_undo_71 : decode cX12_undo 71 = .ok (.aload_n 0, 1) := by decide +kernel
theorem dX12_undo_72 : decode cX12_undo 72 = .ok (.getfield 181, 3) := by decide +kernel
theorem dX12_undo_75 : decode cX12_undo 75 = .ok (.iload_n 1, 1) := by decide +kernel
theorem dX12_undo_76 : decode cX12_undo 76 = .ok (.iaload, 1) := by decide +kernel
theorem dX12_undo_77 : decode cX12_undo 77 = .ok (.iastore, 1) := by decide +kernel
theorem dX12_undo_78 : decode cX12_undo 78 = .ok (.aload_n 0, 1) := by decide +kernel
theorem dX12_undo_79 : decode cX12_undo 79 = .ok (.getfield 23, 3) := by decide +kernel
theorem dX12_undo_82 : decode cX12_undo 82 = .ok (.iload_n 1, 1) := by decide +kernel
theorem dX12_undo_83 : decode cX12_undo 83 = .ok (.aload_n 0, 1) := by decide +kernel
theorem dX12_undo_84 : decode cX12_undo 84 = .ok (.getfield 184, 3) := by decide +kernel
theorem dX12_undo_87 : decode cX12_undo 87 = .ok (.iload_n 1, 1) := by decide +kernel
theorem dX12_undo_88 : decode cX12_undo 88 = .ok (.iaload, 1) := by decide +kernel
theorem dX12_undo_89 : decode cX12_undo 89 = .ok (.iastore, 1) := by decide +kernel
theorem dX12_undo_90 : decode cX12_undo 90 = .ok (.aload_n 0, 1) := by decide +kernel
theorem dX12_undo_91 : decode cX12_undo 91 = .ok (.getfield 26, 3) := by decide +kernel
theorem dX12_undo_94 : decode cX12_undo 94 = .ok (.iload_n 1, 1) := by decide +kernel
theorem dX12_undo_95 : decode cX12_undo 95 = .ok (.aload_n 0, 1) := by decide +kernel
theorem dX12_undo_96 : decode cX12_undo 96 = .ok (.getfield 187, 3) := by decide +kernel
theorem dX12_undo_99 : decode cX12_undo 99 = .ok (.iload_n 1, 1) := by decide +kernel
theorem dX12_undo_100 : decode cX12_undo 100 = .ok (.iaload, 1) := by decide +kernel
theorem dX12_undo_101 : decode cX12_undo 101 = .ok (.iastore, 1) := by decide +kernel
theorem dX12_undo_102 : decode cX12_undo 102 = .ok (.aload_n 0, 1) := by decide +kernel
theorem dX12_undo_103 : decode cX12_undo 103 = .ok (.getfield 29, 3) := by decide +kernel
theorem dX12_undo_106 : decode cX12_undo 106 = .ok (.iload_n 1, 1) := by decide +kernel
theorem dX12_undo_107 : decode cX12_undo 107 = .ok (.aload_n 0, 1) := by decide +kernel
theorem dX12_undo_108 : decode cX12_undo 108 = .ok (.getfield 190, 3) := by decide +kernel
theorem dX12_undo_111 : decode cX12_undo 111 = .ok (.iload_n 1, 1) := by decide +kernel
theorem dX12_undo_112 : decode cX12_undo 112 = .ok (.iaload, 1) := by decide +kernel
theorem dX12_undo_113 : decode cX12_undo 113 = .ok (.iastore, 1) := by decide +kernel
theorem dX12_undo_114 : decode cX12_undo 114 = .ok (.aload_n 0, 1) := by decide +kernel
theorem dX12_undo_115 : decode cX12_undo 115 = .ok (.getfield 32, 3) := by decide +kernel
theorem dX12_undo_118 : decode cX12_undo 118 = .ok (.iload_n 1, 1) := by decide +kernel
theorem dX12_undo_119 : decode cX12_undo 119 = .ok (.aload_n 0, 1) := by decide +kernel
theorem dX12_undo_120 : decode cX12_undo 120 = .ok (.getfield 193, 3) := by decide +kernel
theorem dX12_undo_123 : decode cX12_undo 123 = .ok (.iload_n 1, 1) := by decide +kernel
theorem dX12_undo_124 : decode cX12_undo 124 = .ok (.iaload, 1) := by decide +kernel
theorem dX12_undo_125 : decode cX12_undo 125 = .ok (.iastore, 1) := by decide +kernel
theorem dX12_undo_126 : decode cX12_undo 126 = .ok (.iinc 1 1, 3) := by decide +kernel
theorem dX12_undo_129 : decode cX12_undo 129 = .ok (.goto (-69), 3) := by decide +kernel
theorem dX12_undo_132 : decode cX12_undo 132 = .ok (.iconst 0, 1) := by decide +kernel
theorem dX12_undo_133 : decode cX12_undo 133 = .ok (.istore_n 1, 1) := by decide +kernel
theorem dX12_undo_134 : decode cX12_undo 134 = .ok (.iload_n 1, 1) := by decide +kernel
theorem dX12_undo_135 : decode cX12_undo 135 = .ok (.bipush 28, 2) := by decide +kernel
theorem dX12_undo_137 : decode cX12_undo 137 = .ok (.if_icmp .ge 21, 3) := by decide +kernel
theorem dX12_undo_140 : decode cX12_undo 140 = .ok (.aload_n 0, 1) := by decide +kernel
theorem dX12_undo_141 : decode cX12_undo 141 = .ok (.getfield 35, 3) := by decide +kernel
theorem dX12_undo_144 : decode cX12_undo 144 = .ok (.iload_n 1, 1) := by decide +kernel
theorem dX12_undo_145 : decode cX12_undo 145 = .ok (.aload_n 0, 1) := by decide +kernel
theorem dX12_undo_146 : decode cX12_undo 146 = .ok (.getfield 196, 3) := by decide +kernel
theorem dX12_undo_149 : decode cX12_undo 149 = .ok (.iload_n 1, 1) := by decide +kernel
theorem dX12_undo_150 : decode cX12_undo 150 = .ok (.iaload, 1) := by decide +kernel
theorem dX12_undo_151 : decode cX12_undo 151 = .ok (.iastore, 1) := by decide +kernel
theorem dX12_undo_152 : decode cX12_undo 152 = .ok (.iinc 1 1, 3) := by decide +kernel
theorem dX12_undo_155 : decode cX12_undo 155 = .ok (.goto (-21), 3) := by decide +kernel
theorem dX12_undo_158 : decode cX12_undo 158 = .ok (.iconst 0, 1) := by decide +kernel
theorem dX12_undo_159 : decode cX12_undo 159 = .ok (.istore_n 1, 1) := by decide +kernel
theorem dX12_undo_160 : decode cX12_undo 160 = .ok (.iload_n 1, 1) := by decide +kernel
theorem dX12_undo_161 : decode cX12_undo 161 = .ok (.iconst 4, 1) := by decide +kernel
theorem dX12_undo_162 : decode cX12_undo 162 = .ok (.if_icmp .ge 57, 3) := by decide +kernel
theorem dX12_undo_165 : decode cX12_undo 165 = .ok (.aload_n 0, 1) := by decide +kernel
theorem dX12_undo_166 : decode cX12_undo 166 = .ok (.getfield 38, 3) := by decide +kernel
theorem dX12_undo_169 : decode cX12_undo 169 = .ok (.iload_n 1, 1) := by decide +kernel
theorem dX12_undo_170 : decode cX12_undo 170 = .ok (.aload_n 0, 1) := by decide +kernel
theorem dX12_undo_171 : decode cX12_undo 171 = .ok (.getfield 199, 3) := by decide +kernel
theorem dX12_undo_174 : decode cX12_undo 174 = .ok (.iload_n 1, 1) := by decide +kernel
theorem dX12_undo_175 : decode cX12_undo 175 = .ok (.iaload, 1) := by decide +kernel
theorem dX12_undo_176 : decode cX12_undo 176 = .ok (.iastore, 1) := by decide +kernel
theorem dX12_undo_177 : decode cX12_undo 177 = .ok (.aload_n 0, 1) := by decide +kernel
theorem dX12_undo_178 : decode cX12_undo 178 = .ok (.getfield 141, 3) := by decide +kernel
theorem dX12_undo_181 : decode cX12_undo 181 = .ok (.iload_n 1, 1) := by decide +kernel
theorem dX12_undo_182 : decode cX12_undo 182 = .ok (.aload_n 0, 1) := by decide +kernel
theorem dX12_undo_183 : decode cX12_undo 183 = .ok (.getfield 202, 3) := by decide +kernel
theorem dX12_undo_186 : decode cX12_undo 186 = .ok (.iload_n 1, 1) := by decide +kernel
theorem dX12_undo_187 : decode cX12_undo 187 = .ok (.iaload, 1) := by decide +kernel
theorem dX12_undo_188 : decode cX12_undo 188 = .ok (.iastore, 1) := by decide +kernel
theorem dX12_undo_189 : decode cX12_undo 189 = .ok (.aload_n 0, 1) := by decide +kernel
theorem dX12_undo_190 : decode cX12_undo 190 = .ok (.getfield 144, 3) := by decide +kernel
theorem dX12_undo_193 : decode cX12_undo 193 = .ok (.iload_n 1, 1) := by decide +kernel
theorem dX12_undo_194 : decode cX12_undo 194 = .ok (.aload_n 0, 1) := by decide +kernel
theorem dX12_undo_195 : decode cX12_undo 195 = .ok (.getfield 205, 3) := by decide +kernel
theorem dX12_undo_198 : decode cX12_undo 198 = .ok (.iload_n 1, 1) := by decide +kernel
theorem dX12_undo_199 : decode cX12_undo 199 = .ok (.iaload, 1) := by decide +kernel
theorem dX12_undo_200 : decode cX12_undo 200 = .ok (.iastore, 1) := by decide +kernel
theorem dX12_undo_201 : decode cX12_undo 201 = .ok (.aload_n 0, 1) := by decide +kernel
theorem dX12_undo_202 : decode cX12_undo 202 = .ok (.getfield 147, 3) := by decide +kernel
theorem dX12_undo_205 : decode cX12_undo 205 = .ok (.iload_n 1, 1) := by decide +kernel
theorem dX12_undo_206 : decode cX12_undo 206 = .ok (.aload_n 0, 1) := by decide +kernel
theorem dX12_undo_207 : decode cX12_undo 207 = .ok (.getfield 208, 3) := by decide +kernel
theorem dX12_undo_210 : decode cX12_undo 210 = .ok (.iload_n 1, 1) := by decide +kernel
theorem dX12_undo_211 : decode cX12_undo 211 = .ok (.iaload, 1) := by decide +kernel
theorem dX12_undo_212 : decode cX12_undo 212 = .ok (.iastore, 1) := by decide +kernel
theorem dX12_undo_213 : decode cX12_undo 213 = .ok (.iinc 1 1, 3) := by decide +kernel
theorem dX12_undo_216 : decode cX12_undo 216 = .ok (.goto (-56), 3) := by decide +kernel
theorem dX12_undo_219 : decode cX12_undo 219 = .ok (.iconst 0, 1) := by decide +kernel
theorem dX12_undo_220 : decode cX12_undo 220 = .ok (.istore_n 1, 1) := by decide +kernel
theorem dX12_undo_221 : decode cX12_undo 221 = .ok (.iload_n 1, 1) := by decide +kernel
theorem dX12_undo_222 : decode cX12_undo 222 = .ok (.bipush 8, 2) := by decide +kernel
theorem dX12_undo_224 : decode cX12_undo 224 = .ok (.if_icmp .ge 33, 3) := by decide +kernel
theorem dX12_undo_227 : decode cX12_undo 227 = .ok (.aload_n 0, 1) := by decide +kernel
theorem dX12_undo_228 : decode cX12_undo 228 = .ok (.getfield 153, 3) := by decide +kernel
theorem dX12_undo_231 : decode cX12_undo 231 = .ok (.iload_n 1, 1) := by decide +kernel
theorem dX12_undo_232 : decode cX12_undo 232 = .ok (.aload_n 0, 1) := by decide +kernel
theorem dX12_undo_233 : decode cX12_undo 233 = .ok (.getfield 211, 3) := by decide +kernel
theorem dX12_undo_236 : decode cX12_undo 236 = .ok (.iload_n 1, 1) := by decide +kernel
theorem dX12_undo_237 : decode cX12_undo 237 = .ok (.iaload, 1) := by decide +kernel
theorem dX12_undo_238 : decode cX12_undo 238 = .ok (.iastore, 1) := by decide +kernel
theorem dX12_undo_239 : decode cX12_undo 239 = .ok (.aload_n 0, 1) := by decide +kernel
theorem dX12_undo_240 : decode cX12_undo 240 = .ok (.getfield 156, 3) := by decide +kernel
theorem dX12_undo_243 : decode cX12_undo 243 = .ok (.iload_n 1, 1) := by decide +kernel
theorem dX12_undo_244 : decode cX12_undo 244 = .ok (.aload_n 0, 1) := by decide +kernel
theorem dX12_undo_245 : decode cX12_undo 245 = .ok (.getfield 214, 3) := by decide +kernel
theorem dX12_undo_248 : decode cX12_undo 248 = .ok (.iload_n 1, 1) := by decide +kernel
theorem dX12_undo_249 : decode cX12_undo 249 = .ok (.iaload, 1) := by decide +kernel
theorem dX12_undo_250 : decode cX12_undo 250 = .ok (.iastore, 1) := by decide +kernel
theorem dX12_undo_251 : decode cX12_undo 251 = .ok (.iinc 1 1, 3) := by decide +kernel
theorem dX12_undo_254 : decode cX12_undo 254 = .ok (.goto (-33), 3) := by decide +kernel
theorem dX12_undo_257 : decode cX12_undo 257 = .ok (.aload_n 0, 1) := by decide +kernel
theorem dX12_undo_258 : decode cX12_undo 258 = .ok (.getfield 7, 3) := by decide +kernel
theorem dX12_undo_261 : decode cX12_undo 261 = .ok (.ireturn, 1) := by decide +kernel
theorem dX12_body_0 : decode cX12_body 0 = .ok (.aload_n 0, 1) := by decide +kernel
theorem dX12_body_1 : decode cX12_body 1 = .ok (.getfield 217, 3) := by decide +kernel
theorem dX12_body_4 : decode cX12_body 4 = .ok (.bipush 20, 2) := by decide +kernel
theorem dX12_body_6 : decode cX12_body 6 = .ok (.if_icmp .ge 13, 3) := by decide +kernel
theorem dX12_body_9 : decode cX12_body 9 = .ok (.aload_n 0, 1) := by decide +kernel
theorem dX12_body_10 : decode cX12_body 10 = .ok (.getfield 220, 3) := by decide +kernel
theorem dX12_body_13 : decode cX12_body 13 = .ok (.aload_n 0, 1) := by decide +kernel
theorem dX12_body_14 : decode cX12_body 14 = .ok (.getfield 217, 3) := by decide +kernel
theorem dX12_body_17 : decode cX12_body 17 = .ok (.iload_n 1, 1) := by decide +kernel
theorem dX12_body_18 : decode cX12_body 18 = .ok (.iastore, 1) := by decide +kernel
theorem dX12_body_19 : decode cX12_body 19 = .ok (.aload_n 0, 1) := by decide +kernel
theorem dX12_body_20 : decode cX12_body 20 = .ok (.dup, 1) := by decide +kernel
theorem dX12_body_21 : decode cX12_body 21 = .ok (.getfield 217, 3) := by decide +kernel
theorem dX12_body_24 : decode cX12_body 24 = .ok (.iconst 1, 1) := by decide +kernel
theorem dX12_body_25 : decode cX12_body 25 = .ok (.iadd, 1) := by decide +kernel
theorem dX12_body_26 : decode cX12_body 26 = .ok (.putfield 217, 3) := by decide +kernel
theorem dX12_body_29 : decode cX12_body 29 = .ok (.return_, 1) := by decide +kernel
theorem dX12_childRuns_0 : decode cX12_childRuns 0 = .ok (.aload_n 0, 1) := by decide +kernel
theorem dX12_childRuns_1 : decode cX12_childRuns 1 = .ok (.bipush 10, 2) := by decide +kernel
theorem dX12_childRuns_3 : decode cX12_childRuns 3 = .ok (.invokevirtual 390, 3) := by decide +kernel
theorem dX12_childRuns_6 : decode cX12_childRuns 6 = .ok (.iload_n 2, 1) := by decide +kernel
theorem dX12_childRuns_7 : decode cX12_childRuns 7 = .ok (.iload_n 1, 1) := by decide +kernel
theorem dX12_childRuns_8 : decode cX12_childRuns 8 = .ok (.iadd, 1) := by decide +kernel
theorem dX12_childRuns_9 : decode cX12_childRuns 9 = .ok (.ireturn, 1) := by decide +kernel
theorem dX12_runsAct_0 : decode cX12_runsAct 0 = .ok (.aload_n 0, 1) := by decide +kernel
theorem dX12_runsAct_1 : decode cX12_runsAct 1 = .ok (.getfield 19, 3) := by decide +kernel
theorem dX12_runsAct_4 : decode cX12_runsAct 4 = .ok (.iload_n 1, 1) := by decide +kernel
theorem dX12_runsAct_5 : decode cX12_runsAct 5 = .ok (.iaload, 1) := by decide +kernel
theorem dX12_runsAct_6 : decode cX12_runsAct 6 = .ok (.tableswitch 83 2 6 #[34, 83, 49, 34, 63], 34) := by decide +kernel
theorem dX12_runsAct_40 : decode cX12_runsAct 40 = .ok (.aload_n 0, 1) := by decide +kernel
theorem dX12_runsAct_41 : decode cX12_runsAct 41 = .ok (.bipush 30, 2) := by decide +kernel
theorem dX12_runsAct_43 : decode cX12_runsAct 43 = .ok (.invokevirtual 390, 3) := by decide +kernel
theorem dX12_runsAct_46 : decode cX12_runsAct 46 = .ok (.aload_n 0, 1) := by decide +kernel
theorem dX12_runsAct_47 : decode cX12_runsAct 47 = .ok (.iload_n 1, 1) := by decide +kernel
theorem dX12_runsAct_48 : decode cX12_runsAct 48 = .ok (.iload_n 2, 1) := by decide +kernel
theorem dX12_runsAct_49 : decode cX12_runsAct 49 = .ok (.iconst 3, 1) := by decide +kernel
theorem dX12_runsAct_50 : decode cX12_runsAct 50 = .ok (.imul, 1) := by decide +kernel
theorem dX12_runsAct_51 : decode cX12_runsAct 51 = .ok (.invokevirtual 393, 3) := by decide +kernel
theorem dX12_runsAct_54 : decode cX12_runsAct 54 = .ok (.ireturn, 1) := by decide +kernel
theorem dX12_runsAct_55 : decode cX12_runsAct 55 = .ok (.aload_n 0, 1) := by decide +kernel
theorem dX12_runsAct_56 : decode cX12_runsAct 56 = .ok (.bipush 50, 2) := by decide +kernel
theorem dX12_runsAct_58 : decode cX12_runsAct 58 = .ok (.invokevirtual 390, 3) := by decide +kernel
theorem dX12_runsAct_61 : decode cX12_runsAct 61 = .ok (.aload_n 0, 1) := by decide +kernel
theorem dX12_runsAct_62 : decode cX12_runsAct 62 = .ok (.iload_n 1, 1) := by decide +kernel
theorem dX12_runsAct_63 : decode cX12_runsAct 63 = .ok (.iload_n 2, 1) := by decide +kernel
theorem dX12_runsAct_64 : decode cX12_runsAct 64 = .ok (.invokevirtual 393, 3) := by decide +kernel
theorem dX12_runsAct_67 : decode cX12_runsAct 67 = .ok (.ineg, 1) := by decide +kernel
theorem dX12_runsAct_68 : decode cX12_runsAct 68 = .ok (.ireturn, 1) := by decide +kernel
theorem dX12_runsAct_69 : decode cX12_runsAct 69 = .ok (.aload_n 0, 1) := by decide +kernel
theorem dX12_runsAct_70 : decode cX12_runsAct 70 = .ok (.bipush 71, 2) := by decide +kernel
theorem dX12_runsAct_72 : decode cX12_runsAct 72 = .ok (.invokevirtual 390, 3) := by decide +kernel
theorem dX12_runsAct_75 : decode cX12_runsAct 75 = .ok (.aload_n 0, 1) := by decide +kernel
theorem dX12_runsAct_76 : decode cX12_runsAct 76 = .ok (.iload_n 1, 1) := by decide +kernel
theorem dX12_runsAct_77 : decode cX12_runsAct 77 = .ok (.iload_n 2, 1) := by decide +kernel
theorem dX12_runsAct_78 : decode cX12_runsAct 78 = .ok (.invokevirtual 393, 3) := by decide +kernel
theorem dX12_runsAct_81 : decode cX12_runsAct 81 = .ok (.aload_n 0, 1) := by decide +kernel
theorem dX12_runsAct_82 : decode cX12_runsAct 82 = .ok (.getfield 23, 3) := by decide +kernel
theorem dX12_runsAct_85 : decode cX12_runsAct 85 = .ok (.iload_n 1, 1) := by decide +kernel
theorem dX12_runsAct_86 : decode cX12_runsAct 86 = .ok (.iaload, 1) := by decide +kernel
theorem dX12_runsAct_87 : decode cX12_runsAct 87 = .ok (.ixor, 1) := by decide +kernel
theorem dX12_runsAct_88 : decode cX12_runsAct 88 = .ok (.ireturn, 1) := by decide +kernel
theorem dX12_runsAct_89 : decode cX12_runsAct 89 = .ok (.aload_n 0, 1) := by decide +kernel
theorem dX12_runsAct_90 : decode cX12_runsAct 90 = .ok (.iload_n 1, 1) := by decide +kernel
theorem dX12_runsAct_91 : decode cX12_runsAct 91 = .ok (.iload_n 2, 1) := by decide +kernel
theorem dX12_runsAct_92 : decode cX12_runsAct 92 = .ok (.invokevirtual 393, 3) := by decide +kernel
theorem dX12_runsAct_95 : decode cX12_runsAct 95 = .ok (.ireturn, 1) := by decide +kernel
theorem dX12_childStands_0 : decode cX12_childStands 0 = .ok (.aload_n 0, 1) := by decide +kernel
theorem dX12_childStands_1 : decode cX12_childStands 1 = .ok (.bipush 11, 2) := by decide +kernel
theorem dX12_childStands_3 : decode cX12_childStands 3 = .ok (.invokevirtual 390, 3) := by decide +kernel
theorem dX12_childStands_6 : decode cX12_childStands 6 = .ok (.aload_n 0, 1) := by decide +kernel
theorem dX12_childStands_7 : decode cX12_childStands 7 = .ok (.iload_n 1, 1) := by decide +kernel
theorem dX12_childStands_8 : decode cX12_childStands 8 = .ok (.iload_n 2, 1) := by decide +kernel
theorem dX12_childStands_9 : decode cX12_childStands 9 = .ok (.invokevirtual 396, 3) := by decide +kernel
theorem dX12_childStands_12 : decode cX12_childStands 12 = .ok (.aload_n 0, 1) := by decide +kernel
theorem dX12_childStands_13 : decode cX12_childStands 13 = .ok (.getfield 23, 3) := by decide +kernel
theorem dX12_childStands_16 : decode cX12_childStands 16 = .ok (.iload_n 1, 1) := by decide +kernel
theorem dX12_childStands_17 : decode cX12_childStands 17 = .ok (.iaload, 1) := by decide +kernel
theorem dX12_childStands_18 : decode cX12_childStands 18 = .ok (.isub, 1) := by decide +kernel
theorem dX12_childStands_19 : decode cX12_childStands 19 = .ok (.ireturn, 1) := by decide +kernel
theorem dX12_quickStands_0 : decode cX12_quickStands 0 = .ok (.aload_n 0, 1) := by decide +kernel
theorem dX12_quickStands_1 : decode cX12_quickStands 1 = .ok (.bipush 20, 2) := by decide +kernel
theorem dX12_quickStands_3 : decode cX12_quickStands 3 = .ok (.invokevirtual 390, 3) := by decide +kernel
theorem dX12_quickStands_6 : decode cX12_quickStands 6 = .ok (.aload_n 0, 1) := by decide +kernel
theorem dX12_quickStands_7 : decode cX12_quickStands 7 = .ok (.iload_n 1, 1) := by decide +kernel
theorem dX12_quickStands_8 : decode cX12_quickStands 8 = .ok (.iload_n 2, 1) := by decide +kernel
theorem dX12_quickStands_9 : decode cX12_quickStands 9 = .ok (.invokevirtual 399, 3) := by decide +kernel
theorem dX12_quickStands_12 : decode cX12_quickStands 12 = .ok (.bipush 6, 2) := by decide +kernel
theorem dX12_quickStands_14 : decode cX12_quickStands 14 = .ok (.ixor, 1) := by decide +kernel
theorem dX12_quickStands_15 : decode cX12_quickStands 15 = .ok (.ireturn, 1) := by decide +kernel
theorem dX12_standsAct_0 : decode cX12_standsAct 0 = .ok (.aload_n 0, 1) := by decide +kernel
theorem dX12_standsAct_1 : decode cX12_standsAct 1 = .ok (.getfield 19, 3) := by decide +kernel
theorem dX12_standsAct_4 : decode cX12_standsAct 4 = .ok (.iload_n 1, 1) := by decide +kernel
theorem dX12_standsAct_5 : decode cX12_standsAct 5 = .ok (.iaload, 1) := by decide +kernel
theorem dX12_standsAct_6 : decode cX12_standsAct 6 = .ok (.lookupswitch 78 #[(1, 34), (4, 41), (6, 56)], 34) := by decide +kernel
theorem dX12_standsAct_40 : decode cX12_standsAct 40 = .ok (.aload_n 0, 1) := by decide +kernel
theorem dX12_standsAct_41 : decode cX12_standsAct 41 = .ok (.iload_n 1, 1) := by decide +kernel
theorem dX12_standsAct_42 : decode cX12_standsAct 42 = .ok (.iload_n 2, 1) := by decide +kernel
theorem dX12_standsAct_43 : decode cX12_standsAct 43 = .ok (.invokevirtual 402, 3) := by decide +kernel
theorem dX12_standsAct_46 : decode cX12_standsAct 46 = .ok (.ireturn, 1) := by decide +kernel
theorem dX12_standsAct_47 : decode cX12_standsAct 47 = .ok (.aload_n 0, 1) := by decide +kernel
theorem dX12_standsAct_48 : decode cX12_standsAct 48 = .ok (.bipush 51, 2) := by decide +kernel
theorem dX12_standsAct_50 : decode cX12_standsAct 50 = .ok (.invokevirtual 390, 3) := by decide +kernel
theorem dX12_standsAct_53 : decode cX12_standsAct 53 = .ok (.aload_n 0, 1) := by decide +kernel
theorem dX12_standsAct_54 : decode cX12_standsAct 54 = .ok (.iload_n 1, 1) := by decide +kernel
theorem dX12_standsAct_55 : decode cX12_standsAct 55 = .ok (.iload_n 2, 1) := by decide +kernel
theorem dX12_standsAct_56 : decode cX12_standsAct 56 = .ok (.iconst 1, 1) := by decide +kernel
theorem dX12_standsAct_57 : decode cX12_standsAct 57 = .ok (.iadd, 1) := by decide +kernel
theorem dX12_standsAct_58 : decode cX12_standsAct 58 = .ok (.invokevirtual 402, 3) := by decide +kernel
theorem dX12_standsAct_61 : decode cX12_standsAct 61 = .ok (.ireturn, 1) := by decide +kernel
theorem dX12_standsAct_62 : decode cX12_standsAct 62 = .ok (.aload_n 0, 1) := by decide +kernel
theorem dX12_standsAct_63 : decode cX12_standsAct 63 = .ok (.bipush 70, 2) := by decide +kernel
theorem dX12_standsAct_65 : decode cX12_standsAct 65 = .ok (.invokevirtual 390, 3) := by decide +kernel
theorem dX12_standsAct_68 : decode cX12_standsAct 68 = .ok (.aload_n 0, 1) := by decide +kernel
theorem dX12_standsAct_69 : decode cX12_standsAct 69 = .ok (.iload_n 1, 1) := by decide +kernel
theorem dX12_standsAct_70 : decode cX12_standsAct 70 = .ok (.iload_n 2, 1) := by decide +kernel
theorem dX12_standsAct_71 : decode cX12_standsAct 71 = .ok (.invokevirtual 399, 3) := by decide +kernel
theorem dX12_standsAct_74 : decode cX12_standsAct 74 = .ok (.istore_n 3, 1) := by decide +kernel
theorem dX12_standsAct_75 : decode cX12_standsAct 75 = .ok (.iload_n 3, 1) := by decide +kernel
theorem dX12_standsAct_76 : decode cX12_standsAct 76 = .ok (.aload_n 0, 1) := by decide +kernel
theorem dX12_standsAct_77 : decode cX12_standsAct 77 = .ok (.iload_n 1, 1) := by decide +kernel
theorem dX12_standsAct_78 : decode cX12_standsAct 78 = .ok (.iconst 2, 1) := by decide +kernel
theorem dX12_standsAct_79 : decode cX12_standsAct 79 = .ok (.invokevirtual 393, 3) := by decide +kernel
theorem dX12_standsAct_82 : decode cX12_standsAct 82 = .ok (.iadd, 1) := by decide +kernel
theorem dX12_standsAct_83 : decode cX12_standsAct 83 = .ok (.ireturn, 1) := by decide +kernel
theorem dX12_standsAct_84 : decode cX12_standsAct 84 = .ok (.aload_n 0, 1) := by decide +kernel
theorem dX12_standsAct_85 : decode cX12_standsAct 85 = .ok (.iload_n 1, 1) := by decide +kernel
theorem dX12_standsAct_86 : decode cX12_standsAct 86 = .ok (.iload_n 2, 1) := by decide +kernel
theorem dX12_standsAct_87 : decode cX12_standsAct 87 = .ok (.invokevirtual 399, 3) := by decide +kernel
theorem dX12_standsAct_90 : decode cX12_standsAct 90 = .ok (.ireturn, 1) := by decide +kernel
theorem dX12_childTells_0 : decode cX12_childTells 0 = .ok (.aload_n 0, 1) := by decide +kernel
theorem dX12_childTells_1 : decode cX12_childTells 1 = .ok (.bipush 12, 2) := by decide +kernel
theorem dX12_childTells_3 : decode cX12_childTells 3 = .ok (.invokevirtual 390, 3) := by decide +kernel
theorem dX12_childTells_6 : decode cX12_childTells 6 = .ok (.aload_n 0, 1) := by decide +kernel
theorem dX12_childTells_7 : decode cX12_childTells 7 = .ok (.iload_n 1, 1) := by decide +kernel
theorem dX12_childTells_8 : decode cX12_childTells 8 = .ok (.iload_n 2, 1) := by decide +kernel
theorem dX12_childTells_9 : decode cX12_childTells 9 = .ok (.invokevirtual 405, 3) := by decide +kernel
theorem dX12_childTells_12 : decode cX12_childTells 12 = .ok (.iconst 2, 1) := by decide +kernel
theorem dX12_childTells_13 : decode cX12_childTells 13 = .ok (.imul, 1) := by decide +kernel
theorem dX12_childTells_14 : decode cX12_childTells 14 = .ok (.ireturn, 1) := by decide +kernel
theorem dX12_tellsAct_0 : decode cX12_tellsAct 0 = .ok (.aload_n 0, 1) := by decide +kernel
theorem dX12_tellsAct_1 : decode cX12_tellsAct 1 = .ok (.getfield 19, 3) := by decide +kernel
theorem dX12_tellsAct_4 : decode cX12_tellsAct 4 = .ok (.iload_n 1, 1) := by decide +kernel
theorem dX12_tellsAct_5 : decode cX12_tellsAct 5 = .ok (.iaload, 1) := by decide +kernel
theorem dX12_tellsAct_6 : decode cX12_tellsAct 6 = .ok (.tableswitch 67 3 6 #[30, 67, 52, 30], 30) := by decide +kernel
theorem dX12_tellsAct_36 : decode cX12_tellsAct 36 = .ok (.aload_n 0, 1) := by decide +kernel
theorem dX12_tellsAct_37 : decode cX12_tellsAct 37 = .ok (.bipush 40, 2) := by decide +kernel
theorem dX12_tellsAct_39 : decode cX12_tellsAct 39 = .ok (.invokevirtual 390, 3) := by decide +kernel
theorem dX12_tellsAct_42 : decode cX12_tellsAct 42 = .ok (.aload_n 0, 1) := by decide +kernel
theorem dX12_tellsAct_43 : decode cX12_tellsAct 43 = .ok (.iload_n 1, 1) := by decide +kernel
theorem dX12_tellsAct_44 : decode cX12_tellsAct 44 = .ok (.iload_n 2, 1) := by decide +kernel
theorem dX12_tellsAct_45 : decode cX12_tellsAct 45 = .ok (.invokevirtual 408, 3) := by decide +kernel
theorem dX12_tellsAct_48 : decode cX12_tellsAct 48 = .ok (.istore_n 3, 1) := by decide +kernel
theorem dX12_tellsAct_49 : decode cX12_tellsAct 49 = .ok (.iload_n 3, 1) := by decide +kernel
theorem dX12_tellsAct_50 : decode cX12_tellsAct 50 = .ok (.aload_n 0, 1) := by decide +kernel
theorem dX12_tellsAct_51 : decode cX12_tellsAct 51 = .ok (.iload_n 1, 1) := by decide +kernel
theorem dX12_tellsAct_52 : decode cX12_tellsAct 52 = .ok (.iconst 1, 1) := by decide +kernel
theorem dX12_tellsAct_53 : decode cX12_tellsAct 53 = .ok (.invokevirtual 405, 3) := by decide +kernel
theorem dX12_tellsAct_56 : decode cX12_tellsAct 56 = .ok (.iadd, 1) := by decide +kernel
theorem dX12_tellsAct_57 : decode cX12_tellsAct 57 = .ok (.ireturn, 1) := by decide +kernel
theorem dX12_tellsAct_58 : decode cX12_tellsAct 58 = .ok (.aload_n 0, 1) := by decide +kernel
theorem dX12_tellsAct_59 : decode cX12_tellsAct 59 = .ok (.bipush 60, 2) := by decide +kernel
theorem dX12_tellsAct_61 : decode cX12_tellsAct 61 = .ok (.invokevirtual 390, 3) := by decide +kernel
theorem dX12_tellsAct_64 : decode cX12_tellsAct 64 = .ok (.aload_n 0, 1) := by decide +kernel
theorem dX12_tellsAct_65 : decode cX12_tellsAct 65 = .ok (.iload_n 1, 1) := by decide +kernel
theorem dX12_tellsAct_66 : decode cX12_tellsAct 66 = .ok (.iload_n 2, 1) := by decide +kernel
theorem dX12_tellsAct_67 : decode cX12_tellsAct 67 = .ok (.iload_n 1, 1) := by decide +kernel
theorem dX12_tellsAct_68 : decode cX12_tellsAct 68 = .ok (.isub, 1) := by decide +kernel
theorem dX12_tellsAct_69 : decode cX12_tellsAct 69 = .ok (.invokevirtual 408, 3) := by decide +kernel
theorem dX12_tellsAct_72 : decode cX12_tellsAct 72 = .ok (.ireturn, 1) := by decide +kernel
theorem dX12_tellsAct_73 : decode cX12_tellsAct 73 = .ok (.aload_n 0, 1) := by decide +kernel
theorem dX12_tellsAct_74 : decode cX12_tellsAct 74 = .ok (.iload_n 1, 1) := by decide +kernel
theorem dX12_tellsAct_75 : decode cX12_tellsAct 75 = .ok (.iload_n 2, 1) := by decide +kernel
theorem dX12_tellsAct_76 : decode cX12_tellsAct 76 = .ok (.invokevirtual 408, 3) := by decide +kernel
theorem dX12_tellsAct_79 : decode cX12_tellsAct 79 = .ok (.ireturn, 1) := by decide +kernel
theorem dX12_act_0 : decode cX12_act 0 = .ok (.aload_n 0, 1) := by decide +kernel
theorem dX12_act_1 : decode cX12_act 1 = .ok (.iconst 0, 1) := by decide +kernel
theorem dX12_act_2 : decode cX12_act 2 = .ok (.putfield 217, 3) := by decide +kernel
theorem dX12_act_5 : decode cX12_act 5 = .ok (.aload_n 0, 1) := by decide +kernel
theorem dX12_act_6 : decode cX12_act 6 = .ok (.iload_n 1, 1) := by decide +kernel
theorem dX12_act_7 : decode cX12_act 7 = .ok (.invokevirtual 240, 3) := by decide +kernel
theorem dX12_act_10 : decode cX12_act 10 = .ok (.ifCond .eq 13, 3) := by decide +kernel
theorem dX12_act_13 : decode cX12_act 13 = .ok (.aload_n 0, 1) := by decide +kernel
theorem dX12_act_14 : decode cX12_act 14 = .ok (.iload_n 2, 1) := by decide +kernel
theorem dX12_act_15 : decode cX12_act 15 = .ok (.iconst 0, 1) := by decide +kernel
theorem dX12_act_16 : decode cX12_act 16 = .ok (.iconst 2, 1) := by decide +kernel
theorem dX12_act_17 : decode cX12_act 17 = .ok (.invokevirtual 236, 3) := by decide +kernel
theorem dX12_act_20 : decode cX12_act 20 = .ok (.ifCond .ne 5, 3) := by decide +kernel
theorem dX12_act_23 : decode cX12_act 23 = .ok (.iconst 0, 1) := by decide +kernel
theorem dX12_act_24 : decode cX12_act 24 = .ok (.ireturn, 1) := by decide +kernel
theorem dX12_act_25 : decode cX12_act 25 = .ok (.iload_n 2, 1) := by decide +kernel
theorem dX12_act_26 : decode cX12_act 26 = .ok (.ifCond .ne 12, 3) := by decide +kernel
theorem dX12_act_29 : decode cX12_act 29 = .ok (.aload_n 0, 1) := by decide +kernel
theorem dX12_act_30 : decode cX12_act 30 = .ok (.iload_n 1, 1) := by decide +kernel
theorem dX12_act_31 : decode cX12_act 31 = .ok (.iload_n 3, 1) := by decide +kernel
theorem dX12_act_32 : decode cX12_act 32 = .ok (.invokevirtual 396, 3) := by decide +kernel
theorem dX12_act_35 : decode cX12_act 35 = .ok (.goto 23, 3) := by decide +kernel
theorem dX12_act_38 : decode cX12_act 38 = .ok (.iload_n 2, 1) := by decide +kernel
theorem dX12_act_39 : decode cX12_act 39 = .ok (.iconst 1, 1) := by decide +kernel
theorem dX12_act_40 : decode cX12_act 40 = .ok (.if_icmp .ne 12, 3) := by decide +kernel
theorem dX12_act_43 : decode cX12_act 43 = .ok (.aload_n 0, 1) := by decide +kernel
theorem dX12_act_44 : decode cX12_act 44 = .ok (.iload_n 1, 1) := by decide +kernel
theorem dX12_act_45 : decode cX12_act 45 = .ok (.iload_n 3, 1) := by decide +kernel
theorem dX12_act_46 : decode cX12_act 46 = .ok (.invokevirtual 405, 3) := by decide +kernel
theorem dX12_act_49 : decode cX12_act 49 = .ok (.goto 9, 3) := by decide +kernel
theorem dX12_act_52 : decode cX12_act 52 = .ok (.aload_n 0, 1) := by decide +kernel
theorem dX12_act_53 : decode cX12_act 53 = .ok (.iload_n 1, 1) := by decide +kernel
theorem dX12_act_54 : decode cX12_act 54 = .ok (.iload_n 3, 1) := by decide +kernel
theorem dX12_act_55 : decode cX12_act 55 = .ok (.invokevirtual 411, 3) := by decide +kernel
theorem dX12_act_58 : decode cX12_act 58 = .ok (.ireturn, 1) := by decide +kernel
theorem dX12_trace_0 : decode cX12_trace 0 = .ok (.aload_n 0, 1) := by decide +kernel
theorem dX12_trace_1 : decode cX12_trace 1 = .ok (.iload_n 1, 1) := by decide +kernel
theorem dX12_trace_2 : decode cX12_trace 2 = .ok (.iconst 0, 1) := by decide +kernel
theorem dX12_trace_3 : decode cX12_trace 3 = .ok (.bipush 19, 2) := by decide +kernel
theorem dX12_trace_5 : decode cX12_trace 5 = .ok (.invokevirtual 236, 3) := by decide +kernel
theorem dX12_trace_8 : decode cX12_trace 8 = .ok (.ifCond .eq 20, 3) := by decide +kernel
theorem dX12_trace_11 : decode cX12_trace 11 = .ok (.iload_n 1, 1) := by decide +kernel
theorem dX12_trace_12 : decode cX12_trace 12 = .ok (.aload_n 0, 1) := by decide +kernel
theorem dX12_trace_13 : decode cX12_trace 13 = .ok (.getfield 217, 3) := by decide +kernel
theorem dX12_trace_16 : decode cX12_trace 16 = .ok (.if_icmp .ge 12, 3) := by decide +kernel
theorem dX12_trace_19 : decode cX12_trace 19 = .ok (.aload_n 0, 1) := by decide +kernel
theorem dX12_trace_20 : decode cX12_trace 20 = .ok (.getfield 220, 3) := by decide +kernel
theorem dX12_trace_23 : decode cX12_trace 23 = .ok (.iload_n 1, 1) := by decide +kernel
theorem dX12_trace_24 : decode cX12_trace 24 = .ok (.iaload, 1) := by decide +kernel
theorem dX12_trace_25 : decode cX12_trace 25 = .ok (.goto 4, 3) := by decide +kernel
theorem dX12_trace_28 : decode cX12_trace 28 = .ok (.iconst (-1), 1) := by decide +kernel
theorem dX12_trace_29 : decode cX12_trace 29 = .ok (.ireturn, 1) := by decide +kernel
theorem dX12_taken_0 : decode cX12_taken 0 = .ok (.aload_n 0, 1) := by decide +kernel
theorem dX12_taken_1 : decode cX12_taken 1 = .ok (.iload_n 2, 1) := by decide +kernel
theorem dX12_taken_2 : decode cX12_taken 2 = .ok (.iconst 0, 1) := by decide +kernel
theorem dX12_taken_3 : decode cX12_taken 3 = .ok (.bipush 6, 2) := by decide +kernel
theorem dX12_taken_5 : decode cX12_taken 5 = .ok (.invokevirtual 236, 3) := by decide +kernel
theorem dX12_taken_8 : decode cX12_taken 8 = .ok (.ifCond .ne 6, 3) := by decide +kernel
theorem dX12_taken_11 : decode cX12_taken 11 = .ok (.bipush (-2), 2) := by decide +kernel
theorem dX12_taken_13 : decode cX12_taken 13 = .ok (.ireturn, 1) := by decide +kernel
theorem dX12_taken_14 : decode cX12_taken 14 = .ok (.aload_n 0, 1) := by decide +kernel
theorem dX12_taken_15 : decode cX12_taken 15 = .ok (.iload_n 1, 1) := by decide +kernel
theorem dX12_taken_16 : decode cX12_taken 16 = .ok (.invokevirtual 240, 3) := by decide +kernel
theorem dX12_taken_19 : decode cX12_taken 19 = .ok (.ifCond .ne 6, 3) := by decide +kernel
theorem dX12_taken_22 : decode cX12_taken 22 = .ok (.bipush (-11), 2) := by decide +kernel
theorem dX12_taken_24 : decode cX12_taken 24 = .ok (.ireturn, 1) := by decide +kernel
theorem dX12_taken_25 : decode cX12_taken 25 = .ok (.aload_n 0, 1) := by decide +kernel
theorem dX12_taken_26 : decode cX12_taken 26 = .ok (.getfield 19, 3) := by decide +kernel
theorem dX12_taken_29 : decode cX12_taken 29 = .ok (.iload_n 1, 1) := by decide +kernel
theorem dX12_taken_30 : decode cX12_taken 30 = .ok (.iaload, 1) := by decide +kernel
theorem dX12_taken_31 : decode cX12_taken 31 = .ok (.istore_n 3, 1) := by decide +kernel
theorem dX12_taken_32 : decode cX12_taken 32 = .ok (.iload_n 2, 1) := by decide +kernel
theorem dX12_taken_33 : decode cX12_taken 33 = .ok (.ifCond .eq 39, 3) := by decide +kernel
theorem dX12_taken_36 : decode cX12_taken 36 = .ok (.iload_n 3, 1) := by decide +kernel
theorem dX12_taken_37 : decode cX12_taken 37 = .ok (.iload_n 2, 1) := by decide +kernel
theorem dX12_taken_38 : decode cX12_taken 38 = .ok (.if_icmp .eq 34, 3) := by decide +kernel
theorem dX12_taken_41 : decode cX12_taken 41 = .ok (.iload_n 2, 1) := by decide +kernel
theorem dX12_taken_42 : decode cX12_taken 42 = .ok (.iconst 1, 1) := by decide +kernel
theorem dX12_taken_43 : decode cX12_taken 43 = .ok (.if_icmp .ne 8, 3) := by decide +kernel
theorem dX12_taken_46 : decode cX12_taken 46 = .ok (.iload_n 3, 1) := by decide +kernel
theorem dX12_taken_47 : decode cX12_taken 47 = .ok (.iconst 4, 1) := by decide +kernel
theorem dX12_taken_48 : decode cX12_taken 48 = .ok (.if_icmp .eq 24, 3) := by decide +kernel
theorem dX12_taken_51 : decode cX12_taken 51 = .ok (.iload_n 2, 1) := by decide +kernel
theorem dX12_taken_52 : decode cX12_taken 52 = .ok (.iconst 2, 1) := by decide +kernel
theorem dX12_taken_53 : decode cX12_taken 53 = .ok (.if_icmp .ne 8, 3) := by decide +kernel
theorem dX12_taken_56 : decode cX12_taken 56 = .ok (.iload_n 3, 1) := by decide +kernel
theorem dX12_taken_57 : decode cX12_taken 57 = .ok (.iconst 5, 1) := by decide +kernel
theorem dX12_taken_58 : decode cX12_taken 58 = .ok (.if_icmp .eq 14, 3) := by decide +kernel
theorem dX12_taken_61 : decode cX12_taken 61 = .ok (.iload_n 2, 1) := by decide +kernel
theorem dX12_taken_62 : decode cX12_taken 62 = .ok (.iconst 3, 1) := by decide +kernel
theorem dX12_taken_63 : decode cX12_taken 63 = .ok (.if_icmp .ne 13, 3) := by decide +kernel
theorem dX12_taken_66 : decode cX12_taken 66 = .ok (.iload_n 3, 1) := by decide +kernel
theorem dX12_taken_67 : decode cX12_taken 67 = .ok (.bipush 6, 2) := by decide +kernel
theorem dX12_taken_69 : decode cX12_taken 69 = .ok (.if_icmp .ne 7, 3) := by decide +kernel
theorem dX12_taken_72 : decode cX12_taken 72 = .ok (.iload_n 3, 1) := by decide +kernel
theorem dX12_taken_73 : decode cX12_taken 73 = .ok (.goto 5, 3) := by decide +kernel
theorem dX12_taken_76 : decode cX12_taken 76 = .ok (.bipush (-12), 2) := by decide +kernel
theorem dX12_taken_78 : decode cX12_taken 78 = .ok (.ireturn, 1) := by decide +kernel
theorem dX12_count_0 : decode cX12_count 0 = .ok (.iload_n 1, 1) := by decide +kernel
theorem dX12_count_1 : decode cX12_count 1 = .ok (.tableswitch 69 0 5 #[39, 44, 49, 54, 59, 64], 39) := by decide +kernel
theorem dX12_count_40 : decode cX12_count 40 = .ok (.aload_n 0, 1) := by decide +kernel
theorem dX12_count_41 : decode cX12_count 41 = .ok (.getfield 7, 3) := by decide +kernel
theorem dX12_count_44 : decode cX12_count 44 = .ok (.ireturn, 1) := by decide +kernel
theorem dX12_count_45 : decode cX12_count 45 = .ok (.aload_n 0, 1) := by decide +kernel
theorem dX12_count_46 : decode cX12_count 46 = .ok (.getfield 41, 3) := by decide +kernel
theorem dX12_count_49 : decode cX12_count 49 = .ok (.ireturn, 1) := by decide +kernel
theorem dX12_count_50 : decode cX12_count 50 = .ok (.aload_n 0, 1) := by decide +kernel
theorem dX12_count_51 : decode cX12_count 51 = .ok (.getfield 138, 3) := by decide +kernel
theorem dX12_count_54 : decode cX12_count 54 = .ok (.ireturn, 1) := by decide +kernel
theorem dX12_count_55 : decode cX12_count 55 = .ok (.aload_n 0, 1) := by decide +kernel
theorem dX12_count_56 : decode cX12_count 56 = .ok (.getfield 150, 3) := by decide +kernel
theorem dX12_count_59 : decode cX12_count 59 = .ok (.ireturn, 1) := by decide +kernel
theorem dX12_count_60 : decode cX12_count 60 = .ok (.aload_n 0, 1) := by decide +kernel
theorem dX12_count_61 : decode cX12_count 61 = .ok (.getfield 47, 3) := by decide +kernel
theorem dX12_count_64 : decode cX12_count 64 = .ok (.ireturn, 1) := by decide +kernel
theorem dX12_count_65 : decode cX12_count 65 = .ok (.aload_n 0, 1) := by decide +kernel
theorem dX12_count_66 : decode cX12_count 66 = .ok (.getfield 217, 3) := by decide +kernel
theorem dX12_count_69 : decode cX12_count 69 = .ok (.ireturn, 1) := by decide +kernel
theorem dX12_count_70 : decode cX12_count 70 = .ok (.bipush (-2), 2) := by decide +kernel
theorem dX12_count_72 : decode cX12_count 72 = .ok (.ireturn, 1) := by decide +kernel
theorem dX12_isTape_0 : decode cX12_isTape 0 = .ok (.aload_n 0, 1) := by decide +kernel
theorem dX12_isTape_1 : decode cX12_isTape 1 = .ok (.iload_n 1, 1) := by decide +kernel
theorem dX12_isTape_2 : decode cX12_isTape 2 = .ok (.iconst 0, 1) := by decide +kernel
theorem dX12_isTape_3 : decode cX12_isTape 3 = .ok (.iconst 5, 1) := by decide +kernel
theorem dX12_isTape_4 : decode cX12_isTape 4 = .ok (.invokevirtual 236, 3) := by decide +kernel
theorem dX12_isTape_7 : decode cX12_isTape 7 = .ok (.ireturn, 1) := by decide +kernel
theorem dX12_tape_0 : decode cX12_tape 0 = .ok (.aload_n 0, 1) := by decide +kernel
theorem dX12_tape_1 : decode cX12_tape 1 = .ok (.iload_n 1, 1) := by decide +kernel
theorem dX12_tape_2 : decode cX12_tape 2 = .ok (.invokevirtual 387, 3) := by decide +kernel
theorem dX12_tape_5 : decode cX12_tape 5 = .ok (.ifCond .ne 5, 3) := by decide +kernel
theorem dX12_tape_8 : decode cX12_tape 8 = .ok (.iconst (-1), 1) := by decide +kernel
theorem dX12_tape_9 : decode cX12_tape 9 = .ok (.ireturn, 1) := by decide +kernel
theorem dX12_tape_10 : decode cX12_tape 10 = .ok (.aload_n 0, 1) := by decide +kernel
theorem dX12_tape_11 : decode cX12_tape 11 = .ok (.iload_n 2, 1) := by decide +kernel
theorem dX12_tape_12 : decode cX12_tape 12 = .ok (.iconst (-1), 1) := by decide +kernel
theorem dX12_tape_13 : decode cX12_tape 13 = .ok (.iconst 4, 1) := by decide +kernel
theorem dX12_tape_14 : decode cX12_tape 14 = .ok (.invokevirtual 236, 3) := by decide +kernel
theorem dX12_tape_17 : decode cX12_tape 17 = .ok (.ifCond .eq 13, 3) := by decide +kernel
theorem dX12_tape_20 : decode cX12_tape 20 = .ok (.iload_n 2, 1) := by decide +kernel
theorem dX12_tape_21 : decode cX12_tape 21 = .ok (.ifCond .lt 12, 3) := by decide +kernel
theorem dX12_tape_24 : decode cX12_tape 24 = .ok (.iload_n 3, 1) := by decide +kernel
theorem dX12_tape_25 : decode cX12_tape 25 = .ok (.bipush 60, 2) := by decide +kernel
theorem dX12_tape_27 : decode cX12_tape 27 = .ok (.if_icmp .le 6, 3) := by decide +kernel
theorem dX12_tape_30 : decode cX12_tape 30 = .ok (.bipush (-2), 2) := by decide +kernel
theorem dX12_tape_32 : decode cX12_tape 32 = .ok (.ireturn, 1) := by decide +kernel
theorem dX12_tape_33 : decode cX12_tape 33 = .ok (.iload_n 2, 1) := by decide +kernel
theorem dX12_tape_34 : decode cX12_tape 34 = .ok (.ifCond .lt 10, 3) := by decide +kernel
theorem dX12_tape_37 : decode cX12_tape 37 = .ok (.iload_n 3, 1) := by decide +kernel
theorem dX12_tape_38 : decode cX12_tape 38 = .ok (.ifCond .ge 6, 3) := by decide +kernel
theorem dX12_tape_41 : decode cX12_tape 41 = .ok (.bipush (-14), 2) := by decide +kernel
theorem dX12_tape_43 : decode cX12_tape 43 = .ok (.ireturn, 1) := by decide +kernel
theorem dX12_tape_44 : decode cX12_tape 44 = .ok (.aload_n 0, 1) := by decide +kernel
theorem dX12_tape_45 : decode cX12_tape 45 = .ok (.getfield 223, 3) := by decide +kernel
theorem dX12_tape_48 : decode cX12_tape 48 = .ok (.iload_n 1, 1) := by decide +kernel
theorem dX12_tape_49 : decode cX12_tape 49 = .ok (.iload_n 2, 1) := by decide +kernel
theorem dX12_tape_50 : decode cX12_tape 50 = .ok (.iastore, 1) := by decide +kernel
theorem dX12_tape_51 : decode cX12_tape 51 = .ok (.aload_n 0, 1) := by decide +kernel
theorem dX12_tape_52 : decode cX12_tape 52 = .ok (.getfield 226, 3) := by decide +kernel
theorem dX12_tape_55 : decode cX12_tape 55 = .ok (.iload_n 1, 1) := by decide +kernel
theorem dX12_tape_56 : decode cX12_tape 56 = .ok (.iload_n 2, 1) := by decide +kernel
theorem dX12_tape_57 : decode cX12_tape 57 = .ok (.ifCond .ge 7, 3) := by decide +kernel
theorem dX12_tape_60 : decode cX12_tape 60 = .ok (.iconst 0, 1) := by decide +kernel
theorem dX12_tape_61 : decode cX12_tape 61 = .ok (.goto 4, 3) := by decide +kernel
theorem dX12_tape_64 : decode cX12_tape 64 = .ok (.iload_n 3, 1) := by decide +kernel
theorem dX12_tape_65 : decode cX12_tape 65 = .ok (.iastore, 1) := by decide +kernel
theorem dX12_tape_66 : decode cX12_tape 66 = .ok (.iconst 0, 1) := by decide +kernel
theorem dX12_tape_67 : decode cX12_tape 67 = .ok (.istore 4, 2) := by decide +kernel
theorem dX12_tape_69 : decode cX12_tape 69 = .ok (.iload 4, 2) := by decide +kernel
theorem dX12_tape_71 : decode cX12_tape 71 = .ok (.bipush 60, 2) := by decide +kernel
theorem dX12_tape_73 : decode cX12_tape 73 = .ok (.if_icmp .ge 22, 3) := by decide +kernel
theorem dX12_tape_76 : decode cX12_tape 76 = .ok (.aload_n 0, 1) := by decide +kernel
theorem dX12_tape_77 : decode cX12_tape 77 = .ok (.getfield 229, 3) := by decide +kernel
theorem dX12_tape_80 : decode cX12_tape 80 = .ok (.bipush 60, 2) := by decide +kernel
theorem dX12_tape_82 : decode cX12_tape 82 = .ok (.iload_n 1, 1) := by decide +kernel
theorem dX12_tape_83 : decode cX12_tape 83 = .ok (.imul, 1) := by decide +kernel
theorem dX12_tape_84 : decode cX12_tape 84 = .ok (.iload 4, 2) := by decide +kernel
theorem dX12_tape_86 : decode cX12_tape 86 = .ok (.iadd, 1) := by decide +kernel
theorem dX12_tape_87 : decode cX12_tape 87 = .ok (.lconst 0, 1) := by decide +kernel
theorem dX12_tape_88 : decode cX12_tape 88 = .ok (.lastore, 1) := by decide +kernel
theorem dX12_tape_89 : decode cX12_tape 89 = .ok (.iinc 4 1, 3) := by decide +kernel
theorem dX12_tape_92 : decode cX12_tape 92 = .ok (.goto (-23), 3) := by decide +kernel
theorem dX12_tape_95 : decode cX12_tape 95 = .ok (.iconst 1, 1) := by decide +kernel
theorem dX12_tape_96 : decode cX12_tape 96 = .ok (.ireturn, 1) := by decide +kernel
theorem dX12_narrow_0 : decode cX12_narrow 0 = .ok (.iload_n 1, 1) := by decide +kernel
theorem dX12_narrow_1 : decode cX12_narrow 1 = .ok (.ifCond .ne 10, 3) := by decide +kernel
theorem dX12_narrow_4 : decode cX12_narrow 4 = .ok (.lload_n 2, 1) := by decide +kernel
theorem dX12_narrow_5 : decode cX12_narrow 5 = .ok (.l2i, 1) := by decide +kernel
theorem dX12_narrow_6 : decode cX12_narrow 6 = .ok (.i2b, 1) := by decide +kernel
theorem dX12_narrow_7 : decode cX12_narrow 7 = .ok (.i2l, 1) := by decide +kernel
theorem dX12_narrow_8 : decode cX12_narrow 8 = .ok (.goto 46, 3) := by decide +kernel
theorem dX12_narrow_11 : decode cX12_narrow 11 = .ok (.iload_n 1, 1) := by decide +kernel
theorem dX12_narrow_12 : decode cX12_narrow 12 = .ok (.iconst 1, 1) := by decide +kernel
theorem dX12_narrow_13 : decode cX12_narrow 13 = .ok (.if_icmp .ne 10, 3) := by decide +kernel
theorem dX12_narrow_16 : decode cX12_narrow 16 = .ok (.lload_n 2, 1) := by decide +kernel
theorem dX12_narrow_17 : decode cX12_narrow 17 = .ok (.l2i, 1) := by decide +kernel
theorem dX12_narrow_18 : decode cX12_narrow 18 = .ok (.i2s, 1) := by decide +kernel
theorem dX12_narrow_19 : decode cX12_narrow 19 = .ok (.i2l, 1) := by decide +kernel
theorem dX12_narrow_20 : decode cX12_narrow 20 = .ok (.goto 34, 3) := by decide +kernel
theorem dX12_narrow_23 : decode cX12_narrow 23 = .ok (.iload_n 1, 1) := by decide +kernel
theorem dX12_narrow_24 : decode cX12_narrow 24 = .ok (.iconst 2, 1) := by decide +kernel
theorem dX12_narrow_25 : decode cX12_narrow 25 = .ok (.if_icmp .ne 9, 3) := by decide +kernel
theorem dX12_narrow_28 : decode cX12_narrow 28 = .ok (.lload_n 2, 1) := by decide +kernel
theorem dX12_narrow_29 : decode cX12_narrow 29 = .ok (.l2i, 1) := by decide +kernel
theorem dX12_narrow_30 : decode cX12_narrow 30 = .ok (.i2l, 1) := by decide +kernel
theorem dX12_narrow_31 : decode cX12_narrow 31 = .ok (.goto 23, 3) := by decide +kernel
theorem dX12_narrow_34 : decode cX12_narrow 34 = .ok (.iload_n 1, 1) := by decide +kernel
theorem dX12_narrow_35 : decode cX12_narrow 35 = .ok (.iconst 4, 1) := by decide +kernel
theorem dX12_narrow_36 : decode cX12_narrow 36 = .ok (.if_icmp .ne 17, 3) := by decide +kernel
theorem dX12_narrow_39 : decode cX12_narrow 39 = .ok (.lload_n 2, 1) := by decide +kernel
theorem dX12_narrow_40 : decode cX12_narrow 40 = .ok (.lconst 0, 1) := by decide +kernel
theorem dX12_narrow_41 : decode cX12_narrow 41 = .ok (.lcmp, 1) := by decide +kernel
theorem dX12_narrow_42 : decode cX12_narrow 42 = .ok (.ifCond .eq 7, 3) := by decide +kernel
theorem dX12_narrow_45 : decode cX12_narrow 45 = .ok (.lconst 1, 1) := by decide +kernel
theorem dX12_narrow_46 : decode cX12_narrow 46 = .ok (.goto 8, 3) := by decide +kernel
theorem dX12_narrow_49 : decode cX12_narrow 49 = .ok (.lconst 0, 1) := by decide +kernel
theorem dX12_narrow_50 : decode cX12_narrow 50 = .ok (.goto 4, 3) := by decide +kernel
theorem dX12_narrow_53 : decode cX12_narrow 53 = .ok (.lload_n 2, 1) := by decide +kernel
theorem dX12_narrow_54 : decode cX12_narrow 54 = .ok (.lreturn, 1) := by decide +kernel
theorem dX12_item_0 : decode cX12_item 0 = .ok (.aload_n 0, 1) := by decide +kernel
theorem dX12_item_1 : decode cX12_item 1 = .ok (.iload_n 1, 1) := by decide +kernel
theorem dX12_item_2 : decode cX12_item 2 = .ok (.invokevirtual 387, 3) := by decide +kernel
theorem dX12_item_5 : decode cX12_item 5 = .ok (.ifCond .ne 5, 3) := by decide +kernel
theorem dX12_item_8 : decode cX12_item 8 = .ok (.iconst (-1), 1) := by decide +kernel
theorem dX12_item_9 : decode cX12_item 9 = .ok (.ireturn, 1) := by decide +kernel
theorem dX12_item_10 : decode cX12_item 10 = .ok (.aload_n 0, 1) := by decide +kernel
theorem dX12_item_11 : decode cX12_item 11 = .ok (.getfield 223, 3) := by decide +kernel
theorem dX12_item_14 : decode cX12_item 14 = .ok (.iload_n 1, 1) := by decide +kernel
theorem dX12_item_15 : decode cX12_item 15 = .ok (.iaload, 1) := by decide +kernel
theorem dX12_item_16 : decode cX12_item 16 = .ok (.ifCond .ge 6, 3) := by decide +kernel
theorem dX12_item_19 : decode cX12_item 19 = .ok (.bipush (-11), 2) := by decide +kernel
theorem dX12_item_21 : decode cX12_item 21 = .ok (.ireturn, 1) := by decide +kernel
theorem dX12_item_22 : decode cX12_item 22 = .ok (.aload_n 0, 1) := by decide +kernel
theorem dX12_item_23 : decode cX12_item 23 = .ok (.iload_n 2, 1) := by decide +kernel
theorem dX12_item_24 : decode cX12_item 24 = .ok (.iconst 0, 1) := by decide +kernel
theorem dX12_item_25 : decode cX12_item 25 = .ok (.aload_n 0, 1) := by decide +kernel
theorem dX12_item_26 : decode cX12_item 26 = .ok (.getfield 226, 3) := by decide +kernel
theorem dX12_item_29 : decode cX12_item 29 = .ok (.iload_n 1, 1) := by decide +kernel
theorem dX12_item_30 : decode cX12_item 30 = .ok (.iaload, 1) := by decide +kernel
theorem dX12_item_31 : decode cX12_item 31 = .ok (.iconst 1, 1) := by decide +kernel
theorem dX12_item_32 : decode cX12_item 32 = .ok (.isub, 1) := by decide +kernel
theorem dX12_item_33 : decode cX12_item 33 = .ok (.invokevirtual 236, 3) := by decide +kernel
theorem dX12_item_36 : decode cX12_item 36 = .ok (.ifCond .ne 6, 3) := by decide +kernel
theorem dX12_item_39 : decode cX12_item 39 = .ok (.bipush (-13), 2) := by decide +kernel
theorem dX12_item_41 : decode cX12_item 41 = .ok (.ireturn, 1) := by decide +kernel
theorem dX12_item_42 : decode cX12_item 42 = .ok (.aload_n 0, 1) := by decide +kernel
theorem dX12_item_43 : decode cX12_item 43 = .ok (.getfield 229, 3) := by decide +kernel
theorem dX12_item_46 : decode cX12_item 46 = .ok (.bipush 60, 2) := by decide +kernel
theorem dX12_item_48 : decode cX12_item 48 = .ok (.iload_n 1, 1) := by decide +kernel
theorem dX12_item_49 : decode cX12_item 49 = .ok (.imul, 1) := by decide +kernel
theorem dX12_item_50 : decode cX12_item 50 = .ok (.iload_n 2, 1) := by decide +kernel
theorem dX12_item_51 : decode cX12_item 51 = .ok (.iadd, 1) := by decide +kernel
theorem dX12_item_52 : decode cX12_item 52 = .ok (.aload_n 0, 1) := by decide +kernel
theorem dX12_item_53 : decode cX12_item 53 = .ok (.aload_n 0, 1) := by decide +kernel
theorem dX12_item_54 : decode cX12_item 54 = .ok (.getfield 223, 3) := by decide +kernel
theorem dX12_item_57 : decode cX12_item 57 = .ok (.iload_n 1, 1) := by decide +kernel
theorem dX12_item_58 : decode cX12_item 58 = .ok (.iaload, 1) := by decide +kernel
theorem dX12_item_59 : decode cX12_item 59 = .ok (.lload_n 3, 1) := by decide +kernel
theorem dX12_item_60 : decode cX12_item 60 = .ok (.invokevirtual 414, 3) := by decide +kernel
theorem dX12_item_63 : decode cX12_item 63 = .ok (.lastore, 1) := by decide +kernel
theorem dX12_item_64 : decode cX12_item 64 = .ok (.iconst 1, 1) := by decide +kernel
theorem dX12_item_65 : decode cX12_item 65 = .ok (.ireturn, 1) := by decide +kernel
theorem dX12_read_0 : decode cX12_read 0 = .ok (.aload_n 0, 1) := by decide +kernel
theorem dX12_read_1 : decode cX12_read 1 = .ok (.iload_n 1, 1) := by decide +kernel
theorem dX12_read_2 : decode cX12_read 2 = .ok (.invokevirtual 387, 3) := by decide +kernel
theorem dX12_read_5 : decode cX12_read 5 = .ok (.ifCond .eq 29, 3) := by decide +kernel
theorem dX12_read_8 : decode cX12_read 8 = .ok (.aload_n 0, 1) := by decide +kernel
theorem dX12_read_9 : decode cX12_read 9 = .ok (.getfield 223, 3) := by decide +kernel
theorem dX12_read_12 : decode cX12_read 12 = .ok (.iload_n 1, 1) := by decide +kernel
theorem dX12_read_13 : decode cX12_read 13 = .ok (.iaload, 1) := by decide +kernel
theorem dX12_read_14 : decode cX12_read 14 = .ok (.ifCond .lt 20, 3) := by decide +kernel
theorem dX12_read_17 : decode cX12_read 17 = .ok (.aload_n 0, 1) := by decide +kernel
theorem dX12_read_18 : decode cX12_read 18 = .ok (.iload_n 2, 1) := by decide +kernel
theorem dX12_read_19 : decode cX12_read 19 = .ok (.iconst 0, 1) := by decide +kernel
theorem dX12_read_20 : decode cX12_read 20 = .ok (.aload_n 0, 1) := by decide +kernel
theorem dX12_read_21 : decode cX12_read 21 = .ok (.getfield 226, 3) := by decide +kernel
theorem dX12_read_24 : decode cX12_read 24 = .ok (.iload_n 1, 1) := by decide +kernel
theorem dX12_read_25 : decode cX12_read 25 = .ok (.iaload, 1) := by decide +kernel
theorem dX12_read_26 : decode cX12_read 26 = .ok (.iconst 1, 1) := by decide +kernel
theorem dX12_read_27 : decode cX12_read 27 = .ok (.isub, 1) := by decide +kernel
theorem dX12_read_28 : decode cX12_read 28 = .ok (.invokevirtual 236, 3) := by decide +kernel
theorem dX12_read_31 : decode cX12_read 31 = .ok (.ifCond .ne 9, 3) := by decide +kernel
theorem dX12_read_34 : decode cX12_read 34 = .ok (.ldc2_w 381, 3) := by decide +kernel
theorem dX12_read_37 : decode cX12_read 37 = .ok (.goto 14, 3) := by decide +kernel
theorem dX12_read_40 : decode cX12_read 40 = .ok (.aload_n 0, 1) := by decide +kernel
theorem dX12_read_41 : decode cX12_read 41 = .ok (.getfield 229, 3) := by decide +kernel
theorem dX12_read_44 : decode cX12_read 44 = .ok (.bipush 60, 2) := by decide +kernel
theorem dX12_read_46 : decode cX12_read 46 = .ok (.iload_n 1, 1) := by decide +kernel
theorem dX12_read_47 : decode cX12_read 47 = .ok (.imul, 1) := by decide +kernel
theorem dX12_read_48 : decode cX12_read 48 = .ok (.iload_n 2, 1) := by decide +kernel
theorem dX12_read_49 : decode cX12_read 49 = .ok (.iadd, 1) := by decide +kernel
theorem dX12_read_50 : decode cX12_read 50 = .ok (.laload, 1) := by decide +kernel
theorem dX12_read_51 : decode cX12_read 51 = .ok (.lreturn, 1) := by decide +kernel
theorem dX12_shift_0 : decode cX12_shift 0 = .ok (.aload_n 0, 1) := by decide +kernel
theorem dX12_shift_1 : decode cX12_shift 1 = .ok (.iload_n 1, 1) := by decide +kernel
theorem dX12_shift_2 : decode cX12_shift 2 = .ok (.invokevirtual 387, 3) := by decide +kernel
theorem dX12_shift_5 : decode cX12_shift 5 = .ok (.ifCond .eq 11, 3) := by decide +kernel
theorem dX12_shift_8 : decode cX12_shift 8 = .ok (.aload_n 0, 1) := by decide +kernel
theorem dX12_shift_9 : decode cX12_shift 9 = .ok (.iload_n 3, 1) := by decide +kernel
theorem dX12_shift_10 : decode cX12_shift 10 = .ok (.invokevirtual 387, 3) := by decide +kernel
theorem dX12_shift_13 : decode cX12_shift 13 = .ok (.ifCond .ne 5, 3) := by decide +kernel
theorem dX12_shift_16 : decode cX12_shift 16 = .ok (.iconst (-1), 1) := by decide +kernel
theorem dX12_shift_17 : decode cX12_shift 17 = .ok (.ireturn, 1) := by decide +kernel
theorem dX12_shift_18 : decode cX12_shift 18 = .ok (.aload_n 0, 1) := by decide +kernel
theorem dX12_shift_19 : decode cX12_shift 19 = .ok (.getfield 223, 3) := by decide +kernel
theorem dX12_shift_22 : decode cX12_shift 22 = .ok (.iload_n 1, 1) := by decide +kernel
theorem dX12_shift_23 : decode cX12_shift 23 = .ok (.iaload, 1) := by decide +kernel
theorem dX12_shift_24 : decode cX12_shift 24 = .ok (.ifCond .lt 12, 3) := by decide +kernel
theorem dX12_shift_27 : decode cX12_shift 27 = .ok (.aload_n 0, 1) := by decide +kernel
theorem dX12_shift_28 : decode cX12_shift 28 = .ok (.getfield 223, 3) := by decide +kernel
theorem dX12_shift_31 : decode cX12_shift 31 = .ok (.iload_n 3, 1) := by decide +kernel
theorem dX12_shift_32 : decode cX12_shift 32 = .ok (.iaload, 1) := by decide +kernel
theorem dX12_shift_33 : decode cX12_shift 33 = .ok (.ifCond .ge 6, 3) := by decide +kernel
theorem dX12_shift_36 : decode cX12_shift 36 = .ok (.bipush (-11), 2) := by decide +kernel
theorem dX12_shift_38 : decode cX12_shift 38 = .ok (.ireturn, 1) := by decide +kernel
theorem dX12_shift_39 : decode cX12_shift 39 = .ok (.aload_n 0, 1) := by decide +kernel
theorem dX12_shift_40 : decode cX12_shift 40 = .ok (.getfield 223, 3) := by decide +kernel
theorem dX12_shift_43 : decode cX12_shift 43 = .ok (.iload_n 1, 1) := by decide +kernel
theorem dX12_shift_44 : decode cX12_shift 44 = .ok (.iaload, 1) := by decide +kernel
theorem dX12_shift_45 : decode cX12_shift 45 = .ok (.aload_n 0, 1) := by decide +kernel
theorem dX12_shift_46 : decode cX12_shift 46 = .ok (.getfield 223, 3) := by decide +kernel
theorem dX12_shift_49 : decode cX12_shift 49 = .ok (.iload_n 3, 1) := by decide +kernel
theorem dX12_shift_50 : decode cX12_shift 50 = .ok (.iaload, 1) := by decide +kernel
theorem dX12_shift_51 : decode cX12_shift 51 = .ok (.if_icmp .eq 6, 3) := by decide +kernel
theorem dX12_shift_54 : decode cX12_shift 54 = .ok (.bipush (-12), 2) := by decide +kernel
theorem dX12_shift_56 : decode cX12_shift 56 = .ok (.ireturn, 1) := by decide +kernel
theorem dX12_shift_57 : decode cX12_shift 57 = .ok (.iload 5, 2) := by decide +kernel
theorem dX12_shift_59 : decode cX12_shift 59 = .ok (.ifCond .lt 39, 3) := by decide +kernel
theorem dX12_shift_62 : decode cX12_shift 62 = .ok (.iload_n 2, 1) := by decide +kernel
theorem dX12_shift_63 : decode cX12_shift 63 = .ok (.ifCond .lt 35, 3) := by decide +kernel
theorem dX12_shift_66 : decode cX12_shift 66 = .ok (.iload 4, 2) := by decide +kernel
theorem dX12_shift_68 : decode cX12_shift 68 = .ok (.ifCond .lt 30, 3) := by decide +kernel
theorem dX12_shift_71 : decode cX12_shift 71 = .ok (.iload_n 2, 1) := by decide +kernel
theorem dX12_shift_72 : decode cX12_shift 72 = .ok (.aload_n 0, 1) := by decide +kernel
theorem dX12_shift_73 : decode cX12_shift 73 = .ok (.getfield 226, 3) := by decide +kernel
theorem dX12_shift_76 : decode cX12_shift 76 = .ok (.iload_n 1, 1) := by decide +kernel
theorem dX12_shift_77 : decode cX12_shift 77 = .ok (.iaload, 1) := by decide +kernel
theorem dX12_shift_78 : decode cX12_shift 78 = .ok (.iload 5, 2) := by decide +kernel
theorem dX12_shift_80 : decode cX12_shift 80 = .ok (.isub, 1) := by decide +kernel
theorem dX12_shift_81 : decode cX12_shift 81 = .ok (.if_icmp .gt 17, 3) := by decide +kernel
theorem dX12_shift_84 : decode cX12_shift 84 = .ok (.iload 4, 2) := by decide +kernel
theorem dX12_shift_86 : decode cX12_shift 86 = .ok (.aload_n 0, 1) := by decide +kernel
theorem dX12_shift_87 : decode cX12_shift 87 = .ok (.getfield 226, 3) := by decide +kernel
theorem dX12_shift_90 : decode cX12_shift 90 = .ok (.iload_n 3, 1) := by decide +kernel
theorem dX12_shift_91 : decode cX12_shift 91 = .ok (.iaload, 1) := by decide +kernel
theorem dX12_shift_92 : decode cX12_shift 92 = .ok (.iload 5, 2) := by decide +kernel
theorem dX12_shift_94 : decode cX12_shift 94 = .ok (.isub, 1) := by decide +kernel
theorem dX12_shift_95 : decode cX12_shift 95 = .ok (.if_icmp .le 6, 3) := by decide +kernel
theorem dX12_shift_98 : decode cX12_shift 98 = .ok (.bipush (-13), 2) := by decide +kernel
theorem dX12_shift_100 : decode cX12_shift 100 = .ok (.ireturn, 1) := by decide +kernel
theorem dX12_shift_101 : decode cX12_shift 101 = .ok (.iconst 0, 1) := by decide +kernel
theorem dX12_shift_102 : decode cX12_shift 102 = .ok (.istore 6, 2) := by decide +kernel
theorem dX12_shift_104 : decode cX12_shift 104 = .ok (.iload 6, 2) := by decide +kernel
theorem dX12_shift_106 : decode cX12_shift 106 = .ok (.iload 5, 2) := by decide +kernel
theorem dX12_shift_108 : decode cX12_shift 108 = .ok (.if_icmp .ge 30, 3) := by decide +kernel
theorem dX12_shift_111 : decode cX12_shift 111 = .ok (.aload_n 0, 1) := by decide +kernel
theorem dX12_shift_112 : decode cX12_shift 112 = .ok (.getfield 233, 3) := by decide +kernel
theorem dX12_shift_115 : decode cX12_shift 115 = .ok (.iload 6, 2) := by decide +kernel
theorem dX12_shift_117 : decode cX12_shift 117 = .ok (.aload_n 0, 1) := by decide +kernel
theorem dX12_shift_118 : decode cX12_shift 118 = .ok (.getfield 229, 3) := by decide +kernel
theorem dX12_shift_121 : decode cX12_shift 121 = .ok (.bipush 60, 2) := by decide +kernel
theorem dX12_shift_123 : decode cX12_shift 123 = .ok (.iload_n 1, 1) := by decide +kernel
theorem dX12_shift_124 : decode cX12_shift 124 = .ok (.imul, 1) := by decide +kernel
theorem dX12_shift_125 : decode cX12_shift 125 = .ok (.iload_n 2, 1) := by decide +kernel
theorem dX12_shift_126 : decode cX12_shift 126 = .ok (.iadd, 1) := by decide +kernel
theorem dX12_shift_127 : decode cX12_shift 127 = .ok (.iload 6, 2) := by decide +kernel
theorem dX12_shift_129 : decode cX12_shift 129 = .ok (.iadd, 1) := by decide +kernel
theorem dX12_shift_130 : decode cX12_shift 130 = .ok (.laload, 1) := by decide +kernel
theorem dX12_shift_131 : decode cX12_shift 131 = .ok (.lastore, 1) := by decide +kernel
theorem dX12_shift_132 : decode cX12_shift 132 = .ok (.iinc 6 1, 3) := by decide +kernel
theorem dX12_shift_135 : decode cX12_shift 135 = .ok (.goto (-31), 3) := by decide +kernel
theorem dX12_shift_138 : decode cX12_shift 138 = .ok (.iconst 0, 1) := by decide +kernel
theorem dX12_shift_139 : decode cX12_shift 139 = .ok (.istore 6, 2) := by decide +kernel
theorem dX12_shift_141 : decode cX12_shift 141 = .ok (.iload 6, 2) := by decide +kernel
theorem dX12_shift_143 : decode cX12_shift 143 = .ok (.iload 5, 2) := by decide +kernel
theorem dX12_shift_145 : decode cX12_shift 145 = .ok (.if_icmp .ge 31, 3) := by decide +kernel
theorem dX12_shift_148 : decode cX12_shift 148 = .ok (.aload_n 0, 1) := by decide +kernel
theorem dX12_shift_149 : decode cX12_shift 149 = .ok (.getfield 229, 3) := by decide +kernel
theorem dX12_shift_152 : decode cX12_shift 152 = .ok (.bipush 60, 2) := by decide +kernel
theorem dX12_shift_154 : decode cX12_shift 154 = .ok (.iload_n 3, 1) := by decide +kernel
theorem dX12_shift_155 : decode cX12_shift 155 = .ok (.imul, 1) := by decide +kernel
theorem dX12_shift_156 : decode cX12_shift 156 = .ok (.iload 4, 2) := by decide +kernel
theorem dX12_shift_158 : decode cX12_shift 158 = .ok (.iadd, 1) := by decide +kernel
theorem dX12_shift_159 : decode cX12_shift 159 = .ok (.iload 6, 2) := by decide +kernel
theorem dX12_shift_161 : decode cX12_shift 161 = .ok (.iadd, 1) := by decide +kernel
theorem dX12_shift_162 : decode cX12_shift 162 = .ok (.aload_n 0, 1) := by decide +kernel
theorem dX12_shift_163 : decode cX12_shift 163 = .ok (.getfield 233, 3) := by decide +kernel
theorem dX12_shift_166 : decode cX12_shift 166 = .ok (.iload 6, 2) := by decide +kernel
theorem dX12_shift_168 : decode cX12_shift 168 = .ok (.laload, 1) := by decide +kernel
theorem dX12_shift_169 : decode cX12_shift 169 = .ok (.lastore, 1) := by decide +kernel
theorem dX12_shift_170 : decode cX12_shift 170 = .ok (.iinc 6 1, 3) := by decide +kernel
theorem dX12_shift_173 : decode cX12_shift 173 = .ok (.goto (-32), 3) := by decide +kernel
theorem dX12_shift_176 : decode cX12_shift 176 = .ok (.iload 5, 2) := by decide +kernel
theorem dX12_shift_178 : decode cX12_shift 178 = .ok (.ireturn, 1) := by decide +kernel
end
section
theorem dJ11_isValidCodePoint_9a6ad_0 : decode cJ11_isValidCodePoint_9a6ad 0 = .ok (.iload_n 0, 1) := by decide +kernel
theorem dJ11_isValidCodePoint_9a6ad_1 : decode cJ11_isValidCodePoint_9a6ad 1 = .ok (.bipush 16, 2) := by decide +kernel
theorem dJ11_isValidCodePoint_9a6ad_3 : decode cJ11_isValidCodePoint_9a6ad 3 = .ok (.iushr, 1) := by decide +kernel
theorem dJ11_isValidCodePoint_9a6ad_4 : decode cJ11_isValidCodePoint_9a6ad 4 = .ok (.istore_n 1, 1) := by decide +kernel
theorem dJ11_isValidCodePoint_9a6ad_5 : decode cJ11_isValidCodePoint_9a6ad 5 = .ok (.iload_n 1, 1) := by decide +kernel
theorem dJ11_isValidCodePoint_9a6ad_6 : decode cJ11_isValidCodePoint_9a6ad 6 = .ok (.bipush 17, 2) := by decide +kernel
theorem dJ11_isValidCodePoint_9a6ad_8 : decode cJ11_isValidCodePoint_9a6ad 8 = .ok (.if_icmp .ge 7, 3) := by decide +kernel
theorem dJ11_isValidCodePoint_9a6ad_11 : decode cJ11_isValidCodePoint_9a6ad 11 = .ok (.iconst 1, 1) := by decide +kernel
theorem dJ11_isValidCodePoint_9a6ad_12 : decode cJ11_isValidCodePoint_9a6ad 12 = .ok (.goto 4, 3) := by decide +kernel
theorem dJ11_isValidCodePoint_9a6ad_15 : decode cJ11_isValidCodePoint_9a6ad 15 = .ok (.iconst 0, 1) := by decide +kernel
theorem dJ11_isValidCodePoint_9a6ad_16 : decode cJ11_isValidCodePoint_9a6ad 16 = .ok (.ireturn, 1) := by decide +kernel
theorem dJ11_highSurrogate_5068e_0 : decode cJ11_highSurrogate_5068e 0 = .ok (.iload_n 0, 1) := by decide +kernel
theorem dJ11_highSurrogate_5068e_1 : decode cJ11_highSurrogate_5068e 1 = .ok (.bipush 10, 2) := by decide +kernel
theorem dJ11_highSurrogate_5068e_3 : decode cJ11_highSurrogate_5068e 3 = .ok (.iushr, 1) := by decide +kernel
theorem dJ11_highSurrogate_5068e_4 : decode cJ11_highSurrogate_5068e 4 = .ok (.ldc 110, 2) := by decide +kernel
theorem dJ11_highSurrogate_5068e_6 : decode cJ11_highSurrogate_5068e 6 = .ok (.iadd, 1) := by decide +kernel
theorem dJ11_highSurrogate_5068e_7 : decode cJ11_highSurrogate_5068e 7 = .ok (.i2c, 1) := by decide +kernel
theorem dJ11_highSurrogate_5068e_8 : decode cJ11_highSurrogate_5068e 8 = .ok (.ireturn, 1) := by decide +kernel
theorem dJ11_lowSurrogate_5068e_0 : decode cJ11_lowSurrogate_5068e 0 = .ok (.iload_n 0, 1) := by decide +kernel
theorem dJ11_lowSurrogate_5068e_1 : decode cJ11_lowSurrogate_5068e 1 = .ok (.sipush 1023, 3) := by decide +kernel
theorem dJ11_lowSurrogate_5068e_4 : decode cJ11_lowSurrogate_5068e 4 = .ok (.iand, 1) := by decide +kernel
theorem dJ11_lowSurrogate_5068e_5 : decode cJ11_lowSurrogate_5068e 5 = .ok (.ldc 76, 2) := by decide +kernel
theorem dJ11_lowSurrogate_5068e_7 : decode cJ11_lowSurrogate_5068e 7 = .ok (.iadd, 1) := by decide +kernel
theorem dJ11_lowSurrogate_5068e_8 : decode cJ11_lowSurrogate_5068e 8 = .ok (.i2c, 1) := by decide +kernel
theorem dJ11_lowSurrogate_5068e_9 : decode cJ11_lowSurrogate_5068e 9 = .ok (.ireturn, 1) := by decide +kernel
theorem dJ6_bitCount_0f7a4_0 : decode cJ6_bitCount_0f7a4 0 = .ok (.iload_n 0, 1) := by decide +kernel
theorem dJ6_bitCount_0f7a4_1 : decode cJ6_bitCount_0f7a4 1 = .ok (.iload_n 0, 1) := by decide +kernel
theorem dJ6_bitCount_0f7a4_2 : decode cJ6_bitCount_0f7a4 2 = .ok (.iconst 1, 1) := by decide +kernel
theorem dJ6_bitCount_0f7a4_3 : decode cJ6_bitCount_0f7a4 3 = .ok (.iushr, 1) := by decide +kernel
theorem dJ6_bitCount_0f7a4_4 : decode cJ6_bitCount_0f7a4 4 = .ok (.ldc_w 265, 3) := by decide +kernel
theorem dJ6_bitCount_0f7a4_7 : decode cJ6_bitCount_0f7a4 7 = .ok (.iand, 1) := by decide +kernel
theorem dJ6_bitCount_0f7a4_8 : decode cJ6_bitCount_0f7a4 8 = .ok (.isub, 1) := by decide +kernel
theorem dJ6_bitCount_0f7a4_9 : decode cJ6_bitCount_0f7a4 9 = .ok (.istore_n 0, 1) := by decide +kernel
theorem dJ6_bitCount_0f7a4_10 : decode cJ6_bitCount_0f7a4 10 = .ok (.iload_n 0, 1) := by decide +kernel
theorem dJ6_bitCount_0f7a4_11 : decode cJ6_bitCount_0f7a4 11 = .ok (.ldc_w 266, 3) := by decide +kernel
theorem dJ6_bitCount_0f7a4_14 : decode cJ6_bitCount_0f7a4 14 = .ok (.iand, 1) := by decide +kernel
theorem dJ6_bitCount_0f7a4_15 : decode cJ6_bitCount_0f7a4 15 = .ok (.iload_n 0, 1) := by decide +kernel
theorem dJ6_bitCount_0f7a4_16 : decode cJ6_bitCount_0f7a4 16 = .ok (.iconst 2, 1) := by decide +kernel
theorem dJ6_bitCount_0f7a4_17 : decode cJ6_bitCount_0f7a4 17 = .ok (.iushr, 1) := by decide +kernel
theorem dJ6_bitCount_0f7a4_18 : decode cJ6_bitCount_0f7a4 18 = .ok (.ldc_w 266, 3) := by decide +kernel
theorem dJ6_bitCount_0f7a4_21 : decode cJ6_bitCount_0f7a4 21 = .ok (.iand, 1) := by decide +kernel
theorem dJ6_bitCount_0f7a4_22 : decode cJ6_bitCount_0f7a4 22 = .ok (.iadd, 1) := by decide +kernel
theorem dJ6_bitCount_0f7a4_23 : decode cJ6_bitCount_0f7a4 23 = .ok (.istore_n 0, 1) := by decide +kernel
theorem dJ6_bitCount_0f7a4_24 : decode cJ6_bitCount_0f7a4 24 = .ok (.iload_n 0, 1) := by decide +kernel
theorem dJ6_bitCount_0f7a4_25 : decode cJ6_bitCount_0f7a4 25 = .ok (.iload_n 0, 1) := by decide +kernel
theorem dJ6_bitCount_0f7a4_26 : decode cJ6_bitCount_0f7a4 26 = .ok (.iconst 4, 1) := by decide +kernel
theorem dJ6_bitCount_0f7a4_27 : decode cJ6_bitCount_0f7a4 27 = .ok (.iushr, 1) := by decide +kernel
theorem dJ6_bitCount_0f7a4_28 : decode cJ6_bitCount_0f7a4 28 = .ok (.iadd, 1) := by decide +kernel
theorem dJ6_bitCount_0f7a4_29 : decode cJ6_bitCount_0f7a4 29 = .ok (.ldc_w 267, 3) := by decide +kernel
theorem dJ6_bitCount_0f7a4_32 : decode cJ6_bitCount_0f7a4 32 = .ok (.iand, 1) := by decide +kernel
theorem dJ6_bitCount_0f7a4_33 : decode cJ6_bitCount_0f7a4 33 = .ok (.istore_n 0, 1) := by decide +kernel
theorem dJ6_bitCount_0f7a4_34 : decode cJ6_bitCount_0f7a4 34 = .ok (.iload_n 0, 1) := by decide +kernel
theorem dJ6_bitCount_0f7a4_35 : decode cJ6_bitCount_0f7a4 35 = .ok (.iload_n 0, 1) := by decide +kernel
theorem dJ6_bitCount_0f7a4_36 : decode cJ6_bitCount_0f7a4 36 = .ok (.bipush 8, 2) := by decide +kernel
theorem dJ6_bitCount_0f7a4_38 : decode cJ6_bitCount_0f7a4 38 = .ok (.iushr, 1) := by decide +kernel
theorem dJ6_bitCount_0f7a4_39 : decode cJ6_bitCount_0f7a4 39 = .ok (.iadd, 1) := by decide +kernel
theorem dJ6_bitCount_0f7a4_40 : decode cJ6_bitCount_0f7a4 40 = .ok (.istore_n 0, 1) := by decide +kernel
theorem dJ6_bitCount_0f7a4_41 : decode cJ6_bitCount_0f7a4 41 = .ok (.iload_n 0, 1) := by decide +kernel
theorem dJ6_bitCount_0f7a4_42 : decode cJ6_bitCount_0f7a4 42 = .ok (.iload_n 0, 1) := by decide +kernel
theorem dJ6_bitCount_0f7a4_43 : decode cJ6_bitCount_0f7a4 43 = .ok (.bipush 16, 2) := by decide +kernel
theorem dJ6_bitCount_0f7a4_45 : decode cJ6_bitCount_0f7a4 45 = .ok (.iushr, 1) := by decide +kernel
theorem dJ6_bitCount_0f7a4_46 : decode cJ6_bitCount_0f7a4 46 = .ok (.iadd, 1) := by decide +kernel
theorem dJ6_bitCount_0f7a4_47 : decode cJ6_bitCount_0f7a4 47 = .ok (.istore_n 0, 1) := by decide +kernel
theorem dJ6_bitCount_0f7a4_48 : decode cJ6_bitCount_0f7a4 48 = .ok (.iload_n 0, 1) := by decide +kernel
theorem dJ6_bitCount_0f7a4_49 : decode cJ6_bitCount_0f7a4 49 = .ok (.bipush 63, 2) := by decide +kernel
theorem dJ6_bitCount_0f7a4_51 : decode cJ6_bitCount_0f7a4 51 = .ok (.iand, 1) := by decide +kernel
theorem dJ6_bitCount_0f7a4_52 : decode cJ6_bitCount_0f7a4 52 = .ok (.ireturn, 1) := by decide +kernel
theorem dJ9_max_7cf53_0 : decode cJ9_max_7cf53 0 = .ok (.iload_n 0, 1) := by decide +kernel
theorem dJ9_max_7cf53_1 : decode cJ9_max_7cf53 1 = .ok (.iload_n 1, 1) := by decide +kernel
theorem dJ9_max_7cf53_2 : decode cJ9_max_7cf53 2 = .ok (.if_icmp .lt 7, 3) := by decide +kernel
theorem dJ9_max_7cf53_5 : decode cJ9_max_7cf53 5 = .ok (.iload_n 0, 1) := by decide +kernel
theorem dJ9_max_7cf53_6 : decode cJ9_max_7cf53 6 = .ok (.goto 4, 3) := by decide +kernel
theorem dJ9_max_7cf53_9 : decode cJ9_max_7cf53 9 = .ok (.iload_n 1, 1) := by decide +kernel
theorem dJ9_max_7cf53_10 : decode cJ9_max_7cf53 10 = .ok (.ireturn, 1) := by decide +kernel
theorem dJ9_min_7cf53_0 : decode cJ9_min_7cf53 0 = .ok (.iload_n 0, 1) := by decide +kernel
theorem dJ9_min_7cf53_1 : decode cJ9_min_7cf53 1 = .ok (.iload_n 1, 1) := by decide +kernel
theorem dJ9_min_7cf53_2 : decode cJ9_min_7cf53 2 = .ok (.if_icmp .gt 7, 3) := by decide +kernel
theorem dJ9_min_7cf53_5 : decode cJ9_min_7cf53 5 = .ok (.iload_n 0, 1) := by decide +kernel
theorem dJ9_min_7cf53_6 : decode cJ9_min_7cf53 6 = .ok (.goto 4, 3) := by decide +kernel
theorem dJ9_min_7cf53_9 : decode cJ9_min_7cf53 9 = .ok (.iload_n 1, 1) := by decide +kernel
theorem dJ9_min_7cf53_10 : decode cJ9_min_7cf53 10 = .ok (.ireturn, 1) := by decide +kernel
theorem dJ0_length_8abf5_0 : decode cJ0_length_8abf5 0 = .ok (.aload_n 0, 1) := by decide +kernel
theorem dJ0_length_8abf5_1 : decode cJ0_length_8abf5 1 = .ok (.getfield 9, 3) := by decide +kernel
theorem dJ0_length_8abf5_4 : decode cJ0_length_8abf5 4 = .ok (.arraylength, 1) := by decide +kernel
theorem dJ0_length_8abf5_5 : decode cJ0_length_8abf5 5 = .ok (.aload_n 0, 1) := by decide +kernel
theorem dJ0_length_8abf5_6 : decode cJ0_length_8abf5 6 = .ok (.invokevirtual 335, 3) := by decide +kernel
theorem dJ0_length_8abf5_9 : decode cJ0_length_8abf5 9 = .ok (.ishr, 1) := by decide +kernel
theorem dJ0_length_8abf5_10 : decode cJ0_length_8abf5 10 = .ok (.ireturn, 1) := by decide +kernel
theorem dJ0_charAt_5068e_0 : decode cJ0_charAt_5068e 0 = .ok (.aload_n 0, 1) := by decide +kernel
theorem dJ0_charAt_5068e_1 : decode cJ0_charAt_5068e 1 = .ok (.invokevirtual 492, 3) := by decide +kernel
theorem dJ0_charAt_5068e_4 : decode cJ0_charAt_5068e 4 = .ok (.ifCond .eq 12, 3) := by decide +kernel
theorem dJ0_charAt_5068e_7 : decode cJ0_charAt_5068e 7 = .ok (.aload_n 0, 1) := by decide +kernel
theorem dJ0_charAt_5068e_8 : decode cJ0_charAt_5068e 8 = .ok (.getfield 9, 3) := by decide +kernel
theorem dJ0_charAt_5068e_11 : decode cJ0_charAt_5068e 11 = .ok (.iload_n 1, 1) := by decide +kernel
theorem dJ0_charAt_5068e_12 : decode cJ0_charAt_5068e 12 = .ok (.invokestatic 495, 3) := by decide +kernel
theorem dJ0_charAt_5068e_15 : decode cJ0_charAt_5068e 15 = .ok (.ireturn, 1) := by decide +kernel
theorem dJ0_charAt_5068e_16 : decode cJ0_charAt_5068e 16 = .ok (.aload_n 0, 1) := by decide +kernel
theorem dJ0_charAt_5068e_17 : decode cJ0_charAt_5068e 17 = .ok (.getfield 9, 3) := by decide +kernel
theorem dJ0_charAt_5068e_20 : decode cJ0_charAt_5068e 20 = .ok (.iload_n 1, 1) := by decide +kernel
theorem dJ0_charAt_5068e_21 : decode cJ0_charAt_5068e 21 = .ok (.invokestatic 498, 3) := by decide +kernel
theorem dJ0_charAt_5068e_24 : decode cJ0_charAt_5068e 24 = .ok (.ireturn, 1) := by decide +kernel
theorem dJ0_indexOf_0f7a4_0 : decode cJ0_indexOf_0f7a4 0 = .ok (.aload_n 0, 1) := by decide +kernel
theorem dJ0_indexOf_0f7a4_1 : decode cJ0_indexOf_0f7a4 1 = .ok (.iload_n 1, 1) := by decide +kernel
theorem dJ0_indexOf_0f7a4_2 : decode cJ0_indexOf_0f7a4 2 = .ok (.iconst 0, 1) := by decide +kernel
theorem dJ0_indexOf_0f7a4_3 : decode cJ0_indexOf_0f7a4 3 = .ok (.invokevirtual 633, 3) := by decide +kernel
theorem dJ0_indexOf_0f7a4_6 : decode cJ0_indexOf_0f7a4 6 = .ok (.ireturn, 1) := by decide +kernel
theorem dJ0_indexOf_7cf53_0 : decode cJ0_indexOf_7cf53 0 = .ok (.aload_n 0, 1) := by decide +kernel
theorem dJ0_indexOf_7cf53_1 : decode cJ0_indexOf_7cf53 1 = .ok (.invokevirtual 492, 3) := by decide +kernel
theorem dJ0_indexOf_7cf53_4 : decode cJ0_indexOf_7cf53 4 = .ok (.ifCond .eq 19, 3) := by decide +kernel
theorem dJ0_indexOf_7cf53_7 : decode cJ0_indexOf_7cf53 7 = .ok (.aload_n 0, 1) := by decide +kernel
theorem dJ0_indexOf_7cf53_8 : decode cJ0_indexOf_7cf53 8 = .ok (.getfield 9, 3) := by decide +kernel
theorem dJ0_indexOf_7cf53_11 : decode cJ0_indexOf_7cf53 11 = .ok (.iload_n 1, 1) := by decide +kernel
theorem dJ0_indexOf_7cf53_12 : decode cJ0_indexOf_7cf53 12 = .ok (.iload_n 2, 1) := by decide +kernel
theorem dJ0_indexOf_7cf53_13 : decode cJ0_indexOf_7cf53 13 = .ok (.aload_n 0, 1) := by decide +kernel
theorem dJ0_indexOf_7cf53_14 : decode cJ0_indexOf_7cf53 14 = .ok (.invokevirtual 505, 3) := by decide +kernel
theorem dJ0_indexOf_7cf53_17 : decode cJ0_indexOf_7cf53 17 = .ok (.invokestatic 637, 3) := by decide +kernel
theorem dJ0_indexOf_7cf53_20 : decode cJ0_indexOf_7cf53 20 = .ok (.goto 16, 3) := by decide +kernel
theorem dJ0_indexOf_7cf53_23 : decode cJ0_indexOf_7cf53 23 = .ok (.aload_n 0, 1) := by decide +kernel
theorem dJ0_indexOf_7cf53_24 : decode cJ0_indexOf_7cf53 24 = .ok (.getfield 9, 3) := by decide +kernel
theorem dJ0_indexOf_7cf53_27 : decode cJ0_indexOf_7cf53 27 = .ok (.iload_n 1, 1) := by decide +kernel
theorem dJ0_indexOf_7cf53_28 : decode cJ0_indexOf_7cf53 28 = .ok (.iload_n 2, 1) := by decide +kernel
theorem dJ0_indexOf_7cf53_29 : decode cJ0_indexOf_7cf53 29 = .ok (.aload_n 0, 1) := by decide +kernel
theorem dJ0_indexOf_7cf53_30 : decode cJ0_indexOf_7cf53 30 = .ok (.invokevirtual 505, 3) := by decide +kernel
theorem dJ0_indexOf_7cf53_33 : decode cJ0_indexOf_7cf53 33 = .ok (.invokestatic 640, 3) := by decide +kernel
theorem dJ0_indexOf_7cf53_36 : decode cJ0_indexOf_7cf53 36 = .ok (.ireturn, 1) := by decide +kernel
theorem dJ0_coder_7d493_0 : decode cJ0_coder_7d493 0 = .ok (.getstatic 38, 3) := by decide +kernel
theorem dJ0_coder_7d493_3 : decode cJ0_coder_7d493 3 = .ok (.ifCond .eq 10, 3) := by decide +kernel
theorem dJ0_coder_7d493_6 : decode cJ0_coder_7d493 6 = .ok (.aload_n 0, 1) := by decide +kernel
theorem dJ0_coder_7d493_7 : decode cJ0_coder_7d493 7 = .ok (.getfield 15, 3) := by decide +kernel
theorem dJ0_coder_7d493_10 : decode cJ0_coder_7d493 10 = .ok (.goto 4, 3) := by decide +kernel
theorem dJ0_coder_7d493_13 : decode cJ0_coder_7d493 13 = .ok (.iconst 1, 1) := by decide +kernel
theorem dJ0_coder_7d493_14 : decode cJ0_coder_7d493 14 = .ok (.ireturn, 1) := by decide +kernel
theorem dJ0_isLatin1_aae02_0 : decode cJ0_isLatin1_aae02 0 = .ok (.getstatic 38, 3) := by decide +kernel
theorem dJ0_isLatin1_aae02_3 : decode cJ0_isLatin1_aae02 3 = .ok (.ifCond .eq 14, 3) := by decide +kernel
theorem dJ0_isLatin1_aae02_6 : decode cJ0_isLatin1_aae02 6 = .ok (.aload_n 0, 1) := by decide +kernel
theorem dJ0_isLatin1_aae02_7 : decode cJ0_isLatin1_aae02 7 = .ok (.getfield 15, 3) := by decide +kernel
theorem dJ0_isLatin1_aae02_10 : decode cJ0_isLatin1_aae02 10 = .ok (.ifCond .ne 7, 3) := by decide +kernel
theorem dJ0_isLatin1_aae02_13 : decode cJ0_isLatin1_aae02 13 = .ok (.iconst 1, 1) := by decide +kernel
theorem dJ0_isLatin1_aae02_14 : decode cJ0_isLatin1_aae02 14 = .ok (.goto 4, 3) := by decide +kernel
theorem dJ0_isLatin1_aae02_17 : decode cJ0_isLatin1_aae02 17 = .ok (.iconst 0, 1) := by decide +kernel
theorem dJ0_isLatin1_aae02_18 : decode cJ0_isLatin1_aae02 18 = .ok (.ireturn, 1) := by decide +kernel
theorem dJ0_checkIndex_df160_0 : decode cJ0_checkIndex_df160 0 = .ok (.iload_n 0, 1) := by decide +kernel
theorem dJ0_checkIndex_df160_1 : decode cJ0_checkIndex_df160 1 = .ok (.iload_n 1, 1) := by decide +kernel
theorem dJ0_checkIndex_df160_2 : decode cJ0_checkIndex_df160 2 = .ok (.getstatic 1053, 3) := by decide +kernel
theorem dJ0_checkIndex_df160_5 : decode cJ0_checkIndex_df160 5 = .ok (.invokestatic 1059, 3) := by decide +kernel
theorem dJ0_checkIndex_df160_8 : decode cJ0_checkIndex_df160 8 = .ok (.pop, 1) := by decide +kernel
theorem dJ0_checkIndex_df160_9 : decode cJ0_checkIndex_df160 9 = .ok (.return_, 1) := by decide +kernel
theorem dJ0_checkBoundsBeginEnd_23922_0 : decode cJ0_checkBoundsBeginEnd_23922 0 = .ok (.iload_n 0, 1) := by decide +kernel
theorem dJ0_checkBoundsBeginEnd_23922_1 : decode cJ0_checkBoundsBeginEnd_23922 1 = .ok (.iload_n 1, 1) := by decide +kernel
theorem dJ0_checkBoundsBeginEnd_23922_2 : decode cJ0_checkBoundsBeginEnd_23922 2 = .ok (.iload_n 2, 1) := by decide +kernel
theorem dJ0_checkBoundsBeginEnd_23922_3 : decode cJ0_checkBoundsBeginEnd_23922 3 = .ok (.getstatic 1053, 3) := by decide +kernel
theorem dJ0_checkBoundsBeginEnd_23922_6 : decode cJ0_checkBoundsBeginEnd_23922 6 = .ok (.invokestatic 1062, 3) := by decide +kernel
theorem dJ0_checkBoundsBeginEnd_23922_9 : decode cJ0_checkBoundsBeginEnd_23922 9 = .ok (.pop, 1) := by decide +kernel
theorem dJ0_checkBoundsBeginEnd_23922_10 : decode cJ0_checkBoundsBeginEnd_23922 10 = .ok (.return_, 1) := by decide +kernel
theorem dJ1_charAt_3b067_0 : decode cJ1_charAt_3b067 0 = .ok (.iload_n 1, 1) := by decide +kernel
theorem dJ1_charAt_3b067_1 : decode cJ1_charAt_3b067 1 = .ok (.aload_n 0, 1) := by decide +kernel
theorem dJ1_charAt_3b067_2 : decode cJ1_charAt_3b067 2 = .ok (.arraylength, 1) := by decide +kernel
theorem dJ1_charAt_3b067_3 : decode cJ1_charAt_3b067 3 = .ok (.invokestatic 9, 3) := by decide +kernel
theorem dJ1_charAt_3b067_6 : decode cJ1_charAt_3b067 6 = .ok (.aload_n 0, 1) := by decide +kernel
theorem dJ1_charAt_3b067_7 : decode cJ1_charAt_3b067 7 = .ok (.iload_n 1, 1) := by decide +kernel
theorem dJ1_charAt_3b067_8 : decode cJ1_charAt_3b067 8 = .ok (.baload, 1) := by decide +kernel
theorem dJ1_charAt_3b067_9 : decode cJ1_charAt_3b067 9 = .ok (.sipush 255, 3) := by decide +kernel
theorem dJ1_charAt_3b067_12 : decode cJ1_charAt_3b067 12 = .ok (.iand, 1) := by decide +kernel
theorem dJ1_charAt_3b067_13 : decode cJ1_charAt_3b067 13 = .ok (.i2c, 1) := by decide +kernel
theorem dJ1_charAt_3b067_14 : decode cJ1_charAt_3b067 14 = .ok (.ireturn, 1) := by decide +kernel
theorem dJ1_canEncode_9a6ad_0 : decode cJ1_canEncode_9a6ad 0 = .ok (.iload_n 0, 1) := by decide +kernel
theorem dJ1_canEncode_9a6ad_1 : decode cJ1_canEncode_9a6ad 1 = .ok (.ifCond .lt 14, 3) := by decide +kernel
theorem dJ1_canEncode_9a6ad_4 : decode cJ1_canEncode_9a6ad 4 = .ok (.iload_n 0, 1) := by decide +kernel
theorem dJ1_canEncode_9a6ad_5 : decode cJ1_canEncode_9a6ad 5 = .ok (.sipush 255, 3) := by decide +kernel
theorem dJ1_canEncode_9a6ad_8 : decode cJ1_canEncode_9a6ad 8 = .ok (.if_icmp .gt 7, 3) := by decide +kernel
theorem dJ1_canEncode_9a6ad_11 : decode cJ1_canEncode_9a6ad 11 = .ok (.iconst 1, 1) := by decide +kernel
theorem dJ1_canEncode_9a6ad_12 : decode cJ1_canEncode_9a6ad 12 = .ok (.goto 4, 3) := by decide +kernel
theorem dJ1_canEncode_9a6ad_15 : decode cJ1_canEncode_9a6ad 15 = .ok (.iconst 0, 1) := by decide +kernel
theorem dJ1_canEncode_9a6ad_16 : decode cJ1_canEncode_9a6ad 16 = .ok (.ireturn, 1) := by decide +kernel
theorem dJ1_indexOf_4cfef_0 : decode cJ1_indexOf_4cfef 0 = .ok (.iload_n 1, 1) := by decide +kernel
theorem dJ1_indexOf_4cfef_1 : decode cJ1_indexOf_4cfef 1 = .ok (.invokestatic 88, 3) := by decide +kernel
theorem dJ1_indexOf_4cfef_4 : decode cJ1_indexOf_4cfef 4 = .ok (.ifCond .ne 5, 3) := by decide +kernel
theorem dJ1_indexOf_4cfef_7 : decode cJ1_indexOf_4cfef 7 = .ok (.iconst (-1), 1) := by decide +kernel
theorem dJ1_indexOf_4cfef_8 : decode cJ1_indexOf_4cfef 8 = .ok (.ireturn, 1) := by decide +kernel
theorem dJ1_indexOf_4cfef_9 : decode cJ1_indexOf_4cfef 9 = .ok (.iload_n 2, 1) := by decide +kernel
theorem dJ1_indexOf_4cfef_10 : decode cJ1_indexOf_4cfef 10 = .ok (.iconst 0, 1) := by decide +kernel
theorem dJ1_indexOf_4cfef_11 : decode cJ1_indexOf_4cfef 11 = .ok (.invokestatic 92, 3) := by decide +kernel
theorem dJ1_indexOf_4cfef_14 : decode cJ1_indexOf_4cfef 14 = .ok (.istore_n 2, 1) := by decide +kernel
theorem dJ1_indexOf_4cfef_15 : decode cJ1_indexOf_4cfef 15 = .ok (.iload_n 3, 1) := by decide +kernel
theorem dJ1_indexOf_4cfef_16 : decode cJ1_indexOf_4cfef 16 = .ok (.aload_n 0, 1) := by decide +kernel
theorem dJ1_indexOf_4cfef_17 : decode cJ1_indexOf_4cfef 17 = .ok (.arraylength, 1) := by decide +kernel
theorem dJ1_indexOf_4cfef_18 : decode cJ1_indexOf_4cfef 18 = .ok (.invokestatic 38, 3) := by decide +kernel
theorem dJ1_indexOf_4cfef_21 : decode cJ1_indexOf_4cfef 21 = .ok (.istore_n 3, 1) := by decide +kernel
theorem dJ1_indexOf_4cfef_22 : decode cJ1_indexOf_4cfef 22 = .ok (.iload_n 2, 1) := by decide +kernel
theorem dJ1_indexOf_4cfef_23 : decode cJ1_indexOf_4cfef 23 = .ok (.iload_n 3, 1) := by decide +kernel
theorem dJ1_indexOf_4cfef_24 : decode cJ1_indexOf_4cfef 24 = .ok (.if_icmp .lt 5, 3) := by decide +kernel
theorem dJ1_indexOf_4cfef_27 : decode cJ1_indexOf_4cfef 27 = .ok (.iconst (-1), 1) := by decide +kernel
theorem dJ1_indexOf_4cfef_28 : decode cJ1_indexOf_4cfef 28 = .ok (.ireturn, 1) := by decide +kernel
theorem dJ1_indexOf_4cfef_29 : decode cJ1_indexOf_4cfef 29 = .ok (.aload_n 0, 1) := by decide +kernel
theorem dJ1_indexOf_4cfef_30 : decode cJ1_indexOf_4cfef 30 = .ok (.iload_n 1, 1) := by decide +kernel
theorem dJ1_indexOf_4cfef_31 : decode cJ1_indexOf_4cfef 31 = .ok (.iload_n 2, 1) := by decide +kernel
theorem dJ1_indexOf_4cfef_32 : decode cJ1_indexOf_4cfef 32 = .ok (.iload_n 3, 1) := by decide +kernel
theorem dJ1_indexOf_4cfef_33 : decode cJ1_indexOf_4cfef 33 = .ok (.invokestatic 95, 3) := by decide +kernel
theorem dJ1_indexOf_4cfef_36 : decode cJ1_indexOf_4cfef 36 = .ok (.ireturn, 1) := by decide +kernel
theorem dJ1_indexOfChar_4cfef_0 : decode cJ1_indexOfChar_4cfef 0 = .ok (.iload_n 1, 1) := by decide +kernel
theorem dJ1_indexOfChar_4cfef_1 : decode cJ1_indexOfChar_4cfef 1 = .ok (.i2b, 1) := by decide +kernel
theorem dJ1_indexOfChar_4cfef_2 : decode cJ1_indexOfChar_4cfef 2 = .ok (.istore 4, 2) := by decide +kernel
theorem dJ1_indexOfChar_4cfef_4 : decode cJ1_indexOfChar_4cfef 4 = .ok (.iload_n 2, 1) := by decide +kernel
theorem dJ1_indexOfChar_4cfef_5 : decode cJ1_indexOfChar_4cfef 5 = .ok (.istore 5, 2) := by decide +kernel
theorem dJ1_indexOfChar_4cfef_7 : decode cJ1_indexOfChar_4cfef 7 = .ok (.iload 5, 2) := by decide +kernel
theorem dJ1_indexOfChar_4cfef_9 : decode cJ1_indexOfChar_4cfef 9 = .ok (.iload_n 3, 1) := by decide +kernel
theorem dJ1_indexOfChar_4cfef_10 : decode cJ1_indexOfChar_4cfef 10 = .ok (.if_icmp .ge 21, 3) := by decide +kernel
theorem dJ1_indexOfChar_4cfef_13 : decode cJ1_indexOfChar_4cfef 13 = .ok (.aload_n 0, 1) := by decide +kernel
theorem dJ1_indexOfChar_4cfef_14 : decode cJ1_indexOfChar_4cfef 14 = .ok (.iload 5, 2) := by decide +kernel
theorem dJ1_indexOfChar_4cfef_16 : decode cJ1_indexOfChar_4cfef 16 = .ok (.baload, 1) := by decide +kernel
theorem dJ1_indexOfChar_4cfef_17 : decode cJ1_indexOfChar_4cfef 17 = .ok (.iload 4, 2) := by decide +kernel
theorem dJ1_indexOfChar_4cfef_19 : decode cJ1_indexOfChar_4cfef 19 = .ok (.if_icmp .ne 6, 3) := by decide +kernel
theorem dJ1_indexOfChar_4cfef_22 : decode cJ1_indexOfChar_4cfef 22 = .ok (.iload 5, 2) := by decide +kernel
theorem dJ1_indexOfChar_4cfef_24 : decode cJ1_indexOfChar_4cfef 24 = .ok (.ireturn, 1) := by decide +kernel
theorem dJ1_indexOfChar_4cfef_25 : decode cJ1_indexOfChar_4cfef 25 = .ok (.iinc 5 1, 3) := by decide +kernel
theorem dJ1_indexOfChar_4cfef_28 : decode cJ1_indexOfChar_4cfef 28 = .ok (.goto (-21), 3) := by decide +kernel
theorem dJ1_indexOfChar_4cfef_31 : decode cJ1_indexOfChar_4cfef 31 = .ok (.iconst (-1), 1) := by decide +kernel
theorem dJ1_indexOfChar_4cfef_32 : decode cJ1_indexOfChar_4cfef 32 = .ok (.ireturn, 1) := by decide +kernel
theorem dJ2_getChar_3b067_0 : decode cJ2_getChar_3b067 0 = .ok (.getstatic 44, 3) := by decide +kernel
theorem dJ2_getChar_3b067_3 : decode cJ2_getChar_3b067 3 = .ok (.ifCond .ne 25, 3) := by decide +kernel
theorem dJ2_getChar_3b067_6 : decode cJ2_getChar_3b067 6 = .ok (.iload_n 1, 1) := by decide +kernel
theorem dJ2_getChar_3b067_7 : decode cJ2_getChar_3b067 7 = .ok (.ifCond .lt 11, 3) := by decide +kernel
theorem dJ2_getChar_3b067_10 : decode cJ2_getChar_3b067 10 = .ok (.iload_n 1, 1) := by decide +kernel
theorem dJ2_getChar_3b067_11 : decode cJ2_getChar_3b067 11 = .ok (.aload_n 0, 1) := by decide +kernel
theorem dJ2_getChar_3b067_12 : decode cJ2_getChar_3b067 12 = .ok (.invokestatic 48, 3) := by decide +kernel
theorem dJ2_getChar_3b067_15 : decode cJ2_getChar_3b067 15 = .ok (.if_icmp .lt 13, 3) := by decide +kernel
theorem dJ2_getChar_3b067_18 : decode cJ2_getChar_3b067 18 = .ok (.new 52, 3) := by decide +kernel
theorem dJ2_getChar_3b067_21 : decode cJ2_getChar_3b067 21 = .ok (.dup, 1) := by decide +kernel
theorem dJ2_getChar_3b067_22 : decode cJ2_getChar_3b067 22 = .ok (.ldc 54, 2) := by decide +kernel
theorem dJ2_getChar_3b067_24 : decode cJ2_getChar_3b067 24 = .ok (.invokespecial 56, 3) := by decide +kernel
theorem dJ2_getChar_3b067_27 : decode cJ2_getChar_3b067 27 = .ok (.athrow, 1) := by decide +kernel
theorem dJ2_getChar_3b067_28 : decode cJ2_getChar_3b067 28 = .ok (.iload_n 1, 1) := by decide +kernel
theorem dJ2_getChar_3b067_29 : decode cJ2_getChar_3b067 29 = .ok (.iconst 1, 1) := by decide +kernel
theorem dJ2_getChar_3b067_30 : decode cJ2_getChar_3b067 30 = .ok (.ishl, 1) := by decide +kernel
theorem dJ2_getChar_3b067_31 : decode cJ2_getChar_3b067 31 = .ok (.istore_n 1, 1) := by decide +kernel
theorem dJ2_getChar_3b067_32 : decode cJ2_getChar_3b067 32 = .ok (.aload_n 0, 1) := by decide +kernel
theorem dJ2_getChar_3b067_33 : decode cJ2_getChar_3b067 33 = .ok (.iload_n 1, 1) := by decide +kernel
theorem dJ2_getChar_3b067_34 : decode cJ2_getChar_3b067 34 = .ok (.iinc 1 1, 3) := by decide +kernel
theorem dJ2_getChar_3b067_37 : decode cJ2_getChar_3b067 37 = .ok (.baload, 1) := by decide +kernel
theorem dJ2_getChar_3b067_38 : decode cJ2_getChar_3b067 38 = .ok (.sipush 255, 3) := by decide +kernel
theorem dJ2_getChar_3b067_41 : decode cJ2_getChar_3b067 41 = .ok (.iand, 1) := by decide +kernel
theorem dJ2_getChar_3b067_42 : decode cJ2_getChar_3b067 42 = .ok (.getstatic 59, 3) := by decide +kernel
theorem dJ2_getChar_3b067_45 : decode cJ2_getChar_3b067 45 = .ok (.ishl, 1) := by decide +kernel
theorem dJ2_getChar_3b067_46 : decode cJ2_getChar_3b067 46 = .ok (.aload_n 0, 1) := by decide +kernel
theorem dJ2_getChar_3b067_47 : decode cJ2_getChar_3b067 47 = .ok (.iload_n 1, 1) := by decide +kernel
theorem dJ2_getChar_3b067_48 : decode cJ2_getChar_3b067 48 = .ok (.baload, 1) := by decide +kernel
theorem dJ2_getChar_3b067_49 : decode cJ2_getChar_3b067 49 = .ok (.sipush 255, 3) := by decide +kernel
theorem dJ2_getChar_3b067_52 : decode cJ2_getChar_3b067 52 = .ok (.iand, 1) := by decide +kernel
theorem dJ2_getChar_3b067_53 : decode cJ2_getChar_3b067 53 = .ok (.getstatic 63, 3) := by decide +kernel
theorem dJ2_getChar_3b067_56 : decode cJ2_getChar_3b067 56 = .ok (.ishl, 1) := by decide +kernel
theorem dJ2_getChar_3b067_57 : decode cJ2_getChar_3b067 57 = .ok (.ior, 1) := by decide +kernel
theorem dJ2_getChar_3b067_58 : decode cJ2_getChar_3b067 58 = .ok (.i2c, 1) := by decide +kernel
theorem dJ2_getChar_3b067_59 : decode cJ2_getChar_3b067 59 = .ok (.ireturn, 1) := by decide +kernel
theorem dJ2_length_9d52b_0 : decode cJ2_length_9d52b 0 = .ok (.aload_n 0, 1) := by decide +kernel
theorem dJ2_length_9d52b_1 : decode cJ2_length_9d52b 1 = .ok (.arraylength, 1) := by decide +kernel
theorem dJ2_length_9d52b_2 : decode cJ2_length_9d52b 2 = .ok (.iconst 1, 1) := by decide +kernel
theorem dJ2_length_9d52b_3 : decode cJ2_length_9d52b 3 = .ok (.ishr, 1) := by decide +kernel
theorem dJ2_length_9d52b_4 : decode cJ2_length_9d52b 4 = .ok (.ireturn, 1) := by decide +kernel
theorem dJ2_indexOf_4cfef_0 : decode cJ2_indexOf_4cfef 0 = .ok (.iload_n 2, 1) := by decide +kernel
theorem dJ2_indexOf_4cfef_1 : decode cJ2_indexOf_4cfef 1 = .ok (.iconst 0, 1) := by decide +kernel
theorem dJ2_indexOf_4cfef_2 : decode cJ2_indexOf_4cfef 2 = .ok (.invokestatic 224, 3) := by decide +kernel
theorem dJ2_indexOf_4cfef_5 : decode cJ2_indexOf_4cfef 5 = .ok (.istore_n 2, 1) := by decide +kernel
theorem dJ2_indexOf_4cfef_6 : decode cJ2_indexOf_4cfef 6 = .ok (.iload_n 3, 1) := by decide +kernel
theorem dJ2_indexOf_4cfef_7 : decode cJ2_indexOf_4cfef 7 = .ok (.aload_n 0, 1) := by decide +kernel
theorem dJ2_indexOf_4cfef_8 : decode cJ2_indexOf_4cfef 8 = .ok (.arraylength, 1) := by decide +kernel
theorem dJ2_indexOf_4cfef_9 : decode cJ2_indexOf_4cfef 9 = .ok (.iconst 1, 1) := by decide +kernel
theorem dJ2_indexOf_4cfef_10 : decode cJ2_indexOf_4cfef 10 = .ok (.ishr, 1) := by decide +kernel
theorem dJ2_indexOf_4cfef_11 : decode cJ2_indexOf_4cfef 11 = .ok (.invokestatic 183, 3) := by decide +kernel
theorem dJ2_indexOf_4cfef_14 : decode cJ2_indexOf_4cfef 14 = .ok (.istore_n 3, 1) := by decide +kernel
theorem dJ2_indexOf_4cfef_15 : decode cJ2_indexOf_4cfef 15 = .ok (.iload_n 2, 1) := by decide +kernel
theorem dJ2_indexOf_4cfef_16 : decode cJ2_indexOf_4cfef 16 = .ok (.iload_n 3, 1) := by decide +kernel
theorem dJ2_indexOf_4cfef_17 : decode cJ2_indexOf_4cfef 17 = .ok (.if_icmp .lt 5, 3) := by decide +kernel
theorem dJ2_indexOf_4cfef_20 : decode cJ2_indexOf_4cfef 20 = .ok (.iconst (-1), 1) := by decide +kernel
theorem dJ2_indexOf_4cfef_21 : decode cJ2_indexOf_4cfef 21 = .ok (.ireturn, 1) := by decide +kernel
theorem dJ2_indexOf_4cfef_22 : decode cJ2_indexOf_4cfef 22 = .ok (.iload_n 1, 1) := by decide +kernel
theorem dJ2_indexOf_4cfef_23 : decode cJ2_indexOf_4cfef 23 = .ok (.ldc 227, 2) := by decide +kernel
theorem dJ2_indexOf_4cfef_25 : decode cJ2_indexOf_4cfef 25 = .ok (.if_icmp .ge 11, 3) := by decide +kernel
theorem dJ2_indexOf_4cfef_28 : decode cJ2_indexOf_4cfef 28 = .ok (.aload_n 0, 1) := by decide +kernel
theorem dJ2_indexOf_4cfef_29 : decode cJ2_indexOf_4cfef 29 = .ok (.iload_n 1, 1) := by decide +kernel
theorem dJ2_indexOf_4cfef_30 : decode cJ2_indexOf_4cfef 30 = .ok (.iload_n 2, 1) := by decide +kernel
theorem dJ2_indexOf_4cfef_31 : decode cJ2_indexOf_4cfef 31 = .ok (.iload_n 3, 1) := by decide +kernel
theorem dJ2_indexOf_4cfef_32 : decode cJ2_indexOf_4cfef 32 = .ok (.invokestatic 228, 3) := by decide +kernel
theorem dJ2_indexOf_4cfef_35 : decode cJ2_indexOf_4cfef 35 = .ok (.ireturn, 1) := by decide +kernel
theorem dJ2_indexOf_4cfef_36 : decode cJ2_indexOf_4cfef 36 = .ok (.aload_n 0, 1) := by decide +kernel
theorem dJ2_indexOf_4cfef_37 : decode cJ2_indexOf_4cfef 37 = .ok (.iload_n 1, 1) := by decide +kernel
theorem dJ2_indexOf_4cfef_38 : decode cJ2_indexOf_4cfef 38 = .ok (.iload_n 2, 1) := by decide +kernel
theorem dJ2_indexOf_4cfef_39 : decode cJ2_indexOf_4cfef 39 = .ok (.iload_n 3, 1) := by decide +kernel
theorem dJ2_indexOf_4cfef_40 : decode cJ2_indexOf_4cfef 40 = .ok (.invokestatic 232, 3) := by decide +kernel
theorem dJ2_indexOf_4cfef_43 : decode cJ2_indexOf_4cfef 43 = .ok (.ireturn, 1) := by decide +kernel
theorem dJ2_indexOfChar_4cfef_0 : decode cJ2_indexOfChar_4cfef 0 = .ok (.iload_n 2, 1) := by decide +kernel
theorem dJ2_indexOfChar_4cfef_1 : decode cJ2_indexOfChar_4cfef 1 = .ok (.iload_n 3, 1) := by decide +kernel
theorem dJ2_indexOfChar_4cfef_2 : decode cJ2_indexOfChar_4cfef 2 = .ok (.aload_n 0, 1) := by decide +kernel
theorem dJ2_indexOfChar_4cfef_3 : decode cJ2_indexOfChar_4cfef 3 = .ok (.invokestatic 96, 3) := by decide +kernel
theorem dJ2_indexOfChar_4cfef_6 : decode cJ2_indexOfChar_4cfef 6 = .ok (.aload_n 0, 1) := by decide +kernel
theorem dJ2_indexOfChar_4cfef_7 : decode cJ2_indexOfChar_4cfef 7 = .ok (.iload_n 1, 1) := by decide +kernel
theorem dJ2_indexOfChar_4cfef_8 : decode cJ2_indexOfChar_4cfef 8 = .ok (.iload_n 2, 1) := by decide +kernel
theorem dJ2_indexOfChar_4cfef_9 : decode cJ2_indexOfChar_4cfef 9 = .ok (.iload_n 3, 1) := by decide +kernel
theorem dJ2_indexOfChar_4cfef_10 : decode cJ2_indexOfChar_4cfef 10 = .ok (.invokestatic 244, 3) := by decide +kernel
theorem dJ2_indexOfChar_4cfef_13 : decode cJ2_indexOfChar_4cfef 13 = .ok (.ireturn, 1) := by decide +kernel
theorem dJ2_indexOfCharUnsafe_4cfef_0 : decode cJ2_indexOfCharUnsafe_4cfef 0 = .ok (.iload_n 2, 1) := by decide +kernel
theorem dJ2_indexOfCharUnsafe_4cfef_1 : decode cJ2_indexOfCharUnsafe_4cfef 1 = .ok (.istore 4, 2) := by decide +kernel
theorem dJ2_indexOfCharUnsafe_4cfef_3 : decode cJ2_indexOfCharUnsafe_4cfef 3 = .ok (.iload 4, 2) := by decide +kernel
theorem dJ2_indexOfCharUnsafe_4cfef_5 : decode cJ2_indexOfCharUnsafe_4cfef 5 = .ok (.iload_n 3, 1) := by decide +kernel
theorem dJ2_indexOfCharUnsafe_4cfef_6 : decode cJ2_indexOfCharUnsafe_4cfef 6 = .ok (.if_icmp .ge 22, 3) := by decide +kernel
theorem dJ2_indexOfCharUnsafe_4cfef_9 : decode cJ2_indexOfCharUnsafe_4cfef 9 = .ok (.aload_n 0, 1) := by decide +kernel
theorem dJ2_indexOfCharUnsafe_4cfef_10 : decode cJ2_indexOfCharUnsafe_4cfef 10 = .ok (.iload 4, 2) := by decide +kernel
theorem dJ2_indexOfCharUnsafe_4cfef_12 : decode cJ2_indexOfCharUnsafe_4cfef 12 = .ok (.invokestatic 71, 3) := by decide +kernel
theorem dJ2_indexOfCharUnsafe_4cfef_15 : decode cJ2_indexOfCharUnsafe_4cfef 15 = .ok (.iload_n 1, 1) := by decide +kernel
theorem dJ2_indexOfCharUnsafe_4cfef_16 : decode cJ2_indexOfCharUnsafe_4cfef 16 = .ok (.if_icmp .ne 6, 3) := by decide +kernel
theorem dJ2_indexOfCharUnsafe_4cfef_19 : decode cJ2_indexOfCharUnsafe_4cfef 19 = .ok (.iload 4, 2) := by decide +kernel
theorem dJ2_indexOfCharUnsafe_4cfef_21 : decode cJ2_indexOfCharUnsafe_4cfef 21 = .ok (.ireturn, 1) := by decide +kernel
theorem dJ2_indexOfCharUnsafe_4cfef_22 : decode cJ2_indexOfCharUnsafe_4cfef 22 = .ok (.iinc 4 1, 3) := by decide +kernel
theorem dJ2_indexOfCharUnsafe_4cfef_25 : decode cJ2_indexOfCharUnsafe_4cfef 25 = .ok (.goto (-22), 3) := by decide +kernel
theorem dJ2_indexOfCharUnsafe_4cfef_28 : decode cJ2_indexOfCharUnsafe_4cfef 28 = .ok (.iconst (-1), 1) := by decide +kernel
theorem dJ2_indexOfCharUnsafe_4cfef_29 : decode cJ2_indexOfCharUnsafe_4cfef 29 = .ok (.ireturn, 1) := by decide +kernel
theorem dJ2_indexOfSupplementary_4cfef_0 : decode cJ2_indexOfSupplementary_4cfef 0 = .ok (.iload_n 1, 1) := by decide +kernel
theorem dJ2_indexOfSupplementary_4cfef_1 : decode cJ2_indexOfSupplementary_4cfef 1 = .ok (.invokestatic 164, 3) := by decide +kernel
theorem dJ2_indexOfSupplementary_4cfef_4 : decode cJ2_indexOfSupplementary_4cfef 4 = .ok (.ifCond .eq 65, 3) := by decide +kernel
theorem dJ2_indexOfSupplementary_4cfef_7 : decode cJ2_indexOfSupplementary_4cfef 7 = .ok (.iload_n 1, 1) := by decide +kernel
theorem dJ2_indexOfSupplementary_4cfef_8 : decode cJ2_indexOfSupplementary_4cfef 8 = .ok (.invokestatic 157, 3) := by decide +kernel
theorem dJ2_indexOfSupplementary_4cfef_11 : decode cJ2_indexOfSupplementary_4cfef 11 = .ok (.istore 4, 2) := by decide +kernel
theorem dJ2_indexOfSupplementary_4cfef_13 : decode cJ2_indexOfSupplementary_4cfef 13 = .ok (.iload_n 1, 1) := by decide +kernel
theorem dJ2_indexOfSupplementary_4cfef_14 : decode cJ2_indexOfSupplementary_4cfef 14 = .ok (.invokestatic 161, 3) := by decide +kernel
theorem dJ2_indexOfSupplementary_4cfef_17 : decode cJ2_indexOfSupplementary_4cfef 17 = .ok (.istore 5, 2) := by decide +kernel
theorem dJ2_indexOfSupplementary_4cfef_19 : decode cJ2_indexOfSupplementary_4cfef 19 = .ok (.iload_n 2, 1) := by decide +kernel
theorem dJ2_indexOfSupplementary_4cfef_20 : decode cJ2_indexOfSupplementary_4cfef 20 = .ok (.iload_n 3, 1) := by decide +kernel
theorem dJ2_indexOfSupplementary_4cfef_21 : decode cJ2_indexOfSupplementary_4cfef 21 = .ok (.aload_n 0, 1) := by decide +kernel
theorem dJ2_indexOfSupplementary_4cfef_22 : decode cJ2_indexOfSupplementary_4cfef 22 = .ok (.invokestatic 96, 3) := by decide +kernel
theorem dJ2_indexOfSupplementary_4cfef_25 : decode cJ2_indexOfSupplementary_4cfef 25 = .ok (.iload_n 2, 1) := by decide +kernel
theorem dJ2_indexOfSupplementary_4cfef_26 : decode cJ2_indexOfSupplementary_4cfef 26 = .ok (.istore 6, 2) := by decide +kernel
theorem dJ2_indexOfSupplementary_4cfef_28 : decode cJ2_indexOfSupplementary_4cfef 28 = .ok (.iload 6, 2) := by decide +kernel
theorem dJ2_indexOfSupplementary_4cfef_30 : decode cJ2_indexOfSupplementary_4cfef 30 = .ok (.iload_n 3, 1) := by decide +kernel
theorem dJ2_indexOfSupplementary_4cfef_31 : decode cJ2_indexOfSupplementary_4cfef 31 = .ok (.iconst 1, 1) := by decide +kernel
theorem dJ2_indexOfSupplementary_4cfef_32 : decode cJ2_indexOfSupplementary_4cfef 32 = .ok (.isub, 1) := by decide +kernel
theorem dJ2_indexOfSupplementary_4cfef_33 : decode cJ2_indexOfSupplementary_4cfef 33 = .ok (.if_icmp .ge 36, 3) := by decide +kernel
theorem dJ2_indexOfSupplementary_4cfef_36 : decode cJ2_indexOfSupplementary_4cfef 36 = .ok (.aload_n 0, 1) := by decide +kernel
theorem dJ2_indexOfSupplementary_4cfef_37 : decode cJ2_indexOfSupplementary_4cfef 37 = .ok (.iload 6, 2) := by decide +kernel
theorem dJ2_indexOfSupplementary_4cfef_39 : decode cJ2_indexOfSupplementary_4cfef 39 = .ok (.invokestatic 71, 3) := by decide +kernel
theorem dJ2_indexOfSupplementary_4cfef_42 : decode cJ2_indexOfSupplementary_4cfef 42 = .ok (.iload 4, 2) := by decide +kernel
theorem dJ2_indexOfSupplementary_4cfef_44 : decode cJ2_indexOfSupplementary_4cfef 44 = .ok (.if_icmp .ne 19, 3) := by decide +kernel
theorem dJ2_indexOfSupplementary_4cfef_47 : decode cJ2_indexOfSupplementary_4cfef 47 = .ok (.aload_n 0, 1) := by decide +kernel
theorem dJ2_indexOfSupplementary_4cfef_48 : decode cJ2_indexOfSupplementary_4cfef 48 = .ok (.iload 6, 2) := by decide +kernel
theorem dJ2_indexOfSupplementary_4cfef_50 : decode cJ2_indexOfSupplementary_4cfef 50 = .ok (.iconst 1, 1) := by decide +kernel
theorem dJ2_indexOfSupplementary_4cfef_51 : decode cJ2_indexOfSupplementary_4cfef 51 = .ok (.iadd, 1) := by decide +kernel
theorem dJ2_indexOfSupplementary_4cfef_52 : decode cJ2_indexOfSupplementary_4cfef 52 = .ok (.invokestatic 71, 3) := by decide +kernel
theorem dJ2_indexOfSupplementary_4cfef_55 : decode cJ2_indexOfSupplementary_4cfef 55 = .ok (.iload 5, 2) := by decide +kernel
theorem dJ2_indexOfSupplementary_4cfef_57 : decode cJ2_indexOfSupplementary_4cfef 57 = .ok (.if_icmp .ne 6, 3) := by decide +kernel
theorem dJ2_indexOfSupplementary_4cfef_60 : decode cJ2_indexOfSupplementary_4cfef 60 = .ok (.iload 6, 2) := by decide +kernel
theorem dJ2_indexOfSupplementary_4cfef_62 : decode cJ2_indexOfSupplementary_4cfef 62 = .ok (.ireturn, 1) := by decide +kernel
theorem dJ2_indexOfSupplementary_4cfef_63 : decode cJ2_indexOfSupplementary_4cfef 63 = .ok (.iinc 6 1, 3) := by decide +kernel
theorem dJ2_indexOfSupplementary_4cfef_66 : decode cJ2_indexOfSupplementary_4cfef 66 = .ok (.goto (-38), 3) := by decide +kernel
theorem dJ2_indexOfSupplementary_4cfef_69 : decode cJ2_indexOfSupplementary_4cfef 69 = .ok (.iconst (-1), 1) := by decide +kernel
theorem dJ2_indexOfSupplementary_4cfef_70 : decode cJ2_indexOfSupplementary_4cfef 70 = .ok (.ireturn, 1) := by decide +kernel
theorem dJ2_charAt_3b067_0 : decode cJ2_charAt_3b067 0 = .ok (.iload_n 1, 1) := by decide +kernel
theorem dJ2_charAt_3b067_1 : decode cJ2_charAt_3b067 1 = .ok (.aload_n 0, 1) := by decide +kernel
theorem dJ2_charAt_3b067_2 : decode cJ2_charAt_3b067 2 = .ok (.invokestatic 67, 3) := by decide +kernel
theorem dJ2_charAt_3b067_5 : decode cJ2_charAt_3b067 5 = .ok (.aload_n 0, 1) := by decide +kernel
theorem dJ2_charAt_3b067_6 : decode cJ2_charAt_3b067 6 = .ok (.iload_n 1, 1) := by decide +kernel
theorem dJ2_charAt_3b067_7 : decode cJ2_charAt_3b067 7 = .ok (.invokestatic 71, 3) := by decide +kernel
theorem dJ2_charAt_3b067_10 : decode cJ2_charAt_3b067 10 = .ok (.ireturn, 1) := by decide +kernel
theorem dJ2_checkIndex_2214a_0 : decode cJ2_checkIndex_2214a 0 = .ok (.iload_n 0, 1) := by decide +kernel
theorem dJ2_checkIndex_2214a_1 : decode cJ2_checkIndex_2214a 1 = .ok (.aload_n 1, 1) := by decide +kernel
theorem dJ2_checkIndex_2214a_2 : decode cJ2_checkIndex_2214a 2 = .ok (.invokestatic 48, 3) := by decide +kernel
theorem dJ2_checkIndex_2214a_5 : decode cJ2_checkIndex_2214a 5 = .ok (.invokestatic 414, 3) := by decide +kernel
theorem dJ2_checkIndex_2214a_8 : decode cJ2_checkIndex_2214a 8 = .ok (.return_, 1) := by decide +kernel
theorem dJ2_checkBoundsBeginEnd_d044e_0 : decode cJ2_checkBoundsBeginEnd_d044e 0 = .ok (.iload_n 0, 1) := by decide +kernel
theorem dJ2_checkBoundsBeginEnd_d044e_1 : decode cJ2_checkBoundsBeginEnd_d044e 1 = .ok (.iload_n 1, 1) := by decide +kernel
theorem dJ2_checkBoundsBeginEnd_d044e_2 : decode cJ2_checkBoundsBeginEnd_d044e 2 = .ok (.aload_n 2, 1) := by decide +kernel
theorem dJ2_checkBoundsBeginEnd_d044e_3 : decode cJ2_checkBoundsBeginEnd_d044e 3 = .ok (.invokestatic 48, 3) := by decide +kernel
theorem dJ2_checkBoundsBeginEnd_d044e_6 : decode cJ2_checkBoundsBeginEnd_d044e 6 = .ok (.invokestatic 241, 3) := by decide +kernel
theorem dJ2_checkBoundsBeginEnd_d044e_9 : decode cJ2_checkBoundsBeginEnd_d044e 9 = .ok (.return_, 1) := by decide +kernel
theorem dJ3_checkIndex_8e157_0 : decode cJ3_checkIndex_8e157 0 = .ok (.iload_n 0, 1) := by decide +kernel
theorem dJ3_checkIndex_8e157_1 : decode cJ3_checkIndex_8e157 1 = .ok (.ifCond .lt 8, 3) := by decide +kernel
theorem dJ3_checkIndex_8e157_4 : decode cJ3_checkIndex_8e157 4 = .ok (.iload_n 0, 1) := by decide +kernel
theorem dJ3_checkIndex_8e157_5 : decode cJ3_checkIndex_8e157 5 = .ok (.iload_n 1, 1) := by decide +kernel
theorem dJ3_checkIndex_8e157_6 : decode cJ3_checkIndex_8e157 6 = .ok (.if_icmp .lt 10, 3) := by decide +kernel
theorem dJ3_checkIndex_8e157_9 : decode cJ3_checkIndex_8e157 9 = .ok (.aload_n 2, 1) := by decide +kernel
theorem dJ3_checkIndex_8e157_10 : decode cJ3_checkIndex_8e157 10 = .ok (.iload_n 0, 1) := by decide +kernel
theorem dJ3_checkIndex_8e157_11 : decode cJ3_checkIndex_8e157 11 = .ok (.iload_n 1, 1) := by decide +kernel
theorem dJ3_checkIndex_8e157_12 : decode cJ3_checkIndex_8e157 12 = .ok (.invokestatic 95, 3) := by decide +kernel
theorem dJ3_checkIndex_8e157_15 : decode cJ3_checkIndex_8e157 15 = .ok (.athrow, 1) := by decide +kernel
theorem dJ3_checkIndex_8e157_16 : decode cJ3_checkIndex_8e157 16 = .ok (.iload_n 0, 1) := by decide +kernel
theorem dJ3_checkIndex_8e157_17 : decode cJ3_checkIndex_8e157 17 = .ok (.ireturn, 1) := by decide +kernel
theorem dJ3_checkFromToIndex_8c36e_0 : decode cJ3_checkFromToIndex_8c36e 0 = .ok (.iload_n 0, 1) := by decide +kernel
theorem dJ3_checkFromToIndex_8c36e_1 : decode cJ3_checkFromToIndex_8c36e 1 = .ok (.ifCond .lt 13, 3) := by decide +kernel
theorem dJ3_checkFromToIndex_8c36e_4 : decode cJ3_checkFromToIndex_8c36e 4 = .ok (.iload_n 0, 1) := by decide +kernel
theorem dJ3_checkFromToIndex_8c36e_5 : decode cJ3_checkFromToIndex_8c36e 5 = .ok (.iload_n 1, 1) := by decide +kernel
theorem dJ3_checkFromToIndex_8c36e_6 : decode cJ3_checkFromToIndex_8c36e 6 = .ok (.if_icmp .gt 8, 3) := by decide +kernel
theorem dJ3_checkFromToIndex_8c36e_9 : decode cJ3_checkFromToIndex_8c36e 9 = .ok (.iload_n 1, 1) := by decide +kernel
theorem dJ3_checkFromToIndex_8c36e_10 : decode cJ3_checkFromToIndex_8c36e 10 = .ok (.iload_n 2, 1) := by decide +kernel
theorem dJ3_checkFromToIndex_8c36e_11 : decode cJ3_checkFromToIndex_8c36e 11 = .ok (.if_icmp .le 11, 3) := by decide +kernel
theorem dJ3_checkFromToIndex_8c36e_14 : decode cJ3_checkFromToIndex_8c36e 14 = .ok (.aload_n 3, 1) := by decide +kernel
theorem dJ3_checkFromToIndex_8c36e_15 : decode cJ3_checkFromToIndex_8c36e 15 = .ok (.iload_n 0, 1) := by decide +kernel
theorem dJ3_checkFromToIndex_8c36e_16 : decode cJ3_checkFromToIndex_8c36e 16 = .ok (.iload_n 1, 1) := by decide +kernel
theorem dJ3_checkFromToIndex_8c36e_17 : decode cJ3_checkFromToIndex_8c36e 17 = .ok (.iload_n 2, 1) := by decide +kernel
theorem dJ3_checkFromToIndex_8c36e_18 : decode cJ3_checkFromToIndex_8c36e 18 = .ok (.invokestatic 99, 3) := by decide +kernel
theorem dJ3_checkFromToIndex_8c36e_21 : decode cJ3_checkFromToIndex_8c36e 21 = .ok (.athrow, 1) := by decide +kernel
theorem dJ3_checkFromToIndex_8c36e_22 : decode cJ3_checkFromToIndex_8c36e 22 = .ok (.iload_n 0, 1) := by decide +kernel
theorem dJ3_checkFromToIndex_8c36e_23 : decode cJ3_checkFromToIndex_8c36e 23 = .ok (.ireturn, 1) := by decide +kernel
theorem dL_law_0 : decode cL_law 0 = .ok (.new 7, 3) := by decide +kernel
theorem dL_law_3 : decode cL_law 3 = .ok (.dup, 1) := by decide +kernel
theorem dL_law_4 : decode cL_law 4 = .ok (.invokespecial 9, 3) := by decide +kernel
theorem dL_law_7 : decode cL_law 7 = .ok (.astore_n 1, 1) := by decide +kernel
theorem dL_law_8 : decode cL_law 8 = .ok (.new 10, 3) := by decide +kernel
theorem dL_law_11 : decode cL_law 11 = .ok (.dup, 1) := by decide +kernel
theorem dL_law_12 : decode cL_law 12 = .ok (.invokespecial 12, 3) := by decide +kernel
theorem dL_law_15 : decode cL_law 15 = .ok (.astore_n 2, 1) := by decide +kernel
theorem dL_law_16 : decode cL_law 16 = .ok (.iconst 0, 1) := by decide +kernel
theorem dL_law_17 : decode cL_law 17 = .ok (.istore_n 3, 1) := by decide +kernel
theorem dL_law_18 : decode cL_law 18 = .ok (.iload_n 3, 1) := by decide +kernel
theorem dL_law_19 : decode cL_law 19 = .ok (.aload_n 0, 1) := by decide +kernel
theorem dL_law_20 : decode cL_law 20 = .ok (.arraylength, 1) := by decide +kernel
theorem dL_law_21 : decode cL_law 21 = .ok (.bipush 6, 2) := by decide +kernel
theorem dL_law_23 : decode cL_law 23 = .ok (.isub, 1) := by decide +kernel
theorem dL_law_24 : decode cL_law 24 = .ok (.if_icmp .gt 1339, 3) := by decide +kernel
theorem dL_law_27 : decode cL_law 27 = .ok (.aload_n 0, 1) := by decide +kernel
theorem dL_law_28 : decode cL_law 28 = .ok (.iload_n 3, 1) := by decide +kernel
theorem dL_law_29 : decode cL_law 29 = .ok (.iaload, 1) := by decide +kernel
theorem dL_law_30 : decode cL_law 30 = .ok (.bipush 63, 2) := by decide +kernel
theorem dL_law_32 : decode cL_law 32 = .ok (.iand, 1) := by decide +kernel
theorem dL_law_33 : decode cL_law 33 = .ok (.tableswitch 1324 0 37 #[167, 200, 233, 276, 319, 352, 375, 388, 411, 424, 457, 480, 493, 506, 529, 562, 595, 618, 651, 684, 727, 770, 783, 816, 850, 884, 917, 930, 963, 976, 989, 1032, 1055, 1088, 1111, 1154, 1227, 1261], 167) := by decide +kernel
theorem dL_law_200 : decode cL_law 200 = .ok (.aload_n 1, 1) := by decide +kernel
theorem dL_law_201 : decode cL_law 201 = .ok (.aload_n 0, 1) := by decide +kernel
theorem dL_law_202 : decode cL_law 202 = .ok (.iload_n 3, 1) := by decide +kernel
theorem dL_law_203 : decode cL_law 203 = .ok (.iconst 1, 1) := by decide +kernel
theorem dL_law_204 : decode cL_law 204 = .ok (.iadd, 1) := by decide +kernel
theorem dL_law_205 : decode cL_law 205 = .ok (.iaload, 1) := by decide +kernel
theorem dL_law_206 : decode cL_law 206 = .ok (.aload_n 0, 1) := by decide +kernel
theorem dL_law_207 : decode cL_law 207 = .ok (.iload_n 3, 1) := by decide +kernel
theorem dL_law_208 : decode cL_law 208 = .ok (.iconst 2, 1) := by decide +kernel
theorem dL_law_209 : decode cL_law 209 = .ok (.iadd, 1) := by decide +kernel
theorem dL_law_210 : decode cL_law 210 = .ok (.iaload, 1) := by decide +kernel
theorem dL_law_211 : decode cL_law 211 = .ok (.invokevirtual 13, 3) := by decide +kernel
theorem dL_law_214 : decode cL_law 214 = .ok (.aload_n 2, 1) := by decide +kernel
theorem dL_law_215 : decode cL_law 215 = .ok (.aload_n 0, 1) := by decide +kernel
theorem dL_law_216 : decode cL_law 216 = .ok (.iload_n 3, 1) := by decide +kernel
theorem dL_law_217 : decode cL_law 217 = .ok (.iconst 1, 1) := by decide +kernel
theorem dL_law_218 : decode cL_law 218 = .ok (.iadd, 1) := by decide +kernel
theorem dL_law_219 : decode cL_law 219 = .ok (.iaload, 1) := by decide +kernel
theorem dL_law_220 : decode cL_law 220 = .ok (.aload_n 0, 1) := by decide +kernel
theorem dL_law_221 : decode cL_law 221 = .ok (.iload_n 3, 1) := by decide +kernel
theorem dL_law_222 : decode cL_law 222 = .ok (.iconst 2, 1) := by decide +kernel
theorem dL_law_223 : decode cL_law 223 = .ok (.iadd, 1) := by decide +kernel
theorem dL_law_224 : decode cL_law 224 = .ok (.iaload, 1) := by decide +kernel
theorem dL_law_225 : decode cL_law 225 = .ok (.invokevirtual 17, 3) := by decide +kernel
theorem dL_law_228 : decode cL_law 228 = .ok (.if_icmp .eq 1129, 3) := by decide +kernel
theorem dL_law_231 : decode cL_law 231 = .ok (.iconst 0, 1) := by decide +kernel
theorem dL_law_232 : decode cL_law 232 = .ok (.ireturn, 1) := by decide +kernel
theorem dL_law_233 : decode cL_law 233 = .ok (.aload_n 1, 1) := by decide +kernel
theorem dL_law_234 : decode cL_law 234 = .ok (.aload_n 0, 1) := by decide +kernel
theorem dL_law_235 : decode cL_law 235 = .ok (.iload_n 3, 1) := by decide +kernel
theorem dL_law_236 : decode cL_law 236 = .ok (.iconst 1, 1) := by decide +kernel
theorem dL_law_237 : decode cL_law 237 = .ok (.iadd, 1) := by decide +kernel
theorem dL_law_238 : decode cL_law 238 = .ok (.iaload, 1) := by decide +kernel
theorem dL_law_239 : decode cL_law 239 = .ok (.aload_n 0, 1) := by decide +kernel
theorem dL_law_240 : decode cL_law 240 = .ok (.iload_n 3, 1) := by decide +kernel
theorem dL_law_241 : decode cL_law 241 = .ok (.iconst 2, 1) := by decide +kernel
theorem dL_law_242 : decode cL_law 242 = .ok (.iadd, 1) := by decide +kernel
theorem dL_law_243 : decode cL_law 243 = .ok (.iaload, 1) := by decide +kernel
theorem dL_law_244 : decode cL_law 244 = .ok (.invokevirtual 18, 3) := by decide +kernel
theorem dL_law_247 : decode cL_law 247 = .ok (.aload_n 2, 1) := by decide +kernel
theorem dL_law_248 : decode cL_law 248 = .ok (.aload_n 0, 1) := by decide +kernel
theorem dL_law_249 : decode cL_law 249 = .ok (.iload_n 3, 1) := by decide +kernel
theorem dL_law_250 : decode cL_law 250 = .ok (.iconst 1, 1) := by decide +kernel
theorem dL_law_251 : decode cL_law 251 = .ok (.iadd, 1) := by decide +kernel
theorem dL_law_252 : decode cL_law 252 = .ok (.iaload, 1) := by decide +kernel
theorem dL_law_253 : decode cL_law 253 = .ok (.aload_n 0, 1) := by decide +kernel
theorem dL_law_254 : decode cL_law 254 = .ok (.iload_n 3, 1) := by decide +kernel
theorem dL_law_255 : decode cL_law 255 = .ok (.iconst 2, 1) := by decide +kernel
theorem dL_law_256 : decode cL_law 256 = .ok (.iadd, 1) := by decide +kernel
theorem dL_law_257 : decode cL_law 257 = .ok (.iaload, 1) := by decide +kernel
theorem dL_law_258 : decode cL_law 258 = .ok (.invokevirtual 21, 3) := by decide +kernel
theorem dL_law_261 : decode cL_law 261 = .ok (.if_icmp .eq 1096, 3) := by decide +kernel
theorem dL_law_264 : decode cL_law 264 = .ok (.iconst 0, 1) := by decide +kernel
theorem dL_law_265 : decode cL_law 265 = .ok (.ireturn, 1) := by decide +kernel
theorem dL_law_266 : decode cL_law 266 = .ok (.aload_n 1, 1) := by decide +kernel
theorem dL_law_267 : decode cL_law 267 = .ok (.aload_n 0, 1) := by decide +kernel
theorem dL_law_268 : decode cL_law 268 = .ok (.iload_n 3, 1) := by decide +kernel
theorem dL_law_269 : decode cL_law 269 = .ok (.iconst 1, 1) := by decide +kernel
theorem dL_law_270 : decode cL_law 270 = .ok (.iadd, 1) := by decide +kernel
theorem dL_law_271 : decode cL_law 271 = .ok (.iaload, 1) := by decide +kernel
theorem dL_law_272 : decode cL_law 272 = .ok (.aload_n 0, 1) := by decide +kernel
theorem dL_law_273 : decode cL_law 273 = .ok (.iload_n 3, 1) := by decide +kernel
theorem dL_law_274 : decode cL_law 274 = .ok (.iconst 2, 1) := by decide +kernel
theorem dL_law_275 : decode cL_law 275 = .ok (.iadd, 1) := by decide +kernel
theorem dL_law_276 : decode cL_law 276 = .ok (.iaload, 1) := by decide +kernel
theorem dL_law_277 : decode cL_law 277 = .ok (.aload_n 0, 1) := by decide +kernel
theorem dL_law_278 : decode cL_law 278 = .ok (.iload_n 3, 1) := by decide +kernel
theorem dL_law_279 : decode cL_law 279 = .ok (.iconst 3, 1) := by decide +kernel
theorem dL_law_280 : decode cL_law 280 = .ok (.iadd, 1) := by decide +kernel
theorem dL_law_281 : decode cL_law 281 = .ok (.iaload, 1) := by decide +kernel
theorem dL_law_282 : decode cL_law 282 = .ok (.invokevirtual 22, 3) := by decide +kernel
theorem dL_law_285 : decode cL_law 285 = .ok (.aload_n 2, 1) := by decide +kernel
theorem dL_law_286 : decode cL_law 286 = .ok (.aload_n 0, 1) := by decide +kernel
theorem dL_law_287 : decode cL_law 287 = .ok (.iload_n 3, 1) := by decide +kernel
theorem dL_law_288 : decode cL_law 288 = .ok (.iconst 1, 1) := by decide +kernel
theorem dL_law_289 : decode cL_law 289 = .ok (.iadd, 1) := by decide +kernel
theorem dL_law_290 : decode cL_law 290 = .ok (.iaload, 1) := by decide +kernel
theorem dL_law_291 : decode cL_law 291 = .ok (.aload_n 0, 1) := by decide +kernel
theorem dL_law_292 : decode cL_law 292 = .ok (.iload_n 3, 1) := by decide +kernel
theorem dL_law_293 : decode cL_law 293 = .ok (.iconst 2, 1) := by decide +kernel
theorem dL_law_294 : decode cL_law 294 = .ok (.iadd, 1) := by decide +kernel
theorem dL_law_295 : decode cL_law 295 = .ok (.iaload, 1) := by decide +kernel
theorem dL_law_296 : decode cL_law 296 = .ok (.aload_n 0, 1) := by decide +kernel
theorem dL_law_297 : decode cL_law 297 = .ok (.iload_n 3, 1) := by decide +kernel
theorem dL_law_298 : decode cL_law 298 = .ok (.iconst 3, 1) := by decide +kernel
theorem dL_law_299 : decode cL_law 299 = .ok (.iadd, 1) := by decide +kernel
theorem dL_law_300 : decode cL_law 300 = .ok (.iaload, 1) := by decide +kernel
theorem dL_law_301 : decode cL_law 301 = .ok (.invokevirtual 26, 3) := by decide +kernel
theorem dL_law_304 : decode cL_law 304 = .ok (.if_icmp .eq 1053, 3) := by decide +kernel
theorem dL_law_307 : decode cL_law 307 = .ok (.iconst 0, 1) := by decide +kernel
theorem dL_law_308 : decode cL_law 308 = .ok (.ireturn, 1) := by decide +kernel
theorem dL_law_309 : decode cL_law 309 = .ok (.aload_n 1, 1) := by decide +kernel
theorem dL_law_310 : decode cL_law 310 = .ok (.aload_n 0, 1) := by decide +kernel
theorem dL_law_311 : decode cL_law 311 = .ok (.iload_n 3, 1) := by decide +kernel
theorem dL_law_312 : decode cL_law 312 = .ok (.iconst 1, 1) := by decide +kernel
theorem dL_law_313 : decode cL_law 313 = .ok (.iadd, 1) := by decide +kernel
theorem dL_law_314 : decode cL_law 314 = .ok (.iaload, 1) := by decide +kernel
theorem dL_law_315 : decode cL_law 315 = .ok (.aload_n 0, 1) := by decide +kernel
theorem dL_law_316 : decode cL_law 316 = .ok (.iload_n 3, 1) := by decide +kernel
theorem dL_law_317 : decode cL_law 317 = .ok (.iconst 2, 1) := by decide +kernel
theorem dL_law_318 : decode cL_law 318 = .ok (.iadd, 1) := by decide +kernel
theorem dL_law_319 : decode cL_law 319 = .ok (.iaload, 1) := by decide +kernel
theorem dL_law_320 : decode cL_law 320 = .ok (.aload_n 0, 1) := by decide +kernel
theorem dL_law_321 : decode cL_law 321 = .ok (.iload_n 3, 1) := by decide +kernel
theorem dL_law_322 : decode cL_law 322 = .ok (.iconst 3, 1) := by decide +kernel
theorem dL_law_323 : decode cL_law 323 = .ok (.iadd, 1) := by decide +kernel
theorem dL_law_324 : decode cL_law 324 = .ok (.iaload, 1) := by decide +kernel
theorem dL_law_325 : decode cL_law 325 = .ok (.invokevirtual 27, 3) := by decide +kernel
theorem dL_law_328 : decode cL_law 328 = .ok (.aload_n 2, 1) := by decide +kernel
theorem dL_law_329 : decode cL_law 329 = .ok (.aload_n 0, 1) := by decide +kernel
theorem dL_law_330 : decode cL_law 330 = .ok (.iload_n 3, 1) := by decide +kernel
theorem dL_law_331 : decode cL_law 331 = .ok (.iconst 1, 1) := by decide +kernel
theorem dL_law_332 : decode cL_law 332 = .ok (.iadd, 1) := by decide +kernel
theorem dL_law_333 : decode cL_law 333 = .ok (.iaload, 1) := by decide +kernel
theorem dL_law_334 : decode cL_law 334 = .ok (.aload_n 0, 1) := by decide +kernel
theorem dL_law_335 : decode cL_law 335 = .ok (.iload_n 3, 1) := by decide +kernel
theorem dL_law_336 : decode cL_law 336 = .ok (.iconst 2, 1) := by decide +kernel
theorem dL_law_337 : decode cL_law 337 = .ok (.iadd, 1) := by decide +kernel
theorem dL_law_338 : decode cL_law 338 = .ok (.iaload, 1) := by decide +kernel
theorem dL_law_339 : decode cL_law 339 = .ok (.aload_n 0, 1) := by decide +kernel
theorem dL_law_340 : decode cL_law 340 = .ok (.iload_n 3, 1) := by decide +kernel
theorem dL_law_341 : decode cL_law 341 = .ok (.iconst 3, 1) := by decide +kernel
theorem dL_law_342 : decode cL_law 342 = .ok (.iadd, 1) := by decide +kernel
theorem dL_law_343 : decode cL_law 343 = .ok (.iaload, 1) := by decide +kernel
theorem dL_law_344 : decode cL_law 344 = .ok (.invokevirtual 30, 3) := by decide +kernel
theorem dL_law_347 : decode cL_law 347 = .ok (.if_icmp .eq 1010, 3) := by decide +kernel
theorem dL_law_350 : decode cL_law 350 = .ok (.iconst 0, 1) := by decide +kernel
theorem dL_law_351 : decode cL_law 351 = .ok (.ireturn, 1) := by decide +kernel
theorem dL_law_352 : decode cL_law 352 = .ok (.aload_n 1, 1) := by decide +kernel
theorem dL_law_353 : decode cL_law 353 = .ok (.aload_n 0, 1) := by decide +kernel
theorem dL_law_354 : decode cL_law 354 = .ok (.iload_n 3, 1) := by decide +kernel
theorem dL_law_355 : decode cL_law 355 = .ok (.iconst 1, 1) := by decide +kernel
theorem dL_law_356 : decode cL_law 356 = .ok (.iadd, 1) := by decide +kernel
theorem dL_law_357 : decode cL_law 357 = .ok (.iaload, 1) := by decide +kernel
theorem dL_law_358 : decode cL_law 358 = .ok (.aload_n 0, 1) := by decide +kernel
theorem dL_law_359 : decode cL_law 359 = .ok (.iload_n 3, 1) := by decide +kernel
theorem dL_law_360 : decode cL_law 360 = .ok (.iconst 2, 1) := by decide +kernel
theorem dL_law_361 : decode cL_law 361 = .ok (.iadd, 1) := by decide +kernel
theorem dL_law_362 : decode cL_law 362 = .ok (.iaload, 1) := by decide +kernel
theorem dL_law_363 : decode cL_law 363 = .ok (.invokevirtual 31, 3) := by decide +kernel
theorem dL_law_366 : decode cL_law 366 = .ok (.aload_n 2, 1) := by decide +kernel
theorem dL_law_367 : decode cL_law 367 = .ok (.aload_n 0, 1) := by decide +kernel
theorem dL_law_368 : decode cL_law 368 = .ok (.iload_n 3, 1) := by decide +kernel
theorem dL_law_369 : decode cL_law 369 = .ok (.iconst 1, 1) := by decide +kernel
theorem dL_law_370 : decode cL_law 370 = .ok (.iadd, 1) := by decide +kernel
theorem dL_law_371 : decode cL_law 371 = .ok (.iaload, 1) := by decide +kernel
theorem dL_law_372 : decode cL_law 372 = .ok (.aload_n 0, 1) := by decide +kernel
theorem dL_law_373 : decode cL_law 373 = .ok (.iload_n 3, 1) := by decide +kernel
theorem dL_law_374 : decode cL_law 374 = .ok (.iconst 2, 1) := by decide +kernel
theorem dL_law_375 : decode cL_law 375 = .ok (.iadd, 1) := by decide +kernel
theorem dL_law_376 : decode cL_law 376 = .ok (.iaload, 1) := by decide +kernel
theorem dL_law_377 : decode cL_law 377 = .ok (.invokevirtual 34, 3) := by decide +kernel
theorem dL_law_380 : decode cL_law 380 = .ok (.if_icmp .eq 977, 3) := by decide +kernel
theorem dL_law_383 : decode cL_law 383 = .ok (.iconst 0, 1) := by decide +kernel
theorem dL_law_384 : decode cL_law 384 = .ok (.ireturn, 1) := by decide +kernel
theorem dL_law_385 : decode cL_law 385 = .ok (.aload_n 1, 1) := by decide +kernel
theorem dL_law_386 : decode cL_law 386 = .ok (.aload_n 0, 1) := by decide +kernel
theorem dL_law_387 : decode cL_law 387 = .ok (.iload_n 3, 1) := by decide +kernel
theorem dL_law_388 : decode cL_law 388 = .ok (.iconst 1, 1) := by decide +kernel
theorem dL_law_389 : decode cL_law 389 = .ok (.iadd, 1) := by decide +kernel
theorem dL_law_390 : decode cL_law 390 = .ok (.iaload, 1) := by decide +kernel
theorem dL_law_391 : decode cL_law 391 = .ok (.invokevirtual 35, 3) := by decide +kernel
theorem dL_law_394 : decode cL_law 394 = .ok (.aload_n 2, 1) := by decide +kernel
theorem dL_law_395 : decode cL_law 395 = .ok (.aload_n 0, 1) := by decide +kernel
theorem dL_law_396 : decode cL_law 396 = .ok (.iload_n 3, 1) := by decide +kernel
theorem dL_law_397 : decode cL_law 397 = .ok (.iconst 1, 1) := by decide +kernel
theorem dL_law_398 : decode cL_law 398 = .ok (.iadd, 1) := by decide +kernel
theorem dL_law_399 : decode cL_law 399 = .ok (.iaload, 1) := by decide +kernel
theorem dL_law_400 : decode cL_law 400 = .ok (.invokevirtual 39, 3) := by decide +kernel
theorem dL_law_403 : decode cL_law 403 = .ok (.if_icmp .eq 954, 3) := by decide +kernel
theorem dL_law_406 : decode cL_law 406 = .ok (.iconst 0, 1) := by decide +kernel
theorem dL_law_407 : decode cL_law 407 = .ok (.ireturn, 1) := by decide +kernel
theorem dL_law_408 : decode cL_law 408 = .ok (.aload_n 1, 1) := by decide +kernel
theorem dL_law_409 : decode cL_law 409 = .ok (.invokevirtual 40, 3) := by decide +kernel
theorem dL_law_412 : decode cL_law 412 = .ok (.aload_n 2, 1) := by decide +kernel
theorem dL_law_413 : decode cL_law 413 = .ok (.invokevirtual 44, 3) := by decide +kernel
theorem dL_law_416 : decode cL_law 416 = .ok (.if_icmp .eq 941, 3) := by decide +kernel
theorem dL_law_419 : decode cL_law 419 = .ok (.iconst 0, 1) := by decide +kernel
theorem dL_law_420 : decode cL_law 420 = .ok (.ireturn, 1) := by decide +kernel
theorem dL_law_421 : decode cL_law 421 = .ok (.aload_n 1, 1) := by decide +kernel
theorem dL_law_422 : decode cL_law 422 = .ok (.aload_n 0, 1) := by decide +kernel
theorem dL_law_423 : decode cL_law 423 = .ok (.iload_n 3, 1) := by decide +kernel
theorem dL_law_424 : decode cL_law 424 = .ok (.iconst 1, 1) := by decide +kernel
theorem dL_law_425 : decode cL_law 425 = .ok (.iadd, 1) := by decide +kernel
theorem dL_law_426 : decode cL_law 426 = .ok (.iaload, 1) := by decide +kernel
theorem dL_law_427 : decode cL_law 427 = .ok (.invokevirtual 45, 3) := by decide +kernel
theorem dL_law_430 : decode cL_law 430 = .ok (.aload_n 2, 1) := by decide +kernel
theorem dL_law_431 : decode cL_law 431 = .ok (.aload_n 0, 1) := by decide +kernel
theorem dL_law_432 : decode cL_law 432 = .ok (.iload_n 3, 1) := by decide +kernel
theorem dL_law_433 : decode cL_law 433 = .ok (.iconst 1, 1) := by decide +kernel
theorem dL_law_434 : decode cL_law 434 = .ok (.iadd, 1) := by decide +kernel
theorem dL_law_435 : decode cL_law 435 = .ok (.iaload, 1) := by decide +kernel
theorem dL_law_436 : decode cL_law 436 = .ok (.invokevirtual 48, 3) := by decide +kernel
theorem dL_law_439 : decode cL_law 439 = .ok (.if_icmp .eq 918, 3) := by decide +kernel
theorem dL_law_442 : decode cL_law 442 = .ok (.iconst 0, 1) := by decide +kernel
theorem dL_law_443 : decode cL_law 443 = .ok (.ireturn, 1) := by decide +kernel
theorem dL_law_444 : decode cL_law 444 = .ok (.aload_n 1, 1) := by decide +kernel
theorem dL_law_445 : decode cL_law 445 = .ok (.invokevirtual 49, 3) := by decide +kernel
theorem dL_law_448 : decode cL_law 448 = .ok (.aload_n 2, 1) := by decide +kernel
theorem dL_law_449 : decode cL_law 449 = .ok (.invokevirtual 52, 3) := by decide +kernel
theorem dL_law_452 : decode cL_law 452 = .ok (.if_icmp .eq 905, 3) := by decide +kernel
theorem dL_law_455 : decode cL_law 455 = .ok (.iconst 0, 1) := by decide +kernel
theorem dL_law_456 : decode cL_law 456 = .ok (.ireturn, 1) := by decide +kernel
theorem dL_law_457 : decode cL_law 457 = .ok (.aload_n 1, 1) := by decide +kernel
theorem dL_law_458 : decode cL_law 458 = .ok (.aload_n 0, 1) := by decide +kernel
theorem dL_law_459 : decode cL_law 459 = .ok (.iload_n 3, 1) := by decide +kernel
theorem dL_law_460 : decode cL_law 460 = .ok (.iconst 1, 1) := by decide +kernel
theorem dL_law_461 : decode cL_law 461 = .ok (.iadd, 1) := by decide +kernel
theorem dL_law_462 : decode cL_law 462 = .ok (.iaload, 1) := by decide +kernel
theorem dL_law_463 : decode cL_law 463 = .ok (.aload_n 0, 1) := by decide +kernel
theorem dL_law_464 : decode cL_law 464 = .ok (.iload_n 3, 1) := by decide +kernel
theorem dL_law_465 : decode cL_law 465 = .ok (.iconst 2, 1) := by decide +kernel
theorem dL_law_466 : decode cL_law 466 = .ok (.iadd, 1) := by decide +kernel
theorem dL_law_467 : decode cL_law 467 = .ok (.iaload, 1) := by decide +kernel
theorem dL_law_468 : decode cL_law 468 = .ok (.invokevirtual 53, 3) := by decide +kernel
theorem dL_law_471 : decode cL_law 471 = .ok (.aload_n 2, 1) := by decide +kernel
theorem dL_law_472 : decode cL_law 472 = .ok (.aload_n 0, 1) := by decide +kernel
theorem dL_law_473 : decode cL_law 473 = .ok (.iload_n 3, 1) := by decide +kernel
theorem dL_law_474 : decode cL_law 474 = .ok (.iconst 1, 1) := by decide +kernel
theorem dL_law_475 : decode cL_law 475 = .ok (.iadd, 1) := by decide +kernel
theorem dL_law_476 : decode cL_law 476 = .ok (.iaload, 1) := by decide +kernel
theorem dL_law_477 : decode cL_law 477 = .ok (.aload_n 0, 1) := by decide +kernel
theorem dL_law_478 : decode cL_law 478 = .ok (.iload_n 3, 1) := by decide +kernel
theorem dL_law_479 : decode cL_law 479 = .ok (.iconst 2, 1) := by decide +kernel
theorem dL_law_480 : decode cL_law 480 = .ok (.iadd, 1) := by decide +kernel
theorem dL_law_481 : decode cL_law 481 = .ok (.iaload, 1) := by decide +kernel
theorem dL_law_482 : decode cL_law 482 = .ok (.invokevirtual 56, 3) := by decide +kernel
theorem dL_law_485 : decode cL_law 485 = .ok (.if_icmp .eq 872, 3) := by decide +kernel
theorem dL_law_488 : decode cL_law 488 = .ok (.iconst 0, 1) := by decide +kernel
theorem dL_law_489 : decode cL_law 489 = .ok (.ireturn, 1) := by decide +kernel
theorem dL_law_490 : decode cL_law 490 = .ok (.aload_n 1, 1) := by decide +kernel
theorem dL_law_491 : decode cL_law 491 = .ok (.aload_n 0, 1) := by decide +kernel
theorem dL_law_492 : decode cL_law 492 = .ok (.iload_n 3, 1) := by decide +kernel
theorem dL_law_493 : decode cL_law 493 = .ok (.iconst 1, 1) := by decide +kernel
theorem dL_law_494 : decode cL_law 494 = .ok (.iadd, 1) := by decide +kernel
theorem dL_law_495 : decode cL_law 495 = .ok (.iaload, 1) := by decide +kernel
theorem dL_law_496 : decode cL_law 496 = .ok (.invokevirtual 57, 3) := by decide +kernel
theorem dL_law_499 : decode cL_law 499 = .ok (.aload_n 2, 1) := by decide +kernel
theorem dL_law_500 : decode cL_law 500 = .ok (.aload_n 0, 1) := by decide +kernel
theorem dL_law_501 : decode cL_law 501 = .ok (.iload_n 3, 1) := by decide +kernel
theorem dL_law_502 : decode cL_law 502 = .ok (.iconst 1, 1) := by decide +kernel
theorem dL_law_503 : decode cL_law 503 = .ok (.iadd, 1) := by decide +kernel
theorem dL_law_504 : decode cL_law 504 = .ok (.iaload, 1) := by decide +kernel
theorem dL_law_505 : decode cL_law 505 = .ok (.invokevirtual 60, 3) := by decide +kernel
theorem dL_law_508 : decode cL_law 508 = .ok (.if_icmp .eq 849, 3) := by decide +kernel
theorem dL_law_511 : decode cL_law 511 = .ok (.iconst 0, 1) := by decide +kernel
theorem dL_law_512 : decode cL_law 512 = .ok (.ireturn, 1) := by decide +kernel
theorem dL_law_513 : decode cL_law 513 = .ok (.aload_n 1, 1) := by decide +kernel
theorem dL_law_514 : decode cL_law 514 = .ok (.invokevirtual 61, 3) := by decide +kernel
theorem dL_law_517 : decode cL_law 517 = .ok (.aload_n 2, 1) := by decide +kernel
theorem dL_law_518 : decode cL_law 518 = .ok (.invokevirtual 64, 3) := by decide +kernel
theorem dL_law_521 : decode cL_law 521 = .ok (.if_icmp .eq 836, 3) := by decide +kernel
theorem dL_law_524 : decode cL_law 524 = .ok (.iconst 0, 1) := by decide +kernel
theorem dL_law_525 : decode cL_law 525 = .ok (.ireturn, 1) := by decide +kernel
theorem dL_law_526 : decode cL_law 526 = .ok (.aload_n 1, 1) := by decide +kernel
theorem dL_law_527 : decode cL_law 527 = .ok (.invokevirtual 65, 3) := by decide +kernel
theorem dL_law_530 : decode cL_law 530 = .ok (.aload_n 2, 1) := by decide +kernel
theorem dL_law_531 : decode cL_law 531 = .ok (.invokevirtual 68, 3) := by decide +kernel
theorem dL_law_534 : decode cL_law 534 = .ok (.if_icmp .eq 823, 3) := by decide +kernel
theorem dL_law_537 : decode cL_law 537 = .ok (.iconst 0, 1) := by decide +kernel
theorem dL_law_538 : decode cL_law 538 = .ok (.ireturn, 1) := by decide +kernel
theorem dL_law_539 : decode cL_law 539 = .ok (.aload_n 1, 1) := by decide +kernel
theorem dL_law_540 : decode cL_law 540 = .ok (.aload_n 0, 1) := by decide +kernel
theorem dL_law_541 : decode cL_law 541 = .ok (.iload_n 3, 1) := by decide +kernel
theorem dL_law_542 : decode cL_law 542 = .ok (.iconst 1, 1) := by decide +kernel
theorem dL_law_543 : decode cL_law 543 = .ok (.iadd, 1) := by decide +kernel
theorem dL_law_544 : decode cL_law 544 = .ok (.iaload, 1) := by decide +kernel
theorem dL_law_545 : decode cL_law 545 = .ok (.invokevirtual 69, 3) := by decide +kernel
theorem dL_law_548 : decode cL_law 548 = .ok (.aload_n 2, 1) := by decide +kernel
theorem dL_law_549 : decode cL_law 549 = .ok (.aload_n 0, 1) := by decide +kernel
theorem dL_law_550 : decode cL_law 550 = .ok (.iload_n 3, 1) := by decide +kernel
theorem dL_law_551 : decode cL_law 551 = .ok (.iconst 1, 1) := by decide +kernel
theorem dL_law_552 : decode cL_law 552 = .ok (.iadd, 1) := by decide +kernel
theorem dL_law_553 : decode cL_law 553 = .ok (.iaload, 1) := by decide +kernel
theorem dL_law_554 : decode cL_law 554 = .ok (.invokevirtual 72, 3) := by decide +kernel
theorem dL_law_557 : decode cL_law 557 = .ok (.if_icmp .eq 800, 3) := by decide +kernel
theorem dL_law_560 : decode cL_law 560 = .ok (.iconst 0, 1) := by decide +kernel
theorem dL_law_561 : decode cL_law 561 = .ok (.ireturn, 1) := by decide +kernel
theorem dL_law_562 : decode cL_law 562 = .ok (.aload_n 1, 1) := by decide +kernel
theorem dL_law_563 : decode cL_law 563 = .ok (.aload_n 0, 1) := by decide +kernel
theorem dL_law_564 : decode cL_law 564 = .ok (.iload_n 3, 1) := by decide +kernel
theorem dL_law_565 : decode cL_law 565 = .ok (.iconst 1, 1) := by decide +kernel
theorem dL_law_566 : decode cL_law 566 = .ok (.iadd, 1) := by decide +kernel
theorem dL_law_567 : decode cL_law 567 = .ok (.iaload, 1) := by decide +kernel
theorem dL_law_568 : decode cL_law 568 = .ok (.aload_n 0, 1) := by decide +kernel
theorem dL_law_569 : decode cL_law 569 = .ok (.iload_n 3, 1) := by decide +kernel
theorem dL_law_570 : decode cL_law 570 = .ok (.iconst 2, 1) := by decide +kernel
theorem dL_law_571 : decode cL_law 571 = .ok (.iadd, 1) := by decide +kernel
theorem dL_law_572 : decode cL_law 572 = .ok (.iaload, 1) := by decide +kernel
theorem dL_law_573 : decode cL_law 573 = .ok (.invokevirtual 73, 3) := by decide +kernel
theorem dL_law_576 : decode cL_law 576 = .ok (.aload_n 2, 1) := by decide +kernel
theorem dL_law_577 : decode cL_law 577 = .ok (.aload_n 0, 1) := by decide +kernel
theorem dL_law_578 : decode cL_law 578 = .ok (.iload_n 3, 1) := by decide +kernel
theorem dL_law_579 : decode cL_law 579 = .ok (.iconst 1, 1) := by decide +kernel
theorem dL_law_580 : decode cL_law 580 = .ok (.iadd, 1) := by decide +kernel
theorem dL_law_581 : decode cL_law 581 = .ok (.iaload, 1) := by decide +kernel
theorem dL_law_582 : decode cL_law 582 = .ok (.aload_n 0, 1) := by decide +kernel
theorem dL_law_583 : decode cL_law 583 = .ok (.iload_n 3, 1) := by decide +kernel
theorem dL_law_584 : decode cL_law 584 = .ok (.iconst 2, 1) := by decide +kernel
theorem dL_law_585 : decode cL_law 585 = .ok (.iadd, 1) := by decide +kernel
theorem dL_law_586 : decode cL_law 586 = .ok (.iaload, 1) := by decide +kernel
theorem dL_law_587 : decode cL_law 587 = .ok (.invokevirtual 76, 3) := by decide +kernel
theorem dL_law_590 : decode cL_law 590 = .ok (.if_icmp .eq 767, 3) := by decide +kernel
theorem dL_law_593 : decode cL_law 593 = .ok (.iconst 0, 1) := by decide +kernel
theorem dL_law_594 : decode cL_law 594 = .ok (.ireturn, 1) := by decide +kernel
theorem dL_law_595 : decode cL_law 595 = .ok (.aload_n 1, 1) := by decide +kernel
theorem dL_law_596 : decode cL_law 596 = .ok (.aload_n 0, 1) := by decide +kernel
theorem dL_law_597 : decode cL_law 597 = .ok (.iload_n 3, 1) := by decide +kernel
theorem dL_law_598 : decode cL_law 598 = .ok (.iconst 1, 1) := by decide +kernel
theorem dL_law_599 : decode cL_law 599 = .ok (.iadd, 1) := by decide +kernel
theorem dL_law_600 : decode cL_law 600 = .ok (.iaload, 1) := by decide +kernel
theorem dL_law_601 : decode cL_law 601 = .ok (.aload_n 0, 1) := by decide +kernel
theorem dL_law_602 : decode cL_law 602 = .ok (.iload_n 3, 1) := by decide +kernel
theorem dL_law_603 : decode cL_law 603 = .ok (.iconst 2, 1) := by decide +kernel
theorem dL_law_604 : decode cL_law 604 = .ok (.iadd, 1) := by decide +kernel
theorem dL_law_605 : decode cL_law 605 = .ok (.iaload, 1) := by decide +kernel
theorem dL_law_606 : decode cL_law 606 = .ok (.invokevirtual 77, 3) := by decide +kernel
theorem dL_law_609 : decode cL_law 609 = .ok (.aload_n 2, 1) := by decide +kernel
theorem dL_law_610 : decode cL_law 610 = .ok (.aload_n 0, 1) := by decide +kernel
theorem dL_law_611 : decode cL_law 611 = .ok (.iload_n 3, 1) := by decide +kernel
theorem dL_law_612 : decode cL_law 612 = .ok (.iconst 1, 1) := by decide +kernel
theorem dL_law_613 : decode cL_law 613 = .ok (.iadd, 1) := by decide +kernel
theorem dL_law_614 : decode cL_law 614 = .ok (.iaload, 1) := by decide +kernel
theorem dL_law_615 : decode cL_law 615 = .ok (.aload_n 0, 1) := by decide +kernel
theorem dL_law_616 : decode cL_law 616 = .ok (.iload_n 3, 1) := by decide +kernel
theorem dL_law_617 : decode cL_law 617 = .ok (.iconst 2, 1) := by decide +kernel
theorem dL_law_618 : decode cL_law 618 = .ok (.iadd, 1) := by decide +kernel
theorem dL_law_619 : decode cL_law 619 = .ok (.iaload, 1) := by decide +kernel
theorem dL_law_620 : decode cL_law 620 = .ok (.invokevirtual 80, 3) := by decide +kernel
theorem dL_law_623 : decode cL_law 623 = .ok (.if_icmp .eq 734, 3) := by decide +kernel
theorem dL_law_626 : decode cL_law 626 = .ok (.iconst 0, 1) := by decide +kernel
theorem dL_law_627 : decode cL_law 627 = .ok (.ireturn, 1) := by decide +kernel
theorem dL_law_628 : decode cL_law 628 = .ok (.aload_n 1, 1) := by decide +kernel
theorem dL_law_629 : decode cL_law 629 = .ok (.aload_n 0, 1) := by decide +kernel
theorem dL_law_630 : decode cL_law 630 = .ok (.iload_n 3, 1) := by decide +kernel
theorem dL_law_631 : decode cL_law 631 = .ok (.iconst 1, 1) := by decide +kernel
theorem dL_law_632 : decode cL_law 632 = .ok (.iadd, 1) := by decide +kernel
theorem dL_law_633 : decode cL_law 633 = .ok (.iaload, 1) := by decide +kernel
theorem dL_law_634 : decode cL_law 634 = .ok (.invokevirtual 81, 3) := by decide +kernel
theorem dL_law_637 : decode cL_law 637 = .ok (.aload_n 2, 1) := by decide +kernel
theorem dL_law_638 : decode cL_law 638 = .ok (.aload_n 0, 1) := by decide +kernel
theorem dL_law_639 : decode cL_law 639 = .ok (.iload_n 3, 1) := by decide +kernel
theorem dL_law_640 : decode cL_law 640 = .ok (.iconst 1, 1) := by decide +kernel
theorem dL_law_641 : decode cL_law 641 = .ok (.iadd, 1) := by decide +kernel
theorem dL_law_642 : decode cL_law 642 = .ok (.iaload, 1) := by decide +kernel
theorem dL_law_643 : decode cL_law 643 = .ok (.invokevirtual 84, 3) := by decide +kernel
theorem dL_law_646 : decode cL_law 646 = .ok (.if_icmp .eq 711, 3) := by decide +kernel
theorem dL_law_649 : decode cL_law 649 = .ok (.iconst 0, 1) := by decide +kernel
theorem dL_law_650 : decode cL_law 650 = .ok (.ireturn, 1) := by decide +kernel
theorem dL_law_651 : decode cL_law 651 = .ok (.aload_n 1, 1) := by decide +kernel
theorem dL_law_652 : decode cL_law 652 = .ok (.aload_n 0, 1) := by decide +kernel
theorem dL_law_653 : decode cL_law 653 = .ok (.iload_n 3, 1) := by decide +kernel
theorem dL_law_654 : decode cL_law 654 = .ok (.iconst 1, 1) := by decide +kernel
theorem dL_law_655 : decode cL_law 655 = .ok (.iadd, 1) := by decide +kernel
theorem dL_law_656 : decode cL_law 656 = .ok (.iaload, 1) := by decide +kernel
theorem dL_law_657 : decode cL_law 657 = .ok (.aload_n 0, 1) := by decide +kernel
theorem dL_law_658 : decode cL_law 658 = .ok (.iload_n 3, 1) := by decide +kernel
theorem dL_law_659 : decode cL_law 659 = .ok (.iconst 2, 1) := by decide +kernel
theorem dL_law_660 : decode cL_law 660 = .ok (.iadd, 1) := by decide +kernel
theorem dL_law_661 : decode cL_law 661 = .ok (.iaload, 1) := by decide +kernel
theorem dL_law_662 : decode cL_law 662 = .ok (.invokevirtual 85, 3) := by decide +kernel
theorem dL_law_665 : decode cL_law 665 = .ok (.aload_n 2, 1) := by decide +kernel
theorem dL_law_666 : decode cL_law 666 = .ok (.aload_n 0, 1) := by decide +kernel
theorem dL_law_667 : decode cL_law 667 = .ok (.iload_n 3, 1) := by decide +kernel
theorem dL_law_668 : decode cL_law 668 = .ok (.iconst 1, 1) := by decide +kernel
theorem dL_law_669 : decode cL_law 669 = .ok (.iadd, 1) := by decide +kernel
theorem dL_law_670 : decode cL_law 670 = .ok (.iaload, 1) := by decide +kernel
theorem dL_law_671 : decode cL_law 671 = .ok (.aload_n 0, 1) := by decide +kernel
theorem dL_law_672 : decode cL_law 672 = .ok (.iload_n 3, 1) := by decide +kernel
theorem dL_law_673 : decode cL_law 673 = .ok (.iconst 2, 1) := by decide +kernel
theorem dL_law_674 : decode cL_law 674 = .ok (.iadd, 1) := by decide +kernel
theorem dL_law_675 : decode cL_law 675 = .ok (.iaload, 1) := by decide +kernel
theorem dL_law_676 : decode cL_law 676 = .ok (.invokevirtual 88, 3) := by decide +kernel
theorem dL_law_679 : decode cL_law 679 = .ok (.if_icmp .eq 678, 3) := by decide +kernel
theorem dL_law_682 : decode cL_law 682 = .ok (.iconst 0, 1) := by decide +kernel
theorem dL_law_683 : decode cL_law 683 = .ok (.ireturn, 1) := by decide +kernel
theorem dL_law_684 : decode cL_law 684 = .ok (.aload_n 1, 1) := by decide +kernel
theorem dL_law_685 : decode cL_law 685 = .ok (.aload_n 0, 1) := by decide +kernel
theorem dL_law_686 : decode cL_law 686 = .ok (.iload_n 3, 1) := by decide +kernel
theorem dL_law_687 : decode cL_law 687 = .ok (.iconst 1, 1) := by decide +kernel
theorem dL_law_688 : decode cL_law 688 = .ok (.iadd, 1) := by decide +kernel
theorem dL_law_689 : decode cL_law 689 = .ok (.iaload, 1) := by decide +kernel
theorem dL_law_690 : decode cL_law 690 = .ok (.aload_n 0, 1) := by decide +kernel
theorem dL_law_691 : decode cL_law 691 = .ok (.iload_n 3, 1) := by decide +kernel
theorem dL_law_692 : decode cL_law 692 = .ok (.iconst 2, 1) := by decide +kernel
theorem dL_law_693 : decode cL_law 693 = .ok (.iadd, 1) := by decide +kernel
theorem dL_law_694 : decode cL_law 694 = .ok (.iaload, 1) := by decide +kernel
theorem dL_law_695 : decode cL_law 695 = .ok (.invokevirtual 89, 3) := by decide +kernel
theorem dL_law_698 : decode cL_law 698 = .ok (.aload_n 2, 1) := by decide +kernel
theorem dL_law_699 : decode cL_law 699 = .ok (.aload_n 0, 1) := by decide +kernel
theorem dL_law_700 : decode cL_law 700 = .ok (.iload_n 3, 1) := by decide +kernel
theorem dL_law_701 : decode cL_law 701 = .ok (.iconst 1, 1) := by decide +kernel
theorem dL_law_702 : decode cL_law 702 = .ok (.iadd, 1) := by decide +kernel
theorem dL_law_703 : decode cL_law 703 = .ok (.iaload, 1) := by decide +kernel
theorem dL_law_704 : decode cL_law 704 = .ok (.aload_n 0, 1) := by decide +kernel
theorem dL_law_705 : decode cL_law 705 = .ok (.iload_n 3, 1) := by decide +kernel
theorem dL_law_706 : decode cL_law 706 = .ok (.iconst 2, 1) := by decide +kernel
theorem dL_law_707 : decode cL_law 707 = .ok (.iadd, 1) := by decide +kernel
theorem dL_law_708 : decode cL_law 708 = .ok (.iaload, 1) := by decide +kernel
theorem dL_law_709 : decode cL_law 709 = .ok (.invokevirtual 92, 3) := by decide +kernel
theorem dL_law_712 : decode cL_law 712 = .ok (.if_icmp .eq 645, 3) := by decide +kernel
theorem dL_law_715 : decode cL_law 715 = .ok (.iconst 0, 1) := by decide +kernel
theorem dL_law_716 : decode cL_law 716 = .ok (.ireturn, 1) := by decide +kernel
theorem dL_law_717 : decode cL_law 717 = .ok (.aload_n 1, 1) := by decide +kernel
theorem dL_law_718 : decode cL_law 718 = .ok (.aload_n 0, 1) := by decide +kernel
theorem dL_law_719 : decode cL_law 719 = .ok (.iload_n 3, 1) := by decide +kernel
theorem dL_law_720 : decode cL_law 720 = .ok (.iconst 1, 1) := by decide +kernel
theorem dL_law_721 : decode cL_law 721 = .ok (.iadd, 1) := by decide +kernel
theorem dL_law_722 : decode cL_law 722 = .ok (.iaload, 1) := by decide +kernel
theorem dL_law_723 : decode cL_law 723 = .ok (.aload_n 0, 1) := by decide +kernel
theorem dL_law_724 : decode cL_law 724 = .ok (.iload_n 3, 1) := by decide +kernel
theorem dL_law_725 : decode cL_law 725 = .ok (.iconst 2, 1) := by decide +kernel
theorem dL_law_726 : decode cL_law 726 = .ok (.iadd, 1) := by decide +kernel
theorem dL_law_727 : decode cL_law 727 = .ok (.iaload, 1) := by decide +kernel
theorem dL_law_728 : decode cL_law 728 = .ok (.aload_n 0, 1) := by decide +kernel
theorem dL_law_729 : decode cL_law 729 = .ok (.iload_n 3, 1) := by decide +kernel
theorem dL_law_730 : decode cL_law 730 = .ok (.iconst 3, 1) := by decide +kernel
theorem dL_law_731 : decode cL_law 731 = .ok (.iadd, 1) := by decide +kernel
theorem dL_law_732 : decode cL_law 732 = .ok (.iaload, 1) := by decide +kernel
theorem dL_law_733 : decode cL_law 733 = .ok (.invokevirtual 93, 3) := by decide +kernel
theorem dL_law_736 : decode cL_law 736 = .ok (.aload_n 2, 1) := by decide +kernel
theorem dL_law_737 : decode cL_law 737 = .ok (.aload_n 0, 1) := by decide +kernel
theorem dL_law_738 : decode cL_law 738 = .ok (.iload_n 3, 1) := by decide +kernel
theorem dL_law_739 : decode cL_law 739 = .ok (.iconst 1, 1) := by decide +kernel
theorem dL_law_740 : decode cL_law 740 = .ok (.iadd, 1) := by decide +kernel
theorem dL_law_741 : decode cL_law 741 = .ok (.iaload, 1) := by decide +kernel
theorem dL_law_742 : decode cL_law 742 = .ok (.aload_n 0, 1) := by decide +kernel
theorem dL_law_743 : decode cL_law 743 = .ok (.iload_n 3, 1) := by decide +kernel
theorem dL_law_744 : decode cL_law 744 = .ok (.iconst 2, 1) := by decide +kernel
theorem dL_law_745 : decode cL_law 745 = .ok (.iadd, 1) := by decide +kernel
theorem dL_law_746 : decode cL_law 746 = .ok (.iaload, 1) := by decide +kernel
theorem dL_law_747 : decode cL_law 747 = .ok (.aload_n 0, 1) := by decide +kernel
theorem dL_law_748 : decode cL_law 748 = .ok (.iload_n 3, 1) := by decide +kernel
theorem dL_law_749 : decode cL_law 749 = .ok (.iconst 3, 1) := by decide +kernel
theorem dL_law_750 : decode cL_law 750 = .ok (.iadd, 1) := by decide +kernel
theorem dL_law_751 : decode cL_law 751 = .ok (.iaload, 1) := by decide +kernel
theorem dL_law_752 : decode cL_law 752 = .ok (.invokevirtual 96, 3) := by decide +kernel
theorem dL_law_755 : decode cL_law 755 = .ok (.if_icmp .eq 602, 3) := by decide +kernel
theorem dL_law_758 : decode cL_law 758 = .ok (.iconst 0, 1) := by decide +kernel
theorem dL_law_759 : decode cL_law 759 = .ok (.ireturn, 1) := by decide +kernel
theorem dL_law_760 : decode cL_law 760 = .ok (.aload_n 1, 1) := by decide +kernel
theorem dL_law_761 : decode cL_law 761 = .ok (.aload_n 0, 1) := by decide +kernel
theorem dL_law_762 : decode cL_law 762 = .ok (.iload_n 3, 1) := by decide +kernel
theorem dL_law_763 : decode cL_law 763 = .ok (.iconst 1, 1) := by decide +kernel
theorem dL_law_764 : decode cL_law 764 = .ok (.iadd, 1) := by decide +kernel
theorem dL_law_765 : decode cL_law 765 = .ok (.iaload, 1) := by decide +kernel
theorem dL_law_766 : decode cL_law 766 = .ok (.aload_n 0, 1) := by decide +kernel
theorem dL_law_767 : decode cL_law 767 = .ok (.iload_n 3, 1) := by decide +kernel
theorem dL_law_768 : decode cL_law 768 = .ok (.iconst 2, 1) := by decide +kernel
theorem dL_law_769 : decode cL_law 769 = .ok (.iadd, 1) := by decide +kernel
theorem dL_law_770 : decode cL_law 770 = .ok (.iaload, 1) := by decide +kernel
theorem dL_law_771 : decode cL_law 771 = .ok (.aload_n 0, 1) := by decide +kernel
theorem dL_law_772 : decode cL_law 772 = .ok (.iload_n 3, 1) := by decide +kernel
theorem dL_law_773 : decode cL_law 773 = .ok (.iconst 3, 1) := by decide +kernel
theorem dL_law_774 : decode cL_law 774 = .ok (.iadd, 1) := by decide +kernel
theorem dL_law_775 : decode cL_law 775 = .ok (.iaload, 1) := by decide +kernel
theorem dL_law_776 : decode cL_law 776 = .ok (.invokevirtual 97, 3) := by decide +kernel
theorem dL_law_779 : decode cL_law 779 = .ok (.aload_n 2, 1) := by decide +kernel
theorem dL_law_780 : decode cL_law 780 = .ok (.aload_n 0, 1) := by decide +kernel
theorem dL_law_781 : decode cL_law 781 = .ok (.iload_n 3, 1) := by decide +kernel
theorem dL_law_782 : decode cL_law 782 = .ok (.iconst 1, 1) := by decide +kernel
theorem dL_law_783 : decode cL_law 783 = .ok (.iadd, 1) := by decide +kernel
theorem dL_law_784 : decode cL_law 784 = .ok (.iaload, 1) := by decide +kernel
theorem dL_law_785 : decode cL_law 785 = .ok (.aload_n 0, 1) := by decide +kernel
theorem dL_law_786 : decode cL_law 786 = .ok (.iload_n 3, 1) := by decide +kernel
theorem dL_law_787 : decode cL_law 787 = .ok (.iconst 2, 1) := by decide +kernel
theorem dL_law_788 : decode cL_law 788 = .ok (.iadd, 1) := by decide +kernel
theorem dL_law_789 : decode cL_law 789 = .ok (.iaload, 1) := by decide +kernel
theorem dL_law_790 : decode cL_law 790 = .ok (.aload_n 0, 1) := by decide +kernel
theorem dL_law_791 : decode cL_law 791 = .ok (.iload_n 3, 1) := by decide +kernel
theorem dL_law_792 : decode cL_law 792 = .ok (.iconst 3, 1) := by decide +kernel
theorem dL_law_793 : decode cL_law 793 = .ok (.iadd, 1) := by decide +kernel
theorem dL_law_794 : decode cL_law 794 = .ok (.iaload, 1) := by decide +kernel
theorem dL_law_795 : decode cL_law 795 = .ok (.invokevirtual 100, 3) := by decide +kernel
theorem dL_law_798 : decode cL_law 798 = .ok (.if_icmp .eq 559, 3) := by decide +kernel
theorem dL_law_801 : decode cL_law 801 = .ok (.iconst 0, 1) := by decide +kernel
theorem dL_law_802 : decode cL_law 802 = .ok (.ireturn, 1) := by decide +kernel
theorem dL_law_803 : decode cL_law 803 = .ok (.aload_n 1, 1) := by decide +kernel
theorem dL_law_804 : decode cL_law 804 = .ok (.invokevirtual 101, 3) := by decide +kernel
theorem dL_law_807 : decode cL_law 807 = .ok (.aload_n 2, 1) := by decide +kernel
theorem dL_law_808 : decode cL_law 808 = .ok (.invokevirtual 104, 3) := by decide +kernel
theorem dL_law_811 : decode cL_law 811 = .ok (.if_icmp .eq 546, 3) := by decide +kernel
theorem dL_law_814 : decode cL_law 814 = .ok (.iconst 0, 1) := by decide +kernel
theorem dL_law_815 : decode cL_law 815 = .ok (.ireturn, 1) := by decide +kernel
theorem dL_law_816 : decode cL_law 816 = .ok (.aload_n 1, 1) := by decide +kernel
theorem dL_law_817 : decode cL_law 817 = .ok (.aload_n 0, 1) := by decide +kernel
theorem dL_law_818 : decode cL_law 818 = .ok (.iload_n 3, 1) := by decide +kernel
theorem dL_law_819 : decode cL_law 819 = .ok (.iconst 1, 1) := by decide +kernel
theorem dL_law_820 : decode cL_law 820 = .ok (.iadd, 1) := by decide +kernel
theorem dL_law_821 : decode cL_law 821 = .ok (.iaload, 1) := by decide +kernel
theorem dL_law_822 : decode cL_law 822 = .ok (.aload_n 0, 1) := by decide +kernel
theorem dL_law_823 : decode cL_law 823 = .ok (.iload_n 3, 1) := by decide +kernel
theorem dL_law_824 : decode cL_law 824 = .ok (.iconst 2, 1) := by decide +kernel
theorem dL_law_825 : decode cL_law 825 = .ok (.iadd, 1) := by decide +kernel
theorem dL_law_826 : decode cL_law 826 = .ok (.iaload, 1) := by decide +kernel
theorem dL_law_827 : decode cL_law 827 = .ok (.invokevirtual 105, 3) := by decide +kernel
theorem dL_law_830 : decode cL_law 830 = .ok (.aload_n 2, 1) := by decide +kernel
theorem dL_law_831 : decode cL_law 831 = .ok (.aload_n 0, 1) := by decide +kernel
theorem dL_law_832 : decode cL_law 832 = .ok (.iload_n 3, 1) := by decide +kernel
theorem dL_law_833 : decode cL_law 833 = .ok (.iconst 1, 1) := by decide +kernel
theorem dL_law_834 : decode cL_law 834 = .ok (.iadd, 1) := by decide +kernel
theorem dL_law_835 : decode cL_law 835 = .ok (.iaload, 1) := by decide +kernel
theorem dL_law_836 : decode cL_law 836 = .ok (.aload_n 0, 1) := by decide +kernel
theorem dL_law_837 : decode cL_law 837 = .ok (.iload_n 3, 1) := by decide +kernel
theorem dL_law_838 : decode cL_law 838 = .ok (.iconst 2, 1) := by decide +kernel
theorem dL_law_839 : decode cL_law 839 = .ok (.iadd, 1) := by decide +kernel
theorem dL_law_840 : decode cL_law 840 = .ok (.iaload, 1) := by decide +kernel
theorem dL_law_841 : decode cL_law 841 = .ok (.invokevirtual 108, 3) := by decide +kernel
theorem dL_law_844 : decode cL_law 844 = .ok (.if_icmp .eq 513, 3) := by decide +kernel
theorem dL_law_847 : decode cL_law 847 = .ok (.iconst 0, 1) := by decide +kernel
theorem dL_law_848 : decode cL_law 848 = .ok (.ireturn, 1) := by decide +kernel
theorem dL_law_849 : decode cL_law 849 = .ok (.aload_n 1, 1) := by decide +kernel
theorem dL_law_850 : decode cL_law 850 = .ok (.aload_n 0, 1) := by decide +kernel
theorem dL_law_851 : decode cL_law 851 = .ok (.iload_n 3, 1) := by decide +kernel
theorem dL_law_852 : decode cL_law 852 = .ok (.iconst 1, 1) := by decide +kernel
theorem dL_law_853 : decode cL_law 853 = .ok (.iadd, 1) := by decide +kernel
theorem dL_law_854 : decode cL_law 854 = .ok (.iaload, 1) := by decide +kernel
theorem dL_law_855 : decode cL_law 855 = .ok (.aload_n 0, 1) := by decide +kernel
theorem dL_law_856 : decode cL_law 856 = .ok (.iload_n 3, 1) := by decide +kernel
theorem dL_law_857 : decode cL_law 857 = .ok (.iconst 2, 1) := by decide +kernel
theorem dL_law_858 : decode cL_law 858 = .ok (.iadd, 1) := by decide +kernel
theorem dL_law_859 : decode cL_law 859 = .ok (.iaload, 1) := by decide +kernel
theorem dL_law_860 : decode cL_law 860 = .ok (.invokevirtual 109, 3) := by decide +kernel
theorem dL_law_863 : decode cL_law 863 = .ok (.aload_n 2, 1) := by decide +kernel
theorem dL_law_864 : decode cL_law 864 = .ok (.aload_n 0, 1) := by decide +kernel
theorem dL_law_865 : decode cL_law 865 = .ok (.iload_n 3, 1) := by decide +kernel
theorem dL_law_866 : decode cL_law 866 = .ok (.iconst 1, 1) := by decide +kernel
theorem dL_law_867 : decode cL_law 867 = .ok (.iadd, 1) := by decide +kernel
theorem dL_law_868 : decode cL_law 868 = .ok (.iaload, 1) := by decide +kernel
theorem dL_law_869 : decode cL_law 869 = .ok (.aload_n 0, 1) := by decide +kernel
theorem dL_law_870 : decode cL_law 870 = .ok (.iload_n 3, 1) := by decide +kernel
theorem dL_law_871 : decode cL_law 871 = .ok (.iconst 2, 1) := by decide +kernel
theorem dL_law_872 : decode cL_law 872 = .ok (.iadd, 1) := by decide +kernel
theorem dL_law_873 : decode cL_law 873 = .ok (.iaload, 1) := by decide +kernel
theorem dL_law_874 : decode cL_law 874 = .ok (.invokevirtual 113, 3) := by decide +kernel
theorem dL_law_877 : decode cL_law 877 = .ok (.lcmp, 1) := by decide +kernel
theorem dL_law_878 : decode cL_law 878 = .ok (.ifCond .eq 479, 3) := by decide +kernel
theorem dL_law_881 : decode cL_law 881 = .ok (.iconst 0, 1) := by decide +kernel
theorem dL_law_882 : decode cL_law 882 = .ok (.ireturn, 1) := by decide +kernel
theorem dL_law_883 : decode cL_law 883 = .ok (.aload_n 1, 1) := by decide +kernel
theorem dL_law_884 : decode cL_law 884 = .ok (.aload_n 0, 1) := by decide +kernel
theorem dL_law_885 : decode cL_law 885 = .ok (.iload_n 3, 1) := by decide +kernel
theorem dL_law_886 : decode cL_law 886 = .ok (.iconst 1, 1) := by decide +kernel
theorem dL_law_887 : decode cL_law 887 = .ok (.iadd, 1) := by decide +kernel
theorem dL_law_888 : decode cL_law 888 = .ok (.iaload, 1) := by decide +kernel
theorem dL_law_889 : decode cL_law 889 = .ok (.aload_n 0, 1) := by decide +kernel
theorem dL_law_890 : decode cL_law 890 = .ok (.iload_n 3, 1) := by decide +kernel
theorem dL_law_891 : decode cL_law 891 = .ok (.iconst 2, 1) := by decide +kernel
theorem dL_law_892 : decode cL_law 892 = .ok (.iadd, 1) := by decide +kernel
theorem dL_law_893 : decode cL_law 893 = .ok (.iaload, 1) := by decide +kernel
theorem dL_law_894 : decode cL_law 894 = .ok (.invokevirtual 114, 3) := by decide +kernel
theorem dL_law_897 : decode cL_law 897 = .ok (.aload_n 2, 1) := by decide +kernel
theorem dL_law_898 : decode cL_law 898 = .ok (.aload_n 0, 1) := by decide +kernel
theorem dL_law_899 : decode cL_law 899 = .ok (.iload_n 3, 1) := by decide +kernel
theorem dL_law_900 : decode cL_law 900 = .ok (.iconst 1, 1) := by decide +kernel
theorem dL_law_901 : decode cL_law 901 = .ok (.iadd, 1) := by decide +kernel
theorem dL_law_902 : decode cL_law 902 = .ok (.iaload, 1) := by decide +kernel
theorem dL_law_903 : decode cL_law 903 = .ok (.aload_n 0, 1) := by decide +kernel
theorem dL_law_904 : decode cL_law 904 = .ok (.iload_n 3, 1) := by decide +kernel
theorem dL_law_905 : decode cL_law 905 = .ok (.iconst 2, 1) := by decide +kernel
theorem dL_law_906 : decode cL_law 906 = .ok (.iadd, 1) := by decide +kernel
theorem dL_law_907 : decode cL_law 907 = .ok (.iaload, 1) := by decide +kernel
theorem dL_law_908 : decode cL_law 908 = .ok (.invokevirtual 117, 3) := by decide +kernel
theorem dL_law_911 : decode cL_law 911 = .ok (.lcmp, 1) := by decide +kernel
theorem dL_law_912 : decode cL_law 912 = .ok (.ifCond .eq 445, 3) := by decide +kernel
theorem dL_law_915 : decode cL_law 915 = .ok (.iconst 0, 1) := by decide +kernel
theorem dL_law_916 : decode cL_law 916 = .ok (.ireturn, 1) := by decide +kernel
theorem dL_law_917 : decode cL_law 917 = .ok (.aload_n 1, 1) := by decide +kernel
theorem dL_law_918 : decode cL_law 918 = .ok (.aload_n 0, 1) := by decide +kernel
theorem dL_law_919 : decode cL_law 919 = .ok (.iload_n 3, 1) := by decide +kernel
theorem dL_law_920 : decode cL_law 920 = .ok (.iconst 1, 1) := by decide +kernel
theorem dL_law_921 : decode cL_law 921 = .ok (.iadd, 1) := by decide +kernel
theorem dL_law_922 : decode cL_law 922 = .ok (.iaload, 1) := by decide +kernel
theorem dL_law_923 : decode cL_law 923 = .ok (.aload_n 0, 1) := by decide +kernel
theorem dL_law_924 : decode cL_law 924 = .ok (.iload_n 3, 1) := by decide +kernel
theorem dL_law_925 : decode cL_law 925 = .ok (.iconst 2, 1) := by decide +kernel
theorem dL_law_926 : decode cL_law 926 = .ok (.iadd, 1) := by decide +kernel
theorem dL_law_927 : decode cL_law 927 = .ok (.iaload, 1) := by decide +kernel
theorem dL_law_928 : decode cL_law 928 = .ok (.invokevirtual 118, 3) := by decide +kernel
theorem dL_law_931 : decode cL_law 931 = .ok (.aload_n 2, 1) := by decide +kernel
theorem dL_law_932 : decode cL_law 932 = .ok (.aload_n 0, 1) := by decide +kernel
theorem dL_law_933 : decode cL_law 933 = .ok (.iload_n 3, 1) := by decide +kernel
theorem dL_law_934 : decode cL_law 934 = .ok (.iconst 1, 1) := by decide +kernel
theorem dL_law_935 : decode cL_law 935 = .ok (.iadd, 1) := by decide +kernel
theorem dL_law_936 : decode cL_law 936 = .ok (.iaload, 1) := by decide +kernel
theorem dL_law_937 : decode cL_law 937 = .ok (.aload_n 0, 1) := by decide +kernel
theorem dL_law_938 : decode cL_law 938 = .ok (.iload_n 3, 1) := by decide +kernel
theorem dL_law_939 : decode cL_law 939 = .ok (.iconst 2, 1) := by decide +kernel
theorem dL_law_940 : decode cL_law 940 = .ok (.iadd, 1) := by decide +kernel
theorem dL_law_941 : decode cL_law 941 = .ok (.iaload, 1) := by decide +kernel
theorem dL_law_942 : decode cL_law 942 = .ok (.invokevirtual 121, 3) := by decide +kernel
theorem dL_law_945 : decode cL_law 945 = .ok (.if_icmp .eq 412, 3) := by decide +kernel
theorem dL_law_948 : decode cL_law 948 = .ok (.iconst 0, 1) := by decide +kernel
theorem dL_law_949 : decode cL_law 949 = .ok (.ireturn, 1) := by decide +kernel
theorem dL_law_950 : decode cL_law 950 = .ok (.aload_n 1, 1) := by decide +kernel
theorem dL_law_951 : decode cL_law 951 = .ok (.invokevirtual 122, 3) := by decide +kernel
theorem dL_law_954 : decode cL_law 954 = .ok (.aload_n 2, 1) := by decide +kernel
theorem dL_law_955 : decode cL_law 955 = .ok (.invokevirtual 125, 3) := by decide +kernel
theorem dL_law_958 : decode cL_law 958 = .ok (.if_icmp .eq 399, 3) := by decide +kernel
theorem dL_law_961 : decode cL_law 961 = .ok (.iconst 0, 1) := by decide +kernel
theorem dL_law_962 : decode cL_law 962 = .ok (.ireturn, 1) := by decide +kernel
theorem dL_law_963 : decode cL_law 963 = .ok (.aload_n 1, 1) := by decide +kernel
theorem dL_law_964 : decode cL_law 964 = .ok (.aload_n 0, 1) := by decide +kernel
theorem dL_law_965 : decode cL_law 965 = .ok (.iload_n 3, 1) := by decide +kernel
theorem dL_law_966 : decode cL_law 966 = .ok (.iconst 1, 1) := by decide +kernel
theorem dL_law_967 : decode cL_law 967 = .ok (.iadd, 1) := by decide +kernel
theorem dL_law_968 : decode cL_law 968 = .ok (.iaload, 1) := by decide +kernel
theorem dL_law_969 : decode cL_law 969 = .ok (.aload_n 0, 1) := by decide +kernel
theorem dL_law_970 : decode cL_law 970 = .ok (.iload_n 3, 1) := by decide +kernel
theorem dL_law_971 : decode cL_law 971 = .ok (.iconst 2, 1) := by decide +kernel
theorem dL_law_972 : decode cL_law 972 = .ok (.iadd, 1) := by decide +kernel
theorem dL_law_973 : decode cL_law 973 = .ok (.iaload, 1) := by decide +kernel
theorem dL_law_974 : decode cL_law 974 = .ok (.invokevirtual 126, 3) := by decide +kernel
theorem dL_law_977 : decode cL_law 977 = .ok (.aload_n 2, 1) := by decide +kernel
theorem dL_law_978 : decode cL_law 978 = .ok (.aload_n 0, 1) := by decide +kernel
theorem dL_law_979 : decode cL_law 979 = .ok (.iload_n 3, 1) := by decide +kernel
theorem dL_law_980 : decode cL_law 980 = .ok (.iconst 1, 1) := by decide +kernel
theorem dL_law_981 : decode cL_law 981 = .ok (.iadd, 1) := by decide +kernel
theorem dL_law_982 : decode cL_law 982 = .ok (.iaload, 1) := by decide +kernel
theorem dL_law_983 : decode cL_law 983 = .ok (.aload_n 0, 1) := by decide +kernel
theorem dL_law_984 : decode cL_law 984 = .ok (.iload_n 3, 1) := by decide +kernel
theorem dL_law_985 : decode cL_law 985 = .ok (.iconst 2, 1) := by decide +kernel
theorem dL_law_986 : decode cL_law 986 = .ok (.iadd, 1) := by decide +kernel
theorem dL_law_987 : decode cL_law 987 = .ok (.iaload, 1) := by decide +kernel
theorem dL_law_988 : decode cL_law 988 = .ok (.invokevirtual 129, 3) := by decide +kernel
theorem dL_law_991 : decode cL_law 991 = .ok (.if_icmp .eq 366, 3) := by decide +kernel
theorem dL_law_994 : decode cL_law 994 = .ok (.iconst 0, 1) := by decide +kernel
theorem dL_law_995 : decode cL_law 995 = .ok (.ireturn, 1) := by decide +kernel
theorem dL_law_996 : decode cL_law 996 = .ok (.aload_n 1, 1) := by decide +kernel
theorem dL_law_997 : decode cL_law 997 = .ok (.invokevirtual 130, 3) := by decide +kernel
theorem dL_law_1000 : decode cL_law 1000 = .ok (.aload_n 2, 1) := by decide +kernel
theorem dL_law_1001 : decode cL_law 1001 = .ok (.invokevirtual 133, 3) := by decide +kernel
theorem dL_law_1004 : decode cL_law 1004 = .ok (.if_icmp .eq 353, 3) := by decide +kernel
theorem dL_law_1007 : decode cL_law 1007 = .ok (.iconst 0, 1) := by decide +kernel
theorem dL_law_1008 : decode cL_law 1008 = .ok (.ireturn, 1) := by decide +kernel
theorem dL_law_1009 : decode cL_law 1009 = .ok (.aload_n 1, 1) := by decide +kernel
theorem dL_law_1010 : decode cL_law 1010 = .ok (.invokevirtual 134, 3) := by decide +kernel
theorem dL_law_1013 : decode cL_law 1013 = .ok (.aload_n 2, 1) := by decide +kernel
theorem dL_law_1014 : decode cL_law 1014 = .ok (.invokevirtual 137, 3) := by decide +kernel
theorem dL_law_1017 : decode cL_law 1017 = .ok (.if_icmp .eq 340, 3) := by decide +kernel
theorem dL_law_1020 : decode cL_law 1020 = .ok (.iconst 0, 1) := by decide +kernel
theorem dL_law_1021 : decode cL_law 1021 = .ok (.ireturn, 1) := by decide +kernel
theorem dL_law_1022 : decode cL_law 1022 = .ok (.aload_n 1, 1) := by decide +kernel
theorem dL_law_1023 : decode cL_law 1023 = .ok (.aload_n 0, 1) := by decide +kernel
theorem dL_law_1024 : decode cL_law 1024 = .ok (.iload_n 3, 1) := by decide +kernel
theorem dL_law_1025 : decode cL_law 1025 = .ok (.iconst 1, 1) := by decide +kernel
theorem dL_law_1026 : decode cL_law 1026 = .ok (.iadd, 1) := by decide +kernel
theorem dL_law_1027 : decode cL_law 1027 = .ok (.iaload, 1) := by decide +kernel
theorem dL_law_1028 : decode cL_law 1028 = .ok (.aload_n 0, 1) := by decide +kernel
theorem dL_law_1029 : decode cL_law 1029 = .ok (.iload_n 3, 1) := by decide +kernel
theorem dL_law_1030 : decode cL_law 1030 = .ok (.iconst 2, 1) := by decide +kernel
theorem dL_law_1031 : decode cL_law 1031 = .ok (.iadd, 1) := by decide +kernel
theorem dL_law_1032 : decode cL_law 1032 = .ok (.iaload, 1) := by decide +kernel
theorem dL_law_1033 : decode cL_law 1033 = .ok (.aload_n 0, 1) := by decide +kernel
theorem dL_law_1034 : decode cL_law 1034 = .ok (.iload_n 3, 1) := by decide +kernel
theorem dL_law_1035 : decode cL_law 1035 = .ok (.iconst 3, 1) := by decide +kernel
theorem dL_law_1036 : decode cL_law 1036 = .ok (.iadd, 1) := by decide +kernel
theorem dL_law_1037 : decode cL_law 1037 = .ok (.iaload, 1) := by decide +kernel
theorem dL_law_1038 : decode cL_law 1038 = .ok (.invokevirtual 138, 3) := by decide +kernel
theorem dL_law_1041 : decode cL_law 1041 = .ok (.aload_n 2, 1) := by decide +kernel
theorem dL_law_1042 : decode cL_law 1042 = .ok (.aload_n 0, 1) := by decide +kernel
theorem dL_law_1043 : decode cL_law 1043 = .ok (.iload_n 3, 1) := by decide +kernel
theorem dL_law_1044 : decode cL_law 1044 = .ok (.iconst 1, 1) := by decide +kernel
theorem dL_law_1045 : decode cL_law 1045 = .ok (.iadd, 1) := by decide +kernel
theorem dL_law_1046 : decode cL_law 1046 = .ok (.iaload, 1) := by decide +kernel
theorem dL_law_1047 : decode cL_law 1047 = .ok (.aload_n 0, 1) := by decide +kernel
theorem dL_law_1048 : decode cL_law 1048 = .ok (.iload_n 3, 1) := by decide +kernel
theorem dL_law_1049 : decode cL_law 1049 = .ok (.iconst 2, 1) := by decide +kernel
theorem dL_law_1050 : decode cL_law 1050 = .ok (.iadd, 1) := by decide +kernel
theorem dL_law_1051 : decode cL_law 1051 = .ok (.iaload, 1) := by decide +kernel
theorem dL_law_1052 : decode cL_law 1052 = .ok (.aload_n 0, 1) := by decide +kernel
theorem dL_law_1053 : decode cL_law 1053 = .ok (.iload_n 3, 1) := by decide +kernel
theorem dL_law_1054 : decode cL_law 1054 = .ok (.iconst 3, 1) := by decide +kernel
theorem dL_law_1055 : decode cL_law 1055 = .ok (.iadd, 1) := by decide +kernel
theorem dL_law_1056 : decode cL_law 1056 = .ok (.iaload, 1) := by decide +kernel
theorem dL_law_1057 : decode cL_law 1057 = .ok (.invokevirtual 141, 3) := by decide +kernel
theorem dL_law_1060 : decode cL_law 1060 = .ok (.if_icmp .eq 297, 3) := by decide +kernel
theorem dL_law_1063 : decode cL_law 1063 = .ok (.iconst 0, 1) := by decide +kernel
theorem dL_law_1064 : decode cL_law 1064 = .ok (.ireturn, 1) := by decide +kernel
theorem dL_law_1065 : decode cL_law 1065 = .ok (.aload_n 1, 1) := by decide +kernel
theorem dL_law_1066 : decode cL_law 1066 = .ok (.aload_n 0, 1) := by decide +kernel
theorem dL_law_1067 : decode cL_law 1067 = .ok (.iload_n 3, 1) := by decide +kernel
theorem dL_law_1068 : decode cL_law 1068 = .ok (.iconst 1, 1) := by decide +kernel
theorem dL_law_1069 : decode cL_law 1069 = .ok (.iadd, 1) := by decide +kernel
theorem dL_law_1070 : decode cL_law 1070 = .ok (.iaload, 1) := by decide +kernel
theorem dL_law_1071 : decode cL_law 1071 = .ok (.invokevirtual 142, 3) := by decide +kernel
theorem dL_law_1074 : decode cL_law 1074 = .ok (.aload_n 2, 1) := by decide +kernel
theorem dL_law_1075 : decode cL_law 1075 = .ok (.aload_n 0, 1) := by decide +kernel
theorem dL_law_1076 : decode cL_law 1076 = .ok (.iload_n 3, 1) := by decide +kernel
theorem dL_law_1077 : decode cL_law 1077 = .ok (.iconst 1, 1) := by decide +kernel
theorem dL_law_1078 : decode cL_law 1078 = .ok (.iadd, 1) := by decide +kernel
theorem dL_law_1079 : decode cL_law 1079 = .ok (.iaload, 1) := by decide +kernel
theorem dL_law_1080 : decode cL_law 1080 = .ok (.invokevirtual 145, 3) := by decide +kernel
theorem dL_law_1083 : decode cL_law 1083 = .ok (.if_icmp .eq 274, 3) := by decide +kernel
theorem dL_law_1086 : decode cL_law 1086 = .ok (.iconst 0, 1) := by decide +kernel
theorem dL_law_1087 : decode cL_law 1087 = .ok (.ireturn, 1) := by decide +kernel
theorem dL_law_1088 : decode cL_law 1088 = .ok (.aload_n 1, 1) := by decide +kernel
theorem dL_law_1089 : decode cL_law 1089 = .ok (.aload_n 0, 1) := by decide +kernel
theorem dL_law_1090 : decode cL_law 1090 = .ok (.iload_n 3, 1) := by decide +kernel
theorem dL_law_1091 : decode cL_law 1091 = .ok (.iconst 1, 1) := by decide +kernel
theorem dL_law_1092 : decode cL_law 1092 = .ok (.iadd, 1) := by decide +kernel
theorem dL_law_1093 : decode cL_law 1093 = .ok (.iaload, 1) := by decide +kernel
theorem dL_law_1094 : decode cL_law 1094 = .ok (.aload_n 0, 1) := by decide +kernel
theorem dL_law_1095 : decode cL_law 1095 = .ok (.iload_n 3, 1) := by decide +kernel
theorem dL_law_1096 : decode cL_law 1096 = .ok (.iconst 2, 1) := by decide +kernel
theorem dL_law_1097 : decode cL_law 1097 = .ok (.iadd, 1) := by decide +kernel
theorem dL_law_1098 : decode cL_law 1098 = .ok (.iaload, 1) := by decide +kernel
theorem dL_law_1099 : decode cL_law 1099 = .ok (.invokevirtual 146, 3) := by decide +kernel
theorem dL_law_1102 : decode cL_law 1102 = .ok (.aload_n 2, 1) := by decide +kernel
theorem dL_law_1103 : decode cL_law 1103 = .ok (.aload_n 0, 1) := by decide +kernel
theorem dL_law_1104 : decode cL_law 1104 = .ok (.iload_n 3, 1) := by decide +kernel
theorem dL_law_1105 : decode cL_law 1105 = .ok (.iconst 1, 1) := by decide +kernel
theorem dL_law_1106 : decode cL_law 1106 = .ok (.iadd, 1) := by decide +kernel
theorem dL_law_1107 : decode cL_law 1107 = .ok (.iaload, 1) := by decide +kernel
theorem dL_law_1108 : decode cL_law 1108 = .ok (.aload_n 0, 1) := by decide +kernel
theorem dL_law_1109 : decode cL_law 1109 = .ok (.iload_n 3, 1) := by decide +kernel
theorem dL_law_1110 : decode cL_law 1110 = .ok (.iconst 2, 1) := by decide +kernel
theorem dL_law_1111 : decode cL_law 1111 = .ok (.iadd, 1) := by decide +kernel
theorem dL_law_1112 : decode cL_law 1112 = .ok (.iaload, 1) := by decide +kernel
theorem dL_law_1113 : decode cL_law 1113 = .ok (.invokevirtual 149, 3) := by decide +kernel
theorem dL_law_1116 : decode cL_law 1116 = .ok (.if_icmp .eq 241, 3) := by decide +kernel
theorem dL_law_1119 : decode cL_law 1119 = .ok (.iconst 0, 1) := by decide +kernel
theorem dL_law_1120 : decode cL_law 1120 = .ok (.ireturn, 1) := by decide +kernel
theorem dL_law_1121 : decode cL_law 1121 = .ok (.aload_n 1, 1) := by decide +kernel
theorem dL_law_1122 : decode cL_law 1122 = .ok (.aload_n 0, 1) := by decide +kernel
theorem dL_law_1123 : decode cL_law 1123 = .ok (.iload_n 3, 1) := by decide +kernel
theorem dL_law_1124 : decode cL_law 1124 = .ok (.iconst 1, 1) := by decide +kernel
theorem dL_law_1125 : decode cL_law 1125 = .ok (.iadd, 1) := by decide +kernel
theorem dL_law_1126 : decode cL_law 1126 = .ok (.iaload, 1) := by decide +kernel
theorem dL_law_1127 : decode cL_law 1127 = .ok (.invokevirtual 150, 3) := by decide +kernel
theorem dL_law_1130 : decode cL_law 1130 = .ok (.aload_n 2, 1) := by decide +kernel
theorem dL_law_1131 : decode cL_law 1131 = .ok (.aload_n 0, 1) := by decide +kernel
theorem dL_law_1132 : decode cL_law 1132 = .ok (.iload_n 3, 1) := by decide +kernel
theorem dL_law_1133 : decode cL_law 1133 = .ok (.iconst 1, 1) := by decide +kernel
theorem dL_law_1134 : decode cL_law 1134 = .ok (.iadd, 1) := by decide +kernel
theorem dL_law_1135 : decode cL_law 1135 = .ok (.iaload, 1) := by decide +kernel
theorem dL_law_1136 : decode cL_law 1136 = .ok (.invokevirtual 153, 3) := by decide +kernel
theorem dL_law_1139 : decode cL_law 1139 = .ok (.if_icmp .eq 218, 3) := by decide +kernel
theorem dL_law_1142 : decode cL_law 1142 = .ok (.iconst 0, 1) := by decide +kernel
theorem dL_law_1143 : decode cL_law 1143 = .ok (.ireturn, 1) := by decide +kernel
theorem dL_law_1144 : decode cL_law 1144 = .ok (.aload_n 1, 1) := by decide +kernel
theorem dL_law_1145 : decode cL_law 1145 = .ok (.aload_n 0, 1) := by decide +kernel
theorem dL_law_1146 : decode cL_law 1146 = .ok (.iload_n 3, 1) := by decide +kernel
theorem dL_law_1147 : decode cL_law 1147 = .ok (.iconst 1, 1) := by decide +kernel
theorem dL_law_1148 : decode cL_law 1148 = .ok (.iadd, 1) := by decide +kernel
theorem dL_law_1149 : decode cL_law 1149 = .ok (.iaload, 1) := by decide +kernel
theorem dL_law_1150 : decode cL_law 1150 = .ok (.aload_n 0, 1) := by decide +kernel
theorem dL_law_1151 : decode cL_law 1151 = .ok (.iload_n 3, 1) := by decide +kernel
theorem dL_law_1152 : decode cL_law 1152 = .ok (.iconst 2, 1) := by decide +kernel
theorem dL_law_1153 : decode cL_law 1153 = .ok (.iadd, 1) := by decide +kernel
theorem dL_law_1154 : decode cL_law 1154 = .ok (.iaload, 1) := by decide +kernel
theorem dL_law_1155 : decode cL_law 1155 = .ok (.aload_n 0, 1) := by decide +kernel
theorem dL_law_1156 : decode cL_law 1156 = .ok (.iload_n 3, 1) := by decide +kernel
theorem dL_law_1157 : decode cL_law 1157 = .ok (.iconst 3, 1) := by decide +kernel
theorem dL_law_1158 : decode cL_law 1158 = .ok (.iadd, 1) := by decide +kernel
theorem dL_law_1159 : decode cL_law 1159 = .ok (.iaload, 1) := by decide +kernel
theorem dL_law_1160 : decode cL_law 1160 = .ok (.invokevirtual 154, 3) := by decide +kernel
theorem dL_law_1163 : decode cL_law 1163 = .ok (.aload_n 2, 1) := by decide +kernel
theorem dL_law_1164 : decode cL_law 1164 = .ok (.aload_n 0, 1) := by decide +kernel
theorem dL_law_1165 : decode cL_law 1165 = .ok (.iload_n 3, 1) := by decide +kernel
theorem dL_law_1166 : decode cL_law 1166 = .ok (.iconst 1, 1) := by decide +kernel
theorem dL_law_1167 : decode cL_law 1167 = .ok (.iadd, 1) := by decide +kernel
theorem dL_law_1168 : decode cL_law 1168 = .ok (.iaload, 1) := by decide +kernel
theorem dL_law_1169 : decode cL_law 1169 = .ok (.aload_n 0, 1) := by decide +kernel
theorem dL_law_1170 : decode cL_law 1170 = .ok (.iload_n 3, 1) := by decide +kernel
theorem dL_law_1171 : decode cL_law 1171 = .ok (.iconst 2, 1) := by decide +kernel
theorem dL_law_1172 : decode cL_law 1172 = .ok (.iadd, 1) := by decide +kernel
theorem dL_law_1173 : decode cL_law 1173 = .ok (.iaload, 1) := by decide +kernel
theorem dL_law_1174 : decode cL_law 1174 = .ok (.aload_n 0, 1) := by decide +kernel
theorem dL_law_1175 : decode cL_law 1175 = .ok (.iload_n 3, 1) := by decide +kernel
theorem dL_law_1176 : decode cL_law 1176 = .ok (.iconst 3, 1) := by decide +kernel
theorem dL_law_1177 : decode cL_law 1177 = .ok (.iadd, 1) := by decide +kernel
theorem dL_law_1178 : decode cL_law 1178 = .ok (.iaload, 1) := by decide +kernel
theorem dL_law_1179 : decode cL_law 1179 = .ok (.invokevirtual 157, 3) := by decide +kernel
theorem dL_law_1182 : decode cL_law 1182 = .ok (.if_icmp .eq 175, 3) := by decide +kernel
theorem dL_law_1185 : decode cL_law 1185 = .ok (.iconst 0, 1) := by decide +kernel
theorem dL_law_1186 : decode cL_law 1186 = .ok (.ireturn, 1) := by decide +kernel
theorem dL_law_1187 : decode cL_law 1187 = .ok (.aload_n 1, 1) := by decide +kernel
theorem dL_law_1188 : decode cL_law 1188 = .ok (.aload_n 0, 1) := by decide +kernel
theorem dL_law_1189 : decode cL_law 1189 = .ok (.iload_n 3, 1) := by decide +kernel
theorem dL_law_1190 : decode cL_law 1190 = .ok (.iconst 1, 1) := by decide +kernel
theorem dL_law_1191 : decode cL_law 1191 = .ok (.iadd, 1) := by decide +kernel
theorem dL_law_1192 : decode cL_law 1192 = .ok (.iaload, 1) := by decide +kernel
theorem dL_law_1193 : decode cL_law 1193 = .ok (.aload_n 0, 1) := by decide +kernel
theorem dL_law_1194 : decode cL_law 1194 = .ok (.iload_n 3, 1) := by decide +kernel
theorem dL_law_1195 : decode cL_law 1195 = .ok (.iconst 2, 1) := by decide +kernel
theorem dL_law_1196 : decode cL_law 1196 = .ok (.iadd, 1) := by decide +kernel
theorem dL_law_1197 : decode cL_law 1197 = .ok (.iaload, 1) := by decide +kernel
theorem dL_law_1198 : decode cL_law 1198 = .ok (.aload_n 0, 1) := by decide +kernel
theorem dL_law_1199 : decode cL_law 1199 = .ok (.iload_n 3, 1) := by decide +kernel
theorem dL_law_1200 : decode cL_law 1200 = .ok (.iconst 3, 1) := by decide +kernel
theorem dL_law_1201 : decode cL_law 1201 = .ok (.iadd, 1) := by decide +kernel
theorem dL_law_1202 : decode cL_law 1202 = .ok (.iaload, 1) := by decide +kernel
theorem dL_law_1203 : decode cL_law 1203 = .ok (.i2l, 1) := by decide +kernel
theorem dL_law_1204 : decode cL_law 1204 = .ok (.bipush 32, 2) := by decide +kernel
theorem dL_law_1206 : decode cL_law 1206 = .ok (.lshl, 1) := by decide +kernel
theorem dL_law_1207 : decode cL_law 1207 = .ok (.aload_n 0, 1) := by decide +kernel
theorem dL_law_1208 : decode cL_law 1208 = .ok (.iload_n 3, 1) := by decide +kernel
theorem dL_law_1209 : decode cL_law 1209 = .ok (.iconst 4, 1) := by decide +kernel
theorem dL_law_1210 : decode cL_law 1210 = .ok (.iadd, 1) := by decide +kernel
theorem dL_law_1211 : decode cL_law 1211 = .ok (.iaload, 1) := by decide +kernel
theorem dL_law_1212 : decode cL_law 1212 = .ok (.i2l, 1) := by decide +kernel
theorem dL_law_1213 : decode cL_law 1213 = .ok (.ldc2_w 158, 3) := by decide +kernel
theorem dL_law_1216 : decode cL_law 1216 = .ok (.land, 1) := by decide +kernel
theorem dL_law_1217 : decode cL_law 1217 = .ok (.lor, 1) := by decide +kernel
theorem dL_law_1218 : decode cL_law 1218 = .ok (.invokevirtual 160, 3) := by decide +kernel
theorem dL_law_1221 : decode cL_law 1221 = .ok (.aload_n 2, 1) := by decide +kernel
theorem dL_law_1222 : decode cL_law 1222 = .ok (.aload_n 0, 1) := by decide +kernel
theorem dL_law_1223 : decode cL_law 1223 = .ok (.iload_n 3, 1) := by decide +kernel
theorem dL_law_1224 : decode cL_law 1224 = .ok (.iconst 1, 1) := by decide +kernel
theorem dL_law_1225 : decode cL_law 1225 = .ok (.iadd, 1) := by decide +kernel
theorem dL_law_1226 : decode cL_law 1226 = .ok (.iaload, 1) := by decide +kernel
theorem dL_law_1227 : decode cL_law 1227 = .ok (.aload_n 0, 1) := by decide +kernel
theorem dL_law_1228 : decode cL_law 1228 = .ok (.iload_n 3, 1) := by decide +kernel
theorem dL_law_1229 : decode cL_law 1229 = .ok (.iconst 2, 1) := by decide +kernel
theorem dL_law_1230 : decode cL_law 1230 = .ok (.iadd, 1) := by decide +kernel
theorem dL_law_1231 : decode cL_law 1231 = .ok (.iaload, 1) := by decide +kernel
theorem dL_law_1232 : decode cL_law 1232 = .ok (.aload_n 0, 1) := by decide +kernel
theorem dL_law_1233 : decode cL_law 1233 = .ok (.iload_n 3, 1) := by decide +kernel
theorem dL_law_1234 : decode cL_law 1234 = .ok (.iconst 3, 1) := by decide +kernel
theorem dL_law_1235 : decode cL_law 1235 = .ok (.iadd, 1) := by decide +kernel
theorem dL_law_1236 : decode cL_law 1236 = .ok (.iaload, 1) := by decide +kernel
theorem dL_law_1237 : decode cL_law 1237 = .ok (.i2l, 1) := by decide +kernel
theorem dL_law_1238 : decode cL_law 1238 = .ok (.bipush 32, 2) := by decide +kernel
theorem dL_law_1240 : decode cL_law 1240 = .ok (.lshl, 1) := by decide +kernel
theorem dL_law_1241 : decode cL_law 1241 = .ok (.aload_n 0, 1) := by decide +kernel
theorem dL_law_1242 : decode cL_law 1242 = .ok (.iload_n 3, 1) := by decide +kernel
theorem dL_law_1243 : decode cL_law 1243 = .ok (.iconst 4, 1) := by decide +kernel
theorem dL_law_1244 : decode cL_law 1244 = .ok (.iadd, 1) := by decide +kernel
theorem dL_law_1245 : decode cL_law 1245 = .ok (.iaload, 1) := by decide +kernel
theorem dL_law_1246 : decode cL_law 1246 = .ok (.i2l, 1) := by decide +kernel
theorem dL_law_1247 : decode cL_law 1247 = .ok (.ldc2_w 158, 3) := by decide +kernel
theorem dL_law_1250 : decode cL_law 1250 = .ok (.land, 1) := by decide +kernel
theorem dL_law_1251 : decode cL_law 1251 = .ok (.lor, 1) := by decide +kernel
theorem dL_law_1252 : decode cL_law 1252 = .ok (.invokevirtual 164, 3) := by decide +kernel
theorem dL_law_1255 : decode cL_law 1255 = .ok (.if_icmp .eq 102, 3) := by decide +kernel
theorem dL_law_1258 : decode cL_law 1258 = .ok (.iconst 0, 1) := by decide +kernel
theorem dL_law_1259 : decode cL_law 1259 = .ok (.ireturn, 1) := by decide +kernel
theorem dL_law_1260 : decode cL_law 1260 = .ok (.aload_n 1, 1) := by decide +kernel
theorem dL_law_1261 : decode cL_law 1261 = .ok (.aload_n 0, 1) := by decide +kernel
theorem dL_law_1262 : decode cL_law 1262 = .ok (.iload_n 3, 1) := by decide +kernel
theorem dL_law_1263 : decode cL_law 1263 = .ok (.iconst 1, 1) := by decide +kernel
theorem dL_law_1264 : decode cL_law 1264 = .ok (.iadd, 1) := by decide +kernel
theorem dL_law_1265 : decode cL_law 1265 = .ok (.iaload, 1) := by decide +kernel
theorem dL_law_1266 : decode cL_law 1266 = .ok (.aload_n 0, 1) := by decide +kernel
theorem dL_law_1267 : decode cL_law 1267 = .ok (.iload_n 3, 1) := by decide +kernel
theorem dL_law_1268 : decode cL_law 1268 = .ok (.iconst 2, 1) := by decide +kernel
theorem dL_law_1269 : decode cL_law 1269 = .ok (.iadd, 1) := by decide +kernel
theorem dL_law_1270 : decode cL_law 1270 = .ok (.iaload, 1) := by decide +kernel
theorem dL_law_1271 : decode cL_law 1271 = .ok (.invokevirtual 165, 3) := by decide +kernel
theorem dL_law_1274 : decode cL_law 1274 = .ok (.aload_n 2, 1) := by decide +kernel
theorem dL_law_1275 : decode cL_law 1275 = .ok (.aload_n 0, 1) := by decide +kernel
theorem dL_law_1276 : decode cL_law 1276 = .ok (.iload_n 3, 1) := by decide +kernel
theorem dL_law_1277 : decode cL_law 1277 = .ok (.iconst 1, 1) := by decide +kernel
theorem dL_law_1278 : decode cL_law 1278 = .ok (.iadd, 1) := by decide +kernel
theorem dL_law_1279 : decode cL_law 1279 = .ok (.iaload, 1) := by decide +kernel
theorem dL_law_1280 : decode cL_law 1280 = .ok (.aload_n 0, 1) := by decide +kernel
theorem dL_law_1281 : decode cL_law 1281 = .ok (.iload_n 3, 1) := by decide +kernel
theorem dL_law_1282 : decode cL_law 1282 = .ok (.iconst 2, 1) := by decide +kernel
theorem dL_law_1283 : decode cL_law 1283 = .ok (.iadd, 1) := by decide +kernel
theorem dL_law_1284 : decode cL_law 1284 = .ok (.iaload, 1) := by decide +kernel
theorem dL_law_1285 : decode cL_law 1285 = .ok (.invokevirtual 168, 3) := by decide +kernel
theorem dL_law_1288 : decode cL_law 1288 = .ok (.lcmp, 1) := by decide +kernel
theorem dL_law_1289 : decode cL_law 1289 = .ok (.ifCond .eq 68, 3) := by decide +kernel
theorem dL_law_1292 : decode cL_law 1292 = .ok (.iconst 0, 1) := by decide +kernel
theorem dL_law_1293 : decode cL_law 1293 = .ok (.ireturn, 1) := by decide +kernel
theorem dL_law_1294 : decode cL_law 1294 = .ok (.aload_n 1, 1) := by decide +kernel
theorem dL_law_1295 : decode cL_law 1295 = .ok (.aload_n 0, 1) := by decide +kernel
theorem dL_law_1296 : decode cL_law 1296 = .ok (.iload_n 3, 1) := by decide +kernel
theorem dL_law_1297 : decode cL_law 1297 = .ok (.iconst 1, 1) := by decide +kernel
theorem dL_law_1298 : decode cL_law 1298 = .ok (.iadd, 1) := by decide +kernel
theorem dL_law_1299 : decode cL_law 1299 = .ok (.iaload, 1) := by decide +kernel
theorem dL_law_1300 : decode cL_law 1300 = .ok (.aload_n 0, 1) := by decide +kernel
theorem dL_law_1301 : decode cL_law 1301 = .ok (.iload_n 3, 1) := by decide +kernel
theorem dL_law_1302 : decode cL_law 1302 = .ok (.iconst 2, 1) := by decide +kernel
theorem dL_law_1303 : decode cL_law 1303 = .ok (.iadd, 1) := by decide +kernel
theorem dL_law_1304 : decode cL_law 1304 = .ok (.iaload, 1) := by decide +kernel
theorem dL_law_1305 : decode cL_law 1305 = .ok (.aload_n 0, 1) := by decide +kernel
theorem dL_law_1306 : decode cL_law 1306 = .ok (.iload_n 3, 1) := by decide +kernel
theorem dL_law_1307 : decode cL_law 1307 = .ok (.iconst 3, 1) := by decide +kernel
theorem dL_law_1308 : decode cL_law 1308 = .ok (.iadd, 1) := by decide +kernel
theorem dL_law_1309 : decode cL_law 1309 = .ok (.iaload, 1) := by decide +kernel
theorem dL_law_1310 : decode cL_law 1310 = .ok (.aload_n 0, 1) := by decide +kernel
theorem dL_law_1311 : decode cL_law 1311 = .ok (.iload_n 3, 1) := by decide +kernel
theorem dL_law_1312 : decode cL_law 1312 = .ok (.iconst 4, 1) := by decide +kernel
theorem dL_law_1313 : decode cL_law 1313 = .ok (.iadd, 1) := by decide +kernel
theorem dL_law_1314 : decode cL_law 1314 = .ok (.iaload, 1) := by decide +kernel
theorem dL_law_1315 : decode cL_law 1315 = .ok (.aload_n 0, 1) := by decide +kernel
theorem dL_law_1316 : decode cL_law 1316 = .ok (.iload_n 3, 1) := by decide +kernel
theorem dL_law_1317 : decode cL_law 1317 = .ok (.iconst 5, 1) := by decide +kernel
theorem dL_law_1318 : decode cL_law 1318 = .ok (.iadd, 1) := by decide +kernel
theorem dL_law_1319 : decode cL_law 1319 = .ok (.iaload, 1) := by decide +kernel
theorem dL_law_1320 : decode cL_law 1320 = .ok (.invokevirtual 169, 3) := by decide +kernel
theorem dL_law_1323 : decode cL_law 1323 = .ok (.aload_n 2, 1) := by decide +kernel
theorem dL_law_1324 : decode cL_law 1324 = .ok (.aload_n 0, 1) := by decide +kernel
theorem dL_law_1325 : decode cL_law 1325 = .ok (.iload_n 3, 1) := by decide +kernel
theorem dL_law_1326 : decode cL_law 1326 = .ok (.iconst 1, 1) := by decide +kernel
theorem dL_law_1327 : decode cL_law 1327 = .ok (.iadd, 1) := by decide +kernel
theorem dL_law_1328 : decode cL_law 1328 = .ok (.iaload, 1) := by decide +kernel
theorem dL_law_1329 : decode cL_law 1329 = .ok (.aload_n 0, 1) := by decide +kernel
theorem dL_law_1330 : decode cL_law 1330 = .ok (.iload_n 3, 1) := by decide +kernel
theorem dL_law_1331 : decode cL_law 1331 = .ok (.iconst 2, 1) := by decide +kernel
theorem dL_law_1332 : decode cL_law 1332 = .ok (.iadd, 1) := by decide +kernel
theorem dL_law_1333 : decode cL_law 1333 = .ok (.iaload, 1) := by decide +kernel
theorem dL_law_1334 : decode cL_law 1334 = .ok (.aload_n 0, 1) := by decide +kernel
theorem dL_law_1335 : decode cL_law 1335 = .ok (.iload_n 3, 1) := by decide +kernel
theorem dL_law_1336 : decode cL_law 1336 = .ok (.iconst 3, 1) := by decide +kernel
theorem dL_law_1337 : decode cL_law 1337 = .ok (.iadd, 1) := by decide +kernel
theorem dL_law_1338 : decode cL_law 1338 = .ok (.iaload, 1) := by decide +kernel
theorem dL_law_1339 : decode cL_law 1339 = .ok (.aload_n 0, 1) := by decide +kernel
theorem dL_law_1340 : decode cL_law 1340 = .ok (.iload_n 3, 1) := by decide +kernel
theorem dL_law_1341 : decode cL_law 1341 = .ok (.iconst 4, 1) := by decide +kernel
theorem dL_law_1342 : decode cL_law 1342 = .ok (.iadd, 1) := by decide +kernel
theorem dL_law_1343 : decode cL_law 1343 = .ok (.iaload, 1) := by decide +kernel
theorem dL_law_1344 : decode cL_law 1344 = .ok (.aload_n 0, 1) := by decide +kernel
theorem dL_law_1345 : decode cL_law 1345 = .ok (.iload_n 3, 1) := by decide +kernel
theorem dL_law_1346 : decode cL_law 1346 = .ok (.iconst 5, 1) := by decide +kernel
theorem dL_law_1347 : decode cL_law 1347 = .ok (.iadd, 1) := by decide +kernel
theorem dL_law_1348 : decode cL_law 1348 = .ok (.iaload, 1) := by decide +kernel
theorem dL_law_1349 : decode cL_law 1349 = .ok (.invokevirtual 173, 3) := by decide +kernel
theorem dL_law_1352 : decode cL_law 1352 = .ok (.if_icmp .eq 5, 3) := by decide +kernel
theorem dL_law_1355 : decode cL_law 1355 = .ok (.iconst 0, 1) := by decide +kernel
theorem dL_law_1356 : decode cL_law 1356 = .ok (.ireturn, 1) := by decide +kernel
theorem dL_law_1357 : decode cL_law 1357 = .ok (.iinc 3 6, 3) := by decide +kernel
theorem dL_law_1360 : decode cL_law 1360 = .ok (.goto (-1342), 3) := by decide +kernel
theorem dL_law_1363 : decode cL_law 1363 = .ok (.iconst 1, 1) := by decide +kernel
theorem dL_law_1364 : decode cL_law 1364 = .ok (.ireturn, 1) := by decide +kernel
end
section
-- THE ABSTRACT MACHINE OF THIS PROOF: a method's run over a fixed net of cells (a shape), their contents as functions; all of the kit's machine stands behind Rx.
def TB : List Cond := lw_tbl.filter goodWord
theorem TB_good {ws : List Cond} (h : ∀ w ∈ ws, w ∈ TB) : GoodIn TB ws := fun w hw => ⟨h w hw, good_of_word (List.mem_filter.mp (h w hw)).2⟩
theorem TB_of {w : Cond} (i : Nat) (h : (tables_1[i]? == some w) = true) (hg : goodWord w = true) : w ∈ TB := by
  have h1 : tables_1[i]? = some w := eq_of_beq h
  exact List.mem_filter.mpr ⟨List.mem_append_right _ (List.mem_of_getElem? h1), hg⟩
theorem TB_sel {w : Cond} (i : Nat) (h : ((k2_sels lw_privs)[i]? == some w) = true) (hg : goodWord w = true) : w ∈ TB := by
  have h1 : (k2_sels lw_privs)[i]? = some w := eq_of_beq h
  exact List.mem_filter.mpr ⟨List.mem_append_left _ (List.mem_of_getElem? h1), hg⟩
theorem TB_tbl {s : State} {args : Array Value} (h : ∀ w ∈ lw_tbl, w.before args s = true) : ∀ w ∈ TB, w.before args s = true := fun w hw => h w (List.mem_filter.mp hw).1
/-- launch, class numbers, array classes by tag, addresses of cells that are there before (texts, a static array) -/
abbrev GG : Type := Launch × va_G × (Nat → ClassId) × (Nat → Nat)
/-- a cell's shape: tag, class or length, fields (kind, a, b) -/
abbrev CS : Type := Nat × Nat × List (Nat × Nat × Nat)
abbrev SS : Type := Nat → Nat → Int32
abbrev LL : Type := Nat → Nat → Int64
/-- a method: name, code, locals, type of its answer -/
abbrev MI : Type := MethodName × ByteArray × Nat × Option FieldType
def ad (g : GG) (ρ : Nat → Nat) (n : Nat) : Nat := if n < 100000 then ρ n else g.2.2.2 n
def vm (g : GG) (ρ : Nat → Nat) (v : Value) : Value := match v with
  | .ref n => .ref (ad g ρ n)
  | .int x => .int x
  | .long x => .long x
  | .float x => .float x
  | .double x => .double x
  | .null => .null
  | .retAddr x => .retAddr x
theorem vm_cat (g : GG) (ρ : Nat → Nat) (v : Value) : (vm g ρ v).category = v.category := by cases v <;> rfl
/-- a field's value: 0 a number; 1 null; 2 a fixed cell; else one of a row of cells, by number -/
def afv (f : Nat × Nat × Nat) (x : Int32) : Value := match f.1 with
  | 0 => .int x
  | 1 => .null
  | 2 => .ref f.2.1
  | _ => .ref (f.2.1 + f.2.2 * x.toNatClampNeg)
def rfv (g : GG) (ρ : Nat → Nat) (f : Nat × Nat × Nat) : Option Nat := match f.1 with
  | 2 => some (ad g ρ f.2.1)
  | _ => none
def cellE (g : GG) (ρ : Nat → Nat) (c : CS) (k : Nat) (S : SS) (L : LL) : va_E := match c.1 with
  | 0 => .inr (c.2.1, c.2.2.mapIdx (fun i f => vm g ρ (afv f (S k i))))
  | 1 => .inl (g.2.2.1 1, c.2.1, .inl (S k))
  | 2 => .inl (g.2.2.1 2, c.2.1, .inr (.inl (L k)))
  | 3 => .inl (g.2.2.1 3, c.2.1, .inl (S k))
  | 4 => .inl (g.2.2.1 4, c.2.1, .inl (S k))
  | t => .inl (g.2.2.1 t, c.2.1, .inr (.inr (.inr (.inr (fun j => (c.2.2[j]?).bind (rfv g ρ))))))
def wsOf (g : GG) (ρ : Nat → Nat) (sh : List CS) (S : SS) (L : LL) : va_W := sh.mapIdx (fun k c => (ρ k, cellE g ρ c k S L))
theorem wsOf_len (g : GG) (ρ : Nat → Nat) (sh : List CS) (S : SS) (L : LL) : (wsOf g ρ sh S L).length = sh.length := by simp [wsOf]
theorem wsOf_get {g : GG} {ρ : Nat → Nat} {sh : List CS} {S : SS} {L : LL} {k : Nat} {c : CS} (h : sh[k]? = some c) : (wsOf g ρ sh S L)[k]? = some (ρ k, cellE g ρ c k S L) := by
  simp [wsOf, List.getElem?_mapIdx, h]
def upS (S : SS) (a k : Nat) (x : Int32) : SS := fun j i => if j = a then (if i = k then x else S j i) else S j i
def upL (S : LL) (a k : Nat) (x : Int64) : LL := fun j i => if j = a then (if i = k then x else S j i) else S j i
theorem upS_row (S : SS) (a k : Nat) (x : Int32) : upS S a k x a = upd (S a) k x := by funext i; simp [upS, upd]
theorem upL_row (S : LL) (a k : Nat) (x : Int64) : upL S a k x a = vp_updL (S a) k x := by funext i; simp [upL, vp_updL]
theorem upS_off (S : SS) (a k : Nat) (x : Int32) {j : Nat} (h : j ≠ a) : upS S a k x j = S j := by funext i; simp [upS, h]
theorem upL_off (S : LL) (a k : Nat) (x : Int64) {j : Nat} (h : j ≠ a) : upL S a k x j = S j := by funext i; simp [upL, h]
theorem wsOf_set {g : GG} {ρ : Nat → Nat} {sh : List CS} {S S' : SS} {L L' : LL} {a : Nat} {c : CS} {e : va_E} (h : sh[a]? = some c) (he : e = cellE g ρ c a S' L') (ho : ∀ j, j ≠ a → S' j = S j ∧ L' j = L j) :
    (wsOf g ρ sh S L).set a (ρ a, e) = wsOf g ρ sh S' L' := by
  apply List.ext_getElem?
  intro k
  by_cases hk : k = a
  · subst hk
    have hl : k < (wsOf g ρ sh S L).length := by rw [wsOf_len]; exact (List.getElem?_eq_some_iff.mp h).1
    rw [List.getElem?_set_self hl, wsOf_get h, he]
  · rw [List.getElem?_set_ne (fun q => hk q.symm)]
    obtain ⟨h1, h2⟩ := ho k hk
    cases hs : sh[k]? with
    | none => simp [wsOf, List.getElem?_mapIdx, hs]
    | some c' =>
      rw [wsOf_get hs, wsOf_get hs]
      simp only [cellE, h1, h2]
/-- the array classes, by tag (place = tag - 1) -/
def tysOf (g : GG) : List (ClassId × FieldType) := [(g.2.2.1 1, .int), (g.2.2.1 2, .long), (g.2.2.1 3, .byte), (g.2.2.1 4, .boolean), (g.2.2.1 5, .object "WhileSheLooks$Child"), (g.2.2.1 6, .object "WhileSheLooks$Yard"), (g.2.2.1 7, .array .long)]
def rmD (d mc ms : Nat) : Room := { frames := d, cells := mc, slots := ms, locals := 100 * d }
def wsM (M : MI) : List Cond := Cond.code M.1 M.2.1 M.2.2.1 M.2.2.2 :: TB
-- what was there before: texts, a static array, words that no list of words passes on
def strTab : List (String × Nat × String × Nat) := [("WhileSheLooks$Turns", 23, "ckebat", 0), ("WhileSheLooks$Yard", 76, "wobble", 1), ("WhileSheLooks$Yard", 78, "still", 2), ("WhileSheLooks$Yard", 80, "far", 3), ("WhileSheLooks$Yard", 81, "sharp", 4), ("WhileSheLooks$Yard", 82, "sees", 5), ("WhileSheLooks$Yard", 126, "ckebat", 0), ("WhileSheLooks$Yard", 131, "<=>", 6)]
def strByt : List (List Int32) := [[99, 107, 101, 98, 97, 116], [119, 111, 98, 98, 108, 101], [115, 116, 105, 108, 108], [102, 97, 114], [115, 104, 97, 114, 112], [115, 101, 101, 115], [60, 61, 62]]
def strLen : List Nat := [6, 6, 5, 3, 5, 4, 3]
def kaTab : List Int32 := [-1, 0, 0, 0, 1, 2, 3]
def nestTab : List (String × Nat × MethodName × String) := [("WhileSheLooks", 11, ⟨"WhileSheLooks$Child", "<init>", "()V"⟩, "WhileSheLooks"), ("WhileSheLooks", 14, ⟨"WhileSheLooks$Quick", "<init>", "()V"⟩, "WhileSheLooks"), ("WhileSheLooks$Quick", 1, ⟨"WhileSheLooks$Child", "<init>", "()V"⟩, "WhileSheLooks"), ("WhileSheLooks", 17, ⟨"WhileSheLooks$Steady", "<init>", "()V"⟩, "WhileSheLooks"), ("WhileSheLooks$Steady", 1, ⟨"WhileSheLooks$Child", "<init>", "()V"⟩, "WhileSheLooks"), ("WhileSheLooks", 20, ⟨"WhileSheLooks$Small", "<init>", "()V"⟩, "WhileSheLooks"), ("WhileSheLooks$Small", 1, ⟨"WhileSheLooks$Child", "<init>", "()V"⟩, "WhileSheLooks"), ("WhileSheLooks", 23, ⟨"WhileSheLooks$Reckless", "<init>", "()V"⟩, "WhileSheLooks"), ("WhileSheLooks$Reckless", 1, ⟨"WhileSheLooks$Quick", "<init>", "()V"⟩, "WhileSheLooks"), ("WhileSheLooks", 26, ⟨"WhileSheLooks$Careful", "<init>", "()V"⟩, "WhileSheLooks"), ("WhileSheLooks$Careful", 1, ⟨"WhileSheLooks$Steady", "<init>", "()V"⟩, "WhileSheLooks"), ("WhileSheLooks", 29, ⟨"WhileSheLooks$Told", "<init>", "()V"⟩, "WhileSheLooks"), ("WhileSheLooks$Told", 1, ⟨"WhileSheLooks$Small", "<init>", "()V"⟩, "WhileSheLooks"), ("WhileSheLooks", 75, ⟨"WhileSheLooks$Acts", "<init>", "()V"⟩, "WhileSheLooks")]
def castTab : List String := ["WhileSheLooks$Quick", "WhileSheLooks$Steady", "WhileSheLooks$Small", "WhileSheLooks$Reckless", "WhileSheLooks$Careful", "WhileSheLooks$Told"]
def declTab : List MethodName := [⟨"WhileSheLooks$Child", "paceOf", "(II)I"⟩, ⟨"WhileSheLooks$Child", "wobblesOf", "(IIIII)I"⟩, ⟨"WhileSheLooks$Child", "running", "(LWhileSheLooks$Acts;I)I"⟩, ⟨"WhileSheLooks$Child", "standing", "(LWhileSheLooks$Acts;I)I"⟩, ⟨"WhileSheLooks$Child", "telling", "(LWhileSheLooks$Acts;I)I"⟩]
/-- an array of rows of longs may be made -/
def aoL (U : State) : Prop := (Cond.arrayOver (.array .long)).before #[] U = true
def NWs (U : State) : Prop := (∀ w ∈ nestTab, va_Nw (.methodLinkNest w.1 w.2.1 w.2.2.1 w.2.2.2) U) ∧ (∀ C ∈ castTab, va_Nw (.castable C "WhileSheLooks$Child") U) ∧ (∀ y ∈ declTab, va_Nw (.declares y) U) ∧ va_AO "WhileSheLooks$Child" U ∧ va_AO "WhileSheLooks$Yard" U
def Stat (g : GG) (A : Nat → Prop) (U : State) (H : Heap) : Prop :=
  (∀ q ∈ strTab, vk_R q.1 q.2.1 q.2.2.1 (g.2.2.2 (100000 + q.2.2.2)) U) ∧ vk_S 7 strLen strByt (fun i => g.2.2.2 (100000 + i)) (fun i => g.2.2.2 (100100 + i)) A U H ∧
  va_T .int (g.2.2.2 100200) 7 (fun j => .int (kaTab.getD j 0)) A U H ∧ va_Z "WhileSheLooks" "KIND_ABOVE" "[I" (.ref (g.2.2.2 100200)) A U H ∧ va_Z "java/lang/String" "COMPACT_STRINGS" "Z" (.int 1) A U H ∧
  va_Zq "jdk/internal/util/Preconditions" "SIOOBE_FORMATTER" "Ljava/util/function/BiFunction;" A U H ∧ NWs U
theorem Stat.warm {g : GG} {A : Nat → Prop} {s U : State} {H : Heap} (hW : s.WarmedH U.vm) (h : Stat g A s H) : Stat g A U H := by
  obtain ⟨h1, h2, h3, h4, h5, h6, h7, h8, h9, h10, h11⟩ := h
  have hm : s.vm.Alike U.vm := hW.alike
  exact ⟨fun q hq => vk_R.warm hW (h1 q hq), vk_S.moved hm h2, va_T.moved hm h3, va_Z.moved hm h4, va_Z.moved hm h5, va_Zq.moved hm h6, fun w hw => va_Nw.warmM hW (h7 w hw), fun C hC => va_Nw.warmC hW (h8 C hC), fun y hy => va_Nw.warmD hW (h9 y hy), va_AO.moved hm h10, va_AO.moved hm h11⟩
theorem Stat.same {g : GG} {A : Nat → Prop} {u U : State} {H : Heap} (hv : U.vm = u.vm) (h : Stat g A u H) : Stat g A U H := by
  obtain ⟨h1, h2, h3, h4, h5, h6, h7, h8, h9, h10, h11⟩ := h
  have hm : u.vm.Alike U.vm := by rw [hv]; exact Vm.Alike.refl _
  exact ⟨fun q hq => vk_R.same hv (h1 q hq), vk_S.moved hm h2, va_T.moved hm h3, va_Z.moved hm h4, va_Z.moved hm h5, va_Zq.moved hm h6, fun w hw => va_Nw.same rfl hv.symm (h7 w hw), fun C hC => va_Nw.same rfl hv.symm (h8 C hC), fun y hy => va_Nw.same rfl hv.symm (h9 y hy), va_AO.moved hm h10, va_AO.moved hm h11⟩
theorem Stat.kept {g : GG} {A : Nat → Prop} {U : State} {H H1 : Heap} (h : Stat g A U H) (hq : ∀ a : Nat, a < H.size → ¬ A a → H1[a]? = H[a]?) : Stat g A U H1 := by
  obtain ⟨h1, h2, h3, h4, h5, h6, h7⟩ := h
  exact ⟨h1, h2.kept hq, h3.kept hq, h4.kept hq, h5.kept hq, h6.kept hq, h7⟩
theorem Stat.narrow {g : GG} {A B : Nat → Prop} {U : State} {H : Heap} (h : Stat g A U H) (hAB : ∀ q, B q → A q) : Stat g B U H := by
  obtain ⟨h1, h2, h3, h4, h5, h6, h7⟩ := h
  exact ⟨h1, h2.narrow hAB, h3.narrow hAB, h4.narrow hAB, h5.narrow hAB, h6.narrow hAB, h7⟩
-- locals: a value known, or not, at each place
def enumL : Nat → List (Option Value) → List (Nat × Value)
  | _, [] => []
  | i, none :: l => enumL (i + 1) l
  | i, some v :: l => (i, v) :: enumL (i + 1) l
theorem mem_enumL : ∀ (l : List (Option Value)) (i j : Nat) (v : Value), (j, v) ∈ enumL i l ↔ ∃ t, j = i + t ∧ l[t]? = some (some v)
  | [], i, j, v => by simp [enumL]
  | none :: l, i, j, v => by
    rw [enumL, mem_enumL l (i + 1) j v]
    constructor
    · rintro ⟨t, h1, h2⟩
      exact ⟨t + 1, by omega, by simpa using h2⟩
    · rintro ⟨t, h1, h2⟩
      cases t with
      | zero => simp at h2
      | succ t => exact ⟨t, by omega, by simpa using h2⟩
  | some w :: l, i, j, v => by
    rw [enumL, List.mem_cons, mem_enumL l (i + 1) j v]
    constructor
    · rintro (h | ⟨t, h1, h2⟩)
      · cases h
        exact ⟨0, rfl, rfl⟩
      · exact ⟨t + 1, by omega, by simpa using h2⟩
    · rintro ⟨t, h1, h2⟩
      cases t with
      | zero =>
        simp at h2
        subst h2
        exact Or.inl (by rw [h1]; rfl)
      | succ t => exact Or.inr ⟨t, by omega, by simpa using h2⟩
def LSr (g : GG) (ρ : Nat → Nat) (nL : Nat) (als : Array Slot) (ls : List (Option Value)) : Prop := ls.length = nL ∧ lv_has als nL (enumL 0 (ls.map (Option.map (vm g ρ))))
theorem LSr.at {g : GG} {ρ : Nat → Nat} {nL : Nat} {als : Array Slot} {ls : List (Option Value)} (h : LSr g ρ nL als ls) {i : Nat} {v : Value} (hi : ls[i]? = some (some v)) : als[i]? = some (.val (vm g ρ v)) :=
  h.2.2.2 (i, vm g ρ v) ((mem_enumL _ 0 i _).mpr ⟨i, by omega, by simp [hi]⟩)
def nc2 (a : Option Value) : Bool := match a with
  | none => true
  | some v => v.category == 1
theorem LSr.put {g : GG} {ρ : Nat → Nat} {nL : Nat} {als als' : Array Slot} {ls ls' : List (Option Value)} {i : Nat} {v : Value} (h : LSr g ρ nL als ls)
    (h' : lv_has als' nL ((i, vm g ρ v) :: (enumL 0 (ls.map (Option.map (vm g ρ)))).filter (fun q => !(q.1 == i) && !(q.1 + 1 == i && q.2.category == 2))))
    (hl : ls'.length = ls.length) (hs : ∀ (j : Nat) (w : Value), ls'[j]? = some (some w) → (j = i ∧ w = v) ∨ (j ≠ i ∧ ls[j]? = some (some w) ∧ (j + 1 = i → w.category = 1))) : LSr g ρ nL als' ls' := by
  refine ⟨hl.trans h.1, h'.1, h'.2.1, fun q hq => ?_⟩
  obtain ⟨j, w⟩ := q
  obtain ⟨t, ht, hw⟩ := (mem_enumL _ 0 j w).mp hq
  have e : j = t := by omega
  subst e
  rw [List.getElem?_map] at hw
  cases hz : ls'[j]? with
  | none => rw [hz] at hw; simp at hw
  | some z =>
    cases z with
    | none => rw [hz] at hw; simp at hw
    | some w0 =>
      rw [hz] at hw
      simp at hw
      subst hw
      rcases hs j w0 hz with ⟨rfl, rfl⟩ | ⟨h1, h2, h3⟩
      · exact h'.2.2 _ List.mem_cons_self
      · refine h'.2.2 _ (List.mem_cons_of_mem _ (List.mem_filter.mpr ⟨(mem_enumL _ 0 j _).mpr ⟨j, by omega, by simp [h2]⟩, ?_⟩))
        simp only [vm_cat]
        by_cases hj : j + 1 = i
        · simp [h1, h3 hj]
        · simp [h1, hj]
theorem LSr.weak {g : GG} {ρ : Nat → Nat} {nL : Nat} {als : Array Slot} {ls ls' : List (Option Value)} (h : LSr g ρ nL als ls) (hl : ls'.length = ls.length) (hs : ∀ (j : Nat) (w : Value), ls'[j]? = some (some w) → ls[j]? = some (some w)) : LSr g ρ nL als ls' := by
  refine ⟨hl.trans h.1, h.2.1, h.2.2.1, fun q hq => ?_⟩
  obtain ⟨j, w⟩ := q
  obtain ⟨t, ht, hw⟩ := (mem_enumL _ 0 j w).mp hq
  have e : j = t := by omega
  subst e
  rw [List.getElem?_map] at hw
  cases hz : ls'[j]? with
  | none => rw [hz] at hw; simp at hw
  | some z =>
    cases z with
    | none => rw [hz] at hw; simp at hw
    | some w0 =>
      rw [hz] at hw
      simp at hw
      subst hw
      exact h.at (hs j w0 hz)
def Ctx (M : MI) (p : Program) (s : State) (m : MethodId) (args : Array Value) (meth : Method) (c : Code) : Prop :=
  p.tables.exec = Jvm.exec ∧ c.code = M.2.1 ∧ meth.sig.returnType = M.2.2.2 ∧ c.maxLocals = M.2.2.1 ∧ s.vm.findClass M.1.cls = some m.cls ∧ (∀ w ∈ TB, w.before args s = true) ∧ meth.locks = false ∧ meth.name = M.1.name
def Wd (g : GG) (n0 : Nat) (ρ0 ρ : Nat → Nat) (sh : List CS) (S : SS) (L : LL) (A : Nat → Prop) (H : Heap) (locs : List Loc) (s : State) : Prop :=
  (n0 ≤ sh.length ∧ sh.length ≤ 100000 ∧ ∀ k, k < n0 ∨ sh.length ≤ k → ρ k = ρ0 k) ∧ (∀ q, s.heap.size ≤ q → A q) ∧ va_S A s.heap H locs ∧ va_K g.2.1 vwCl (tysOf g) s ∧ va_P g.2.1 vwCl (wsOf g ρ sh S L) H ∧ va_D A (wsOf g ρ sh S L) ∧ Stat g A s s.heap
/-- what a method leaves -/
def Qx (g : GG) (ρ0 : Nat → Nat) (n0 : Nat) (A : Nat → Prop) (Q : Option Value → List CS → SS → LL → Prop) : Array Value → State → Outcome → State → Prop := fun _ st o t =>
  (∃ (r : Option Value) (sh' : List CS) (S' : SS) (L' : LL) (ρ' : Nat → Nat), o = .returned (r.map (vm g ρ')) ∧ (n0 ≤ sh'.length ∧ sh'.length ≤ 100000 ∧ ∀ k, k < n0 ∨ sh'.length ≤ k → ρ' k = ρ0 k) ∧ Q r sh' S' L' ∧ va_P g.2.1 vwCl (wsOf g ρ' sh' S' L') t.heap ∧ va_D A (wsOf g ρ' sh' S' L')) ∧ va_F A st t
/-- THE RUN: from pc, with locals ls, stack st, cells sh with contents S, L, the method comes to its end with Q -/
def Rx (g : GG) (d mc ms : Nat) (M : MI) (n0 : Nat) (Q : Option Value → List CS → SS → LL → Prop) (cu su pc : Nat) (ls : List (Option Value)) (st : List Value) (sh : List CS) (S : SS) (L : LL) : Prop :=
  ∀ (p : Program) (e : Env) (s : State) (m : MethodId) (args : Array Value) (below : List Frame) (meth : Method) (c : Code) (ρ0 : Nat → Nat) (A : Nat → Prop) (ρ : Nat → Nat) (H : Heap) (locs : List Loc) (als : Array Slot),
    Ctx M p s m args meth c → Wd g n0 ρ0 ρ sh S L A H locs s → LSr g ρ M.2.2.1 als ls →
    W p g.1 e (rmD d mc ms) s m args below meth c H locs cu su (MQ below (Qx g ρ0 n0 A Q) args s mc ms A) (F0 m pc als (st.map (vm g ρ)))
/-- THE CONTRACT -/
def Ct (g : GG) (d mc ms : Nat) (M : MI) (av : List Value) (sh : List CS) (S : SS) (L : LL) (Q : Option Value → List CS → SS → LL → Prop) : Prop :=
  ∀ (ρ : Nat → Nat) (sz : Nat), Met g.1 M.1 (wsM M) (rmD d mc ms)
    (va_Pc (av.map (vm g ρ)) (fun U => U.heap.size = sz ∧ sh.length ≤ 100000 ∧ va_P g.2.1 vwCl (wsOf g ρ sh S L) U.heap ∧ va_K g.2.1 vwCl (tysOf g) U ∧ va_D (fun _ => True) (wsOf g ρ sh S L) ∧ Stat g (va_A (wsOf g ρ sh S L) sz) U U.heap))
    (Qx g ρ sh.length (va_A (wsOf g ρ sh S L) sz) Q) mc ms (va_A (wsOf g ρ sh S L) sz)
def entL : List Value → List (Option Value)
  | [] => []
  | v :: vs => if v.category = 2 then some v :: none :: entL vs else some v :: entL vs
end
section
section RX1
variable {g : GG} {d mc ms : Nat} {M : MI} {n0 : Nat} {Q : Option Value → List CS → SS → LL → Prop} {cu su pc : Nat} {ls ls' : List (Option Value)} {st rest : List Value} {sh : List CS} {S : SS} {L : LL}
theorem rx_iadd {x y : Int32} (dd : decode M.2.1 pc = .ok (.iadd, 1)) (k : Rx g d mc ms M n0 Q cu su (pc + 1) ls (.int (x + y) :: rest) sh S L) : Rx g d mc ms M n0 Q cu su pc ls (.int y :: .int x :: rest) sh S L := fun p e s m args below meth c ρ0 A ρ H locs als C X Y => lv_iadd C.1 C.2.1 dd (k p e s m args below meth c ρ0 A ρ H locs als C X Y)
theorem rx_isub {x y : Int32} (dd : decode M.2.1 pc = .ok (.isub, 1)) (k : Rx g d mc ms M n0 Q cu su (pc + 1) ls (.int (x - y) :: rest) sh S L) : Rx g d mc ms M n0 Q cu su pc ls (.int y :: .int x :: rest) sh S L := fun p e s m args below meth c ρ0 A ρ H locs als C X Y => lv_isub C.1 C.2.1 dd (k p e s m args below meth c ρ0 A ρ H locs als C X Y)
theorem rx_imul {x y : Int32} (dd : decode M.2.1 pc = .ok (.imul, 1)) (k : Rx g d mc ms M n0 Q cu su (pc + 1) ls (.int (x * y) :: rest) sh S L) : Rx g d mc ms M n0 Q cu su pc ls (.int y :: .int x :: rest) sh S L := fun p e s m args below meth c ρ0 A ρ H locs als C X Y => lv_imul C.1 C.2.1 dd (k p e s m args below meth c ρ0 A ρ H locs als C X Y)
theorem rx_iand {x y : Int32} (dd : decode M.2.1 pc = .ok (.iand, 1)) (k : Rx g d mc ms M n0 Q cu su (pc + 1) ls (.int (x &&& y) :: rest) sh S L) : Rx g d mc ms M n0 Q cu su pc ls (.int y :: .int x :: rest) sh S L := fun p e s m args below meth c ρ0 A ρ H locs als C X Y => lv_iand C.1 C.2.1 dd (k p e s m args below meth c ρ0 A ρ H locs als C X Y)
theorem rx_ior {x y : Int32} (dd : decode M.2.1 pc = .ok (.ior, 1)) (k : Rx g d mc ms M n0 Q cu su (pc + 1) ls (.int (x ||| y) :: rest) sh S L) : Rx g d mc ms M n0 Q cu su pc ls (.int y :: .int x :: rest) sh S L := fun p e s m args below meth c ρ0 A ρ H locs als C X Y => lv_ior C.1 C.2.1 dd (k p e s m args below meth c ρ0 A ρ H locs als C X Y)
theorem rx_ixor {x y : Int32} (dd : decode M.2.1 pc = .ok (.ixor, 1)) (k : Rx g d mc ms M n0 Q cu su (pc + 1) ls (.int (x ^^^ y) :: rest) sh S L) : Rx g d mc ms M n0 Q cu su pc ls (.int y :: .int x :: rest) sh S L := fun p e s m args below meth c ρ0 A ρ H locs als C X Y => lv_ixor C.1 C.2.1 dd (k p e s m args below meth c ρ0 A ρ H locs als C X Y)
theorem rx_ishl {x y : Int32} (dd : decode M.2.1 pc = .ok (.ishl, 1)) (k : Rx g d mc ms M n0 Q cu su (pc + 1) ls (.int (x <<< (y &&& 31)) :: rest) sh S L) : Rx g d mc ms M n0 Q cu su pc ls (.int y :: .int x :: rest) sh S L := fun p e s m args below meth c ρ0 A ρ H locs als C X Y => lv_ishl C.1 C.2.1 dd (k p e s m args below meth c ρ0 A ρ H locs als C X Y)
theorem rx_ishr {x y : Int32} (dd : decode M.2.1 pc = .ok (.ishr, 1)) (k : Rx g d mc ms M n0 Q cu su (pc + 1) ls (.int (x >>> (y &&& 31)) :: rest) sh S L) : Rx g d mc ms M n0 Q cu su pc ls (.int y :: .int x :: rest) sh S L := fun p e s m args below meth c ρ0 A ρ H locs als C X Y => lv_ishr C.1 C.2.1 dd (k p e s m args below meth c ρ0 A ρ H locs als C X Y)
theorem rx_idiv {x y : Int32} (dd : decode M.2.1 pc = .ok (.idiv, 1)) (hne : ¬ y = 0) (k : Rx g d mc ms M n0 Q cu su (pc + 1) ls (.int (x / y) :: rest) sh S L) : Rx g d mc ms M n0 Q cu su pc ls (.int y :: .int x :: rest) sh S L := fun p e s m args below meth c ρ0 A ρ H locs als C X Y => lv_idiv C.1 C.2.1 dd hne (k p e s m args below meth c ρ0 A ρ H locs als C X Y)
theorem rx_irem {x y : Int32} (dd : decode M.2.1 pc = .ok (.irem, 1)) (hne : ¬ y = 0) (k : Rx g d mc ms M n0 Q cu su (pc + 1) ls (.int (x - x / y * y) :: rest) sh S L) : Rx g d mc ms M n0 Q cu su pc ls (.int y :: .int x :: rest) sh S L := fun p e s m args below meth c ρ0 A ρ H locs als C X Y => lv_irem C.1 C.2.1 dd hne (k p e s m args below meth c ρ0 A ρ H locs als C X Y)
theorem rx_ineg {x : Int32} (dd : decode M.2.1 pc = .ok (.ineg, 1)) (k : Rx g d mc ms M n0 Q cu su (pc + 1) ls (.int (-x) :: rest) sh S L) : Rx g d mc ms M n0 Q cu su pc ls (.int x :: rest) sh S L := fun p e s m args below meth c ρ0 A ρ H locs als C X Y => lv_ineg C.1 C.2.1 dd (k p e s m args below meth c ρ0 A ρ H locs als C X Y)
theorem rx_iushr {x y : Int32} (dd : decode M.2.1 pc = .ok (.iushr, 1)) (k : Rx g d mc ms M n0 Q cu su (pc + 1) ls (.int ((x.toUInt32 >>> (y.toUInt32 &&& Int32.toUInt32 31)).toInt32) :: rest) sh S L) : Rx g d mc ms M n0 Q cu su pc ls (.int y :: .int x :: rest) sh S L := fun p e s m args below meth c ρ0 A ρ H locs als C X Y => lv_iushr C.1 C.2.1 dd rfl (k p e s m args below meth c ρ0 A ρ H locs als C X Y)
theorem rx_i2l {x : Int32} (dd : decode M.2.1 pc = .ok (.i2l, 1)) (k : Rx g d mc ms M n0 Q cu su (pc + 1) ls (.long (x.toInt64) :: rest) sh S L) : Rx g d mc ms M n0 Q cu su pc ls (.int x :: rest) sh S L := fun p e s m args below meth c ρ0 A ρ H locs als C X Y => lv_i2l C.1 C.2.1 dd rfl (k p e s m args below meth c ρ0 A ρ H locs als C X Y)
theorem rx_l2i {x : Int64} (dd : decode M.2.1 pc = .ok (.l2i, 1)) (k : Rx g d mc ms M n0 Q cu su (pc + 1) ls (.int (x.toInt32) :: rest) sh S L) : Rx g d mc ms M n0 Q cu su pc ls (.long x :: rest) sh S L := fun p e s m args below meth c ρ0 A ρ H locs als C X Y => lv_l2i C.1 C.2.1 dd rfl (k p e s m args below meth c ρ0 A ρ H locs als C X Y)
theorem rx_i2b {x : Int32} (dd : decode M.2.1 pc = .ok (.i2b, 1)) (k : Rx g d mc ms M n0 Q cu su (pc + 1) ls (.int (x.toInt8.toInt32) :: rest) sh S L) : Rx g d mc ms M n0 Q cu su pc ls (.int x :: rest) sh S L := fun p e s m args below meth c ρ0 A ρ H locs als C X Y => lv_i2b C.1 C.2.1 dd rfl (k p e s m args below meth c ρ0 A ρ H locs als C X Y)
theorem rx_i2s {x : Int32} (dd : decode M.2.1 pc = .ok (.i2s, 1)) (k : Rx g d mc ms M n0 Q cu su (pc + 1) ls (.int (x.toInt16.toInt32) :: rest) sh S L) : Rx g d mc ms M n0 Q cu su pc ls (.int x :: rest) sh S L := fun p e s m args below meth c ρ0 A ρ H locs als C X Y => lv_i2s C.1 C.2.1 dd rfl (k p e s m args below meth c ρ0 A ρ H locs als C X Y)
theorem rx_i2c {x : Int32} (dd : decode M.2.1 pc = .ok (.i2c, 1)) (k : Rx g d mc ms M n0 Q cu su (pc + 1) ls (.int ((x.toUInt32 % 65536).toInt32) :: rest) sh S L) : Rx g d mc ms M n0 Q cu su pc ls (.int x :: rest) sh S L := fun p e s m args below meth c ρ0 A ρ H locs als C X Y => lv_i2c C.1 C.2.1 dd rfl (k p e s m args below meth c ρ0 A ρ H locs als C X Y)
theorem rx_land {x y : Int64} (dd : decode M.2.1 pc = .ok (.land, 1)) (k : Rx g d mc ms M n0 Q cu su (pc + 1) ls (.long (x &&& y) :: rest) sh S L) : Rx g d mc ms M n0 Q cu su pc ls (.long y :: .long x :: rest) sh S L := fun p e s m args below meth c ρ0 A ρ H locs als C X Y => lv_land C.1 C.2.1 dd (k p e s m args below meth c ρ0 A ρ H locs als C X Y)
theorem rx_lor {x y : Int64} (dd : decode M.2.1 pc = .ok (.lor, 1)) (k : Rx g d mc ms M n0 Q cu su (pc + 1) ls (.long (x ||| y) :: rest) sh S L) : Rx g d mc ms M n0 Q cu su pc ls (.long y :: .long x :: rest) sh S L := fun p e s m args below meth c ρ0 A ρ H locs als C X Y => lv_lor C.1 C.2.1 dd (k p e s m args below meth c ρ0 A ρ H locs als C X Y)
theorem rx_lshl {x : Int64} {y : Int32} (dd : decode M.2.1 pc = .ok (.lshl, 1)) (k : Rx g d mc ms M n0 Q cu su (pc + 1) ls (.long (x <<< (y.toInt64 &&& 63)) :: rest) sh S L) : Rx g d mc ms M n0 Q cu su pc ls (.int y :: .long x :: rest) sh S L := fun p e s m args below meth c ρ0 A ρ H locs als C X Y => lv_lshl C.1 C.2.1 dd rfl (k p e s m args below meth c ρ0 A ρ H locs als C X Y)
theorem rx_lcmp {x y : Int64} (dd : decode M.2.1 pc = .ok (.lcmp, 1)) (k : Rx g d mc ms M n0 Q cu su (pc + 1) ls (.int (lg_cmp x y) :: rest) sh S L) : Rx g d mc ms M n0 Q cu su pc ls (.long y :: .long x :: rest) sh S L := fun p e s m args below meth c ρ0 A ρ H locs als C X Y => W.lcmp C.1 C.2.1 dd (k p e s m args below meth c ρ0 A ρ H locs als C X Y)
theorem rx_iconst {n : Int} (v : Int32) (dd : decode M.2.1 pc = .ok (.iconst n, 1)) (hv : Int32.ofInt n = v) (k : Rx g d mc ms M n0 Q cu su (pc + 1) ls (.int v :: st) sh S L) : Rx g d mc ms M n0 Q cu su pc ls st sh S L := fun p e s m args below meth c ρ0 A ρ H locs als C X Y => lv_iconst C.1 C.2.1 dd hv (k p e s m args below meth c ρ0 A ρ H locs als C X Y)
theorem rx_bipush {n : Int} (v : Int32) (dd : decode M.2.1 pc = .ok (.bipush n, 2)) (hv : (Int8.ofInt n).toInt32 = v) (k : Rx g d mc ms M n0 Q cu su (pc + 2) ls (.int v :: st) sh S L) : Rx g d mc ms M n0 Q cu su pc ls st sh S L := fun p e s m args below meth c ρ0 A ρ H locs als C X Y => lv_bipush C.1 C.2.1 dd hv (k p e s m args below meth c ρ0 A ρ H locs als C X Y)
theorem rx_sipush {n : Int} (v : Int32) (dd : decode M.2.1 pc = .ok (.sipush n, 3)) (hv : (Int16.ofInt n).toInt32 = v) (k : Rx g d mc ms M n0 Q cu su (pc + 3) ls (.int v :: st) sh S L) : Rx g d mc ms M n0 Q cu su pc ls st sh S L := fun p e s m args below meth c ρ0 A ρ H locs als C X Y => lv_sipush C.1 C.2.1 dd hv (k p e s m args below meth c ρ0 A ρ H locs als C X Y)
theorem rx_lconst {n : Fin 2} (v : Int64) (dd : decode M.2.1 pc = .ok (.lconst n, 1)) (hv : Int64.ofNat (n : Nat) = v) (k : Rx g d mc ms M n0 Q cu su (pc + 1) ls (.long v :: st) sh S L) : Rx g d mc ms M n0 Q cu su pc ls st sh S L := fun p e s m args below meth c ρ0 A ρ H locs als C X Y => lv_lconst C.1 C.2.1 dd hv (k p e s m args below meth c ρ0 A ρ H locs als C X Y)
theorem rx_ldc {ix : Nat} (v : Int32) (dd : decode M.2.1 pc = .ok (.ldc ix, 2)) (hw : Cond.constant M.1.cls ix v ∈ TB) (k : Rx g d mc ms M n0 Q cu su (pc + 2) ls (.int v :: st) sh S L) : Rx g d mc ms M n0 Q cu su pc ls st sh S L := fun p e s m args below meth c ρ0 A ρ H locs als C X Y => lv_ldc C.1 C.2.1 C.2.2.2.2.1 (C.2.2.2.2.2.1 _ hw) dd (k p e s m args below meth c ρ0 A ρ H locs als C X Y)
theorem rx_ldcw {ix : Nat} (v : Int32) (dd : decode M.2.1 pc = .ok (.ldc_w ix, 3)) (hw : Cond.constant M.1.cls ix v ∈ TB) (k : Rx g d mc ms M n0 Q cu su (pc + 3) ls (.int v :: st) sh S L) : Rx g d mc ms M n0 Q cu su pc ls st sh S L := fun p e s m args below meth c ρ0 A ρ H locs als C X Y => lv_ldcw C.1 C.2.1 C.2.2.2.2.1 (C.2.2.2.2.2.1 _ hw) dd (k p e s m args below meth c ρ0 A ρ H locs als C X Y)
theorem rx_ldc2 {ix : Nat} (v : Int64) (dd : decode M.2.1 pc = .ok (.ldc2_w ix, 3)) (hw : Cond.constantLong M.1.cls ix v ∈ TB) (k : Rx g d mc ms M n0 Q cu su (pc + 3) ls (.long v :: st) sh S L) : Rx g d mc ms M n0 Q cu su pc ls st sh S L := fun p e s m args below meth c ρ0 A ρ H locs als C X Y => lv_ldc2 C.1 C.2.1 C.2.2.2.2.1 (C.2.2.2.2.2.1 _ hw) dd (k p e s m args below meth c ρ0 A ρ H locs als C X Y)
theorem rx_ldcS {ix i : Nat} {tx : String} (dd : decode M.2.1 pc = .ok (.ldc ix, 2)) (hw : (M.1.cls, ix, tx, i) ∈ strTab) (k : Rx g d mc ms M n0 Q cu su (pc + 2) ls (.ref (100000 + i) :: st) sh S L) : Rx g d mc ms M n0 Q cu su pc ls st sh S L := fun p e s m args below meth c ρ0 A ρ H locs als C X Y => va_ldcS C.1 C.2.1 C.2.2.2.2.1 (X.2.2.2.2.2.2.1 _ hw) dd (by have h := k p e s m args below meth c ρ0 A ρ H locs als C X Y; rw [show ((Value.ref (100000 + i) :: st).map (vm g ρ)) = Value.ref (g.2.2.2 (100000 + i)) :: st.map (vm g ρ) from by rw [List.map_cons]; show Value.ref (ad g ρ (100000 + i)) :: _ = _; rw [show ad g ρ (100000 + i) = g.2.2.2 (100000 + i) from if_neg (by omega)]] at h; exact h)
theorem rx_null (dd : decode M.2.1 pc = .ok (.aconst_null, 1)) (k : Rx g d mc ms M n0 Q cu su (pc + 1) ls (.null :: st) sh S L) : Rx g d mc ms M n0 Q cu su pc ls st sh S L := fun p e s m args below meth c ρ0 A ρ H locs als C X Y => lv_null C.1 C.2.1 dd (k p e s m args below meth c ρ0 A ρ H locs als C X Y)
theorem rx_iload_n {kk : Fin 4} {x : Int32} (dd : decode M.2.1 pc = .ok (.iload_n kk, 1)) (hl : ls[(kk : Nat)]? = some (some (.int x))) (k : Rx g d mc ms M n0 Q cu su (pc + 1) ls (.int x :: st) sh S L) : Rx g d mc ms M n0 Q cu su pc ls st sh S L := fun p e s m args below meth c ρ0 A ρ H locs als C X Y => lv_iload_n C.1 C.2.1 dd rfl (Y.at hl) (k p e s m args below meth c ρ0 A ρ H locs als C X Y)
theorem rx_iload {i : Nat} {x : Int32} (dd : decode M.2.1 pc = .ok (.iload i, 2)) (hl : ls[i]? = some (some (.int x))) (k : Rx g d mc ms M n0 Q cu su (pc + 2) ls (.int x :: st) sh S L) : Rx g d mc ms M n0 Q cu su pc ls st sh S L := fun p e s m args below meth c ρ0 A ρ H locs als C X Y => lv_iload C.1 C.2.1 dd (Y.at hl) (k p e s m args below meth c ρ0 A ρ H locs als C X Y)
theorem rx_lload_n {kk : Fin 4} {x : Int64} (dd : decode M.2.1 pc = .ok (.lload_n kk, 1)) (hl : ls[(kk : Nat)]? = some (some (.long x))) (k : Rx g d mc ms M n0 Q cu su (pc + 1) ls (.long x :: st) sh S L) : Rx g d mc ms M n0 Q cu su pc ls st sh S L := fun p e s m args below meth c ρ0 A ρ H locs als C X Y => lv_lload_n C.1 C.2.1 dd rfl (Y.at hl) (k p e s m args below meth c ρ0 A ρ H locs als C X Y)
theorem rx_lload {i : Nat} {x : Int64} (dd : decode M.2.1 pc = .ok (.lload i, 2)) (hl : ls[i]? = some (some (.long x))) (k : Rx g d mc ms M n0 Q cu su (pc + 2) ls (.long x :: st) sh S L) : Rx g d mc ms M n0 Q cu su pc ls st sh S L := fun p e s m args below meth c ρ0 A ρ H locs als C X Y => lv_lload C.1 C.2.1 dd (Y.at hl) (k p e s m args below meth c ρ0 A ρ H locs als C X Y)
theorem rx_aload_n {kk : Fin 4} {x : Nat} (dd : decode M.2.1 pc = .ok (.aload_n kk, 1)) (hl : ls[(kk : Nat)]? = some (some (.ref x))) (k : Rx g d mc ms M n0 Q cu su (pc + 1) ls (.ref x :: st) sh S L) : Rx g d mc ms M n0 Q cu su pc ls st sh S L := fun p e s m args below meth c ρ0 A ρ H locs als C X Y => lv_aload_n C.1 C.2.1 dd rfl (Y.at hl) (k p e s m args below meth c ρ0 A ρ H locs als C X Y)
theorem rx_aload {i : Nat} {x : Nat} (dd : decode M.2.1 pc = .ok (.aload i, 2)) (hl : ls[i]? = some (some (.ref x))) (k : Rx g d mc ms M n0 Q cu su (pc + 2) ls (.ref x :: st) sh S L) : Rx g d mc ms M n0 Q cu su pc ls st sh S L := fun p e s m args below meth c ρ0 A ρ H locs als C X Y => lv_aload C.1 C.2.1 dd (Y.at hl) (k p e s m args below meth c ρ0 A ρ H locs als C X Y)
theorem rx_istore_n0 {kk : Fin 4} {i : Nat} {x : Int32} (dd : decode M.2.1 pc = .ok (.istore_n kk, 1)) (hk : (kk : Nat) = i) (hlen : ls'.length = ls.length) (hs : ∀ (j : Nat) (w : Value), ls'[j]? = some (some w) → (j = i ∧ w = .int x) ∨ (j ≠ i ∧ ls[j]? = some (some w) ∧ (j + 1 = i → w.category = 1))) (hi : i < ls.length) (k : Rx g d mc ms M n0 Q cu su (pc + 1) ls' rest sh S L) : Rx g d mc ms M n0 Q cu su pc ls (.int x :: rest) sh S L := fun p e s m args below meth c ρ0 A ρ H locs als C X Y => lv_istore_n C.1 C.2.1 dd hk Y.2 (by rw [← Y.1]; exact hi) rfl (fun als' h' => k p e s m args below meth c ρ0 A ρ H locs als' C X (LSr.put (v := .int x) Y h' hlen hs))
theorem rx_istore0 {i : Nat} {x : Int32} (dd : decode M.2.1 pc = .ok (.istore i, 2)) (hlen : ls'.length = ls.length) (hs : ∀ (j : Nat) (w : Value), ls'[j]? = some (some w) → (j = i ∧ w = .int x) ∨ (j ≠ i ∧ ls[j]? = some (some w) ∧ (j + 1 = i → w.category = 1))) (hi : i < ls.length) (k : Rx g d mc ms M n0 Q cu su (pc + 2) ls' rest sh S L) : Rx g d mc ms M n0 Q cu su pc ls (.int x :: rest) sh S L := fun p e s m args below meth c ρ0 A ρ H locs als C X Y => lv_istore C.1 C.2.1 dd Y.2 (by rw [← Y.1]; exact hi) rfl (fun als' h' => k p e s m args below meth c ρ0 A ρ H locs als' C X (LSr.put (v := .int x) Y h' hlen hs))
theorem rx_astore_n0 {kk : Fin 4} {i : Nat} {x : Nat} (dd : decode M.2.1 pc = .ok (.astore_n kk, 1)) (hk : (kk : Nat) = i) (hlen : ls'.length = ls.length) (hs : ∀ (j : Nat) (w : Value), ls'[j]? = some (some w) → (j = i ∧ w = .ref x) ∨ (j ≠ i ∧ ls[j]? = some (some w) ∧ (j + 1 = i → w.category = 1))) (hi : i < ls.length) (k : Rx g d mc ms M n0 Q cu su (pc + 1) ls' rest sh S L) : Rx g d mc ms M n0 Q cu su pc ls (.ref x :: rest) sh S L := fun p e s m args below meth c ρ0 A ρ H locs als C X Y => lv_astore_n C.1 C.2.1 dd hk Y.2 (by rw [← Y.1]; exact hi) rfl (fun als' h' => k p e s m args below meth c ρ0 A ρ H locs als' C X (LSr.put (v := .ref x) Y h' hlen hs))
theorem rx_astore0 {i : Nat} {x : Nat} (dd : decode M.2.1 pc = .ok (.astore i, 2)) (hlen : ls'.length = ls.length) (hs : ∀ (j : Nat) (w : Value), ls'[j]? = some (some w) → (j = i ∧ w = .ref x) ∨ (j ≠ i ∧ ls[j]? = some (some w) ∧ (j + 1 = i → w.category = 1))) (hi : i < ls.length) (k : Rx g d mc ms M n0 Q cu su (pc + 2) ls' rest sh S L) : Rx g d mc ms M n0 Q cu su pc ls (.ref x :: rest) sh S L := fun p e s m args below meth c ρ0 A ρ H locs als C X Y => lv_astore C.1 C.2.1 dd Y.2 (by rw [← Y.1]; exact hi) rfl (fun als' h' => k p e s m args below meth c ρ0 A ρ H locs als' C X (LSr.put (v := .ref x) Y h' hlen hs))
theorem rx_iinc0 {i : Nat} {n : Int} {x v : Int32} (dd : decode M.2.1 pc = .ok (.iinc i n, 3)) (hv : x + Int32.ofInt n = v) (hx : ls[i]? = some (some (.int x))) (hlen : ls'.length = ls.length) (hs : ∀ (j : Nat) (w : Value), ls'[j]? = some (some w) → (j = i ∧ w = .int v) ∨ (j ≠ i ∧ ls[j]? = some (some w) ∧ (j + 1 = i → w.category = 1))) (hi : i < ls.length) (k : Rx g d mc ms M n0 Q cu su (pc + 3) ls' st sh S L) : Rx g d mc ms M n0 Q cu su pc ls st sh S L := fun p e s m args below meth c ρ0 A ρ H locs als C X Y => by
  have hm : (i, Value.int x) ∈ enumL 0 (ls.map (Option.map (vm g ρ))) := (mem_enumL _ 0 i _).mpr ⟨i, by omega, by simp [hx, vm]⟩
  obtain ⟨q, hq⟩ := List.getElem?_of_mem hm
  exact lv_iinc C.1 C.2.1 dd Y.2 hq hv (by rw [← Y.1]; exact hi) rfl (fun als' h' => k p e s m args below meth c ρ0 A ρ H locs als' C X (LSr.put (v := .int v) Y h' hlen hs))
/-- fewer known locals -/
theorem rx_weak (hlen : ls'.length = ls.length) (hs : ∀ (j : Nat) (w : Value), ls'[j]? = some (some w) → ls[j]? = some (some w)) (k : Rx g d mc ms M n0 Q cu su pc ls' st sh S L) : Rx g d mc ms M n0 Q cu su pc ls st sh S L := fun p e s m args below meth c ρ0 A ρ H locs als C X Y => k p e s m args below meth c ρ0 A ρ H locs als C X (Y.weak hlen hs)
def leL : List (Option Value) → List (Option Value) → Prop
  | [], [] => True
  | a :: l, b :: l' => (b = none ∨ b = a) ∧ leL l l'
  | _, _ => False
theorem leL_spec : ∀ (l l' : List (Option Value)), leL l l' → l'.length = l.length ∧ ∀ (j : Nat) (w : Value), l'[j]? = some (some w) → l[j]? = some (some w)
  | [], [], _ => ⟨rfl, fun j w h => by simp at h⟩
  | a :: l, b :: l', h => by
    obtain ⟨h1, h2⟩ := leL_spec l l' h.2
    refine ⟨by simp [h1], fun j w hj => ?_⟩
    cases j with
    | zero =>
      rcases h.1 with rfl | rfl
      · simp at hj
      · simpa using hj
    | succ j => simpa using h2 j w (by simpa using hj)
  | [], _ :: _, h => h.elim
  | _ :: _, [], h => h.elim
theorem rx_wk (ls' : List (Option Value)) (h : leL ls ls') (k : Rx g d mc ms M n0 Q cu su pc ls' st sh S L) : Rx g d mc ms M n0 Q cu su pc ls st sh S L := rx_weak (leL_spec _ _ h).1 (leL_spec _ _ h).2 k
theorem set_ok {i : Nat} {v : Value} {l : List (Option Value)} (hp : ∀ a, l[i - 1]? = some a → i = 0 ∨ nc2 a = true) : ∀ (j : Nat) (w : Value), (l.set i (some v))[j]? = some (some w) → (j = i ∧ w = v) ∨ (j ≠ i ∧ l[j]? = some (some w) ∧ (j + 1 = i → w.category = 1)) := by
  intro j w h
  by_cases hj : j = i
  · subst hj
    by_cases hl : j < l.length
    · rw [List.getElem?_set_self hl] at h
      simp at h
      exact Or.inl ⟨rfl, h.symm⟩
    · rw [List.getElem?_eq_none (by simp; omega)] at h
      simp at h
  · rw [List.getElem?_set_ne (fun q => hj q.symm)] at h
    refine Or.inr ⟨hj, h, fun e => ?_⟩
    rcases hp (some w) (by rw [← e]; simpa using h) with h0 | h0
    · omega
    · simpa [nc2] using h0
theorem rx_istore_0 {a0 : Option Value} {tl : List (Option Value)} {x : Int32} (dd : decode M.2.1 pc = .ok (.istore_n 0, 1)) (k : Rx g d mc ms M n0 Q cu su (pc + 1) (some (.int x) :: tl) rest sh S L) : Rx g d mc ms M n0 Q cu su pc (a0 :: tl) (.int x :: rest) sh S L := rx_istore_n0 (i := 0) (ls' := (a0 :: tl).set 0 (some (.int x))) dd rfl (by simp) (set_ok (fun a h => Or.inl rfl)) (by simp) k
theorem rx_astore_0 {a0 : Option Value} {tl : List (Option Value)} {x : Nat} (dd : decode M.2.1 pc = .ok (.astore_n 0, 1)) (k : Rx g d mc ms M n0 Q cu su (pc + 1) (some (.ref x) :: tl) rest sh S L) : Rx g d mc ms M n0 Q cu su pc (a0 :: tl) (.ref x :: rest) sh S L := rx_astore_n0 (i := 0) (ls' := (a0 :: tl).set 0 (some (.ref x))) dd rfl (by simp) (set_ok (fun a h => Or.inl rfl)) (by simp) k
theorem rx_iinc_0 {tl : List (Option Value)} {n : Int} {x : Int32} (w : Int32) (dd : decode M.2.1 pc = .ok (.iinc 0 n, 3)) (hw : Int32.ofInt n = w) (k : Rx g d mc ms M n0 Q cu su (pc + 3) (some (.int (x + w)) :: tl) st sh S L) : Rx g d mc ms M n0 Q cu su pc (some (.int x) :: tl) st sh S L := rx_iinc0 (i := 0) (v := x + w) (ls' := (some (.int x) :: tl).set 0 (some (.int (x + w)))) dd (by rw [hw]) rfl (by simp) (set_ok (fun a h => Or.inl rfl)) (by simp) k
theorem rx_istore_1 {a0 a1 : Option Value} {tl : List (Option Value)} {x : Int32} (nc : nc2 a0 = true) (dd : decode M.2.1 pc = .ok (.istore_n 1, 1)) (k : Rx g d mc ms M n0 Q cu su (pc + 1) (a0 :: some (.int x) :: tl) rest sh S L) : Rx g d mc ms M n0 Q cu su pc (a0 :: a1 :: tl) (.int x :: rest) sh S L := rx_istore_n0 (i := 1) (ls' := (a0 :: a1 :: tl).set 1 (some (.int x))) dd rfl (by simp) (set_ok (fun a h => Or.inr (by simp at h; subst h; exact nc))) (by simp) k
theorem rx_astore_1 {a0 a1 : Option Value} {tl : List (Option Value)} {x : Nat} (nc : nc2 a0 = true) (dd : decode M.2.1 pc = .ok (.astore_n 1, 1)) (k : Rx g d mc ms M n0 Q cu su (pc + 1) (a0 :: some (.ref x) :: tl) rest sh S L) : Rx g d mc ms M n0 Q cu su pc (a0 :: a1 :: tl) (.ref x :: rest) sh S L := rx_astore_n0 (i := 1) (ls' := (a0 :: a1 :: tl).set 1 (some (.ref x))) dd rfl (by simp) (set_ok (fun a h => Or.inr (by simp at h; subst h; exact nc))) (by simp) k
theorem rx_iinc_1 {a0 : Option Value} {tl : List (Option Value)} {n : Int} {x : Int32} (w : Int32) (nc : nc2 a0 = true) (dd : decode M.2.1 pc = .ok (.iinc 1 n, 3)) (hw : Int32.ofInt n = w) (k : Rx g d mc ms M n0 Q cu su (pc + 3) (a0 :: some (.int (x + w)) :: tl) st sh S L) : Rx g d mc ms M n0 Q cu su pc (a0 :: some (.int x) :: tl) st sh S L := rx_iinc0 (i := 1) (v := x + w) (ls' := (a0 :: some (.int x) :: tl).set 1 (some (.int (x + w)))) dd (by rw [hw]) rfl (by simp) (set_ok (fun a h => Or.inr (by simp at h; subst h; exact nc))) (by simp) k
theorem rx_istore_2 {a0 a1 a2 : Option Value} {tl : List (Option Value)} {x : Int32} (nc : nc2 a1 = true) (dd : decode M.2.1 pc = .ok (.istore_n 2, 1)) (k : Rx g d mc ms M n0 Q cu su (pc + 1) (a0 :: a1 :: some (.int x) :: tl) rest sh S L) : Rx g d mc ms M n0 Q cu su pc (a0 :: a1 :: a2 :: tl) (.int x :: rest) sh S L := rx_istore_n0 (i := 2) (ls' := (a0 :: a1 :: a2 :: tl).set 2 (some (.int x))) dd rfl (by simp) (set_ok (fun a h => Or.inr (by simp at h; subst h; exact nc))) (by simp) k
theorem rx_astore_2 {a0 a1 a2 : Option Value} {tl : List (Option Value)} {x : Nat} (nc : nc2 a1 = true) (dd : decode M.2.1 pc = .ok (.astore_n 2, 1)) (k : Rx g d mc ms M n0 Q cu su (pc + 1) (a0 :: a1 :: some (.ref x) :: tl) rest sh S L) : Rx g d mc ms M n0 Q cu su pc (a0 :: a1 :: a2 :: tl) (.ref x :: rest) sh S L := rx_astore_n0 (i := 2) (ls' := (a0 :: a1 :: a2 :: tl).set 2 (some (.ref x))) dd rfl (by simp) (set_ok (fun a h => Or.inr (by simp at h; subst h; exact nc))) (by simp) k
theorem rx_iinc_2 {a0 a1 : Option Value} {tl : List (Option Value)} {n : Int} {x : Int32} (w : Int32) (nc : nc2 a1 = true) (dd : decode M.2.1 pc = .ok (.iinc 2 n, 3)) (hw : Int32.ofInt n = w) (k : Rx g d mc ms M n0 Q cu su (pc + 3) (a0 :: a1 :: some (.int (x + w)) :: tl) st sh S L) : Rx g d mc ms M n0 Q cu su pc (a0 :: a1 :: some (.int x) :: tl) st sh S L := rx_iinc0 (i := 2) (v := x + w) (ls' := (a0 :: a1 :: some (.int x) :: tl).set 2 (some (.int (x + w)))) dd (by rw [hw]) rfl (by simp) (set_ok (fun a h => Or.inr (by simp at h; subst h; exact nc))) (by simp) k
theorem rx_istore_3 {a0 a1 a2 a3 : Option Value} {tl : List (Option Value)} {x : Int32} (nc : nc2 a2 = true) (dd : decode M.2.1 pc = .ok (.istore_n 3, 1)) (k : Rx g d mc ms M n0 Q cu su (pc + 1) (a0 :: a1 :: a2 :: some (.int x) :: tl) rest sh S L) : Rx g d mc ms M n0 Q cu su pc (a0 :: a1 :: a2 :: a3 :: tl) (.int x :: rest) sh S L := rx_istore_n0 (i := 3) (ls' := (a0 :: a1 :: a2 :: a3 :: tl).set 3 (some (.int x))) dd rfl (by simp) (set_ok (fun a h => Or.inr (by simp at h; subst h; exact nc))) (by simp) k
theorem rx_astore_3 {a0 a1 a2 a3 : Option Value} {tl : List (Option Value)} {x : Nat} (nc : nc2 a2 = true) (dd : decode M.2.1 pc = .ok (.astore_n 3, 1)) (k : Rx g d mc ms M n0 Q cu su (pc + 1) (a0 :: a1 :: a2 :: some (.ref x) :: tl) rest sh S L) : Rx g d mc ms M n0 Q cu su pc (a0 :: a1 :: a2 :: a3 :: tl) (.ref x :: rest) sh S L := rx_astore_n0 (i := 3) (ls' := (a0 :: a1 :: a2 :: a3 :: tl).set 3 (some (.ref x))) dd rfl (by simp) (set_ok (fun a h => Or.inr (by simp at h; subst h; exact nc))) (by simp) k
theorem rx_iinc_3 {a0 a1 a2 : Option Value} {tl : List (Option Value)} {n : Int} {x : Int32} (w : Int32) (nc : nc2 a2 = true) (dd : decode M.2.1 pc = .ok (.iinc 3 n, 3)) (hw : Int32.ofInt n = w) (k : Rx g d mc ms M n0 Q cu su (pc + 3) (a0 :: a1 :: a2 :: some (.int (x + w)) :: tl) st sh S L) : Rx g d mc ms M n0 Q cu su pc (a0 :: a1 :: a2 :: some (.int x) :: tl) st sh S L := rx_iinc0 (i := 3) (v := x + w) (ls' := (a0 :: a1 :: a2 :: some (.int x) :: tl).set 3 (some (.int (x + w)))) dd (by rw [hw]) rfl (by simp) (set_ok (fun a h => Or.inr (by simp at h; subst h; exact nc))) (by simp) k
theorem rx_istore_4 {a0 a1 a2 a3 a4 : Option Value} {tl : List (Option Value)} {x : Int32} (nc : nc2 a3 = true) (dd : decode M.2.1 pc = .ok (.istore 4, 2)) (k : Rx g d mc ms M n0 Q cu su (pc + 2) (a0 :: a1 :: a2 :: a3 :: some (.int x) :: tl) rest sh S L) : Rx g d mc ms M n0 Q cu su pc (a0 :: a1 :: a2 :: a3 :: a4 :: tl) (.int x :: rest) sh S L := rx_istore0 (i := 4) (ls' := (a0 :: a1 :: a2 :: a3 :: a4 :: tl).set 4 (some (.int x))) dd (by simp) (set_ok (fun a h => Or.inr (by simp at h; subst h; exact nc))) (by simp) k
theorem rx_astore_4 {a0 a1 a2 a3 a4 : Option Value} {tl : List (Option Value)} {x : Nat} (nc : nc2 a3 = true) (dd : decode M.2.1 pc = .ok (.astore 4, 2)) (k : Rx g d mc ms M n0 Q cu su (pc + 2) (a0 :: a1 :: a2 :: a3 :: some (.ref x) :: tl) rest sh S L) : Rx g d mc ms M n0 Q cu su pc (a0 :: a1 :: a2 :: a3 :: a4 :: tl) (.ref x :: rest) sh S L := rx_astore0 (i := 4) (ls' := (a0 :: a1 :: a2 :: a3 :: a4 :: tl).set 4 (some (.ref x))) dd (by simp) (set_ok (fun a h => Or.inr (by simp at h; subst h; exact nc))) (by simp) k
theorem rx_iinc_4 {a0 a1 a2 a3 : Option Value} {tl : List (Option Value)} {n : Int} {x : Int32} (w : Int32) (nc : nc2 a3 = true) (dd : decode M.2.1 pc = .ok (.iinc 4 n, 3)) (hw : Int32.ofInt n = w) (k : Rx g d mc ms M n0 Q cu su (pc + 3) (a0 :: a1 :: a2 :: a3 :: some (.int (x + w)) :: tl) st sh S L) : Rx g d mc ms M n0 Q cu su pc (a0 :: a1 :: a2 :: a3 :: some (.int x) :: tl) st sh S L := rx_iinc0 (i := 4) (v := x + w) (ls' := (a0 :: a1 :: a2 :: a3 :: some (.int x) :: tl).set 4 (some (.int (x + w)))) dd (by rw [hw]) rfl (by simp) (set_ok (fun a h => Or.inr (by simp at h; subst h; exact nc))) (by simp) k
theorem rx_istore_5 {a0 a1 a2 a3 a4 a5 : Option Value} {tl : List (Option Value)} {x : Int32} (nc : nc2 a4 = true) (dd : decode M.2.1 pc = .ok (.istore 5, 2)) (k : Rx g d mc ms M n0 Q cu su (pc + 2) (a0 :: a1 :: a2 :: a3 :: a4 :: some (.int x) :: tl) rest sh S L) : Rx g d mc ms M n0 Q cu su pc (a0 :: a1 :: a2 :: a3 :: a4 :: a5 :: tl) (.int x :: rest) sh S L := rx_istore0 (i := 5) (ls' := (a0 :: a1 :: a2 :: a3 :: a4 :: a5 :: tl).set 5 (some (.int x))) dd (by simp) (set_ok (fun a h => Or.inr (by simp at h; subst h; exact nc))) (by simp) k
theorem rx_astore_5 {a0 a1 a2 a3 a4 a5 : Option Value} {tl : List (Option Value)} {x : Nat} (nc : nc2 a4 = true) (dd : decode M.2.1 pc = .ok (.astore 5, 2)) (k : Rx g d mc ms M n0 Q cu su (pc + 2) (a0 :: a1 :: a2 :: a3 :: a4 :: some (.ref x) :: tl) rest sh S L) : Rx g d mc ms M n0 Q cu su pc (a0 :: a1 :: a2 :: a3 :: a4 :: a5 :: tl) (.ref x :: rest) sh S L := rx_astore0 (i := 5) (ls' := (a0 :: a1 :: a2 :: a3 :: a4 :: a5 :: tl).set 5 (some (.ref x))) dd (by simp) (set_ok (fun a h => Or.inr (by simp at h; subst h; exact nc))) (by simp) k
theorem rx_iinc_5 {a0 a1 a2 a3 a4 : Option Value} {tl : List (Option Value)} {n : Int} {x : Int32} (w : Int32) (nc : nc2 a4 = true) (dd : decode M.2.1 pc = .ok (.iinc 5 n, 3)) (hw : Int32.ofInt n = w) (k : Rx g d mc ms M n0 Q cu su (pc + 3) (a0 :: a1 :: a2 :: a3 :: a4 :: some (.int (x + w)) :: tl) st sh S L) : Rx g d mc ms M n0 Q cu su pc (a0 :: a1 :: a2 :: a3 :: a4 :: some (.int x) :: tl) st sh S L := rx_iinc0 (i := 5) (v := x + w) (ls' := (a0 :: a1 :: a2 :: a3 :: a4 :: some (.int x) :: tl).set 5 (some (.int (x + w)))) dd (by rw [hw]) rfl (by simp) (set_ok (fun a h => Or.inr (by simp at h; subst h; exact nc))) (by simp) k
theorem rx_istore_6 {a0 a1 a2 a3 a4 a5 a6 : Option Value} {tl : List (Option Value)} {x : Int32} (nc : nc2 a5 = true) (dd : decode M.2.1 pc = .ok (.istore 6, 2)) (k : Rx g d mc ms M n0 Q cu su (pc + 2) (a0 :: a1 :: a2 :: a3 :: a4 :: a5 :: some (.int x) :: tl) rest sh S L) : Rx g d mc ms M n0 Q cu su pc (a0 :: a1 :: a2 :: a3 :: a4 :: a5 :: a6 :: tl) (.int x :: rest) sh S L := rx_istore0 (i := 6) (ls' := (a0 :: a1 :: a2 :: a3 :: a4 :: a5 :: a6 :: tl).set 6 (some (.int x))) dd (by simp) (set_ok (fun a h => Or.inr (by simp at h; subst h; exact nc))) (by simp) k
theorem rx_astore_6 {a0 a1 a2 a3 a4 a5 a6 : Option Value} {tl : List (Option Value)} {x : Nat} (nc : nc2 a5 = true) (dd : decode M.2.1 pc = .ok (.astore 6, 2)) (k : Rx g d mc ms M n0 Q cu su (pc + 2) (a0 :: a1 :: a2 :: a3 :: a4 :: a5 :: some (.ref x) :: tl) rest sh S L) : Rx g d mc ms M n0 Q cu su pc (a0 :: a1 :: a2 :: a3 :: a4 :: a5 :: a6 :: tl) (.ref x :: rest) sh S L := rx_astore0 (i := 6) (ls' := (a0 :: a1 :: a2 :: a3 :: a4 :: a5 :: a6 :: tl).set 6 (some (.ref x))) dd (by simp) (set_ok (fun a h => Or.inr (by simp at h; subst h; exact nc))) (by simp) k
theorem rx_iinc_6 {a0 a1 a2 a3 a4 a5 : Option Value} {tl : List (Option Value)} {n : Int} {x : Int32} (w : Int32) (nc : nc2 a5 = true) (dd : decode M.2.1 pc = .ok (.iinc 6 n, 3)) (hw : Int32.ofInt n = w) (k : Rx g d mc ms M n0 Q cu su (pc + 3) (a0 :: a1 :: a2 :: a3 :: a4 :: a5 :: some (.int (x + w)) :: tl) st sh S L) : Rx g d mc ms M n0 Q cu su pc (a0 :: a1 :: a2 :: a3 :: a4 :: a5 :: some (.int x) :: tl) st sh S L := rx_iinc0 (i := 6) (v := x + w) (ls' := (a0 :: a1 :: a2 :: a3 :: a4 :: a5 :: some (.int x) :: tl).set 6 (some (.int (x + w)))) dd (by rw [hw]) rfl (by simp) (set_ok (fun a h => Or.inr (by simp at h; subst h; exact nc))) (by simp) k
theorem rx_istore_7 {a0 a1 a2 a3 a4 a5 a6 a7 : Option Value} {tl : List (Option Value)} {x : Int32} (nc : nc2 a6 = true) (dd : decode M.2.1 pc = .ok (.istore 7, 2)) (k : Rx g d mc ms M n0 Q cu su (pc + 2) (a0 :: a1 :: a2 :: a3 :: a4 :: a5 :: a6 :: some (.int x) :: tl) rest sh S L) : Rx g d mc ms M n0 Q cu su pc (a0 :: a1 :: a2 :: a3 :: a4 :: a5 :: a6 :: a7 :: tl) (.int x :: rest) sh S L := rx_istore0 (i := 7) (ls' := (a0 :: a1 :: a2 :: a3 :: a4 :: a5 :: a6 :: a7 :: tl).set 7 (some (.int x))) dd (by simp) (set_ok (fun a h => Or.inr (by simp at h; subst h; exact nc))) (by simp) k
theorem rx_astore_7 {a0 a1 a2 a3 a4 a5 a6 a7 : Option Value} {tl : List (Option Value)} {x : Nat} (nc : nc2 a6 = true) (dd : decode M.2.1 pc = .ok (.astore 7, 2)) (k : Rx g d mc ms M n0 Q cu su (pc + 2) (a0 :: a1 :: a2 :: a3 :: a4 :: a5 :: a6 :: some (.ref x) :: tl) rest sh S L) : Rx g d mc ms M n0 Q cu su pc (a0 :: a1 :: a2 :: a3 :: a4 :: a5 :: a6 :: a7 :: tl) (.ref x :: rest) sh S L := rx_astore0 (i := 7) (ls' := (a0 :: a1 :: a2 :: a3 :: a4 :: a5 :: a6 :: a7 :: tl).set 7 (some (.ref x))) dd (by simp) (set_ok (fun a h => Or.inr (by simp at h; subst h; exact nc))) (by simp) k
theorem rx_iinc_7 {a0 a1 a2 a3 a4 a5 a6 : Option Value} {tl : List (Option Value)} {n : Int} {x : Int32} (w : Int32) (nc : nc2 a6 = true) (dd : decode M.2.1 pc = .ok (.iinc 7 n, 3)) (hw : Int32.ofInt n = w) (k : Rx g d mc ms M n0 Q cu su (pc + 3) (a0 :: a1 :: a2 :: a3 :: a4 :: a5 :: a6 :: some (.int (x + w)) :: tl) st sh S L) : Rx g d mc ms M n0 Q cu su pc (a0 :: a1 :: a2 :: a3 :: a4 :: a5 :: a6 :: some (.int x) :: tl) st sh S L := rx_iinc0 (i := 7) (v := x + w) (ls' := (a0 :: a1 :: a2 :: a3 :: a4 :: a5 :: a6 :: some (.int x) :: tl).set 7 (some (.int (x + w)))) dd (by rw [hw]) rfl (by simp) (set_ok (fun a h => Or.inr (by simp at h; subst h; exact nc))) (by simp) k
theorem rx_istore_8 {a0 a1 a2 a3 a4 a5 a6 a7 a8 : Option Value} {tl : List (Option Value)} {x : Int32} (nc : nc2 a7 = true) (dd : decode M.2.1 pc = .ok (.istore 8, 2)) (k : Rx g d mc ms M n0 Q cu su (pc + 2) (a0 :: a1 :: a2 :: a3 :: a4 :: a5 :: a6 :: a7 :: some (.int x) :: tl) rest sh S L) : Rx g d mc ms M n0 Q cu su pc (a0 :: a1 :: a2 :: a3 :: a4 :: a5 :: a6 :: a7 :: a8 :: tl) (.int x :: rest) sh S L := rx_istore0 (i := 8) (ls' := (a0 :: a1 :: a2 :: a3 :: a4 :: a5 :: a6 :: a7 :: a8 :: tl).set 8 (some (.int x))) dd (by simp) (set_ok (fun a h => Or.inr (by simp at h; subst h; exact nc))) (by simp) k
theorem rx_astore_8 {a0 a1 a2 a3 a4 a5 a6 a7 a8 : Option Value} {tl : List (Option Value)} {x : Nat} (nc : nc2 a7 = true) (dd : decode M.2.1 pc = .ok (.astore 8, 2)) (k : Rx g d mc ms M n0 Q cu su (pc + 2) (a0 :: a1 :: a2 :: a3 :: a4 :: a5 :: a6 :: a7 :: some (.ref x) :: tl) rest sh S L) : Rx g d mc ms M n0 Q cu su pc (a0 :: a1 :: a2 :: a3 :: a4 :: a5 :: a6 :: a7 :: a8 :: tl) (.ref x :: rest) sh S L := rx_astore0 (i := 8) (ls' := (a0 :: a1 :: a2 :: a3 :: a4 :: a5 :: a6 :: a7 :: a8 :: tl).set 8 (some (.ref x))) dd (by simp) (set_ok (fun a h => Or.inr (by simp at h; subst h; exact nc))) (by simp) k
theorem rx_iinc_8 {a0 a1 a2 a3 a4 a5 a6 a7 : Option Value} {tl : List (Option Value)} {n : Int} {x : Int32} (w : Int32) (nc : nc2 a7 = true) (dd : decode M.2.1 pc = .ok (.iinc 8 n, 3)) (hw : Int32.ofInt n = w) (k : Rx g d mc ms M n0 Q cu su (pc + 3) (a0 :: a1 :: a2 :: a3 :: a4 :: a5 :: a6 :: a7 :: some (.int (x + w)) :: tl) st sh S L) : Rx g d mc ms M n0 Q cu su pc (a0 :: a1 :: a2 :: a3 :: a4 :: a5 :: a6 :: a7 :: some (.int x) :: tl) st sh S L := rx_iinc0 (i := 8) (v := x + w) (ls' := (a0 :: a1 :: a2 :: a3 :: a4 :: a5 :: a6 :: a7 :: some (.int x) :: tl).set 8 (some (.int (x + w)))) dd (by rw [hw]) rfl (by simp) (set_ok (fun a h => Or.inr (by simp at h; subst h; exact nc))) (by simp) k
theorem rx_istore_9 {a0 a1 a2 a3 a4 a5 a6 a7 a8 a9 : Option Value} {tl : List (Option Value)} {x : Int32} (nc : nc2 a8 = true) (dd : decode M.2.1 pc = .ok (.istore 9, 2)) (k : Rx g d mc ms M n0 Q cu su (pc + 2) (a0 :: a1 :: a2 :: a3 :: a4 :: a5 :: a6 :: a7 :: a8 :: some (.int x) :: tl) rest sh S L) : Rx g d mc ms M n0 Q cu su pc (a0 :: a1 :: a2 :: a3 :: a4 :: a5 :: a6 :: a7 :: a8 :: a9 :: tl) (.int x :: rest) sh S L := rx_istore0 (i := 9) (ls' := (a0 :: a1 :: a2 :: a3 :: a4 :: a5 :: a6 :: a7 :: a8 :: a9 :: tl).set 9 (some (.int x))) dd (by simp) (set_ok (fun a h => Or.inr (by simp at h; subst h; exact nc))) (by simp) k
theorem rx_astore_9 {a0 a1 a2 a3 a4 a5 a6 a7 a8 a9 : Option Value} {tl : List (Option Value)} {x : Nat} (nc : nc2 a8 = true) (dd : decode M.2.1 pc = .ok (.astore 9, 2)) (k : Rx g d mc ms M n0 Q cu su (pc + 2) (a0 :: a1 :: a2 :: a3 :: a4 :: a5 :: a6 :: a7 :: a8 :: some (.ref x) :: tl) rest sh S L) : Rx g d mc ms M n0 Q cu su pc (a0 :: a1 :: a2 :: a3 :: a4 :: a5 :: a6 :: a7 :: a8 :: a9 :: tl) (.ref x :: rest) sh S L := rx_astore0 (i := 9) (ls' := (a0 :: a1 :: a2 :: a3 :: a4 :: a5 :: a6 :: a7 :: a8 :: a9 :: tl).set 9 (some (.ref x))) dd (by simp) (set_ok (fun a h => Or.inr (by simp at h; subst h; exact nc))) (by simp) k
theorem rx_iinc_9 {a0 a1 a2 a3 a4 a5 a6 a7 a8 : Option Value} {tl : List (Option Value)} {n : Int} {x : Int32} (w : Int32) (nc : nc2 a8 = true) (dd : decode M.2.1 pc = .ok (.iinc 9 n, 3)) (hw : Int32.ofInt n = w) (k : Rx g d mc ms M n0 Q cu su (pc + 3) (a0 :: a1 :: a2 :: a3 :: a4 :: a5 :: a6 :: a7 :: a8 :: some (.int (x + w)) :: tl) st sh S L) : Rx g d mc ms M n0 Q cu su pc (a0 :: a1 :: a2 :: a3 :: a4 :: a5 :: a6 :: a7 :: a8 :: some (.int x) :: tl) st sh S L := rx_iinc0 (i := 9) (v := x + w) (ls' := (a0 :: a1 :: a2 :: a3 :: a4 :: a5 :: a6 :: a7 :: a8 :: some (.int x) :: tl).set 9 (some (.int (x + w)))) dd (by rw [hw]) rfl (by simp) (set_ok (fun a h => Or.inr (by simp at h; subst h; exact nc))) (by simp) k
theorem rx_istore_10 {a0 a1 a2 a3 a4 a5 a6 a7 a8 a9 a10 : Option Value} {tl : List (Option Value)} {x : Int32} (nc : nc2 a9 = true) (dd : decode M.2.1 pc = .ok (.istore 10, 2)) (k : Rx g d mc ms M n0 Q cu su (pc + 2) (a0 :: a1 :: a2 :: a3 :: a4 :: a5 :: a6 :: a7 :: a8 :: a9 :: some (.int x) :: tl) rest sh S L) : Rx g d mc ms M n0 Q cu su pc (a0 :: a1 :: a2 :: a3 :: a4 :: a5 :: a6 :: a7 :: a8 :: a9 :: a10 :: tl) (.int x :: rest) sh S L := rx_istore0 (i := 10) (ls' := (a0 :: a1 :: a2 :: a3 :: a4 :: a5 :: a6 :: a7 :: a8 :: a9 :: a10 :: tl).set 10 (some (.int x))) dd (by simp) (set_ok (fun a h => Or.inr (by simp at h; subst h; exact nc))) (by simp) k
theorem rx_astore_10 {a0 a1 a2 a3 a4 a5 a6 a7 a8 a9 a10 : Option Value} {tl : List (Option Value)} {x : Nat} (nc : nc2 a9 = true) (dd : decode M.2.1 pc = .ok (.astore 10, 2)) (k : Rx g d mc ms M n0 Q cu su (pc + 2) (a0 :: a1 :: a2 :: a3 :: a4 :: a5 :: a6 :: a7 :: a8 :: a9 :: some (.ref x) :: tl) rest sh S L) : Rx g d mc ms M n0 Q cu su pc (a0 :: a1 :: a2 :: a3 :: a4 :: a5 :: a6 :: a7 :: a8 :: a9 :: a10 :: tl) (.ref x :: rest) sh S L := rx_astore0 (i := 10) (ls' := (a0 :: a1 :: a2 :: a3 :: a4 :: a5 :: a6 :: a7 :: a8 :: a9 :: a10 :: tl).set 10 (some (.ref x))) dd (by simp) (set_ok (fun a h => Or.inr (by simp at h; subst h; exact nc))) (by simp) k
theorem rx_iinc_10 {a0 a1 a2 a3 a4 a5 a6 a7 a8 a9 : Option Value} {tl : List (Option Value)} {n : Int} {x : Int32} (w : Int32) (nc : nc2 a9 = true) (dd : decode M.2.1 pc = .ok (.iinc 10 n, 3)) (hw : Int32.ofInt n = w) (k : Rx g d mc ms M n0 Q cu su (pc + 3) (a0 :: a1 :: a2 :: a3 :: a4 :: a5 :: a6 :: a7 :: a8 :: a9 :: some (.int (x + w)) :: tl) st sh S L) : Rx g d mc ms M n0 Q cu su pc (a0 :: a1 :: a2 :: a3 :: a4 :: a5 :: a6 :: a7 :: a8 :: a9 :: some (.int x) :: tl) st sh S L := rx_iinc0 (i := 10) (v := x + w) (ls' := (a0 :: a1 :: a2 :: a3 :: a4 :: a5 :: a6 :: a7 :: a8 :: a9 :: some (.int x) :: tl).set 10 (some (.int (x + w)))) dd (by rw [hw]) rfl (by simp) (set_ok (fun a h => Or.inr (by simp at h; subst h; exact nc))) (by simp) k
theorem rx_istore_11 {a0 a1 a2 a3 a4 a5 a6 a7 a8 a9 a10 a11 : Option Value} {tl : List (Option Value)} {x : Int32} (nc : nc2 a10 = true) (dd : decode M.2.1 pc = .ok (.istore 11, 2)) (k : Rx g d mc ms M n0 Q cu su (pc + 2) (a0 :: a1 :: a2 :: a3 :: a4 :: a5 :: a6 :: a7 :: a8 :: a9 :: a10 :: some (.int x) :: tl) rest sh S L) : Rx g d mc ms M n0 Q cu su pc (a0 :: a1 :: a2 :: a3 :: a4 :: a5 :: a6 :: a7 :: a8 :: a9 :: a10 :: a11 :: tl) (.int x :: rest) sh S L := rx_istore0 (i := 11) (ls' := (a0 :: a1 :: a2 :: a3 :: a4 :: a5 :: a6 :: a7 :: a8 :: a9 :: a10 :: a11 :: tl).set 11 (some (.int x))) dd (by simp) (set_ok (fun a h => Or.inr (by simp at h; subst h; exact nc))) (by simp) k
theorem rx_astore_11 {a0 a1 a2 a3 a4 a5 a6 a7 a8 a9 a10 a11 : Option Value} {tl : List (Option Value)} {x : Nat} (nc : nc2 a10 = true) (dd : decode M.2.1 pc = .ok (.astore 11, 2)) (k : Rx g d mc ms M n0 Q cu su (pc + 2) (a0 :: a1 :: a2 :: a3 :: a4 :: a5 :: a6 :: a7 :: a8 :: a9 :: a10 :: some (.ref x) :: tl) rest sh S L) : Rx g d mc ms M n0 Q cu su pc (a0 :: a1 :: a2 :: a3 :: a4 :: a5 :: a6 :: a7 :: a8 :: a9 :: a10 :: a11 :: tl) (.ref x :: rest) sh S L := rx_astore0 (i := 11) (ls' := (a0 :: a1 :: a2 :: a3 :: a4 :: a5 :: a6 :: a7 :: a8 :: a9 :: a10 :: a11 :: tl).set 11 (some (.ref x))) dd (by simp) (set_ok (fun a h => Or.inr (by simp at h; subst h; exact nc))) (by simp) k
theorem rx_iinc_11 {a0 a1 a2 a3 a4 a5 a6 a7 a8 a9 a10 : Option Value} {tl : List (Option Value)} {n : Int} {x : Int32} (w : Int32) (nc : nc2 a10 = true) (dd : decode M.2.1 pc = .ok (.iinc 11 n, 3)) (hw : Int32.ofInt n = w) (k : Rx g d mc ms M n0 Q cu su (pc + 3) (a0 :: a1 :: a2 :: a3 :: a4 :: a5 :: a6 :: a7 :: a8 :: a9 :: a10 :: some (.int (x + w)) :: tl) st sh S L) : Rx g d mc ms M n0 Q cu su pc (a0 :: a1 :: a2 :: a3 :: a4 :: a5 :: a6 :: a7 :: a8 :: a9 :: a10 :: some (.int x) :: tl) st sh S L := rx_iinc0 (i := 11) (v := x + w) (ls' := (a0 :: a1 :: a2 :: a3 :: a4 :: a5 :: a6 :: a7 :: a8 :: a9 :: a10 :: some (.int x) :: tl).set 11 (some (.int (x + w)))) dd (by rw [hw]) rfl (by simp) (set_ok (fun a h => Or.inr (by simp at h; subst h; exact nc))) (by simp) k
theorem rx_istore_12 {a0 a1 a2 a3 a4 a5 a6 a7 a8 a9 a10 a11 a12 : Option Value} {tl : List (Option Value)} {x : Int32} (nc : nc2 a11 = true) (dd : decode M.2.1 pc = .ok (.istore 12, 2)) (k : Rx g d mc ms M n0 Q cu su (pc + 2) (a0 :: a1 :: a2 :: a3 :: a4 :: a5 :: a6 :: a7 :: a8 :: a9 :: a10 :: a11 :: some (.int x) :: tl) rest sh S L) : Rx g d mc ms M n0 Q cu su pc (a0 :: a1 :: a2 :: a3 :: a4 :: a5 :: a6 :: a7 :: a8 :: a9 :: a10 :: a11 :: a12 :: tl) (.int x :: rest) sh S L := rx_istore0 (i := 12) (ls' := (a0 :: a1 :: a2 :: a3 :: a4 :: a5 :: a6 :: a7 :: a8 :: a9 :: a10 :: a11 :: a12 :: tl).set 12 (some (.int x))) dd (by simp) (set_ok (fun a h => Or.inr (by simp at h; subst h; exact nc))) (by simp) k
theorem rx_astore_12 {a0 a1 a2 a3 a4 a5 a6 a7 a8 a9 a10 a11 a12 : Option Value} {tl : List (Option Value)} {x : Nat} (nc : nc2 a11 = true) (dd : decode M.2.1 pc = .ok (.astore 12, 2)) (k : Rx g d mc ms M n0 Q cu su (pc + 2) (a0 :: a1 :: a2 :: a3 :: a4 :: a5 :: a6 :: a7 :: a8 :: a9 :: a10 :: a11 :: some (.ref x) :: tl) rest sh S L) : Rx g d mc ms M n0 Q cu su pc (a0 :: a1 :: a2 :: a3 :: a4 :: a5 :: a6 :: a7 :: a8 :: a9 :: a10 :: a11 :: a12 :: tl) (.ref x :: rest) sh S L := rx_astore0 (i := 12) (ls' := (a0 :: a1 :: a2 :: a3 :: a4 :: a5 :: a6 :: a7 :: a8 :: a9 :: a10 :: a11 :: a12 :: tl).set 12 (some (.ref x))) dd (by simp) (set_ok (fun a h => Or.inr (by simp at h; subst h; exact nc))) (by simp) k
theorem rx_iinc_12 {a0 a1 a2 a3 a4 a5 a6 a7 a8 a9 a10 a11 : Option Value} {tl : List (Option Value)} {n : Int} {x : Int32} (w : Int32) (nc : nc2 a11 = true) (dd : decode M.2.1 pc = .ok (.iinc 12 n, 3)) (hw : Int32.ofInt n = w) (k : Rx g d mc ms M n0 Q cu su (pc + 3) (a0 :: a1 :: a2 :: a3 :: a4 :: a5 :: a6 :: a7 :: a8 :: a9 :: a10 :: a11 :: some (.int (x + w)) :: tl) st sh S L) : Rx g d mc ms M n0 Q cu su pc (a0 :: a1 :: a2 :: a3 :: a4 :: a5 :: a6 :: a7 :: a8 :: a9 :: a10 :: a11 :: some (.int x) :: tl) st sh S L := rx_iinc0 (i := 12) (v := x + w) (ls' := (a0 :: a1 :: a2 :: a3 :: a4 :: a5 :: a6 :: a7 :: a8 :: a9 :: a10 :: a11 :: some (.int x) :: tl).set 12 (some (.int (x + w)))) dd (by rw [hw]) rfl (by simp) (set_ok (fun a h => Or.inr (by simp at h; subst h; exact nc))) (by simp) k
theorem rx_istore_13 {a0 a1 a2 a3 a4 a5 a6 a7 a8 a9 a10 a11 a12 a13 : Option Value} {tl : List (Option Value)} {x : Int32} (nc : nc2 a12 = true) (dd : decode M.2.1 pc = .ok (.istore 13, 2)) (k : Rx g d mc ms M n0 Q cu su (pc + 2) (a0 :: a1 :: a2 :: a3 :: a4 :: a5 :: a6 :: a7 :: a8 :: a9 :: a10 :: a11 :: a12 :: some (.int x) :: tl) rest sh S L) : Rx g d mc ms M n0 Q cu su pc (a0 :: a1 :: a2 :: a3 :: a4 :: a5 :: a6 :: a7 :: a8 :: a9 :: a10 :: a11 :: a12 :: a13 :: tl) (.int x :: rest) sh S L := rx_istore0 (i := 13) (ls' := (a0 :: a1 :: a2 :: a3 :: a4 :: a5 :: a6 :: a7 :: a8 :: a9 :: a10 :: a11 :: a12 :: a13 :: tl).set 13 (some (.int x))) dd (by simp) (set_ok (fun a h => Or.inr (by simp at h; subst h; exact nc))) (by simp) k
theorem rx_astore_13 {a0 a1 a2 a3 a4 a5 a6 a7 a8 a9 a10 a11 a12 a13 : Option Value} {tl : List (Option Value)} {x : Nat} (nc : nc2 a12 = true) (dd : decode M.2.1 pc = .ok (.astore 13, 2)) (k : Rx g d mc ms M n0 Q cu su (pc + 2) (a0 :: a1 :: a2 :: a3 :: a4 :: a5 :: a6 :: a7 :: a8 :: a9 :: a10 :: a11 :: a12 :: some (.ref x) :: tl) rest sh S L) : Rx g d mc ms M n0 Q cu su pc (a0 :: a1 :: a2 :: a3 :: a4 :: a5 :: a6 :: a7 :: a8 :: a9 :: a10 :: a11 :: a12 :: a13 :: tl) (.ref x :: rest) sh S L := rx_astore0 (i := 13) (ls' := (a0 :: a1 :: a2 :: a3 :: a4 :: a5 :: a6 :: a7 :: a8 :: a9 :: a10 :: a11 :: a12 :: a13 :: tl).set 13 (some (.ref x))) dd (by simp) (set_ok (fun a h => Or.inr (by simp at h; subst h; exact nc))) (by simp) k
theorem rx_iinc_13 {a0 a1 a2 a3 a4 a5 a6 a7 a8 a9 a10 a11 a12 : Option Value} {tl : List (Option Value)} {n : Int} {x : Int32} (w : Int32) (nc : nc2 a12 = true) (dd : decode M.2.1 pc = .ok (.iinc 13 n, 3)) (hw : Int32.ofInt n = w) (k : Rx g d mc ms M n0 Q cu su (pc + 3) (a0 :: a1 :: a2 :: a3 :: a4 :: a5 :: a6 :: a7 :: a8 :: a9 :: a10 :: a11 :: a12 :: some (.int (x + w)) :: tl) st sh S L) : Rx g d mc ms M n0 Q cu su pc (a0 :: a1 :: a2 :: a3 :: a4 :: a5 :: a6 :: a7 :: a8 :: a9 :: a10 :: a11 :: a12 :: some (.int x) :: tl) st sh S L := rx_iinc0 (i := 13) (v := x + w) (ls' := (a0 :: a1 :: a2 :: a3 :: a4 :: a5 :: a6 :: a7 :: a8 :: a9 :: a10 :: a11 :: a12 :: some (.int x) :: tl).set 13 (some (.int (x + w)))) dd (by rw [hw]) rfl (by simp) (set_ok (fun a h => Or.inr (by simp at h; subst h; exact nc))) (by simp) k
theorem rx_istore_14 {a0 a1 a2 a3 a4 a5 a6 a7 a8 a9 a10 a11 a12 a13 a14 : Option Value} {tl : List (Option Value)} {x : Int32} (nc : nc2 a13 = true) (dd : decode M.2.1 pc = .ok (.istore 14, 2)) (k : Rx g d mc ms M n0 Q cu su (pc + 2) (a0 :: a1 :: a2 :: a3 :: a4 :: a5 :: a6 :: a7 :: a8 :: a9 :: a10 :: a11 :: a12 :: a13 :: some (.int x) :: tl) rest sh S L) : Rx g d mc ms M n0 Q cu su pc (a0 :: a1 :: a2 :: a3 :: a4 :: a5 :: a6 :: a7 :: a8 :: a9 :: a10 :: a11 :: a12 :: a13 :: a14 :: tl) (.int x :: rest) sh S L := rx_istore0 (i := 14) (ls' := (a0 :: a1 :: a2 :: a3 :: a4 :: a5 :: a6 :: a7 :: a8 :: a9 :: a10 :: a11 :: a12 :: a13 :: a14 :: tl).set 14 (some (.int x))) dd (by simp) (set_ok (fun a h => Or.inr (by simp at h; subst h; exact nc))) (by simp) k
theorem rx_astore_14 {a0 a1 a2 a3 a4 a5 a6 a7 a8 a9 a10 a11 a12 a13 a14 : Option Value} {tl : List (Option Value)} {x : Nat} (nc : nc2 a13 = true) (dd : decode M.2.1 pc = .ok (.astore 14, 2)) (k : Rx g d mc ms M n0 Q cu su (pc + 2) (a0 :: a1 :: a2 :: a3 :: a4 :: a5 :: a6 :: a7 :: a8 :: a9 :: a10 :: a11 :: a12 :: a13 :: some (.ref x) :: tl) rest sh S L) : Rx g d mc ms M n0 Q cu su pc (a0 :: a1 :: a2 :: a3 :: a4 :: a5 :: a6 :: a7 :: a8 :: a9 :: a10 :: a11 :: a12 :: a13 :: a14 :: tl) (.ref x :: rest) sh S L := rx_astore0 (i := 14) (ls' := (a0 :: a1 :: a2 :: a3 :: a4 :: a5 :: a6 :: a7 :: a8 :: a9 :: a10 :: a11 :: a12 :: a13 :: a14 :: tl).set 14 (some (.ref x))) dd (by simp) (set_ok (fun a h => Or.inr (by simp at h; subst h; exact nc))) (by simp) k
theorem rx_iinc_14 {a0 a1 a2 a3 a4 a5 a6 a7 a8 a9 a10 a11 a12 a13 : Option Value} {tl : List (Option Value)} {n : Int} {x : Int32} (w : Int32) (nc : nc2 a13 = true) (dd : decode M.2.1 pc = .ok (.iinc 14 n, 3)) (hw : Int32.ofInt n = w) (k : Rx g d mc ms M n0 Q cu su (pc + 3) (a0 :: a1 :: a2 :: a3 :: a4 :: a5 :: a6 :: a7 :: a8 :: a9 :: a10 :: a11 :: a12 :: a13 :: some (.int (x + w)) :: tl) st sh S L) : Rx g d mc ms M n0 Q cu su pc (a0 :: a1 :: a2 :: a3 :: a4 :: a5 :: a6 :: a7 :: a8 :: a9 :: a10 :: a11 :: a12 :: a13 :: some (.int x) :: tl) st sh S L := rx_iinc0 (i := 14) (v := x + w) (ls' := (a0 :: a1 :: a2 :: a3 :: a4 :: a5 :: a6 :: a7 :: a8 :: a9 :: a10 :: a11 :: a12 :: a13 :: some (.int x) :: tl).set 14 (some (.int (x + w)))) dd (by rw [hw]) rfl (by simp) (set_ok (fun a h => Or.inr (by simp at h; subst h; exact nc))) (by simp) k
theorem rx_dup {va : Value} (dd : decode M.2.1 pc = .ok (.dup, 1)) (hva : va.category = 1) (k : Rx g d mc ms M n0 Q cu su (pc + 1) ls (va :: va :: rest) sh S L) : Rx g d mc ms M n0 Q cu su pc ls (va :: rest) sh S L := fun p e s m args below meth c ρ0 A ρ H locs als C X Y => lv_dup C.1 C.2.1 dd (by rw [vm_cat]; exact hva) (k p e s m args below meth c ρ0 A ρ H locs als C X Y)
theorem rx_pop {va : Value} (dd : decode M.2.1 pc = .ok (.pop, 1)) (hva : va.category = 1) (k : Rx g d mc ms M n0 Q cu su (pc + 1) ls rest sh S L) : Rx g d mc ms M n0 Q cu su pc ls (va :: rest) sh S L := fun p e s m args below meth c ρ0 A ρ H locs als C X Y => lv_pop C.1 C.2.1 dd (by rw [vm_cat]; exact hva) (k p e s m args below meth c ρ0 A ρ H locs als C X Y)
theorem rx_dup2 {va vb : Value} (dd : decode M.2.1 pc = .ok (.dup2, 1)) (hva : va.category = 1) (hvb : vb.category = 1) (k : Rx g d mc ms M n0 Q cu su (pc + 1) ls (va :: vb :: va :: vb :: rest) sh S L) : Rx g d mc ms M n0 Q cu su pc ls (va :: vb :: rest) sh S L := fun p e s m args below meth c ρ0 A ρ H locs als C X Y => lv_dup2_11 C.1 C.2.1 dd (by rw [vm_cat]; exact hva) (by rw [vm_cat]; exact hvb) (k p e s m args below meth c ρ0 A ρ H locs als C X Y)
theorem rx_if_eq {x : Int32} {off : Int} (tgt : Nat) (dd : decode M.2.1 pc = .ok (.ifCond .eq off, 3)) (ht : (pc : Int) + off = (tgt : Int)) (kt : x = 0 → Rx g d mc ms M n0 Q cu su tgt ls rest sh S L) (kf : ¬ x = 0 → Rx g d mc ms M n0 Q cu su (pc + 3) ls rest sh S L) : Rx g d mc ms M n0 Q cu su pc ls (.int x :: rest) sh S L := fun p e s m args below meth c ρ0 A ρ H locs als C X Y => lv_if_eq C.1 C.2.1 dd ht (fun h => kt h p e s m args below meth c ρ0 A ρ H locs als C X Y) (fun h => kf h p e s m args below meth c ρ0 A ρ H locs als C X Y)
theorem rx_if_ne {x : Int32} {off : Int} (tgt : Nat) (dd : decode M.2.1 pc = .ok (.ifCond .ne off, 3)) (ht : (pc : Int) + off = (tgt : Int)) (kt : ¬ x = 0 → Rx g d mc ms M n0 Q cu su tgt ls rest sh S L) (kf : x = 0 → Rx g d mc ms M n0 Q cu su (pc + 3) ls rest sh S L) : Rx g d mc ms M n0 Q cu su pc ls (.int x :: rest) sh S L := fun p e s m args below meth c ρ0 A ρ H locs als C X Y => lv_if_ne C.1 C.2.1 dd ht (fun h => kt h p e s m args below meth c ρ0 A ρ H locs als C X Y) (fun h => kf h p e s m args below meth c ρ0 A ρ H locs als C X Y)
theorem rx_if_lt {x : Int32} {off : Int} (tgt : Nat) (dd : decode M.2.1 pc = .ok (.ifCond .lt off, 3)) (ht : (pc : Int) + off = (tgt : Int)) (kt : x < 0 → Rx g d mc ms M n0 Q cu su tgt ls rest sh S L) (kf : ¬ x < 0 → Rx g d mc ms M n0 Q cu su (pc + 3) ls rest sh S L) : Rx g d mc ms M n0 Q cu su pc ls (.int x :: rest) sh S L := fun p e s m args below meth c ρ0 A ρ H locs als C X Y => lv_if_lt C.1 C.2.1 dd ht (fun h => kt h p e s m args below meth c ρ0 A ρ H locs als C X Y) (fun h => kf h p e s m args below meth c ρ0 A ρ H locs als C X Y)
theorem rx_if_ge {x : Int32} {off : Int} (tgt : Nat) (dd : decode M.2.1 pc = .ok (.ifCond .ge off, 3)) (ht : (pc : Int) + off = (tgt : Int)) (kt : 0 ≤ x → Rx g d mc ms M n0 Q cu su tgt ls rest sh S L) (kf : ¬ 0 ≤ x → Rx g d mc ms M n0 Q cu su (pc + 3) ls rest sh S L) : Rx g d mc ms M n0 Q cu su pc ls (.int x :: rest) sh S L := fun p e s m args below meth c ρ0 A ρ H locs als C X Y => lv_if_ge C.1 C.2.1 dd ht (fun h => kt h p e s m args below meth c ρ0 A ρ H locs als C X Y) (fun h => kf h p e s m args below meth c ρ0 A ρ H locs als C X Y)
theorem rx_if_gt {x : Int32} {off : Int} (tgt : Nat) (dd : decode M.2.1 pc = .ok (.ifCond .gt off, 3)) (ht : (pc : Int) + off = (tgt : Int)) (kt : 0 < x → Rx g d mc ms M n0 Q cu su tgt ls rest sh S L) (kf : ¬ 0 < x → Rx g d mc ms M n0 Q cu su (pc + 3) ls rest sh S L) : Rx g d mc ms M n0 Q cu su pc ls (.int x :: rest) sh S L := fun p e s m args below meth c ρ0 A ρ H locs als C X Y => lv_if_gt C.1 C.2.1 dd ht (fun h => kt h p e s m args below meth c ρ0 A ρ H locs als C X Y) (fun h => kf h p e s m args below meth c ρ0 A ρ H locs als C X Y)
theorem rx_if_le {x : Int32} {off : Int} (tgt : Nat) (dd : decode M.2.1 pc = .ok (.ifCond .le off, 3)) (ht : (pc : Int) + off = (tgt : Int)) (kt : x ≤ 0 → Rx g d mc ms M n0 Q cu su tgt ls rest sh S L) (kf : ¬ x ≤ 0 → Rx g d mc ms M n0 Q cu su (pc + 3) ls rest sh S L) : Rx g d mc ms M n0 Q cu su pc ls (.int x :: rest) sh S L := fun p e s m args below meth c ρ0 A ρ H locs als C X Y => lv_if_le C.1 C.2.1 dd ht (fun h => kt h p e s m args below meth c ρ0 A ρ H locs als C X Y) (fun h => kf h p e s m args below meth c ρ0 A ρ H locs als C X Y)
theorem rx_icmp_eq {x y : Int32} {off : Int} (tgt : Nat) (dd : decode M.2.1 pc = .ok (.if_icmp .eq off, 3)) (ht : (pc : Int) + off = (tgt : Int)) (kt : x = y → Rx g d mc ms M n0 Q cu su tgt ls rest sh S L) (kf : ¬ x = y → Rx g d mc ms M n0 Q cu su (pc + 3) ls rest sh S L) : Rx g d mc ms M n0 Q cu su pc ls (.int y :: .int x :: rest) sh S L := fun p e s m args below meth c ρ0 A ρ H locs als C X Y => lv_icmp_eq C.1 C.2.1 dd ht (fun h => kt h p e s m args below meth c ρ0 A ρ H locs als C X Y) (fun h => kf h p e s m args below meth c ρ0 A ρ H locs als C X Y)
theorem rx_icmp_ne {x y : Int32} {off : Int} (tgt : Nat) (dd : decode M.2.1 pc = .ok (.if_icmp .ne off, 3)) (ht : (pc : Int) + off = (tgt : Int)) (kt : ¬ x = y → Rx g d mc ms M n0 Q cu su tgt ls rest sh S L) (kf : x = y → Rx g d mc ms M n0 Q cu su (pc + 3) ls rest sh S L) : Rx g d mc ms M n0 Q cu su pc ls (.int y :: .int x :: rest) sh S L := fun p e s m args below meth c ρ0 A ρ H locs als C X Y => lv_icmp_ne C.1 C.2.1 dd ht (fun h => kt h p e s m args below meth c ρ0 A ρ H locs als C X Y) (fun h => kf h p e s m args below meth c ρ0 A ρ H locs als C X Y)
theorem rx_icmp_lt {x y : Int32} {off : Int} (tgt : Nat) (dd : decode M.2.1 pc = .ok (.if_icmp .lt off, 3)) (ht : (pc : Int) + off = (tgt : Int)) (kt : x < y → Rx g d mc ms M n0 Q cu su tgt ls rest sh S L) (kf : ¬ x < y → Rx g d mc ms M n0 Q cu su (pc + 3) ls rest sh S L) : Rx g d mc ms M n0 Q cu su pc ls (.int y :: .int x :: rest) sh S L := fun p e s m args below meth c ρ0 A ρ H locs als C X Y => lv_icmp_lt C.1 C.2.1 dd ht (fun h => kt h p e s m args below meth c ρ0 A ρ H locs als C X Y) (fun h => kf h p e s m args below meth c ρ0 A ρ H locs als C X Y)
theorem rx_icmp_ge {x y : Int32} {off : Int} (tgt : Nat) (dd : decode M.2.1 pc = .ok (.if_icmp .ge off, 3)) (ht : (pc : Int) + off = (tgt : Int)) (kt : y ≤ x → Rx g d mc ms M n0 Q cu su tgt ls rest sh S L) (kf : ¬ y ≤ x → Rx g d mc ms M n0 Q cu su (pc + 3) ls rest sh S L) : Rx g d mc ms M n0 Q cu su pc ls (.int y :: .int x :: rest) sh S L := fun p e s m args below meth c ρ0 A ρ H locs als C X Y => lv_icmp_ge C.1 C.2.1 dd ht (fun h => kt h p e s m args below meth c ρ0 A ρ H locs als C X Y) (fun h => kf h p e s m args below meth c ρ0 A ρ H locs als C X Y)
theorem rx_icmp_gt {x y : Int32} {off : Int} (tgt : Nat) (dd : decode M.2.1 pc = .ok (.if_icmp .gt off, 3)) (ht : (pc : Int) + off = (tgt : Int)) (kt : y < x → Rx g d mc ms M n0 Q cu su tgt ls rest sh S L) (kf : ¬ y < x → Rx g d mc ms M n0 Q cu su (pc + 3) ls rest sh S L) : Rx g d mc ms M n0 Q cu su pc ls (.int y :: .int x :: rest) sh S L := fun p e s m args below meth c ρ0 A ρ H locs als C X Y => lv_icmp_gt C.1 C.2.1 dd ht (fun h => kt h p e s m args below meth c ρ0 A ρ H locs als C X Y) (fun h => kf h p e s m args below meth c ρ0 A ρ H locs als C X Y)
theorem rx_icmp_le {x y : Int32} {off : Int} (tgt : Nat) (dd : decode M.2.1 pc = .ok (.if_icmp .le off, 3)) (ht : (pc : Int) + off = (tgt : Int)) (kt : x ≤ y → Rx g d mc ms M n0 Q cu su tgt ls rest sh S L) (kf : ¬ x ≤ y → Rx g d mc ms M n0 Q cu su (pc + 3) ls rest sh S L) : Rx g d mc ms M n0 Q cu su pc ls (.int y :: .int x :: rest) sh S L := fun p e s m args below meth c ρ0 A ρ H locs als C X Y => lv_icmp_le C.1 C.2.1 dd ht (fun h => kt h p e s m args below meth c ρ0 A ρ H locs als C X Y) (fun h => kf h p e s m args below meth c ρ0 A ρ H locs als C X Y)
theorem rx_goto {off : Int} (tgt : Nat) (dd : decode M.2.1 pc = .ok (.goto off, 3)) (ht : (pc : Int) + off = (tgt : Int)) (k : Rx g d mc ms M n0 Q cu su tgt ls st sh S L) : Rx g d mc ms M n0 Q cu su pc ls st sh S L := fun p e s m args below meth c ρ0 A ρ H locs als C X Y => lv_goto C.1 C.2.1 dd ht (k p e s m args below meth c ρ0 A ρ H locs als C X Y)
theorem rx_tableOut {dflt lo hi : Int} {offs : Array Int} {len : Nat} {x : Int32} (tgt : Nat) (dd : decode M.2.1 pc = .ok (.tableswitch dflt lo hi offs, len)) (h : x.toInt < lo ∨ hi < x.toInt) (ht : (pc : Int) + dflt = (tgt : Int)) (k : Rx g d mc ms M n0 Q cu su tgt ls rest sh S L) : Rx g d mc ms M n0 Q cu su pc ls (.int x :: rest) sh S L := fun p e s m args below meth c ρ0 A ρ H locs als C X Y => lv_tableOut C.1 C.2.1 dd h ht (k p e s m args below meth c ρ0 A ρ H locs als C X Y)
theorem rx_tableIn {dflt lo hi : Int} {offs : Array Int} {len : Nat} {x : Int32} {off : Int} (tgt : Nat) (dd : decode M.2.1 pc = .ok (.tableswitch dflt lo hi offs, len)) (h1 : ¬ x.toInt < lo) (h2 : ¬ hi < x.toInt) (ho : offs[(x.toInt - lo).toNat]? = some off) (ht : (pc : Int) + off = (tgt : Int)) (k : Rx g d mc ms M n0 Q cu su tgt ls rest sh S L) : Rx g d mc ms M n0 Q cu su pc ls (.int x :: rest) sh S L := fun p e s m args below meth c ρ0 A ρ H locs als C X Y => lv_tableIn C.1 C.2.1 dd h1 h2 ho ht (k p e s m args below meth c ρ0 A ρ H locs als C X Y)
theorem rx_lookup {dflt : Int} {ps : Array (Int × Int)} {len : Nat} {x : Int32} {off : Int} (tgt : Nat) (dd : decode M.2.1 pc = .ok (.lookupswitch dflt ps, len)) (hp : (ps.toList.zip (ps.toList.drop 1)).all (fun (a, next) => a.1 < next.1) = true) (ho : Op.lookupswitch.offset ps.toList dflt x.toInt = off) (ht : (pc : Int) + off = (tgt : Int)) (k : Rx g d mc ms M n0 Q cu su tgt ls rest sh S L) : Rx g d mc ms M n0 Q cu su pc ls (.int x :: rest) sh S L := fun p e s m args below meth c ρ0 A ρ H locs als C X Y => lv_lookup C.1 C.2.1 dd hp ho ht (k p e s m args below meth c ρ0 A ρ H locs als C X Y)
end RX1
end
section
section RX2
variable {g : GG} {d mc ms : Nat} {M : MI} {n0 : Nat} {Q : Option Value → List CS → SS → LL → Prop} {cu su pc : Nat} {ls ls' : List (Option Value)} {st rest : List Value} {sh : List CS} {S : SS} {L : LL}
theorem ad_lt {g : GG} {ρ : Nat → Nat} {r : Nat} (h : r < 100000) : ad g ρ r = ρ r := if_pos h
theorem Wd.lt {n0 : Nat} {ρ0 ρ : Nat → Nat} {A : Nat → Prop} {H : Heap} {locs : List Loc} {s : State} (X : Wd g n0 ρ0 ρ sh S L A H locs s) {r : Nat} {c : CS} (hs : sh[r]? = some c) : r < 100000 := by
  have h1 := (List.getElem?_eq_some_iff.mp hs).1
  have h2 := X.1.2.1
  omega
theorem Wd.get {n0 : Nat} {ρ0 ρ : Nat → Nat} {A : Nat → Prop} {H : Heap} {locs : List Loc} {s : State} (X : Wd g n0 ρ0 ρ sh S L A H locs s) {r : Nat} {c : CS} (hs : sh[r]? = some c) : (wsOf g ρ sh S L)[r]? = some (ad g ρ r, cellE g ρ c r S L) := by
  rw [ad_lt (X.lt hs)]; exact wsOf_get hs
/-- a changed world -/
theorem Wd.set {n0 : Nat} {ρ0 ρ : Nat → Nat} {A : Nat → Prop} {H H1 : Heap} {locs locs1 : List Loc} {s : State} {S' : SS} {L' : LL} (X : Wd g n0 ρ0 ρ sh S L A H locs s) {r : Nat} {c : CS} {e : va_E} (hs : sh[r]? = some c) (he : e = cellE g ρ c r S' L') (ho : ∀ j, j ≠ r → S' j = S j ∧ L' j = L j)
    (hP : va_P g.2.1 vwCl ((wsOf g ρ sh S L).set r (ad g ρ r, e)) H1) (hD : va_D A ((wsOf g ρ sh S L).set r (ad g ρ r, e))) (hS : va_S A s.heap H1 locs1) : Wd g n0 ρ0 ρ sh S' L' A H1 locs1 s := by
  rw [ad_lt (X.lt hs), wsOf_set hs he ho] at hP hD
  exact ⟨X.1, X.2.1, hS, X.2.2.2.1, hP, hD, X.2.2.2.2.2.2⟩
/-- entry idx of own's constants is field kf of class ci -/
def FLk (own : String) (idx ci kf : Nat) (fin : Bool) (ty : FieldType) : Prop := ∃ (Cn : String) (T : u_T) (N : Nat) (ty0 : Nat → FieldType), vwCl[ci]? = some (Cn, T, N) ∧ (∀ w ∈ u_ws Cn T N, w ∈ TB) ∧ kf < N ∧ Cond.fieldLink own idx (T kf).1 (T kf).2.1 (T kf).2.2.1 ∈ TB ∧
  (∀ k, k < N → parseFieldDescriptor (T k).2.2.1 = some (ty0 k)) ∧ (∀ a, a < N → ∀ b, b < N → a ≠ b → (T a).2.1 ≠ (T b).2.1) ∧ (T kf).2.2.2 = fin ∧ parseFieldDescriptor (T kf).2.2.1 = some ty ∧ (fin = true → (T kf).1 = own)
theorem rx_get {idx ci kf r a b t : Nat} {fin : Bool} {ty : FieldType} {fs : List (Nat × Nat × Nat)} (dd : decode M.2.1 pc = .ok (.getfield idx, 3)) (fl : FLk M.1.cls idx ci kf fin ty) (hs : sh[r]? = some (0, ci, fs)) (hf : fs[kf]? = some (t, a, b))
    (k : Rx g d mc ms M n0 Q cu su (pc + 3) ls (afv (t, a, b) (S r kf) :: rest) sh S L) : Rx g d mc ms M n0 Q cu su pc ls (.ref r :: rest) sh S L := fun p e s m args below meth c ρ0 A ρ H locs als C X Y => by
  obtain ⟨Cn, T, N, ty0, h1, h2, h3, h4, h5, h6, h7, h8, h9⟩ := fl
  exact va_get (D := g.2.1) (ci := ci) (C := Cn) (T := T) (N := N) (a := ad g ρ r) C.1 C.2.1 C.2.2.2.2.2.1 h2 C.2.2.2.2.1 X.2.2.2.1 X.2.2.2.2.1 r (X.get hs) h1 kf h3 (C.2.2.2.2.2.1 _ h4) (fun _ h => h) (v := vm g ρ (afv (t, a, b) (S r kf))) (by simp [List.getElem?_mapIdx, hf]) dd (k p e s m args below meth c ρ0 A ρ H locs als C X Y)
theorem rx_getI {idx ci kf r a b : Nat} {fin : Bool} {ty : FieldType} {fs : List (Nat × Nat × Nat)} (dd : decode M.2.1 pc = .ok (.getfield idx, 3)) (fl : FLk M.1.cls idx ci kf fin ty) (hs : sh[r]? = some (0, ci, fs)) (hf : fs[kf]? = some (0, a, b))
    (k : Rx g d mc ms M n0 Q cu su (pc + 3) ls (.int (S r kf) :: rest) sh S L) : Rx g d mc ms M n0 Q cu su pc ls (.ref r :: rest) sh S L := rx_get dd fl hs hf k
theorem rx_getR {idx ci kf r a b : Nat} {fin : Bool} {ty : FieldType} {fs : List (Nat × Nat × Nat)} (dd : decode M.2.1 pc = .ok (.getfield idx, 3)) (fl : FLk M.1.cls idx ci kf fin ty) (hs : sh[r]? = some (0, ci, fs)) (hf : fs[kf]? = some (2, a, b))
    (k : Rx g d mc ms M n0 Q cu su (pc + 3) ls (.ref a :: rest) sh S L) : Rx g d mc ms M n0 Q cu su pc ls (.ref r :: rest) sh S L := rx_get dd fl hs hf k
theorem rx_getD {idx ci kf r a b : Nat} {fin : Bool} {ty : FieldType} {fs : List (Nat × Nat × Nat)} (dd : decode M.2.1 pc = .ok (.getfield idx, 3)) (fl : FLk M.1.cls idx ci kf fin ty) (hs : sh[r]? = some (0, ci, fs)) (hf : fs[kf]? = some (3, a, b))
    (k : Rx g d mc ms M n0 Q cu su (pc + 3) ls (.ref (a + b * (S r kf).toNatClampNeg) :: rest) sh S L) : Rx g d mc ms M n0 Q cu su pc ls (.ref r :: rest) sh S L := rx_get dd fl hs hf k
theorem rx_put0 {idx ci kf r : Nat} {ty : FieldType} {fs : List (Nat × Nat × Nat)} {f : Nat × Nat × Nat} {v : Value} {S' : SS} (dd : decode M.2.1 pc = .ok (.putfield idx, 3)) (fl : FLk M.1.cls idx ci kf false ty) (hs : sh[r]? = some (0, ci, fs)) (hf : fs[kf]? = some f)
    (hn : ∀ ρ, narrow ty (vm g ρ v) = vm g ρ v) (hfit : ∀ ρ, fits ty (vm g ρ v) = true) (hv : afv f (S' r kf) = v) (ho : ∀ j i, ¬ (j = r ∧ i = kf) → S' j i = S j i)
    (k : Rx g d mc ms M n0 Q cu su (pc + 3) ls rest sh S' L) : Rx g d mc ms M n0 Q cu su pc ls (v :: .ref r :: rest) sh S L := fun p e s m args below meth c ρ0 A ρ H locs als C X Y => by
  obtain ⟨Cn, T, N, ty0, h1, h2, h3, h4, h5, h6, h7, h8, h9⟩ := fl
  refine va_put (D := g.2.1) (ci := ci) (C := Cn) (T := T) (N := N) (a := ad g ρ r) C.1 C.2.1 C.2.2.2.2.2.1 h2 ty0 h5 h6 C.2.2.2.2.1 X.2.2.2.1 X.2.2.2.2.1 X.2.2.2.2.2.1 X.2.2.1 r (X.get hs) h1 kf h3 (C.2.2.2.2.2.1 _ h4) (fun _ h => h) h7 h8 (hn ρ) (hfit ρ) (by have := (List.getElem?_eq_some_iff.mp hf).1; simpa using this) dd (fun H1 locs1 hP hD hS => ?_)
  refine k p e s m args below meth c ρ0 A ρ H1 locs1 als C (X.set (S' := S') (L' := L) hs ?_ (fun j hj => ⟨funext fun i => ho j i (fun q => hj q.1), rfl⟩) hP hD hS) Y
  show Sum.inr (ci, (fs.mapIdx (fun i f => vm g ρ (afv f (S r i)))).set kf (vm g ρ v)) = Sum.inr (ci, fs.mapIdx (fun i f => vm g ρ (afv f (S' r i))))
  refine congrArg (fun z => Sum.inr (ci, z)) (List.ext_getElem? fun i => ?_)
  by_cases hi : i = kf
  · subst hi
    have hl := (List.getElem?_eq_some_iff.mp hf).1
    rw [List.getElem?_set_self (by simpa using hl)]
    simp [List.getElem?_mapIdx, hf, hv]
  · rw [List.getElem?_set_ne (fun q => hi q.symm)]
    simp only [List.getElem?_mapIdx]
    rw [ho r i (fun q => hi q.2)]
theorem upS_at (S : SS) (a k : Nat) (x : Int32) : upS S a k x a k = x := by simp [upS]
theorem upS_ne (S : SS) (a k : Nat) (x : Int32) {j i : Nat} (h : ¬ (j = a ∧ i = k)) : upS S a k x j i = S j i := by
  unfold upS
  by_cases h1 : j = a
  · rw [if_pos h1, if_neg (fun q => h ⟨h1, q⟩)]
  · rw [if_neg h1]
theorem rx_putI {idx ci kf r a b : Nat} {fs : List (Nat × Nat × Nat)} {x : Int32} (dd : decode M.2.1 pc = .ok (.putfield idx, 3)) (fl : FLk M.1.cls idx ci kf false .int) (hs : sh[r]? = some (0, ci, fs)) (hf : fs[kf]? = some (0, a, b))
    (k : Rx g d mc ms M n0 Q cu su (pc + 3) ls rest sh (upS S r kf x) L) : Rx g d mc ms M n0 Q cu su pc ls (.int x :: .ref r :: rest) sh S L :=
  rx_put0 dd fl hs hf (fun _ => rfl) (fun _ => rfl) (by show Value.int _ = _; rw [upS_at]) (fun j i h => upS_ne S r kf x h) k
theorem rx_putZ {idx ci kf r a b : Nat} {fs : List (Nat × Nat × Nat)} {x : Int32} (dd : decode M.2.1 pc = .ok (.putfield idx, 3)) (fl : FLk M.1.cls idx ci kf false .boolean) (hs : sh[r]? = some (0, ci, fs)) (hf : fs[kf]? = some (0, a, b)) (hn : narrow .boolean (.int x) = .int x) (hfit : fits .boolean (.int x) = true)
    (k : Rx g d mc ms M n0 Q cu su (pc + 3) ls rest sh (upS S r kf x) L) : Rx g d mc ms M n0 Q cu su pc ls (.int x :: .ref r :: rest) sh S L :=
  rx_put0 dd fl hs hf (fun _ => hn) (fun _ => hfit) (by show Value.int _ = _; rw [upS_at]) (fun j i h => upS_ne S r kf x h) k
theorem rx_putD {idx ci kf r a b y : Nat} {C1 : String} {fs : List (Nat × Nat × Nat)} (dd : decode M.2.1 pc = .ok (.putfield idx, 3)) (fl : FLk M.1.cls idx ci kf false (.object C1)) (hs : sh[r]? = some (0, ci, fs)) (hf : fs[kf]? = some (3, a, b)) (hy : y < 2 ^ 31)
    (k : Rx g d mc ms M n0 Q cu su (pc + 3) ls rest sh (upS S r kf (nI y)) L) : Rx g d mc ms M n0 Q cu su pc ls (.ref (a + b * y) :: .ref r :: rest) sh S L :=
  rx_put0 dd fl hs hf (fun _ => rfl) (fun _ => rfl) (by show Value.ref (a + b * (upS S r kf (nI y) r kf).toNatClampNeg) = _; rw [upS_at, nI_clamp hy]) (fun j i h => upS_ne S r kf _ h) k
-- arrays
theorem rx_iaload {a n : Nat} {fs : List (Nat × Nat × Nat)} {i : Int32} (dd : decode M.2.1 pc = .ok (.iaload, 1)) (hs : sh[a]? = some (1, n, fs)) (hin : vp_in i n)
    (k : Rx g d mc ms M n0 Q cu su (pc + 1) ls (.int (S a i.toNatClampNeg) :: rest) sh S L) : Rx g d mc ms M n0 Q cu su pc ls (.int i :: .ref a :: rest) sh S L := fun p e s m args below meth c ρ0 A ρ H locs als C X Y =>
  va_iald (D := g.2.1) C.1 C.2.1 X.2.2.2.1 X.2.2.2.2.1 a 0 (X.get hs) rfl hin dd (k p e s m args below meth c ρ0 A ρ H locs als C X Y)
theorem rx_baload {a n : Nat} {fs : List (Nat × Nat × Nat)} {i : Int32} (dd : decode M.2.1 pc = .ok (.baload, 1)) (hs : sh[a]? = some (3, n, fs)) (hin : vp_in i n)
    (k : Rx g d mc ms M n0 Q cu su (pc + 1) ls (.int (S a i.toNatClampNeg) :: rest) sh S L) : Rx g d mc ms M n0 Q cu su pc ls (.int i :: .ref a :: rest) sh S L := fun p e s m args below meth c ρ0 A ρ H locs als C X Y =>
  va_bald (D := g.2.1) C.1 C.2.1 X.2.2.2.1 X.2.2.2.2.1 a 2 (X.get hs) rfl hin dd (k p e s m args below meth c ρ0 A ρ H locs als C X Y)
theorem rx_zaload {a n : Nat} {fs : List (Nat × Nat × Nat)} {i : Int32} (dd : decode M.2.1 pc = .ok (.baload, 1)) (hs : sh[a]? = some (4, n, fs)) (hin : vp_in i n)
    (k : Rx g d mc ms M n0 Q cu su (pc + 1) ls (.int (S a i.toNatClampNeg) :: rest) sh S L) : Rx g d mc ms M n0 Q cu su pc ls (.int i :: .ref a :: rest) sh S L := fun p e s m args below meth c ρ0 A ρ H locs als C X Y =>
  va_zald (D := g.2.1) C.1 C.2.1 X.2.2.2.1 X.2.2.2.2.1 a 3 (X.get hs) rfl hin dd (k p e s m args below meth c ρ0 A ρ H locs als C X Y)
theorem rx_laload {a n : Nat} {fs : List (Nat × Nat × Nat)} {i : Int32} (dd : decode M.2.1 pc = .ok (.laload, 1)) (hs : sh[a]? = some (2, n, fs)) (hin : vp_in i n)
    (k : Rx g d mc ms M n0 Q cu su (pc + 1) ls (.long (L a i.toNatClampNeg) :: rest) sh S L) : Rx g d mc ms M n0 Q cu su pc ls (.int i :: .ref a :: rest) sh S L := fun p e s m args below meth c ρ0 A ρ H locs als C X Y =>
  va_lald (D := g.2.1) C.1 C.2.1 X.2.2.2.1 X.2.2.2.2.1 a 1 (X.get hs) rfl hin dd (k p e s m args below meth c ρ0 A ρ H locs als C X Y)
theorem rx_iastore {a n : Nat} {fs : List (Nat × Nat × Nat)} {i x : Int32} (dd : decode M.2.1 pc = .ok (.iastore, 1)) (hs : sh[a]? = some (1, n, fs)) (hin : vp_in i n)
    (k : Rx g d mc ms M n0 Q cu su (pc + 1) ls rest sh (upS S a i.toNatClampNeg x) L) : Rx g d mc ms M n0 Q cu su pc ls (.int x :: .int i :: .ref a :: rest) sh S L := fun p e s m args below meth c ρ0 A ρ H locs als C X Y =>
  va_iast (D := g.2.1) C.1 C.2.1 X.2.2.2.1 X.2.2.2.2.1 X.2.2.2.2.2.1 X.2.2.1 a 0 (X.get hs) rfl hin dd (fun H1 locs1 hP hD hS => k p e s m args below meth c ρ0 A ρ H1 locs1 als C (X.set hs (by show Sum.inl _ = Sum.inl (_, _, Sum.inl (upS S a i.toNatClampNeg x a)); rw [upS_row]) (fun j hj => ⟨upS_off S a _ x hj, rfl⟩) hP hD hS) Y)
theorem rx_bastore {a n : Nat} {fs : List (Nat × Nat × Nat)} {i x : Int32} (dd : decode M.2.1 pc = .ok (.bastore, 1)) (hs : sh[a]? = some (3, n, fs)) (hin : vp_in i n)
    (k : Rx g d mc ms M n0 Q cu su (pc + 1) ls rest sh (upS S a i.toNatClampNeg (vp_nar .byte x)) L) : Rx g d mc ms M n0 Q cu su pc ls (.int x :: .int i :: .ref a :: rest) sh S L := fun p e s m args below meth c ρ0 A ρ H locs als C X Y =>
  va_bast (D := g.2.1) C.1 C.2.1 X.2.2.2.1 X.2.2.2.2.1 X.2.2.2.2.2.1 X.2.2.1 a 2 (X.get hs) rfl hin dd (fun H1 locs1 hP hD hS => k p e s m args below meth c ρ0 A ρ H1 locs1 als C (X.set hs (by show Sum.inl _ = Sum.inl (_, _, Sum.inl (upS S a i.toNatClampNeg (vp_nar .byte x) a)); rw [upS_row]) (fun j hj => ⟨upS_off S a _ _ hj, rfl⟩) hP hD hS) Y)
theorem rx_zastore {a n : Nat} {fs : List (Nat × Nat × Nat)} {i x : Int32} (dd : decode M.2.1 pc = .ok (.bastore, 1)) (hs : sh[a]? = some (4, n, fs)) (hin : vp_in i n)
    (k : Rx g d mc ms M n0 Q cu su (pc + 1) ls rest sh (upS S a i.toNatClampNeg (vp_nar .boolean x)) L) : Rx g d mc ms M n0 Q cu su pc ls (.int x :: .int i :: .ref a :: rest) sh S L := fun p e s m args below meth c ρ0 A ρ H locs als C X Y =>
  va_zast (D := g.2.1) C.1 C.2.1 X.2.2.2.1 X.2.2.2.2.1 X.2.2.2.2.2.1 X.2.2.1 a 3 (X.get hs) rfl hin dd (fun H1 locs1 hP hD hS => k p e s m args below meth c ρ0 A ρ H1 locs1 als C (X.set hs (by show Sum.inl _ = Sum.inl (_, _, Sum.inl (upS S a i.toNatClampNeg (vp_nar .boolean x) a)); rw [upS_row]) (fun j hj => ⟨upS_off S a _ _ hj, rfl⟩) hP hD hS) Y)
theorem rx_lastore {a n : Nat} {fs : List (Nat × Nat × Nat)} {i : Int32} {x : Int64} (dd : decode M.2.1 pc = .ok (.lastore, 1)) (hs : sh[a]? = some (2, n, fs)) (hin : vp_in i n)
    (k : Rx g d mc ms M n0 Q cu su (pc + 1) ls rest sh S (upL L a i.toNatClampNeg x)) : Rx g d mc ms M n0 Q cu su pc ls (.long x :: .int i :: .ref a :: rest) sh S L := fun p e s m args below meth c ρ0 A ρ H locs als C X Y =>
  va_last (D := g.2.1) C.1 C.2.1 X.2.2.2.1 X.2.2.2.2.1 X.2.2.2.2.2.1 X.2.2.1 a 1 (X.get hs) rfl hin dd (fun H1 locs1 hP hD hS => k p e s m args below meth c ρ0 A ρ H1 locs1 als C (X.set hs (by show Sum.inl _ = Sum.inl (_, _, Sum.inr (Sum.inl (upL L a i.toNatClampNeg x a))); rw [upL_row]) (fun j hj => ⟨rfl, upL_off L a _ x hj⟩) hP hD hS) Y)
theorem rx_alen {a n t : Nat} {fs : List (Nat × Nat × Nat)} (dd : decode M.2.1 pc = .ok (.arraylength, 1)) (hs : sh[a]? = some (t + 1, n, fs)) (ht : t < 7)
    (k : Rx g d mc ms M n0 Q cu su (pc + 1) ls (.int (nI n) :: rest) sh S L) : Rx g d mc ms M n0 Q cu su pc ls (.ref a :: rest) sh S L := fun p e s m args below meth c ρ0 A ρ H locs als C X Y => by
  have h := X.get hs
  have hz : ∃ (x : vp_A) (ty : FieldType), cellE g ρ (t + 1, n, fs) a S L = .inl (g.2.2.1 (t + 1), x) ∧ x.1 = n ∧ (tysOf g)[t]? = some (g.2.2.1 (t + 1), ty) := by
    match t, ht with
    | 0, _ => exact ⟨_, _, rfl, rfl, rfl⟩
    | 1, _ => exact ⟨_, _, rfl, rfl, rfl⟩
    | 2, _ => exact ⟨_, _, rfl, rfl, rfl⟩
    | 3, _ => exact ⟨_, _, rfl, rfl, rfl⟩
    | 4, _ => exact ⟨_, _, rfl, rfl, rfl⟩
    | 5, _ => exact ⟨_, _, rfl, rfl, rfl⟩
    | 6, _ => exact ⟨_, _, rfl, rfl, rfl⟩
  obtain ⟨x, ty, h1, h2, h3⟩ := hz
  rw [h1] at h
  exact va_alen (D := g.2.1) C.1 C.2.1 X.2.2.2.1 X.2.2.2.2.1 a t h h3 (by rw [h2]; rfl) dd (k p e s m args below meth c ρ0 A ρ H locs als C X Y)
theorem rx_aaload5 {a n q z : Nat} {fs : List (Nat × Nat × Nat)} {i : Int32} (dd : decode M.2.1 pc = .ok (.aaload, 1)) (hs : sh[a]? = some (5, n, fs)) (hin : vp_in i n) (he : fs[i.toNatClampNeg]? = some (2, q, z))
    (k : Rx g d mc ms M n0 Q cu su (pc + 1) ls (.ref q :: rest) sh S L) : Rx g d mc ms M n0 Q cu su pc ls (.int i :: .ref a :: rest) sh S L := fun p e s m args below meth c ρ0 A ρ H locs als C X Y => by
  refine va_aldq (D := g.2.1) C.1 C.2.1 X.2.2.2.1 X.2.2.2.2.1 a 4 (X.get hs) rfl hin dd ?_
  dsimp only
  rw [he]
  exact k p e s m args below meth c ρ0 A ρ H locs als C X Y
theorem rx_aaload6 {a n q z : Nat} {fs : List (Nat × Nat × Nat)} {i : Int32} (dd : decode M.2.1 pc = .ok (.aaload, 1)) (hs : sh[a]? = some (6, n, fs)) (hin : vp_in i n) (he : fs[i.toNatClampNeg]? = some (2, q, z))
    (k : Rx g d mc ms M n0 Q cu su (pc + 1) ls (.ref q :: rest) sh S L) : Rx g d mc ms M n0 Q cu su pc ls (.int i :: .ref a :: rest) sh S L := fun p e s m args below meth c ρ0 A ρ H locs als C X Y => by
  refine va_aldq (D := g.2.1) C.1 C.2.1 X.2.2.2.1 X.2.2.2.2.1 a 5 (X.get hs) rfl hin dd ?_
  dsimp only
  rw [he]
  exact k p e s m args below meth c ρ0 A ρ H locs als C X Y
theorem rx_aaload7 {a n q z : Nat} {fs : List (Nat × Nat × Nat)} {i : Int32} (dd : decode M.2.1 pc = .ok (.aaload, 1)) (hs : sh[a]? = some (7, n, fs)) (hin : vp_in i n) (he : fs[i.toNatClampNeg]? = some (2, q, z))
    (k : Rx g d mc ms M n0 Q cu su (pc + 1) ls (.ref q :: rest) sh S L) : Rx g d mc ms M n0 Q cu su pc ls (.int i :: .ref a :: rest) sh S L := fun p e s m args below meth c ρ0 A ρ H locs als C X Y => by
  have hlt : i.toNatClampNeg < n := Nat.not_le.mp fun q => hin (Or.inr q)
  have hc := X.2.2.2.2.1 a _ (X.get hs)
  have hv : va_rf ((fs[i.toNatClampNeg]?).bind (rfv g ρ)) = .ref (ad g ρ q) := by rw [he]; rfl
  refine W.aald (v := va_rf ((fs[i.toNatClampNeg]?).bind (rfv g ρ))) (ty := .array .long) C.1 C.2.1 hc ((X.2.2.2.1.2 6 _ rfl).1 n (fun j => va_rf ((fs[j]?).bind (rfv g ρ)))) rfl (fun q => by cases q) (by show ¬ (i < 0 ∨ (arrV _ _ _).slots.size ≤ _); rw [arrV_size]; exact hin) (by show (arrV _ _ _).slots[_]? = _; rw [arrV_read _ _ hlt]) rfl rfl dd ?_
  rw [hv]
  exact k p e s m args below meth c ρ0 A ρ H locs als C X Y
/-- one row of the contents anew -/
def rwS (S : SS) (a : Nat) (f : Nat → Int32) : SS := fun j => if j = a then f else S j
def rwL (S : LL) (a : Nat) (f : Nat → Int64) : LL := fun j => if j = a then f else S j
theorem rx_copyi {a0 a n0' n1 idx : Nat} {f0 f1 : List (Nat × Nat × Nat)} {sp dp n : Int32} (dd : decode M.2.1 pc = .ok (.invokestatic idx, 3)) (hl : Cond.methodLink M.1.cls idx arraycopyName ∈ TB) (hnat : Cond.native arraycopyName ∈ TB) (hst : Cond.static arraycopyName ∈ TB) (hin : Cond.initialized "java/lang/System" ∈ TB)
    (hs0 : sh[a0]? = some (1, n0', f0)) (hs1 : sh[a]? = some (1, n1, f1)) (h1 : ¬ sp < 0) (h2 : ¬ dp < 0) (h3 : ¬ n < 0) (h4 : sp.toNatClampNeg + n.toNatClampNeg ≤ n0') (h5 : dp.toNatClampNeg + n.toNatClampNeg ≤ n1) (hd : 1 ≤ d) (hr : (rest.map fun v => v.category).sum ≤ 8)
    (k : Rx g d mc ms M n0 Q cu su (pc + 3) ls rest sh (rwS S a (va_cpy (S a0) (S a) sp.toNatClampNeg dp.toNatClampNeg n.toNatClampNeg)) L) : Rx g d mc ms M n0 Q cu su pc ls (.int n :: .int dp :: .ref a :: .int sp :: .ref a0 :: rest) sh S L := fun p e s m args below meth c ρ0 A ρ H locs als C X Y => by
  have hc : ((rest.map (vm g ρ)).map fun v => v.category).sum = (rest.map fun v => v.category).sum := by rw [List.map_map]; exact congrArg List.sum (List.map_congr_left fun v _ => vm_cat g ρ v)
  refine va_copyi (D := g.2.1) (a0 := ad g ρ a0) (a := ad g ρ a) C.1 C.2.1 (C.2.2.2.1.trans Y.2.1.symm) C.2.2.2.2.1 (C.2.2.2.2.2.1 _ hl) (C.2.2.2.2.2.1 _ hnat) (C.2.2.2.2.2.1 _ hst) (C.2.2.2.2.2.1 _ hin) X.2.2.2.1 X.2.2.2.2.1 X.2.2.2.2.2.1 X.2.2.1 a0 a 0 0 (X.get hs0) (X.get hs1) rfl rfl rfl h1 h2 h3 h4 h5 (fun _ _ => rfl) hd ?_ dd (fun H1 locs1 hP hD hS => ?_)
  · rw [hc]
    refine Nat.le_trans (Nat.add_le_add_right hr _) ?_
    show _ ≤ 100 * d
    have : 8 + (nativeFrameWords "java/lang/System" "arraycopy" 5 + 11) ≤ 100 := by decide +kernel
    omega
  · exact k p e s m args below meth c ρ0 A ρ H1 locs1 als C (X.set hs1 (by show Sum.inl _ = Sum.inl (_, _, Sum.inl (rwS S a _ a)); simp [rwS]) (fun j hj => ⟨by simp [rwS, hj], rfl⟩) hP hD hS) Y
theorem rx_copyl {a0 a n0' n1 idx : Nat} {f0 f1 : List (Nat × Nat × Nat)} {sp dp n : Int32} (dd : decode M.2.1 pc = .ok (.invokestatic idx, 3)) (hl : Cond.methodLink M.1.cls idx arraycopyName ∈ TB) (hnat : Cond.native arraycopyName ∈ TB) (hst : Cond.static arraycopyName ∈ TB) (hin : Cond.initialized "java/lang/System" ∈ TB)
    (hs0 : sh[a0]? = some (2, n0', f0)) (hs1 : sh[a]? = some (2, n1, f1)) (h1 : ¬ sp < 0) (h2 : ¬ dp < 0) (h3 : ¬ n < 0) (h4 : sp.toNatClampNeg + n.toNatClampNeg ≤ n0') (h5 : dp.toNatClampNeg + n.toNatClampNeg ≤ n1) (hd : 1 ≤ d) (hr : (rest.map fun v => v.category).sum ≤ 8)
    (k : Rx g d mc ms M n0 Q cu su (pc + 3) ls rest sh S (rwL L a (va_cpy (L a0) (L a) sp.toNatClampNeg dp.toNatClampNeg n.toNatClampNeg))) : Rx g d mc ms M n0 Q cu su pc ls (.int n :: .int dp :: .ref a :: .int sp :: .ref a0 :: rest) sh S L := fun p e s m args below meth c ρ0 A ρ H locs als C X Y => by
  have hc : ((rest.map (vm g ρ)).map fun v => v.category).sum = (rest.map fun v => v.category).sum := by rw [List.map_map]; exact congrArg List.sum (List.map_congr_left fun v _ => vm_cat g ρ v)
  refine va_copyl (D := g.2.1) (a0 := ad g ρ a0) (a := ad g ρ a) C.1 C.2.1 (C.2.2.2.1.trans Y.2.1.symm) C.2.2.2.2.1 (C.2.2.2.2.2.1 _ hl) (C.2.2.2.2.2.1 _ hnat) (C.2.2.2.2.2.1 _ hst) (C.2.2.2.2.2.1 _ hin) X.2.2.2.1 X.2.2.2.2.1 X.2.2.2.2.2.1 X.2.2.1 a0 a 1 1 (X.get hs0) (X.get hs1) rfl rfl rfl h1 h2 h3 h4 h5 (fun _ _ => rfl) hd ?_ dd (fun H1 locs1 hP hD hS => ?_)
  · rw [hc]
    refine Nat.le_trans (Nat.add_le_add_right hr _) ?_
    show _ ≤ 100 * d
    have : 8 + (nativeFrameWords "java/lang/System" "arraycopy" 5 + 11) ≤ 100 := by decide +kernel
    omega
  · exact k p e s m args below meth c ρ0 A ρ H1 locs1 als C (X.set hs1 (by show Sum.inl _ = Sum.inl (_, _, Sum.inr (Sum.inl (rwL L a _ a))); simp [rwL]) (fun j hj => ⟨rfl, by simp [rwL, hj]⟩) hP hD hS) Y
-- Math.max, min
theorem rx_max {idx : Nat} {x y : Int32} (dd : decode M.2.1 pc = .ok (.invokestatic idx, 3)) (hl : Cond.methodLink M.1.cls idx Lib.Math.max.name ∈ TB) (hst : Cond.static Lib.Math.max.name ∈ TB) (hin : Cond.initialized "java/lang/Math" ∈ TB) (hco : Cond.code Lib.Math.max.name Lib.Math.max.code 2 (some .int) ∈ TB) (hd : 1 ≤ d) (hcu : cu ≤ mc ∧ su ≤ ms) (hr : (rest.map fun v => v.category).sum ≤ 8)
    (k : Rx g d mc ms M n0 Q cu su (pc + 3) ls (.int (if x < y then y else x) :: rest) sh S L) : Rx g d mc ms M n0 Q cu su pc ls (.int y :: .int x :: rest) sh S L := fun p e s m args below meth c ρ0 A ρ H locs als C X Y => by
  have hc : ((rest.map (vm g ρ)).map fun v => v.category).sum = (rest.map fun v => v.category).sum := by rw [List.map_map]; exact congrArg List.sum (List.map_congr_left fun v _ => vm_cat g ρ v)
  exact va_mmax C.1 C.2.1 (C.2.2.2.1.trans Y.2.1.symm) C.2.2.2.2.1 (C.2.2.2.2.2.1 _ hl) (C.2.2.2.2.2.1 _ hst) (C.2.2.2.2.2.1 _ hin) (C.2.2.2.2.2.1 _ hco) hd (by rw [hc]; show _ ≤ 100 * d; omega) hcu.1 hcu.2 dd (k p e s m args below meth c ρ0 A ρ H locs als C X Y)
theorem rx_min {idx : Nat} {x y : Int32} (dd : decode M.2.1 pc = .ok (.invokestatic idx, 3)) (hl : Cond.methodLink M.1.cls idx Lib.Math.min.name ∈ TB) (hst : Cond.static Lib.Math.min.name ∈ TB) (hin : Cond.initialized "java/lang/Math" ∈ TB) (hco : Cond.code Lib.Math.min.name Lib.Math.min.code 2 (some .int) ∈ TB) (hd : 1 ≤ d) (hcu : cu ≤ mc ∧ su ≤ ms) (hr : (rest.map fun v => v.category).sum ≤ 8)
    (k : Rx g d mc ms M n0 Q cu su (pc + 3) ls (.int (if y < x then y else x) :: rest) sh S L) : Rx g d mc ms M n0 Q cu su pc ls (.int y :: .int x :: rest) sh S L := fun p e s m args below meth c ρ0 A ρ H locs als C X Y => by
  have hc : ((rest.map (vm g ρ)).map fun v => v.category).sum = (rest.map fun v => v.category).sum := by rw [List.map_map]; exact congrArg List.sum (List.map_congr_left fun v _ => vm_cat g ρ v)
  exact va_mmin C.1 C.2.1 (C.2.2.2.1.trans Y.2.1.symm) C.2.2.2.2.1 (C.2.2.2.2.2.1 _ hl) (C.2.2.2.2.2.1 _ hst) (C.2.2.2.2.2.1 _ hin) (C.2.2.2.2.2.1 _ hco) hd (by rw [hc]; show _ ≤ 100 * d; omega) hcu.1 hcu.2 dd (k p e s m args below meth c ρ0 A ρ H locs als C X Y)
-- the static array
theorem rx_getKA {idx : Nat} (dd : decode M.2.1 pc = .ok (.getstatic idx, 3)) (hl : Cond.fieldLink M.1.cls idx "WhileSheLooks" "KIND_ABOVE" "[I" ∈ TB)
    (k : Rx g d mc ms M n0 Q cu su (pc + 3) ls (.ref 100200 :: st) sh S L) : Rx g d mc ms M n0 Q cu su pc ls st sh S L := fun p e s m args below meth c ρ0 A ρ H locs als C X Y =>
  va_gets C.1 C.2.1 X.2.2.2.2.2.2.2.2.2.1 X.2.2.1 C.2.2.2.2.1 (C.2.2.2.2.2.1 _ hl) (fun _ h => h) dd (k p e s m args below meth c ρ0 A ρ H locs als C X Y)
theorem rx_ldKA {i : Int32} (dd : decode M.2.1 pc = .ok (.iaload, 1)) (hin : vp_in i 7)
    (k : Rx g d mc ms M n0 Q cu su (pc + 1) ls (.int (kaTab.getD i.toNatClampNeg 0) :: rest) sh S L) : Rx g d mc ms M n0 Q cu su pc ls (.int i :: .ref 100200 :: rest) sh S L := fun p e s m args below meth c ρ0 A ρ H locs als C X Y =>
  va_ti C.1 C.2.1 X.2.2.2.2.2.2.2.2.1 X.2.2.1 hin rfl dd (k p e s m args below meth c ρ0 A ρ H locs als C X Y)
-- ends
theorem rx_iret {v : Int32} (dd : decode M.2.1 pc = .ok (.ireturn, 1)) (hr : M.2.2.2 = some .int) (hm : cu ≤ mc ∧ su ≤ ms) (q : Q (some (.int v)) sh S L) : Rx g d mc ms M n0 Q cu su pc ls [.int v] sh S L := fun p e s m args below meth c ρ0 A ρ H locs als C X Y => by
  refine W.widen hm.1 hm.2 ?_
  exact W.iret (v := v) C.1 C.2.1 (C.2.2.1.trans hr) (fun t ht hW => ⟨⟨some (.int v), sh, S, L, ρ, rfl, X.1, q, by rw [ht]; exact X.2.2.2.2.1, X.2.2.2.2.2.1⟩, X.2.2.1.F ht⟩) X.2.2.1.2.2 dd C.2.2.2.2.2.2.1
theorem rx_zret {v : Int32} {ty : FieldType} (dd : decode M.2.1 pc = .ok (.ireturn, 1)) (hr : M.2.2.2 = some ty) (hn : narrow ty (.int v) = .int v) (hm : cu ≤ mc ∧ su ≤ ms) (q : Q (some (.int v)) sh S L) : Rx g d mc ms M n0 Q cu su pc ls [.int v] sh S L := fun p e s m args below meth c ρ0 A ρ H locs als C X Y => by
  refine W.widen hm.1 hm.2 ?_
  exact W.zret (v := v) C.1 C.2.1 (C.2.2.1.trans hr) hn (fun t ht hW => ⟨⟨some (.int v), sh, S, L, ρ, rfl, X.1, q, by rw [ht]; exact X.2.2.2.2.1, X.2.2.2.2.2.1⟩, X.2.2.1.F ht⟩) X.2.2.1.2.2 dd C.2.2.2.2.2.2.1
theorem rx_lret {v : Int64} (dd : decode M.2.1 pc = .ok (.lreturn, 1)) (hr : M.2.2.2 = some .long) (hm : cu ≤ mc ∧ su ≤ ms) (q : Q (some (.long v)) sh S L) : Rx g d mc ms M n0 Q cu su pc ls [.long v] sh S L := fun p e s m args below meth c ρ0 A ρ H locs als C X Y => by
  refine W.widen hm.1 hm.2 ?_
  exact W.lret (v := v) C.1 C.2.1 (C.2.2.1.trans hr) (fun t ht hW => ⟨⟨some (.long v), sh, S, L, ρ, rfl, X.1, q, by rw [ht]; exact X.2.2.2.2.1, X.2.2.2.2.2.1⟩, X.2.2.1.F ht⟩) X.2.2.1.2.2 dd C.2.2.2.2.2.2.1
theorem rx_aret {v : Nat} {ty : FieldType} (dd : decode M.2.1 pc = .ok (.areturn, 1)) (hr : M.2.2.2 = some ty) (hty : (∃ n, ty = .object n) ∨ ∃ t, ty = .array t) (hm : cu ≤ mc ∧ su ≤ ms) (q : Q (some (.ref v)) sh S L) : Rx g d mc ms M n0 Q cu su pc ls [.ref v] sh S L := fun p e s m args below meth c ρ0 A ρ H locs als C X Y => by
  refine W.widen hm.1 hm.2 ?_
  exact W.aret (v := .ref (ad g ρ v)) C.1 C.2.1 (C.2.2.1.trans hr) hty (Or.inr ⟨_, rfl⟩) (fun t ht hW => ⟨⟨some (.ref v), sh, S, L, ρ, rfl, X.1, q, by rw [ht]; exact X.2.2.2.2.1, X.2.2.2.2.2.1⟩, X.2.2.1.F ht⟩) X.2.2.1.2.2 dd C.2.2.2.2.2.2.1
theorem rx_vret (dd : decode M.2.1 pc = .ok (.return_, 1)) (hr : M.2.2.2 = none) (hm : cu ≤ mc ∧ su ≤ ms) (q : Q none sh S L) : Rx g d mc ms M n0 Q cu su pc ls [] sh S L := fun p e s m args below meth c ρ0 A ρ H locs als C X Y => by
  refine W.widen hm.1 hm.2 ?_
  exact W.vret C.1 C.2.1 (C.2.2.1.trans hr) (fun t ht hW => ⟨⟨none, sh, S, L, ρ, rfl, X.1, q, by rw [ht]; exact X.2.2.2.2.1, X.2.2.2.2.2.1⟩, X.2.2.1.F ht⟩) X.2.2.1.2.2 dd C.2.2.2.2.2.2.1
end RX2
end
