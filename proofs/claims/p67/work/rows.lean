section
/-- a private method of a class that the tables say can be made, by its rows of tables_1 -/
def lw_okq (q : MethodName × Nat) : Prop := (q.1.cls ≠ "java/lang/invoke/MethodHandle" ∧ q.1.cls ≠ "java/lang/invoke/VarHandle") ∧ Cond.instantiable q.1.cls q.2 ∈ tables_1 ∧ Cond.privateMethod q.1 ∈ tables_1 ∧ Cond.instanceMethod q.1 ∈ tables_1
theorem lw_p0 : lw_okq (⟨"RateLimiter", "isRequest", "(II)Z"⟩, 8) := ⟨⟨by decide +kernel, by decide +kernel⟩, List.mem_of_getElem? (i := 32) (by decide +kernel), List.mem_of_getElem? (i := 462) (by decide +kernel), List.mem_of_getElem? (i := 463) (by decide +kernel)⟩
theorem lw_p1 : lw_okq (⟨"RateLimiter$State", "frontDistance", "(LRateLimiter$Setup;I)I"⟩, 9) := ⟨⟨by decide +kernel, by decide +kernel⟩, List.mem_of_getElem? (i := 261) (by decide +kernel), List.mem_of_getElem? (i := 514) (by decide +kernel), List.mem_of_getElem? (i := 515) (by decide +kernel)⟩
theorem lw_p2 : lw_okq (⟨"RateLimiter$State", "precedes", "(LRateLimiter$Setup;II)Z"⟩, 9) := ⟨⟨by decide +kernel, by decide +kernel⟩, List.mem_of_getElem? (i := 261) (by decide +kernel), List.mem_of_getElem? (i := 520) (by decide +kernel), List.mem_of_getElem? (i := 521) (by decide +kernel)⟩
theorem lw_p3 : lw_okq (⟨"RateLimiter", "canAdvance", "(I)Z"⟩, 8) := ⟨⟨by decide +kernel, by decide +kernel⟩, List.mem_of_getElem? (i := 32) (by decide +kernel), List.mem_of_getElem? (i := 535) (by decide +kernel), List.mem_of_getElem? (i := 536) (by decide +kernel)⟩
theorem lw_p4 : lw_okq (⟨"RateLimiter$State", "makeChanges", "(LRateLimiter$Setup;)V"⟩, 9) := ⟨⟨by decide +kernel, by decide +kernel⟩, List.mem_of_getElem? (i := 261) (by decide +kernel), List.mem_of_getElem? (i := 547) (by decide +kernel), List.mem_of_getElem? (i := 548) (by decide +kernel)⟩
theorem lw_p5 : lw_okq (⟨"RateLimiter$State", "dropOld", "(LRateLimiter$Setup;)V"⟩, 9) := ⟨⟨by decide +kernel, by decide +kernel⟩, List.mem_of_getElem? (i := 261) (by decide +kernel), List.mem_of_getElem? (i := 562) (by decide +kernel), List.mem_of_getElem? (i := 563) (by decide +kernel)⟩
theorem lw_p6 : lw_okq (⟨"RateLimiter$State", "isFrontOld", "(II)Z"⟩, 9) := ⟨⟨by decide +kernel, by decide +kernel⟩, List.mem_of_getElem? (i := 261) (by decide +kernel), List.mem_of_getElem? (i := 566) (by decide +kernel), List.mem_of_getElem? (i := 567) (by decide +kernel)⟩
theorem lw_p7 : lw_okq (⟨"RateLimiter$Queues", "moveUp", "([II)V"⟩, 5) := ⟨⟨by decide +kernel, by decide +kernel⟩, List.mem_of_getElem? (i := 289) (by decide +kernel), List.mem_of_getElem? (i := 574) (by decide +kernel), List.mem_of_getElem? (i := 575) (by decide +kernel)⟩
theorem lw_p8 : lw_okq (⟨"RateLimiter$State", "dispatch", "(LRateLimiter$Setup;)I"⟩, 9) := ⟨⟨by decide +kernel, by decide +kernel⟩, List.mem_of_getElem? (i := 261) (by decide +kernel), List.mem_of_getElem? (i := 579) (by decide +kernel), List.mem_of_getElem? (i := 580) (by decide +kernel)⟩
theorem lw_p9 : lw_okq (⟨"RateLimiter", "logEntry", "(I)I"⟩, 8) := ⟨⟨by decide +kernel, by decide +kernel⟩, List.mem_of_getElem? (i := 32) (by decide +kernel), List.mem_of_getElem? (i := 603) (by decide +kernel), List.mem_of_getElem? (i := 604) (by decide +kernel)⟩
theorem lw_p10 : lw_okq (⟨"RateLimiter", "change", "(III)I"⟩, 8) := ⟨⟨by decide +kernel, by decide +kernel⟩, List.mem_of_getElem? (i := 32) (by decide +kernel), List.mem_of_getElem? (i := 623) (by decide +kernel), List.mem_of_getElem? (i := 624) (by decide +kernel)⟩
theorem lw_p11 : lw_okq (⟨"java/util/ArrayList", "add", "(Ljava/lang/Object;[Ljava/lang/Object;I)V"⟩, 3) := ⟨⟨by decide +kernel, by decide +kernel⟩, List.mem_of_getElem? (i := 641) (by decide +kernel), List.mem_of_getElem? (i := 678) (by decide +kernel), List.mem_of_getElem? (i := 679) (by decide +kernel)⟩
theorem lw_p12 : lw_okq (⟨"java/util/ArrayList", "grow", "()[Ljava/lang/Object;"⟩, 3) := ⟨⟨by decide +kernel, by decide +kernel⟩, List.mem_of_getElem? (i := 641) (by decide +kernel), List.mem_of_getElem? (i := 682) (by decide +kernel), List.mem_of_getElem? (i := 683) (by decide +kernel)⟩
theorem lw_p13 : lw_okq (⟨"java/util/ArrayList", "grow", "(I)[Ljava/lang/Object;"⟩, 3) := ⟨⟨by decide +kernel, by decide +kernel⟩, List.mem_of_getElem? (i := 641) (by decide +kernel), List.mem_of_getElem? (i := 686) (by decide +kernel), List.mem_of_getElem? (i := 687) (by decide +kernel)⟩
theorem lw_p14 : lw_okq (⟨"java/util/ArrayList", "fastRemove", "([Ljava/lang/Object;I)V"⟩, 3) := ⟨⟨by decide +kernel, by decide +kernel⟩, List.mem_of_getElem? (i := 641) (by decide +kernel), List.mem_of_getElem? (i := 872) (by decide +kernel), List.mem_of_getElem? (i := 873) (by decide +kernel)⟩
theorem lw_p15 : lw_okq (⟨"RateLimiterLaw$Tree", "isAhead", "(II)Z"⟩, 25) := ⟨⟨by decide +kernel, by decide +kernel⟩, List.mem_of_getElem? (i := 635) (by decide +kernel), List.mem_of_getElem? (i := 881) (by decide +kernel), List.mem_of_getElem? (i := 882) (by decide +kernel)⟩
def lw_privs_1 : List (MethodName × Nat) := [(⟨"RateLimiter", "isRequest", "(II)Z"⟩, 8), (⟨"RateLimiter$State", "frontDistance", "(LRateLimiter$Setup;I)I"⟩, 9), (⟨"RateLimiter$State", "precedes", "(LRateLimiter$Setup;II)Z"⟩, 9), (⟨"RateLimiter", "canAdvance", "(I)Z"⟩, 8), (⟨"RateLimiter$State", "makeChanges", "(LRateLimiter$Setup;)V"⟩, 9), (⟨"RateLimiter$State", "dropOld", "(LRateLimiter$Setup;)V"⟩, 9), (⟨"RateLimiter$State", "isFrontOld", "(II)Z"⟩, 9), (⟨"RateLimiter$Queues", "moveUp", "([II)V"⟩, 5), (⟨"RateLimiter$State", "dispatch", "(LRateLimiter$Setup;)I"⟩, 9), (⟨"RateLimiter", "logEntry", "(I)I"⟩, 8), (⟨"RateLimiter", "change", "(III)I"⟩, 8), (⟨"java/util/ArrayList", "add", "(Ljava/lang/Object;[Ljava/lang/Object;I)V"⟩, 3), (⟨"java/util/ArrayList", "grow", "()[Ljava/lang/Object;"⟩, 3), (⟨"java/util/ArrayList", "grow", "(I)[Ljava/lang/Object;"⟩, 3), (⟨"java/util/ArrayList", "fastRemove", "([Ljava/lang/Object;I)V"⟩, 3), (⟨"RateLimiterLaw$Tree", "isAhead", "(II)Z"⟩, 25)]
theorem lw_r1 : ∀ q ∈ lw_privs_1, lw_okq q := List.forall_mem_cons.mpr ⟨lw_p0, List.forall_mem_cons.mpr ⟨lw_p1, List.forall_mem_cons.mpr ⟨lw_p2, List.forall_mem_cons.mpr ⟨lw_p3, List.forall_mem_cons.mpr ⟨lw_p4, List.forall_mem_cons.mpr ⟨lw_p5, List.forall_mem_cons.mpr ⟨lw_p6, List.forall_mem_cons.mpr ⟨lw_p7, List.forall_mem_cons.mpr ⟨lw_p8, List.forall_mem_cons.mpr ⟨lw_p9, List.forall_mem_cons.mpr ⟨lw_p10, List.forall_mem_cons.mpr ⟨lw_p11, List.forall_mem_cons.mpr ⟨lw_p12, List.forall_mem_cons.mpr ⟨lw_p13, List.forall_mem_cons.mpr ⟨lw_p14, List.forall_mem_cons.mpr ⟨lw_p15, fun _ h => absurd h List.not_mem_nil⟩⟩⟩⟩⟩⟩⟩⟩⟩⟩⟩⟩⟩⟩⟩⟩
theorem lw_p16 : lw_okq (⟨"RateLimiter$Reader", "begin", "()V"⟩, 11) := ⟨⟨by decide +kernel, by decide +kernel⟩, List.mem_of_getElem? (i := 56) (by decide +kernel), List.mem_of_getElem? (i := 1199) (by decide +kernel), List.mem_of_getElem? (i := 1200) (by decide +kernel)⟩
theorem lw_p17 : lw_okq (⟨"RateLimiter$Scanner", "skipSpaces", "(LRateLimiter$Text;)V"⟩, 6) := ⟨⟨by decide +kernel, by decide +kernel⟩, List.mem_of_getElem? (i := 177) (by decide +kernel), List.mem_of_getElem? (i := 1215) (by decide +kernel), List.mem_of_getElem? (i := 1216) (by decide +kernel)⟩
theorem lw_p18 : lw_okq (⟨"RateLimiter$Scanner", "scanWord", "(LRateLimiter$Text;)V"⟩, 6) := ⟨⟨by decide +kernel, by decide +kernel⟩, List.mem_of_getElem? (i := 177) (by decide +kernel), List.mem_of_getElem? (i := 1226) (by decide +kernel), List.mem_of_getElem? (i := 1227) (by decide +kernel)⟩
theorem lw_p19 : lw_okq (⟨"RateLimiter$Scanner", "scanNumber", "(LRateLimiter$Text;)V"⟩, 6) := ⟨⟨by decide +kernel, by decide +kernel⟩, List.mem_of_getElem? (i := 177) (by decide +kernel), List.mem_of_getElem? (i := 1258) (by decide +kernel), List.mem_of_getElem? (i := 1259) (by decide +kernel)⟩
theorem lw_p20 : lw_okq (⟨"RateLimiter$Reader", "take", "()I"⟩, 11) := ⟨⟨by decide +kernel, by decide +kernel⟩, List.mem_of_getElem? (i := 56) (by decide +kernel), List.mem_of_getElem? (i := 1262) (by decide +kernel), List.mem_of_getElem? (i := 1263) (by decide +kernel)⟩
theorem lw_p21 : lw_okq (⟨"RateLimiter$Reader", "takeStatement", "()I"⟩, 11) := ⟨⟨by decide +kernel, by decide +kernel⟩, List.mem_of_getElem? (i := 56) (by decide +kernel), List.mem_of_getElem? (i := 1266) (by decide +kernel), List.mem_of_getElem? (i := 1267) (by decide +kernel)⟩
theorem lw_p22 : lw_okq (⟨"RateLimiter$Reader", "takeNodeName", "()I"⟩, 11) := ⟨⟨by decide +kernel, by decide +kernel⟩, List.mem_of_getElem? (i := 56) (by decide +kernel), List.mem_of_getElem? (i := 1270) (by decide +kernel), List.mem_of_getElem? (i := 1271) (by decide +kernel)⟩
theorem lw_p23 : lw_okq (⟨"RateLimiter$Reader", "isName", "()Z"⟩, 11) := ⟨⟨by decide +kernel, by decide +kernel⟩, List.mem_of_getElem? (i := 56) (by decide +kernel), List.mem_of_getElem? (i := 1274) (by decide +kernel), List.mem_of_getElem? (i := 1275) (by decide +kernel)⟩
theorem lw_p24 : lw_okq (⟨"RateLimiter$Reader", "addNode", "(I)V"⟩, 11) := ⟨⟨by decide +kernel, by decide +kernel⟩, List.mem_of_getElem? (i := 56) (by decide +kernel), List.mem_of_getElem? (i := 1282) (by decide +kernel), List.mem_of_getElem? (i := 1283) (by decide +kernel)⟩
theorem lw_p25 : lw_okq (⟨"RateLimiter$Reader", "takeIn", "()I"⟩, 11) := ⟨⟨by decide +kernel, by decide +kernel⟩, List.mem_of_getElem? (i := 56) (by decide +kernel), List.mem_of_getElem? (i := 1296) (by decide +kernel), List.mem_of_getElem? (i := 1297) (by decide +kernel)⟩
theorem lw_p26 : lw_okq (⟨"RateLimiter$Reader", "takeParentName", "()I"⟩, 11) := ⟨⟨by decide +kernel, by decide +kernel⟩, List.mem_of_getElem? (i := 56) (by decide +kernel), List.mem_of_getElem? (i := 1300) (by decide +kernel), List.mem_of_getElem? (i := 1301) (by decide +kernel)⟩
theorem lw_p27 : lw_okq (⟨"RateLimiter$Reader", "takeSetting", "()I"⟩, 11) := ⟨⟨by decide +kernel, by decide +kernel⟩, List.mem_of_getElem? (i := 56) (by decide +kernel), List.mem_of_getElem? (i := 1304) (by decide +kernel), List.mem_of_getElem? (i := 1305) (by decide +kernel)⟩
theorem lw_p28 : lw_okq (⟨"RateLimiter$Reader", "finishNode", "()V"⟩, 11) := ⟨⟨by decide +kernel, by decide +kernel⟩, List.mem_of_getElem? (i := 56) (by decide +kernel), List.mem_of_getElem? (i := 1308) (by decide +kernel), List.mem_of_getElem? (i := 1309) (by decide +kernel)⟩
theorem lw_p29 : lw_okq (⟨"RateLimiter$Reader", "takeSettingValue", "()I"⟩, 11) := ⟨⟨by decide +kernel, by decide +kernel⟩, List.mem_of_getElem? (i := 56) (by decide +kernel), List.mem_of_getElem? (i := 1313) (by decide +kernel), List.mem_of_getElem? (i := 1314) (by decide +kernel)⟩
theorem lw_p30 : lw_okq (⟨"RateLimiter$Reader", "numberFault", "(I)I"⟩, 11) := ⟨⟨by decide +kernel, by decide +kernel⟩, List.mem_of_getElem? (i := 56) (by decide +kernel), List.mem_of_getElem? (i := 1317) (by decide +kernel), List.mem_of_getElem? (i := 1318) (by decide +kernel)⟩
theorem lw_p31 : lw_okq (⟨"RateLimiter$Reader", "takeLimit", "()I"⟩, 11) := ⟨⟨by decide +kernel, by decide +kernel⟩, List.mem_of_getElem? (i := 56) (by decide +kernel), List.mem_of_getElem? (i := 1323) (by decide +kernel), List.mem_of_getElem? (i := 1324) (by decide +kernel)⟩
def lw_privs_2 : List (MethodName × Nat) := [(⟨"RateLimiter$Reader", "begin", "()V"⟩, 11), (⟨"RateLimiter$Scanner", "skipSpaces", "(LRateLimiter$Text;)V"⟩, 6), (⟨"RateLimiter$Scanner", "scanWord", "(LRateLimiter$Text;)V"⟩, 6), (⟨"RateLimiter$Scanner", "scanNumber", "(LRateLimiter$Text;)V"⟩, 6), (⟨"RateLimiter$Reader", "take", "()I"⟩, 11), (⟨"RateLimiter$Reader", "takeStatement", "()I"⟩, 11), (⟨"RateLimiter$Reader", "takeNodeName", "()I"⟩, 11), (⟨"RateLimiter$Reader", "isName", "()Z"⟩, 11), (⟨"RateLimiter$Reader", "addNode", "(I)V"⟩, 11), (⟨"RateLimiter$Reader", "takeIn", "()I"⟩, 11), (⟨"RateLimiter$Reader", "takeParentName", "()I"⟩, 11), (⟨"RateLimiter$Reader", "takeSetting", "()I"⟩, 11), (⟨"RateLimiter$Reader", "finishNode", "()V"⟩, 11), (⟨"RateLimiter$Reader", "takeSettingValue", "()I"⟩, 11), (⟨"RateLimiter$Reader", "numberFault", "(I)I"⟩, 11), (⟨"RateLimiter$Reader", "takeLimit", "()I"⟩, 11)]
theorem lw_r2 : ∀ q ∈ lw_privs_2, lw_okq q := List.forall_mem_cons.mpr ⟨lw_p16, List.forall_mem_cons.mpr ⟨lw_p17, List.forall_mem_cons.mpr ⟨lw_p18, List.forall_mem_cons.mpr ⟨lw_p19, List.forall_mem_cons.mpr ⟨lw_p20, List.forall_mem_cons.mpr ⟨lw_p21, List.forall_mem_cons.mpr ⟨lw_p22, List.forall_mem_cons.mpr ⟨lw_p23, List.forall_mem_cons.mpr ⟨lw_p24, List.forall_mem_cons.mpr ⟨lw_p25, List.forall_mem_cons.mpr ⟨lw_p26, List.forall_mem_cons.mpr ⟨lw_p27, List.forall_mem_cons.mpr ⟨lw_p28, List.forall_mem_cons.mpr ⟨lw_p29, List.forall_mem_cons.mpr ⟨lw_p30, List.forall_mem_cons.mpr ⟨lw_p31, fun _ h => absurd h List.not_mem_nil⟩⟩⟩⟩⟩⟩⟩⟩⟩⟩⟩⟩⟩⟩⟩⟩
theorem lw_p32 : lw_okq (⟨"RateLimiter$Reader", "numberFault", "(II)I"⟩, 11) := ⟨⟨by decide +kernel, by decide +kernel⟩, List.mem_of_getElem? (i := 56) (by decide +kernel), List.mem_of_getElem? (i := 1327) (by decide +kernel), List.mem_of_getElem? (i := 1328) (by decide +kernel)⟩
theorem lw_p33 : lw_okq (⟨"RateLimiter$Reader", "takeAge", "()I"⟩, 11) := ⟨⟨by decide +kernel, by decide +kernel⟩, List.mem_of_getElem? (i := 56) (by decide +kernel), List.mem_of_getElem? (i := 1331) (by decide +kernel), List.mem_of_getElem? (i := 1332) (by decide +kernel)⟩
theorem lw_p34 : lw_okq (⟨"RateLimiter$Reader", "takeChangeTime", "()I"⟩, 11) := ⟨⟨by decide +kernel, by decide +kernel⟩, List.mem_of_getElem? (i := 56) (by decide +kernel), List.mem_of_getElem? (i := 1335) (by decide +kernel), List.mem_of_getElem? (i := 1336) (by decide +kernel)⟩
theorem lw_p35 : lw_okq (⟨"RateLimiter$Reader", "takeChangeName", "()I"⟩, 11) := ⟨⟨by decide +kernel, by decide +kernel⟩, List.mem_of_getElem? (i := 56) (by decide +kernel), List.mem_of_getElem? (i := 1339) (by decide +kernel), List.mem_of_getElem? (i := 1340) (by decide +kernel)⟩
theorem lw_p36 : lw_okq (⟨"RateLimiter$Reader", "takeChangeSetting", "()I"⟩, 11) := ⟨⟨by decide +kernel, by decide +kernel⟩, List.mem_of_getElem? (i := 56) (by decide +kernel), List.mem_of_getElem? (i := 1343) (by decide +kernel), List.mem_of_getElem? (i := 1344) (by decide +kernel)⟩
theorem lw_p37 : lw_okq (⟨"RateLimiter$Reader", "takeChangeValue", "()I"⟩, 11) := ⟨⟨by decide +kernel, by decide +kernel⟩, List.mem_of_getElem? (i := 56) (by decide +kernel), List.mem_of_getElem? (i := 1347) (by decide +kernel), List.mem_of_getElem? (i := 1348) (by decide +kernel)⟩
theorem lw_p38 : lw_okq (⟨"RateLimiter$Reader", "takeStatementEnd", "()I"⟩, 11) := ⟨⟨by decide +kernel, by decide +kernel⟩, List.mem_of_getElem? (i := 56) (by decide +kernel), List.mem_of_getElem? (i := 1355) (by decide +kernel), List.mem_of_getElem? (i := 1356) (by decide +kernel)⟩
def lw_privs_3 : List (MethodName × Nat) := [(⟨"RateLimiter$Reader", "numberFault", "(II)I"⟩, 11), (⟨"RateLimiter$Reader", "takeAge", "()I"⟩, 11), (⟨"RateLimiter$Reader", "takeChangeTime", "()I"⟩, 11), (⟨"RateLimiter$Reader", "takeChangeName", "()I"⟩, 11), (⟨"RateLimiter$Reader", "takeChangeSetting", "()I"⟩, 11), (⟨"RateLimiter$Reader", "takeChangeValue", "()I"⟩, 11), (⟨"RateLimiter$Reader", "takeStatementEnd", "()I"⟩, 11)]
theorem lw_r3 : ∀ q ∈ lw_privs_3, lw_okq q := List.forall_mem_cons.mpr ⟨lw_p32, List.forall_mem_cons.mpr ⟨lw_p33, List.forall_mem_cons.mpr ⟨lw_p34, List.forall_mem_cons.mpr ⟨lw_p35, List.forall_mem_cons.mpr ⟨lw_p36, List.forall_mem_cons.mpr ⟨lw_p37, List.forall_mem_cons.mpr ⟨lw_p38, fun _ h => absurd h List.not_mem_nil⟩⟩⟩⟩⟩⟩⟩
def lw_privs : List (MethodName × Nat) := lw_privs_1 ++ (lw_privs_2 ++ (lw_privs_3))
def lw_tbl : List Cond := k2_sels lw_privs ++ tables_1
theorem lw_privs_ok : ∀ q ∈ lw_privs, lw_okq q := by
  show ∀ q ∈ lw_privs_1 ++ (lw_privs_2 ++ (lw_privs_3)), lw_okq q
  exact List.forall_mem_append.mpr ⟨lw_r1, List.forall_mem_append.mpr ⟨lw_r2, lw_r3⟩⟩
end
section
def RX0 : String := "RateLimiter$Accounts"
def TX0 : u_T := fun k => match k with
  | 0 => ("RateLimiter$Accounts", "tokens", "[I", true)
  | 1 => ("RateLimiter$Accounts", "credit", "[I", true)
  | _ => ("RateLimiter$Accounts", "headroom", "[I", true)
def tyX0 : Nat → FieldType := fun k => match k with
  | 0 => .array .int
  | 1 => .array .int
  | _ => .array .int
abbrev wsX00 : List Cond := u_ws RX0 TX0 3
theorem nmX0 : ∀ a, a < 3 → ∀ b, b < 3 → a ≠ b → (TX0 a).2.1 ≠ (TX0 b).2.1 := by decide +kernel
theorem tyX0_ok : ∀ k, k < 3 → parseFieldDescriptor (TX0 k).2.2.1 = some (tyX0 k) := by decide +kernel
abbrev cX0_init : ByteArray := prog_2_method_1_code
def yX0_init : MethodName := ⟨RX0, "<init>", "()V"⟩
abbrev cX0_begin : ByteArray := prog_2_method_2_code
def yX0_begin : MethodName := ⟨RX0, "begin", "(LRateLimiter$Setup;)V"⟩
abbrev cX0_copyFrom : ByteArray := prog_2_method_3_code
def yX0_copyFrom : MethodName := ⟨RX0, "copyFrom", "(LRateLimiter$Accounts;)V"⟩
abbrev cX0_refill : ByteArray := prog_2_method_4_code
def yX0_refill : MethodName := ⟨RX0, "refill", "(LRateLimiter$Setup;III)V"⟩
abbrev cX0_findBlocking : ByteArray := prog_2_method_5_code
def yX0_findBlocking : MethodName := ⟨RX0, "findBlocking", "(LRateLimiter$Setup;II)I"⟩
abbrev cX0_findLender : ByteArray := prog_2_method_6_code
def yX0_findLender : MethodName := ⟨RX0, "findLender", "(LRateLimiter$Setup;II)I"⟩
abbrev cX0_pay : ByteArray := prog_2_method_7_code
def yX0_pay : MethodName := ⟨RX0, "pay", "(LRateLimiter$Setup;III)V"⟩
abbrev cX0_payOften : ByteArray := prog_2_method_8_code
def yX0_payOften : MethodName := ⟨RX0, "payOften", "(LRateLimiter$Setup;II)I"⟩
def RX1 : String := "RateLimiter$Changes"
def TX1 : u_T := fun k => match k with
  | 0 => ("RateLimiter$Changes", "count", "I", false)
  | 1 => ("RateLimiter$Changes", "time", "[I", true)
  | 2 => ("RateLimiter$Changes", "node", "[I", true)
  | 3 => ("RateLimiter$Changes", "setting", "[I", true)
  | _ => ("RateLimiter$Changes", "value", "[I", true)
def tyX1 : Nat → FieldType := fun k => match k with
  | 0 => .int
  | 1 => .array .int
  | 2 => .array .int
  | 3 => .array .int
  | _ => .array .int
abbrev wsX10 : List Cond := u_ws RX1 TX1 5
theorem nmX1 : ∀ a, a < 5 → ∀ b, b < 5 → a ≠ b → (TX1 a).2.1 ≠ (TX1 b).2.1 := by decide +kernel
theorem tyX1_ok : ∀ k, k < 5 → parseFieldDescriptor (TX1 k).2.2.1 = some (tyX1 k) := by decide +kernel
abbrev cX1_init : ByteArray := prog_3_method_1_code
def yX1_init : MethodName := ⟨RX1, "<init>", "()V"⟩
abbrev cX1_add : ByteArray := prog_3_method_2_code
def yX1_add : MethodName := ⟨RX1, "add", "(IIII)V"⟩
def RX2 : String := "RateLimiter$Counts"
def TX2 : u_T := fun k => match k with
  | 0 => ("RateLimiter$Counts", "sentCost", "[I", true)
  | 1 => ("RateLimiter$Counts", "sentCount", "[I", true)
  | 2 => ("RateLimiter$Counts", "borrowedCost", "[I", true)
  | 3 => ("RateLimiter$Counts", "lentCost", "[I", true)
  | _ => ("RateLimiter$Counts", "droppedCount", "[I", true)
def tyX2 : Nat → FieldType := fun k => match k with
  | 0 => .array .int
  | 1 => .array .int
  | 2 => .array .int
  | 3 => .array .int
  | _ => .array .int
abbrev wsX20 : List Cond := u_ws RX2 TX2 5
theorem nmX2 : ∀ a, a < 5 → ∀ b, b < 5 → a ≠ b → (TX2 a).2.1 ≠ (TX2 b).2.1 := by decide +kernel
theorem tyX2_ok : ∀ k, k < 5 → parseFieldDescriptor (TX2 k).2.2.1 = some (tyX2 k) := by decide +kernel
abbrev cX2_init : ByteArray := prog_4_method_1_code
def yX2_init : MethodName := ⟨RX2, "<init>", "()V"⟩
abbrev cX2_begin : ByteArray := prog_4_method_2_code
def yX2_begin : MethodName := ⟨RX2, "begin", "()V"⟩
abbrev cX2_countSent : ByteArray := prog_4_method_4_code
def yX2_countSent : MethodName := ⟨RX2, "countSent", "(III)V"⟩
def RX3 : String := "RateLimiter$Log"
def TX3 : u_T := fun k => match k with
  | 0 => ("RateLimiter$Log", "count", "I", false)
  | 1 => ("RateLimiter$Log", "leaf", "[I", true)
  | 2 => ("RateLimiter$Log", "cost", "[I", true)
  | 3 => ("RateLimiter$Log", "lender", "[I", true)
  | _ => ("RateLimiter$Log", "time", "[I", true)
def tyX3 : Nat → FieldType := fun k => match k with
  | 0 => .int
  | 1 => .array .int
  | 2 => .array .int
  | 3 => .array .int
  | _ => .array .int
abbrev wsX30 : List Cond := u_ws RX3 TX3 5
theorem nmX3 : ∀ a, a < 5 → ∀ b, b < 5 → a ≠ b → (TX3 a).2.1 ≠ (TX3 b).2.1 := by decide +kernel
theorem tyX3_ok : ∀ k, k < 5 → parseFieldDescriptor (TX3 k).2.2.1 = some (tyX3 k) := by decide +kernel
abbrev cX3_init : ByteArray := prog_5_method_1_code
def yX3_init : MethodName := ⟨RX3, "<init>", "()V"⟩
abbrev cX3_add : ByteArray := prog_5_method_3_code
def yX3_add : MethodName := ⟨RX3, "add", "(IIII)V"⟩
abbrev cX3_putFirst : ByteArray := prog_5_method_4_code
def yX3_putFirst : MethodName := ⟨RX3, "putFirst", "([II)V"⟩
def RX4 : String := "RateLimiter$Queues"
def TX4 : u_T := fun k => match k with
  | 0 => ("RateLimiter$Queues", "length", "[I", true)
  | 1 => ("RateLimiter$Queues", "number", "[I", true)
  | 2 => ("RateLimiter$Queues", "cost", "[I", true)
  | 3 => ("RateLimiter$Queues", "since", "[I", true)
  | _ => ("RateLimiter$Queues", "nextNumber", "I", false)
def tyX4 : Nat → FieldType := fun k => match k with
  | 0 => .array .int
  | 1 => .array .int
  | 2 => .array .int
  | 3 => .array .int
  | _ => .int
abbrev wsX40 : List Cond := u_ws RX4 TX4 5
theorem nmX4 : ∀ a, a < 5 → ∀ b, b < 5 → a ≠ b → (TX4 a).2.1 ≠ (TX4 b).2.1 := by decide +kernel
theorem tyX4_ok : ∀ k, k < 5 → parseFieldDescriptor (TX4 k).2.2.1 = some (tyX4 k) := by decide +kernel
abbrev cX4_init : ByteArray := prog_6_method_1_code
def yX4_init : MethodName := ⟨RX4, "<init>", "()V"⟩
abbrev cX4_begin : ByteArray := prog_6_method_2_code
def yX4_begin : MethodName := ⟨RX4, "begin", "()V"⟩
abbrev cX4_removeFront : ByteArray := prog_6_method_6_code
def yX4_removeFront : MethodName := ⟨RX4, "removeFront", "(I)V"⟩
abbrev cX4_moveUp : ByteArray := prog_6_method_7_code
def yX4_moveUp : MethodName := ⟨RX4, "moveUp", "([II)V"⟩
def RX5 : String := "RateLimiter$Reader"
def TX5 : u_T := fun k => match k with
  | 0 => ("RateLimiter$Reader", "faultCode", "I", false)
  | 1 => ("RateLimiter$Reader", "faultPosition", "I", false)
  | 2 => ("RateLimiter$Reader", "draft", "LRateLimiter$Setup;", false)
  | 3 => ("RateLimiter$Reader", "token", "LRateLimiter$Scanner;", true)
  | 4 => ("RateLimiter$Reader", "expected", "I", false)
  | 5 => ("RateLimiter$Reader", "limitGiven", "Z", false)
  | 6 => ("RateLimiter$Reader", "nodeName", "J", false)
  | 7 => ("RateLimiter$Reader", "settingsGiven", "I", false)
  | 8 => ("RateLimiter$Reader", "setting", "I", false)
  | 9 => ("RateLimiter$Reader", "changeTime", "I", false)
  | _ => ("RateLimiter$Reader", "changeNode", "I", false)
def tyX5 : Nat → FieldType := fun k => match k with
  | 0 => .int
  | 1 => .int
  | 2 => .object "RateLimiter$Setup"
  | 3 => .object "RateLimiter$Scanner"
  | 4 => .int
  | 5 => .boolean
  | 6 => .long
  | 7 => .int
  | 8 => .int
  | 9 => .int
  | _ => .int
abbrev wsX50 : List Cond := u_ws RX5 TX5 11
theorem nmX5 : ∀ a, a < 11 → ∀ b, b < 11 → a ≠ b → (TX5 a).2.1 ≠ (TX5 b).2.1 := by decide +kernel
theorem tyX5_ok : ∀ k, k < 11 → parseFieldDescriptor (TX5 k).2.2.1 = some (tyX5 k) := by decide +kernel
abbrev cX5_init : ByteArray := prog_7_method_1_code
def yX5_init : MethodName := ⟨RX5, "<init>", "()V"⟩
abbrev cX5_read : ByteArray := prog_7_method_2_code
def yX5_read : MethodName := ⟨RX5, "read", "(LRateLimiter$Text;)V"⟩
abbrev cX5_begin : ByteArray := prog_7_method_3_code
def yX5_begin : MethodName := ⟨RX5, "begin", "()V"⟩
abbrev cX5_take : ByteArray := prog_7_method_4_code
def yX5_take : MethodName := ⟨RX5, "take", "()I"⟩
abbrev cX5_takeStatement : ByteArray := prog_7_method_5_code
def yX5_takeStatement : MethodName := ⟨RX5, "takeStatement", "()I"⟩
abbrev cX5_isName : ByteArray := prog_7_method_6_code
def yX5_isName : MethodName := ⟨RX5, "isName", "()Z"⟩
abbrev cX5_takeNodeName : ByteArray := prog_7_method_7_code
def yX5_takeNodeName : MethodName := ⟨RX5, "takeNodeName", "()I"⟩
abbrev cX5_takeIn : ByteArray := prog_7_method_8_code
def yX5_takeIn : MethodName := ⟨RX5, "takeIn", "()I"⟩
abbrev cX5_takeParentName : ByteArray := prog_7_method_9_code
def yX5_takeParentName : MethodName := ⟨RX5, "takeParentName", "()I"⟩
abbrev cX5_addNode : ByteArray := prog_7_method_10_code
def yX5_addNode : MethodName := ⟨RX5, "addNode", "(I)V"⟩
abbrev cX5_takeSetting : ByteArray := prog_7_method_11_code
def yX5_takeSetting : MethodName := ⟨RX5, "takeSetting", "()I"⟩
abbrev cX5_finishNode : ByteArray := prog_7_method_12_code
def yX5_finishNode : MethodName := ⟨RX5, "finishNode", "()V"⟩
abbrev cX5_takeSettingValue : ByteArray := prog_7_method_13_code
def yX5_takeSettingValue : MethodName := ⟨RX5, "takeSettingValue", "()I"⟩
abbrev cX5_numberFault : ByteArray := prog_7_method_14_code
def yX5_numberFault : MethodName := ⟨RX5, "numberFault", "(I)I"⟩
abbrev cX5_numberFault_ : ByteArray := prog_7_method_15_code
def yX5_numberFault_ : MethodName := ⟨RX5, "numberFault", "(II)I"⟩
abbrev cX5_takeLimit : ByteArray := prog_7_method_16_code
def yX5_takeLimit : MethodName := ⟨RX5, "takeLimit", "()I"⟩
abbrev cX5_takeAge : ByteArray := prog_7_method_17_code
def yX5_takeAge : MethodName := ⟨RX5, "takeAge", "()I"⟩
abbrev cX5_takeChangeTime : ByteArray := prog_7_method_18_code
def yX5_takeChangeTime : MethodName := ⟨RX5, "takeChangeTime", "()I"⟩
abbrev cX5_takeChangeName : ByteArray := prog_7_method_19_code
def yX5_takeChangeName : MethodName := ⟨RX5, "takeChangeName", "()I"⟩
abbrev cX5_takeChangeSetting : ByteArray := prog_7_method_20_code
def yX5_takeChangeSetting : MethodName := ⟨RX5, "takeChangeSetting", "()I"⟩
abbrev cX5_takeChangeValue : ByteArray := prog_7_method_21_code
def yX5_takeChangeValue : MethodName := ⟨RX5, "takeChangeValue", "()I"⟩
abbrev cX5_takeStatementEnd : ByteArray := prog_7_method_22_code
def yX5_takeStatementEnd : MethodName := ⟨RX5, "takeStatementEnd", "()I"⟩
def RX6 : String := "RateLimiter$Scanner"
def TX6 : u_T := fun k => match k with
  | 0 => ("RateLimiter$Scanner", "next", "I", false)
  | 1 => ("RateLimiter$Scanner", "kind", "I", false)
  | 2 => ("RateLimiter$Scanner", "start", "I", false)
  | 3 => ("RateLimiter$Scanner", "word", "J", false)
  | 4 => ("RateLimiter$Scanner", "keyword", "I", false)
  | _ => ("RateLimiter$Scanner", "number", "I", false)
def tyX6 : Nat → FieldType := fun k => match k with
  | 0 => .int
  | 1 => .int
  | 2 => .int
  | 3 => .long
  | 4 => .int
  | _ => .int
abbrev wsX60 : List Cond := u_ws RX6 TX6 6
theorem nmX6 : ∀ a, a < 6 → ∀ b, b < 6 → a ≠ b → (TX6 a).2.1 ≠ (TX6 b).2.1 := by decide +kernel
theorem tyX6_ok : ∀ k, k < 6 → parseFieldDescriptor (TX6 k).2.2.1 = some (tyX6 k) := by decide +kernel
abbrev cX6_init : ByteArray := prog_8_method_1_code
def yX6_init : MethodName := ⟨RX6, "<init>", "()V"⟩
abbrev cX6_begin : ByteArray := prog_8_method_2_code
def yX6_begin : MethodName := ⟨RX6, "begin", "()V"⟩
abbrev cX6_scan : ByteArray := prog_8_method_3_code
def yX6_scan : MethodName := ⟨RX6, "scan", "(LRateLimiter$Text;)V"⟩
abbrev cX6_skipSpaces : ByteArray := prog_8_method_4_code
def yX6_skipSpaces : MethodName := ⟨RX6, "skipSpaces", "(LRateLimiter$Text;)V"⟩
abbrev cX6_scanWord : ByteArray := prog_8_method_5_code
def yX6_scanWord : MethodName := ⟨RX6, "scanWord", "(LRateLimiter$Text;)V"⟩
abbrev cX6_scanNumber : ByteArray := prog_8_method_6_code
def yX6_scanNumber : MethodName := ⟨RX6, "scanNumber", "(LRateLimiter$Text;)V"⟩
abbrev cX6_isLetter : ByteArray := prog_8_method_7_code
def yX6_isLetter : MethodName := ⟨RX6, "isLetter", "(I)Z"⟩
abbrev cX6_isDigit : ByteArray := prog_8_method_8_code
def yX6_isDigit : MethodName := ⟨RX6, "isDigit", "(I)Z"⟩
def RX7 : String := "RateLimiter$Setup"
def TX7 : u_T := fun k => match k with
  | 0 => ("RateLimiter$Setup", "nodeCount", "I", false)
  | 1 => ("RateLimiter$Setup", "name", "[J", true)
  | 2 => ("RateLimiter$Setup", "parent", "[I", true)
  | 3 => ("RateLimiter$Setup", "depth", "[I", true)
  | 4 => ("RateLimiter$Setup", "childCount", "[I", true)
  | 5 => ("RateLimiter$Setup", "rate", "[I", true)
  | 6 => ("RateLimiter$Setup", "ceiling", "[I", true)
  | 7 => ("RateLimiter$Setup", "burst", "[I", true)
  | 8 => ("RateLimiter$Setup", "creditLimit", "[I", true)
  | 9 => ("RateLimiter$Setup", "weight", "[I", true)
  | 10 => ("RateLimiter$Setup", "priority", "[I", true)
  | 11 => ("RateLimiter$Setup", "alone", "[Z", true)
  | 12 => ("RateLimiter$Setup", "changes", "LRateLimiter$Changes;", true)
  | 13 => ("RateLimiter$Setup", "limit", "I", false)
  | _ => ("RateLimiter$Setup", "greatestAge", "I", false)
def tyX7 : Nat → FieldType := fun k => match k with
  | 0 => .int
  | 1 => .array .long
  | 2 => .array .int
  | 3 => .array .int
  | 4 => .array .int
  | 5 => .array .int
  | 6 => .array .int
  | 7 => .array .int
  | 8 => .array .int
  | 9 => .array .int
  | 10 => .array .int
  | 11 => .array .boolean
  | 12 => .object "RateLimiter$Changes"
  | 13 => .int
  | _ => .int
abbrev wsX70 : List Cond := u_ws RX7 TX7 15
theorem nmX7 : ∀ a, a < 15 → ∀ b, b < 15 → a ≠ b → (TX7 a).2.1 ≠ (TX7 b).2.1 := by decide +kernel
theorem tyX7_ok : ∀ k, k < 15 → parseFieldDescriptor (TX7 k).2.2.1 = some (tyX7 k) := by decide +kernel
abbrev cX7_init : ByteArray := prog_9_method_1_code
def yX7_init : MethodName := ⟨RX7, "<init>", "()V"⟩
abbrev cX7_clear : ByteArray := prog_9_method_2_code
def yX7_clear : MethodName := ⟨RX7, "clear", "()V"⟩
abbrev cX7_hasNode : ByteArray := prog_9_method_3_code
def yX7_hasNode : MethodName := ⟨RX7, "hasNode", "(I)Z"⟩
abbrev cX7_hasLeaf : ByteArray := prog_9_method_4_code
def yX7_hasLeaf : MethodName := ⟨RX7, "hasLeaf", "(I)Z"⟩
abbrev cX7_findNode : ByteArray := prog_9_method_5_code
def yX7_findNode : MethodName := ⟨RX7, "findNode", "(J)I"⟩
abbrev cX7_addNode : ByteArray := prog_9_method_6_code
def yX7_addNode : MethodName := ⟨RX7, "addNode", "(JI)V"⟩
abbrev cX7_row : ByteArray := prog_9_method_7_code
def yX7_row : MethodName := ⟨RX7, "row", "(I)[I"⟩
abbrev cX7_childOf : ByteArray := prog_9_method_8_code
def yX7_childOf : MethodName := ⟨RX7, "childOf", "(II)I"⟩
abbrev cX7_distance : ByteArray := prog_9_method_9_code
def yX7_distance : MethodName := ⟨RX7, "distance", "(II)I"⟩
def RX8 : String := "RateLimiter$State"
def TX8 : u_T := fun k => match k with
  | 0 => ("RateLimiter$State", "isStored", "Z", false)
  | 1 => ("RateLimiter$State", "time", "I", false)
  | 2 => ("RateLimiter$State", "rate", "[I", true)
  | 3 => ("RateLimiter$State", "ceiling", "[I", true)
  | 4 => ("RateLimiter$State", "weight", "[I", true)
  | 5 => ("RateLimiter$State", "accounts", "LRateLimiter$Accounts;", true)
  | 6 => ("RateLimiter$State", "queues", "LRateLimiter$Queues;", true)
  | 7 => ("RateLimiter$State", "counts", "LRateLimiter$Counts;", true)
  | _ => ("RateLimiter$State", "log", "LRateLimiter$Log;", true)
def tyX8 : Nat → FieldType := fun k => match k with
  | 0 => .boolean
  | 1 => .int
  | 2 => .array .int
  | 3 => .array .int
  | 4 => .array .int
  | 5 => .object "RateLimiter$Accounts"
  | 6 => .object "RateLimiter$Queues"
  | 7 => .object "RateLimiter$Counts"
  | _ => .object "RateLimiter$Log"
abbrev wsX80 : List Cond := u_ws RX8 TX8 9
theorem nmX8 : ∀ a, a < 9 → ∀ b, b < 9 → a ≠ b → (TX8 a).2.1 ≠ (TX8 b).2.1 := by decide +kernel
theorem tyX8_ok : ∀ k, k < 9 → parseFieldDescriptor (TX8 k).2.2.1 = some (tyX8 k) := by decide +kernel
abbrev cX8_init : ByteArray := prog_10_method_1_code
def yX8_init : MethodName := ⟨RX8, "<init>", "()V"⟩
abbrev cX8_begin : ByteArray := prog_10_method_2_code
def yX8_begin : MethodName := ⟨RX8, "begin", "(LRateLimiter$Setup;)V"⟩
abbrev cX8_row : ByteArray := prog_10_method_4_code
def yX8_row : MethodName := ⟨RX8, "row", "(I)[I"⟩
abbrev cX8_childrenRate : ByteArray := prog_10_method_5_code
def yX8_childrenRate : MethodName := ⟨RX8, "childrenRate", "(LRateLimiter$Setup;I)I"⟩
abbrev cX8_leastCeiling : ByteArray := prog_10_method_6_code
def yX8_leastCeiling : MethodName := ⟨RX8, "leastCeiling", "(LRateLimiter$Setup;I)I"⟩
abbrev cX8_send : ByteArray := prog_10_method_7_code
def yX8_send : MethodName := ⟨RX8, "send", "(LRateLimiter$Setup;III)V"⟩
abbrev cX8_ticksUntilLender : ByteArray := prog_10_method_9_code
def yX8_ticksUntilLender : MethodName := ⟨RX8, "ticksUntilLender", "(LRateLimiter$Setup;II)I"⟩
abbrev cX8_ticksUntil : ByteArray := prog_10_method_10_code
def yX8_ticksUntil : MethodName := ⟨RX8, "ticksUntil", "(IIII)I"⟩
abbrev cX8_makeTicks : ByteArray := prog_10_method_11_code
def yX8_makeTicks : MethodName := ⟨RX8, "makeTicks", "(LRateLimiter$Setup;I)I"⟩
abbrev cX8_makeTick : ByteArray := prog_10_method_12_code
def yX8_makeTick : MethodName := ⟨RX8, "makeTick", "(LRateLimiter$Setup;)I"⟩
abbrev cX8_makeChanges : ByteArray := prog_10_method_13_code
def yX8_makeChanges : MethodName := ⟨RX8, "makeChanges", "(LRateLimiter$Setup;)V"⟩
abbrev cX8_dropOld : ByteArray := prog_10_method_14_code
def yX8_dropOld : MethodName := ⟨RX8, "dropOld", "(LRateLimiter$Setup;)V"⟩
abbrev cX8_isFrontOld : ByteArray := prog_10_method_15_code
def yX8_isFrontOld : MethodName := ⟨RX8, "isFrontOld", "(II)Z"⟩
abbrev cX8_dispatch : ByteArray := prog_10_method_16_code
def yX8_dispatch : MethodName := ⟨RX8, "dispatch", "(LRateLimiter$Setup;)I"⟩
abbrev cX8_chooseLeaf : ByteArray := prog_10_method_17_code
def yX8_chooseLeaf : MethodName := ⟨RX8, "chooseLeaf", "(LRateLimiter$Setup;)I"⟩
abbrev cX8_frontDistance : ByteArray := prog_10_method_18_code
def yX8_frontDistance : MethodName := ⟨RX8, "frontDistance", "(LRateLimiter$Setup;I)I"⟩
abbrev cX8_precedes : ByteArray := prog_10_method_19_code
def yX8_precedes : MethodName := ⟨RX8, "precedes", "(LRateLimiter$Setup;II)Z"⟩
abbrev cX8_compareServed : ByteArray := prog_10_method_20_code
def yX8_compareServed : MethodName := ⟨RX8, "compareServed", "(II)I"⟩
def RX9 : String := "RateLimiter$Text"
def TX9 : u_T := fun k => match k with
  | 0 => ("RateLimiter$Text", "bytes", "[B", true)
  | _ => ("RateLimiter$Text", "length", "I", false)
def tyX9 : Nat → FieldType := fun k => match k with
  | 0 => .array .byte
  | _ => .int
abbrev wsX90 : List Cond := u_ws RX9 TX9 2
theorem nmX9 : ∀ a, a < 2 → ∀ b, b < 2 → a ≠ b → (TX9 a).2.1 ≠ (TX9 b).2.1 := by decide +kernel
theorem tyX9_ok : ∀ k, k < 2 → parseFieldDescriptor (TX9 k).2.2.1 = some (tyX9 k) := by decide +kernel
abbrev cX9_init : ByteArray := prog_11_method_1_code
def yX9_init : MethodName := ⟨RX9, "<init>", "()V"⟩
abbrev cX9_append : ByteArray := prog_11_method_2_code
def yX9_append : MethodName := ⟨RX9, "append", "(I)V"⟩
abbrev cX9_byteAt : ByteArray := prog_11_method_3_code
def yX9_byteAt : MethodName := ⟨RX9, "byteAt", "(I)I"⟩
def RX10 : String := "RateLimiter$Writer"
def TX10 : u_T := fun k => match k with
  | 0 => ("RateLimiter$Writer", "length", "I", false)
  | 1 => ("RateLimiter$Writer", "found", "I", false)
  | 2 => ("RateLimiter$Writer", "wanted", "I", false)
  | _ => ("RateLimiter$Writer", "needsSpace", "Z", false)
def tyX10 : Nat → FieldType := fun k => match k with
  | 0 => .int
  | 1 => .int
  | 2 => .int
  | _ => .boolean
abbrev wsX100 : List Cond := u_ws RX10 TX10 4
theorem nmX10 : ∀ a, a < 4 → ∀ b, b < 4 → a ≠ b → (TX10 a).2.1 ≠ (TX10 b).2.1 := by decide +kernel
theorem tyX10_ok : ∀ k, k < 4 → parseFieldDescriptor (TX10 k).2.2.1 = some (tyX10 k) := by decide +kernel
abbrev cX10_init : ByteArray := prog_12_method_1_code
def yX10_init : MethodName := ⟨RX10, "<init>", "()V"⟩
def RX11 : String := "RateLimiter"
def TX11 : u_T := fun k => match k with
  | 0 => ("RateLimiter", "text", "LRateLimiter$Text;", true)
  | 1 => ("RateLimiter", "reader", "LRateLimiter$Reader;", true)
  | 2 => ("RateLimiter", "writer", "LRateLimiter$Writer;", true)
  | 3 => ("RateLimiter", "setup", "LRateLimiter$Setup;", false)
  | 4 => ("RateLimiter", "state", "LRateLimiter$State;", true)
  | 5 => ("RateLimiter", "thought", "LRateLimiter$State;", true)
  | 6 => ("RateLimiter", "firstSnapshot", "LRateLimiter$State;", true)
  | _ => ("RateLimiter", "secondSnapshot", "LRateLimiter$State;", true)
def tyX11 : Nat → FieldType := fun k => match k with
  | 0 => .object "RateLimiter$Text"
  | 1 => .object "RateLimiter$Reader"
  | 2 => .object "RateLimiter$Writer"
  | 3 => .object "RateLimiter$Setup"
  | 4 => .object "RateLimiter$State"
  | 5 => .object "RateLimiter$State"
  | 6 => .object "RateLimiter$State"
  | _ => .object "RateLimiter$State"
abbrev wsX110 : List Cond := u_ws RX11 TX11 8
theorem nmX11 : ∀ a, a < 8 → ∀ b, b < 8 → a ≠ b → (TX11 a).2.1 ≠ (TX11 b).2.1 := by decide +kernel
theorem tyX11_ok : ∀ k, k < 8 → parseFieldDescriptor (TX11 k).2.2.1 = some (tyX11 k) := by decide +kernel
abbrev cX11_init : ByteArray := prog_1_method_1_code
def yX11_init : MethodName := ⟨RX11, "<init>", "()V"⟩
abbrev cX11_feed : ByteArray := prog_1_method_2_code
def yX11_feed : MethodName := ⟨RX11, "feed", "(IIIII)I"⟩
abbrev cX11_truncate : ByteArray := prog_1_method_3_code
def yX11_truncate : MethodName := ⟨RX11, "truncate", "(I)I"⟩
abbrev cX11_load : ByteArray := prog_1_method_4_code
def yX11_load : MethodName := ⟨RX11, "load", "()I"⟩
abbrev cX11_faultCode : ByteArray := prog_1_method_5_code
def yX11_faultCode : MethodName := ⟨RX11, "faultCode", "()I"⟩
abbrev cX11_faultPosition : ByteArray := prog_1_method_6_code
def yX11_faultPosition : MethodName := ⟨RX11, "faultPosition", "()I"⟩
abbrev cX11_nodeCount : ByteArray := prog_1_method_7_code
def yX11_nodeCount : MethodName := ⟨RX11, "nodeCount", "()I"⟩
abbrev cX11_nameLetter : ByteArray := prog_1_method_8_code
def yX11_nameLetter : MethodName := ⟨RX11, "nameLetter", "(II)I"⟩
abbrev cX11_parent : ByteArray := prog_1_method_9_code
def yX11_parent : MethodName := ⟨RX11, "parent", "(I)I"⟩
abbrev cX11_child : ByteArray := prog_1_method_10_code
def yX11_child : MethodName := ⟨RX11, "child", "(II)I"⟩
abbrev cX11_isLeaf : ByteArray := prog_1_method_11_code
def yX11_isLeaf : MethodName := ⟨RX11, "isLeaf", "(I)Z"⟩
abbrev cX11_depth : ByteArray := prog_1_method_12_code
def yX11_depth : MethodName := ⟨RX11, "depth", "(I)I"⟩
abbrev cX11_rate : ByteArray := prog_1_method_13_code
def yX11_rate : MethodName := ⟨RX11, "rate", "(I)I"⟩
abbrev cX11_ceiling : ByteArray := prog_1_method_14_code
def yX11_ceiling : MethodName := ⟨RX11, "ceiling", "(I)I"⟩
abbrev cX11_burst : ByteArray := prog_1_method_15_code
def yX11_burst : MethodName := ⟨RX11, "burst", "(I)I"⟩
abbrev cX11_creditLimit : ByteArray := prog_1_method_16_code
def yX11_creditLimit : MethodName := ⟨RX11, "creditLimit", "(I)I"⟩
abbrev cX11_weight : ByteArray := prog_1_method_17_code
def yX11_weight : MethodName := ⟨RX11, "weight", "(I)I"⟩
abbrev cX11_priority : ByteArray := prog_1_method_18_code
def yX11_priority : MethodName := ⟨RX11, "priority", "(I)I"⟩
abbrev cX11_mayBorrow : ByteArray := prog_1_method_19_code
def yX11_mayBorrow : MethodName := ⟨RX11, "mayBorrow", "(I)Z"⟩
abbrev cX11_isOversubscribed : ByteArray := prog_1_method_20_code
def yX11_isOversubscribed : MethodName := ⟨RX11, "isOversubscribed", "(I)Z"⟩
abbrev cX11_pathCeiling : ByteArray := prog_1_method_21_code
def yX11_pathCeiling : MethodName := ⟨RX11, "pathCeiling", "(I)I"⟩
abbrev cX11_time : ByteArray := prog_1_method_22_code
def yX11_time : MethodName := ⟨RX11, "time", "()I"⟩
abbrev cX11_tokens : ByteArray := prog_1_method_23_code
def yX11_tokens : MethodName := ⟨RX11, "tokens", "(I)I"⟩
abbrev cX11_credit : ByteArray := prog_1_method_24_code
def yX11_credit : MethodName := ⟨RX11, "credit", "(I)I"⟩
abbrev cX11_headroom : ByteArray := prog_1_method_25_code
def yX11_headroom : MethodName := ⟨RX11, "headroom", "(I)I"⟩
abbrev cX11_lender : ByteArray := prog_1_method_26_code
def yX11_lender : MethodName := ⟨RX11, "lender", "(II)I"⟩
abbrev cX11_greatestCost : ByteArray := prog_1_method_27_code
def yX11_greatestCost : MethodName := ⟨RX11, "greatestCost", "(I)I"⟩
abbrev cX11_acquire : ByteArray := prog_1_method_28_code
def yX11_acquire : MethodName := ⟨RX11, "acquire", "(II)I"⟩
abbrev cX11_waitTime : ByteArray := prog_1_method_30_code
def yX11_waitTime : MethodName := ⟨RX11, "waitTime", "(II)I"⟩
abbrev cX11_repeats : ByteArray := prog_1_method_31_code
def yX11_repeats : MethodName := ⟨RX11, "repeats", "(II)I"⟩
abbrev cX11_refusal : ByteArray := prog_1_method_32_code
def yX11_refusal : MethodName := ⟨RX11, "refusal", "(II)I"⟩
abbrev cX11_blockingNode : ByteArray := prog_1_method_33_code
def yX11_blockingNode : MethodName := ⟨RX11, "blockingNode", "(II)I"⟩
abbrev cX11_queueLength : ByteArray := prog_1_method_34_code
def yX11_queueLength : MethodName := ⟨RX11, "queueLength", "(I)I"⟩
abbrev cX11_nextLeaf : ByteArray := prog_1_method_35_code
def yX11_nextLeaf : MethodName := ⟨RX11, "nextLeaf", "()I"⟩
abbrev cX11_advance : ByteArray := prog_1_method_40_code
def yX11_advance : MethodName := ⟨RX11, "advance", "(I)I"⟩
abbrev cX11_sentCost : ByteArray := prog_1_method_43_code
def yX11_sentCost : MethodName := ⟨RX11, "sentCost", "(I)I"⟩
abbrev cX11_sentCount : ByteArray := prog_1_method_44_code
def yX11_sentCount : MethodName := ⟨RX11, "sentCount", "(I)I"⟩
abbrev cX11_borrowedCost : ByteArray := prog_1_method_45_code
def yX11_borrowedCost : MethodName := ⟨RX11, "borrowedCost", "(I)I"⟩
abbrev cX11_lentCost : ByteArray := prog_1_method_46_code
def yX11_lentCost : MethodName := ⟨RX11, "lentCost", "(I)I"⟩
abbrev cX11_droppedCount : ByteArray := prog_1_method_47_code
def yX11_droppedCount : MethodName := ⟨RX11, "droppedCount", "(I)I"⟩
abbrev cX11_fairness : ByteArray := prog_1_method_48_code
def yX11_fairness : MethodName := ⟨RX11, "fairness", "()I"⟩
abbrev cX11_mostServed : ByteArray := prog_1_method_50_code
def yX11_mostServed : MethodName := ⟨RX11, "mostServed", "()I"⟩
abbrev cX11_loggedLeaf : ByteArray := prog_1_method_53_code
def yX11_loggedLeaf : MethodName := ⟨RX11, "loggedLeaf", "(I)I"⟩
abbrev cX11_loggedCost : ByteArray := prog_1_method_54_code
def yX11_loggedCost : MethodName := ⟨RX11, "loggedCost", "(I)I"⟩
abbrev cX11_loggedLender : ByteArray := prog_1_method_55_code
def yX11_loggedLender : MethodName := ⟨RX11, "loggedLender", "(I)I"⟩
abbrev cX11_loggedTime : ByteArray := prog_1_method_56_code
def yX11_loggedTime : MethodName := ⟨RX11, "loggedTime", "(I)I"⟩
abbrev cX11_setRate : ByteArray := prog_1_method_60_code
def yX11_setRate : MethodName := ⟨RX11, "setRate", "(II)I"⟩
abbrev cX11_isRequest : ByteArray := prog_1_method_66_code
def yX11_isRequest : MethodName := ⟨RX11, "isRequest", "(II)Z"⟩
abbrev cX11_canAdvance : ByteArray := prog_1_method_67_code
def yX11_canAdvance : MethodName := ⟨RX11, "canAdvance", "(I)Z"⟩
abbrev cX11_logEntry : ByteArray := prog_1_method_69_code
def yX11_logEntry : MethodName := ⟨RX11, "logEntry", "(I)I"⟩
abbrev cX11_change : ByteArray := prog_1_method_70_code
def yX11_change : MethodName := ⟨RX11, "change", "(III)I"⟩
abbrev cX11_isInRange : ByteArray := prog_1_method_72_code
def yX11_isInRange : MethodName := ⟨RX11, "isInRange", "(II)Z"⟩
abbrev cX11_quotient : ByteArray := prog_1_method_73_code
def yX11_quotient : MethodName := ⟨RX11, "quotient", "(JJ)J"⟩
abbrev cX11_copyRow : ByteArray := prog_1_method_74_code
def yX11_copyRow : MethodName := ⟨RX11, "copyRow", "([I[I)V"⟩
abbrev cX11_clearRow : ByteArray := prog_1_method_75_code
def yX11_clearRow : MethodName := ⟨RX11, "clearRow", "([I)V"⟩
abbrev cX11_keywordText : ByteArray := prog_1_method_76_code
def yX11_keywordText : MethodName := ⟨RX11, "keywordText", "(I)Ljava/lang/String;"⟩
abbrev cX11_withLetter : ByteArray := prog_1_method_77_code
def yX11_withLetter : MethodName := ⟨RX11, "withLetter", "(JII)J"⟩
abbrev cX11_letterOf : ByteArray := prog_1_method_78_code
def yX11_letterOf : MethodName := ⟨RX11, "letterOf", "(JI)I"⟩
abbrev cX11_keywordOf : ByteArray := prog_1_method_79_code
def yX11_keywordOf : MethodName := ⟨RX11, "keywordOf", "(J)I"⟩
def RX12 : String := "RateLimiterLaw$Tree"
def TX12 : u_T := fun k => match k with
  | 0 => ("RateLimiterLaw$Tree", "n", "I", true)
  | 1 => ("RateLimiterLaw$Tree", "limit", "I", true)
  | 2 => ("RateLimiterLaw$Tree", "age", "I", true)
  | 3 => ("RateLimiterLaw$Tree", "parent", "[I", true)
  | 4 => ("RateLimiterLaw$Tree", "rate", "[I", true)
  | 5 => ("RateLimiterLaw$Tree", "ceiling", "[I", true)
  | 6 => ("RateLimiterLaw$Tree", "burst", "[I", true)
  | 7 => ("RateLimiterLaw$Tree", "credits", "[I", true)
  | 8 => ("RateLimiterLaw$Tree", "weight", "[I", true)
  | 9 => ("RateLimiterLaw$Tree", "priority", "[I", true)
  | 10 => ("RateLimiterLaw$Tree", "alone", "[Z", true)
  | 11 => ("RateLimiterLaw$Tree", "tokens", "[I", true)
  | 12 => ("RateLimiterLaw$Tree", "credit", "[I", true)
  | 13 => ("RateLimiterLaw$Tree", "head", "[I", true)
  | 14 => ("RateLimiterLaw$Tree", "sent", "[I", true)
  | 15 => ("RateLimiterLaw$Tree", "count", "[I", true)
  | 16 => ("RateLimiterLaw$Tree", "borrowed", "[I", true)
  | 17 => ("RateLimiterLaw$Tree", "lent", "[I", true)
  | 18 => ("RateLimiterLaw$Tree", "dropped", "[I", true)
  | 19 => ("RateLimiterLaw$Tree", "queues", "Ljava/util/ArrayList;", true)
  | 20 => ("RateLimiterLaw$Tree", "time", "I", false)
  | 21 => ("RateLimiterLaw$Tree", "next", "I", false)
  | 22 => ("RateLimiterLaw$Tree", "timed", "I", false)
  | 23 => ("RateLimiterLaw$Tree", "whose", "I", false)
  | _ => ("RateLimiterLaw$Tree", "becomes", "I", false)
def tyX12 : Nat → FieldType := fun k => match k with
  | 0 => .int
  | 1 => .int
  | 2 => .int
  | 3 => .array .int
  | 4 => .array .int
  | 5 => .array .int
  | 6 => .array .int
  | 7 => .array .int
  | 8 => .array .int
  | 9 => .array .int
  | 10 => .array .boolean
  | 11 => .array .int
  | 12 => .array .int
  | 13 => .array .int
  | 14 => .array .int
  | 15 => .array .int
  | 16 => .array .int
  | 17 => .array .int
  | 18 => .array .int
  | 19 => .object "java/util/ArrayList"
  | 20 => .int
  | 21 => .int
  | 22 => .int
  | 23 => .int
  | _ => .int
abbrev wsX120 : List Cond := u_ws RX12 TX12 25
theorem nmX12 : ∀ a, a < 25 → ∀ b, b < 25 → a ≠ b → (TX12 a).2.1 ≠ (TX12 b).2.1 := by decide +kernel
theorem tyX12_ok : ∀ k, k < 25 → parseFieldDescriptor (TX12 k).2.2.1 = some (tyX12 k) := by decide +kernel
abbrev cX12_init : ByteArray := prog_14_method_1_code
def yX12_init : MethodName := ⟨RX12, "<init>", "([I)V"⟩
abbrev cX12_isLeaf : ByteArray := prog_14_method_2_code
def yX12_isLeaf : MethodName := ⟨RX12, "isLeaf", "(I)Z"⟩
abbrev cX12_steps : ByteArray := prog_14_method_3_code
def yX12_steps : MethodName := ⟨RX12, "steps", "(II)I"⟩
abbrev cX12_lender : ByteArray := prog_14_method_4_code
def yX12_lender : MethodName := ⟨RX12, "lender", "(II)I"⟩
abbrev cX12_send : ByteArray := prog_14_method_5_code
def yX12_send : MethodName := ⟨RX12, "send", "(II)V"⟩
abbrev cX12_refill : ByteArray := prog_14_method_6_code
def yX12_refill : MethodName := ⟨RX12, "refill", "()V"⟩
abbrev cX12_first : ByteArray := prog_14_method_7_code
def yX12_first : MethodName := ⟨RX12, "first", "()I"⟩
abbrev cX12_isAhead : ByteArray := prog_14_method_8_code
def yX12_isAhead : MethodName := ⟨RX12, "isAhead", "(II)Z"⟩
abbrev cX12_tick : ByteArray := prog_14_method_9_code
def yX12_tick : MethodName := ⟨RX12, "tick", "()I"⟩
abbrev cX12_text : ByteArray := prog_14_method_11_code
def yX12_text : MethodName := ⟨RX12, "text", "()Ljava/lang/String;"⟩
abbrev cX12_anyLeaf : ByteArray := prog_14_method_12_code
def yX12_anyLeaf : MethodName := ⟨RX12, "anyLeaf", "([I)I"⟩
def RX13 : String := "RateLimiterModel"
def TX13 : u_T := fun k => match k with
  | _ => ("", "", "", false)
def tyX13 : Nat → FieldType := fun k => match k with
  | _ => .int
abbrev wsX130 : List Cond := u_ws RX13 TX13 0
theorem nmX13 : ∀ a, a < 0 → ∀ b, b < 0 → a ≠ b → (TX13 a).2.1 ≠ (TX13 b).2.1 := by decide +kernel
theorem tyX13_ok : ∀ k, k < 0 → parseFieldDescriptor (TX13 k).2.2.1 = some (tyX13 k) := by decide +kernel
def RJx145de : String := "java/io/Serializable"
def TJx145de : u_T := fun k => match k with
  | _ => ("", "", "", false)
def tyJx145de : Nat → FieldType := fun k => match k with
  | _ => .int
abbrev wsJx145de0 : List Cond := u_ws RJx145de TJx145de 0
theorem nmJx145de : ∀ a, a < 0 → ∀ b, b < 0 → a ≠ b → (TJx145de a).2.1 ≠ (TJx145de b).2.1 := by decide +kernel
theorem tyJx145de_ok : ∀ k, k < 0 → parseFieldDescriptor (TJx145de k).2.2.1 = some (tyJx145de k) := by decide +kernel
def RJ5 : String := "java/lang/AbstractStringBuilder"
def TJ5 : u_T := fun k => match k with
  | _ => ("", "", "", false)
def tyJ5 : Nat → FieldType := fun k => match k with
  | _ => .int
abbrev wsJ50 : List Cond := u_ws RJ5 TJ5 0
theorem nmJ5 : ∀ a, a < 0 → ∀ b, b < 0 → a ≠ b → (TJ5 a).2.1 ≠ (TJ5 b).2.1 := by decide +kernel
theorem tyJ5_ok : ∀ k, k < 0 → parseFieldDescriptor (TJ5 k).2.2.1 = some (tyJ5 k) := by decide +kernel
abbrev cJ5_init_d00df : ByteArray := prog_17_method_2_code
def yJ5_init_d00df : MethodName := ⟨RJ5, "<init>", "(I)V"⟩
abbrev cJ5_length_8abf5 : ByteArray := prog_17_method_6_code
def yJ5_length_8abf5 : MethodName := ⟨RJ5, "length", "()I"⟩
abbrev cJ5_ensureCapacityInternal_d00df : ByteArray := prog_17_method_9_code
def yJ5_ensureCapacityInternal_d00df : MethodName := ⟨RJ5, "ensureCapacityInternal", "(I)V"⟩
abbrev cJ5_newCapacity_0f7a4 : ByteArray := prog_17_method_10_code
def yJ5_newCapacity_0f7a4 : MethodName := ⟨RJ5, "newCapacity", "(I)I"⟩
abbrev cJ5_inflate_da8c8 : ByteArray := prog_17_method_11_code
def yJ5_inflate_da8c8 : MethodName := ⟨RJ5, "inflate", "()V"⟩
abbrev cJ5_append_cf1ce : ByteArray := prog_17_method_22_code
def yJ5_append_cf1ce : MethodName := ⟨RJ5, "append", "(Ljava/lang/String;)Ljava/lang/AbstractStringBuilder;"⟩
abbrev cJ5_appendNull_278bc : ByteArray := prog_17_method_26_code
def yJ5_appendNull_278bc : MethodName := ⟨RJ5, "appendNull", "()Ljava/lang/AbstractStringBuilder;"⟩
abbrev cJ5_append_3fe6f : ByteArray := prog_17_method_31_code
def yJ5_append_3fe6f : MethodName := ⟨RJ5, "append", "(C)Ljava/lang/AbstractStringBuilder;"⟩
abbrev cJ5_append_c97b9 : ByteArray := prog_17_method_32_code
def yJ5_append_c97b9 : MethodName := ⟨RJ5, "append", "(I)Ljava/lang/AbstractStringBuilder;"⟩
abbrev cJ5_getValue_6d5f1 : ByteArray := prog_17_method_64_code
def yJ5_getValue_6d5f1 : MethodName := ⟨RJ5, "getValue", "()[B"⟩
abbrev cJ5_isLatin1_aae02 : ByteArray := prog_17_method_68_code
def yJ5_isLatin1_aae02 : MethodName := ⟨RJ5, "isLatin1", "()Z"⟩
abbrev cJ5_inflateIfNeededFor_a7421 : ByteArray := prog_17_method_71_code
def yJ5_inflateIfNeededFor_a7421 : MethodName := ⟨RJ5, "inflateIfNeededFor", "(Ljava/lang/String;)V"⟩
abbrev cJ5_putStringAt_47b60 : ByteArray := prog_17_method_73_code
def yJ5_putStringAt_47b60 : MethodName := ⟨RJ5, "putStringAt", "(ILjava/lang/String;)V"⟩
def RJx2cfe8 : String := "java/lang/Appendable"
def TJx2cfe8 : u_T := fun k => match k with
  | _ => ("", "", "", false)
def tyJx2cfe8 : Nat → FieldType := fun k => match k with
  | _ => .int
abbrev wsJx2cfe80 : List Cond := u_ws RJx2cfe8 TJx2cfe8 0
theorem nmJx2cfe8 : ∀ a, a < 0 → ∀ b, b < 0 → a ≠ b → (TJx2cfe8 a).2.1 ≠ (TJx2cfe8 b).2.1 := by decide +kernel
theorem tyJx2cfe8_ok : ∀ k, k < 0 → parseFieldDescriptor (TJx2cfe8 k).2.2.1 = some (tyJx2cfe8 k) := by decide +kernel
def RJx9f9b0 : String := "java/lang/CharSequence"
def TJx9f9b0 : u_T := fun k => match k with
  | _ => ("", "", "", false)
def tyJx9f9b0 : Nat → FieldType := fun k => match k with
  | _ => .int
abbrev wsJx9f9b00 : List Cond := u_ws RJx9f9b0 TJx9f9b0 0
theorem nmJx9f9b0 : ∀ a, a < 0 → ∀ b, b < 0 → a ≠ b → (TJx9f9b0 a).2.1 ≠ (TJx9f9b0 b).2.1 := by decide +kernel
theorem tyJx9f9b0_ok : ∀ k, k < 0 → parseFieldDescriptor (TJx9f9b0 k).2.2.1 = some (tyJx9f9b0 k) := by decide +kernel
def RJx8e188 : String := "java/lang/Cloneable"
def TJx8e188 : u_T := fun k => match k with
  | _ => ("", "", "", false)
def tyJx8e188 : Nat → FieldType := fun k => match k with
  | _ => .int
abbrev wsJx8e1880 : List Cond := u_ws RJx8e188 TJx8e188 0
theorem nmJx8e188 : ∀ a, a < 0 → ∀ b, b < 0 → a ≠ b → (TJx8e188 a).2.1 ≠ (TJx8e188 b).2.1 := by decide +kernel
theorem tyJx8e188_ok : ∀ k, k < 0 → parseFieldDescriptor (TJx8e188 k).2.2.1 = some (tyJx8e188 k) := by decide +kernel
def RJxb160c : String := "java/lang/Comparable"
def TJxb160c : u_T := fun k => match k with
  | _ => ("", "", "", false)
def tyJxb160c : Nat → FieldType := fun k => match k with
  | _ => .int
abbrev wsJxb160c0 : List Cond := u_ws RJxb160c TJxb160c 0
theorem nmJxb160c : ∀ a, a < 0 → ∀ b, b < 0 → a ≠ b → (TJxb160c a).2.1 ≠ (TJxb160c b).2.1 := by decide +kernel
theorem tyJxb160c_ok : ∀ k, k < 0 → parseFieldDescriptor (TJxb160c k).2.2.1 = some (tyJxb160c k) := by decide +kernel
def RJ6 : String := "java/lang/Integer"
def TJ6 : u_T := fun k => match k with
  | _ => ("", "", "", false)
def tyJ6 : Nat → FieldType := fun k => match k with
  | _ => .int
abbrev wsJ60 : List Cond := u_ws RJ6 TJ6 0
theorem nmJ6 : ∀ a, a < 0 → ∀ b, b < 0 → a ≠ b → (TJ6 a).2.1 ≠ (TJ6 b).2.1 := by decide +kernel
theorem tyJ6_ok : ∀ k, k < 0 → parseFieldDescriptor (TJ6 k).2.2.1 = some (tyJ6 k) := by decide +kernel
abbrev cJ6_getChars_ba4f3 : ByteArray := prog_22_method_12_code
def yJ6_getChars_ba4f3 : MethodName := ⟨RJ6, "getChars", "(II[B)I"⟩
abbrev cJ6_stringSize_0f7a4 : ByteArray := prog_22_method_13_code
def yJ6_stringSize_0f7a4 : MethodName := ⟨RJ6, "stringSize", "(I)I"⟩
def RJxab1ab : String := "java/lang/Iterable"
def TJxab1ab : u_T := fun k => match k with
  | _ => ("", "", "", false)
def tyJxab1ab : Nat → FieldType := fun k => match k with
  | _ => .int
abbrev wsJxab1ab0 : List Cond := u_ws RJxab1ab TJxab1ab 0
theorem nmJxab1ab : ∀ a, a < 0 → ∀ b, b < 0 → a ≠ b → (TJxab1ab a).2.1 ≠ (TJxab1ab b).2.1 := by decide +kernel
theorem tyJxab1ab_ok : ∀ k, k < 0 → parseFieldDescriptor (TJxab1ab k).2.2.1 = some (tyJxab1ab k) := by decide +kernel
def RJ13 : String := "java/lang/Long"
def TJ13 : u_T := fun k => match k with
  | _ => ("", "", "", false)
def tyJ13 : Nat → FieldType := fun k => match k with
  | _ => .int
abbrev wsJ130 : List Cond := u_ws RJ13 TJ13 0
theorem nmJ13 : ∀ a, a < 0 → ∀ b, b < 0 → a ≠ b → (TJ13 a).2.1 ≠ (TJ13 b).2.1 := by decide +kernel
theorem tyJ13_ok : ∀ k, k < 0 → parseFieldDescriptor (TJ13 k).2.2.1 = some (tyJ13 k) := by decide +kernel
abbrev cJ13_compare_74951 : ByteArray := prog_24_method_42_code
def yJ13_compare_74951 : MethodName := ⟨RJ13, "compare", "(JJ)I"⟩
def RJ9 : String := "java/lang/Math"
def TJ9 : u_T := fun k => match k with
  | _ => ("", "", "", false)
def tyJ9 : Nat → FieldType := fun k => match k with
  | _ => .int
abbrev wsJ90 : List Cond := u_ws RJ9 TJ9 0
theorem nmJ9 : ∀ a, a < 0 → ∀ b, b < 0 → a ≠ b → (TJ9 a).2.1 ≠ (TJ9 b).2.1 := by decide +kernel
theorem tyJ9_ok : ∀ k, k < 0 → parseFieldDescriptor (TJ9 k).2.2.1 = some (tyJ9 k) := by decide +kernel
abbrev cJ9_max_7cf53 : ByteArray := prog_25_method_65_code
def yJ9_max_7cf53 : MethodName := ⟨RJ9, "max", "(II)I"⟩
abbrev cJ9_min_7cf53 : ByteArray := prog_25_method_69_code
def yJ9_min_7cf53 : MethodName := ⟨RJ9, "min", "(II)I"⟩
def RJxd2413 : String := "java/lang/Number"
def TJxd2413 : u_T := fun k => match k with
  | _ => ("", "", "", false)
def tyJxd2413 : Nat → FieldType := fun k => match k with
  | _ => .int
abbrev wsJxd24130 : List Cond := u_ws RJxd2413 TJxd2413 0
theorem nmJxd2413 : ∀ a, a < 0 → ∀ b, b < 0 → a ≠ b → (TJxd2413 a).2.1 ≠ (TJxd2413 b).2.1 := by decide +kernel
theorem tyJxd2413_ok : ∀ k, k < 0 → parseFieldDescriptor (TJxd2413 k).2.2.1 = some (tyJxd2413 k) := by decide +kernel
def RJ0 : String := "java/lang/String"
def TJ0 : u_T := fun k => match k with
  | 0 => ("java/lang/String", "value", "[B", true)
  | 1 => ("java/lang/String", "coder", "B", true)
  | 2 => ("java/lang/String", "hash", "I", false)
  | _ => ("java/lang/String", "hashIsZero", "Z", false)
def tyJ0 : Nat → FieldType := fun k => match k with
  | 0 => .array .byte
  | 1 => .byte
  | 2 => .int
  | _ => .boolean
abbrev wsJ00 : List Cond := u_ws RJ0 TJ0 4
theorem nmJ0 : ∀ a, a < 4 → ∀ b, b < 4 → a ≠ b → (TJ0 a).2.1 ≠ (TJ0 b).2.1 := by decide +kernel
theorem tyJ0_ok : ∀ k, k < 4 → parseFieldDescriptor (TJ0 k).2.2.1 = some (tyJ0 k) := by decide +kernel
abbrev cJ0_init_81219 : ByteArray := prog_27_method_53_code
def yJ0_init_81219 : MethodName := ⟨RJ0, "<init>", "(Ljava/lang/StringBuilder;)V"⟩
abbrev cJ0_length_8abf5 : ByteArray := prog_27_method_54_code
def yJ0_length_8abf5 : MethodName := ⟨RJ0, "length", "()I"⟩
abbrev cJ0_charAt_5068e : ByteArray := prog_27_method_56_code
def yJ0_charAt_5068e : MethodName := ⟨RJ0, "charAt", "(I)C"⟩
abbrev cJ0_getBytes_840e7 : ByteArray := prog_27_method_147_code
def yJ0_getBytes_840e7 : MethodName := ⟨RJ0, "getBytes", "([BIB)V"⟩
abbrev cJ0_init_db425 : ByteArray := prog_27_method_150_code
def yJ0_init_db425 : MethodName := ⟨RJ0, "<init>", "(Ljava/lang/AbstractStringBuilder;Ljava/lang/Void;)V"⟩
abbrev cJ0_coder_7d493 : ByteArray := prog_27_method_152_code
def yJ0_coder_7d493 : MethodName := ⟨RJ0, "coder", "()B"⟩
abbrev cJ0_isLatin1_aae02 : ByteArray := prog_27_method_154_code
def yJ0_isLatin1_aae02 : MethodName := ⟨RJ0, "isLatin1", "()Z"⟩
abbrev cJ0_checkIndex_df160 : ByteArray := prog_27_method_155_code
def yJ0_checkIndex_df160 : MethodName := ⟨RJ0, "checkIndex", "(II)V"⟩
abbrev cJ0_checkBoundsOffCount_cabcc : ByteArray := prog_27_method_157_code
def yJ0_checkBoundsOffCount_cabcc : MethodName := ⟨RJ0, "checkBoundsOffCount", "(III)I"⟩
abbrev cJ0_checkBoundsBeginEnd_23922 : ByteArray := prog_27_method_158_code
def yJ0_checkBoundsBeginEnd_23922 : MethodName := ⟨RJ0, "checkBoundsBeginEnd", "(III)V"⟩
def RJ4 : String := "java/lang/StringBuilder"
def TJ4 : u_T := fun k => match k with
  | 0 => ("java/lang/AbstractStringBuilder", "value", "[B", false)
  | 1 => ("java/lang/AbstractStringBuilder", "coder", "B", false)
  | 2 => ("java/lang/AbstractStringBuilder", "maybeLatin1", "Z", false)
  | _ => ("java/lang/AbstractStringBuilder", "count", "I", false)
def tyJ4 : Nat → FieldType := fun k => match k with
  | 0 => .array .byte
  | 1 => .byte
  | 2 => .boolean
  | _ => .int
abbrev wsJ40 : List Cond := u_ws RJ4 TJ4 4
theorem nmJ4 : ∀ a, a < 4 → ∀ b, b < 4 → a ≠ b → (TJ4 a).2.1 ≠ (TJ4 b).2.1 := by decide +kernel
theorem tyJ4_ok : ∀ k, k < 4 → parseFieldDescriptor (TJ4 k).2.2.1 = some (tyJ4 k) := by decide +kernel
abbrev cJ4_init_da8c8 : ByteArray := prog_28_method_1_code
def yJ4_init_da8c8 : MethodName := ⟨RJ4, "<init>", "()V"⟩
abbrev cJ4_append_15ec4 : ByteArray := prog_28_method_7_code
def yJ4_append_15ec4 : MethodName := ⟨RJ4, "append", "(Ljava/lang/String;)Ljava/lang/StringBuilder;"⟩
abbrev cJ4_append_cf468 : ByteArray := prog_28_method_14_code
def yJ4_append_cf468 : MethodName := ⟨RJ4, "append", "(C)Ljava/lang/StringBuilder;"⟩
abbrev cJ4_append_bf812 : ByteArray := prog_28_method_15_code
def yJ4_append_bf812 : MethodName := ⟨RJ4, "append", "(I)Ljava/lang/StringBuilder;"⟩
abbrev cJ4_toString_0e30d : ByteArray := prog_28_method_42_code
def yJ4_toString_0e30d : MethodName := ⟨RJ4, "toString", "()Ljava/lang/String;"⟩
abbrev cJ4_length_8abf5 : ByteArray := prog_28_method_93_code
def yJ4_length_8abf5 : MethodName := ⟨RJ4, "length", "()I"⟩
def RJ1 : String := "java/lang/StringLatin1"
def TJ1 : u_T := fun k => match k with
  | _ => ("", "", "", false)
def tyJ1 : Nat → FieldType := fun k => match k with
  | _ => .int
abbrev wsJ10 : List Cond := u_ws RJ1 TJ1 0
theorem nmJ1 : ∀ a, a < 0 → ∀ b, b < 0 → a ≠ b → (TJ1 a).2.1 ≠ (TJ1 b).2.1 := by decide +kernel
theorem tyJ1_ok : ∀ k, k < 0 → parseFieldDescriptor (TJ1 k).2.2.1 = some (tyJ1 k) := by decide +kernel
abbrev cJ1_charAt_3b067 : ByteArray := prog_29_method_2_code
def yJ1_charAt_3b067 : MethodName := ⟨RJ1, "charAt", "([BI)C"⟩
abbrev cJ1_canEncode_fc78d : ByteArray := prog_29_method_3_code
def yJ1_canEncode_fc78d : MethodName := ⟨RJ1, "canEncode", "(C)Z"⟩
abbrev cJ1_inflate_0e8fd : ByteArray := prog_29_method_50_code
def yJ1_inflate_0e8fd : MethodName := ⟨RJ1, "inflate", "([BI[BII)V"⟩
def RJ2 : String := "java/lang/StringUTF16"
def TJ2 : u_T := fun k => match k with
  | _ => ("", "", "", false)
def tyJ2 : Nat → FieldType := fun k => match k with
  | _ => .int
abbrev wsJ20 : List Cond := u_ws RJ2 TJ2 0
theorem nmJ2 : ∀ a, a < 0 → ∀ b, b < 0 → a ≠ b → (TJ2 a).2.1 ≠ (TJ2 b).2.1 := by decide +kernel
theorem tyJ2_ok : ∀ k, k < 0 → parseFieldDescriptor (TJ2 k).2.2.1 = some (tyJ2 k) := by decide +kernel
abbrev cJ2_newBytesFor_77867 : ByteArray := prog_30_method_2_code
def yJ2_newBytesFor_77867 : MethodName := ⟨RJ2, "newBytesFor", "(I)[B"⟩
abbrev cJ2_newBytesLength_0f7a4 : ByteArray := prog_30_method_3_code
def yJ2_newBytesLength_0f7a4 : MethodName := ⟨RJ2, "newBytesLength", "(I)I"⟩
abbrev cJ2_putChar_b72d1 : ByteArray := prog_30_method_4_code
def yJ2_putChar_b72d1 : MethodName := ⟨RJ2, "putChar", "([BII)V"⟩
abbrev cJ2_getChar_3b067 : ByteArray := prog_30_method_5_code
def yJ2_getChar_3b067 : MethodName := ⟨RJ2, "getChar", "([BI)C"⟩
abbrev cJ2_length_9d52b : ByteArray := prog_30_method_6_code
def yJ2_length_9d52b : MethodName := ⟨RJ2, "length", "([B)I"⟩
abbrev cJ2_coderFromArrayLen_85cad : ByteArray := prog_30_method_15_code
def yJ2_coderFromArrayLen_85cad : MethodName := ⟨RJ2, "coderFromArrayLen", "([BI)B"⟩
abbrev cJ2_compress_39247 : ByteArray := prog_30_method_17_code
def yJ2_compress_39247 : MethodName := ⟨RJ2, "compress", "([BII)[B"⟩
abbrev cJ2_compress_5af95 : ByteArray := prog_30_method_22_code
def yJ2_compress_5af95 : MethodName := ⟨RJ2, "compress", "([BI[BII)I"⟩
abbrev cJ2_putCharSB_b72d1 : ByteArray := prog_30_method_71_code
def yJ2_putCharSB_b72d1 : MethodName := ⟨RJ2, "putCharSB", "([BII)V"⟩
abbrev cJ2_getChars_46870 : ByteArray := prog_30_method_77_code
def yJ2_getChars_46870 : MethodName := ⟨RJ2, "getChars", "(III[B)I"⟩
abbrev cJ2_putCharsAt_cd4e5 : ByteArray := prog_30_method_81_code
def yJ2_putCharsAt_cd4e5 : MethodName := ⟨RJ2, "putCharsAt", "([BICCCC)I"⟩
abbrev cJ2_charAt_3b067 : ByteArray := prog_30_method_83_code
def yJ2_charAt_3b067 : MethodName := ⟨RJ2, "charAt", "([BI)C"⟩
abbrev cJ2_inflate_0e8fd : ByteArray := prog_30_method_86_code
def yJ2_inflate_0e8fd : MethodName := ⟨RJ2, "inflate", "([BI[BII)V"⟩
abbrev cJ2_getChars_ba4f3 : ByteArray := prog_30_method_89_code
def yJ2_getChars_ba4f3 : MethodName := ⟨RJ2, "getChars", "(II[B)I"⟩
abbrev cJ2_checkIndex_2214a : ByteArray := prog_30_method_91_code
def yJ2_checkIndex_2214a : MethodName := ⟨RJ2, "checkIndex", "(I[B)V"⟩
abbrev cJ2_checkBoundsBeginEnd_d044e : ByteArray := prog_30_method_93_code
def yJ2_checkBoundsBeginEnd_d044e : MethodName := ⟨RJ2, "checkBoundsBeginEnd", "(II[B)V"⟩
abbrev cJ2_checkBoundsOffCount_d044e : ByteArray := prog_30_method_94_code
def yJ2_checkBoundsOffCount_d044e : MethodName := ⟨RJ2, "checkBoundsOffCount", "(II[B)V"⟩
def RJ10 : String := "java/lang/System"
def TJ10 : u_T := fun k => match k with
  | _ => ("", "", "", false)
def tyJ10 : Nat → FieldType := fun k => match k with
  | _ => .int
abbrev wsJ100 : List Cond := u_ws RJ10 TJ10 0
theorem nmJ10 : ∀ a, a < 0 → ∀ b, b < 0 → a ≠ b → (TJ10 a).2.1 ≠ (TJ10 b).2.1 := by decide +kernel
theorem tyJ10_ok : ∀ k, k < 0 → parseFieldDescriptor (TJ10 k).2.2.1 = some (tyJ10 k) := by decide +kernel
def RJxfd54e : String := "java/lang/constant/Constable"
def TJxfd54e : u_T := fun k => match k with
  | _ => ("", "", "", false)
def tyJxfd54e : Nat → FieldType := fun k => match k with
  | _ => .int
abbrev wsJxfd54e0 : List Cond := u_ws RJxfd54e TJxfd54e 0
theorem nmJxfd54e : ∀ a, a < 0 → ∀ b, b < 0 → a ≠ b → (TJxfd54e a).2.1 ≠ (TJxfd54e b).2.1 := by decide +kernel
theorem tyJxfd54e_ok : ∀ k, k < 0 → parseFieldDescriptor (TJxfd54e k).2.2.1 = some (tyJxfd54e k) := by decide +kernel
def RJx3cf43 : String := "java/lang/constant/ConstantDesc"
def TJx3cf43 : u_T := fun k => match k with
  | _ => ("", "", "", false)
def tyJx3cf43 : Nat → FieldType := fun k => match k with
  | _ => .int
abbrev wsJx3cf430 : List Cond := u_ws RJx3cf43 TJx3cf43 0
theorem nmJx3cf43 : ∀ a, a < 0 → ∀ b, b < 0 → a ≠ b → (TJx3cf43 a).2.1 ≠ (TJx3cf43 b).2.1 := by decide +kernel
theorem tyJx3cf43_ok : ∀ k, k < 0 → parseFieldDescriptor (TJx3cf43 k).2.2.1 = some (tyJx3cf43 k) := by decide +kernel
def RJxa1e45 : String := "java/util/AbstractCollection"
def TJxa1e45 : u_T := fun k => match k with
  | _ => ("", "", "", false)
def tyJxa1e45 : Nat → FieldType := fun k => match k with
  | _ => .int
abbrev wsJxa1e450 : List Cond := u_ws RJxa1e45 TJxa1e45 0
theorem nmJxa1e45 : ∀ a, a < 0 → ∀ b, b < 0 → a ≠ b → (TJxa1e45 a).2.1 ≠ (TJxa1e45 b).2.1 := by decide +kernel
theorem tyJxa1e45_ok : ∀ k, k < 0 → parseFieldDescriptor (TJxa1e45 k).2.2.1 = some (tyJxa1e45 k) := by decide +kernel
abbrev cJxa1e45_init_da8c8 : ByteArray := prog_34_method_1_code
def yJxa1e45_init_da8c8 : MethodName := ⟨RJxa1e45, "<init>", "()V"⟩
def RJxc12de : String := "java/util/AbstractList"
def TJxc12de : u_T := fun k => match k with
  | _ => ("", "", "", false)
def tyJxc12de : Nat → FieldType := fun k => match k with
  | _ => .int
abbrev wsJxc12de0 : List Cond := u_ws RJxc12de TJxc12de 0
theorem nmJxc12de : ∀ a, a < 0 → ∀ b, b < 0 → a ≠ b → (TJxc12de a).2.1 ≠ (TJxc12de b).2.1 := by decide +kernel
theorem tyJxc12de_ok : ∀ k, k < 0 → parseFieldDescriptor (TJxc12de k).2.2.1 = some (tyJxc12de k) := by decide +kernel
abbrev cJxc12de_init_da8c8 : ByteArray := prog_35_method_1_code
def yJxc12de_init_da8c8 : MethodName := ⟨RJxc12de, "<init>", "()V"⟩
def RJx4a65c : String := "java/util/ArrayList"
def TJx4a65c : u_T := fun k => match k with
  | 0 => ("java/util/AbstractList", "modCount", "I", false)
  | 1 => ("java/util/ArrayList", "elementData", "[Ljava/lang/Object;", false)
  | _ => ("java/util/ArrayList", "size", "I", false)
def tyJx4a65c : Nat → FieldType := fun k => match k with
  | 0 => .int
  | 1 => .array (.object "java/lang/Object")
  | _ => .int
abbrev wsJx4a65c0 : List Cond := u_ws RJx4a65c TJx4a65c 3
theorem nmJx4a65c : ∀ a, a < 3 → ∀ b, b < 3 → a ≠ b → (TJx4a65c a).2.1 ≠ (TJx4a65c b).2.1 := by decide +kernel
theorem tyJx4a65c_ok : ∀ k, k < 3 → parseFieldDescriptor (TJx4a65c k).2.2.1 = some (tyJx4a65c k) := by decide +kernel
abbrev cJx4a65c_init_da8c8 : ByteArray := prog_36_method_2_code
def yJx4a65c_init_da8c8 : MethodName := ⟨RJx4a65c, "<init>", "()V"⟩
abbrev cJx4a65c_grow_92f84 : ByteArray := prog_36_method_6_code
def yJx4a65c_grow_92f84 : MethodName := ⟨RJx4a65c, "grow", "(I)[Ljava/lang/Object;"⟩
abbrev cJx4a65c_grow_d5877 : ByteArray := prog_36_method_7_code
def yJx4a65c_grow_d5877 : MethodName := ⟨RJx4a65c, "grow", "()[Ljava/lang/Object;"⟩
abbrev cJx4a65c_size_8abf5 : ByteArray := prog_36_method_8_code
def yJx4a65c_size_8abf5 : MethodName := ⟨RJx4a65c, "size", "()I"⟩
abbrev cJx4a65c_isEmpty_aae02 : ByteArray := prog_36_method_9_code
def yJx4a65c_isEmpty_aae02 : MethodName := ⟨RJx4a65c, "isEmpty", "()Z"⟩
abbrev cJx4a65c_elementData_915e3 : ByteArray := prog_36_method_18_code
def yJx4a65c_elementData_915e3 : MethodName := ⟨RJx4a65c, "elementData", "(I)Ljava/lang/Object;"⟩
abbrev cJx4a65c_get_915e3 : ByteArray := prog_36_method_20_code
def yJx4a65c_get_915e3 : MethodName := ⟨RJx4a65c, "get", "(I)Ljava/lang/Object;"⟩
abbrev cJx4a65c_add_72be8 : ByteArray := prog_36_method_24_code
def yJx4a65c_add_72be8 : MethodName := ⟨RJx4a65c, "add", "(Ljava/lang/Object;[Ljava/lang/Object;I)V"⟩
abbrev cJx4a65c_add_9ea2d : ByteArray := prog_36_method_25_code
def yJx4a65c_add_9ea2d : MethodName := ⟨RJx4a65c, "add", "(Ljava/lang/Object;)Z"⟩
abbrev cJx4a65c_remove_915e3 : ByteArray := prog_36_method_29_code
def yJx4a65c_remove_915e3 : MethodName := ⟨RJx4a65c, "remove", "(I)Ljava/lang/Object;"⟩
abbrev cJx4a65c_fastRemove_b59b0 : ByteArray := prog_36_method_39_code
def yJx4a65c_fastRemove_b59b0 : MethodName := ⟨RJx4a65c, "fastRemove", "([Ljava/lang/Object;I)V"⟩
def RJ7 : String := "java/util/Arrays"
def TJ7 : u_T := fun k => match k with
  | _ => ("", "", "", false)
def tyJ7 : Nat → FieldType := fun k => match k with
  | _ => .int
abbrev wsJ70 : List Cond := u_ws RJ7 TJ7 0
theorem nmJ7 : ∀ a, a < 0 → ∀ b, b < 0 → a ≠ b → (TJ7 a).2.1 ≠ (TJ7 b).2.1 := by decide +kernel
theorem tyJ7_ok : ∀ k, k < 0 → parseFieldDescriptor (TJ7 k).2.2.1 = some (tyJ7 k) := by decide +kernel
abbrev cJ7_copyOf_1904c : ByteArray := prog_37_method_119_code
def yJ7_copyOf_1904c : MethodName := ⟨RJ7, "copyOf", "([Ljava/lang/Object;I)[Ljava/lang/Object;"⟩
abbrev cJ7_copyOf_6403c : ByteArray := prog_37_method_120_code
def yJ7_copyOf_6403c : MethodName := ⟨RJ7, "copyOf", "([Ljava/lang/Object;ILjava/lang/Class;)[Ljava/lang/Object;"⟩
abbrev cJ7_copyOf_9075b : ByteArray := prog_37_method_121_code
def yJ7_copyOf_9075b : MethodName := ⟨RJ7, "copyOf", "([BI)[B"⟩
abbrev cJ7_checkLength_df160 : ByteArray := prog_37_method_131_code
def yJ7_checkLength_df160 : MethodName := ⟨RJ7, "checkLength", "(II)V"⟩
abbrev cJ7_copyOfRange_39247 : ByteArray := prog_37_method_132_code
def yJ7_copyOfRange_39247 : MethodName := ⟨RJ7, "copyOfRange", "([BII)[B"⟩
abbrev cJ7_copyOfRangeByte_39247 : ByteArray := prog_37_method_133_code
def yJ7_copyOfRangeByte_39247 : MethodName := ⟨RJ7, "copyOfRangeByte", "([BII)[B"⟩
def RJx5ef63 : String := "java/util/Collection"
def TJx5ef63 : u_T := fun k => match k with
  | _ => ("", "", "", false)
def tyJx5ef63 : Nat → FieldType := fun k => match k with
  | _ => .int
abbrev wsJx5ef630 : List Cond := u_ws RJx5ef63 TJx5ef63 0
theorem nmJx5ef63 : ∀ a, a < 0 → ∀ b, b < 0 → a ≠ b → (TJx5ef63 a).2.1 ≠ (TJx5ef63 b).2.1 := by decide +kernel
theorem tyJx5ef63_ok : ∀ k, k < 0 → parseFieldDescriptor (TJx5ef63 k).2.2.1 = some (tyJx5ef63 k) := by decide +kernel
def RJxbd725 : String := "java/util/List"
def TJxbd725 : u_T := fun k => match k with
  | _ => ("", "", "", false)
def tyJxbd725 : Nat → FieldType := fun k => match k with
  | _ => .int
abbrev wsJxbd7250 : List Cond := u_ws RJxbd725 TJxbd725 0
theorem nmJxbd725 : ∀ a, a < 0 → ∀ b, b < 0 → a ≠ b → (TJxbd725 a).2.1 ≠ (TJxbd725 b).2.1 := by decide +kernel
theorem tyJxbd725_ok : ∀ k, k < 0 → parseFieldDescriptor (TJxbd725 k).2.2.1 = some (tyJxbd725 k) := by decide +kernel
def RJ15 : String := "java/util/Objects"
def TJ15 : u_T := fun k => match k with
  | _ => ("", "", "", false)
def tyJ15 : Nat → FieldType := fun k => match k with
  | _ => .int
abbrev wsJ150 : List Cond := u_ws RJ15 TJ15 0
theorem nmJ15 : ∀ a, a < 0 → ∀ b, b < 0 → a ≠ b → (TJ15 a).2.1 ≠ (TJ15 b).2.1 := by decide +kernel
theorem tyJ15_ok : ∀ k, k < 0 → parseFieldDescriptor (TJ15 k).2.2.1 = some (tyJ15 k) := by decide +kernel
abbrev cJ15_checkIndex_7cf53 : ByteArray := prog_40_method_17_code
def yJ15_checkIndex_7cf53 : MethodName := ⟨RJ15, "checkIndex", "(II)I"⟩
def RJxf0a74 : String := "java/util/RandomAccess"
def TJxf0a74 : u_T := fun k => match k with
  | _ => ("", "", "", false)
def tyJxf0a74 : Nat → FieldType := fun k => match k with
  | _ => .int
abbrev wsJxf0a740 : List Cond := u_ws RJxf0a74 TJxf0a74 0
theorem nmJxf0a74 : ∀ a, a < 0 → ∀ b, b < 0 → a ≠ b → (TJxf0a74 a).2.1 ≠ (TJxf0a74 b).2.1 := by decide +kernel
theorem tyJxf0a74_ok : ∀ k, k < 0 → parseFieldDescriptor (TJxf0a74 k).2.2.1 = some (tyJxf0a74 k) := by decide +kernel
def RJxa66e6 : String := "java/util/SequencedCollection"
def TJxa66e6 : u_T := fun k => match k with
  | _ => ("", "", "", false)
def tyJxa66e6 : Nat → FieldType := fun k => match k with
  | _ => .int
abbrev wsJxa66e60 : List Cond := u_ws RJxa66e6 TJxa66e6 0
theorem nmJxa66e6 : ∀ a, a < 0 → ∀ b, b < 0 → a ≠ b → (TJxa66e6 a).2.1 ≠ (TJxa66e6 b).2.1 := by decide +kernel
theorem tyJxa66e6_ok : ∀ k, k < 0 → parseFieldDescriptor (TJxa66e6 k).2.2.1 = some (tyJxa66e6 k) := by decide +kernel
def RJ8 : String := "jdk/internal/util/ArraysSupport"
def TJ8 : u_T := fun k => match k with
  | _ => ("", "", "", false)
def tyJ8 : Nat → FieldType := fun k => match k with
  | _ => .int
abbrev wsJ80 : List Cond := u_ws RJ8 TJ8 0
theorem nmJ8 : ∀ a, a < 0 → ∀ b, b < 0 → a ≠ b → (TJ8 a).2.1 ≠ (TJ8 b).2.1 := by decide +kernel
theorem tyJ8_ok : ∀ k, k < 0 → parseFieldDescriptor (TJ8 k).2.2.1 = some (tyJ8 k) := by decide +kernel
abbrev cJ8_newLength_cabcc : ByteArray := prog_43_method_27_code
def yJ8_newLength_cabcc : MethodName := ⟨RJ8, "newLength", "(III)I"⟩
abbrev cJ8_hugeLength_7cf53 : ByteArray := prog_43_method_28_code
def yJ8_hugeLength_7cf53 : MethodName := ⟨RJ8, "hugeLength", "(II)I"⟩
def RJ3 : String := "jdk/internal/util/Preconditions"
def TJ3 : u_T := fun k => match k with
  | _ => ("", "", "", false)
def tyJ3 : Nat → FieldType := fun k => match k with
  | _ => .int
abbrev wsJ30 : List Cond := u_ws RJ3 TJ3 0
theorem nmJ3 : ∀ a, a < 0 → ∀ b, b < 0 → a ≠ b → (TJ3 a).2.1 ≠ (TJ3 b).2.1 := by decide +kernel
theorem tyJ3_ok : ∀ k, k < 0 → parseFieldDescriptor (TJ3 k).2.2.1 = some (tyJ3 k) := by decide +kernel
abbrev cJ3_checkIndex_8e157 : ByteArray := prog_44_method_11_code
def yJ3_checkIndex_8e157 : MethodName := ⟨RJ3, "checkIndex", "(IILjava/util/function/BiFunction;)I"⟩
abbrev cJ3_checkFromToIndex_8c36e : ByteArray := prog_44_method_12_code
def yJ3_checkFromToIndex_8c36e : MethodName := ⟨RJ3, "checkFromToIndex", "(IIILjava/util/function/BiFunction;)I"⟩
abbrev cJ3_checkFromIndexSize_8c36e : ByteArray := prog_44_method_13_code
def yJ3_checkFromIndexSize_8c36e : MethodName := ⟨RJ3, "checkFromIndexSize", "(IIILjava/util/function/BiFunction;)I"⟩
def RL : String := "RateLimiterLaw"
abbrev cL_cell : ByteArray := method_2_code
def yL_cell : MethodName := ⟨RL, "cell", "([II)I"⟩
abbrev cL_mixed : ByteArray := method_3_code
def yL_mixed : MethodName := ⟨RL, "mixed", "(I)I"⟩
abbrev cL_draw : ByteArray := method_4_code
def yL_draw : MethodName := ⟨RL, "draw", "([II)I"⟩
abbrev cL_fill : ByteArray := method_5_code
def yL_fill : MethodName := ⟨RL, "fill", "(LRateLimiter;Ljava/lang/String;)Z"⟩
abbrev cL_stands : ByteArray := method_6_code
def yL_stands : MethodName := ⟨RL, "stands", "(LRateLimiter;LRateLimiterLaw$Tree;)Z"⟩
abbrev cL_same : ByteArray := method_7_code
def yL_same : MethodName := ⟨RL, "same", "(LRateLimiter;LRateLimiterLaw$Tree;)Z"⟩
abbrev cL_law : ByteArray := code
def yL_law : MethodName := ⟨RL, "law", "([I)Z"⟩
abbrev cL_tree : ByteArray := method_9_code
def yL_tree : MethodName := ⟨RL, "tree", "(LRateLimiter;LRateLimiterLaw$Tree;)Z"⟩
abbrev cL_asked : ByteArray := method_10_code
def yL_asked : MethodName := ⟨RL, "asked", "(LRateLimiter;LRateLimiterLaw$Tree;II)Z"⟩
abbrev cL_back : ByteArray := method_11_code
def yL_back : MethodName := ⟨RL, "back", "(LRateLimiterLaw$Tree;[[I)V"⟩
abbrev vwCl : List vw_C := [(RX0, TX0, 3), (RX1, TX1, 5), (RX2, TX2, 5), (RX3, TX3, 5), (RX4, TX4, 5), (RX5, TX5, 11), (RX6, TX6, 6), (RX7, TX7, 15), (RX8, TX8, 9), (RX9, TX9, 2), (RX10, TX10, 4), (RX11, TX11, 8), (RX12, TX12, 25), (RJ0, TJ0, 4), (RJ4, TJ4, 4), (RJx4a65c, TJx4a65c, 3)]
end
section
theorem dX0_init_0 : decode cX0_init 0 = .ok (.aload_n 0, 1) := by decide +kernel
theorem dX0_init_1 : decode cX0_init 1 = .ok (.invokespecial 3, 3) := by decide +kernel
theorem dX0_init_4 : decode cX0_init 4 = .ok (.aload_n 0, 1) := by decide +kernel
theorem dX0_init_5 : decode cX0_init 5 = .ok (.bipush 12, 2) := by decide +kernel
theorem dX0_init_7 : decode cX0_init 7 = .ok (.newarray .int, 2) := by decide +kernel
theorem dX0_init_9 : decode cX0_init 9 = .ok (.putfield 9, 3) := by decide +kernel
theorem dX0_init_12 : decode cX0_init 12 = .ok (.aload_n 0, 1) := by decide +kernel
theorem dX0_init_13 : decode cX0_init 13 = .ok (.bipush 12, 2) := by decide +kernel
theorem dX0_init_15 : decode cX0_init 15 = .ok (.newarray .int, 2) := by decide +kernel
theorem dX0_init_17 : decode cX0_init 17 = .ok (.putfield 15, 3) := by decide +kernel
theorem dX0_init_20 : decode cX0_init 20 = .ok (.aload_n 0, 1) := by decide +kernel
theorem dX0_init_21 : decode cX0_init 21 = .ok (.bipush 12, 2) := by decide +kernel
theorem dX0_init_23 : decode cX0_init 23 = .ok (.newarray .int, 2) := by decide +kernel
theorem dX0_init_25 : decode cX0_init 25 = .ok (.putfield 18, 3) := by decide +kernel
theorem dX0_init_28 : decode cX0_init 28 = .ok (.return_, 1) := by decide +kernel
theorem dX0_begin_0 : decode cX0_begin 0 = .ok (.aload_n 1, 1) := by decide +kernel
theorem dX0_begin_1 : decode cX0_begin 1 = .ok (.getfield 21, 3) := by decide +kernel
theorem dX0_begin_4 : decode cX0_begin 4 = .ok (.aload_n 0, 1) := by decide +kernel
theorem dX0_begin_5 : decode cX0_begin 5 = .ok (.getfield 9, 3) := by decide +kernel
theorem dX0_begin_8 : decode cX0_begin 8 = .ok (.invokestatic 26, 3) := by decide +kernel
theorem dX0_begin_11 : decode cX0_begin 11 = .ok (.aload_n 1, 1) := by decide +kernel
theorem dX0_begin_12 : decode cX0_begin 12 = .ok (.getfield 21, 3) := by decide +kernel
theorem dX0_begin_15 : decode cX0_begin 15 = .ok (.aload_n 0, 1) := by decide +kernel
theorem dX0_begin_16 : decode cX0_begin 16 = .ok (.getfield 18, 3) := by decide +kernel
theorem dX0_begin_19 : decode cX0_begin 19 = .ok (.invokestatic 26, 3) := by decide +kernel
theorem dX0_begin_22 : decode cX0_begin 22 = .ok (.aload_n 0, 1) := by decide +kernel
theorem dX0_begin_23 : decode cX0_begin 23 = .ok (.getfield 15, 3) := by decide +kernel
theorem dX0_begin_26 : decode cX0_begin 26 = .ok (.invokestatic 30, 3) := by decide +kernel
theorem dX0_begin_29 : decode cX0_begin 29 = .ok (.return_, 1) := by decide +kernel
theorem dX0_copyFrom_0 : decode cX0_copyFrom 0 = .ok (.aload_n 1, 1) := by decide +kernel
theorem dX0_copyFrom_1 : decode cX0_copyFrom 1 = .ok (.getfield 9, 3) := by decide +kernel
theorem dX0_copyFrom_4 : decode cX0_copyFrom 4 = .ok (.aload_n 0, 1) := by decide +kernel
theorem dX0_copyFrom_5 : decode cX0_copyFrom 5 = .ok (.getfield 9, 3) := by decide +kernel
theorem dX0_copyFrom_8 : decode cX0_copyFrom 8 = .ok (.invokestatic 26, 3) := by decide +kernel
theorem dX0_copyFrom_11 : decode cX0_copyFrom 11 = .ok (.aload_n 1, 1) := by decide +kernel
theorem dX0_copyFrom_12 : decode cX0_copyFrom 12 = .ok (.getfield 15, 3) := by decide +kernel
theorem dX0_copyFrom_15 : decode cX0_copyFrom 15 = .ok (.aload_n 0, 1) := by decide +kernel
theorem dX0_copyFrom_16 : decode cX0_copyFrom 16 = .ok (.getfield 15, 3) := by decide +kernel
theorem dX0_copyFrom_19 : decode cX0_copyFrom 19 = .ok (.invokestatic 26, 3) := by decide +kernel
theorem dX0_copyFrom_22 : decode cX0_copyFrom 22 = .ok (.aload_n 1, 1) := by decide +kernel
theorem dX0_copyFrom_23 : decode cX0_copyFrom 23 = .ok (.getfield 18, 3) := by decide +kernel
theorem dX0_copyFrom_26 : decode cX0_copyFrom 26 = .ok (.aload_n 0, 1) := by decide +kernel
theorem dX0_copyFrom_27 : decode cX0_copyFrom 27 = .ok (.getfield 18, 3) := by decide +kernel
theorem dX0_copyFrom_30 : decode cX0_copyFrom 30 = .ok (.invokestatic 26, 3) := by decide +kernel
theorem dX0_copyFrom_33 : decode cX0_copyFrom 33 = .ok (.return_, 1) := by decide +kernel
theorem dX0_refill_0 : decode cX0_refill 0 = .ok (.aload_n 0, 1) := by decide +kernel
theorem dX0_refill_1 : decode cX0_refill 1 = .ok (.getfield 9, 3) := by decide +kernel
theorem dX0_refill_4 : decode cX0_refill 4 = .ok (.iload_n 2, 1) := by decide +kernel
theorem dX0_refill_5 : decode cX0_refill 5 = .ok (.iaload, 1) := by decide +kernel
theorem dX0_refill_6 : decode cX0_refill 6 = .ok (.iload_n 3, 1) := by decide +kernel
theorem dX0_refill_7 : decode cX0_refill 7 = .ok (.iadd, 1) := by decide +kernel
theorem dX0_refill_8 : decode cX0_refill 8 = .ok (.istore 5, 2) := by decide +kernel
theorem dX0_refill_10 : decode cX0_refill 10 = .ok (.iconst 0, 1) := by decide +kernel
theorem dX0_refill_11 : decode cX0_refill 11 = .ok (.iload 5, 2) := by decide +kernel
theorem dX0_refill_13 : decode cX0_refill 13 = .ok (.aload_n 1, 1) := by decide +kernel
theorem dX0_refill_14 : decode cX0_refill 14 = .ok (.getfield 21, 3) := by decide +kernel
theorem dX0_refill_17 : decode cX0_refill 17 = .ok (.iload_n 2, 1) := by decide +kernel
theorem dX0_refill_18 : decode cX0_refill 18 = .ok (.iaload, 1) := by decide +kernel
theorem dX0_refill_19 : decode cX0_refill 19 = .ok (.isub, 1) := by decide +kernel
theorem dX0_refill_20 : decode cX0_refill 20 = .ok (.invokestatic 34, 3) := by decide +kernel
theorem dX0_refill_23 : decode cX0_refill 23 = .ok (.istore 6, 2) := by decide +kernel
theorem dX0_refill_25 : decode cX0_refill 25 = .ok (.aload_n 0, 1) := by decide +kernel
theorem dX0_refill_26 : decode cX0_refill 26 = .ok (.getfield 9, 3) := by decide +kernel
theorem dX0_refill_29 : decode cX0_refill 29 = .ok (.iload_n 2, 1) := by decide +kernel
theorem dX0_refill_30 : decode cX0_refill 30 = .ok (.iload 5, 2) := by decide +kernel
theorem dX0_refill_32 : decode cX0_refill 32 = .ok (.iload 6, 2) := by decide +kernel
theorem dX0_refill_34 : decode cX0_refill 34 = .ok (.isub, 1) := by decide +kernel
theorem dX0_refill_35 : decode cX0_refill 35 = .ok (.iastore, 1) := by decide +kernel
theorem dX0_refill_36 : decode cX0_refill 36 = .ok (.aload_n 0, 1) := by decide +kernel
theorem dX0_refill_37 : decode cX0_refill 37 = .ok (.getfield 15, 3) := by decide +kernel
theorem dX0_refill_40 : decode cX0_refill 40 = .ok (.iload_n 2, 1) := by decide +kernel
theorem dX0_refill_41 : decode cX0_refill 41 = .ok (.aload_n 1, 1) := by decide +kernel
theorem dX0_refill_42 : decode cX0_refill 42 = .ok (.getfield 40, 3) := by decide +kernel
theorem dX0_refill_45 : decode cX0_refill 45 = .ok (.iload_n 2, 1) := by decide +kernel
theorem dX0_refill_46 : decode cX0_refill 46 = .ok (.iaload, 1) := by decide +kernel
theorem dX0_refill_47 : decode cX0_refill 47 = .ok (.aload_n 0, 1) := by decide +kernel
theorem dX0_refill_48 : decode cX0_refill 48 = .ok (.getfield 15, 3) := by decide +kernel
theorem dX0_refill_51 : decode cX0_refill 51 = .ok (.iload_n 2, 1) := by decide +kernel
theorem dX0_refill_52 : decode cX0_refill 52 = .ok (.iaload, 1) := by decide +kernel
theorem dX0_refill_53 : decode cX0_refill 53 = .ok (.iload 6, 2) := by decide +kernel
theorem dX0_refill_55 : decode cX0_refill 55 = .ok (.iadd, 1) := by decide +kernel
theorem dX0_refill_56 : decode cX0_refill 56 = .ok (.invokestatic 43, 3) := by decide +kernel
theorem dX0_refill_59 : decode cX0_refill 59 = .ok (.iastore, 1) := by decide +kernel
theorem dX0_refill_60 : decode cX0_refill 60 = .ok (.aload_n 0, 1) := by decide +kernel
theorem dX0_refill_61 : decode cX0_refill 61 = .ok (.getfield 18, 3) := by decide +kernel
theorem dX0_refill_64 : decode cX0_refill 64 = .ok (.iload_n 2, 1) := by decide +kernel
theorem dX0_refill_65 : decode cX0_refill 65 = .ok (.aload_n 1, 1) := by decide +kernel
theorem dX0_refill_66 : decode cX0_refill 66 = .ok (.getfield 21, 3) := by decide +kernel
theorem dX0_refill_69 : decode cX0_refill 69 = .ok (.iload_n 2, 1) := by decide +kernel
theorem dX0_refill_70 : decode cX0_refill 70 = .ok (.iaload, 1) := by decide +kernel
theorem dX0_refill_71 : decode cX0_refill 71 = .ok (.aload_n 0, 1) := by decide +kernel
theorem dX0_refill_72 : decode cX0_refill 72 = .ok (.getfield 18, 3) := by decide +kernel
theorem dX0_refill_75 : decode cX0_refill 75 = .ok (.iload_n 2, 1) := by decide +kernel
theorem dX0_refill_76 : decode cX0_refill 76 = .ok (.iaload, 1) := by decide +kernel
theorem dX0_refill_77 : decode cX0_refill 77 = .ok (.iload 4, 2) := by decide +kernel
theorem dX0_refill_79 : decode cX0_refill 79 = .ok (.iadd, 1) := by decide +kernel
theorem dX0_refill_80 : decode cX0_refill 80 = .ok (.invokestatic 43, 3) := by decide +kernel
theorem dX0_refill_83 : decode cX0_refill 83 = .ok (.iastore, 1) := by decide +kernel
theorem dX0_refill_84 : decode cX0_refill 84 = .ok (.return_, 1) := by decide +kernel
theorem dX0_findBlocking_0 : decode cX0_findBlocking 0 = .ok (.iload_n 2, 1) := by decide +kernel
theorem dX0_findBlocking_1 : decode cX0_findBlocking 1 = .ok (.istore 4, 2) := by decide +kernel
theorem dX0_findBlocking_3 : decode cX0_findBlocking 3 = .ok (.iconst 0, 1) := by decide +kernel
theorem dX0_findBlocking_4 : decode cX0_findBlocking 4 = .ok (.istore 5, 2) := by decide +kernel
theorem dX0_findBlocking_6 : decode cX0_findBlocking 6 = .ok (.iload 5, 2) := by decide +kernel
theorem dX0_findBlocking_8 : decode cX0_findBlocking 8 = .ok (.bipush 12, 2) := by decide +kernel
theorem dX0_findBlocking_10 : decode cX0_findBlocking 10 = .ok (.if_icmp .ge 41, 3) := by decide +kernel
theorem dX0_findBlocking_13 : decode cX0_findBlocking 13 = .ok (.aload_n 1, 1) := by decide +kernel
theorem dX0_findBlocking_14 : decode cX0_findBlocking 14 = .ok (.iload 4, 2) := by decide +kernel
theorem dX0_findBlocking_16 : decode cX0_findBlocking 16 = .ok (.invokevirtual 46, 3) := by decide +kernel
theorem dX0_findBlocking_19 : decode cX0_findBlocking 19 = .ok (.ifCond .eq 32, 3) := by decide +kernel
theorem dX0_findBlocking_22 : decode cX0_findBlocking 22 = .ok (.aload_n 0, 1) := by decide +kernel
theorem dX0_findBlocking_23 : decode cX0_findBlocking 23 = .ok (.getfield 18, 3) := by decide +kernel
theorem dX0_findBlocking_26 : decode cX0_findBlocking 26 = .ok (.iload 4, 2) := by decide +kernel
theorem dX0_findBlocking_28 : decode cX0_findBlocking 28 = .ok (.iaload, 1) := by decide +kernel
theorem dX0_findBlocking_29 : decode cX0_findBlocking 29 = .ok (.iload_n 3, 1) := by decide +kernel
theorem dX0_findBlocking_30 : decode cX0_findBlocking 30 = .ok (.if_icmp .ge 6, 3) := by decide +kernel
theorem dX0_findBlocking_33 : decode cX0_findBlocking 33 = .ok (.iload 4, 2) := by decide +kernel
theorem dX0_findBlocking_35 : decode cX0_findBlocking 35 = .ok (.ireturn, 1) := by decide +kernel
theorem dX0_findBlocking_36 : decode cX0_findBlocking 36 = .ok (.aload_n 1, 1) := by decide +kernel
theorem dX0_findBlocking_37 : decode cX0_findBlocking 37 = .ok (.getfield 50, 3) := by decide +kernel
theorem dX0_findBlocking_40 : decode cX0_findBlocking 40 = .ok (.iload 4, 2) := by decide +kernel
theorem dX0_findBlocking_42 : decode cX0_findBlocking 42 = .ok (.iaload, 1) := by decide +kernel
theorem dX0_findBlocking_43 : decode cX0_findBlocking 43 = .ok (.istore 4, 2) := by decide +kernel
theorem dX0_findBlocking_45 : decode cX0_findBlocking 45 = .ok (.iinc 5 1, 3) := by decide +kernel
theorem dX0_findBlocking_48 : decode cX0_findBlocking 48 = .ok (.goto (-42), 3) := by decide +kernel
theorem dX0_findBlocking_51 : decode cX0_findBlocking 51 = .ok (.bipush (-2), 2) := by decide +kernel
theorem dX0_findBlocking_53 : decode cX0_findBlocking 53 = .ok (.ireturn, 1) := by decide +kernel
theorem dX0_findLender_0 : decode cX0_findLender 0 = .ok (.bipush (-2), 2) := by decide +kernel
theorem dX0_findLender_2 : decode cX0_findLender 2 = .ok (.istore 4, 2) := by decide +kernel
theorem dX0_findLender_4 : decode cX0_findLender 4 = .ok (.iconst 1, 1) := by decide +kernel
theorem dX0_findLender_5 : decode cX0_findLender 5 = .ok (.istore 5, 2) := by decide +kernel
theorem dX0_findLender_7 : decode cX0_findLender 7 = .ok (.iload_n 2, 1) := by decide +kernel
theorem dX0_findLender_8 : decode cX0_findLender 8 = .ok (.istore 6, 2) := by decide +kernel
theorem dX0_findLender_10 : decode cX0_findLender 10 = .ok (.iconst 0, 1) := by decide +kernel
theorem dX0_findLender_11 : decode cX0_findLender 11 = .ok (.istore 7, 2) := by decide +kernel
theorem dX0_findLender_13 : decode cX0_findLender 13 = .ok (.iload 7, 2) := by decide +kernel
theorem dX0_findLender_15 : decode cX0_findLender 15 = .ok (.bipush 12, 2) := by decide +kernel
theorem dX0_findLender_17 : decode cX0_findLender 17 = .ok (.if_icmp .ge 98, 3) := by decide +kernel
theorem dX0_findLender_20 : decode cX0_findLender 20 = .ok (.aload_n 1, 1) := by decide +kernel
theorem dX0_findLender_21 : decode cX0_findLender 21 = .ok (.iload 6, 2) := by decide +kernel
theorem dX0_findLender_23 : decode cX0_findLender 23 = .ok (.invokevirtual 46, 3) := by decide +kernel
theorem dX0_findLender_26 : decode cX0_findLender 26 = .ok (.ifCond .eq 89, 3) := by decide +kernel
theorem dX0_findLender_29 : decode cX0_findLender 29 = .ok (.aload_n 0, 1) := by decide +kernel
theorem dX0_findLender_30 : decode cX0_findLender 30 = .ok (.getfield 18, 3) := by decide +kernel
theorem dX0_findLender_33 : decode cX0_findLender 33 = .ok (.iload 6, 2) := by decide +kernel
theorem dX0_findLender_35 : decode cX0_findLender 35 = .ok (.iaload, 1) := by decide +kernel
theorem dX0_findLender_36 : decode cX0_findLender 36 = .ok (.iload_n 3, 1) := by decide +kernel
theorem dX0_findLender_37 : decode cX0_findLender 37 = .ok (.if_icmp .ge 6, 3) := by decide +kernel
theorem dX0_findLender_40 : decode cX0_findLender 40 = .ok (.bipush (-2), 2) := by decide +kernel
theorem dX0_findLender_42 : decode cX0_findLender 42 = .ok (.ireturn, 1) := by decide +kernel
theorem dX0_findLender_43 : decode cX0_findLender 43 = .ok (.iload 5, 2) := by decide +kernel
theorem dX0_findLender_45 : decode cX0_findLender 45 = .ok (.ifCond .eq 26, 3) := by decide +kernel
theorem dX0_findLender_48 : decode cX0_findLender 48 = .ok (.aload_n 0, 1) := by decide +kernel
theorem dX0_findLender_49 : decode cX0_findLender 49 = .ok (.getfield 9, 3) := by decide +kernel
theorem dX0_findLender_52 : decode cX0_findLender 52 = .ok (.iload 6, 2) := by decide +kernel
theorem dX0_findLender_54 : decode cX0_findLender 54 = .ok (.iaload, 1) := by decide +kernel
theorem dX0_findLender_55 : decode cX0_findLender 55 = .ok (.aload_n 0, 1) := by decide +kernel
theorem dX0_findLender_56 : decode cX0_findLender 56 = .ok (.getfield 15, 3) := by decide +kernel
theorem dX0_findLender_59 : decode cX0_findLender 59 = .ok (.iload 6, 2) := by decide +kernel
theorem dX0_findLender_61 : decode cX0_findLender 61 = .ok (.iaload, 1) := by decide +kernel
theorem dX0_findLender_62 : decode cX0_findLender 62 = .ok (.iadd, 1) := by decide +kernel
theorem dX0_findLender_63 : decode cX0_findLender 63 = .ok (.iload_n 3, 1) := by decide +kernel
theorem dX0_findLender_64 : decode cX0_findLender 64 = .ok (.if_icmp .lt 7, 3) := by decide +kernel
theorem dX0_findLender_67 : decode cX0_findLender 67 = .ok (.iload 6, 2) := by decide +kernel
theorem dX0_findLender_69 : decode cX0_findLender 69 = .ok (.istore 4, 2) := by decide +kernel
theorem dX0_findLender_71 : decode cX0_findLender 71 = .ok (.iload 5, 2) := by decide +kernel
theorem dX0_findLender_73 : decode cX0_findLender 73 = .ok (.ifCond .eq 24, 3) := by decide +kernel
theorem dX0_findLender_76 : decode cX0_findLender 76 = .ok (.iload 4, 2) := by decide +kernel
theorem dX0_findLender_78 : decode cX0_findLender 78 = .ok (.bipush (-2), 2) := by decide +kernel
theorem dX0_findLender_80 : decode cX0_findLender 80 = .ok (.if_icmp .ne 17, 3) := by decide +kernel
theorem dX0_findLender_83 : decode cX0_findLender 83 = .ok (.aload_n 1, 1) := by decide +kernel
theorem dX0_findLender_84 : decode cX0_findLender 84 = .ok (.getfield 53, 3) := by decide +kernel
theorem dX0_findLender_87 : decode cX0_findLender 87 = .ok (.iload 6, 2) := by decide +kernel
theorem dX0_findLender_89 : decode cX0_findLender 89 = .ok (.baload, 1) := by decide +kernel
theorem dX0_findLender_90 : decode cX0_findLender 90 = .ok (.ifCond .ne 7, 3) := by decide +kernel
theorem dX0_findLender_93 : decode cX0_findLender 93 = .ok (.iconst 1, 1) := by decide +kernel
theorem dX0_findLender_94 : decode cX0_findLender 94 = .ok (.goto 4, 3) := by decide +kernel
theorem dX0_findLender_97 : decode cX0_findLender 97 = .ok (.iconst 0, 1) := by decide +kernel
theorem dX0_findLender_98 : decode cX0_findLender 98 = .ok (.istore 5, 2) := by decide +kernel
theorem dX0_findLender_100 : decode cX0_findLender 100 = .ok (.aload_n 1, 1) := by decide +kernel
theorem dX0_findLender_101 : decode cX0_findLender 101 = .ok (.getfield 50, 3) := by decide +kernel
theorem dX0_findLender_104 : decode cX0_findLender 104 = .ok (.iload 6, 2) := by decide +kernel
theorem dX0_findLender_106 : decode cX0_findLender 106 = .ok (.iaload, 1) := by decide +kernel
theorem dX0_findLender_107 : decode cX0_findLender 107 = .ok (.istore 6, 2) := by decide +kernel
theorem dX0_findLender_109 : decode cX0_findLender 109 = .ok (.iinc 7 1, 3) := by decide +kernel
theorem dX0_findLender_112 : decode cX0_findLender 112 = .ok (.goto (-99), 3) := by decide +kernel
theorem dX0_findLender_115 : decode cX0_findLender 115 = .ok (.iload 4, 2) := by decide +kernel
theorem dX0_findLender_117 : decode cX0_findLender 117 = .ok (.ireturn, 1) := by decide +kernel
theorem dX0_pay_0 : decode cX0_pay 0 = .ok (.iconst 0, 1) := by decide +kernel
theorem dX0_pay_1 : decode cX0_pay 1 = .ok (.istore 5, 2) := by decide +kernel
theorem dX0_pay_3 : decode cX0_pay 3 = .ok (.iload_n 2, 1) := by decide +kernel
theorem dX0_pay_4 : decode cX0_pay 4 = .ok (.istore 6, 2) := by decide +kernel
theorem dX0_pay_6 : decode cX0_pay 6 = .ok (.iconst 0, 1) := by decide +kernel
theorem dX0_pay_7 : decode cX0_pay 7 = .ok (.istore 7, 2) := by decide +kernel
theorem dX0_pay_9 : decode cX0_pay 9 = .ok (.iload 7, 2) := by decide +kernel
theorem dX0_pay_11 : decode cX0_pay 11 = .ok (.bipush 12, 2) := by decide +kernel
theorem dX0_pay_13 : decode cX0_pay 13 = .ok (.if_icmp .ge 103, 3) := by decide +kernel
theorem dX0_pay_16 : decode cX0_pay 16 = .ok (.aload_n 1, 1) := by decide +kernel
theorem dX0_pay_17 : decode cX0_pay 17 = .ok (.iload 6, 2) := by decide +kernel
theorem dX0_pay_19 : decode cX0_pay 19 = .ok (.invokevirtual 46, 3) := by decide +kernel
theorem dX0_pay_22 : decode cX0_pay 22 = .ok (.ifCond .eq 94, 3) := by decide +kernel
theorem dX0_pay_25 : decode cX0_pay 25 = .ok (.aload_n 0, 1) := by decide +kernel
theorem dX0_pay_26 : decode cX0_pay 26 = .ok (.getfield 18, 3) := by decide +kernel
theorem dX0_pay_29 : decode cX0_pay 29 = .ok (.iload 6, 2) := by decide +kernel
theorem dX0_pay_31 : decode cX0_pay 31 = .ok (.dup2, 1) := by decide +kernel
theorem dX0_pay_32 : decode cX0_pay 32 = .ok (.iaload, 1) := by decide +kernel
theorem dX0_pay_33 : decode cX0_pay 33 = .ok (.iload 4, 2) := by decide +kernel
theorem dX0_pay_35 : decode cX0_pay 35 = .ok (.isub, 1) := by decide +kernel
theorem dX0_pay_36 : decode cX0_pay 36 = .ok (.iastore, 1) := by decide +kernel
theorem dX0_pay_37 : decode cX0_pay 37 = .ok (.iload 5, 2) := by decide +kernel
theorem dX0_pay_39 : decode cX0_pay 39 = .ok (.ifCond .ne 9, 3) := by decide +kernel
theorem dX0_pay_42 : decode cX0_pay 42 = .ok (.iload 6, 2) := by decide +kernel
theorem dX0_pay_44 : decode cX0_pay 44 = .ok (.iload_n 3, 1) := by decide +kernel
theorem dX0_pay_45 : decode cX0_pay 45 = .ok (.if_icmp .ne 56, 3) := by decide +kernel
theorem dX0_pay_48 : decode cX0_pay 48 = .ok (.aload_n 0, 1) := by decide +kernel
theorem dX0_pay_49 : decode cX0_pay 49 = .ok (.getfield 9, 3) := by decide +kernel
theorem dX0_pay_52 : decode cX0_pay 52 = .ok (.iload 6, 2) := by decide +kernel
theorem dX0_pay_54 : decode cX0_pay 54 = .ok (.iaload, 1) := by decide +kernel
theorem dX0_pay_55 : decode cX0_pay 55 = .ok (.iload 4, 2) := by decide +kernel
theorem dX0_pay_57 : decode cX0_pay 57 = .ok (.invokestatic 43, 3) := by decide +kernel
theorem dX0_pay_60 : decode cX0_pay 60 = .ok (.istore 8, 2) := by decide +kernel
theorem dX0_pay_62 : decode cX0_pay 62 = .ok (.aload_n 0, 1) := by decide +kernel
theorem dX0_pay_63 : decode cX0_pay 63 = .ok (.getfield 9, 3) := by decide +kernel
theorem dX0_pay_66 : decode cX0_pay 66 = .ok (.iload 6, 2) := by decide +kernel
theorem dX0_pay_68 : decode cX0_pay 68 = .ok (.dup2, 1) := by decide +kernel
theorem dX0_pay_69 : decode cX0_pay 69 = .ok (.iaload, 1) := by decide +kernel
theorem dX0_pay_70 : decode cX0_pay 70 = .ok (.iload 8, 2) := by decide +kernel
theorem dX0_pay_72 : decode cX0_pay 72 = .ok (.isub, 1) := by decide +kernel
theorem dX0_pay_73 : decode cX0_pay 73 = .ok (.iastore, 1) := by decide +kernel
theorem dX0_pay_74 : decode cX0_pay 74 = .ok (.aload_n 0, 1) := by decide +kernel
theorem dX0_pay_75 : decode cX0_pay 75 = .ok (.getfield 15, 3) := by decide +kernel
theorem dX0_pay_78 : decode cX0_pay 78 = .ok (.iload 6, 2) := by decide +kernel
theorem dX0_pay_80 : decode cX0_pay 80 = .ok (.dup2, 1) := by decide +kernel
theorem dX0_pay_81 : decode cX0_pay 81 = .ok (.iaload, 1) := by decide +kernel
theorem dX0_pay_82 : decode cX0_pay 82 = .ok (.iload 5, 2) := by decide +kernel
theorem dX0_pay_84 : decode cX0_pay 84 = .ok (.ifCond .eq 7, 3) := by decide +kernel
theorem dX0_pay_87 : decode cX0_pay 87 = .ok (.iconst 0, 1) := by decide +kernel
theorem dX0_pay_88 : decode cX0_pay 88 = .ok (.goto 8, 3) := by decide +kernel
theorem dX0_pay_91 : decode cX0_pay 91 = .ok (.iload 4, 2) := by decide +kernel
theorem dX0_pay_93 : decode cX0_pay 93 = .ok (.iload 8, 2) := by decide +kernel
theorem dX0_pay_95 : decode cX0_pay 95 = .ok (.isub, 1) := by decide +kernel
theorem dX0_pay_96 : decode cX0_pay 96 = .ok (.isub, 1) := by decide +kernel
theorem dX0_pay_97 : decode cX0_pay 97 = .ok (.iastore, 1) := by decide +kernel
theorem dX0_pay_98 : decode cX0_pay 98 = .ok (.iconst 1, 1) := by decide +kernel
theorem dX0_pay_99 : decode cX0_pay 99 = .ok (.istore 5, 2) := by decide +kernel
theorem dX0_pay_101 : decode cX0_pay 101 = .ok (.aload_n 1, 1) := by decide +kernel
theorem dX0_pay_102 : decode cX0_pay 102 = .ok (.getfield 50, 3) := by decide +kernel
theorem dX0_pay_105 : decode cX0_pay 105 = .ok (.iload 6, 2) := by decide +kernel
theorem dX0_pay_107 : decode cX0_pay 107 = .ok (.iaload, 1) := by decide +kernel
theorem dX0_pay_108 : decode cX0_pay 108 = .ok (.istore 6, 2) := by decide +kernel
theorem dX0_pay_110 : decode cX0_pay 110 = .ok (.iinc 7 1, 3) := by decide +kernel
theorem dX0_pay_113 : decode cX0_pay 113 = .ok (.goto (-104), 3) := by decide +kernel
theorem dX0_pay_116 : decode cX0_pay 116 = .ok (.return_, 1) := by decide +kernel
theorem dX0_payOften_0 : decode cX0_payOften 0 = .ok (.iconst 0, 1) := by decide +kernel
theorem dX0_payOften_1 : decode cX0_payOften 1 = .ok (.istore 4, 2) := by decide +kernel
theorem dX0_payOften_3 : decode cX0_payOften 3 = .ok (.iload 4, 2) := by decide +kernel
theorem dX0_payOften_5 : decode cX0_payOften 5 = .ok (.sipush 999, 3) := by decide +kernel
theorem dX0_payOften_8 : decode cX0_payOften 8 = .ok (.if_icmp .ge 37, 3) := by decide +kernel
theorem dX0_payOften_11 : decode cX0_payOften 11 = .ok (.aload_n 0, 1) := by decide +kernel
theorem dX0_payOften_12 : decode cX0_payOften 12 = .ok (.aload_n 1, 1) := by decide +kernel
theorem dX0_payOften_13 : decode cX0_payOften 13 = .ok (.iload_n 2, 1) := by decide +kernel
theorem dX0_payOften_14 : decode cX0_payOften 14 = .ok (.iload_n 3, 1) := by decide +kernel
theorem dX0_payOften_15 : decode cX0_payOften 15 = .ok (.invokevirtual 57, 3) := by decide +kernel
theorem dX0_payOften_18 : decode cX0_payOften 18 = .ok (.istore 5, 2) := by decide +kernel
theorem dX0_payOften_20 : decode cX0_payOften 20 = .ok (.iload 5, 2) := by decide +kernel
theorem dX0_payOften_22 : decode cX0_payOften 22 = .ok (.bipush (-2), 2) := by decide +kernel
theorem dX0_payOften_24 : decode cX0_payOften 24 = .ok (.if_icmp .ne 6, 3) := by decide +kernel
theorem dX0_payOften_27 : decode cX0_payOften 27 = .ok (.iload 4, 2) := by decide +kernel
theorem dX0_payOften_29 : decode cX0_payOften 29 = .ok (.ireturn, 1) := by decide +kernel
theorem dX0_payOften_30 : decode cX0_payOften 30 = .ok (.aload_n 0, 1) := by decide +kernel
theorem dX0_payOften_31 : decode cX0_payOften 31 = .ok (.aload_n 1, 1) := by decide +kernel
theorem dX0_payOften_32 : decode cX0_payOften 32 = .ok (.iload_n 2, 1) := by decide +kernel
theorem dX0_payOften_33 : decode cX0_payOften 33 = .ok (.iload 5, 2) := by decide +kernel
theorem dX0_payOften_35 : decode cX0_payOften 35 = .ok (.iload_n 3, 1) := by decide +kernel
theorem dX0_payOften_36 : decode cX0_payOften 36 = .ok (.invokevirtual 61, 3) := by decide +kernel
theorem dX0_payOften_39 : decode cX0_payOften 39 = .ok (.iinc 4 1, 3) := by decide +kernel
theorem dX0_payOften_42 : decode cX0_payOften 42 = .ok (.goto (-39), 3) := by decide +kernel
theorem dX0_payOften_45 : decode cX0_payOften 45 = .ok (.sipush 999, 3) := by decide +kernel
theorem dX0_payOften_48 : decode cX0_payOften 48 = .ok (.ireturn, 1) := by decide +kernel
theorem dX1_init_0 : decode cX1_init 0 = .ok (.aload_n 0, 1) := by decide +kernel
theorem dX1_init_1 : decode cX1_init 1 = .ok (.invokespecial 3, 3) := by decide +kernel
theorem dX1_init_4 : decode cX1_init 4 = .ok (.aload_n 0, 1) := by decide +kernel
theorem dX1_init_5 : decode cX1_init 5 = .ok (.bipush 12, 2) := by decide +kernel
theorem dX1_init_7 : decode cX1_init 7 = .ok (.newarray .int, 2) := by decide +kernel
theorem dX1_init_9 : decode cX1_init 9 = .ok (.putfield 9, 3) := by decide +kernel
theorem dX1_init_12 : decode cX1_init 12 = .ok (.aload_n 0, 1) := by decide +kernel
theorem dX1_init_13 : decode cX1_init 13 = .ok (.bipush 12, 2) := by decide +kernel
theorem dX1_init_15 : decode cX1_init 15 = .ok (.newarray .int, 2) := by decide +kernel
theorem dX1_init_17 : decode cX1_init 17 = .ok (.putfield 15, 3) := by decide +kernel
theorem dX1_init_20 : decode cX1_init 20 = .ok (.aload_n 0, 1) := by decide +kernel
theorem dX1_init_21 : decode cX1_init 21 = .ok (.bipush 12, 2) := by decide +kernel
theorem dX1_init_23 : decode cX1_init 23 = .ok (.newarray .int, 2) := by decide +kernel
theorem dX1_init_25 : decode cX1_init 25 = .ok (.putfield 18, 3) := by decide +kernel
theorem dX1_init_28 : decode cX1_init 28 = .ok (.aload_n 0, 1) := by decide +kernel
theorem dX1_init_29 : decode cX1_init 29 = .ok (.bipush 12, 2) := by decide +kernel
theorem dX1_init_31 : decode cX1_init 31 = .ok (.newarray .int, 2) := by decide +kernel
theorem dX1_init_33 : decode cX1_init 33 = .ok (.putfield 21, 3) := by decide +kernel
theorem dX1_init_36 : decode cX1_init 36 = .ok (.return_, 1) := by decide +kernel
theorem dX1_add_0 : decode cX1_add 0 = .ok (.aload_n 0, 1) := by decide +kernel
theorem dX1_add_1 : decode cX1_add 1 = .ok (.getfield 24, 3) := by decide +kernel
theorem dX1_add_4 : decode cX1_add 4 = .ok (.bipush 12, 2) := by decide +kernel
theorem dX1_add_6 : decode cX1_add 6 = .ok (.if_icmp .lt 4, 3) := by decide +kernel
theorem dX1_add_9 : decode cX1_add 9 = .ok (.return_, 1) := by decide +kernel
theorem dX1_add_10 : decode cX1_add 10 = .ok (.aload_n 0, 1) := by decide +kernel
theorem dX1_add_11 : decode cX1_add 11 = .ok (.getfield 9, 3) := by decide +kernel
theorem dX1_add_14 : decode cX1_add 14 = .ok (.aload_n 0, 1) := by decide +kernel
theorem dX1_add_15 : decode cX1_add 15 = .ok (.getfield 24, 3) := by decide +kernel
theorem dX1_add_18 : decode cX1_add 18 = .ok (.iload_n 1, 1) := by decide +kernel
theorem dX1_add_19 : decode cX1_add 19 = .ok (.iastore, 1) := by decide +kernel
theorem dX1_add_20 : decode cX1_add 20 = .ok (.aload_n 0, 1) := by decide +kernel
theorem dX1_add_21 : decode cX1_add 21 = .ok (.getfield 15, 3) := by decide +kernel
theorem dX1_add_24 : decode cX1_add 24 = .ok (.aload_n 0, 1) := by decide +kernel
theorem dX1_add_25 : decode cX1_add 25 = .ok (.getfield 24, 3) := by decide +kernel
theorem dX1_add_28 : decode cX1_add 28 = .ok (.iload_n 2, 1) := by decide +kernel
theorem dX1_add_29 : decode cX1_add 29 = .ok (.iastore, 1) := by decide +kernel
theorem dX1_add_30 : decode cX1_add 30 = .ok (.aload_n 0, 1) := by decide +kernel
theorem dX1_add_31 : decode cX1_add 31 = .ok (.getfield 18, 3) := by decide +kernel
theorem dX1_add_34 : decode cX1_add 34 = .ok (.aload_n 0, 1) := by decide +kernel
theorem dX1_add_35 : decode cX1_add 35 = .ok (.getfield 24, 3) := by decide +kernel
theorem dX1_add_38 : decode cX1_add 38 = .ok (.iload_n 3, 1) := by decide +kernel
theorem dX1_add_39 : decode cX1_add 39 = .ok (.iastore, 1) := by decide +kernel
theorem dX1_add_40 : decode cX1_add 40 = .ok (.aload_n 0, 1) := by decide +kernel
theorem dX1_add_41 : decode cX1_add 41 = .ok (.getfield 21, 3) := by decide +kernel
theorem dX1_add_44 : decode cX1_add 44 = .ok (.aload_n 0, 1) := by decide +kernel
theorem dX1_add_45 : decode cX1_add 45 = .ok (.getfield 24, 3) := by decide +kernel
theorem dX1_add_48 : decode cX1_add 48 = .ok (.iload 4, 2) := by decide +kernel
theorem dX1_add_50 : decode cX1_add 50 = .ok (.iastore, 1) := by decide +kernel
theorem dX1_add_51 : decode cX1_add 51 = .ok (.aload_n 0, 1) := by decide +kernel
theorem dX1_add_52 : decode cX1_add 52 = .ok (.dup, 1) := by decide +kernel
theorem dX1_add_53 : decode cX1_add 53 = .ok (.getfield 24, 3) := by decide +kernel
theorem dX1_add_56 : decode cX1_add 56 = .ok (.iconst 1, 1) := by decide +kernel
theorem dX1_add_57 : decode cX1_add 57 = .ok (.iadd, 1) := by decide +kernel
theorem dX1_add_58 : decode cX1_add 58 = .ok (.putfield 24, 3) := by decide +kernel
theorem dX1_add_61 : decode cX1_add 61 = .ok (.return_, 1) := by decide +kernel
theorem dX2_init_0 : decode cX2_init 0 = .ok (.aload_n 0, 1) := by decide +kernel
theorem dX2_init_1 : decode cX2_init 1 = .ok (.invokespecial 3, 3) := by decide +kernel
theorem dX2_init_4 : decode cX2_init 4 = .ok (.aload_n 0, 1) := by decide +kernel
theorem dX2_init_5 : decode cX2_init 5 = .ok (.bipush 12, 2) := by decide +kernel
theorem dX2_init_7 : decode cX2_init 7 = .ok (.newarray .int, 2) := by decide +kernel
theorem dX2_init_9 : decode cX2_init 9 = .ok (.putfield 9, 3) := by decide +kernel
theorem dX2_init_12 : decode cX2_init 12 = .ok (.aload_n 0, 1) := by decide +kernel
theorem dX2_init_13 : decode cX2_init 13 = .ok (.bipush 12, 2) := by decide +kernel
theorem dX2_init_15 : decode cX2_init 15 = .ok (.newarray .int, 2) := by decide +kernel
theorem dX2_init_17 : decode cX2_init 17 = .ok (.putfield 15, 3) := by decide +kernel
theorem dX2_init_20 : decode cX2_init 20 = .ok (.aload_n 0, 1) := by decide +kernel
theorem dX2_init_21 : decode cX2_init 21 = .ok (.bipush 12, 2) := by decide +kernel
theorem dX2_init_23 : decode cX2_init 23 = .ok (.newarray .int, 2) := by decide +kernel
theorem dX2_init_25 : decode cX2_init 25 = .ok (.putfield 18, 3) := by decide +kernel
theorem dX2_init_28 : decode cX2_init 28 = .ok (.aload_n 0, 1) := by decide +kernel
theorem dX2_init_29 : decode cX2_init 29 = .ok (.bipush 12, 2) := by decide +kernel
theorem dX2_init_31 : decode cX2_init 31 = .ok (.newarray .int, 2) := by decide +kernel
theorem dX2_init_33 : decode cX2_init 33 = .ok (.putfield 21, 3) := by decide +kernel
theorem dX2_init_36 : decode cX2_init 36 = .ok (.aload_n 0, 1) := by decide +kernel
theorem dX2_init_37 : decode cX2_init 37 = .ok (.bipush 12, 2) := by decide +kernel
theorem dX2_init_39 : decode cX2_init 39 = .ok (.newarray .int, 2) := by decide +kernel
theorem dX2_init_41 : decode cX2_init 41 = .ok (.putfield 24, 3) := by decide +kernel
theorem dX2_init_44 : decode cX2_init 44 = .ok (.return_, 1) := by decide +kernel
theorem dX2_begin_0 : decode cX2_begin 0 = .ok (.aload_n 0, 1) := by decide +kernel
theorem dX2_begin_1 : decode cX2_begin 1 = .ok (.getfield 9, 3) := by decide +kernel
theorem dX2_begin_4 : decode cX2_begin 4 = .ok (.invokestatic 27, 3) := by decide +kernel
theorem dX2_begin_7 : decode cX2_begin 7 = .ok (.aload_n 0, 1) := by decide +kernel
theorem dX2_begin_8 : decode cX2_begin 8 = .ok (.getfield 15, 3) := by decide +kernel
theorem dX2_begin_11 : decode cX2_begin 11 = .ok (.invokestatic 27, 3) := by decide +kernel
theorem dX2_begin_14 : decode cX2_begin 14 = .ok (.aload_n 0, 1) := by decide +kernel
theorem dX2_begin_15 : decode cX2_begin 15 = .ok (.getfield 18, 3) := by decide +kernel
theorem dX2_begin_18 : decode cX2_begin 18 = .ok (.invokestatic 27, 3) := by decide +kernel
theorem dX2_begin_21 : decode cX2_begin 21 = .ok (.aload_n 0, 1) := by decide +kernel
theorem dX2_begin_22 : decode cX2_begin 22 = .ok (.getfield 21, 3) := by decide +kernel
theorem dX2_begin_25 : decode cX2_begin 25 = .ok (.invokestatic 27, 3) := by decide +kernel
theorem dX2_begin_28 : decode cX2_begin 28 = .ok (.aload_n 0, 1) := by decide +kernel
theorem dX2_begin_29 : decode cX2_begin 29 = .ok (.getfield 24, 3) := by decide +kernel
theorem dX2_begin_32 : decode cX2_begin 32 = .ok (.invokestatic 27, 3) := by decide +kernel
theorem dX2_begin_35 : decode cX2_begin 35 = .ok (.return_, 1) := by decide +kernel
theorem dX2_countSent_0 : decode cX2_countSent 0 = .ok (.aload_n 0, 1) := by decide +kernel
theorem dX2_countSent_1 : decode cX2_countSent 1 = .ok (.getfield 9, 3) := by decide +kernel
theorem dX2_countSent_4 : decode cX2_countSent 4 = .ok (.iload_n 1, 1) := by decide +kernel
theorem dX2_countSent_5 : decode cX2_countSent 5 = .ok (.dup2, 1) := by decide +kernel
theorem dX2_countSent_6 : decode cX2_countSent 6 = .ok (.iaload, 1) := by decide +kernel
theorem dX2_countSent_7 : decode cX2_countSent 7 = .ok (.iload_n 3, 1) := by decide +kernel
theorem dX2_countSent_8 : decode cX2_countSent 8 = .ok (.iadd, 1) := by decide +kernel
theorem dX2_countSent_9 : decode cX2_countSent 9 = .ok (.iastore, 1) := by decide +kernel
theorem dX2_countSent_10 : decode cX2_countSent 10 = .ok (.aload_n 0, 1) := by decide +kernel
theorem dX2_countSent_11 : decode cX2_countSent 11 = .ok (.getfield 15, 3) := by decide +kernel
theorem dX2_countSent_14 : decode cX2_countSent 14 = .ok (.iload_n 1, 1) := by decide +kernel
theorem dX2_countSent_15 : decode cX2_countSent 15 = .ok (.dup2, 1) := by decide +kernel
theorem dX2_countSent_16 : decode cX2_countSent 16 = .ok (.iaload, 1) := by decide +kernel
theorem dX2_countSent_17 : decode cX2_countSent 17 = .ok (.iconst 1, 1) := by decide +kernel
theorem dX2_countSent_18 : decode cX2_countSent 18 = .ok (.iadd, 1) := by decide +kernel
theorem dX2_countSent_19 : decode cX2_countSent 19 = .ok (.iastore, 1) := by decide +kernel
theorem dX2_countSent_20 : decode cX2_countSent 20 = .ok (.iload_n 2, 1) := by decide +kernel
theorem dX2_countSent_21 : decode cX2_countSent 21 = .ok (.iload_n 1, 1) := by decide +kernel
theorem dX2_countSent_22 : decode cX2_countSent 22 = .ok (.if_icmp .eq 23, 3) := by decide +kernel
theorem dX2_countSent_25 : decode cX2_countSent 25 = .ok (.aload_n 0, 1) := by decide +kernel
theorem dX2_countSent_26 : decode cX2_countSent 26 = .ok (.getfield 18, 3) := by decide +kernel
theorem dX2_countSent_29 : decode cX2_countSent 29 = .ok (.iload_n 1, 1) := by decide +kernel
theorem dX2_countSent_30 : decode cX2_countSent 30 = .ok (.dup2, 1) := by decide +kernel
theorem dX2_countSent_31 : decode cX2_countSent 31 = .ok (.iaload, 1) := by decide +kernel
theorem dX2_countSent_32 : decode cX2_countSent 32 = .ok (.iload_n 3, 1) := by decide +kernel
theorem dX2_countSent_33 : decode cX2_countSent 33 = .ok (.iadd, 1) := by decide +kernel
theorem dX2_countSent_34 : decode cX2_countSent 34 = .ok (.iastore, 1) := by decide +kernel
theorem dX2_countSent_35 : decode cX2_countSent 35 = .ok (.aload_n 0, 1) := by decide +kernel
theorem dX2_countSent_36 : decode cX2_countSent 36 = .ok (.getfield 21, 3) := by decide +kernel
theorem dX2_countSent_39 : decode cX2_countSent 39 = .ok (.iload_n 2, 1) := by decide +kernel
theorem dX2_countSent_40 : decode cX2_countSent 40 = .ok (.dup2, 1) := by decide +kernel
theorem dX2_countSent_41 : decode cX2_countSent 41 = .ok (.iaload, 1) := by decide +kernel
theorem dX2_countSent_42 : decode cX2_countSent 42 = .ok (.iload_n 3, 1) := by decide +kernel
theorem dX2_countSent_43 : decode cX2_countSent 43 = .ok (.iadd, 1) := by decide +kernel
theorem dX2_countSent_44 : decode cX2_countSent 44 = .ok (.iastore, 1) := by decide +kernel
theorem dX2_countSent_45 : decode cX2_countSent 45 = .ok (.return_, 1) := by decide +kernel
theorem dX3_init_0 : decode cX3_init 0 = .ok (.aload_n 0, 1) := by decide +kernel
theorem dX3_init_1 : decode cX3_init 1 = .ok (.invokespecial 3, 3) := by decide +kernel
theorem dX3_init_4 : decode cX3_init 4 = .ok (.aload_n 0, 1) := by decide +kernel
theorem dX3_init_5 : decode cX3_init 5 = .ok (.bipush 24, 2) := by decide +kernel
theorem dX3_init_7 : decode cX3_init 7 = .ok (.newarray .int, 2) := by decide +kernel
theorem dX3_init_9 : decode cX3_init 9 = .ok (.putfield 9, 3) := by decide +kernel
theorem dX3_init_12 : decode cX3_init 12 = .ok (.aload_n 0, 1) := by decide +kernel
theorem dX3_init_13 : decode cX3_init 13 = .ok (.bipush 24, 2) := by decide +kernel
theorem dX3_init_15 : decode cX3_init 15 = .ok (.newarray .int, 2) := by decide +kernel
theorem dX3_init_17 : decode cX3_init 17 = .ok (.putfield 15, 3) := by decide +kernel
theorem dX3_init_20 : decode cX3_init 20 = .ok (.aload_n 0, 1) := by decide +kernel
theorem dX3_init_21 : decode cX3_init 21 = .ok (.bipush 24, 2) := by decide +kernel
theorem dX3_init_23 : decode cX3_init 23 = .ok (.newarray .int, 2) := by decide +kernel
theorem dX3_init_25 : decode cX3_init 25 = .ok (.putfield 18, 3) := by decide +kernel
theorem dX3_init_28 : decode cX3_init 28 = .ok (.aload_n 0, 1) := by decide +kernel
theorem dX3_init_29 : decode cX3_init 29 = .ok (.bipush 24, 2) := by decide +kernel
theorem dX3_init_31 : decode cX3_init 31 = .ok (.newarray .int, 2) := by decide +kernel
theorem dX3_init_33 : decode cX3_init 33 = .ok (.putfield 21, 3) := by decide +kernel
theorem dX3_init_36 : decode cX3_init 36 = .ok (.return_, 1) := by decide +kernel
theorem dX3_add_0 : decode cX3_add 0 = .ok (.aload_n 0, 1) := by decide +kernel
theorem dX3_add_1 : decode cX3_add 1 = .ok (.getfield 9, 3) := by decide +kernel
theorem dX3_add_4 : decode cX3_add 4 = .ok (.iload_n 1, 1) := by decide +kernel
theorem dX3_add_5 : decode cX3_add 5 = .ok (.invokestatic 32, 3) := by decide +kernel
theorem dX3_add_8 : decode cX3_add 8 = .ok (.aload_n 0, 1) := by decide +kernel
theorem dX3_add_9 : decode cX3_add 9 = .ok (.getfield 15, 3) := by decide +kernel
theorem dX3_add_12 : decode cX3_add 12 = .ok (.iload_n 2, 1) := by decide +kernel
theorem dX3_add_13 : decode cX3_add 13 = .ok (.invokestatic 32, 3) := by decide +kernel
theorem dX3_add_16 : decode cX3_add 16 = .ok (.aload_n 0, 1) := by decide +kernel
theorem dX3_add_17 : decode cX3_add 17 = .ok (.getfield 18, 3) := by decide +kernel
theorem dX3_add_20 : decode cX3_add 20 = .ok (.iload_n 3, 1) := by decide +kernel
theorem dX3_add_21 : decode cX3_add 21 = .ok (.invokestatic 32, 3) := by decide +kernel
theorem dX3_add_24 : decode cX3_add 24 = .ok (.aload_n 0, 1) := by decide +kernel
theorem dX3_add_25 : decode cX3_add 25 = .ok (.getfield 21, 3) := by decide +kernel
theorem dX3_add_28 : decode cX3_add 28 = .ok (.iload 4, 2) := by decide +kernel
theorem dX3_add_30 : decode cX3_add 30 = .ok (.invokestatic 32, 3) := by decide +kernel
theorem dX3_add_33 : decode cX3_add 33 = .ok (.aload_n 0, 1) := by decide +kernel
theorem dX3_add_34 : decode cX3_add 34 = .ok (.bipush 24, 2) := by decide +kernel
theorem dX3_add_36 : decode cX3_add 36 = .ok (.aload_n 0, 1) := by decide +kernel
theorem dX3_add_37 : decode cX3_add 37 = .ok (.getfield 24, 3) := by decide +kernel
theorem dX3_add_40 : decode cX3_add 40 = .ok (.iconst 1, 1) := by decide +kernel
theorem dX3_add_41 : decode cX3_add 41 = .ok (.iadd, 1) := by decide +kernel
theorem dX3_add_42 : decode cX3_add 42 = .ok (.invokestatic 36, 3) := by decide +kernel
theorem dX3_add_45 : decode cX3_add 45 = .ok (.putfield 24, 3) := by decide +kernel
theorem dX3_add_48 : decode cX3_add 48 = .ok (.return_, 1) := by decide +kernel
theorem dX3_putFirst_0 : decode cX3_putFirst 0 = .ok (.aload_n 0, 1) := by decide +kernel
theorem dX3_putFirst_1 : decode cX3_putFirst 1 = .ok (.iconst 0, 1) := by decide +kernel
theorem dX3_putFirst_2 : decode cX3_putFirst 2 = .ok (.aload_n 0, 1) := by decide +kernel
theorem dX3_putFirst_3 : decode cX3_putFirst 3 = .ok (.iconst 1, 1) := by decide +kernel
theorem dX3_putFirst_4 : decode cX3_putFirst 4 = .ok (.bipush 23, 2) := by decide +kernel
theorem dX3_putFirst_6 : decode cX3_putFirst 6 = .ok (.invokestatic 42, 3) := by decide +kernel
theorem dX3_putFirst_9 : decode cX3_putFirst 9 = .ok (.aload_n 0, 1) := by decide +kernel
theorem dX3_putFirst_10 : decode cX3_putFirst 10 = .ok (.iconst 0, 1) := by decide +kernel
theorem dX3_putFirst_11 : decode cX3_putFirst 11 = .ok (.iload_n 1, 1) := by decide +kernel
theorem dX3_putFirst_12 : decode cX3_putFirst 12 = .ok (.iastore, 1) := by decide +kernel
theorem dX3_putFirst_13 : decode cX3_putFirst 13 = .ok (.return_, 1) := by decide +kernel
theorem dX4_init_0 : decode cX4_init 0 = .ok (.aload_n 0, 1) := by decide +kernel
theorem dX4_init_1 : decode cX4_init 1 = .ok (.invokespecial 3, 3) := by decide +kernel
theorem dX4_init_4 : decode cX4_init 4 = .ok (.aload_n 0, 1) := by decide +kernel
theorem dX4_init_5 : decode cX4_init 5 = .ok (.bipush 12, 2) := by decide +kernel
theorem dX4_init_7 : decode cX4_init 7 = .ok (.newarray .int, 2) := by decide +kernel
theorem dX4_init_9 : decode cX4_init 9 = .ok (.putfield 9, 3) := by decide +kernel
theorem dX4_init_12 : decode cX4_init 12 = .ok (.aload_n 0, 1) := by decide +kernel
theorem dX4_init_13 : decode cX4_init 13 = .ok (.sipush 192, 3) := by decide +kernel
theorem dX4_init_16 : decode cX4_init 16 = .ok (.newarray .int, 2) := by decide +kernel
theorem dX4_init_18 : decode cX4_init 18 = .ok (.putfield 15, 3) := by decide +kernel
theorem dX4_init_21 : decode cX4_init 21 = .ok (.aload_n 0, 1) := by decide +kernel
theorem dX4_init_22 : decode cX4_init 22 = .ok (.sipush 192, 3) := by decide +kernel
theorem dX4_init_25 : decode cX4_init 25 = .ok (.newarray .int, 2) := by decide +kernel
theorem dX4_init_27 : decode cX4_init 27 = .ok (.putfield 18, 3) := by decide +kernel
theorem dX4_init_30 : decode cX4_init 30 = .ok (.aload_n 0, 1) := by decide +kernel
theorem dX4_init_31 : decode cX4_init 31 = .ok (.sipush 192, 3) := by decide +kernel
theorem dX4_init_34 : decode cX4_init 34 = .ok (.newarray .int, 2) := by decide +kernel
theorem dX4_init_36 : decode cX4_init 36 = .ok (.putfield 21, 3) := by decide +kernel
theorem dX4_init_39 : decode cX4_init 39 = .ok (.return_, 1) := by decide +kernel
theorem dX4_begin_0 : decode cX4_begin 0 = .ok (.aload_n 0, 1) := by decide +kernel
theorem dX4_begin_1 : decode cX4_begin 1 = .ok (.getfield 9, 3) := by decide +kernel
theorem dX4_begin_4 : decode cX4_begin 4 = .ok (.invokestatic 24, 3) := by decide +kernel
theorem dX4_begin_7 : decode cX4_begin 7 = .ok (.aload_n 0, 1) := by decide +kernel
theorem dX4_begin_8 : decode cX4_begin 8 = .ok (.iconst 0, 1) := by decide +kernel
theorem dX4_begin_9 : decode cX4_begin 9 = .ok (.putfield 28, 3) := by decide +kernel
theorem dX4_begin_12 : decode cX4_begin 12 = .ok (.return_, 1) := by decide +kernel
theorem dX4_removeFront_0 : decode cX4_removeFront 0 = .ok (.aload_n 0, 1) := by decide +kernel
theorem dX4_removeFront_1 : decode cX4_removeFront 1 = .ok (.getfield 9, 3) := by decide +kernel
theorem dX4_removeFront_4 : decode cX4_removeFront 4 = .ok (.iload_n 1, 1) := by decide +kernel
theorem dX4_removeFront_5 : decode cX4_removeFront 5 = .ok (.iaload, 1) := by decide +kernel
theorem dX4_removeFront_6 : decode cX4_removeFront 6 = .ok (.iconst 1, 1) := by decide +kernel
theorem dX4_removeFront_7 : decode cX4_removeFront 7 = .ok (.if_icmp .ge 4, 3) := by decide +kernel
theorem dX4_removeFront_10 : decode cX4_removeFront 10 = .ok (.return_, 1) := by decide +kernel
theorem dX4_removeFront_11 : decode cX4_removeFront 11 = .ok (.aload_n 0, 1) := by decide +kernel
theorem dX4_removeFront_12 : decode cX4_removeFront 12 = .ok (.getfield 9, 3) := by decide +kernel
theorem dX4_removeFront_15 : decode cX4_removeFront 15 = .ok (.iload_n 1, 1) := by decide +kernel
theorem dX4_removeFront_16 : decode cX4_removeFront 16 = .ok (.dup2, 1) := by decide +kernel
theorem dX4_removeFront_17 : decode cX4_removeFront 17 = .ok (.iaload, 1) := by decide +kernel
theorem dX4_removeFront_18 : decode cX4_removeFront 18 = .ok (.iconst 1, 1) := by decide +kernel
theorem dX4_removeFront_19 : decode cX4_removeFront 19 = .ok (.isub, 1) := by decide +kernel
theorem dX4_removeFront_20 : decode cX4_removeFront 20 = .ok (.iastore, 1) := by decide +kernel
theorem dX4_removeFront_21 : decode cX4_removeFront 21 = .ok (.aload_n 0, 1) := by decide +kernel
theorem dX4_removeFront_22 : decode cX4_removeFront 22 = .ok (.aload_n 0, 1) := by decide +kernel
theorem dX4_removeFront_23 : decode cX4_removeFront 23 = .ok (.getfield 15, 3) := by decide +kernel
theorem dX4_removeFront_26 : decode cX4_removeFront 26 = .ok (.iload_n 1, 1) := by decide +kernel
theorem dX4_removeFront_27 : decode cX4_removeFront 27 = .ok (.invokevirtual 36, 3) := by decide +kernel
theorem dX4_removeFront_30 : decode cX4_removeFront 30 = .ok (.aload_n 0, 1) := by decide +kernel
theorem dX4_removeFront_31 : decode cX4_removeFront 31 = .ok (.aload_n 0, 1) := by decide +kernel
theorem dX4_removeFront_32 : decode cX4_removeFront 32 = .ok (.getfield 18, 3) := by decide +kernel
theorem dX4_removeFront_35 : decode cX4_removeFront 35 = .ok (.iload_n 1, 1) := by decide +kernel
theorem dX4_removeFront_36 : decode cX4_removeFront 36 = .ok (.invokevirtual 36, 3) := by decide +kernel
theorem dX4_removeFront_39 : decode cX4_removeFront 39 = .ok (.aload_n 0, 1) := by decide +kernel
theorem dX4_removeFront_40 : decode cX4_removeFront 40 = .ok (.aload_n 0, 1) := by decide +kernel
theorem dX4_removeFront_41 : decode cX4_removeFront 41 = .ok (.getfield 21, 3) := by decide +kernel
theorem dX4_removeFront_44 : decode cX4_removeFront 44 = .ok (.iload_n 1, 1) := by decide +kernel
theorem dX4_removeFront_45 : decode cX4_removeFront 45 = .ok (.invokevirtual 36, 3) := by decide +kernel
theorem dX4_removeFront_48 : decode cX4_removeFront 48 = .ok (.return_, 1) := by decide +kernel
theorem dX4_moveUp_0 : decode cX4_moveUp 0 = .ok (.iload_n 2, 1) := by decide +kernel
theorem dX4_moveUp_1 : decode cX4_moveUp 1 = .ok (.bipush 16, 2) := by decide +kernel
theorem dX4_moveUp_3 : decode cX4_moveUp 3 = .ok (.imul, 1) := by decide +kernel
theorem dX4_moveUp_4 : decode cX4_moveUp 4 = .ok (.istore_n 3, 1) := by decide +kernel
theorem dX4_moveUp_5 : decode cX4_moveUp 5 = .ok (.aload_n 1, 1) := by decide +kernel
theorem dX4_moveUp_6 : decode cX4_moveUp 6 = .ok (.iload_n 3, 1) := by decide +kernel
theorem dX4_moveUp_7 : decode cX4_moveUp 7 = .ok (.iconst 1, 1) := by decide +kernel
theorem dX4_moveUp_8 : decode cX4_moveUp 8 = .ok (.iadd, 1) := by decide +kernel
theorem dX4_moveUp_9 : decode cX4_moveUp 9 = .ok (.aload_n 1, 1) := by decide +kernel
theorem dX4_moveUp_10 : decode cX4_moveUp 10 = .ok (.iload_n 3, 1) := by decide +kernel
theorem dX4_moveUp_11 : decode cX4_moveUp 11 = .ok (.bipush 15, 2) := by decide +kernel
theorem dX4_moveUp_13 : decode cX4_moveUp 13 = .ok (.invokestatic 40, 3) := by decide +kernel
theorem dX4_moveUp_16 : decode cX4_moveUp 16 = .ok (.return_, 1) := by decide +kernel
theorem dX5_init_0 : decode cX5_init 0 = .ok (.aload_n 0, 1) := by decide +kernel
theorem dX5_init_1 : decode cX5_init 1 = .ok (.invokespecial 3, 3) := by decide +kernel
theorem dX5_init_4 : decode cX5_init 4 = .ok (.aload_n 0, 1) := by decide +kernel
theorem dX5_init_5 : decode cX5_init 5 = .ok (.bipush (-2), 2) := by decide +kernel
theorem dX5_init_7 : decode cX5_init 7 = .ok (.putfield 9, 3) := by decide +kernel
theorem dX5_init_10 : decode cX5_init 10 = .ok (.aload_n 0, 1) := by decide +kernel
theorem dX5_init_11 : decode cX5_init 11 = .ok (.new 15, 3) := by decide +kernel
theorem dX5_init_14 : decode cX5_init 14 = .ok (.dup, 1) := by decide +kernel
theorem dX5_init_15 : decode cX5_init 15 = .ok (.invokespecial 17, 3) := by decide +kernel
theorem dX5_init_18 : decode cX5_init 18 = .ok (.putfield 18, 3) := by decide +kernel
theorem dX5_init_21 : decode cX5_init 21 = .ok (.aload_n 0, 1) := by decide +kernel
theorem dX5_init_22 : decode cX5_init 22 = .ok (.new 22, 3) := by decide +kernel
theorem dX5_init_25 : decode cX5_init 25 = .ok (.dup, 1) := by decide +kernel
theorem dX5_init_26 : decode cX5_init 26 = .ok (.invokespecial 24, 3) := by decide +kernel
theorem dX5_init_29 : decode cX5_init 29 = .ok (.putfield 25, 3) := by decide +kernel
theorem dX5_init_32 : decode cX5_init 32 = .ok (.return_, 1) := by decide +kernel
theorem dX5_read_0 : decode cX5_read 0 = .ok (.aload_n 0, 1) := by decide +kernel
theorem dX5_read_1 : decode cX5_read 1 = .ok (.invokevirtual 29, 3) := by decide +kernel
theorem dX5_read_4 : decode cX5_read 4 = .ok (.iconst 0, 1) := by decide +kernel
theorem dX5_read_5 : decode cX5_read 5 = .ok (.istore_n 2, 1) := by decide +kernel
theorem dX5_read_6 : decode cX5_read 6 = .ok (.iload_n 2, 1) := by decide +kernel
theorem dX5_read_7 : decode cX5_read 7 = .ok (.sipush 900, 3) := by decide +kernel
theorem dX5_read_10 : decode cX5_read 10 = .ok (.if_icmp .gt 62, 3) := by decide +kernel
theorem dX5_read_13 : decode cX5_read 13 = .ok (.aload_n 0, 1) := by decide +kernel
theorem dX5_read_14 : decode cX5_read 14 = .ok (.getfield 25, 3) := by decide +kernel
theorem dX5_read_17 : decode cX5_read 17 = .ok (.aload_n 1, 1) := by decide +kernel
theorem dX5_read_18 : decode cX5_read 18 = .ok (.invokevirtual 32, 3) := by decide +kernel
theorem dX5_read_21 : decode cX5_read 21 = .ok (.aload_n 0, 1) := by decide +kernel
theorem dX5_read_22 : decode cX5_read 22 = .ok (.getfield 25, 3) := by decide +kernel
theorem dX5_read_25 : decode cX5_read 25 = .ok (.getfield 36, 3) := by decide +kernel
theorem dX5_read_28 : decode cX5_read 28 = .ok (.ifCond .ne 11, 3) := by decide +kernel
theorem dX5_read_31 : decode cX5_read 31 = .ok (.aload_n 0, 1) := by decide +kernel
theorem dX5_read_32 : decode cX5_read 32 = .ok (.getfield 39, 3) := by decide +kernel
theorem dX5_read_35 : decode cX5_read 35 = .ok (.ifCond .ne 4, 3) := by decide +kernel
theorem dX5_read_38 : decode cX5_read 38 = .ok (.return_, 1) := by decide +kernel
theorem dX5_read_39 : decode cX5_read 39 = .ok (.aload_n 0, 1) := by decide +kernel
theorem dX5_read_40 : decode cX5_read 40 = .ok (.aload_n 0, 1) := by decide +kernel
theorem dX5_read_41 : decode cX5_read 41 = .ok (.invokevirtual 42, 3) := by decide +kernel
theorem dX5_read_44 : decode cX5_read 44 = .ok (.putfield 46, 3) := by decide +kernel
theorem dX5_read_47 : decode cX5_read 47 = .ok (.aload_n 0, 1) := by decide +kernel
theorem dX5_read_48 : decode cX5_read 48 = .ok (.getfield 46, 3) := by decide +kernel
theorem dX5_read_51 : decode cX5_read 51 = .ok (.ifCond .eq 15, 3) := by decide +kernel
theorem dX5_read_54 : decode cX5_read 54 = .ok (.aload_n 0, 1) := by decide +kernel
theorem dX5_read_55 : decode cX5_read 55 = .ok (.aload_n 0, 1) := by decide +kernel
theorem dX5_read_56 : decode cX5_read 56 = .ok (.getfield 25, 3) := by decide +kernel
theorem dX5_read_59 : decode cX5_read 59 = .ok (.getfield 49, 3) := by decide +kernel
theorem dX5_read_62 : decode cX5_read 62 = .ok (.putfield 9, 3) := by decide +kernel
theorem dX5_read_65 : decode cX5_read 65 = .ok (.return_, 1) := by decide +kernel
theorem dX5_read_66 : decode cX5_read 66 = .ok (.iinc 2 1, 3) := by decide +kernel
theorem dX5_read_69 : decode cX5_read 69 = .ok (.goto (-63), 3) := by decide +kernel
theorem dX5_read_72 : decode cX5_read 72 = .ok (.return_, 1) := by decide +kernel
theorem dX5_begin_0 : decode cX5_begin 0 = .ok (.aload_n 0, 1) := by decide +kernel
theorem dX5_begin_1 : decode cX5_begin 1 = .ok (.iconst 0, 1) := by decide +kernel
theorem dX5_begin_2 : decode cX5_begin 2 = .ok (.putfield 46, 3) := by decide +kernel
theorem dX5_begin_5 : decode cX5_begin 5 = .ok (.aload_n 0, 1) := by decide +kernel
theorem dX5_begin_6 : decode cX5_begin 6 = .ok (.bipush (-2), 2) := by decide +kernel
theorem dX5_begin_8 : decode cX5_begin 8 = .ok (.putfield 9, 3) := by decide +kernel
theorem dX5_begin_11 : decode cX5_begin 11 = .ok (.aload_n 0, 1) := by decide +kernel
theorem dX5_begin_12 : decode cX5_begin 12 = .ok (.getfield 18, 3) := by decide +kernel
theorem dX5_begin_15 : decode cX5_begin 15 = .ok (.invokevirtual 52, 3) := by decide +kernel
theorem dX5_begin_18 : decode cX5_begin 18 = .ok (.aload_n 0, 1) := by decide +kernel
theorem dX5_begin_19 : decode cX5_begin 19 = .ok (.getfield 25, 3) := by decide +kernel
theorem dX5_begin_22 : decode cX5_begin 22 = .ok (.invokevirtual 55, 3) := by decide +kernel
theorem dX5_begin_25 : decode cX5_begin 25 = .ok (.aload_n 0, 1) := by decide +kernel
theorem dX5_begin_26 : decode cX5_begin 26 = .ok (.iconst 0, 1) := by decide +kernel
theorem dX5_begin_27 : decode cX5_begin 27 = .ok (.putfield 39, 3) := by decide +kernel
theorem dX5_begin_30 : decode cX5_begin 30 = .ok (.aload_n 0, 1) := by decide +kernel
theorem dX5_begin_31 : decode cX5_begin 31 = .ok (.iconst 0, 1) := by decide +kernel
theorem dX5_begin_32 : decode cX5_begin 32 = .ok (.putfield 56, 3) := by decide +kernel
theorem dX5_begin_35 : decode cX5_begin 35 = .ok (.return_, 1) := by decide +kernel
theorem dX5_take_0 : decode cX5_take 0 = .ok (.aload_n 0, 1) := by decide +kernel
theorem dX5_take_1 : decode cX5_take 1 = .ok (.getfield 39, 3) := by decide +kernel
theorem dX5_take_4 : decode cX5_take 4 = .ok (.tableswitch 124 0 11 #[64, 69, 74, 79, 84, 89, 94, 99, 104, 109, 114, 119], 64) := by decide +kernel
theorem dX5_take_68 : decode cX5_take 68 = .ok (.aload_n 0, 1) := by decide +kernel
theorem dX5_take_69 : decode cX5_take 69 = .ok (.invokevirtual 60, 3) := by decide +kernel
theorem dX5_take_72 : decode cX5_take 72 = .ok (.ireturn, 1) := by decide +kernel
theorem dX5_take_73 : decode cX5_take 73 = .ok (.aload_n 0, 1) := by decide +kernel
theorem dX5_take_74 : decode cX5_take 74 = .ok (.invokevirtual 63, 3) := by decide +kernel
theorem dX5_take_77 : decode cX5_take 77 = .ok (.ireturn, 1) := by decide +kernel
theorem dX5_take_78 : decode cX5_take 78 = .ok (.aload_n 0, 1) := by decide +kernel
theorem dX5_take_79 : decode cX5_take 79 = .ok (.invokevirtual 66, 3) := by decide +kernel
theorem dX5_take_82 : decode cX5_take 82 = .ok (.ireturn, 1) := by decide +kernel
theorem dX5_take_83 : decode cX5_take 83 = .ok (.aload_n 0, 1) := by decide +kernel
theorem dX5_take_84 : decode cX5_take 84 = .ok (.invokevirtual 69, 3) := by decide +kernel
theorem dX5_take_87 : decode cX5_take 87 = .ok (.ireturn, 1) := by decide +kernel
theorem dX5_take_88 : decode cX5_take 88 = .ok (.aload_n 0, 1) := by decide +kernel
theorem dX5_take_89 : decode cX5_take 89 = .ok (.invokevirtual 72, 3) := by decide +kernel
theorem dX5_take_92 : decode cX5_take 92 = .ok (.ireturn, 1) := by decide +kernel
theorem dX5_take_93 : decode cX5_take 93 = .ok (.aload_n 0, 1) := by decide +kernel
theorem dX5_take_94 : decode cX5_take 94 = .ok (.invokevirtual 75, 3) := by decide +kernel
theorem dX5_take_97 : decode cX5_take 97 = .ok (.ireturn, 1) := by decide +kernel
theorem dX5_take_98 : decode cX5_take 98 = .ok (.aload_n 0, 1) := by decide +kernel
theorem dX5_take_99 : decode cX5_take 99 = .ok (.invokevirtual 78, 3) := by decide +kernel
theorem dX5_take_102 : decode cX5_take 102 = .ok (.ireturn, 1) := by decide +kernel
theorem dX5_take_103 : decode cX5_take 103 = .ok (.aload_n 0, 1) := by decide +kernel
theorem dX5_take_104 : decode cX5_take 104 = .ok (.invokevirtual 81, 3) := by decide +kernel
theorem dX5_take_107 : decode cX5_take 107 = .ok (.ireturn, 1) := by decide +kernel
theorem dX5_take_108 : decode cX5_take 108 = .ok (.aload_n 0, 1) := by decide +kernel
theorem dX5_take_109 : decode cX5_take 109 = .ok (.invokevirtual 84, 3) := by decide +kernel
theorem dX5_take_112 : decode cX5_take 112 = .ok (.ireturn, 1) := by decide +kernel
theorem dX5_take_113 : decode cX5_take 113 = .ok (.aload_n 0, 1) := by decide +kernel
theorem dX5_take_114 : decode cX5_take 114 = .ok (.invokevirtual 87, 3) := by decide +kernel
theorem dX5_take_117 : decode cX5_take 117 = .ok (.ireturn, 1) := by decide +kernel
theorem dX5_take_118 : decode cX5_take 118 = .ok (.aload_n 0, 1) := by decide +kernel
theorem dX5_take_119 : decode cX5_take 119 = .ok (.invokevirtual 90, 3) := by decide +kernel
theorem dX5_take_122 : decode cX5_take 122 = .ok (.ireturn, 1) := by decide +kernel
theorem dX5_take_123 : decode cX5_take 123 = .ok (.aload_n 0, 1) := by decide +kernel
theorem dX5_take_124 : decode cX5_take 124 = .ok (.invokevirtual 93, 3) := by decide +kernel
theorem dX5_take_127 : decode cX5_take 127 = .ok (.ireturn, 1) := by decide +kernel
theorem dX5_take_128 : decode cX5_take 128 = .ok (.aload_n 0, 1) := by decide +kernel
theorem dX5_take_129 : decode cX5_take 129 = .ok (.invokevirtual 96, 3) := by decide +kernel
theorem dX5_take_132 : decode cX5_take 132 = .ok (.ireturn, 1) := by decide +kernel
theorem dX5_takeStatement_0 : decode cX5_takeStatement 0 = .ok (.aload_n 0, 1) := by decide +kernel
theorem dX5_takeStatement_1 : decode cX5_takeStatement 1 = .ok (.getfield 25, 3) := by decide +kernel
theorem dX5_takeStatement_4 : decode cX5_takeStatement 4 = .ok (.getfield 99, 3) := by decide +kernel
theorem dX5_takeStatement_7 : decode cX5_takeStatement 7 = .ok (.tableswitch 125 7 11 #[33, 125, 56, 75, 98], 33) := by decide +kernel
theorem dX5_takeStatement_40 : decode cX5_takeStatement 40 = .ok (.aload_n 0, 1) := by decide +kernel
theorem dX5_takeStatement_41 : decode cX5_takeStatement 41 = .ok (.iconst 1, 1) := by decide +kernel
theorem dX5_takeStatement_42 : decode cX5_takeStatement 42 = .ok (.putfield 39, 3) := by decide +kernel
theorem dX5_takeStatement_45 : decode cX5_takeStatement 45 = .ok (.aload_n 0, 1) := by decide +kernel
theorem dX5_takeStatement_46 : decode cX5_takeStatement 46 = .ok (.getfield 18, 3) := by decide +kernel
theorem dX5_takeStatement_49 : decode cX5_takeStatement 49 = .ok (.getfield 102, 3) := by decide +kernel
theorem dX5_takeStatement_52 : decode cX5_takeStatement 52 = .ok (.bipush 12, 2) := by decide +kernel
theorem dX5_takeStatement_54 : decode cX5_takeStatement 54 = .ok (.if_icmp .ne 7, 3) := by decide +kernel
theorem dX5_takeStatement_57 : decode cX5_takeStatement 57 = .ok (.iconst 5, 1) := by decide +kernel
theorem dX5_takeStatement_58 : decode cX5_takeStatement 58 = .ok (.goto 4, 3) := by decide +kernel
theorem dX5_takeStatement_61 : decode cX5_takeStatement 61 = .ok (.iconst 0, 1) := by decide +kernel
theorem dX5_takeStatement_62 : decode cX5_takeStatement 62 = .ok (.ireturn, 1) := by decide +kernel
theorem dX5_takeStatement_63 : decode cX5_takeStatement 63 = .ok (.aload_n 0, 1) := by decide +kernel
theorem dX5_takeStatement_64 : decode cX5_takeStatement 64 = .ok (.bipush 6, 2) := by decide +kernel
theorem dX5_takeStatement_66 : decode cX5_takeStatement 66 = .ok (.putfield 39, 3) := by decide +kernel
theorem dX5_takeStatement_69 : decode cX5_takeStatement 69 = .ok (.aload_n 0, 1) := by decide +kernel
theorem dX5_takeStatement_70 : decode cX5_takeStatement 70 = .ok (.getfield 56, 3) := by decide +kernel
theorem dX5_takeStatement_73 : decode cX5_takeStatement 73 = .ok (.ifCond .eq 7, 3) := by decide +kernel
theorem dX5_takeStatement_76 : decode cX5_takeStatement 76 = .ok (.iconst 4, 1) := by decide +kernel
theorem dX5_takeStatement_77 : decode cX5_takeStatement 77 = .ok (.goto 4, 3) := by decide +kernel
theorem dX5_takeStatement_80 : decode cX5_takeStatement 80 = .ok (.iconst 0, 1) := by decide +kernel
theorem dX5_takeStatement_81 : decode cX5_takeStatement 81 = .ok (.ireturn, 1) := by decide +kernel
theorem dX5_takeStatement_82 : decode cX5_takeStatement 82 = .ok (.aload_n 0, 1) := by decide +kernel
theorem dX5_takeStatement_83 : decode cX5_takeStatement 83 = .ok (.bipush 7, 2) := by decide +kernel
theorem dX5_takeStatement_85 : decode cX5_takeStatement 85 = .ok (.putfield 39, 3) := by decide +kernel
theorem dX5_takeStatement_88 : decode cX5_takeStatement 88 = .ok (.aload_n 0, 1) := by decide +kernel
theorem dX5_takeStatement_89 : decode cX5_takeStatement 89 = .ok (.getfield 18, 3) := by decide +kernel
theorem dX5_takeStatement_92 : decode cX5_takeStatement 92 = .ok (.getfield 105, 3) := by decide +kernel
theorem dX5_takeStatement_95 : decode cX5_takeStatement 95 = .ok (.iconst (-1), 1) := by decide +kernel
theorem dX5_takeStatement_96 : decode cX5_takeStatement 96 = .ok (.if_icmp .eq 7, 3) := by decide +kernel
theorem dX5_takeStatement_99 : decode cX5_takeStatement 99 = .ok (.iconst 4, 1) := by decide +kernel
theorem dX5_takeStatement_100 : decode cX5_takeStatement 100 = .ok (.goto 4, 3) := by decide +kernel
theorem dX5_takeStatement_103 : decode cX5_takeStatement 103 = .ok (.iconst 0, 1) := by decide +kernel
theorem dX5_takeStatement_104 : decode cX5_takeStatement 104 = .ok (.ireturn, 1) := by decide +kernel
theorem dX5_takeStatement_105 : decode cX5_takeStatement 105 = .ok (.aload_n 0, 1) := by decide +kernel
theorem dX5_takeStatement_106 : decode cX5_takeStatement 106 = .ok (.bipush 8, 2) := by decide +kernel
theorem dX5_takeStatement_108 : decode cX5_takeStatement 108 = .ok (.putfield 39, 3) := by decide +kernel
theorem dX5_takeStatement_111 : decode cX5_takeStatement 111 = .ok (.aload_n 0, 1) := by decide +kernel
theorem dX5_takeStatement_112 : decode cX5_takeStatement 112 = .ok (.getfield 18, 3) := by decide +kernel
theorem dX5_takeStatement_115 : decode cX5_takeStatement 115 = .ok (.getfield 108, 3) := by decide +kernel
theorem dX5_takeStatement_118 : decode cX5_takeStatement 118 = .ok (.getfield 112, 3) := by decide +kernel
theorem dX5_takeStatement_121 : decode cX5_takeStatement 121 = .ok (.bipush 12, 2) := by decide +kernel
theorem dX5_takeStatement_123 : decode cX5_takeStatement 123 = .ok (.if_icmp .ne 7, 3) := by decide +kernel
theorem dX5_takeStatement_126 : decode cX5_takeStatement 126 = .ok (.iconst 5, 1) := by decide +kernel
theorem dX5_takeStatement_127 : decode cX5_takeStatement 127 = .ok (.goto 4, 3) := by decide +kernel
theorem dX5_takeStatement_130 : decode cX5_takeStatement 130 = .ok (.iconst 0, 1) := by decide +kernel
theorem dX5_takeStatement_131 : decode cX5_takeStatement 131 = .ok (.ireturn, 1) := by decide +kernel
theorem dX5_takeStatement_132 : decode cX5_takeStatement 132 = .ok (.iconst 1, 1) := by decide +kernel
theorem dX5_takeStatement_133 : decode cX5_takeStatement 133 = .ok (.ireturn, 1) := by decide +kernel
theorem dX5_isName_0 : decode cX5_isName 0 = .ok (.aload_n 0, 1) := by decide +kernel
theorem dX5_isName_1 : decode cX5_isName 1 = .ok (.getfield 25, 3) := by decide +kernel
theorem dX5_isName_4 : decode cX5_isName 4 = .ok (.getfield 36, 3) := by decide +kernel
theorem dX5_isName_7 : decode cX5_isName 7 = .ok (.iconst 1, 1) := by decide +kernel
theorem dX5_isName_8 : decode cX5_isName 8 = .ok (.if_icmp .ne 18, 3) := by decide +kernel
theorem dX5_isName_11 : decode cX5_isName 11 = .ok (.aload_n 0, 1) := by decide +kernel
theorem dX5_isName_12 : decode cX5_isName 12 = .ok (.getfield 25, 3) := by decide +kernel
theorem dX5_isName_15 : decode cX5_isName 15 = .ok (.getfield 99, 3) := by decide +kernel
theorem dX5_isName_18 : decode cX5_isName 18 = .ok (.iconst (-1), 1) := by decide +kernel
theorem dX5_isName_19 : decode cX5_isName 19 = .ok (.if_icmp .ne 7, 3) := by decide +kernel
theorem dX5_isName_22 : decode cX5_isName 22 = .ok (.iconst 1, 1) := by decide +kernel
theorem dX5_isName_23 : decode cX5_isName 23 = .ok (.goto 4, 3) := by decide +kernel
theorem dX5_isName_26 : decode cX5_isName 26 = .ok (.iconst 0, 1) := by decide +kernel
theorem dX5_isName_27 : decode cX5_isName 27 = .ok (.ireturn, 1) := by decide +kernel
theorem dX5_takeNodeName_0 : decode cX5_takeNodeName 0 = .ok (.aload_n 0, 1) := by decide +kernel
theorem dX5_takeNodeName_1 : decode cX5_takeNodeName 1 = .ok (.invokevirtual 117, 3) := by decide +kernel
theorem dX5_takeNodeName_4 : decode cX5_takeNodeName 4 = .ok (.ifCond .ne 5, 3) := by decide +kernel
theorem dX5_takeNodeName_7 : decode cX5_takeNodeName 7 = .ok (.iconst 1, 1) := by decide +kernel
theorem dX5_takeNodeName_8 : decode cX5_takeNodeName 8 = .ok (.ireturn, 1) := by decide +kernel
theorem dX5_takeNodeName_9 : decode cX5_takeNodeName 9 = .ok (.aload_n 0, 1) := by decide +kernel
theorem dX5_takeNodeName_10 : decode cX5_takeNodeName 10 = .ok (.getfield 18, 3) := by decide +kernel
theorem dX5_takeNodeName_13 : decode cX5_takeNodeName 13 = .ok (.aload_n 0, 1) := by decide +kernel
theorem dX5_takeNodeName_14 : decode cX5_takeNodeName 14 = .ok (.getfield 25, 3) := by decide +kernel
theorem dX5_takeNodeName_17 : decode cX5_takeNodeName 17 = .ok (.getfield 121, 3) := by decide +kernel
theorem dX5_takeNodeName_20 : decode cX5_takeNodeName 20 = .ok (.invokevirtual 125, 3) := by decide +kernel
theorem dX5_takeNodeName_23 : decode cX5_takeNodeName 23 = .ok (.bipush (-2), 2) := by decide +kernel
theorem dX5_takeNodeName_25 : decode cX5_takeNodeName 25 = .ok (.if_icmp .eq 5, 3) := by decide +kernel
theorem dX5_takeNodeName_28 : decode cX5_takeNodeName 28 = .ok (.iconst 3, 1) := by decide +kernel
theorem dX5_takeNodeName_29 : decode cX5_takeNodeName 29 = .ok (.ireturn, 1) := by decide +kernel
theorem dX5_takeNodeName_30 : decode cX5_takeNodeName 30 = .ok (.aload_n 0, 1) := by decide +kernel
theorem dX5_takeNodeName_31 : decode cX5_takeNodeName 31 = .ok (.aload_n 0, 1) := by decide +kernel
theorem dX5_takeNodeName_32 : decode cX5_takeNodeName 32 = .ok (.getfield 25, 3) := by decide +kernel
theorem dX5_takeNodeName_35 : decode cX5_takeNodeName 35 = .ok (.getfield 121, 3) := by decide +kernel
theorem dX5_takeNodeName_38 : decode cX5_takeNodeName 38 = .ok (.putfield 129, 3) := by decide +kernel
theorem dX5_takeNodeName_41 : decode cX5_takeNodeName 41 = .ok (.aload_n 0, 1) := by decide +kernel
theorem dX5_takeNodeName_42 : decode cX5_takeNodeName 42 = .ok (.getfield 18, 3) := by decide +kernel
theorem dX5_takeNodeName_45 : decode cX5_takeNodeName 45 = .ok (.getfield 102, 3) := by decide +kernel
theorem dX5_takeNodeName_48 : decode cX5_takeNodeName 48 = .ok (.ifCond .ne 12, 3) := by decide +kernel
theorem dX5_takeNodeName_51 : decode cX5_takeNodeName 51 = .ok (.aload_n 0, 1) := by decide +kernel
theorem dX5_takeNodeName_52 : decode cX5_takeNodeName 52 = .ok (.bipush (-2), 2) := by decide +kernel
theorem dX5_takeNodeName_54 : decode cX5_takeNodeName 54 = .ok (.invokevirtual 132, 3) := by decide +kernel
theorem dX5_takeNodeName_57 : decode cX5_takeNodeName 57 = .ok (.goto 8, 3) := by decide +kernel
theorem dX5_takeNodeName_60 : decode cX5_takeNodeName 60 = .ok (.aload_n 0, 1) := by decide +kernel
theorem dX5_takeNodeName_61 : decode cX5_takeNodeName 61 = .ok (.iconst 2, 1) := by decide +kernel
theorem dX5_takeNodeName_62 : decode cX5_takeNodeName 62 = .ok (.putfield 39, 3) := by decide +kernel
theorem dX5_takeNodeName_65 : decode cX5_takeNodeName 65 = .ok (.iconst 0, 1) := by decide +kernel
theorem dX5_takeNodeName_66 : decode cX5_takeNodeName 66 = .ok (.ireturn, 1) := by decide +kernel
theorem dX5_takeIn_0 : decode cX5_takeIn 0 = .ok (.aload_n 0, 1) := by decide +kernel
theorem dX5_takeIn_1 : decode cX5_takeIn 1 = .ok (.iconst 3, 1) := by decide +kernel
theorem dX5_takeIn_2 : decode cX5_takeIn 2 = .ok (.putfield 39, 3) := by decide +kernel
theorem dX5_takeIn_5 : decode cX5_takeIn 5 = .ok (.aload_n 0, 1) := by decide +kernel
theorem dX5_takeIn_6 : decode cX5_takeIn 6 = .ok (.getfield 25, 3) := by decide +kernel
theorem dX5_takeIn_9 : decode cX5_takeIn 9 = .ok (.getfield 99, 3) := by decide +kernel
theorem dX5_takeIn_12 : decode cX5_takeIn 12 = .ok (.bipush 8, 2) := by decide +kernel
theorem dX5_takeIn_14 : decode cX5_takeIn 14 = .ok (.if_icmp .ne 7, 3) := by decide +kernel
theorem dX5_takeIn_17 : decode cX5_takeIn 17 = .ok (.iconst 0, 1) := by decide +kernel
theorem dX5_takeIn_18 : decode cX5_takeIn 18 = .ok (.goto 4, 3) := by decide +kernel
theorem dX5_takeIn_21 : decode cX5_takeIn 21 = .ok (.iconst 1, 1) := by decide +kernel
theorem dX5_takeIn_22 : decode cX5_takeIn 22 = .ok (.ireturn, 1) := by decide +kernel
theorem dX5_takeParentName_0 : decode cX5_takeParentName 0 = .ok (.aload_n 0, 1) := by decide +kernel
theorem dX5_takeParentName_1 : decode cX5_takeParentName 1 = .ok (.invokevirtual 117, 3) := by decide +kernel
theorem dX5_takeParentName_4 : decode cX5_takeParentName 4 = .ok (.ifCond .ne 5, 3) := by decide +kernel
theorem dX5_takeParentName_7 : decode cX5_takeParentName 7 = .ok (.iconst 1, 1) := by decide +kernel
theorem dX5_takeParentName_8 : decode cX5_takeParentName 8 = .ok (.ireturn, 1) := by decide +kernel
theorem dX5_takeParentName_9 : decode cX5_takeParentName 9 = .ok (.aload_n 0, 1) := by decide +kernel
theorem dX5_takeParentName_10 : decode cX5_takeParentName 10 = .ok (.getfield 18, 3) := by decide +kernel
theorem dX5_takeParentName_13 : decode cX5_takeParentName 13 = .ok (.aload_n 0, 1) := by decide +kernel
theorem dX5_takeParentName_14 : decode cX5_takeParentName 14 = .ok (.getfield 25, 3) := by decide +kernel
theorem dX5_takeParentName_17 : decode cX5_takeParentName 17 = .ok (.getfield 121, 3) := by decide +kernel
theorem dX5_takeParentName_20 : decode cX5_takeParentName 20 = .ok (.invokevirtual 125, 3) := by decide +kernel
theorem dX5_takeParentName_23 : decode cX5_takeParentName 23 = .ok (.istore_n 1, 1) := by decide +kernel
theorem dX5_takeParentName_24 : decode cX5_takeParentName 24 = .ok (.iload_n 1, 1) := by decide +kernel
theorem dX5_takeParentName_25 : decode cX5_takeParentName 25 = .ok (.bipush (-2), 2) := by decide +kernel
theorem dX5_takeParentName_27 : decode cX5_takeParentName 27 = .ok (.if_icmp .ne 5, 3) := by decide +kernel
theorem dX5_takeParentName_30 : decode cX5_takeParentName 30 = .ok (.iconst 3, 1) := by decide +kernel
theorem dX5_takeParentName_31 : decode cX5_takeParentName 31 = .ok (.ireturn, 1) := by decide +kernel
theorem dX5_takeParentName_32 : decode cX5_takeParentName 32 = .ok (.aload_n 0, 1) := by decide +kernel
theorem dX5_takeParentName_33 : decode cX5_takeParentName 33 = .ok (.iload_n 1, 1) := by decide +kernel
theorem dX5_takeParentName_34 : decode cX5_takeParentName 34 = .ok (.invokevirtual 132, 3) := by decide +kernel
theorem dX5_takeParentName_37 : decode cX5_takeParentName 37 = .ok (.iconst 0, 1) := by decide +kernel
theorem dX5_takeParentName_38 : decode cX5_takeParentName 38 = .ok (.ireturn, 1) := by decide +kernel
theorem dX5_addNode_0 : decode cX5_addNode 0 = .ok (.aload_n 0, 1) := by decide +kernel
theorem dX5_addNode_1 : decode cX5_addNode 1 = .ok (.getfield 18, 3) := by decide +kernel
theorem dX5_addNode_4 : decode cX5_addNode 4 = .ok (.aload_n 0, 1) := by decide +kernel
theorem dX5_addNode_5 : decode cX5_addNode 5 = .ok (.getfield 129, 3) := by decide +kernel
theorem dX5_addNode_8 : decode cX5_addNode 8 = .ok (.iload_n 1, 1) := by decide +kernel
theorem dX5_addNode_9 : decode cX5_addNode 9 = .ok (.invokevirtual 136, 3) := by decide +kernel
theorem dX5_addNode_12 : decode cX5_addNode 12 = .ok (.aload_n 0, 1) := by decide +kernel
theorem dX5_addNode_13 : decode cX5_addNode 13 = .ok (.iconst 0, 1) := by decide +kernel
theorem dX5_addNode_14 : decode cX5_addNode 14 = .ok (.putfield 139, 3) := by decide +kernel
theorem dX5_addNode_17 : decode cX5_addNode 17 = .ok (.aload_n 0, 1) := by decide +kernel
theorem dX5_addNode_18 : decode cX5_addNode 18 = .ok (.iconst 4, 1) := by decide +kernel
theorem dX5_addNode_19 : decode cX5_addNode 19 = .ok (.putfield 39, 3) := by decide +kernel
theorem dX5_addNode_22 : decode cX5_addNode 22 = .ok (.return_, 1) := by decide +kernel
theorem dX5_takeSetting_0 : decode cX5_takeSetting 0 = .ok (.aload_n 0, 1) := by decide +kernel
theorem dX5_takeSetting_1 : decode cX5_takeSetting 1 = .ok (.getfield 25, 3) := by decide +kernel
theorem dX5_takeSetting_4 : decode cX5_takeSetting 4 = .ok (.getfield 36, 3) := by decide +kernel
theorem dX5_takeSetting_7 : decode cX5_takeSetting 7 = .ok (.iconst 3, 1) := by decide +kernel
theorem dX5_takeSetting_8 : decode cX5_takeSetting 8 = .ok (.if_icmp .ne 9, 3) := by decide +kernel
theorem dX5_takeSetting_11 : decode cX5_takeSetting 11 = .ok (.aload_n 0, 1) := by decide +kernel
theorem dX5_takeSetting_12 : decode cX5_takeSetting 12 = .ok (.invokevirtual 142, 3) := by decide +kernel
theorem dX5_takeSetting_15 : decode cX5_takeSetting 15 = .ok (.iconst 0, 1) := by decide +kernel
theorem dX5_takeSetting_16 : decode cX5_takeSetting 16 = .ok (.ireturn, 1) := by decide +kernel
theorem dX5_takeSetting_17 : decode cX5_takeSetting 17 = .ok (.aload_n 0, 1) := by decide +kernel
theorem dX5_takeSetting_18 : decode cX5_takeSetting 18 = .ok (.aload_n 0, 1) := by decide +kernel
theorem dX5_takeSetting_19 : decode cX5_takeSetting 19 = .ok (.getfield 25, 3) := by decide +kernel
theorem dX5_takeSetting_22 : decode cX5_takeSetting 22 = .ok (.getfield 99, 3) := by decide +kernel
theorem dX5_takeSetting_25 : decode cX5_takeSetting 25 = .ok (.putfield 145, 3) := by decide +kernel
theorem dX5_takeSetting_28 : decode cX5_takeSetting 28 = .ok (.aload_n 0, 1) := by decide +kernel
theorem dX5_takeSetting_29 : decode cX5_takeSetting 29 = .ok (.getfield 145, 3) := by decide +kernel
theorem dX5_takeSetting_32 : decode cX5_takeSetting 32 = .ok (.ifCond .lt 12, 3) := by decide +kernel
theorem dX5_takeSetting_35 : decode cX5_takeSetting 35 = .ok (.aload_n 0, 1) := by decide +kernel
theorem dX5_takeSetting_36 : decode cX5_takeSetting 36 = .ok (.getfield 145, 3) := by decide +kernel
theorem dX5_takeSetting_39 : decode cX5_takeSetting 39 = .ok (.bipush 6, 2) := by decide +kernel
theorem dX5_takeSetting_41 : decode cX5_takeSetting 41 = .ok (.if_icmp .le 5, 3) := by decide +kernel
theorem dX5_takeSetting_44 : decode cX5_takeSetting 44 = .ok (.iconst 1, 1) := by decide +kernel
theorem dX5_takeSetting_45 : decode cX5_takeSetting 45 = .ok (.ireturn, 1) := by decide +kernel
theorem dX5_takeSetting_46 : decode cX5_takeSetting 46 = .ok (.aload_n 0, 1) := by decide +kernel
theorem dX5_takeSetting_47 : decode cX5_takeSetting 47 = .ok (.getfield 139, 3) := by decide +kernel
theorem dX5_takeSetting_50 : decode cX5_takeSetting 50 = .ok (.aload_n 0, 1) := by decide +kernel
theorem dX5_takeSetting_51 : decode cX5_takeSetting 51 = .ok (.getfield 145, 3) := by decide +kernel
theorem dX5_takeSetting_54 : decode cX5_takeSetting 54 = .ok (.ishr, 1) := by decide +kernel
theorem dX5_takeSetting_55 : decode cX5_takeSetting 55 = .ok (.iconst 1, 1) := by decide +kernel
theorem dX5_takeSetting_56 : decode cX5_takeSetting 56 = .ok (.iand, 1) := by decide +kernel
theorem dX5_takeSetting_57 : decode cX5_takeSetting 57 = .ok (.iconst 1, 1) := by decide +kernel
theorem dX5_takeSetting_58 : decode cX5_takeSetting 58 = .ok (.if_icmp .ne 5, 3) := by decide +kernel
theorem dX5_takeSetting_61 : decode cX5_takeSetting 61 = .ok (.iconst 4, 1) := by decide +kernel
theorem dX5_takeSetting_62 : decode cX5_takeSetting 62 = .ok (.ireturn, 1) := by decide +kernel
theorem dX5_takeSetting_63 : decode cX5_takeSetting 63 = .ok (.aload_n 0, 1) := by decide +kernel
theorem dX5_takeSetting_64 : decode cX5_takeSetting 64 = .ok (.dup, 1) := by decide +kernel
theorem dX5_takeSetting_65 : decode cX5_takeSetting 65 = .ok (.getfield 139, 3) := by decide +kernel
theorem dX5_takeSetting_68 : decode cX5_takeSetting 68 = .ok (.iconst 1, 1) := by decide +kernel
theorem dX5_takeSetting_69 : decode cX5_takeSetting 69 = .ok (.aload_n 0, 1) := by decide +kernel
theorem dX5_takeSetting_70 : decode cX5_takeSetting 70 = .ok (.getfield 145, 3) := by decide +kernel
theorem dX5_takeSetting_73 : decode cX5_takeSetting 73 = .ok (.ishl, 1) := by decide +kernel
theorem dX5_takeSetting_74 : decode cX5_takeSetting 74 = .ok (.ior, 1) := by decide +kernel
theorem dX5_takeSetting_75 : decode cX5_takeSetting 75 = .ok (.putfield 139, 3) := by decide +kernel
theorem dX5_takeSetting_78 : decode cX5_takeSetting 78 = .ok (.aload_n 0, 1) := by decide +kernel
theorem dX5_takeSetting_79 : decode cX5_takeSetting 79 = .ok (.getfield 18, 3) := by decide +kernel
theorem dX5_takeSetting_82 : decode cX5_takeSetting 82 = .ok (.getfield 102, 3) := by decide +kernel
theorem dX5_takeSetting_85 : decode cX5_takeSetting 85 = .ok (.iconst 1, 1) := by decide +kernel
theorem dX5_takeSetting_86 : decode cX5_takeSetting 86 = .ok (.isub, 1) := by decide +kernel
theorem dX5_takeSetting_87 : decode cX5_takeSetting 87 = .ok (.istore_n 1, 1) := by decide +kernel
theorem dX5_takeSetting_88 : decode cX5_takeSetting 88 = .ok (.aload_n 0, 1) := by decide +kernel
theorem dX5_takeSetting_89 : decode cX5_takeSetting 89 = .ok (.getfield 145, 3) := by decide +kernel
theorem dX5_takeSetting_92 : decode cX5_takeSetting 92 = .ok (.bipush 6, 2) := by decide +kernel
theorem dX5_takeSetting_94 : decode cX5_takeSetting 94 = .ok (.if_icmp .eq 11, 3) := by decide +kernel
theorem dX5_takeSetting_97 : decode cX5_takeSetting 97 = .ok (.aload_n 0, 1) := by decide +kernel
theorem dX5_takeSetting_98 : decode cX5_takeSetting 98 = .ok (.iconst 5, 1) := by decide +kernel
theorem dX5_takeSetting_99 : decode cX5_takeSetting 99 = .ok (.putfield 39, 3) := by decide +kernel
theorem dX5_takeSetting_102 : decode cX5_takeSetting 102 = .ok (.goto 24, 3) := by decide +kernel
theorem dX5_takeSetting_105 : decode cX5_takeSetting 105 = .ok (.aload_n 0, 1) := by decide +kernel
theorem dX5_takeSetting_106 : decode cX5_takeSetting 106 = .ok (.getfield 18, 3) := by decide +kernel
theorem dX5_takeSetting_109 : decode cX5_takeSetting 109 = .ok (.iload_n 1, 1) := by decide +kernel
theorem dX5_takeSetting_110 : decode cX5_takeSetting 110 = .ok (.invokevirtual 148, 3) := by decide +kernel
theorem dX5_takeSetting_113 : decode cX5_takeSetting 113 = .ok (.ifCond .eq 13, 3) := by decide +kernel
theorem dX5_takeSetting_116 : decode cX5_takeSetting 116 = .ok (.aload_n 0, 1) := by decide +kernel
theorem dX5_takeSetting_117 : decode cX5_takeSetting 117 = .ok (.getfield 18, 3) := by decide +kernel
theorem dX5_takeSetting_120 : decode cX5_takeSetting 120 = .ok (.getfield 152, 3) := by decide +kernel
theorem dX5_takeSetting_123 : decode cX5_takeSetting 123 = .ok (.iload_n 1, 1) := by decide +kernel
theorem dX5_takeSetting_124 : decode cX5_takeSetting 124 = .ok (.iconst 1, 1) := by decide +kernel
theorem dX5_takeSetting_125 : decode cX5_takeSetting 125 = .ok (.bastore, 1) := by decide +kernel
theorem dX5_takeSetting_126 : decode cX5_takeSetting 126 = .ok (.iconst 0, 1) := by decide +kernel
theorem dX5_takeSetting_127 : decode cX5_takeSetting 127 = .ok (.ireturn, 1) := by decide +kernel
theorem dX5_finishNode_0 : decode cX5_finishNode 0 = .ok (.aload_n 0, 1) := by decide +kernel
theorem dX5_finishNode_1 : decode cX5_finishNode 1 = .ok (.getfield 18, 3) := by decide +kernel
theorem dX5_finishNode_4 : decode cX5_finishNode 4 = .ok (.getfield 102, 3) := by decide +kernel
theorem dX5_finishNode_7 : decode cX5_finishNode 7 = .ok (.iconst 1, 1) := by decide +kernel
theorem dX5_finishNode_8 : decode cX5_finishNode 8 = .ok (.isub, 1) := by decide +kernel
theorem dX5_finishNode_9 : decode cX5_finishNode 9 = .ok (.istore_n 1, 1) := by decide +kernel
theorem dX5_finishNode_10 : decode cX5_finishNode 10 = .ok (.aload_n 0, 1) := by decide +kernel
theorem dX5_finishNode_11 : decode cX5_finishNode 11 = .ok (.getfield 18, 3) := by decide +kernel
theorem dX5_finishNode_14 : decode cX5_finishNode 14 = .ok (.iload_n 1, 1) := by decide +kernel
theorem dX5_finishNode_15 : decode cX5_finishNode 15 = .ok (.invokevirtual 148, 3) := by decide +kernel
theorem dX5_finishNode_18 : decode cX5_finishNode 18 = .ok (.ifCond .eq 32, 3) := by decide +kernel
theorem dX5_finishNode_21 : decode cX5_finishNode 21 = .ok (.aload_n 0, 1) := by decide +kernel
theorem dX5_finishNode_22 : decode cX5_finishNode 22 = .ok (.getfield 139, 3) := by decide +kernel
theorem dX5_finishNode_25 : decode cX5_finishNode 25 = .ok (.iconst 1, 1) := by decide +kernel
theorem dX5_finishNode_26 : decode cX5_finishNode 26 = .ok (.ishr, 1) := by decide +kernel
theorem dX5_finishNode_27 : decode cX5_finishNode 27 = .ok (.iconst 1, 1) := by decide +kernel
theorem dX5_finishNode_28 : decode cX5_finishNode 28 = .ok (.iand, 1) := by decide +kernel
theorem dX5_finishNode_29 : decode cX5_finishNode 29 = .ok (.ifCond .ne 21, 3) := by decide +kernel
theorem dX5_finishNode_32 : decode cX5_finishNode 32 = .ok (.aload_n 0, 1) := by decide +kernel
theorem dX5_finishNode_33 : decode cX5_finishNode 33 = .ok (.getfield 18, 3) := by decide +kernel
theorem dX5_finishNode_36 : decode cX5_finishNode 36 = .ok (.getfield 156, 3) := by decide +kernel
theorem dX5_finishNode_39 : decode cX5_finishNode 39 = .ok (.iload_n 1, 1) := by decide +kernel
theorem dX5_finishNode_40 : decode cX5_finishNode 40 = .ok (.aload_n 0, 1) := by decide +kernel
theorem dX5_finishNode_41 : decode cX5_finishNode 41 = .ok (.getfield 18, 3) := by decide +kernel
theorem dX5_finishNode_44 : decode cX5_finishNode 44 = .ok (.getfield 160, 3) := by decide +kernel
theorem dX5_finishNode_47 : decode cX5_finishNode 47 = .ok (.iload_n 1, 1) := by decide +kernel
theorem dX5_finishNode_48 : decode cX5_finishNode 48 = .ok (.iaload, 1) := by decide +kernel
theorem dX5_finishNode_49 : decode cX5_finishNode 49 = .ok (.iastore, 1) := by decide +kernel
theorem dX5_finishNode_50 : decode cX5_finishNode 50 = .ok (.aload_n 0, 1) := by decide +kernel
theorem dX5_finishNode_51 : decode cX5_finishNode 51 = .ok (.iconst 0, 1) := by decide +kernel
theorem dX5_finishNode_52 : decode cX5_finishNode 52 = .ok (.putfield 39, 3) := by decide +kernel
theorem dX5_finishNode_55 : decode cX5_finishNode 55 = .ok (.return_, 1) := by decide +kernel
theorem dX5_takeSettingValue_0 : decode cX5_takeSettingValue 0 = .ok (.aload_n 0, 1) := by decide +kernel
theorem dX5_takeSettingValue_1 : decode cX5_takeSettingValue 1 = .ok (.aload_n 0, 1) := by decide +kernel
theorem dX5_takeSettingValue_2 : decode cX5_takeSettingValue 2 = .ok (.getfield 145, 3) := by decide +kernel
theorem dX5_takeSettingValue_5 : decode cX5_takeSettingValue 5 = .ok (.invokevirtual 163, 3) := by decide +kernel
theorem dX5_takeSettingValue_8 : decode cX5_takeSettingValue 8 = .ok (.istore_n 1, 1) := by decide +kernel
theorem dX5_takeSettingValue_9 : decode cX5_takeSettingValue 9 = .ok (.aload_n 0, 1) := by decide +kernel
theorem dX5_takeSettingValue_10 : decode cX5_takeSettingValue 10 = .ok (.getfield 18, 3) := by decide +kernel
theorem dX5_takeSettingValue_13 : decode cX5_takeSettingValue 13 = .ok (.getfield 102, 3) := by decide +kernel
theorem dX5_takeSettingValue_16 : decode cX5_takeSettingValue 16 = .ok (.iconst 1, 1) := by decide +kernel
theorem dX5_takeSettingValue_17 : decode cX5_takeSettingValue 17 = .ok (.isub, 1) := by decide +kernel
theorem dX5_takeSettingValue_18 : decode cX5_takeSettingValue 18 = .ok (.istore_n 2, 1) := by decide +kernel
theorem dX5_takeSettingValue_19 : decode cX5_takeSettingValue 19 = .ok (.iload_n 1, 1) := by decide +kernel
theorem dX5_takeSettingValue_20 : decode cX5_takeSettingValue 20 = .ok (.ifCond .ne 34, 3) := by decide +kernel
theorem dX5_takeSettingValue_23 : decode cX5_takeSettingValue 23 = .ok (.aload_n 0, 1) := by decide +kernel
theorem dX5_takeSettingValue_24 : decode cX5_takeSettingValue 24 = .ok (.getfield 18, 3) := by decide +kernel
theorem dX5_takeSettingValue_27 : decode cX5_takeSettingValue 27 = .ok (.iload_n 2, 1) := by decide +kernel
theorem dX5_takeSettingValue_28 : decode cX5_takeSettingValue 28 = .ok (.invokevirtual 148, 3) := by decide +kernel
theorem dX5_takeSettingValue_31 : decode cX5_takeSettingValue 31 = .ok (.ifCond .eq 23, 3) := by decide +kernel
theorem dX5_takeSettingValue_34 : decode cX5_takeSettingValue 34 = .ok (.aload_n 0, 1) := by decide +kernel
theorem dX5_takeSettingValue_35 : decode cX5_takeSettingValue 35 = .ok (.getfield 18, 3) := by decide +kernel
theorem dX5_takeSettingValue_38 : decode cX5_takeSettingValue 38 = .ok (.aload_n 0, 1) := by decide +kernel
theorem dX5_takeSettingValue_39 : decode cX5_takeSettingValue 39 = .ok (.getfield 145, 3) := by decide +kernel
theorem dX5_takeSettingValue_42 : decode cX5_takeSettingValue 42 = .ok (.invokevirtual 167, 3) := by decide +kernel
theorem dX5_takeSettingValue_45 : decode cX5_takeSettingValue 45 = .ok (.iload_n 2, 1) := by decide +kernel
theorem dX5_takeSettingValue_46 : decode cX5_takeSettingValue 46 = .ok (.aload_n 0, 1) := by decide +kernel
theorem dX5_takeSettingValue_47 : decode cX5_takeSettingValue 47 = .ok (.getfield 25, 3) := by decide +kernel
theorem dX5_takeSettingValue_50 : decode cX5_takeSettingValue 50 = .ok (.getfield 171, 3) := by decide +kernel
theorem dX5_takeSettingValue_53 : decode cX5_takeSettingValue 53 = .ok (.iastore, 1) := by decide +kernel
theorem dX5_takeSettingValue_54 : decode cX5_takeSettingValue 54 = .ok (.aload_n 0, 1) := by decide +kernel
theorem dX5_takeSettingValue_55 : decode cX5_takeSettingValue 55 = .ok (.iconst 4, 1) := by decide +kernel
theorem dX5_takeSettingValue_56 : decode cX5_takeSettingValue 56 = .ok (.putfield 39, 3) := by decide +kernel
theorem dX5_takeSettingValue_59 : decode cX5_takeSettingValue 59 = .ok (.iload_n 1, 1) := by decide +kernel
theorem dX5_takeSettingValue_60 : decode cX5_takeSettingValue 60 = .ok (.ireturn, 1) := by decide +kernel
theorem dX5_numberFault_0 : decode cX5_numberFault 0 = .ok (.aload_n 0, 1) := by decide +kernel
theorem dX5_numberFault_1 : decode cX5_numberFault 1 = .ok (.getfield 25, 3) := by decide +kernel
theorem dX5_numberFault_4 : decode cX5_numberFault 4 = .ok (.getfield 36, 3) := by decide +kernel
theorem dX5_numberFault_7 : decode cX5_numberFault 7 = .ok (.iconst 2, 1) := by decide +kernel
theorem dX5_numberFault_8 : decode cX5_numberFault 8 = .ok (.if_icmp .eq 5, 3) := by decide +kernel
theorem dX5_numberFault_11 : decode cX5_numberFault 11 = .ok (.iconst 1, 1) := by decide +kernel
theorem dX5_numberFault_12 : decode cX5_numberFault 12 = .ok (.ireturn, 1) := by decide +kernel
theorem dX5_numberFault_13 : decode cX5_numberFault 13 = .ok (.iload_n 1, 1) := by decide +kernel
theorem dX5_numberFault_14 : decode cX5_numberFault 14 = .ok (.aload_n 0, 1) := by decide +kernel
theorem dX5_numberFault_15 : decode cX5_numberFault 15 = .ok (.getfield 25, 3) := by decide +kernel
theorem dX5_numberFault_18 : decode cX5_numberFault 18 = .ok (.getfield 171, 3) := by decide +kernel
theorem dX5_numberFault_21 : decode cX5_numberFault 21 = .ok (.invokestatic 174, 3) := by decide +kernel
theorem dX5_numberFault_24 : decode cX5_numberFault 24 = .ok (.ifCond .eq 7, 3) := by decide +kernel
theorem dX5_numberFault_27 : decode cX5_numberFault 27 = .ok (.iconst 0, 1) := by decide +kernel
theorem dX5_numberFault_28 : decode cX5_numberFault 28 = .ok (.goto 4, 3) := by decide +kernel
theorem dX5_numberFault_31 : decode cX5_numberFault 31 = .ok (.iconst 2, 1) := by decide +kernel
theorem dX5_numberFault_32 : decode cX5_numberFault 32 = .ok (.ireturn, 1) := by decide +kernel
theorem dX5_numberFault__0 : decode cX5_numberFault_ 0 = .ok (.aload_n 0, 1) := by decide +kernel
theorem dX5_numberFault__1 : decode cX5_numberFault_ 1 = .ok (.getfield 25, 3) := by decide +kernel
theorem dX5_numberFault__4 : decode cX5_numberFault_ 4 = .ok (.getfield 36, 3) := by decide +kernel
theorem dX5_numberFault__7 : decode cX5_numberFault_ 7 = .ok (.iconst 2, 1) := by decide +kernel
theorem dX5_numberFault__8 : decode cX5_numberFault_ 8 = .ok (.if_icmp .eq 5, 3) := by decide +kernel
theorem dX5_numberFault__11 : decode cX5_numberFault_ 11 = .ok (.iconst 1, 1) := by decide +kernel
theorem dX5_numberFault__12 : decode cX5_numberFault_ 12 = .ok (.ireturn, 1) := by decide +kernel
theorem dX5_numberFault__13 : decode cX5_numberFault_ 13 = .ok (.aload_n 0, 1) := by decide +kernel
theorem dX5_numberFault__14 : decode cX5_numberFault_ 14 = .ok (.getfield 25, 3) := by decide +kernel
theorem dX5_numberFault__17 : decode cX5_numberFault_ 17 = .ok (.getfield 171, 3) := by decide +kernel
theorem dX5_numberFault__20 : decode cX5_numberFault_ 20 = .ok (.iload_n 1, 1) := by decide +kernel
theorem dX5_numberFault__21 : decode cX5_numberFault_ 21 = .ok (.if_icmp .lt 18, 3) := by decide +kernel
theorem dX5_numberFault__24 : decode cX5_numberFault_ 24 = .ok (.aload_n 0, 1) := by decide +kernel
theorem dX5_numberFault__25 : decode cX5_numberFault_ 25 = .ok (.getfield 25, 3) := by decide +kernel
theorem dX5_numberFault__28 : decode cX5_numberFault_ 28 = .ok (.getfield 171, 3) := by decide +kernel
theorem dX5_numberFault__31 : decode cX5_numberFault_ 31 = .ok (.iload_n 2, 1) := by decide +kernel
theorem dX5_numberFault__32 : decode cX5_numberFault_ 32 = .ok (.if_icmp .gt 7, 3) := by decide +kernel
theorem dX5_numberFault__35 : decode cX5_numberFault_ 35 = .ok (.iconst 0, 1) := by decide +kernel
theorem dX5_numberFault__36 : decode cX5_numberFault_ 36 = .ok (.goto 4, 3) := by decide +kernel
theorem dX5_numberFault__39 : decode cX5_numberFault_ 39 = .ok (.iconst 2, 1) := by decide +kernel
theorem dX5_numberFault__40 : decode cX5_numberFault_ 40 = .ok (.ireturn, 1) := by decide +kernel
theorem dX5_takeLimit_0 : decode cX5_takeLimit 0 = .ok (.aload_n 0, 1) := by decide +kernel
theorem dX5_takeLimit_1 : decode cX5_takeLimit 1 = .ok (.getfield 18, 3) := by decide +kernel
theorem dX5_takeLimit_4 : decode cX5_takeLimit 4 = .ok (.aload_n 0, 1) := by decide +kernel
theorem dX5_takeLimit_5 : decode cX5_takeLimit 5 = .ok (.getfield 25, 3) := by decide +kernel
theorem dX5_takeLimit_8 : decode cX5_takeLimit 8 = .ok (.getfield 171, 3) := by decide +kernel
theorem dX5_takeLimit_11 : decode cX5_takeLimit 11 = .ok (.putfield 178, 3) := by decide +kernel
theorem dX5_takeLimit_14 : decode cX5_takeLimit 14 = .ok (.aload_n 0, 1) := by decide +kernel
theorem dX5_takeLimit_15 : decode cX5_takeLimit 15 = .ok (.iconst 1, 1) := by decide +kernel
theorem dX5_takeLimit_16 : decode cX5_takeLimit 16 = .ok (.putfield 56, 3) := by decide +kernel
theorem dX5_takeLimit_19 : decode cX5_takeLimit 19 = .ok (.aload_n 0, 1) := by decide +kernel
theorem dX5_takeLimit_20 : decode cX5_takeLimit 20 = .ok (.bipush 12, 2) := by decide +kernel
theorem dX5_takeLimit_22 : decode cX5_takeLimit 22 = .ok (.putfield 39, 3) := by decide +kernel
theorem dX5_takeLimit_25 : decode cX5_takeLimit 25 = .ok (.aload_n 0, 1) := by decide +kernel
theorem dX5_takeLimit_26 : decode cX5_takeLimit 26 = .ok (.iconst 0, 1) := by decide +kernel
theorem dX5_takeLimit_27 : decode cX5_takeLimit 27 = .ok (.bipush 99, 2) := by decide +kernel
theorem dX5_takeLimit_29 : decode cX5_takeLimit 29 = .ok (.invokevirtual 181, 3) := by decide +kernel
end
section
theorem dX5_takeLimit_32 : decode cX5_takeLimit 32 = .ok (.ireturn, 1) := by decide +kernel
theorem dX5_takeAge_0 : decode cX5_takeAge 0 = .ok (.aload_n 0, 1) := by decide +kernel
theorem dX5_takeAge_1 : decode cX5_takeAge 1 = .ok (.getfield 18, 3) := by decide +kernel
theorem dX5_takeAge_4 : decode cX5_takeAge 4 = .ok (.aload_n 0, 1) := by decide +kernel
theorem dX5_takeAge_5 : decode cX5_takeAge 5 = .ok (.getfield 25, 3) := by decide +kernel
theorem dX5_takeAge_8 : decode cX5_takeAge 8 = .ok (.getfield 171, 3) := by decide +kernel
theorem dX5_takeAge_11 : decode cX5_takeAge 11 = .ok (.putfield 105, 3) := by decide +kernel
theorem dX5_takeAge_14 : decode cX5_takeAge 14 = .ok (.aload_n 0, 1) := by decide +kernel
theorem dX5_takeAge_15 : decode cX5_takeAge 15 = .ok (.bipush 12, 2) := by decide +kernel
theorem dX5_takeAge_17 : decode cX5_takeAge 17 = .ok (.putfield 39, 3) := by decide +kernel
theorem dX5_takeAge_20 : decode cX5_takeAge 20 = .ok (.aload_n 0, 1) := by decide +kernel
theorem dX5_takeAge_21 : decode cX5_takeAge 21 = .ok (.iconst 0, 1) := by decide +kernel
theorem dX5_takeAge_22 : decode cX5_takeAge 22 = .ok (.sipush 999, 3) := by decide +kernel
theorem dX5_takeAge_25 : decode cX5_takeAge 25 = .ok (.invokevirtual 181, 3) := by decide +kernel
theorem dX5_takeAge_28 : decode cX5_takeAge 28 = .ok (.ireturn, 1) := by decide +kernel
theorem dX5_takeChangeTime_0 : decode cX5_takeChangeTime 0 = .ok (.aload_n 0, 1) := by decide +kernel
theorem dX5_takeChangeTime_1 : decode cX5_takeChangeTime 1 = .ok (.aload_n 0, 1) := by decide +kernel
theorem dX5_takeChangeTime_2 : decode cX5_takeChangeTime 2 = .ok (.getfield 25, 3) := by decide +kernel
theorem dX5_takeChangeTime_5 : decode cX5_takeChangeTime 5 = .ok (.getfield 171, 3) := by decide +kernel
theorem dX5_takeChangeTime_8 : decode cX5_takeChangeTime 8 = .ok (.putfield 184, 3) := by decide +kernel
theorem dX5_takeChangeTime_11 : decode cX5_takeChangeTime 11 = .ok (.aload_n 0, 1) := by decide +kernel
theorem dX5_takeChangeTime_12 : decode cX5_takeChangeTime 12 = .ok (.bipush 9, 2) := by decide +kernel
theorem dX5_takeChangeTime_14 : decode cX5_takeChangeTime 14 = .ok (.putfield 39, 3) := by decide +kernel
theorem dX5_takeChangeTime_17 : decode cX5_takeChangeTime 17 = .ok (.aload_n 0, 1) := by decide +kernel
theorem dX5_takeChangeTime_18 : decode cX5_takeChangeTime 18 = .ok (.iconst 1, 1) := by decide +kernel
theorem dX5_takeChangeTime_19 : decode cX5_takeChangeTime 19 = .ok (.sipush 5000, 3) := by decide +kernel
theorem dX5_takeChangeTime_22 : decode cX5_takeChangeTime 22 = .ok (.invokevirtual 181, 3) := by decide +kernel
theorem dX5_takeChangeTime_25 : decode cX5_takeChangeTime 25 = .ok (.ireturn, 1) := by decide +kernel
theorem dX5_takeChangeName_0 : decode cX5_takeChangeName 0 = .ok (.aload_n 0, 1) := by decide +kernel
theorem dX5_takeChangeName_1 : decode cX5_takeChangeName 1 = .ok (.invokevirtual 117, 3) := by decide +kernel
theorem dX5_takeChangeName_4 : decode cX5_takeChangeName 4 = .ok (.ifCond .ne 5, 3) := by decide +kernel
theorem dX5_takeChangeName_7 : decode cX5_takeChangeName 7 = .ok (.iconst 1, 1) := by decide +kernel
theorem dX5_takeChangeName_8 : decode cX5_takeChangeName 8 = .ok (.ireturn, 1) := by decide +kernel
theorem dX5_takeChangeName_9 : decode cX5_takeChangeName 9 = .ok (.aload_n 0, 1) := by decide +kernel
theorem dX5_takeChangeName_10 : decode cX5_takeChangeName 10 = .ok (.aload_n 0, 1) := by decide +kernel
theorem dX5_takeChangeName_11 : decode cX5_takeChangeName 11 = .ok (.getfield 18, 3) := by decide +kernel
theorem dX5_takeChangeName_14 : decode cX5_takeChangeName 14 = .ok (.aload_n 0, 1) := by decide +kernel
theorem dX5_takeChangeName_15 : decode cX5_takeChangeName 15 = .ok (.getfield 25, 3) := by decide +kernel
theorem dX5_takeChangeName_18 : decode cX5_takeChangeName 18 = .ok (.getfield 121, 3) := by decide +kernel
theorem dX5_takeChangeName_21 : decode cX5_takeChangeName 21 = .ok (.invokevirtual 125, 3) := by decide +kernel
theorem dX5_takeChangeName_24 : decode cX5_takeChangeName 24 = .ok (.putfield 187, 3) := by decide +kernel
theorem dX5_takeChangeName_27 : decode cX5_takeChangeName 27 = .ok (.aload_n 0, 1) := by decide +kernel
theorem dX5_takeChangeName_28 : decode cX5_takeChangeName 28 = .ok (.bipush 10, 2) := by decide +kernel
theorem dX5_takeChangeName_30 : decode cX5_takeChangeName 30 = .ok (.putfield 39, 3) := by decide +kernel
theorem dX5_takeChangeName_33 : decode cX5_takeChangeName 33 = .ok (.aload_n 0, 1) := by decide +kernel
theorem dX5_takeChangeName_34 : decode cX5_takeChangeName 34 = .ok (.getfield 187, 3) := by decide +kernel
theorem dX5_takeChangeName_37 : decode cX5_takeChangeName 37 = .ok (.bipush (-2), 2) := by decide +kernel
theorem dX5_takeChangeName_39 : decode cX5_takeChangeName 39 = .ok (.if_icmp .ne 7, 3) := by decide +kernel
theorem dX5_takeChangeName_42 : decode cX5_takeChangeName 42 = .ok (.iconst 3, 1) := by decide +kernel
theorem dX5_takeChangeName_43 : decode cX5_takeChangeName 43 = .ok (.goto 4, 3) := by decide +kernel
theorem dX5_takeChangeName_46 : decode cX5_takeChangeName 46 = .ok (.iconst 0, 1) := by decide +kernel
theorem dX5_takeChangeName_47 : decode cX5_takeChangeName 47 = .ok (.ireturn, 1) := by decide +kernel
theorem dX5_takeChangeSetting_0 : decode cX5_takeChangeSetting 0 = .ok (.aload_n 0, 1) := by decide +kernel
theorem dX5_takeChangeSetting_1 : decode cX5_takeChangeSetting 1 = .ok (.aload_n 0, 1) := by decide +kernel
theorem dX5_takeChangeSetting_2 : decode cX5_takeChangeSetting 2 = .ok (.getfield 25, 3) := by decide +kernel
theorem dX5_takeChangeSetting_5 : decode cX5_takeChangeSetting 5 = .ok (.getfield 99, 3) := by decide +kernel
theorem dX5_takeChangeSetting_8 : decode cX5_takeChangeSetting 8 = .ok (.putfield 145, 3) := by decide +kernel
theorem dX5_takeChangeSetting_11 : decode cX5_takeChangeSetting 11 = .ok (.aload_n 0, 1) := by decide +kernel
theorem dX5_takeChangeSetting_12 : decode cX5_takeChangeSetting 12 = .ok (.bipush 11, 2) := by decide +kernel
theorem dX5_takeChangeSetting_14 : decode cX5_takeChangeSetting 14 = .ok (.putfield 39, 3) := by decide +kernel
theorem dX5_takeChangeSetting_17 : decode cX5_takeChangeSetting 17 = .ok (.aload_n 0, 1) := by decide +kernel
theorem dX5_takeChangeSetting_18 : decode cX5_takeChangeSetting 18 = .ok (.getfield 145, 3) := by decide +kernel
theorem dX5_takeChangeSetting_21 : decode cX5_takeChangeSetting 21 = .ok (.ifCond .eq 19, 3) := by decide +kernel
theorem dX5_takeChangeSetting_24 : decode cX5_takeChangeSetting 24 = .ok (.aload_n 0, 1) := by decide +kernel
theorem dX5_takeChangeSetting_25 : decode cX5_takeChangeSetting 25 = .ok (.getfield 145, 3) := by decide +kernel
theorem dX5_takeChangeSetting_28 : decode cX5_takeChangeSetting 28 = .ok (.iconst 1, 1) := by decide +kernel
theorem dX5_takeChangeSetting_29 : decode cX5_takeChangeSetting 29 = .ok (.if_icmp .eq 11, 3) := by decide +kernel
theorem dX5_takeChangeSetting_32 : decode cX5_takeChangeSetting 32 = .ok (.aload_n 0, 1) := by decide +kernel
theorem dX5_takeChangeSetting_33 : decode cX5_takeChangeSetting 33 = .ok (.getfield 145, 3) := by decide +kernel
theorem dX5_takeChangeSetting_36 : decode cX5_takeChangeSetting 36 = .ok (.iconst 4, 1) := by decide +kernel
theorem dX5_takeChangeSetting_37 : decode cX5_takeChangeSetting 37 = .ok (.if_icmp .ne 7, 3) := by decide +kernel
theorem dX5_takeChangeSetting_40 : decode cX5_takeChangeSetting 40 = .ok (.iconst 0, 1) := by decide +kernel
theorem dX5_takeChangeSetting_41 : decode cX5_takeChangeSetting 41 = .ok (.goto 4, 3) := by decide +kernel
theorem dX5_takeChangeSetting_44 : decode cX5_takeChangeSetting 44 = .ok (.iconst 1, 1) := by decide +kernel
theorem dX5_takeChangeSetting_45 : decode cX5_takeChangeSetting 45 = .ok (.ireturn, 1) := by decide +kernel
theorem dX5_takeChangeValue_0 : decode cX5_takeChangeValue 0 = .ok (.aload_n 0, 1) := by decide +kernel
theorem dX5_takeChangeValue_1 : decode cX5_takeChangeValue 1 = .ok (.aload_n 0, 1) := by decide +kernel
theorem dX5_takeChangeValue_2 : decode cX5_takeChangeValue 2 = .ok (.getfield 145, 3) := by decide +kernel
theorem dX5_takeChangeValue_5 : decode cX5_takeChangeValue 5 = .ok (.invokevirtual 163, 3) := by decide +kernel
theorem dX5_takeChangeValue_8 : decode cX5_takeChangeValue 8 = .ok (.istore_n 1, 1) := by decide +kernel
theorem dX5_takeChangeValue_9 : decode cX5_takeChangeValue 9 = .ok (.iload_n 1, 1) := by decide +kernel
theorem dX5_takeChangeValue_10 : decode cX5_takeChangeValue 10 = .ok (.ifCond .ne 32, 3) := by decide +kernel
theorem dX5_takeChangeValue_13 : decode cX5_takeChangeValue 13 = .ok (.aload_n 0, 1) := by decide +kernel
theorem dX5_takeChangeValue_14 : decode cX5_takeChangeValue 14 = .ok (.getfield 18, 3) := by decide +kernel
theorem dX5_takeChangeValue_17 : decode cX5_takeChangeValue 17 = .ok (.getfield 108, 3) := by decide +kernel
theorem dX5_takeChangeValue_20 : decode cX5_takeChangeValue 20 = .ok (.aload_n 0, 1) := by decide +kernel
theorem dX5_takeChangeValue_21 : decode cX5_takeChangeValue 21 = .ok (.getfield 184, 3) := by decide +kernel
theorem dX5_takeChangeValue_24 : decode cX5_takeChangeValue 24 = .ok (.aload_n 0, 1) := by decide +kernel
theorem dX5_takeChangeValue_25 : decode cX5_takeChangeValue 25 = .ok (.getfield 187, 3) := by decide +kernel
theorem dX5_takeChangeValue_28 : decode cX5_takeChangeValue 28 = .ok (.aload_n 0, 1) := by decide +kernel
theorem dX5_takeChangeValue_29 : decode cX5_takeChangeValue 29 = .ok (.getfield 145, 3) := by decide +kernel
theorem dX5_takeChangeValue_32 : decode cX5_takeChangeValue 32 = .ok (.aload_n 0, 1) := by decide +kernel
theorem dX5_takeChangeValue_33 : decode cX5_takeChangeValue 33 = .ok (.getfield 25, 3) := by decide +kernel
theorem dX5_takeChangeValue_36 : decode cX5_takeChangeValue 36 = .ok (.getfield 171, 3) := by decide +kernel
theorem dX5_takeChangeValue_39 : decode cX5_takeChangeValue 39 = .ok (.invokevirtual 190, 3) := by decide +kernel
theorem dX5_takeChangeValue_42 : decode cX5_takeChangeValue 42 = .ok (.aload_n 0, 1) := by decide +kernel
theorem dX5_takeChangeValue_43 : decode cX5_takeChangeValue 43 = .ok (.bipush 12, 2) := by decide +kernel
theorem dX5_takeChangeValue_45 : decode cX5_takeChangeValue 45 = .ok (.putfield 39, 3) := by decide +kernel
theorem dX5_takeChangeValue_48 : decode cX5_takeChangeValue 48 = .ok (.iload_n 1, 1) := by decide +kernel
theorem dX5_takeChangeValue_49 : decode cX5_takeChangeValue 49 = .ok (.ireturn, 1) := by decide +kernel
theorem dX5_takeStatementEnd_0 : decode cX5_takeStatementEnd 0 = .ok (.aload_n 0, 1) := by decide +kernel
theorem dX5_takeStatementEnd_1 : decode cX5_takeStatementEnd 1 = .ok (.iconst 0, 1) := by decide +kernel
theorem dX5_takeStatementEnd_2 : decode cX5_takeStatementEnd 2 = .ok (.putfield 39, 3) := by decide +kernel
theorem dX5_takeStatementEnd_5 : decode cX5_takeStatementEnd 5 = .ok (.aload_n 0, 1) := by decide +kernel
theorem dX5_takeStatementEnd_6 : decode cX5_takeStatementEnd 6 = .ok (.getfield 25, 3) := by decide +kernel
theorem dX5_takeStatementEnd_9 : decode cX5_takeStatementEnd 9 = .ok (.getfield 36, 3) := by decide +kernel
theorem dX5_takeStatementEnd_12 : decode cX5_takeStatementEnd 12 = .ok (.iconst 3, 1) := by decide +kernel
theorem dX5_takeStatementEnd_13 : decode cX5_takeStatementEnd 13 = .ok (.if_icmp .ne 7, 3) := by decide +kernel
theorem dX5_takeStatementEnd_16 : decode cX5_takeStatementEnd 16 = .ok (.iconst 0, 1) := by decide +kernel
theorem dX5_takeStatementEnd_17 : decode cX5_takeStatementEnd 17 = .ok (.goto 4, 3) := by decide +kernel
theorem dX5_takeStatementEnd_20 : decode cX5_takeStatementEnd 20 = .ok (.iconst 1, 1) := by decide +kernel
theorem dX5_takeStatementEnd_21 : decode cX5_takeStatementEnd 21 = .ok (.ireturn, 1) := by decide +kernel
theorem dX6_init_0 : decode cX6_init 0 = .ok (.aload_n 0, 1) := by decide +kernel
theorem dX6_init_1 : decode cX6_init 1 = .ok (.invokespecial 3, 3) := by decide +kernel
theorem dX6_init_4 : decode cX6_init 4 = .ok (.return_, 1) := by decide +kernel
theorem dX6_begin_0 : decode cX6_begin 0 = .ok (.aload_n 0, 1) := by decide +kernel
theorem dX6_begin_1 : decode cX6_begin 1 = .ok (.iconst 0, 1) := by decide +kernel
theorem dX6_begin_2 : decode cX6_begin 2 = .ok (.putfield 9, 3) := by decide +kernel
theorem dX6_begin_5 : decode cX6_begin 5 = .ok (.return_, 1) := by decide +kernel
theorem dX6_scan_0 : decode cX6_scan 0 = .ok (.aload_n 0, 1) := by decide +kernel
theorem dX6_scan_1 : decode cX6_scan 1 = .ok (.aload_n 1, 1) := by decide +kernel
theorem dX6_scan_2 : decode cX6_scan 2 = .ok (.invokevirtual 15, 3) := by decide +kernel
theorem dX6_scan_5 : decode cX6_scan 5 = .ok (.aload_n 0, 1) := by decide +kernel
theorem dX6_scan_6 : decode cX6_scan 6 = .ok (.aload_n 0, 1) := by decide +kernel
theorem dX6_scan_7 : decode cX6_scan 7 = .ok (.getfield 9, 3) := by decide +kernel
theorem dX6_scan_10 : decode cX6_scan 10 = .ok (.putfield 19, 3) := by decide +kernel
theorem dX6_scan_13 : decode cX6_scan 13 = .ok (.aload_n 0, 1) := by decide +kernel
theorem dX6_scan_14 : decode cX6_scan 14 = .ok (.iconst (-1), 1) := by decide +kernel
theorem dX6_scan_15 : decode cX6_scan 15 = .ok (.putfield 22, 3) := by decide +kernel
theorem dX6_scan_18 : decode cX6_scan 18 = .ok (.aload_n 1, 1) := by decide +kernel
theorem dX6_scan_19 : decode cX6_scan 19 = .ok (.aload_n 0, 1) := by decide +kernel
theorem dX6_scan_20 : decode cX6_scan 20 = .ok (.getfield 9, 3) := by decide +kernel
theorem dX6_scan_23 : decode cX6_scan 23 = .ok (.invokevirtual 25, 3) := by decide +kernel
theorem dX6_scan_26 : decode cX6_scan 26 = .ok (.istore_n 2, 1) := by decide +kernel
theorem dX6_scan_27 : decode cX6_scan 27 = .ok (.aload_n 0, 1) := by decide +kernel
theorem dX6_scan_28 : decode cX6_scan 28 = .ok (.getfield 9, 3) := by decide +kernel
theorem dX6_scan_31 : decode cX6_scan 31 = .ok (.aload_n 1, 1) := by decide +kernel
theorem dX6_scan_32 : decode cX6_scan 32 = .ok (.getfield 31, 3) := by decide +kernel
theorem dX6_scan_35 : decode cX6_scan 35 = .ok (.if_icmp .lt 11, 3) := by decide +kernel
theorem dX6_scan_38 : decode cX6_scan 38 = .ok (.aload_n 0, 1) := by decide +kernel
theorem dX6_scan_39 : decode cX6_scan 39 = .ok (.iconst 0, 1) := by decide +kernel
theorem dX6_scan_40 : decode cX6_scan 40 = .ok (.putfield 34, 3) := by decide +kernel
theorem dX6_scan_43 : decode cX6_scan 43 = .ok (.goto 58, 3) := by decide +kernel
theorem dX6_scan_46 : decode cX6_scan 46 = .ok (.iload_n 2, 1) := by decide +kernel
theorem dX6_scan_47 : decode cX6_scan 47 = .ok (.invokestatic 37, 3) := by decide +kernel
theorem dX6_scan_50 : decode cX6_scan 50 = .ok (.ifCond .eq 11, 3) := by decide +kernel
theorem dX6_scan_53 : decode cX6_scan 53 = .ok (.aload_n 0, 1) := by decide +kernel
theorem dX6_scan_54 : decode cX6_scan 54 = .ok (.aload_n 1, 1) := by decide +kernel
theorem dX6_scan_55 : decode cX6_scan 55 = .ok (.invokevirtual 41, 3) := by decide +kernel
theorem dX6_scan_58 : decode cX6_scan 58 = .ok (.goto 43, 3) := by decide +kernel
theorem dX6_scan_61 : decode cX6_scan 61 = .ok (.iload_n 2, 1) := by decide +kernel
theorem dX6_scan_62 : decode cX6_scan 62 = .ok (.invokestatic 44, 3) := by decide +kernel
theorem dX6_scan_65 : decode cX6_scan 65 = .ok (.ifCond .eq 11, 3) := by decide +kernel
theorem dX6_scan_68 : decode cX6_scan 68 = .ok (.aload_n 0, 1) := by decide +kernel
theorem dX6_scan_69 : decode cX6_scan 69 = .ok (.aload_n 1, 1) := by decide +kernel
theorem dX6_scan_70 : decode cX6_scan 70 = .ok (.invokevirtual 47, 3) := by decide +kernel
theorem dX6_scan_73 : decode cX6_scan 73 = .ok (.goto 28, 3) := by decide +kernel
theorem dX6_scan_76 : decode cX6_scan 76 = .ok (.aload_n 0, 1) := by decide +kernel
theorem dX6_scan_77 : decode cX6_scan 77 = .ok (.iload_n 2, 1) := by decide +kernel
theorem dX6_scan_78 : decode cX6_scan 78 = .ok (.bipush 59, 2) := by decide +kernel
theorem dX6_scan_80 : decode cX6_scan 80 = .ok (.if_icmp .ne 7, 3) := by decide +kernel
theorem dX6_scan_83 : decode cX6_scan 83 = .ok (.iconst 3, 1) := by decide +kernel
theorem dX6_scan_84 : decode cX6_scan 84 = .ok (.goto 4, 3) := by decide +kernel
theorem dX6_scan_87 : decode cX6_scan 87 = .ok (.iconst 4, 1) := by decide +kernel
theorem dX6_scan_88 : decode cX6_scan 88 = .ok (.putfield 34, 3) := by decide +kernel
theorem dX6_scan_91 : decode cX6_scan 91 = .ok (.aload_n 0, 1) := by decide +kernel
theorem dX6_scan_92 : decode cX6_scan 92 = .ok (.dup, 1) := by decide +kernel
theorem dX6_scan_93 : decode cX6_scan 93 = .ok (.getfield 9, 3) := by decide +kernel
theorem dX6_scan_96 : decode cX6_scan 96 = .ok (.iconst 1, 1) := by decide +kernel
theorem dX6_scan_97 : decode cX6_scan 97 = .ok (.iadd, 1) := by decide +kernel
theorem dX6_scan_98 : decode cX6_scan 98 = .ok (.putfield 9, 3) := by decide +kernel
theorem dX6_scan_101 : decode cX6_scan 101 = .ok (.return_, 1) := by decide +kernel
theorem dX6_skipSpaces_0 : decode cX6_skipSpaces 0 = .ok (.aload_n 0, 1) := by decide +kernel
theorem dX6_skipSpaces_1 : decode cX6_skipSpaces 1 = .ok (.getfield 9, 3) := by decide +kernel
theorem dX6_skipSpaces_4 : decode cX6_skipSpaces 4 = .ok (.aload_n 1, 1) := by decide +kernel
theorem dX6_skipSpaces_5 : decode cX6_skipSpaces 5 = .ok (.getfield 31, 3) := by decide +kernel
theorem dX6_skipSpaces_8 : decode cX6_skipSpaces 8 = .ok (.if_icmp .ge 42, 3) := by decide +kernel
theorem dX6_skipSpaces_11 : decode cX6_skipSpaces 11 = .ok (.aload_n 1, 1) := by decide +kernel
theorem dX6_skipSpaces_12 : decode cX6_skipSpaces 12 = .ok (.aload_n 0, 1) := by decide +kernel
theorem dX6_skipSpaces_13 : decode cX6_skipSpaces 13 = .ok (.getfield 9, 3) := by decide +kernel
theorem dX6_skipSpaces_16 : decode cX6_skipSpaces 16 = .ok (.invokevirtual 25, 3) := by decide +kernel
theorem dX6_skipSpaces_19 : decode cX6_skipSpaces 19 = .ok (.bipush 32, 2) := by decide +kernel
theorem dX6_skipSpaces_21 : decode cX6_skipSpaces 21 = .ok (.if_icmp .eq 16, 3) := by decide +kernel
theorem dX6_skipSpaces_24 : decode cX6_skipSpaces 24 = .ok (.aload_n 1, 1) := by decide +kernel
theorem dX6_skipSpaces_25 : decode cX6_skipSpaces 25 = .ok (.aload_n 0, 1) := by decide +kernel
theorem dX6_skipSpaces_26 : decode cX6_skipSpaces 26 = .ok (.getfield 9, 3) := by decide +kernel
theorem dX6_skipSpaces_29 : decode cX6_skipSpaces 29 = .ok (.invokevirtual 25, 3) := by decide +kernel
theorem dX6_skipSpaces_32 : decode cX6_skipSpaces 32 = .ok (.bipush 10, 2) := by decide +kernel
theorem dX6_skipSpaces_34 : decode cX6_skipSpaces 34 = .ok (.if_icmp .ne 16, 3) := by decide +kernel
theorem dX6_skipSpaces_37 : decode cX6_skipSpaces 37 = .ok (.aload_n 0, 1) := by decide +kernel
theorem dX6_skipSpaces_38 : decode cX6_skipSpaces 38 = .ok (.dup, 1) := by decide +kernel
theorem dX6_skipSpaces_39 : decode cX6_skipSpaces 39 = .ok (.getfield 9, 3) := by decide +kernel
theorem dX6_skipSpaces_42 : decode cX6_skipSpaces 42 = .ok (.iconst 1, 1) := by decide +kernel
theorem dX6_skipSpaces_43 : decode cX6_skipSpaces 43 = .ok (.iadd, 1) := by decide +kernel
theorem dX6_skipSpaces_44 : decode cX6_skipSpaces 44 = .ok (.putfield 9, 3) := by decide +kernel
theorem dX6_skipSpaces_47 : decode cX6_skipSpaces 47 = .ok (.goto (-47), 3) := by decide +kernel
theorem dX6_skipSpaces_50 : decode cX6_skipSpaces 50 = .ok (.return_, 1) := by decide +kernel
theorem dX6_scanWord_0 : decode cX6_scanWord 0 = .ok (.aload_n 0, 1) := by decide +kernel
theorem dX6_scanWord_1 : decode cX6_scanWord 1 = .ok (.lconst 0, 1) := by decide +kernel
theorem dX6_scanWord_2 : decode cX6_scanWord 2 = .ok (.putfield 50, 3) := by decide +kernel
theorem dX6_scanWord_5 : decode cX6_scanWord 5 = .ok (.aload_n 0, 1) := by decide +kernel
theorem dX6_scanWord_6 : decode cX6_scanWord 6 = .ok (.getfield 9, 3) := by decide +kernel
theorem dX6_scanWord_9 : decode cX6_scanWord 9 = .ok (.aload_n 1, 1) := by decide +kernel
theorem dX6_scanWord_10 : decode cX6_scanWord 10 = .ok (.getfield 31, 3) := by decide +kernel
theorem dX6_scanWord_13 : decode cX6_scanWord 13 = .ok (.if_icmp .ge 58, 3) := by decide +kernel
theorem dX6_scanWord_16 : decode cX6_scanWord 16 = .ok (.aload_n 1, 1) := by decide +kernel
theorem dX6_scanWord_17 : decode cX6_scanWord 17 = .ok (.aload_n 0, 1) := by decide +kernel
theorem dX6_scanWord_18 : decode cX6_scanWord 18 = .ok (.getfield 9, 3) := by decide +kernel
theorem dX6_scanWord_21 : decode cX6_scanWord 21 = .ok (.invokevirtual 25, 3) := by decide +kernel
theorem dX6_scanWord_24 : decode cX6_scanWord 24 = .ok (.invokestatic 37, 3) := by decide +kernel
theorem dX6_scanWord_27 : decode cX6_scanWord 27 = .ok (.ifCond .eq 44, 3) := by decide +kernel
theorem dX6_scanWord_30 : decode cX6_scanWord 30 = .ok (.aload_n 0, 1) := by decide +kernel
theorem dX6_scanWord_31 : decode cX6_scanWord 31 = .ok (.aload_n 0, 1) := by decide +kernel
theorem dX6_scanWord_32 : decode cX6_scanWord 32 = .ok (.getfield 50, 3) := by decide +kernel
theorem dX6_scanWord_35 : decode cX6_scanWord 35 = .ok (.aload_n 0, 1) := by decide +kernel
theorem dX6_scanWord_36 : decode cX6_scanWord 36 = .ok (.getfield 9, 3) := by decide +kernel
theorem dX6_scanWord_39 : decode cX6_scanWord 39 = .ok (.aload_n 0, 1) := by decide +kernel
theorem dX6_scanWord_40 : decode cX6_scanWord 40 = .ok (.getfield 19, 3) := by decide +kernel
theorem dX6_scanWord_43 : decode cX6_scanWord 43 = .ok (.isub, 1) := by decide +kernel
theorem dX6_scanWord_44 : decode cX6_scanWord 44 = .ok (.aload_n 1, 1) := by decide +kernel
theorem dX6_scanWord_45 : decode cX6_scanWord 45 = .ok (.aload_n 0, 1) := by decide +kernel
theorem dX6_scanWord_46 : decode cX6_scanWord 46 = .ok (.getfield 9, 3) := by decide +kernel
theorem dX6_scanWord_49 : decode cX6_scanWord 49 = .ok (.invokevirtual 25, 3) := by decide +kernel
theorem dX6_scanWord_52 : decode cX6_scanWord 52 = .ok (.invokestatic 54, 3) := by decide +kernel
theorem dX6_scanWord_55 : decode cX6_scanWord 55 = .ok (.putfield 50, 3) := by decide +kernel
theorem dX6_scanWord_58 : decode cX6_scanWord 58 = .ok (.aload_n 0, 1) := by decide +kernel
theorem dX6_scanWord_59 : decode cX6_scanWord 59 = .ok (.dup, 1) := by decide +kernel
theorem dX6_scanWord_60 : decode cX6_scanWord 60 = .ok (.getfield 9, 3) := by decide +kernel
theorem dX6_scanWord_63 : decode cX6_scanWord 63 = .ok (.iconst 1, 1) := by decide +kernel
theorem dX6_scanWord_64 : decode cX6_scanWord 64 = .ok (.iadd, 1) := by decide +kernel
theorem dX6_scanWord_65 : decode cX6_scanWord 65 = .ok (.putfield 9, 3) := by decide +kernel
theorem dX6_scanWord_68 : decode cX6_scanWord 68 = .ok (.goto (-63), 3) := by decide +kernel
theorem dX6_scanWord_71 : decode cX6_scanWord 71 = .ok (.aload_n 0, 1) := by decide +kernel
theorem dX6_scanWord_72 : decode cX6_scanWord 72 = .ok (.aload_n 0, 1) := by decide +kernel
theorem dX6_scanWord_73 : decode cX6_scanWord 73 = .ok (.getfield 9, 3) := by decide +kernel
theorem dX6_scanWord_76 : decode cX6_scanWord 76 = .ok (.aload_n 0, 1) := by decide +kernel
theorem dX6_scanWord_77 : decode cX6_scanWord 77 = .ok (.getfield 19, 3) := by decide +kernel
theorem dX6_scanWord_80 : decode cX6_scanWord 80 = .ok (.isub, 1) := by decide +kernel
theorem dX6_scanWord_81 : decode cX6_scanWord 81 = .ok (.bipush 8, 2) := by decide +kernel
theorem dX6_scanWord_83 : decode cX6_scanWord 83 = .ok (.if_icmp .gt 7, 3) := by decide +kernel
theorem dX6_scanWord_86 : decode cX6_scanWord 86 = .ok (.iconst 1, 1) := by decide +kernel
theorem dX6_scanWord_87 : decode cX6_scanWord 87 = .ok (.goto 4, 3) := by decide +kernel
theorem dX6_scanWord_90 : decode cX6_scanWord 90 = .ok (.iconst 4, 1) := by decide +kernel
theorem dX6_scanWord_91 : decode cX6_scanWord 91 = .ok (.putfield 34, 3) := by decide +kernel
theorem dX6_scanWord_94 : decode cX6_scanWord 94 = .ok (.aload_n 0, 1) := by decide +kernel
theorem dX6_scanWord_95 : decode cX6_scanWord 95 = .ok (.getfield 34, 3) := by decide +kernel
theorem dX6_scanWord_98 : decode cX6_scanWord 98 = .ok (.iconst 1, 1) := by decide +kernel
theorem dX6_scanWord_99 : decode cX6_scanWord 99 = .ok (.if_icmp .ne 14, 3) := by decide +kernel
theorem dX6_scanWord_102 : decode cX6_scanWord 102 = .ok (.aload_n 0, 1) := by decide +kernel
theorem dX6_scanWord_103 : decode cX6_scanWord 103 = .ok (.aload_n 0, 1) := by decide +kernel
theorem dX6_scanWord_104 : decode cX6_scanWord 104 = .ok (.getfield 50, 3) := by decide +kernel
theorem dX6_scanWord_107 : decode cX6_scanWord 107 = .ok (.invokestatic 58, 3) := by decide +kernel
theorem dX6_scanWord_110 : decode cX6_scanWord 110 = .ok (.putfield 22, 3) := by decide +kernel
theorem dX6_scanWord_113 : decode cX6_scanWord 113 = .ok (.return_, 1) := by decide +kernel
theorem dX6_scanNumber_0 : decode cX6_scanNumber 0 = .ok (.aload_n 0, 1) := by decide +kernel
theorem dX6_scanNumber_1 : decode cX6_scanNumber 1 = .ok (.iconst 0, 1) := by decide +kernel
theorem dX6_scanNumber_2 : decode cX6_scanNumber 2 = .ok (.putfield 62, 3) := by decide +kernel
theorem dX6_scanNumber_5 : decode cX6_scanNumber 5 = .ok (.aload_n 0, 1) := by decide +kernel
theorem dX6_scanNumber_6 : decode cX6_scanNumber 6 = .ok (.getfield 9, 3) := by decide +kernel
theorem dX6_scanNumber_9 : decode cX6_scanNumber 9 = .ok (.aload_n 1, 1) := by decide +kernel
theorem dX6_scanNumber_10 : decode cX6_scanNumber 10 = .ok (.getfield 31, 3) := by decide +kernel
theorem dX6_scanNumber_13 : decode cX6_scanNumber 13 = .ok (.if_icmp .ge 53, 3) := by decide +kernel
theorem dX6_scanNumber_16 : decode cX6_scanNumber 16 = .ok (.aload_n 1, 1) := by decide +kernel
theorem dX6_scanNumber_17 : decode cX6_scanNumber 17 = .ok (.aload_n 0, 1) := by decide +kernel
theorem dX6_scanNumber_18 : decode cX6_scanNumber 18 = .ok (.getfield 9, 3) := by decide +kernel
theorem dX6_scanNumber_21 : decode cX6_scanNumber 21 = .ok (.invokevirtual 25, 3) := by decide +kernel
theorem dX6_scanNumber_24 : decode cX6_scanNumber 24 = .ok (.invokestatic 44, 3) := by decide +kernel
theorem dX6_scanNumber_27 : decode cX6_scanNumber 27 = .ok (.ifCond .eq 39, 3) := by decide +kernel
theorem dX6_scanNumber_30 : decode cX6_scanNumber 30 = .ok (.aload_n 0, 1) := by decide +kernel
theorem dX6_scanNumber_31 : decode cX6_scanNumber 31 = .ok (.aload_n 0, 1) := by decide +kernel
theorem dX6_scanNumber_32 : decode cX6_scanNumber 32 = .ok (.getfield 62, 3) := by decide +kernel
theorem dX6_scanNumber_35 : decode cX6_scanNumber 35 = .ok (.bipush 10, 2) := by decide +kernel
theorem dX6_scanNumber_37 : decode cX6_scanNumber 37 = .ok (.imul, 1) := by decide +kernel
theorem dX6_scanNumber_38 : decode cX6_scanNumber 38 = .ok (.aload_n 1, 1) := by decide +kernel
theorem dX6_scanNumber_39 : decode cX6_scanNumber 39 = .ok (.aload_n 0, 1) := by decide +kernel
theorem dX6_scanNumber_40 : decode cX6_scanNumber 40 = .ok (.getfield 9, 3) := by decide +kernel
theorem dX6_scanNumber_43 : decode cX6_scanNumber 43 = .ok (.invokevirtual 25, 3) := by decide +kernel
theorem dX6_scanNumber_46 : decode cX6_scanNumber 46 = .ok (.bipush 48, 2) := by decide +kernel
theorem dX6_scanNumber_48 : decode cX6_scanNumber 48 = .ok (.isub, 1) := by decide +kernel
theorem dX6_scanNumber_49 : decode cX6_scanNumber 49 = .ok (.iadd, 1) := by decide +kernel
theorem dX6_scanNumber_50 : decode cX6_scanNumber 50 = .ok (.putfield 62, 3) := by decide +kernel
theorem dX6_scanNumber_53 : decode cX6_scanNumber 53 = .ok (.aload_n 0, 1) := by decide +kernel
theorem dX6_scanNumber_54 : decode cX6_scanNumber 54 = .ok (.dup, 1) := by decide +kernel
theorem dX6_scanNumber_55 : decode cX6_scanNumber 55 = .ok (.getfield 9, 3) := by decide +kernel
theorem dX6_scanNumber_58 : decode cX6_scanNumber 58 = .ok (.iconst 1, 1) := by decide +kernel
theorem dX6_scanNumber_59 : decode cX6_scanNumber 59 = .ok (.iadd, 1) := by decide +kernel
theorem dX6_scanNumber_60 : decode cX6_scanNumber 60 = .ok (.putfield 9, 3) := by decide +kernel
theorem dX6_scanNumber_63 : decode cX6_scanNumber 63 = .ok (.goto (-58), 3) := by decide +kernel
theorem dX6_scanNumber_66 : decode cX6_scanNumber 66 = .ok (.aload_n 0, 1) := by decide +kernel
theorem dX6_scanNumber_67 : decode cX6_scanNumber 67 = .ok (.aload_n 0, 1) := by decide +kernel
theorem dX6_scanNumber_68 : decode cX6_scanNumber 68 = .ok (.getfield 9, 3) := by decide +kernel
theorem dX6_scanNumber_71 : decode cX6_scanNumber 71 = .ok (.aload_n 0, 1) := by decide +kernel
theorem dX6_scanNumber_72 : decode cX6_scanNumber 72 = .ok (.getfield 19, 3) := by decide +kernel
theorem dX6_scanNumber_75 : decode cX6_scanNumber 75 = .ok (.isub, 1) := by decide +kernel
theorem dX6_scanNumber_76 : decode cX6_scanNumber 76 = .ok (.iconst 4, 1) := by decide +kernel
theorem dX6_scanNumber_77 : decode cX6_scanNumber 77 = .ok (.if_icmp .gt 7, 3) := by decide +kernel
theorem dX6_scanNumber_80 : decode cX6_scanNumber 80 = .ok (.iconst 2, 1) := by decide +kernel
theorem dX6_scanNumber_81 : decode cX6_scanNumber 81 = .ok (.goto 4, 3) := by decide +kernel
theorem dX6_scanNumber_84 : decode cX6_scanNumber 84 = .ok (.iconst 4, 1) := by decide +kernel
theorem dX6_scanNumber_85 : decode cX6_scanNumber 85 = .ok (.putfield 34, 3) := by decide +kernel
theorem dX6_scanNumber_88 : decode cX6_scanNumber 88 = .ok (.return_, 1) := by decide +kernel
theorem dX6_isLetter_0 : decode cX6_isLetter 0 = .ok (.iload_n 0, 1) := by decide +kernel
theorem dX6_isLetter_1 : decode cX6_isLetter 1 = .ok (.bipush 97, 2) := by decide +kernel
theorem dX6_isLetter_3 : decode cX6_isLetter 3 = .ok (.if_icmp .lt 13, 3) := by decide +kernel
theorem dX6_isLetter_6 : decode cX6_isLetter 6 = .ok (.iload_n 0, 1) := by decide +kernel
theorem dX6_isLetter_7 : decode cX6_isLetter 7 = .ok (.bipush 122, 2) := by decide +kernel
theorem dX6_isLetter_9 : decode cX6_isLetter 9 = .ok (.if_icmp .gt 7, 3) := by decide +kernel
theorem dX6_isLetter_12 : decode cX6_isLetter 12 = .ok (.iconst 1, 1) := by decide +kernel
theorem dX6_isLetter_13 : decode cX6_isLetter 13 = .ok (.goto 4, 3) := by decide +kernel
theorem dX6_isLetter_16 : decode cX6_isLetter 16 = .ok (.iconst 0, 1) := by decide +kernel
theorem dX6_isLetter_17 : decode cX6_isLetter 17 = .ok (.ireturn, 1) := by decide +kernel
theorem dX6_isDigit_0 : decode cX6_isDigit 0 = .ok (.iload_n 0, 1) := by decide +kernel
theorem dX6_isDigit_1 : decode cX6_isDigit 1 = .ok (.bipush 48, 2) := by decide +kernel
theorem dX6_isDigit_3 : decode cX6_isDigit 3 = .ok (.if_icmp .lt 13, 3) := by decide +kernel
theorem dX6_isDigit_6 : decode cX6_isDigit 6 = .ok (.iload_n 0, 1) := by decide +kernel
theorem dX6_isDigit_7 : decode cX6_isDigit 7 = .ok (.bipush 57, 2) := by decide +kernel
theorem dX6_isDigit_9 : decode cX6_isDigit 9 = .ok (.if_icmp .gt 7, 3) := by decide +kernel
theorem dX6_isDigit_12 : decode cX6_isDigit 12 = .ok (.iconst 1, 1) := by decide +kernel
theorem dX6_isDigit_13 : decode cX6_isDigit 13 = .ok (.goto 4, 3) := by decide +kernel
theorem dX6_isDigit_16 : decode cX6_isDigit 16 = .ok (.iconst 0, 1) := by decide +kernel
theorem dX6_isDigit_17 : decode cX6_isDigit 17 = .ok (.ireturn, 1) := by decide +kernel
theorem dX7_init_0 : decode cX7_init 0 = .ok (.aload_n 0, 1) := by decide +kernel
theorem dX7_init_1 : decode cX7_init 1 = .ok (.invokespecial 3, 3) := by decide +kernel
theorem dX7_init_4 : decode cX7_init 4 = .ok (.aload_n 0, 1) := by decide +kernel
theorem dX7_init_5 : decode cX7_init 5 = .ok (.bipush 12, 2) := by decide +kernel
theorem dX7_init_7 : decode cX7_init 7 = .ok (.newarray .long, 2) := by decide +kernel
theorem dX7_init_9 : decode cX7_init 9 = .ok (.putfield 9, 3) := by decide +kernel
theorem dX7_init_12 : decode cX7_init 12 = .ok (.aload_n 0, 1) := by decide +kernel
theorem dX7_init_13 : decode cX7_init 13 = .ok (.bipush 12, 2) := by decide +kernel
theorem dX7_init_15 : decode cX7_init 15 = .ok (.newarray .int, 2) := by decide +kernel
theorem dX7_init_17 : decode cX7_init 17 = .ok (.putfield 15, 3) := by decide +kernel
theorem dX7_init_20 : decode cX7_init 20 = .ok (.aload_n 0, 1) := by decide +kernel
theorem dX7_init_21 : decode cX7_init 21 = .ok (.bipush 12, 2) := by decide +kernel
theorem dX7_init_23 : decode cX7_init 23 = .ok (.newarray .int, 2) := by decide +kernel
theorem dX7_init_25 : decode cX7_init 25 = .ok (.putfield 19, 3) := by decide +kernel
theorem dX7_init_28 : decode cX7_init 28 = .ok (.aload_n 0, 1) := by decide +kernel
theorem dX7_init_29 : decode cX7_init 29 = .ok (.bipush 12, 2) := by decide +kernel
theorem dX7_init_31 : decode cX7_init 31 = .ok (.newarray .int, 2) := by decide +kernel
theorem dX7_init_33 : decode cX7_init 33 = .ok (.putfield 22, 3) := by decide +kernel
theorem dX7_init_36 : decode cX7_init 36 = .ok (.aload_n 0, 1) := by decide +kernel
theorem dX7_init_37 : decode cX7_init 37 = .ok (.bipush 12, 2) := by decide +kernel
theorem dX7_init_39 : decode cX7_init 39 = .ok (.newarray .int, 2) := by decide +kernel
theorem dX7_init_41 : decode cX7_init 41 = .ok (.putfield 25, 3) := by decide +kernel
theorem dX7_init_44 : decode cX7_init 44 = .ok (.aload_n 0, 1) := by decide +kernel
theorem dX7_init_45 : decode cX7_init 45 = .ok (.bipush 12, 2) := by decide +kernel
theorem dX7_init_47 : decode cX7_init 47 = .ok (.newarray .int, 2) := by decide +kernel
theorem dX7_init_49 : decode cX7_init 49 = .ok (.putfield 28, 3) := by decide +kernel
theorem dX7_init_52 : decode cX7_init 52 = .ok (.aload_n 0, 1) := by decide +kernel
theorem dX7_init_53 : decode cX7_init 53 = .ok (.bipush 12, 2) := by decide +kernel
theorem dX7_init_55 : decode cX7_init 55 = .ok (.newarray .int, 2) := by decide +kernel
theorem dX7_init_57 : decode cX7_init 57 = .ok (.putfield 31, 3) := by decide +kernel
theorem dX7_init_60 : decode cX7_init 60 = .ok (.aload_n 0, 1) := by decide +kernel
theorem dX7_init_61 : decode cX7_init 61 = .ok (.bipush 12, 2) := by decide +kernel
theorem dX7_init_63 : decode cX7_init 63 = .ok (.newarray .int, 2) := by decide +kernel
theorem dX7_init_65 : decode cX7_init 65 = .ok (.putfield 34, 3) := by decide +kernel
theorem dX7_init_68 : decode cX7_init 68 = .ok (.aload_n 0, 1) := by decide +kernel
theorem dX7_init_69 : decode cX7_init 69 = .ok (.bipush 12, 2) := by decide +kernel
theorem dX7_init_71 : decode cX7_init 71 = .ok (.newarray .int, 2) := by decide +kernel
theorem dX7_init_73 : decode cX7_init 73 = .ok (.putfield 37, 3) := by decide +kernel
theorem dX7_init_76 : decode cX7_init 76 = .ok (.aload_n 0, 1) := by decide +kernel
theorem dX7_init_77 : decode cX7_init 77 = .ok (.bipush 12, 2) := by decide +kernel
theorem dX7_init_79 : decode cX7_init 79 = .ok (.newarray .int, 2) := by decide +kernel
theorem dX7_init_81 : decode cX7_init 81 = .ok (.putfield 40, 3) := by decide +kernel
theorem dX7_init_84 : decode cX7_init 84 = .ok (.aload_n 0, 1) := by decide +kernel
theorem dX7_init_85 : decode cX7_init 85 = .ok (.bipush 12, 2) := by decide +kernel
theorem dX7_init_87 : decode cX7_init 87 = .ok (.newarray .boolean, 2) := by decide +kernel
theorem dX7_init_89 : decode cX7_init 89 = .ok (.putfield 43, 3) := by decide +kernel
theorem dX7_init_92 : decode cX7_init 92 = .ok (.aload_n 0, 1) := by decide +kernel
theorem dX7_init_93 : decode cX7_init 93 = .ok (.new 47, 3) := by decide +kernel
theorem dX7_init_96 : decode cX7_init 96 = .ok (.dup, 1) := by decide +kernel
theorem dX7_init_97 : decode cX7_init 97 = .ok (.invokespecial 49, 3) := by decide +kernel
theorem dX7_init_100 : decode cX7_init 100 = .ok (.putfield 50, 3) := by decide +kernel
theorem dX7_init_103 : decode cX7_init 103 = .ok (.aload_n 0, 1) := by decide +kernel
theorem dX7_init_104 : decode cX7_init 104 = .ok (.bipush 10, 2) := by decide +kernel
theorem dX7_init_106 : decode cX7_init 106 = .ok (.putfield 54, 3) := by decide +kernel
theorem dX7_init_109 : decode cX7_init 109 = .ok (.aload_n 0, 1) := by decide +kernel
theorem dX7_init_110 : decode cX7_init 110 = .ok (.iconst (-1), 1) := by decide +kernel
theorem dX7_init_111 : decode cX7_init 111 = .ok (.putfield 58, 3) := by decide +kernel
theorem dX7_init_114 : decode cX7_init 114 = .ok (.return_, 1) := by decide +kernel
theorem dX7_clear_0 : decode cX7_clear 0 = .ok (.aload_n 0, 1) := by decide +kernel
theorem dX7_clear_1 : decode cX7_clear 1 = .ok (.iconst 0, 1) := by decide +kernel
theorem dX7_clear_2 : decode cX7_clear 2 = .ok (.putfield 61, 3) := by decide +kernel
theorem dX7_clear_5 : decode cX7_clear 5 = .ok (.aload_n 0, 1) := by decide +kernel
theorem dX7_clear_6 : decode cX7_clear 6 = .ok (.getfield 50, 3) := by decide +kernel
theorem dX7_clear_9 : decode cX7_clear 9 = .ok (.iconst 0, 1) := by decide +kernel
theorem dX7_clear_10 : decode cX7_clear 10 = .ok (.putfield 64, 3) := by decide +kernel
theorem dX7_clear_13 : decode cX7_clear 13 = .ok (.aload_n 0, 1) := by decide +kernel
theorem dX7_clear_14 : decode cX7_clear 14 = .ok (.bipush 10, 2) := by decide +kernel
theorem dX7_clear_16 : decode cX7_clear 16 = .ok (.putfield 54, 3) := by decide +kernel
theorem dX7_clear_19 : decode cX7_clear 19 = .ok (.aload_n 0, 1) := by decide +kernel
theorem dX7_clear_20 : decode cX7_clear 20 = .ok (.iconst (-1), 1) := by decide +kernel
theorem dX7_clear_21 : decode cX7_clear 21 = .ok (.putfield 58, 3) := by decide +kernel
theorem dX7_clear_24 : decode cX7_clear 24 = .ok (.return_, 1) := by decide +kernel
theorem dX7_hasNode_0 : decode cX7_hasNode 0 = .ok (.iload_n 1, 1) := by decide +kernel
theorem dX7_hasNode_1 : decode cX7_hasNode 1 = .ok (.ifCond .lt 21, 3) := by decide +kernel
theorem dX7_hasNode_4 : decode cX7_hasNode 4 = .ok (.iload_n 1, 1) := by decide +kernel
theorem dX7_hasNode_5 : decode cX7_hasNode 5 = .ok (.aload_n 0, 1) := by decide +kernel
theorem dX7_hasNode_6 : decode cX7_hasNode 6 = .ok (.getfield 61, 3) := by decide +kernel
theorem dX7_hasNode_9 : decode cX7_hasNode 9 = .ok (.if_icmp .ge 13, 3) := by decide +kernel
theorem dX7_hasNode_12 : decode cX7_hasNode 12 = .ok (.iload_n 1, 1) := by decide +kernel
theorem dX7_hasNode_13 : decode cX7_hasNode 13 = .ok (.bipush 12, 2) := by decide +kernel
theorem dX7_hasNode_15 : decode cX7_hasNode 15 = .ok (.if_icmp .ge 7, 3) := by decide +kernel
theorem dX7_hasNode_18 : decode cX7_hasNode 18 = .ok (.iconst 1, 1) := by decide +kernel
theorem dX7_hasNode_19 : decode cX7_hasNode 19 = .ok (.goto 4, 3) := by decide +kernel
theorem dX7_hasNode_22 : decode cX7_hasNode 22 = .ok (.iconst 0, 1) := by decide +kernel
theorem dX7_hasNode_23 : decode cX7_hasNode 23 = .ok (.ireturn, 1) := by decide +kernel
theorem dX7_hasLeaf_0 : decode cX7_hasLeaf 0 = .ok (.aload_n 0, 1) := by decide +kernel
theorem dX7_hasLeaf_1 : decode cX7_hasLeaf 1 = .ok (.iload_n 1, 1) := by decide +kernel
theorem dX7_hasLeaf_2 : decode cX7_hasLeaf 2 = .ok (.invokevirtual 67, 3) := by decide +kernel
theorem dX7_hasLeaf_5 : decode cX7_hasLeaf 5 = .ok (.ifCond .eq 16, 3) := by decide +kernel
theorem dX7_hasLeaf_8 : decode cX7_hasLeaf 8 = .ok (.aload_n 0, 1) := by decide +kernel
theorem dX7_hasLeaf_9 : decode cX7_hasLeaf 9 = .ok (.getfield 22, 3) := by decide +kernel
theorem dX7_hasLeaf_12 : decode cX7_hasLeaf 12 = .ok (.iload_n 1, 1) := by decide +kernel
theorem dX7_hasLeaf_13 : decode cX7_hasLeaf 13 = .ok (.iaload, 1) := by decide +kernel
theorem dX7_hasLeaf_14 : decode cX7_hasLeaf 14 = .ok (.ifCond .ne 7, 3) := by decide +kernel
theorem dX7_hasLeaf_17 : decode cX7_hasLeaf 17 = .ok (.iconst 1, 1) := by decide +kernel
theorem dX7_hasLeaf_18 : decode cX7_hasLeaf 18 = .ok (.goto 4, 3) := by decide +kernel
theorem dX7_hasLeaf_21 : decode cX7_hasLeaf 21 = .ok (.iconst 0, 1) := by decide +kernel
theorem dX7_hasLeaf_22 : decode cX7_hasLeaf 22 = .ok (.ireturn, 1) := by decide +kernel
theorem dX7_findNode_0 : decode cX7_findNode 0 = .ok (.iconst 0, 1) := by decide +kernel
theorem dX7_findNode_1 : decode cX7_findNode 1 = .ok (.istore_n 3, 1) := by decide +kernel
theorem dX7_findNode_2 : decode cX7_findNode 2 = .ok (.iload_n 3, 1) := by decide +kernel
theorem dX7_findNode_3 : decode cX7_findNode 3 = .ok (.aload_n 0, 1) := by decide +kernel
theorem dX7_findNode_4 : decode cX7_findNode 4 = .ok (.getfield 61, 3) := by decide +kernel
theorem dX7_findNode_7 : decode cX7_findNode 7 = .ok (.if_icmp .ge 22, 3) := by decide +kernel
theorem dX7_findNode_10 : decode cX7_findNode 10 = .ok (.aload_n 0, 1) := by decide +kernel
theorem dX7_findNode_11 : decode cX7_findNode 11 = .ok (.getfield 9, 3) := by decide +kernel
theorem dX7_findNode_14 : decode cX7_findNode 14 = .ok (.iload_n 3, 1) := by decide +kernel
theorem dX7_findNode_15 : decode cX7_findNode 15 = .ok (.laload, 1) := by decide +kernel
theorem dX7_findNode_16 : decode cX7_findNode 16 = .ok (.lload_n 1, 1) := by decide +kernel
theorem dX7_findNode_17 : decode cX7_findNode 17 = .ok (.lcmp, 1) := by decide +kernel
theorem dX7_findNode_18 : decode cX7_findNode 18 = .ok (.ifCond .ne 5, 3) := by decide +kernel
theorem dX7_findNode_21 : decode cX7_findNode 21 = .ok (.iload_n 3, 1) := by decide +kernel
theorem dX7_findNode_22 : decode cX7_findNode 22 = .ok (.ireturn, 1) := by decide +kernel
theorem dX7_findNode_23 : decode cX7_findNode 23 = .ok (.iinc 3 1, 3) := by decide +kernel
theorem dX7_findNode_26 : decode cX7_findNode 26 = .ok (.goto (-24), 3) := by decide +kernel
theorem dX7_findNode_29 : decode cX7_findNode 29 = .ok (.bipush (-2), 2) := by decide +kernel
theorem dX7_findNode_31 : decode cX7_findNode 31 = .ok (.ireturn, 1) := by decide +kernel
theorem dX7_addNode_0 : decode cX7_addNode 0 = .ok (.aload_n 0, 1) := by decide +kernel
theorem dX7_addNode_1 : decode cX7_addNode 1 = .ok (.getfield 61, 3) := by decide +kernel
theorem dX7_addNode_4 : decode cX7_addNode 4 = .ok (.bipush 12, 2) := by decide +kernel
theorem dX7_addNode_6 : decode cX7_addNode 6 = .ok (.if_icmp .lt 4, 3) := by decide +kernel
theorem dX7_addNode_9 : decode cX7_addNode 9 = .ok (.return_, 1) := by decide +kernel
theorem dX7_addNode_10 : decode cX7_addNode 10 = .ok (.aload_n 0, 1) := by decide +kernel
theorem dX7_addNode_11 : decode cX7_addNode 11 = .ok (.getfield 61, 3) := by decide +kernel
theorem dX7_addNode_14 : decode cX7_addNode 14 = .ok (.istore 4, 2) := by decide +kernel
theorem dX7_addNode_16 : decode cX7_addNode 16 = .ok (.aload_n 0, 1) := by decide +kernel
theorem dX7_addNode_17 : decode cX7_addNode 17 = .ok (.dup, 1) := by decide +kernel
theorem dX7_addNode_18 : decode cX7_addNode 18 = .ok (.getfield 61, 3) := by decide +kernel
theorem dX7_addNode_21 : decode cX7_addNode 21 = .ok (.iconst 1, 1) := by decide +kernel
theorem dX7_addNode_22 : decode cX7_addNode 22 = .ok (.iadd, 1) := by decide +kernel
theorem dX7_addNode_23 : decode cX7_addNode 23 = .ok (.putfield 61, 3) := by decide +kernel
theorem dX7_addNode_26 : decode cX7_addNode 26 = .ok (.aload_n 0, 1) := by decide +kernel
theorem dX7_addNode_27 : decode cX7_addNode 27 = .ok (.getfield 9, 3) := by decide +kernel
theorem dX7_addNode_30 : decode cX7_addNode 30 = .ok (.iload 4, 2) := by decide +kernel
theorem dX7_addNode_32 : decode cX7_addNode 32 = .ok (.lload_n 1, 1) := by decide +kernel
theorem dX7_addNode_33 : decode cX7_addNode 33 = .ok (.lastore, 1) := by decide +kernel
theorem dX7_addNode_34 : decode cX7_addNode 34 = .ok (.aload_n 0, 1) := by decide +kernel
theorem dX7_addNode_35 : decode cX7_addNode 35 = .ok (.getfield 15, 3) := by decide +kernel
theorem dX7_addNode_38 : decode cX7_addNode 38 = .ok (.iload 4, 2) := by decide +kernel
theorem dX7_addNode_40 : decode cX7_addNode 40 = .ok (.iload_n 3, 1) := by decide +kernel
theorem dX7_addNode_41 : decode cX7_addNode 41 = .ok (.iastore, 1) := by decide +kernel
theorem dX7_addNode_42 : decode cX7_addNode 42 = .ok (.aload_n 0, 1) := by decide +kernel
theorem dX7_addNode_43 : decode cX7_addNode 43 = .ok (.getfield 19, 3) := by decide +kernel
theorem dX7_addNode_46 : decode cX7_addNode 46 = .ok (.iload 4, 2) := by decide +kernel
theorem dX7_addNode_48 : decode cX7_addNode 48 = .ok (.iconst 0, 1) := by decide +kernel
theorem dX7_addNode_49 : decode cX7_addNode 49 = .ok (.iastore, 1) := by decide +kernel
theorem dX7_addNode_50 : decode cX7_addNode 50 = .ok (.aload_n 0, 1) := by decide +kernel
theorem dX7_addNode_51 : decode cX7_addNode 51 = .ok (.getfield 22, 3) := by decide +kernel
theorem dX7_addNode_54 : decode cX7_addNode 54 = .ok (.iload 4, 2) := by decide +kernel
theorem dX7_addNode_56 : decode cX7_addNode 56 = .ok (.iconst 0, 1) := by decide +kernel
theorem dX7_addNode_57 : decode cX7_addNode 57 = .ok (.iastore, 1) := by decide +kernel
theorem dX7_addNode_58 : decode cX7_addNode 58 = .ok (.aload_n 0, 1) := by decide +kernel
theorem dX7_addNode_59 : decode cX7_addNode 59 = .ok (.getfield 43, 3) := by decide +kernel
theorem dX7_addNode_62 : decode cX7_addNode 62 = .ok (.iload 4, 2) := by decide +kernel
theorem dX7_addNode_64 : decode cX7_addNode 64 = .ok (.iconst 0, 1) := by decide +kernel
theorem dX7_addNode_65 : decode cX7_addNode 65 = .ok (.bastore, 1) := by decide +kernel
theorem dX7_addNode_66 : decode cX7_addNode 66 = .ok (.iconst 0, 1) := by decide +kernel
theorem dX7_addNode_67 : decode cX7_addNode 67 = .ok (.istore 5, 2) := by decide +kernel
theorem dX7_addNode_69 : decode cX7_addNode 69 = .ok (.iload 5, 2) := by decide +kernel
theorem dX7_addNode_71 : decode cX7_addNode 71 = .ok (.bipush 6, 2) := by decide +kernel
theorem dX7_addNode_73 : decode cX7_addNode 73 = .ok (.if_icmp .ge 24, 3) := by decide +kernel
theorem dX7_addNode_76 : decode cX7_addNode 76 = .ok (.aload_n 0, 1) := by decide +kernel
theorem dX7_addNode_77 : decode cX7_addNode 77 = .ok (.iload 5, 2) := by decide +kernel
theorem dX7_addNode_79 : decode cX7_addNode 79 = .ok (.invokevirtual 71, 3) := by decide +kernel
theorem dX7_addNode_82 : decode cX7_addNode 82 = .ok (.iload 4, 2) := by decide +kernel
theorem dX7_addNode_84 : decode cX7_addNode 84 = .ok (.getstatic 75, 3) := by decide +kernel
theorem dX7_addNode_87 : decode cX7_addNode 87 = .ok (.iload 5, 2) := by decide +kernel
theorem dX7_addNode_89 : decode cX7_addNode 89 = .ok (.iaload, 1) := by decide +kernel
theorem dX7_addNode_90 : decode cX7_addNode 90 = .ok (.iastore, 1) := by decide +kernel
theorem dX7_addNode_91 : decode cX7_addNode 91 = .ok (.iinc 5 1, 3) := by decide +kernel
theorem dX7_addNode_94 : decode cX7_addNode 94 = .ok (.goto (-25), 3) := by decide +kernel
theorem dX7_addNode_97 : decode cX7_addNode 97 = .ok (.iload_n 3, 1) := by decide +kernel
theorem dX7_addNode_98 : decode cX7_addNode 98 = .ok (.ifCond .lt 34, 3) := by decide +kernel
theorem dX7_addNode_101 : decode cX7_addNode 101 = .ok (.iload_n 3, 1) := by decide +kernel
theorem dX7_addNode_102 : decode cX7_addNode 102 = .ok (.iload 4, 2) := by decide +kernel
theorem dX7_addNode_104 : decode cX7_addNode 104 = .ok (.if_icmp .ge 28, 3) := by decide +kernel
theorem dX7_addNode_107 : decode cX7_addNode 107 = .ok (.aload_n 0, 1) := by decide +kernel
theorem dX7_addNode_108 : decode cX7_addNode 108 = .ok (.getfield 19, 3) := by decide +kernel
theorem dX7_addNode_111 : decode cX7_addNode 111 = .ok (.iload 4, 2) := by decide +kernel
theorem dX7_addNode_113 : decode cX7_addNode 113 = .ok (.aload_n 0, 1) := by decide +kernel
theorem dX7_addNode_114 : decode cX7_addNode 114 = .ok (.getfield 19, 3) := by decide +kernel
theorem dX7_addNode_117 : decode cX7_addNode 117 = .ok (.iload_n 3, 1) := by decide +kernel
theorem dX7_addNode_118 : decode cX7_addNode 118 = .ok (.iaload, 1) := by decide +kernel
theorem dX7_addNode_119 : decode cX7_addNode 119 = .ok (.iconst 1, 1) := by decide +kernel
theorem dX7_addNode_120 : decode cX7_addNode 120 = .ok (.iadd, 1) := by decide +kernel
theorem dX7_addNode_121 : decode cX7_addNode 121 = .ok (.iastore, 1) := by decide +kernel
theorem dX7_addNode_122 : decode cX7_addNode 122 = .ok (.aload_n 0, 1) := by decide +kernel
theorem dX7_addNode_123 : decode cX7_addNode 123 = .ok (.getfield 22, 3) := by decide +kernel
theorem dX7_addNode_126 : decode cX7_addNode 126 = .ok (.iload_n 3, 1) := by decide +kernel
theorem dX7_addNode_127 : decode cX7_addNode 127 = .ok (.dup2, 1) := by decide +kernel
theorem dX7_addNode_128 : decode cX7_addNode 128 = .ok (.iaload, 1) := by decide +kernel
theorem dX7_addNode_129 : decode cX7_addNode 129 = .ok (.iconst 1, 1) := by decide +kernel
theorem dX7_addNode_130 : decode cX7_addNode 130 = .ok (.iadd, 1) := by decide +kernel
theorem dX7_addNode_131 : decode cX7_addNode 131 = .ok (.iastore, 1) := by decide +kernel
theorem dX7_addNode_132 : decode cX7_addNode 132 = .ok (.return_, 1) := by decide +kernel
theorem dX7_row_0 : decode cX7_row 0 = .ok (.iload_n 1, 1) := by decide +kernel
theorem dX7_row_1 : decode cX7_row 1 = .ok (.tableswitch 60 0 4 #[35, 40, 45, 50, 55], 35) := by decide +kernel
theorem dX7_row_36 : decode cX7_row 36 = .ok (.aload_n 0, 1) := by decide +kernel
theorem dX7_row_37 : decode cX7_row 37 = .ok (.getfield 25, 3) := by decide +kernel
theorem dX7_row_40 : decode cX7_row 40 = .ok (.areturn, 1) := by decide +kernel
theorem dX7_row_41 : decode cX7_row 41 = .ok (.aload_n 0, 1) := by decide +kernel
theorem dX7_row_42 : decode cX7_row 42 = .ok (.getfield 28, 3) := by decide +kernel
theorem dX7_row_45 : decode cX7_row 45 = .ok (.areturn, 1) := by decide +kernel
theorem dX7_row_46 : decode cX7_row 46 = .ok (.aload_n 0, 1) := by decide +kernel
theorem dX7_row_47 : decode cX7_row 47 = .ok (.getfield 31, 3) := by decide +kernel
theorem dX7_row_50 : decode cX7_row 50 = .ok (.areturn, 1) := by decide +kernel
theorem dX7_row_51 : decode cX7_row 51 = .ok (.aload_n 0, 1) := by decide +kernel
theorem dX7_row_52 : decode cX7_row 52 = .ok (.getfield 34, 3) := by decide +kernel
theorem dX7_row_55 : decode cX7_row 55 = .ok (.areturn, 1) := by decide +kernel
theorem dX7_row_56 : decode cX7_row 56 = .ok (.aload_n 0, 1) := by decide +kernel
theorem dX7_row_57 : decode cX7_row 57 = .ok (.getfield 37, 3) := by decide +kernel
theorem dX7_row_60 : decode cX7_row 60 = .ok (.areturn, 1) := by decide +kernel
theorem dX7_row_61 : decode cX7_row 61 = .ok (.aload_n 0, 1) := by decide +kernel
theorem dX7_row_62 : decode cX7_row 62 = .ok (.getfield 40, 3) := by decide +kernel
theorem dX7_row_65 : decode cX7_row 65 = .ok (.areturn, 1) := by decide +kernel
theorem dX7_childOf_0 : decode cX7_childOf 0 = .ok (.iconst 0, 1) := by decide +kernel
theorem dX7_childOf_1 : decode cX7_childOf 1 = .ok (.istore_n 3, 1) := by decide +kernel
theorem dX7_childOf_2 : decode cX7_childOf 2 = .ok (.iload_n 1, 1) := by decide +kernel
theorem dX7_childOf_3 : decode cX7_childOf 3 = .ok (.iconst 1, 1) := by decide +kernel
theorem dX7_childOf_4 : decode cX7_childOf 4 = .ok (.iadd, 1) := by decide +kernel
theorem dX7_childOf_5 : decode cX7_childOf 5 = .ok (.istore 4, 2) := by decide +kernel
theorem dX7_childOf_7 : decode cX7_childOf 7 = .ok (.iload 4, 2) := by decide +kernel
theorem dX7_childOf_9 : decode cX7_childOf 9 = .ok (.aload_n 0, 1) := by decide +kernel
theorem dX7_childOf_10 : decode cX7_childOf 10 = .ok (.getfield 61, 3) := by decide +kernel
theorem dX7_childOf_13 : decode cX7_childOf 13 = .ok (.if_icmp .ge 31, 3) := by decide +kernel
theorem dX7_childOf_16 : decode cX7_childOf 16 = .ok (.aload_n 0, 1) := by decide +kernel
theorem dX7_childOf_17 : decode cX7_childOf 17 = .ok (.getfield 15, 3) := by decide +kernel
theorem dX7_childOf_20 : decode cX7_childOf 20 = .ok (.iload 4, 2) := by decide +kernel
theorem dX7_childOf_22 : decode cX7_childOf 22 = .ok (.iaload, 1) := by decide +kernel
theorem dX7_childOf_23 : decode cX7_childOf 23 = .ok (.iload_n 1, 1) := by decide +kernel
theorem dX7_childOf_24 : decode cX7_childOf 24 = .ok (.if_icmp .ne 14, 3) := by decide +kernel
theorem dX7_childOf_27 : decode cX7_childOf 27 = .ok (.iload_n 3, 1) := by decide +kernel
theorem dX7_childOf_28 : decode cX7_childOf 28 = .ok (.iload_n 2, 1) := by decide +kernel
theorem dX7_childOf_29 : decode cX7_childOf 29 = .ok (.if_icmp .ne 6, 3) := by decide +kernel
theorem dX7_childOf_32 : decode cX7_childOf 32 = .ok (.iload 4, 2) := by decide +kernel
theorem dX7_childOf_34 : decode cX7_childOf 34 = .ok (.ireturn, 1) := by decide +kernel
theorem dX7_childOf_35 : decode cX7_childOf 35 = .ok (.iinc 3 1, 3) := by decide +kernel
theorem dX7_childOf_38 : decode cX7_childOf 38 = .ok (.iinc 4 1, 3) := by decide +kernel
theorem dX7_childOf_41 : decode cX7_childOf 41 = .ok (.goto (-34), 3) := by decide +kernel
theorem dX7_childOf_44 : decode cX7_childOf 44 = .ok (.bipush (-2), 2) := by decide +kernel
theorem dX7_childOf_46 : decode cX7_childOf 46 = .ok (.ireturn, 1) := by decide +kernel
theorem dX7_distance_0 : decode cX7_distance 0 = .ok (.aload_n 0, 1) := by decide +kernel
theorem dX7_distance_1 : decode cX7_distance 1 = .ok (.iload_n 1, 1) := by decide +kernel
theorem dX7_distance_2 : decode cX7_distance 2 = .ok (.invokevirtual 67, 3) := by decide +kernel
theorem dX7_distance_5 : decode cX7_distance 5 = .ok (.ifCond .eq 27, 3) := by decide +kernel
theorem dX7_distance_8 : decode cX7_distance 8 = .ok (.aload_n 0, 1) := by decide +kernel
theorem dX7_distance_9 : decode cX7_distance 9 = .ok (.iload_n 2, 1) := by decide +kernel
theorem dX7_distance_10 : decode cX7_distance 10 = .ok (.invokevirtual 67, 3) := by decide +kernel
theorem dX7_distance_13 : decode cX7_distance 13 = .ok (.ifCond .eq 19, 3) := by decide +kernel
theorem dX7_distance_16 : decode cX7_distance 16 = .ok (.aload_n 0, 1) := by decide +kernel
theorem dX7_distance_17 : decode cX7_distance 17 = .ok (.getfield 19, 3) := by decide +kernel
theorem dX7_distance_20 : decode cX7_distance 20 = .ok (.iload_n 1, 1) := by decide +kernel
theorem dX7_distance_21 : decode cX7_distance 21 = .ok (.iaload, 1) := by decide +kernel
theorem dX7_distance_22 : decode cX7_distance 22 = .ok (.aload_n 0, 1) := by decide +kernel
theorem dX7_distance_23 : decode cX7_distance 23 = .ok (.getfield 19, 3) := by decide +kernel
theorem dX7_distance_26 : decode cX7_distance 26 = .ok (.iload_n 2, 1) := by decide +kernel
theorem dX7_distance_27 : decode cX7_distance 27 = .ok (.iaload, 1) := by decide +kernel
theorem dX7_distance_28 : decode cX7_distance 28 = .ok (.isub, 1) := by decide +kernel
theorem dX7_distance_29 : decode cX7_distance 29 = .ok (.goto 5, 3) := by decide +kernel
theorem dX7_distance_32 : decode cX7_distance 32 = .ok (.bipush (-2), 2) := by decide +kernel
theorem dX7_distance_34 : decode cX7_distance 34 = .ok (.ireturn, 1) := by decide +kernel
theorem dX8_init_0 : decode cX8_init 0 = .ok (.aload_n 0, 1) := by decide +kernel
theorem dX8_init_1 : decode cX8_init 1 = .ok (.invokespecial 3, 3) := by decide +kernel
theorem dX8_init_4 : decode cX8_init 4 = .ok (.aload_n 0, 1) := by decide +kernel
theorem dX8_init_5 : decode cX8_init 5 = .ok (.bipush 12, 2) := by decide +kernel
theorem dX8_init_7 : decode cX8_init 7 = .ok (.newarray .int, 2) := by decide +kernel
theorem dX8_init_9 : decode cX8_init 9 = .ok (.putfield 9, 3) := by decide +kernel
theorem dX8_init_12 : decode cX8_init 12 = .ok (.aload_n 0, 1) := by decide +kernel
theorem dX8_init_13 : decode cX8_init 13 = .ok (.bipush 12, 2) := by decide +kernel
theorem dX8_init_15 : decode cX8_init 15 = .ok (.newarray .int, 2) := by decide +kernel
theorem dX8_init_17 : decode cX8_init 17 = .ok (.putfield 15, 3) := by decide +kernel
theorem dX8_init_20 : decode cX8_init 20 = .ok (.aload_n 0, 1) := by decide +kernel
theorem dX8_init_21 : decode cX8_init 21 = .ok (.bipush 12, 2) := by decide +kernel
theorem dX8_init_23 : decode cX8_init 23 = .ok (.newarray .int, 2) := by decide +kernel
theorem dX8_init_25 : decode cX8_init 25 = .ok (.putfield 18, 3) := by decide +kernel
theorem dX8_init_28 : decode cX8_init 28 = .ok (.aload_n 0, 1) := by decide +kernel
theorem dX8_init_29 : decode cX8_init 29 = .ok (.new 21, 3) := by decide +kernel
theorem dX8_init_32 : decode cX8_init 32 = .ok (.dup, 1) := by decide +kernel
theorem dX8_init_33 : decode cX8_init 33 = .ok (.invokespecial 23, 3) := by decide +kernel
theorem dX8_init_36 : decode cX8_init 36 = .ok (.putfield 24, 3) := by decide +kernel
theorem dX8_init_39 : decode cX8_init 39 = .ok (.aload_n 0, 1) := by decide +kernel
theorem dX8_init_40 : decode cX8_init 40 = .ok (.new 28, 3) := by decide +kernel
theorem dX8_init_43 : decode cX8_init 43 = .ok (.dup, 1) := by decide +kernel
theorem dX8_init_44 : decode cX8_init 44 = .ok (.invokespecial 30, 3) := by decide +kernel
theorem dX8_init_47 : decode cX8_init 47 = .ok (.putfield 31, 3) := by decide +kernel
theorem dX8_init_50 : decode cX8_init 50 = .ok (.aload_n 0, 1) := by decide +kernel
theorem dX8_init_51 : decode cX8_init 51 = .ok (.new 35, 3) := by decide +kernel
theorem dX8_init_54 : decode cX8_init 54 = .ok (.dup, 1) := by decide +kernel
theorem dX8_init_55 : decode cX8_init 55 = .ok (.invokespecial 37, 3) := by decide +kernel
theorem dX8_init_58 : decode cX8_init 58 = .ok (.putfield 38, 3) := by decide +kernel
theorem dX8_init_61 : decode cX8_init 61 = .ok (.aload_n 0, 1) := by decide +kernel
theorem dX8_init_62 : decode cX8_init 62 = .ok (.new 42, 3) := by decide +kernel
theorem dX8_init_65 : decode cX8_init 65 = .ok (.dup, 1) := by decide +kernel
theorem dX8_init_66 : decode cX8_init 66 = .ok (.invokespecial 44, 3) := by decide +kernel
theorem dX8_init_69 : decode cX8_init 69 = .ok (.putfield 45, 3) := by decide +kernel
theorem dX8_init_72 : decode cX8_init 72 = .ok (.return_, 1) := by decide +kernel
theorem dX8_begin_0 : decode cX8_begin 0 = .ok (.aload_n 0, 1) := by decide +kernel
theorem dX8_begin_1 : decode cX8_begin 1 = .ok (.iconst 0, 1) := by decide +kernel
theorem dX8_begin_2 : decode cX8_begin 2 = .ok (.putfield 49, 3) := by decide +kernel
theorem dX8_begin_5 : decode cX8_begin 5 = .ok (.aload_n 1, 1) := by decide +kernel
theorem dX8_begin_6 : decode cX8_begin 6 = .ok (.getfield 53, 3) := by decide +kernel
theorem dX8_begin_9 : decode cX8_begin 9 = .ok (.aload_n 0, 1) := by decide +kernel
theorem dX8_begin_10 : decode cX8_begin 10 = .ok (.getfield 9, 3) := by decide +kernel
theorem dX8_begin_13 : decode cX8_begin 13 = .ok (.invokestatic 56, 3) := by decide +kernel
theorem dX8_begin_16 : decode cX8_begin 16 = .ok (.aload_n 1, 1) := by decide +kernel
theorem dX8_begin_17 : decode cX8_begin 17 = .ok (.getfield 60, 3) := by decide +kernel
theorem dX8_begin_20 : decode cX8_begin 20 = .ok (.aload_n 0, 1) := by decide +kernel
theorem dX8_begin_21 : decode cX8_begin 21 = .ok (.getfield 15, 3) := by decide +kernel
theorem dX8_begin_24 : decode cX8_begin 24 = .ok (.invokestatic 56, 3) := by decide +kernel
theorem dX8_begin_27 : decode cX8_begin 27 = .ok (.aload_n 1, 1) := by decide +kernel
theorem dX8_begin_28 : decode cX8_begin 28 = .ok (.getfield 61, 3) := by decide +kernel
theorem dX8_begin_31 : decode cX8_begin 31 = .ok (.aload_n 0, 1) := by decide +kernel
theorem dX8_begin_32 : decode cX8_begin 32 = .ok (.getfield 18, 3) := by decide +kernel
theorem dX8_begin_35 : decode cX8_begin 35 = .ok (.invokestatic 56, 3) := by decide +kernel
theorem dX8_begin_38 : decode cX8_begin 38 = .ok (.aload_n 0, 1) := by decide +kernel
theorem dX8_begin_39 : decode cX8_begin 39 = .ok (.getfield 24, 3) := by decide +kernel
theorem dX8_begin_42 : decode cX8_begin 42 = .ok (.aload_n 1, 1) := by decide +kernel
theorem dX8_begin_43 : decode cX8_begin 43 = .ok (.invokevirtual 62, 3) := by decide +kernel
theorem dX8_begin_46 : decode cX8_begin 46 = .ok (.aload_n 0, 1) := by decide +kernel
theorem dX8_begin_47 : decode cX8_begin 47 = .ok (.getfield 31, 3) := by decide +kernel
theorem dX8_begin_50 : decode cX8_begin 50 = .ok (.invokevirtual 66, 3) := by decide +kernel
theorem dX8_begin_53 : decode cX8_begin 53 = .ok (.aload_n 0, 1) := by decide +kernel
theorem dX8_begin_54 : decode cX8_begin 54 = .ok (.getfield 38, 3) := by decide +kernel
theorem dX8_begin_57 : decode cX8_begin 57 = .ok (.invokevirtual 68, 3) := by decide +kernel
theorem dX8_begin_60 : decode cX8_begin 60 = .ok (.aload_n 0, 1) := by decide +kernel
theorem dX8_begin_61 : decode cX8_begin 61 = .ok (.getfield 45, 3) := by decide +kernel
theorem dX8_begin_64 : decode cX8_begin 64 = .ok (.iconst 0, 1) := by decide +kernel
theorem dX8_begin_65 : decode cX8_begin 65 = .ok (.putfield 69, 3) := by decide +kernel
theorem dX8_begin_68 : decode cX8_begin 68 = .ok (.return_, 1) := by decide +kernel
theorem dX8_row_0 : decode cX8_row 0 = .ok (.iload_n 1, 1) := by decide +kernel
theorem dX8_row_1 : decode cX8_row 1 = .ok (.lookupswitch 37 #[(0, 27), (1, 32)], 27) := by decide +kernel
theorem dX8_row_28 : decode cX8_row 28 = .ok (.aload_n 0, 1) := by decide +kernel
theorem dX8_row_29 : decode cX8_row 29 = .ok (.getfield 9, 3) := by decide +kernel
theorem dX8_row_32 : decode cX8_row 32 = .ok (.areturn, 1) := by decide +kernel
theorem dX8_row_33 : decode cX8_row 33 = .ok (.aload_n 0, 1) := by decide +kernel
theorem dX8_row_34 : decode cX8_row 34 = .ok (.getfield 15, 3) := by decide +kernel
theorem dX8_row_37 : decode cX8_row 37 = .ok (.areturn, 1) := by decide +kernel
theorem dX8_row_38 : decode cX8_row 38 = .ok (.aload_n 0, 1) := by decide +kernel
theorem dX8_row_39 : decode cX8_row 39 = .ok (.getfield 18, 3) := by decide +kernel
theorem dX8_row_42 : decode cX8_row 42 = .ok (.areturn, 1) := by decide +kernel
theorem dX8_childrenRate_0 : decode cX8_childrenRate 0 = .ok (.iconst 0, 1) := by decide +kernel
theorem dX8_childrenRate_1 : decode cX8_childrenRate 1 = .ok (.istore_n 3, 1) := by decide +kernel
theorem dX8_childrenRate_2 : decode cX8_childrenRate 2 = .ok (.iload_n 2, 1) := by decide +kernel
theorem dX8_childrenRate_3 : decode cX8_childrenRate 3 = .ok (.iconst 1, 1) := by decide +kernel
theorem dX8_childrenRate_4 : decode cX8_childrenRate 4 = .ok (.iadd, 1) := by decide +kernel
theorem dX8_childrenRate_5 : decode cX8_childrenRate 5 = .ok (.istore 4, 2) := by decide +kernel
theorem dX8_childrenRate_7 : decode cX8_childrenRate 7 = .ok (.iload 4, 2) := by decide +kernel
theorem dX8_childrenRate_9 : decode cX8_childrenRate 9 = .ok (.aload_n 1, 1) := by decide +kernel
theorem dX8_childrenRate_10 : decode cX8_childrenRate 10 = .ok (.getfield 85, 3) := by decide +kernel
theorem dX8_childrenRate_13 : decode cX8_childrenRate 13 = .ok (.if_icmp .ge 30, 3) := by decide +kernel
theorem dX8_childrenRate_16 : decode cX8_childrenRate 16 = .ok (.aload_n 1, 1) := by decide +kernel
theorem dX8_childrenRate_17 : decode cX8_childrenRate 17 = .ok (.getfield 88, 3) := by decide +kernel
theorem dX8_childrenRate_20 : decode cX8_childrenRate 20 = .ok (.iload 4, 2) := by decide +kernel
theorem dX8_childrenRate_22 : decode cX8_childrenRate 22 = .ok (.iaload, 1) := by decide +kernel
theorem dX8_childrenRate_23 : decode cX8_childrenRate 23 = .ok (.iload_n 2, 1) := by decide +kernel
theorem dX8_childrenRate_24 : decode cX8_childrenRate 24 = .ok (.if_icmp .ne 13, 3) := by decide +kernel
theorem dX8_childrenRate_27 : decode cX8_childrenRate 27 = .ok (.iload_n 3, 1) := by decide +kernel
theorem dX8_childrenRate_28 : decode cX8_childrenRate 28 = .ok (.aload_n 0, 1) := by decide +kernel
theorem dX8_childrenRate_29 : decode cX8_childrenRate 29 = .ok (.getfield 9, 3) := by decide +kernel
theorem dX8_childrenRate_32 : decode cX8_childrenRate 32 = .ok (.iload 4, 2) := by decide +kernel
theorem dX8_childrenRate_34 : decode cX8_childrenRate 34 = .ok (.iaload, 1) := by decide +kernel
theorem dX8_childrenRate_35 : decode cX8_childrenRate 35 = .ok (.iadd, 1) := by decide +kernel
theorem dX8_childrenRate_36 : decode cX8_childrenRate 36 = .ok (.istore_n 3, 1) := by decide +kernel
theorem dX8_childrenRate_37 : decode cX8_childrenRate 37 = .ok (.iinc 4 1, 3) := by decide +kernel
theorem dX8_childrenRate_40 : decode cX8_childrenRate 40 = .ok (.goto (-33), 3) := by decide +kernel
theorem dX8_childrenRate_43 : decode cX8_childrenRate 43 = .ok (.iload_n 3, 1) := by decide +kernel
theorem dX8_childrenRate_44 : decode cX8_childrenRate 44 = .ok (.ireturn, 1) := by decide +kernel
theorem dX8_leastCeiling_0 : decode cX8_leastCeiling 0 = .ok (.sipush 999, 3) := by decide +kernel
theorem dX8_leastCeiling_3 : decode cX8_leastCeiling 3 = .ok (.istore_n 3, 1) := by decide +kernel
theorem dX8_leastCeiling_4 : decode cX8_leastCeiling 4 = .ok (.iload_n 2, 1) := by decide +kernel
theorem dX8_leastCeiling_5 : decode cX8_leastCeiling 5 = .ok (.istore 4, 2) := by decide +kernel
theorem dX8_leastCeiling_7 : decode cX8_leastCeiling 7 = .ok (.iconst 0, 1) := by decide +kernel
theorem dX8_leastCeiling_8 : decode cX8_leastCeiling 8 = .ok (.istore 5, 2) := by decide +kernel
theorem dX8_leastCeiling_10 : decode cX8_leastCeiling 10 = .ok (.iload 5, 2) := by decide +kernel
theorem dX8_leastCeiling_12 : decode cX8_leastCeiling 12 = .ok (.bipush 12, 2) := by decide +kernel
theorem dX8_leastCeiling_14 : decode cX8_leastCeiling 14 = .ok (.if_icmp .ge 39, 3) := by decide +kernel
theorem dX8_leastCeiling_17 : decode cX8_leastCeiling 17 = .ok (.aload_n 1, 1) := by decide +kernel
theorem dX8_leastCeiling_18 : decode cX8_leastCeiling 18 = .ok (.iload 4, 2) := by decide +kernel
theorem dX8_leastCeiling_20 : decode cX8_leastCeiling 20 = .ok (.invokevirtual 91, 3) := by decide +kernel
theorem dX8_leastCeiling_23 : decode cX8_leastCeiling 23 = .ok (.ifCond .eq 30, 3) := by decide +kernel
theorem dX8_leastCeiling_26 : decode cX8_leastCeiling 26 = .ok (.iload_n 3, 1) := by decide +kernel
theorem dX8_leastCeiling_27 : decode cX8_leastCeiling 27 = .ok (.aload_n 0, 1) := by decide +kernel
theorem dX8_leastCeiling_28 : decode cX8_leastCeiling 28 = .ok (.getfield 15, 3) := by decide +kernel
theorem dX8_leastCeiling_31 : decode cX8_leastCeiling 31 = .ok (.iload 4, 2) := by decide +kernel
theorem dX8_leastCeiling_33 : decode cX8_leastCeiling 33 = .ok (.iaload, 1) := by decide +kernel
theorem dX8_leastCeiling_34 : decode cX8_leastCeiling 34 = .ok (.invokestatic 95, 3) := by decide +kernel
theorem dX8_leastCeiling_37 : decode cX8_leastCeiling 37 = .ok (.istore_n 3, 1) := by decide +kernel
theorem dX8_leastCeiling_38 : decode cX8_leastCeiling 38 = .ok (.aload_n 1, 1) := by decide +kernel
theorem dX8_leastCeiling_39 : decode cX8_leastCeiling 39 = .ok (.getfield 88, 3) := by decide +kernel
theorem dX8_leastCeiling_42 : decode cX8_leastCeiling 42 = .ok (.iload 4, 2) := by decide +kernel
theorem dX8_leastCeiling_44 : decode cX8_leastCeiling 44 = .ok (.iaload, 1) := by decide +kernel
theorem dX8_leastCeiling_45 : decode cX8_leastCeiling 45 = .ok (.istore 4, 2) := by decide +kernel
theorem dX8_leastCeiling_47 : decode cX8_leastCeiling 47 = .ok (.iinc 5 1, 3) := by decide +kernel
theorem dX8_leastCeiling_50 : decode cX8_leastCeiling 50 = .ok (.goto (-40), 3) := by decide +kernel
theorem dX8_leastCeiling_53 : decode cX8_leastCeiling 53 = .ok (.iload_n 3, 1) := by decide +kernel
theorem dX8_leastCeiling_54 : decode cX8_leastCeiling 54 = .ok (.ireturn, 1) := by decide +kernel
theorem dX8_send_0 : decode cX8_send 0 = .ok (.aload_n 1, 1) := by decide +kernel
theorem dX8_send_1 : decode cX8_send 1 = .ok (.iload_n 2, 1) := by decide +kernel
theorem dX8_send_2 : decode cX8_send 2 = .ok (.invokevirtual 91, 3) := by decide +kernel
theorem dX8_send_5 : decode cX8_send 5 = .ok (.ifCond .eq 11, 3) := by decide +kernel
theorem dX8_send_8 : decode cX8_send 8 = .ok (.aload_n 1, 1) := by decide +kernel
theorem dX8_send_9 : decode cX8_send 9 = .ok (.iload_n 3, 1) := by decide +kernel
theorem dX8_send_10 : decode cX8_send 10 = .ok (.invokevirtual 91, 3) := by decide +kernel
theorem dX8_send_13 : decode cX8_send 13 = .ok (.ifCond .ne 4, 3) := by decide +kernel
theorem dX8_send_16 : decode cX8_send 16 = .ok (.return_, 1) := by decide +kernel
theorem dX8_send_17 : decode cX8_send 17 = .ok (.aload_n 0, 1) := by decide +kernel
theorem dX8_send_18 : decode cX8_send 18 = .ok (.getfield 24, 3) := by decide +kernel
theorem dX8_send_21 : decode cX8_send 21 = .ok (.aload_n 1, 1) := by decide +kernel
theorem dX8_send_22 : decode cX8_send 22 = .ok (.iload_n 2, 1) := by decide +kernel
theorem dX8_send_23 : decode cX8_send 23 = .ok (.iload_n 3, 1) := by decide +kernel
theorem dX8_send_24 : decode cX8_send 24 = .ok (.iload 4, 2) := by decide +kernel
theorem dX8_send_26 : decode cX8_send 26 = .ok (.invokevirtual 101, 3) := by decide +kernel
theorem dX8_send_29 : decode cX8_send 29 = .ok (.aload_n 0, 1) := by decide +kernel
theorem dX8_send_30 : decode cX8_send 30 = .ok (.getfield 38, 3) := by decide +kernel
theorem dX8_send_33 : decode cX8_send 33 = .ok (.iload_n 2, 1) := by decide +kernel
theorem dX8_send_34 : decode cX8_send 34 = .ok (.iload_n 3, 1) := by decide +kernel
theorem dX8_send_35 : decode cX8_send 35 = .ok (.iload 4, 2) := by decide +kernel
theorem dX8_send_37 : decode cX8_send 37 = .ok (.invokevirtual 105, 3) := by decide +kernel
theorem dX8_send_40 : decode cX8_send 40 = .ok (.aload_n 0, 1) := by decide +kernel
theorem dX8_send_41 : decode cX8_send 41 = .ok (.getfield 45, 3) := by decide +kernel
theorem dX8_send_44 : decode cX8_send 44 = .ok (.iload_n 2, 1) := by decide +kernel
theorem dX8_send_45 : decode cX8_send 45 = .ok (.iload 4, 2) := by decide +kernel
theorem dX8_send_47 : decode cX8_send 47 = .ok (.iload_n 3, 1) := by decide +kernel
theorem dX8_send_48 : decode cX8_send 48 = .ok (.aload_n 0, 1) := by decide +kernel
theorem dX8_send_49 : decode cX8_send 49 = .ok (.getfield 49, 3) := by decide +kernel
theorem dX8_send_52 : decode cX8_send 52 = .ok (.invokevirtual 109, 3) := by decide +kernel
theorem dX8_send_55 : decode cX8_send 55 = .ok (.return_, 1) := by decide +kernel
theorem dX8_ticksUntilLender_0 : decode cX8_ticksUntilLender 0 = .ok (.iconst 0, 1) := by decide +kernel
theorem dX8_ticksUntilLender_1 : decode cX8_ticksUntilLender 1 = .ok (.istore 4, 2) := by decide +kernel
theorem dX8_ticksUntilLender_3 : decode cX8_ticksUntilLender 3 = .ok (.sipush 1001, 3) := by decide +kernel
theorem dX8_ticksUntilLender_6 : decode cX8_ticksUntilLender 6 = .ok (.istore 5, 2) := by decide +kernel
theorem dX8_ticksUntilLender_8 : decode cX8_ticksUntilLender 8 = .ok (.iconst 1, 1) := by decide +kernel
theorem dX8_ticksUntilLender_9 : decode cX8_ticksUntilLender 9 = .ok (.istore 6, 2) := by decide +kernel
theorem dX8_ticksUntilLender_11 : decode cX8_ticksUntilLender 11 = .ok (.iload_n 2, 1) := by decide +kernel
theorem dX8_ticksUntilLender_12 : decode cX8_ticksUntilLender 12 = .ok (.istore 7, 2) := by decide +kernel
theorem dX8_ticksUntilLender_14 : decode cX8_ticksUntilLender 14 = .ok (.iconst 0, 1) := by decide +kernel
theorem dX8_ticksUntilLender_15 : decode cX8_ticksUntilLender 15 = .ok (.istore 8, 2) := by decide +kernel
theorem dX8_ticksUntilLender_17 : decode cX8_ticksUntilLender 17 = .ok (.iload 8, 2) := by decide +kernel
theorem dX8_ticksUntilLender_19 : decode cX8_ticksUntilLender 19 = .ok (.bipush 12, 2) := by decide +kernel
theorem dX8_ticksUntilLender_21 : decode cX8_ticksUntilLender 21 = .ok (.if_icmp .ge 149, 3) := by decide +kernel
theorem dX8_ticksUntilLender_24 : decode cX8_ticksUntilLender 24 = .ok (.aload_n 1, 1) := by decide +kernel
theorem dX8_ticksUntilLender_25 : decode cX8_ticksUntilLender 25 = .ok (.iload 7, 2) := by decide +kernel
theorem dX8_ticksUntilLender_27 : decode cX8_ticksUntilLender 27 = .ok (.invokevirtual 91, 3) := by decide +kernel
theorem dX8_ticksUntilLender_30 : decode cX8_ticksUntilLender 30 = .ok (.ifCond .eq 140, 3) := by decide +kernel
theorem dX8_ticksUntilLender_33 : decode cX8_ticksUntilLender 33 = .ok (.aload_n 1, 1) := by decide +kernel
theorem dX8_ticksUntilLender_34 : decode cX8_ticksUntilLender 34 = .ok (.getfield 123, 3) := by decide +kernel
theorem dX8_ticksUntilLender_37 : decode cX8_ticksUntilLender 37 = .ok (.iload 7, 2) := by decide +kernel
theorem dX8_ticksUntilLender_39 : decode cX8_ticksUntilLender 39 = .ok (.iaload, 1) := by decide +kernel
theorem dX8_ticksUntilLender_40 : decode cX8_ticksUntilLender 40 = .ok (.istore 9, 2) := by decide +kernel
theorem dX8_ticksUntilLender_42 : decode cX8_ticksUntilLender 42 = .ok (.iload_n 3, 1) := by decide +kernel
theorem dX8_ticksUntilLender_43 : decode cX8_ticksUntilLender 43 = .ok (.aload_n 0, 1) := by decide +kernel
theorem dX8_ticksUntilLender_44 : decode cX8_ticksUntilLender 44 = .ok (.getfield 24, 3) := by decide +kernel
theorem dX8_ticksUntilLender_47 : decode cX8_ticksUntilLender 47 = .ok (.getfield 126, 3) := by decide +kernel
theorem dX8_ticksUntilLender_50 : decode cX8_ticksUntilLender 50 = .ok (.iload 7, 2) := by decide +kernel
theorem dX8_ticksUntilLender_52 : decode cX8_ticksUntilLender 52 = .ok (.iaload, 1) := by decide +kernel
theorem dX8_ticksUntilLender_53 : decode cX8_ticksUntilLender 53 = .ok (.aload_n 0, 1) := by decide +kernel
theorem dX8_ticksUntilLender_54 : decode cX8_ticksUntilLender 54 = .ok (.getfield 15, 3) := by decide +kernel
theorem dX8_ticksUntilLender_57 : decode cX8_ticksUntilLender 57 = .ok (.iload 7, 2) := by decide +kernel
theorem dX8_ticksUntilLender_59 : decode cX8_ticksUntilLender 59 = .ok (.iaload, 1) := by decide +kernel
theorem dX8_ticksUntilLender_60 : decode cX8_ticksUntilLender 60 = .ok (.iload 9, 2) := by decide +kernel
theorem dX8_ticksUntilLender_62 : decode cX8_ticksUntilLender 62 = .ok (.invokestatic 129, 3) := by decide +kernel
theorem dX8_ticksUntilLender_65 : decode cX8_ticksUntilLender 65 = .ok (.istore 10, 2) := by decide +kernel
theorem dX8_ticksUntilLender_67 : decode cX8_ticksUntilLender 67 = .ok (.iload 4, 2) := by decide +kernel
theorem dX8_ticksUntilLender_69 : decode cX8_ticksUntilLender 69 = .ok (.iload 10, 2) := by decide +kernel
theorem dX8_ticksUntilLender_71 : decode cX8_ticksUntilLender 71 = .ok (.invokestatic 133, 3) := by decide +kernel
theorem dX8_ticksUntilLender_74 : decode cX8_ticksUntilLender 74 = .ok (.istore 4, 2) := by decide +kernel
theorem dX8_ticksUntilLender_76 : decode cX8_ticksUntilLender 76 = .ok (.iload 6, 2) := by decide +kernel
theorem dX8_ticksUntilLender_78 : decode cX8_ticksUntilLender 78 = .ok (.ifCond .eq 77, 3) := by decide +kernel
theorem dX8_ticksUntilLender_81 : decode cX8_ticksUntilLender 81 = .ok (.aload_n 0, 1) := by decide +kernel
theorem dX8_ticksUntilLender_82 : decode cX8_ticksUntilLender 82 = .ok (.getfield 24, 3) := by decide +kernel
theorem dX8_ticksUntilLender_85 : decode cX8_ticksUntilLender 85 = .ok (.getfield 136, 3) := by decide +kernel
theorem dX8_ticksUntilLender_88 : decode cX8_ticksUntilLender 88 = .ok (.iload 7, 2) := by decide +kernel
theorem dX8_ticksUntilLender_90 : decode cX8_ticksUntilLender 90 = .ok (.iaload, 1) := by decide +kernel
theorem dX8_ticksUntilLender_91 : decode cX8_ticksUntilLender 91 = .ok (.aload_n 0, 1) := by decide +kernel
theorem dX8_ticksUntilLender_92 : decode cX8_ticksUntilLender 92 = .ok (.getfield 24, 3) := by decide +kernel
theorem dX8_ticksUntilLender_95 : decode cX8_ticksUntilLender 95 = .ok (.getfield 139, 3) := by decide +kernel
theorem dX8_ticksUntilLender_98 : decode cX8_ticksUntilLender 98 = .ok (.iload 7, 2) := by decide +kernel
theorem dX8_ticksUntilLender_100 : decode cX8_ticksUntilLender 100 = .ok (.iaload, 1) := by decide +kernel
theorem dX8_ticksUntilLender_101 : decode cX8_ticksUntilLender 101 = .ok (.iadd, 1) := by decide +kernel
theorem dX8_ticksUntilLender_102 : decode cX8_ticksUntilLender 102 = .ok (.istore 11, 2) := by decide +kernel
theorem dX8_ticksUntilLender_104 : decode cX8_ticksUntilLender 104 = .ok (.iload_n 3, 1) := by decide +kernel
theorem dX8_ticksUntilLender_105 : decode cX8_ticksUntilLender 105 = .ok (.iload 11, 2) := by decide +kernel
theorem dX8_ticksUntilLender_107 : decode cX8_ticksUntilLender 107 = .ok (.aload_n 0, 1) := by decide +kernel
theorem dX8_ticksUntilLender_108 : decode cX8_ticksUntilLender 108 = .ok (.getfield 9, 3) := by decide +kernel
theorem dX8_ticksUntilLender_111 : decode cX8_ticksUntilLender 111 = .ok (.iload 7, 2) := by decide +kernel
theorem dX8_ticksUntilLender_113 : decode cX8_ticksUntilLender 113 = .ok (.iaload, 1) := by decide +kernel
theorem dX8_ticksUntilLender_114 : decode cX8_ticksUntilLender 114 = .ok (.iload 9, 2) := by decide +kernel
theorem dX8_ticksUntilLender_116 : decode cX8_ticksUntilLender 116 = .ok (.aload_n 1, 1) := by decide +kernel
theorem dX8_ticksUntilLender_117 : decode cX8_ticksUntilLender 117 = .ok (.getfield 142, 3) := by decide +kernel
theorem dX8_ticksUntilLender_120 : decode cX8_ticksUntilLender 120 = .ok (.iload 7, 2) := by decide +kernel
theorem dX8_ticksUntilLender_122 : decode cX8_ticksUntilLender 122 = .ok (.iaload, 1) := by decide +kernel
theorem dX8_ticksUntilLender_123 : decode cX8_ticksUntilLender 123 = .ok (.iadd, 1) := by decide +kernel
theorem dX8_ticksUntilLender_124 : decode cX8_ticksUntilLender 124 = .ok (.invokestatic 129, 3) := by decide +kernel
theorem dX8_ticksUntilLender_127 : decode cX8_ticksUntilLender 127 = .ok (.istore 12, 2) := by decide +kernel
theorem dX8_ticksUntilLender_129 : decode cX8_ticksUntilLender 129 = .ok (.iload 5, 2) := by decide +kernel
theorem dX8_ticksUntilLender_131 : decode cX8_ticksUntilLender 131 = .ok (.iload 12, 2) := by decide +kernel
theorem dX8_ticksUntilLender_133 : decode cX8_ticksUntilLender 133 = .ok (.invokestatic 95, 3) := by decide +kernel
theorem dX8_ticksUntilLender_136 : decode cX8_ticksUntilLender 136 = .ok (.istore 5, 2) := by decide +kernel
theorem dX8_ticksUntilLender_138 : decode cX8_ticksUntilLender 138 = .ok (.aload_n 1, 1) := by decide +kernel
theorem dX8_ticksUntilLender_139 : decode cX8_ticksUntilLender 139 = .ok (.getfield 145, 3) := by decide +kernel
theorem dX8_ticksUntilLender_142 : decode cX8_ticksUntilLender 142 = .ok (.iload 7, 2) := by decide +kernel
theorem dX8_ticksUntilLender_144 : decode cX8_ticksUntilLender 144 = .ok (.baload, 1) := by decide +kernel
theorem dX8_ticksUntilLender_145 : decode cX8_ticksUntilLender 145 = .ok (.ifCond .ne 7, 3) := by decide +kernel
theorem dX8_ticksUntilLender_148 : decode cX8_ticksUntilLender 148 = .ok (.iconst 1, 1) := by decide +kernel
theorem dX8_ticksUntilLender_149 : decode cX8_ticksUntilLender 149 = .ok (.goto 4, 3) := by decide +kernel
theorem dX8_ticksUntilLender_152 : decode cX8_ticksUntilLender 152 = .ok (.iconst 0, 1) := by decide +kernel
theorem dX8_ticksUntilLender_153 : decode cX8_ticksUntilLender 153 = .ok (.istore 6, 2) := by decide +kernel
theorem dX8_ticksUntilLender_155 : decode cX8_ticksUntilLender 155 = .ok (.aload_n 1, 1) := by decide +kernel
theorem dX8_ticksUntilLender_156 : decode cX8_ticksUntilLender 156 = .ok (.getfield 88, 3) := by decide +kernel
theorem dX8_ticksUntilLender_159 : decode cX8_ticksUntilLender 159 = .ok (.iload 7, 2) := by decide +kernel
theorem dX8_ticksUntilLender_161 : decode cX8_ticksUntilLender 161 = .ok (.iaload, 1) := by decide +kernel
theorem dX8_ticksUntilLender_162 : decode cX8_ticksUntilLender 162 = .ok (.istore 7, 2) := by decide +kernel
theorem dX8_ticksUntilLender_164 : decode cX8_ticksUntilLender 164 = .ok (.iinc 8 1, 3) := by decide +kernel
theorem dX8_ticksUntilLender_167 : decode cX8_ticksUntilLender 167 = .ok (.goto (-150), 3) := by decide +kernel
theorem dX8_ticksUntilLender_170 : decode cX8_ticksUntilLender 170 = .ok (.iload 4, 2) := by decide +kernel
theorem dX8_ticksUntilLender_172 : decode cX8_ticksUntilLender 172 = .ok (.iload 5, 2) := by decide +kernel
theorem dX8_ticksUntilLender_174 : decode cX8_ticksUntilLender 174 = .ok (.invokestatic 133, 3) := by decide +kernel
theorem dX8_ticksUntilLender_177 : decode cX8_ticksUntilLender 177 = .ok (.istore 8, 2) := by decide +kernel
theorem dX8_ticksUntilLender_179 : decode cX8_ticksUntilLender 179 = .ok (.iload 8, 2) := by decide +kernel
theorem dX8_ticksUntilLender_181 : decode cX8_ticksUntilLender 181 = .ok (.sipush 1000, 3) := by decide +kernel
theorem dX8_ticksUntilLender_184 : decode cX8_ticksUntilLender 184 = .ok (.if_icmp .gt 8, 3) := by decide +kernel
theorem dX8_ticksUntilLender_187 : decode cX8_ticksUntilLender 187 = .ok (.iload 8, 2) := by decide +kernel
theorem dX8_ticksUntilLender_189 : decode cX8_ticksUntilLender 189 = .ok (.goto 5, 3) := by decide +kernel
theorem dX8_ticksUntilLender_192 : decode cX8_ticksUntilLender 192 = .ok (.bipush (-2), 2) := by decide +kernel
theorem dX8_ticksUntilLender_194 : decode cX8_ticksUntilLender 194 = .ok (.ireturn, 1) := by decide +kernel
theorem dX8_ticksUntil_0 : decode cX8_ticksUntil 0 = .ok (.iload_n 1, 1) := by decide +kernel
theorem dX8_ticksUntil_1 : decode cX8_ticksUntil 1 = .ok (.iload_n 0, 1) := by decide +kernel
theorem dX8_ticksUntil_2 : decode cX8_ticksUntil 2 = .ok (.if_icmp .lt 5, 3) := by decide +kernel
theorem dX8_ticksUntil_5 : decode cX8_ticksUntil 5 = .ok (.iconst 0, 1) := by decide +kernel
theorem dX8_ticksUntil_6 : decode cX8_ticksUntil 6 = .ok (.ireturn, 1) := by decide +kernel
theorem dX8_ticksUntil_7 : decode cX8_ticksUntil 7 = .ok (.iload_n 2, 1) := by decide +kernel
theorem dX8_ticksUntil_8 : decode cX8_ticksUntil 8 = .ok (.iconst 1, 1) := by decide +kernel
theorem dX8_ticksUntil_9 : decode cX8_ticksUntil 9 = .ok (.if_icmp .lt 8, 3) := by decide +kernel
theorem dX8_ticksUntil_12 : decode cX8_ticksUntil 12 = .ok (.iload_n 3, 1) := by decide +kernel
theorem dX8_ticksUntil_13 : decode cX8_ticksUntil 13 = .ok (.iload_n 0, 1) := by decide +kernel
theorem dX8_ticksUntil_14 : decode cX8_ticksUntil 14 = .ok (.if_icmp .ge 7, 3) := by decide +kernel
theorem dX8_ticksUntil_17 : decode cX8_ticksUntil 17 = .ok (.sipush 1001, 3) := by decide +kernel
theorem dX8_ticksUntil_20 : decode cX8_ticksUntil 20 = .ok (.ireturn, 1) := by decide +kernel
theorem dX8_ticksUntil_21 : decode cX8_ticksUntil 21 = .ok (.iload_n 0, 1) := by decide +kernel
theorem dX8_ticksUntil_22 : decode cX8_ticksUntil 22 = .ok (.iload_n 1, 1) := by decide +kernel
theorem dX8_ticksUntil_23 : decode cX8_ticksUntil 23 = .ok (.isub, 1) := by decide +kernel
theorem dX8_ticksUntil_24 : decode cX8_ticksUntil 24 = .ok (.iload_n 2, 1) := by decide +kernel
theorem dX8_ticksUntil_25 : decode cX8_ticksUntil 25 = .ok (.iadd, 1) := by decide +kernel
theorem dX8_ticksUntil_26 : decode cX8_ticksUntil 26 = .ok (.iconst 1, 1) := by decide +kernel
theorem dX8_ticksUntil_27 : decode cX8_ticksUntil 27 = .ok (.isub, 1) := by decide +kernel
theorem dX8_ticksUntil_28 : decode cX8_ticksUntil 28 = .ok (.iload_n 2, 1) := by decide +kernel
theorem dX8_ticksUntil_29 : decode cX8_ticksUntil 29 = .ok (.idiv, 1) := by decide +kernel
theorem dX8_ticksUntil_30 : decode cX8_ticksUntil 30 = .ok (.ireturn, 1) := by decide +kernel
theorem dX8_makeTicks_0 : decode cX8_makeTicks 0 = .ok (.iconst 0, 1) := by decide +kernel
theorem dX8_makeTicks_1 : decode cX8_makeTicks 1 = .ok (.istore_n 3, 1) := by decide +kernel
theorem dX8_makeTicks_2 : decode cX8_makeTicks 2 = .ok (.iconst 0, 1) := by decide +kernel
theorem dX8_makeTicks_3 : decode cX8_makeTicks 3 = .ok (.istore 4, 2) := by decide +kernel
theorem dX8_makeTicks_5 : decode cX8_makeTicks 5 = .ok (.iload 4, 2) := by decide +kernel
theorem dX8_makeTicks_7 : decode cX8_makeTicks 7 = .ok (.iload_n 2, 1) := by decide +kernel
theorem dX8_makeTicks_8 : decode cX8_makeTicks 8 = .ok (.if_icmp .ge 17, 3) := by decide +kernel
theorem dX8_makeTicks_11 : decode cX8_makeTicks 11 = .ok (.iload_n 3, 1) := by decide +kernel
theorem dX8_makeTicks_12 : decode cX8_makeTicks 12 = .ok (.aload_n 0, 1) := by decide +kernel
theorem dX8_makeTicks_13 : decode cX8_makeTicks 13 = .ok (.aload_n 1, 1) := by decide +kernel
theorem dX8_makeTicks_14 : decode cX8_makeTicks 14 = .ok (.invokevirtual 149, 3) := by decide +kernel
theorem dX8_makeTicks_17 : decode cX8_makeTicks 17 = .ok (.iadd, 1) := by decide +kernel
theorem dX8_makeTicks_18 : decode cX8_makeTicks 18 = .ok (.istore_n 3, 1) := by decide +kernel
theorem dX8_makeTicks_19 : decode cX8_makeTicks 19 = .ok (.iinc 4 1, 3) := by decide +kernel
theorem dX8_makeTicks_22 : decode cX8_makeTicks 22 = .ok (.goto (-17), 3) := by decide +kernel
theorem dX8_makeTicks_25 : decode cX8_makeTicks 25 = .ok (.iload_n 3, 1) := by decide +kernel
theorem dX8_makeTicks_26 : decode cX8_makeTicks 26 = .ok (.ireturn, 1) := by decide +kernel
theorem dX8_makeTick_0 : decode cX8_makeTick 0 = .ok (.aload_n 0, 1) := by decide +kernel
theorem dX8_makeTick_1 : decode cX8_makeTick 1 = .ok (.dup, 1) := by decide +kernel
theorem dX8_makeTick_2 : decode cX8_makeTick 2 = .ok (.getfield 49, 3) := by decide +kernel
theorem dX8_makeTick_5 : decode cX8_makeTick 5 = .ok (.iconst 1, 1) := by decide +kernel
theorem dX8_makeTick_6 : decode cX8_makeTick 6 = .ok (.iadd, 1) := by decide +kernel
theorem dX8_makeTick_7 : decode cX8_makeTick 7 = .ok (.putfield 49, 3) := by decide +kernel
theorem dX8_makeTick_10 : decode cX8_makeTick 10 = .ok (.aload_n 0, 1) := by decide +kernel
theorem dX8_makeTick_11 : decode cX8_makeTick 11 = .ok (.aload_n 1, 1) := by decide +kernel
theorem dX8_makeTick_12 : decode cX8_makeTick 12 = .ok (.invokevirtual 153, 3) := by decide +kernel
theorem dX8_makeTick_15 : decode cX8_makeTick 15 = .ok (.iconst 0, 1) := by decide +kernel
theorem dX8_makeTick_16 : decode cX8_makeTick 16 = .ok (.istore_n 2, 1) := by decide +kernel
theorem dX8_makeTick_17 : decode cX8_makeTick 17 = .ok (.iload_n 2, 1) := by decide +kernel
theorem dX8_makeTick_18 : decode cX8_makeTick 18 = .ok (.aload_n 1, 1) := by decide +kernel
theorem dX8_makeTick_19 : decode cX8_makeTick 19 = .ok (.getfield 85, 3) := by decide +kernel
theorem dX8_makeTick_22 : decode cX8_makeTick 22 = .ok (.if_icmp .ge 30, 3) := by decide +kernel
theorem dX8_makeTick_25 : decode cX8_makeTick 25 = .ok (.aload_n 0, 1) := by decide +kernel
theorem dX8_makeTick_26 : decode cX8_makeTick 26 = .ok (.getfield 24, 3) := by decide +kernel
theorem dX8_makeTick_29 : decode cX8_makeTick 29 = .ok (.aload_n 1, 1) := by decide +kernel
theorem dX8_makeTick_30 : decode cX8_makeTick 30 = .ok (.iload_n 2, 1) := by decide +kernel
theorem dX8_makeTick_31 : decode cX8_makeTick 31 = .ok (.aload_n 0, 1) := by decide +kernel
theorem dX8_makeTick_32 : decode cX8_makeTick 32 = .ok (.getfield 9, 3) := by decide +kernel
theorem dX8_makeTick_35 : decode cX8_makeTick 35 = .ok (.iload_n 2, 1) := by decide +kernel
theorem dX8_makeTick_36 : decode cX8_makeTick 36 = .ok (.iaload, 1) := by decide +kernel
theorem dX8_makeTick_37 : decode cX8_makeTick 37 = .ok (.aload_n 0, 1) := by decide +kernel
theorem dX8_makeTick_38 : decode cX8_makeTick 38 = .ok (.getfield 15, 3) := by decide +kernel
theorem dX8_makeTick_41 : decode cX8_makeTick 41 = .ok (.iload_n 2, 1) := by decide +kernel
theorem dX8_makeTick_42 : decode cX8_makeTick 42 = .ok (.iaload, 1) := by decide +kernel
theorem dX8_makeTick_43 : decode cX8_makeTick 43 = .ok (.invokevirtual 156, 3) := by decide +kernel
theorem dX8_makeTick_46 : decode cX8_makeTick 46 = .ok (.iinc 2 1, 3) := by decide +kernel
theorem dX8_makeTick_49 : decode cX8_makeTick 49 = .ok (.goto (-32), 3) := by decide +kernel
theorem dX8_makeTick_52 : decode cX8_makeTick 52 = .ok (.aload_n 0, 1) := by decide +kernel
theorem dX8_makeTick_53 : decode cX8_makeTick 53 = .ok (.aload_n 1, 1) := by decide +kernel
theorem dX8_makeTick_54 : decode cX8_makeTick 54 = .ok (.invokevirtual 159, 3) := by decide +kernel
theorem dX8_makeTick_57 : decode cX8_makeTick 57 = .ok (.aload_n 0, 1) := by decide +kernel
theorem dX8_makeTick_58 : decode cX8_makeTick 58 = .ok (.aload_n 1, 1) := by decide +kernel
theorem dX8_makeTick_59 : decode cX8_makeTick 59 = .ok (.invokevirtual 162, 3) := by decide +kernel
theorem dX8_makeTick_62 : decode cX8_makeTick 62 = .ok (.ireturn, 1) := by decide +kernel
theorem dX8_makeChanges_0 : decode cX8_makeChanges 0 = .ok (.aload_n 1, 1) := by decide +kernel
theorem dX8_makeChanges_1 : decode cX8_makeChanges 1 = .ok (.getfield 165, 3) := by decide +kernel
theorem dX8_makeChanges_4 : decode cX8_makeChanges 4 = .ok (.astore_n 2, 1) := by decide +kernel
theorem dX8_makeChanges_5 : decode cX8_makeChanges 5 = .ok (.iconst 0, 1) := by decide +kernel
theorem dX8_makeChanges_6 : decode cX8_makeChanges 6 = .ok (.istore_n 3, 1) := by decide +kernel
theorem dX8_makeChanges_7 : decode cX8_makeChanges 7 = .ok (.iload_n 3, 1) := by decide +kernel
theorem dX8_makeChanges_8 : decode cX8_makeChanges 8 = .ok (.aload_n 2, 1) := by decide +kernel
theorem dX8_makeChanges_9 : decode cX8_makeChanges 9 = .ok (.getfield 169, 3) := by decide +kernel
theorem dX8_makeChanges_12 : decode cX8_makeChanges 12 = .ok (.if_icmp .ge 58, 3) := by decide +kernel
theorem dX8_makeChanges_15 : decode cX8_makeChanges 15 = .ok (.aload_n 2, 1) := by decide +kernel
theorem dX8_makeChanges_16 : decode cX8_makeChanges 16 = .ok (.getfield 172, 3) := by decide +kernel
theorem dX8_makeChanges_19 : decode cX8_makeChanges 19 = .ok (.iload_n 3, 1) := by decide +kernel
theorem dX8_makeChanges_20 : decode cX8_makeChanges 20 = .ok (.iaload, 1) := by decide +kernel
theorem dX8_makeChanges_21 : decode cX8_makeChanges 21 = .ok (.aload_n 0, 1) := by decide +kernel
theorem dX8_makeChanges_22 : decode cX8_makeChanges 22 = .ok (.getfield 49, 3) := by decide +kernel
theorem dX8_makeChanges_25 : decode cX8_makeChanges 25 = .ok (.if_icmp .ne 39, 3) := by decide +kernel
theorem dX8_makeChanges_28 : decode cX8_makeChanges 28 = .ok (.aload_n 1, 1) := by decide +kernel
theorem dX8_makeChanges_29 : decode cX8_makeChanges 29 = .ok (.aload_n 2, 1) := by decide +kernel
theorem dX8_makeChanges_30 : decode cX8_makeChanges 30 = .ok (.getfield 174, 3) := by decide +kernel
theorem dX8_makeChanges_33 : decode cX8_makeChanges 33 = .ok (.iload_n 3, 1) := by decide +kernel
theorem dX8_makeChanges_34 : decode cX8_makeChanges 34 = .ok (.iaload, 1) := by decide +kernel
theorem dX8_makeChanges_35 : decode cX8_makeChanges 35 = .ok (.invokevirtual 91, 3) := by decide +kernel
theorem dX8_makeChanges_38 : decode cX8_makeChanges 38 = .ok (.ifCond .eq 26, 3) := by decide +kernel
theorem dX8_makeChanges_41 : decode cX8_makeChanges 41 = .ok (.aload_n 0, 1) := by decide +kernel
theorem dX8_makeChanges_42 : decode cX8_makeChanges 42 = .ok (.aload_n 2, 1) := by decide +kernel
theorem dX8_makeChanges_43 : decode cX8_makeChanges 43 = .ok (.getfield 177, 3) := by decide +kernel
theorem dX8_makeChanges_46 : decode cX8_makeChanges 46 = .ok (.iload_n 3, 1) := by decide +kernel
theorem dX8_makeChanges_47 : decode cX8_makeChanges 47 = .ok (.iaload, 1) := by decide +kernel
theorem dX8_makeChanges_48 : decode cX8_makeChanges 48 = .ok (.invokevirtual 180, 3) := by decide +kernel
theorem dX8_makeChanges_51 : decode cX8_makeChanges 51 = .ok (.aload_n 2, 1) := by decide +kernel
theorem dX8_makeChanges_52 : decode cX8_makeChanges 52 = .ok (.getfield 174, 3) := by decide +kernel
theorem dX8_makeChanges_55 : decode cX8_makeChanges 55 = .ok (.iload_n 3, 1) := by decide +kernel
theorem dX8_makeChanges_56 : decode cX8_makeChanges 56 = .ok (.iaload, 1) := by decide +kernel
theorem dX8_makeChanges_57 : decode cX8_makeChanges 57 = .ok (.aload_n 2, 1) := by decide +kernel
theorem dX8_makeChanges_58 : decode cX8_makeChanges 58 = .ok (.getfield 184, 3) := by decide +kernel
theorem dX8_makeChanges_61 : decode cX8_makeChanges 61 = .ok (.iload_n 3, 1) := by decide +kernel
theorem dX8_makeChanges_62 : decode cX8_makeChanges 62 = .ok (.iaload, 1) := by decide +kernel
theorem dX8_makeChanges_63 : decode cX8_makeChanges 63 = .ok (.iastore, 1) := by decide +kernel
theorem dX8_makeChanges_64 : decode cX8_makeChanges 64 = .ok (.iinc 3 1, 3) := by decide +kernel
theorem dX8_makeChanges_67 : decode cX8_makeChanges 67 = .ok (.goto (-60), 3) := by decide +kernel
theorem dX8_makeChanges_70 : decode cX8_makeChanges 70 = .ok (.return_, 1) := by decide +kernel
theorem dX8_dropOld_0 : decode cX8_dropOld 0 = .ok (.aload_n 1, 1) := by decide +kernel
theorem dX8_dropOld_1 : decode cX8_dropOld 1 = .ok (.getfield 187, 3) := by decide +kernel
theorem dX8_dropOld_4 : decode cX8_dropOld 4 = .ok (.iconst (-1), 1) := by decide +kernel
theorem dX8_dropOld_5 : decode cX8_dropOld 5 = .ok (.if_icmp .ne 4, 3) := by decide +kernel
theorem dX8_dropOld_8 : decode cX8_dropOld 8 = .ok (.return_, 1) := by decide +kernel
theorem dX8_dropOld_9 : decode cX8_dropOld 9 = .ok (.iconst 0, 1) := by decide +kernel
theorem dX8_dropOld_10 : decode cX8_dropOld 10 = .ok (.istore_n 2, 1) := by decide +kernel
theorem dX8_dropOld_11 : decode cX8_dropOld 11 = .ok (.iload_n 2, 1) := by decide +kernel
theorem dX8_dropOld_12 : decode cX8_dropOld 12 = .ok (.aload_n 1, 1) := by decide +kernel
theorem dX8_dropOld_13 : decode cX8_dropOld 13 = .ok (.getfield 85, 3) := by decide +kernel
theorem dX8_dropOld_16 : decode cX8_dropOld 16 = .ok (.if_icmp .ge 56, 3) := by decide +kernel
theorem dX8_dropOld_19 : decode cX8_dropOld 19 = .ok (.iconst 0, 1) := by decide +kernel
theorem dX8_dropOld_20 : decode cX8_dropOld 20 = .ok (.istore_n 3, 1) := by decide +kernel
theorem dX8_dropOld_21 : decode cX8_dropOld 21 = .ok (.iload_n 3, 1) := by decide +kernel
theorem dX8_dropOld_22 : decode cX8_dropOld 22 = .ok (.bipush 16, 2) := by decide +kernel
theorem dX8_dropOld_24 : decode cX8_dropOld 24 = .ok (.if_icmp .ge 42, 3) := by decide +kernel
theorem dX8_dropOld_27 : decode cX8_dropOld 27 = .ok (.aload_n 0, 1) := by decide +kernel
theorem dX8_dropOld_28 : decode cX8_dropOld 28 = .ok (.iload_n 2, 1) := by decide +kernel
end
section
theorem dX8_dropOld_29 : decode cX8_dropOld 29 = .ok (.aload_n 1, 1) := by decide +kernel
theorem dX8_dropOld_30 : decode cX8_dropOld 30 = .ok (.getfield 187, 3) := by decide +kernel
theorem dX8_dropOld_33 : decode cX8_dropOld 33 = .ok (.invokevirtual 190, 3) := by decide +kernel
theorem dX8_dropOld_36 : decode cX8_dropOld 36 = .ok (.ifCond .eq 30, 3) := by decide +kernel
theorem dX8_dropOld_39 : decode cX8_dropOld 39 = .ok (.aload_n 0, 1) := by decide +kernel
theorem dX8_dropOld_40 : decode cX8_dropOld 40 = .ok (.getfield 31, 3) := by decide +kernel
theorem dX8_dropOld_43 : decode cX8_dropOld 43 = .ok (.iload_n 2, 1) := by decide +kernel
theorem dX8_dropOld_44 : decode cX8_dropOld 44 = .ok (.invokevirtual 194, 3) := by decide +kernel
theorem dX8_dropOld_47 : decode cX8_dropOld 47 = .ok (.aload_n 0, 1) := by decide +kernel
theorem dX8_dropOld_48 : decode cX8_dropOld 48 = .ok (.getfield 38, 3) := by decide +kernel
theorem dX8_dropOld_51 : decode cX8_dropOld 51 = .ok (.getfield 116, 3) := by decide +kernel
theorem dX8_dropOld_54 : decode cX8_dropOld 54 = .ok (.iload_n 2, 1) := by decide +kernel
theorem dX8_dropOld_55 : decode cX8_dropOld 55 = .ok (.dup2, 1) := by decide +kernel
theorem dX8_dropOld_56 : decode cX8_dropOld 56 = .ok (.iaload, 1) := by decide +kernel
theorem dX8_dropOld_57 : decode cX8_dropOld 57 = .ok (.iconst 1, 1) := by decide +kernel
theorem dX8_dropOld_58 : decode cX8_dropOld 58 = .ok (.iadd, 1) := by decide +kernel
theorem dX8_dropOld_59 : decode cX8_dropOld 59 = .ok (.iastore, 1) := by decide +kernel
theorem dX8_dropOld_60 : decode cX8_dropOld 60 = .ok (.iinc 3 1, 3) := by decide +kernel
theorem dX8_dropOld_63 : decode cX8_dropOld 63 = .ok (.goto (-42), 3) := by decide +kernel
theorem dX8_dropOld_66 : decode cX8_dropOld 66 = .ok (.iinc 2 1, 3) := by decide +kernel
theorem dX8_dropOld_69 : decode cX8_dropOld 69 = .ok (.goto (-58), 3) := by decide +kernel
theorem dX8_dropOld_72 : decode cX8_dropOld 72 = .ok (.return_, 1) := by decide +kernel
theorem dX8_isFrontOld_0 : decode cX8_isFrontOld 0 = .ok (.aload_n 0, 1) := by decide +kernel
theorem dX8_isFrontOld_1 : decode cX8_isFrontOld 1 = .ok (.getfield 31, 3) := by decide +kernel
theorem dX8_isFrontOld_4 : decode cX8_isFrontOld 4 = .ok (.getfield 198, 3) := by decide +kernel
theorem dX8_isFrontOld_7 : decode cX8_isFrontOld 7 = .ok (.iload_n 1, 1) := by decide +kernel
theorem dX8_isFrontOld_8 : decode cX8_isFrontOld 8 = .ok (.iaload, 1) := by decide +kernel
theorem dX8_isFrontOld_9 : decode cX8_isFrontOld 9 = .ok (.ifCond .le 28, 3) := by decide +kernel
theorem dX8_isFrontOld_12 : decode cX8_isFrontOld 12 = .ok (.aload_n 0, 1) := by decide +kernel
theorem dX8_isFrontOld_13 : decode cX8_isFrontOld 13 = .ok (.getfield 49, 3) := by decide +kernel
theorem dX8_isFrontOld_16 : decode cX8_isFrontOld 16 = .ok (.aload_n 0, 1) := by decide +kernel
theorem dX8_isFrontOld_17 : decode cX8_isFrontOld 17 = .ok (.getfield 31, 3) := by decide +kernel
theorem dX8_isFrontOld_20 : decode cX8_isFrontOld 20 = .ok (.getfield 201, 3) := by decide +kernel
theorem dX8_isFrontOld_23 : decode cX8_isFrontOld 23 = .ok (.iload_n 1, 1) := by decide +kernel
theorem dX8_isFrontOld_24 : decode cX8_isFrontOld 24 = .ok (.bipush 16, 2) := by decide +kernel
theorem dX8_isFrontOld_26 : decode cX8_isFrontOld 26 = .ok (.imul, 1) := by decide +kernel
theorem dX8_isFrontOld_27 : decode cX8_isFrontOld 27 = .ok (.iaload, 1) := by decide +kernel
theorem dX8_isFrontOld_28 : decode cX8_isFrontOld 28 = .ok (.isub, 1) := by decide +kernel
theorem dX8_isFrontOld_29 : decode cX8_isFrontOld 29 = .ok (.iload_n 2, 1) := by decide +kernel
theorem dX8_isFrontOld_30 : decode cX8_isFrontOld 30 = .ok (.if_icmp .le 7, 3) := by decide +kernel
theorem dX8_isFrontOld_33 : decode cX8_isFrontOld 33 = .ok (.iconst 1, 1) := by decide +kernel
theorem dX8_isFrontOld_34 : decode cX8_isFrontOld 34 = .ok (.goto 4, 3) := by decide +kernel
theorem dX8_isFrontOld_37 : decode cX8_isFrontOld 37 = .ok (.iconst 0, 1) := by decide +kernel
theorem dX8_isFrontOld_38 : decode cX8_isFrontOld 38 = .ok (.ireturn, 1) := by decide +kernel
theorem dX8_dispatch_0 : decode cX8_dispatch 0 = .ok (.iconst 0, 1) := by decide +kernel
theorem dX8_dispatch_1 : decode cX8_dispatch 1 = .ok (.istore_n 2, 1) := by decide +kernel
theorem dX8_dispatch_2 : decode cX8_dispatch 2 = .ok (.iload_n 2, 1) := by decide +kernel
theorem dX8_dispatch_3 : decode cX8_dispatch 3 = .ok (.aload_n 1, 1) := by decide +kernel
theorem dX8_dispatch_4 : decode cX8_dispatch 4 = .ok (.getfield 204, 3) := by decide +kernel
theorem dX8_dispatch_7 : decode cX8_dispatch 7 = .ok (.if_icmp .ge 64, 3) := by decide +kernel
theorem dX8_dispatch_10 : decode cX8_dispatch 10 = .ok (.aload_n 0, 1) := by decide +kernel
theorem dX8_dispatch_11 : decode cX8_dispatch 11 = .ok (.aload_n 1, 1) := by decide +kernel
theorem dX8_dispatch_12 : decode cX8_dispatch 12 = .ok (.invokevirtual 207, 3) := by decide +kernel
theorem dX8_dispatch_15 : decode cX8_dispatch 15 = .ok (.istore_n 3, 1) := by decide +kernel
theorem dX8_dispatch_16 : decode cX8_dispatch 16 = .ok (.iload_n 3, 1) := by decide +kernel
theorem dX8_dispatch_17 : decode cX8_dispatch 17 = .ok (.bipush (-2), 2) := by decide +kernel
theorem dX8_dispatch_19 : decode cX8_dispatch 19 = .ok (.if_icmp .ne 5, 3) := by decide +kernel
theorem dX8_dispatch_22 : decode cX8_dispatch 22 = .ok (.iload_n 2, 1) := by decide +kernel
theorem dX8_dispatch_23 : decode cX8_dispatch 23 = .ok (.ireturn, 1) := by decide +kernel
theorem dX8_dispatch_24 : decode cX8_dispatch 24 = .ok (.aload_n 0, 1) := by decide +kernel
theorem dX8_dispatch_25 : decode cX8_dispatch 25 = .ok (.getfield 31, 3) := by decide +kernel
theorem dX8_dispatch_28 : decode cX8_dispatch 28 = .ok (.getfield 210, 3) := by decide +kernel
theorem dX8_dispatch_31 : decode cX8_dispatch 31 = .ok (.iload_n 3, 1) := by decide +kernel
theorem dX8_dispatch_32 : decode cX8_dispatch 32 = .ok (.bipush 16, 2) := by decide +kernel
theorem dX8_dispatch_34 : decode cX8_dispatch 34 = .ok (.imul, 1) := by decide +kernel
theorem dX8_dispatch_35 : decode cX8_dispatch 35 = .ok (.iaload, 1) := by decide +kernel
theorem dX8_dispatch_36 : decode cX8_dispatch 36 = .ok (.istore 4, 2) := by decide +kernel
theorem dX8_dispatch_38 : decode cX8_dispatch 38 = .ok (.aload_n 0, 1) := by decide +kernel
theorem dX8_dispatch_39 : decode cX8_dispatch 39 = .ok (.aload_n 1, 1) := by decide +kernel
theorem dX8_dispatch_40 : decode cX8_dispatch 40 = .ok (.iload_n 3, 1) := by decide +kernel
theorem dX8_dispatch_41 : decode cX8_dispatch 41 = .ok (.aload_n 0, 1) := by decide +kernel
theorem dX8_dispatch_42 : decode cX8_dispatch 42 = .ok (.getfield 24, 3) := by decide +kernel
theorem dX8_dispatch_45 : decode cX8_dispatch 45 = .ok (.aload_n 1, 1) := by decide +kernel
theorem dX8_dispatch_46 : decode cX8_dispatch 46 = .ok (.iload_n 3, 1) := by decide +kernel
theorem dX8_dispatch_47 : decode cX8_dispatch 47 = .ok (.iload 4, 2) := by decide +kernel
theorem dX8_dispatch_49 : decode cX8_dispatch 49 = .ok (.invokevirtual 213, 3) := by decide +kernel
theorem dX8_dispatch_52 : decode cX8_dispatch 52 = .ok (.iload 4, 2) := by decide +kernel
theorem dX8_dispatch_54 : decode cX8_dispatch 54 = .ok (.invokevirtual 217, 3) := by decide +kernel
theorem dX8_dispatch_57 : decode cX8_dispatch 57 = .ok (.aload_n 0, 1) := by decide +kernel
theorem dX8_dispatch_58 : decode cX8_dispatch 58 = .ok (.getfield 31, 3) := by decide +kernel
theorem dX8_dispatch_61 : decode cX8_dispatch 61 = .ok (.iload_n 3, 1) := by decide +kernel
theorem dX8_dispatch_62 : decode cX8_dispatch 62 = .ok (.invokevirtual 194, 3) := by decide +kernel
theorem dX8_dispatch_65 : decode cX8_dispatch 65 = .ok (.iinc 2 1, 3) := by decide +kernel
theorem dX8_dispatch_68 : decode cX8_dispatch 68 = .ok (.goto (-66), 3) := by decide +kernel
theorem dX8_dispatch_71 : decode cX8_dispatch 71 = .ok (.aload_n 1, 1) := by decide +kernel
theorem dX8_dispatch_72 : decode cX8_dispatch 72 = .ok (.getfield 204, 3) := by decide +kernel
theorem dX8_dispatch_75 : decode cX8_dispatch 75 = .ok (.ireturn, 1) := by decide +kernel
theorem dX8_chooseLeaf_0 : decode cX8_chooseLeaf 0 = .ok (.bipush (-2), 2) := by decide +kernel
theorem dX8_chooseLeaf_2 : decode cX8_chooseLeaf 2 = .ok (.istore_n 2, 1) := by decide +kernel
theorem dX8_chooseLeaf_3 : decode cX8_chooseLeaf 3 = .ok (.bipush (-2), 2) := by decide +kernel
theorem dX8_chooseLeaf_5 : decode cX8_chooseLeaf 5 = .ok (.istore_n 3, 1) := by decide +kernel
theorem dX8_chooseLeaf_6 : decode cX8_chooseLeaf 6 = .ok (.iconst 0, 1) := by decide +kernel
theorem dX8_chooseLeaf_7 : decode cX8_chooseLeaf 7 = .ok (.istore 4, 2) := by decide +kernel
theorem dX8_chooseLeaf_9 : decode cX8_chooseLeaf 9 = .ok (.iload 4, 2) := by decide +kernel
theorem dX8_chooseLeaf_11 : decode cX8_chooseLeaf 11 = .ok (.aload_n 1, 1) := by decide +kernel
theorem dX8_chooseLeaf_12 : decode cX8_chooseLeaf 12 = .ok (.getfield 85, 3) := by decide +kernel
theorem dX8_chooseLeaf_15 : decode cX8_chooseLeaf 15 = .ok (.if_icmp .ge 72, 3) := by decide +kernel
theorem dX8_chooseLeaf_18 : decode cX8_chooseLeaf 18 = .ok (.aload_n 0, 1) := by decide +kernel
theorem dX8_chooseLeaf_19 : decode cX8_chooseLeaf 19 = .ok (.aload_n 1, 1) := by decide +kernel
theorem dX8_chooseLeaf_20 : decode cX8_chooseLeaf 20 = .ok (.iload 4, 2) := by decide +kernel
theorem dX8_chooseLeaf_22 : decode cX8_chooseLeaf 22 = .ok (.invokevirtual 220, 3) := by decide +kernel
theorem dX8_chooseLeaf_25 : decode cX8_chooseLeaf 25 = .ok (.istore 5, 2) := by decide +kernel
theorem dX8_chooseLeaf_27 : decode cX8_chooseLeaf 27 = .ok (.iload_n 2, 1) := by decide +kernel
theorem dX8_chooseLeaf_28 : decode cX8_chooseLeaf 28 = .ok (.bipush (-2), 2) := by decide +kernel
theorem dX8_chooseLeaf_30 : decode cX8_chooseLeaf 30 = .ok (.if_icmp .eq 9, 3) := by decide +kernel
theorem dX8_chooseLeaf_33 : decode cX8_chooseLeaf 33 = .ok (.iload 5, 2) := by decide +kernel
theorem dX8_chooseLeaf_35 : decode cX8_chooseLeaf 35 = .ok (.iload_n 3, 1) := by decide +kernel
theorem dX8_chooseLeaf_36 : decode cX8_chooseLeaf 36 = .ok (.if_icmp .ge 7, 3) := by decide +kernel
theorem dX8_chooseLeaf_39 : decode cX8_chooseLeaf 39 = .ok (.iconst 1, 1) := by decide +kernel
theorem dX8_chooseLeaf_40 : decode cX8_chooseLeaf 40 = .ok (.goto 4, 3) := by decide +kernel
theorem dX8_chooseLeaf_43 : decode cX8_chooseLeaf 43 = .ok (.iconst 0, 1) := by decide +kernel
theorem dX8_chooseLeaf_44 : decode cX8_chooseLeaf 44 = .ok (.istore 6, 2) := by decide +kernel
theorem dX8_chooseLeaf_46 : decode cX8_chooseLeaf 46 = .ok (.iload 5, 2) := by decide +kernel
theorem dX8_chooseLeaf_48 : decode cX8_chooseLeaf 48 = .ok (.bipush (-2), 2) := by decide +kernel
theorem dX8_chooseLeaf_50 : decode cX8_chooseLeaf 50 = .ok (.if_icmp .eq 31, 3) := by decide +kernel
theorem dX8_chooseLeaf_53 : decode cX8_chooseLeaf 53 = .ok (.iload 6, 2) := by decide +kernel
theorem dX8_chooseLeaf_55 : decode cX8_chooseLeaf 55 = .ok (.ifCond .ne 20, 3) := by decide +kernel
theorem dX8_chooseLeaf_58 : decode cX8_chooseLeaf 58 = .ok (.iload 5, 2) := by decide +kernel
theorem dX8_chooseLeaf_60 : decode cX8_chooseLeaf 60 = .ok (.iload_n 3, 1) := by decide +kernel
theorem dX8_chooseLeaf_61 : decode cX8_chooseLeaf 61 = .ok (.if_icmp .ne 20, 3) := by decide +kernel
theorem dX8_chooseLeaf_64 : decode cX8_chooseLeaf 64 = .ok (.aload_n 0, 1) := by decide +kernel
theorem dX8_chooseLeaf_65 : decode cX8_chooseLeaf 65 = .ok (.aload_n 1, 1) := by decide +kernel
theorem dX8_chooseLeaf_66 : decode cX8_chooseLeaf 66 = .ok (.iload 4, 2) := by decide +kernel
theorem dX8_chooseLeaf_68 : decode cX8_chooseLeaf 68 = .ok (.iload_n 2, 1) := by decide +kernel
theorem dX8_chooseLeaf_69 : decode cX8_chooseLeaf 69 = .ok (.invokevirtual 224, 3) := by decide +kernel
theorem dX8_chooseLeaf_72 : decode cX8_chooseLeaf 72 = .ok (.ifCond .eq 9, 3) := by decide +kernel
theorem dX8_chooseLeaf_75 : decode cX8_chooseLeaf 75 = .ok (.iload 4, 2) := by decide +kernel
theorem dX8_chooseLeaf_77 : decode cX8_chooseLeaf 77 = .ok (.istore_n 2, 1) := by decide +kernel
theorem dX8_chooseLeaf_78 : decode cX8_chooseLeaf 78 = .ok (.iload 5, 2) := by decide +kernel
theorem dX8_chooseLeaf_80 : decode cX8_chooseLeaf 80 = .ok (.istore_n 3, 1) := by decide +kernel
theorem dX8_chooseLeaf_81 : decode cX8_chooseLeaf 81 = .ok (.iinc 4 1, 3) := by decide +kernel
theorem dX8_chooseLeaf_84 : decode cX8_chooseLeaf 84 = .ok (.goto (-75), 3) := by decide +kernel
theorem dX8_chooseLeaf_87 : decode cX8_chooseLeaf 87 = .ok (.iload_n 2, 1) := by decide +kernel
theorem dX8_chooseLeaf_88 : decode cX8_chooseLeaf 88 = .ok (.ireturn, 1) := by decide +kernel
theorem dX8_frontDistance_0 : decode cX8_frontDistance 0 = .ok (.aload_n 0, 1) := by decide +kernel
theorem dX8_frontDistance_1 : decode cX8_frontDistance 1 = .ok (.getfield 31, 3) := by decide +kernel
theorem dX8_frontDistance_4 : decode cX8_frontDistance 4 = .ok (.getfield 198, 3) := by decide +kernel
theorem dX8_frontDistance_7 : decode cX8_frontDistance 7 = .ok (.iload_n 2, 1) := by decide +kernel
theorem dX8_frontDistance_8 : decode cX8_frontDistance 8 = .ok (.iaload, 1) := by decide +kernel
theorem dX8_frontDistance_9 : decode cX8_frontDistance 9 = .ok (.ifCond .ne 6, 3) := by decide +kernel
theorem dX8_frontDistance_12 : decode cX8_frontDistance 12 = .ok (.bipush (-2), 2) := by decide +kernel
theorem dX8_frontDistance_14 : decode cX8_frontDistance 14 = .ok (.ireturn, 1) := by decide +kernel
theorem dX8_frontDistance_15 : decode cX8_frontDistance 15 = .ok (.aload_n 1, 1) := by decide +kernel
theorem dX8_frontDistance_16 : decode cX8_frontDistance 16 = .ok (.iload_n 2, 1) := by decide +kernel
theorem dX8_frontDistance_17 : decode cX8_frontDistance 17 = .ok (.aload_n 0, 1) := by decide +kernel
theorem dX8_frontDistance_18 : decode cX8_frontDistance 18 = .ok (.getfield 24, 3) := by decide +kernel
theorem dX8_frontDistance_21 : decode cX8_frontDistance 21 = .ok (.aload_n 1, 1) := by decide +kernel
theorem dX8_frontDistance_22 : decode cX8_frontDistance 22 = .ok (.iload_n 2, 1) := by decide +kernel
theorem dX8_frontDistance_23 : decode cX8_frontDistance 23 = .ok (.aload_n 0, 1) := by decide +kernel
theorem dX8_frontDistance_24 : decode cX8_frontDistance 24 = .ok (.getfield 31, 3) := by decide +kernel
theorem dX8_frontDistance_27 : decode cX8_frontDistance 27 = .ok (.getfield 210, 3) := by decide +kernel
theorem dX8_frontDistance_30 : decode cX8_frontDistance 30 = .ok (.iload_n 2, 1) := by decide +kernel
theorem dX8_frontDistance_31 : decode cX8_frontDistance 31 = .ok (.bipush 16, 2) := by decide +kernel
theorem dX8_frontDistance_33 : decode cX8_frontDistance 33 = .ok (.imul, 1) := by decide +kernel
theorem dX8_frontDistance_34 : decode cX8_frontDistance 34 = .ok (.iaload, 1) := by decide +kernel
theorem dX8_frontDistance_35 : decode cX8_frontDistance 35 = .ok (.invokevirtual 213, 3) := by decide +kernel
theorem dX8_frontDistance_38 : decode cX8_frontDistance 38 = .ok (.invokevirtual 228, 3) := by decide +kernel
theorem dX8_frontDistance_41 : decode cX8_frontDistance 41 = .ok (.ireturn, 1) := by decide +kernel
theorem dX8_precedes_0 : decode cX8_precedes 0 = .ok (.aload_n 1, 1) := by decide +kernel
theorem dX8_precedes_1 : decode cX8_precedes 1 = .ok (.getfield 231, 3) := by decide +kernel
theorem dX8_precedes_4 : decode cX8_precedes 4 = .ok (.iload_n 2, 1) := by decide +kernel
theorem dX8_precedes_5 : decode cX8_precedes 5 = .ok (.iaload, 1) := by decide +kernel
theorem dX8_precedes_6 : decode cX8_precedes 6 = .ok (.aload_n 1, 1) := by decide +kernel
theorem dX8_precedes_7 : decode cX8_precedes 7 = .ok (.getfield 231, 3) := by decide +kernel
theorem dX8_precedes_10 : decode cX8_precedes 10 = .ok (.iload_n 3, 1) := by decide +kernel
theorem dX8_precedes_11 : decode cX8_precedes 11 = .ok (.iaload, 1) := by decide +kernel
theorem dX8_precedes_12 : decode cX8_precedes 12 = .ok (.if_icmp .eq 24, 3) := by decide +kernel
theorem dX8_precedes_15 : decode cX8_precedes 15 = .ok (.aload_n 1, 1) := by decide +kernel
theorem dX8_precedes_16 : decode cX8_precedes 16 = .ok (.getfield 231, 3) := by decide +kernel
theorem dX8_precedes_19 : decode cX8_precedes 19 = .ok (.iload_n 2, 1) := by decide +kernel
theorem dX8_precedes_20 : decode cX8_precedes 20 = .ok (.iaload, 1) := by decide +kernel
theorem dX8_precedes_21 : decode cX8_precedes 21 = .ok (.aload_n 1, 1) := by decide +kernel
theorem dX8_precedes_22 : decode cX8_precedes 22 = .ok (.getfield 231, 3) := by decide +kernel
theorem dX8_precedes_25 : decode cX8_precedes 25 = .ok (.iload_n 3, 1) := by decide +kernel
theorem dX8_precedes_26 : decode cX8_precedes 26 = .ok (.iaload, 1) := by decide +kernel
theorem dX8_precedes_27 : decode cX8_precedes 27 = .ok (.if_icmp .ge 7, 3) := by decide +kernel
theorem dX8_precedes_30 : decode cX8_precedes 30 = .ok (.iconst 1, 1) := by decide +kernel
theorem dX8_precedes_31 : decode cX8_precedes 31 = .ok (.goto 4, 3) := by decide +kernel
theorem dX8_precedes_34 : decode cX8_precedes 34 = .ok (.iconst 0, 1) := by decide +kernel
theorem dX8_precedes_35 : decode cX8_precedes 35 = .ok (.ireturn, 1) := by decide +kernel
theorem dX8_precedes_36 : decode cX8_precedes 36 = .ok (.aload_n 0, 1) := by decide +kernel
theorem dX8_precedes_37 : decode cX8_precedes 37 = .ok (.iload_n 2, 1) := by decide +kernel
theorem dX8_precedes_38 : decode cX8_precedes 38 = .ok (.iload_n 3, 1) := by decide +kernel
theorem dX8_precedes_39 : decode cX8_precedes 39 = .ok (.invokevirtual 234, 3) := by decide +kernel
theorem dX8_precedes_42 : decode cX8_precedes 42 = .ok (.ifCond .ge 7, 3) := by decide +kernel
theorem dX8_precedes_45 : decode cX8_precedes 45 = .ok (.iconst 1, 1) := by decide +kernel
theorem dX8_precedes_46 : decode cX8_precedes 46 = .ok (.goto 4, 3) := by decide +kernel
theorem dX8_precedes_49 : decode cX8_precedes 49 = .ok (.iconst 0, 1) := by decide +kernel
theorem dX8_precedes_50 : decode cX8_precedes 50 = .ok (.ireturn, 1) := by decide +kernel
theorem dX8_compareServed_0 : decode cX8_compareServed 0 = .ok (.aload_n 0, 1) := by decide +kernel
theorem dX8_compareServed_1 : decode cX8_compareServed 1 = .ok (.getfield 38, 3) := by decide +kernel
theorem dX8_compareServed_4 : decode cX8_compareServed 4 = .ok (.getfield 237, 3) := by decide +kernel
theorem dX8_compareServed_7 : decode cX8_compareServed 7 = .ok (.iload_n 1, 1) := by decide +kernel
theorem dX8_compareServed_8 : decode cX8_compareServed 8 = .ok (.iaload, 1) := by decide +kernel
theorem dX8_compareServed_9 : decode cX8_compareServed 9 = .ok (.i2l, 1) := by decide +kernel
theorem dX8_compareServed_10 : decode cX8_compareServed 10 = .ok (.aload_n 0, 1) := by decide +kernel
theorem dX8_compareServed_11 : decode cX8_compareServed 11 = .ok (.getfield 18, 3) := by decide +kernel
theorem dX8_compareServed_14 : decode cX8_compareServed 14 = .ok (.iload_n 2, 1) := by decide +kernel
theorem dX8_compareServed_15 : decode cX8_compareServed 15 = .ok (.iaload, 1) := by decide +kernel
theorem dX8_compareServed_16 : decode cX8_compareServed 16 = .ok (.i2l, 1) := by decide +kernel
theorem dX8_compareServed_17 : decode cX8_compareServed 17 = .ok (.lmul, 1) := by decide +kernel
theorem dX8_compareServed_18 : decode cX8_compareServed 18 = .ok (.lstore_n 3, 1) := by decide +kernel
theorem dX8_compareServed_19 : decode cX8_compareServed 19 = .ok (.aload_n 0, 1) := by decide +kernel
theorem dX8_compareServed_20 : decode cX8_compareServed 20 = .ok (.getfield 38, 3) := by decide +kernel
theorem dX8_compareServed_23 : decode cX8_compareServed 23 = .ok (.getfield 237, 3) := by decide +kernel
theorem dX8_compareServed_26 : decode cX8_compareServed 26 = .ok (.iload_n 2, 1) := by decide +kernel
theorem dX8_compareServed_27 : decode cX8_compareServed 27 = .ok (.iaload, 1) := by decide +kernel
theorem dX8_compareServed_28 : decode cX8_compareServed 28 = .ok (.i2l, 1) := by decide +kernel
theorem dX8_compareServed_29 : decode cX8_compareServed 29 = .ok (.aload_n 0, 1) := by decide +kernel
theorem dX8_compareServed_30 : decode cX8_compareServed 30 = .ok (.getfield 18, 3) := by decide +kernel
theorem dX8_compareServed_33 : decode cX8_compareServed 33 = .ok (.iload_n 1, 1) := by decide +kernel
theorem dX8_compareServed_34 : decode cX8_compareServed 34 = .ok (.iaload, 1) := by decide +kernel
theorem dX8_compareServed_35 : decode cX8_compareServed 35 = .ok (.i2l, 1) := by decide +kernel
theorem dX8_compareServed_36 : decode cX8_compareServed 36 = .ok (.lmul, 1) := by decide +kernel
theorem dX8_compareServed_37 : decode cX8_compareServed 37 = .ok (.lstore 5, 2) := by decide +kernel
theorem dX8_compareServed_39 : decode cX8_compareServed 39 = .ok (.lload_n 3, 1) := by decide +kernel
theorem dX8_compareServed_40 : decode cX8_compareServed 40 = .ok (.lload 5, 2) := by decide +kernel
theorem dX8_compareServed_42 : decode cX8_compareServed 42 = .ok (.invokestatic 240, 3) := by decide +kernel
theorem dX8_compareServed_45 : decode cX8_compareServed 45 = .ok (.ireturn, 1) := by decide +kernel
theorem dX9_init_0 : decode cX9_init 0 = .ok (.aload_n 0, 1) := by decide +kernel
theorem dX9_init_1 : decode cX9_init 1 = .ok (.invokespecial 3, 3) := by decide +kernel
theorem dX9_init_4 : decode cX9_init 4 = .ok (.aload_n 0, 1) := by decide +kernel
theorem dX9_init_5 : decode cX9_init 5 = .ok (.sipush 900, 3) := by decide +kernel
theorem dX9_init_8 : decode cX9_init 8 = .ok (.newarray .byte, 2) := by decide +kernel
theorem dX9_init_10 : decode cX9_init 10 = .ok (.putfield 9, 3) := by decide +kernel
theorem dX9_init_13 : decode cX9_init 13 = .ok (.return_, 1) := by decide +kernel
theorem dX9_append_0 : decode cX9_append 0 = .ok (.bipush 24, 2) := by decide +kernel
theorem dX9_append_2 : decode cX9_append 2 = .ok (.istore_n 2, 1) := by decide +kernel
theorem dX9_append_3 : decode cX9_append 3 = .ok (.iload_n 2, 1) := by decide +kernel
theorem dX9_append_4 : decode cX9_append 4 = .ok (.ifCond .lt 51, 3) := by decide +kernel
theorem dX9_append_7 : decode cX9_append 7 = .ok (.aload_n 0, 1) := by decide +kernel
theorem dX9_append_8 : decode cX9_append 8 = .ok (.getfield 15, 3) := by decide +kernel
theorem dX9_append_11 : decode cX9_append 11 = .ok (.ifCond .lt 38, 3) := by decide +kernel
theorem dX9_append_14 : decode cX9_append 14 = .ok (.aload_n 0, 1) := by decide +kernel
theorem dX9_append_15 : decode cX9_append 15 = .ok (.getfield 15, 3) := by decide +kernel
theorem dX9_append_18 : decode cX9_append 18 = .ok (.aload_n 0, 1) := by decide +kernel
theorem dX9_append_19 : decode cX9_append 19 = .ok (.getfield 9, 3) := by decide +kernel
theorem dX9_append_22 : decode cX9_append 22 = .ok (.arraylength, 1) := by decide +kernel
theorem dX9_append_23 : decode cX9_append 23 = .ok (.if_icmp .ge 26, 3) := by decide +kernel
theorem dX9_append_26 : decode cX9_append 26 = .ok (.aload_n 0, 1) := by decide +kernel
theorem dX9_append_27 : decode cX9_append 27 = .ok (.getfield 9, 3) := by decide +kernel
theorem dX9_append_30 : decode cX9_append 30 = .ok (.aload_n 0, 1) := by decide +kernel
theorem dX9_append_31 : decode cX9_append 31 = .ok (.getfield 15, 3) := by decide +kernel
theorem dX9_append_34 : decode cX9_append 34 = .ok (.iload_n 1, 1) := by decide +kernel
theorem dX9_append_35 : decode cX9_append 35 = .ok (.iload_n 2, 1) := by decide +kernel
theorem dX9_append_36 : decode cX9_append 36 = .ok (.ishr, 1) := by decide +kernel
theorem dX9_append_37 : decode cX9_append 37 = .ok (.i2b, 1) := by decide +kernel
theorem dX9_append_38 : decode cX9_append 38 = .ok (.bastore, 1) := by decide +kernel
theorem dX9_append_39 : decode cX9_append 39 = .ok (.aload_n 0, 1) := by decide +kernel
theorem dX9_append_40 : decode cX9_append 40 = .ok (.dup, 1) := by decide +kernel
theorem dX9_append_41 : decode cX9_append 41 = .ok (.getfield 15, 3) := by decide +kernel
theorem dX9_append_44 : decode cX9_append 44 = .ok (.iconst 1, 1) := by decide +kernel
theorem dX9_append_45 : decode cX9_append 45 = .ok (.iadd, 1) := by decide +kernel
theorem dX9_append_46 : decode cX9_append 46 = .ok (.putfield 15, 3) := by decide +kernel
theorem dX9_append_49 : decode cX9_append 49 = .ok (.iinc 2 (-8), 3) := by decide +kernel
theorem dX9_append_52 : decode cX9_append 52 = .ok (.goto (-49), 3) := by decide +kernel
theorem dX9_append_55 : decode cX9_append 55 = .ok (.return_, 1) := by decide +kernel
theorem dX9_byteAt_0 : decode cX9_byteAt 0 = .ok (.iload_n 1, 1) := by decide +kernel
theorem dX9_byteAt_1 : decode cX9_byteAt 1 = .ok (.ifCond .lt 29, 3) := by decide +kernel
theorem dX9_byteAt_4 : decode cX9_byteAt 4 = .ok (.iload_n 1, 1) := by decide +kernel
theorem dX9_byteAt_5 : decode cX9_byteAt 5 = .ok (.aload_n 0, 1) := by decide +kernel
theorem dX9_byteAt_6 : decode cX9_byteAt 6 = .ok (.getfield 15, 3) := by decide +kernel
theorem dX9_byteAt_9 : decode cX9_byteAt 9 = .ok (.if_icmp .ge 21, 3) := by decide +kernel
theorem dX9_byteAt_12 : decode cX9_byteAt 12 = .ok (.iload_n 1, 1) := by decide +kernel
theorem dX9_byteAt_13 : decode cX9_byteAt 13 = .ok (.aload_n 0, 1) := by decide +kernel
theorem dX9_byteAt_14 : decode cX9_byteAt 14 = .ok (.getfield 9, 3) := by decide +kernel
theorem dX9_byteAt_17 : decode cX9_byteAt 17 = .ok (.arraylength, 1) := by decide +kernel
theorem dX9_byteAt_18 : decode cX9_byteAt 18 = .ok (.if_icmp .ge 12, 3) := by decide +kernel
theorem dX9_byteAt_21 : decode cX9_byteAt 21 = .ok (.aload_n 0, 1) := by decide +kernel
theorem dX9_byteAt_22 : decode cX9_byteAt 22 = .ok (.getfield 9, 3) := by decide +kernel
theorem dX9_byteAt_25 : decode cX9_byteAt 25 = .ok (.iload_n 1, 1) := by decide +kernel
theorem dX9_byteAt_26 : decode cX9_byteAt 26 = .ok (.baload, 1) := by decide +kernel
theorem dX9_byteAt_27 : decode cX9_byteAt 27 = .ok (.goto 4, 3) := by decide +kernel
theorem dX9_byteAt_30 : decode cX9_byteAt 30 = .ok (.iconst 0, 1) := by decide +kernel
theorem dX9_byteAt_31 : decode cX9_byteAt 31 = .ok (.ireturn, 1) := by decide +kernel
theorem dX10_init_0 : decode cX10_init 0 = .ok (.aload_n 0, 1) := by decide +kernel
theorem dX10_init_1 : decode cX10_init 1 = .ok (.invokespecial 3, 3) := by decide +kernel
theorem dX10_init_4 : decode cX10_init 4 = .ok (.return_, 1) := by decide +kernel
theorem dX11_init_0 : decode cX11_init 0 = .ok (.aload_n 0, 1) := by decide +kernel
theorem dX11_init_1 : decode cX11_init 1 = .ok (.invokespecial 1, 3) := by decide +kernel
theorem dX11_init_4 : decode cX11_init 4 = .ok (.aload_n 0, 1) := by decide +kernel
theorem dX11_init_5 : decode cX11_init 5 = .ok (.new 7, 3) := by decide +kernel
theorem dX11_init_8 : decode cX11_init 8 = .ok (.dup, 1) := by decide +kernel
theorem dX11_init_9 : decode cX11_init 9 = .ok (.invokespecial 9, 3) := by decide +kernel
theorem dX11_init_12 : decode cX11_init 12 = .ok (.putfield 10, 3) := by decide +kernel
theorem dX11_init_15 : decode cX11_init 15 = .ok (.aload_n 0, 1) := by decide +kernel
theorem dX11_init_16 : decode cX11_init 16 = .ok (.new 16, 3) := by decide +kernel
theorem dX11_init_19 : decode cX11_init 19 = .ok (.dup, 1) := by decide +kernel
theorem dX11_init_20 : decode cX11_init 20 = .ok (.invokespecial 18, 3) := by decide +kernel
theorem dX11_init_23 : decode cX11_init 23 = .ok (.putfield 19, 3) := by decide +kernel
theorem dX11_init_26 : decode cX11_init 26 = .ok (.aload_n 0, 1) := by decide +kernel
theorem dX11_init_27 : decode cX11_init 27 = .ok (.new 23, 3) := by decide +kernel
theorem dX11_init_30 : decode cX11_init 30 = .ok (.dup, 1) := by decide +kernel
theorem dX11_init_31 : decode cX11_init 31 = .ok (.invokespecial 25, 3) := by decide +kernel
theorem dX11_init_34 : decode cX11_init 34 = .ok (.putfield 26, 3) := by decide +kernel
theorem dX11_init_37 : decode cX11_init 37 = .ok (.aload_n 0, 1) := by decide +kernel
theorem dX11_init_38 : decode cX11_init 38 = .ok (.new 30, 3) := by decide +kernel
theorem dX11_init_41 : decode cX11_init 41 = .ok (.dup, 1) := by decide +kernel
theorem dX11_init_42 : decode cX11_init 42 = .ok (.invokespecial 32, 3) := by decide +kernel
theorem dX11_init_45 : decode cX11_init 45 = .ok (.putfield 33, 3) := by decide +kernel
theorem dX11_init_48 : decode cX11_init 48 = .ok (.aload_n 0, 1) := by decide +kernel
theorem dX11_init_49 : decode cX11_init 49 = .ok (.new 37, 3) := by decide +kernel
theorem dX11_init_52 : decode cX11_init 52 = .ok (.dup, 1) := by decide +kernel
theorem dX11_init_53 : decode cX11_init 53 = .ok (.invokespecial 39, 3) := by decide +kernel
theorem dX11_init_56 : decode cX11_init 56 = .ok (.putfield 40, 3) := by decide +kernel
theorem dX11_init_59 : decode cX11_init 59 = .ok (.aload_n 0, 1) := by decide +kernel
theorem dX11_init_60 : decode cX11_init 60 = .ok (.new 37, 3) := by decide +kernel
theorem dX11_init_63 : decode cX11_init 63 = .ok (.dup, 1) := by decide +kernel
theorem dX11_init_64 : decode cX11_init 64 = .ok (.invokespecial 39, 3) := by decide +kernel
theorem dX11_init_67 : decode cX11_init 67 = .ok (.putfield 44, 3) := by decide +kernel
theorem dX11_init_70 : decode cX11_init 70 = .ok (.aload_n 0, 1) := by decide +kernel
theorem dX11_init_71 : decode cX11_init 71 = .ok (.new 37, 3) := by decide +kernel
theorem dX11_init_74 : decode cX11_init 74 = .ok (.dup, 1) := by decide +kernel
theorem dX11_init_75 : decode cX11_init 75 = .ok (.invokespecial 39, 3) := by decide +kernel
theorem dX11_init_78 : decode cX11_init 78 = .ok (.putfield 47, 3) := by decide +kernel
theorem dX11_init_81 : decode cX11_init 81 = .ok (.aload_n 0, 1) := by decide +kernel
theorem dX11_init_82 : decode cX11_init 82 = .ok (.new 37, 3) := by decide +kernel
theorem dX11_init_85 : decode cX11_init 85 = .ok (.dup, 1) := by decide +kernel
theorem dX11_init_86 : decode cX11_init 86 = .ok (.invokespecial 39, 3) := by decide +kernel
theorem dX11_init_89 : decode cX11_init 89 = .ok (.putfield 50, 3) := by decide +kernel
theorem dX11_init_92 : decode cX11_init 92 = .ok (.return_, 1) := by decide +kernel
theorem dX11_feed_0 : decode cX11_feed 0 = .ok (.aload_n 0, 1) := by decide +kernel
theorem dX11_feed_1 : decode cX11_feed 1 = .ok (.getfield 10, 3) := by decide +kernel
theorem dX11_feed_4 : decode cX11_feed 4 = .ok (.getfield 53, 3) := by decide +kernel
theorem dX11_feed_7 : decode cX11_feed 7 = .ok (.bipush 20, 2) := by decide +kernel
theorem dX11_feed_9 : decode cX11_feed 9 = .ok (.iadd, 1) := by decide +kernel
theorem dX11_feed_10 : decode cX11_feed 10 = .ok (.sipush 900, 3) := by decide +kernel
theorem dX11_feed_13 : decode cX11_feed 13 = .ok (.if_icmp .le 5, 3) := by decide +kernel
theorem dX11_feed_16 : decode cX11_feed 16 = .ok (.iconst (-1), 1) := by decide +kernel
theorem dX11_feed_17 : decode cX11_feed 17 = .ok (.ireturn, 1) := by decide +kernel
theorem dX11_feed_18 : decode cX11_feed 18 = .ok (.aload_n 0, 1) := by decide +kernel
theorem dX11_feed_19 : decode cX11_feed 19 = .ok (.getfield 10, 3) := by decide +kernel
theorem dX11_feed_22 : decode cX11_feed 22 = .ok (.iload_n 1, 1) := by decide +kernel
theorem dX11_feed_23 : decode cX11_feed 23 = .ok (.invokevirtual 57, 3) := by decide +kernel
theorem dX11_feed_26 : decode cX11_feed 26 = .ok (.aload_n 0, 1) := by decide +kernel
theorem dX11_feed_27 : decode cX11_feed 27 = .ok (.getfield 10, 3) := by decide +kernel
theorem dX11_feed_30 : decode cX11_feed 30 = .ok (.iload_n 2, 1) := by decide +kernel
theorem dX11_feed_31 : decode cX11_feed 31 = .ok (.invokevirtual 57, 3) := by decide +kernel
theorem dX11_feed_34 : decode cX11_feed 34 = .ok (.aload_n 0, 1) := by decide +kernel
theorem dX11_feed_35 : decode cX11_feed 35 = .ok (.getfield 10, 3) := by decide +kernel
theorem dX11_feed_38 : decode cX11_feed 38 = .ok (.iload_n 3, 1) := by decide +kernel
theorem dX11_feed_39 : decode cX11_feed 39 = .ok (.invokevirtual 57, 3) := by decide +kernel
theorem dX11_feed_42 : decode cX11_feed 42 = .ok (.aload_n 0, 1) := by decide +kernel
theorem dX11_feed_43 : decode cX11_feed 43 = .ok (.getfield 10, 3) := by decide +kernel
theorem dX11_feed_46 : decode cX11_feed 46 = .ok (.iload 4, 2) := by decide +kernel
theorem dX11_feed_48 : decode cX11_feed 48 = .ok (.invokevirtual 57, 3) := by decide +kernel
theorem dX11_feed_51 : decode cX11_feed 51 = .ok (.aload_n 0, 1) := by decide +kernel
theorem dX11_feed_52 : decode cX11_feed 52 = .ok (.getfield 10, 3) := by decide +kernel
theorem dX11_feed_55 : decode cX11_feed 55 = .ok (.iload 5, 2) := by decide +kernel
theorem dX11_feed_57 : decode cX11_feed 57 = .ok (.invokevirtual 57, 3) := by decide +kernel
theorem dX11_feed_60 : decode cX11_feed 60 = .ok (.aload_n 0, 1) := by decide +kernel
theorem dX11_feed_61 : decode cX11_feed 61 = .ok (.getfield 10, 3) := by decide +kernel
theorem dX11_feed_64 : decode cX11_feed 64 = .ok (.getfield 53, 3) := by decide +kernel
theorem dX11_feed_67 : decode cX11_feed 67 = .ok (.ireturn, 1) := by decide +kernel
theorem dX11_truncate_0 : decode cX11_truncate 0 = .ok (.iload_n 1, 1) := by decide +kernel
theorem dX11_truncate_1 : decode cX11_truncate 1 = .ok (.ifCond .lt 14, 3) := by decide +kernel
theorem dX11_truncate_4 : decode cX11_truncate 4 = .ok (.iload_n 1, 1) := by decide +kernel
theorem dX11_truncate_5 : decode cX11_truncate 5 = .ok (.aload_n 0, 1) := by decide +kernel
theorem dX11_truncate_6 : decode cX11_truncate 6 = .ok (.getfield 10, 3) := by decide +kernel
theorem dX11_truncate_9 : decode cX11_truncate 9 = .ok (.getfield 53, 3) := by decide +kernel
theorem dX11_truncate_12 : decode cX11_truncate 12 = .ok (.if_icmp .le 5, 3) := by decide +kernel
theorem dX11_truncate_15 : decode cX11_truncate 15 = .ok (.iconst (-1), 1) := by decide +kernel
theorem dX11_truncate_16 : decode cX11_truncate 16 = .ok (.ireturn, 1) := by decide +kernel
theorem dX11_truncate_17 : decode cX11_truncate 17 = .ok (.aload_n 0, 1) := by decide +kernel
theorem dX11_truncate_18 : decode cX11_truncate 18 = .ok (.getfield 10, 3) := by decide +kernel
theorem dX11_truncate_21 : decode cX11_truncate 21 = .ok (.iload_n 1, 1) := by decide +kernel
theorem dX11_truncate_22 : decode cX11_truncate 22 = .ok (.putfield 53, 3) := by decide +kernel
theorem dX11_truncate_25 : decode cX11_truncate 25 = .ok (.iload_n 1, 1) := by decide +kernel
theorem dX11_truncate_26 : decode cX11_truncate 26 = .ok (.ireturn, 1) := by decide +kernel
theorem dX11_load_0 : decode cX11_load 0 = .ok (.aload_n 0, 1) := by decide +kernel
theorem dX11_load_1 : decode cX11_load 1 = .ok (.getfield 19, 3) := by decide +kernel
theorem dX11_load_4 : decode cX11_load 4 = .ok (.aload_n 0, 1) := by decide +kernel
theorem dX11_load_5 : decode cX11_load 5 = .ok (.getfield 10, 3) := by decide +kernel
theorem dX11_load_8 : decode cX11_load 8 = .ok (.invokevirtual 61, 3) := by decide +kernel
theorem dX11_load_11 : decode cX11_load 11 = .ok (.aload_n 0, 1) := by decide +kernel
theorem dX11_load_12 : decode cX11_load 12 = .ok (.getfield 10, 3) := by decide +kernel
theorem dX11_load_15 : decode cX11_load 15 = .ok (.iconst 0, 1) := by decide +kernel
theorem dX11_load_16 : decode cX11_load 16 = .ok (.putfield 53, 3) := by decide +kernel
theorem dX11_load_19 : decode cX11_load 19 = .ok (.aload_n 0, 1) := by decide +kernel
theorem dX11_load_20 : decode cX11_load 20 = .ok (.getfield 19, 3) := by decide +kernel
theorem dX11_load_23 : decode cX11_load 23 = .ok (.getfield 65, 3) := by decide +kernel
theorem dX11_load_26 : decode cX11_load 26 = .ok (.ifCond .eq 5, 3) := by decide +kernel
theorem dX11_load_29 : decode cX11_load 29 = .ok (.iconst (-1), 1) := by decide +kernel
theorem dX11_load_30 : decode cX11_load 30 = .ok (.ireturn, 1) := by decide +kernel
theorem dX11_load_31 : decode cX11_load 31 = .ok (.aload_n 0, 1) := by decide +kernel
theorem dX11_load_32 : decode cX11_load 32 = .ok (.getfield 33, 3) := by decide +kernel
theorem dX11_load_35 : decode cX11_load 35 = .ok (.astore_n 1, 1) := by decide +kernel
theorem dX11_load_36 : decode cX11_load 36 = .ok (.aload_n 0, 1) := by decide +kernel
theorem dX11_load_37 : decode cX11_load 37 = .ok (.aload_n 0, 1) := by decide +kernel
theorem dX11_load_38 : decode cX11_load 38 = .ok (.getfield 19, 3) := by decide +kernel
theorem dX11_load_41 : decode cX11_load 41 = .ok (.getfield 68, 3) := by decide +kernel
theorem dX11_load_44 : decode cX11_load 44 = .ok (.putfield 33, 3) := by decide +kernel
theorem dX11_load_47 : decode cX11_load 47 = .ok (.aload_n 0, 1) := by decide +kernel
theorem dX11_load_48 : decode cX11_load 48 = .ok (.getfield 19, 3) := by decide +kernel
theorem dX11_load_51 : decode cX11_load 51 = .ok (.aload_n 1, 1) := by decide +kernel
theorem dX11_load_52 : decode cX11_load 52 = .ok (.putfield 68, 3) := by decide +kernel
theorem dX11_load_55 : decode cX11_load 55 = .ok (.aload_n 0, 1) := by decide +kernel
theorem dX11_load_56 : decode cX11_load 56 = .ok (.getfield 40, 3) := by decide +kernel
theorem dX11_load_59 : decode cX11_load 59 = .ok (.aload_n 0, 1) := by decide +kernel
theorem dX11_load_60 : decode cX11_load 60 = .ok (.getfield 33, 3) := by decide +kernel
theorem dX11_load_63 : decode cX11_load 63 = .ok (.invokevirtual 71, 3) := by decide +kernel
theorem dX11_load_66 : decode cX11_load 66 = .ok (.aload_n 0, 1) := by decide +kernel
theorem dX11_load_67 : decode cX11_load 67 = .ok (.getfield 47, 3) := by decide +kernel
theorem dX11_load_70 : decode cX11_load 70 = .ok (.iconst 0, 1) := by decide +kernel
theorem dX11_load_71 : decode cX11_load 71 = .ok (.putfield 75, 3) := by decide +kernel
theorem dX11_load_74 : decode cX11_load 74 = .ok (.aload_n 0, 1) := by decide +kernel
theorem dX11_load_75 : decode cX11_load 75 = .ok (.getfield 50, 3) := by decide +kernel
theorem dX11_load_78 : decode cX11_load 78 = .ok (.iconst 0, 1) := by decide +kernel
theorem dX11_load_79 : decode cX11_load 79 = .ok (.putfield 75, 3) := by decide +kernel
theorem dX11_load_82 : decode cX11_load 82 = .ok (.aload_n 0, 1) := by decide +kernel
theorem dX11_load_83 : decode cX11_load 83 = .ok (.getfield 33, 3) := by decide +kernel
theorem dX11_load_86 : decode cX11_load 86 = .ok (.getfield 79, 3) := by decide +kernel
theorem dX11_load_89 : decode cX11_load 89 = .ok (.ireturn, 1) := by decide +kernel
theorem dX11_faultCode_0 : decode cX11_faultCode 0 = .ok (.aload_n 0, 1) := by decide +kernel
theorem dX11_faultCode_1 : decode cX11_faultCode 1 = .ok (.getfield 19, 3) := by decide +kernel
theorem dX11_faultCode_4 : decode cX11_faultCode 4 = .ok (.getfield 65, 3) := by decide +kernel
theorem dX11_faultCode_7 : decode cX11_faultCode 7 = .ok (.ireturn, 1) := by decide +kernel
theorem dX11_faultPosition_0 : decode cX11_faultPosition 0 = .ok (.aload_n 0, 1) := by decide +kernel
theorem dX11_faultPosition_1 : decode cX11_faultPosition 1 = .ok (.getfield 19, 3) := by decide +kernel
theorem dX11_faultPosition_4 : decode cX11_faultPosition 4 = .ok (.getfield 82, 3) := by decide +kernel
theorem dX11_faultPosition_7 : decode cX11_faultPosition 7 = .ok (.ireturn, 1) := by decide +kernel
theorem dX11_nodeCount_0 : decode cX11_nodeCount 0 = .ok (.aload_n 0, 1) := by decide +kernel
theorem dX11_nodeCount_1 : decode cX11_nodeCount 1 = .ok (.getfield 33, 3) := by decide +kernel
theorem dX11_nodeCount_4 : decode cX11_nodeCount 4 = .ok (.getfield 79, 3) := by decide +kernel
theorem dX11_nodeCount_7 : decode cX11_nodeCount 7 = .ok (.ireturn, 1) := by decide +kernel
theorem dX11_nameLetter_0 : decode cX11_nameLetter 0 = .ok (.aload_n 0, 1) := by decide +kernel
theorem dX11_nameLetter_1 : decode cX11_nameLetter 1 = .ok (.getfield 33, 3) := by decide +kernel
theorem dX11_nameLetter_4 : decode cX11_nameLetter 4 = .ok (.iload_n 1, 1) := by decide +kernel
theorem dX11_nameLetter_5 : decode cX11_nameLetter 5 = .ok (.invokevirtual 85, 3) := by decide +kernel
theorem dX11_nameLetter_8 : decode cX11_nameLetter 8 = .ok (.ifCond .eq 23, 3) := by decide +kernel
theorem dX11_nameLetter_11 : decode cX11_nameLetter 11 = .ok (.iload_n 2, 1) := by decide +kernel
theorem dX11_nameLetter_12 : decode cX11_nameLetter 12 = .ok (.ifCond .lt 19, 3) := by decide +kernel
theorem dX11_nameLetter_15 : decode cX11_nameLetter 15 = .ok (.aload_n 0, 1) := by decide +kernel
theorem dX11_nameLetter_16 : decode cX11_nameLetter 16 = .ok (.getfield 33, 3) := by decide +kernel
theorem dX11_nameLetter_19 : decode cX11_nameLetter 19 = .ok (.getfield 89, 3) := by decide +kernel
theorem dX11_nameLetter_22 : decode cX11_nameLetter 22 = .ok (.iload_n 1, 1) := by decide +kernel
theorem dX11_nameLetter_23 : decode cX11_nameLetter 23 = .ok (.laload, 1) := by decide +kernel
theorem dX11_nameLetter_24 : decode cX11_nameLetter 24 = .ok (.iload_n 2, 1) := by decide +kernel
theorem dX11_nameLetter_25 : decode cX11_nameLetter 25 = .ok (.invokestatic 93, 3) := by decide +kernel
theorem dX11_nameLetter_28 : decode cX11_nameLetter 28 = .ok (.goto 4, 3) := by decide +kernel
theorem dX11_nameLetter_31 : decode cX11_nameLetter 31 = .ok (.iconst (-1), 1) := by decide +kernel
theorem dX11_nameLetter_32 : decode cX11_nameLetter 32 = .ok (.ireturn, 1) := by decide +kernel
theorem dX11_parent_0 : decode cX11_parent 0 = .ok (.aload_n 0, 1) := by decide +kernel
theorem dX11_parent_1 : decode cX11_parent 1 = .ok (.getfield 33, 3) := by decide +kernel
theorem dX11_parent_4 : decode cX11_parent 4 = .ok (.iload_n 1, 1) := by decide +kernel
theorem dX11_parent_5 : decode cX11_parent 5 = .ok (.invokevirtual 85, 3) := by decide +kernel
theorem dX11_parent_8 : decode cX11_parent 8 = .ok (.ifCond .eq 15, 3) := by decide +kernel
theorem dX11_parent_11 : decode cX11_parent 11 = .ok (.aload_n 0, 1) := by decide +kernel
theorem dX11_parent_12 : decode cX11_parent 12 = .ok (.getfield 33, 3) := by decide +kernel
theorem dX11_parent_15 : decode cX11_parent 15 = .ok (.getfield 97, 3) := by decide +kernel
theorem dX11_parent_18 : decode cX11_parent 18 = .ok (.iload_n 1, 1) := by decide +kernel
theorem dX11_parent_19 : decode cX11_parent 19 = .ok (.iaload, 1) := by decide +kernel
theorem dX11_parent_20 : decode cX11_parent 20 = .ok (.goto 4, 3) := by decide +kernel
theorem dX11_parent_23 : decode cX11_parent 23 = .ok (.iconst (-1), 1) := by decide +kernel
theorem dX11_parent_24 : decode cX11_parent 24 = .ok (.ireturn, 1) := by decide +kernel
theorem dX11_child_0 : decode cX11_child 0 = .ok (.aload_n 0, 1) := by decide +kernel
theorem dX11_child_1 : decode cX11_child 1 = .ok (.getfield 33, 3) := by decide +kernel
theorem dX11_child_4 : decode cX11_child 4 = .ok (.iload_n 1, 1) := by decide +kernel
theorem dX11_child_5 : decode cX11_child 5 = .ok (.invokevirtual 85, 3) := by decide +kernel
theorem dX11_child_8 : decode cX11_child 8 = .ok (.ifCond .eq 19, 3) := by decide +kernel
theorem dX11_child_11 : decode cX11_child 11 = .ok (.iload_n 2, 1) := by decide +kernel
theorem dX11_child_12 : decode cX11_child 12 = .ok (.ifCond .lt 15, 3) := by decide +kernel
theorem dX11_child_15 : decode cX11_child 15 = .ok (.aload_n 0, 1) := by decide +kernel
theorem dX11_child_16 : decode cX11_child 16 = .ok (.getfield 33, 3) := by decide +kernel
theorem dX11_child_19 : decode cX11_child 19 = .ok (.iload_n 1, 1) := by decide +kernel
theorem dX11_child_20 : decode cX11_child 20 = .ok (.iload_n 2, 1) := by decide +kernel
theorem dX11_child_21 : decode cX11_child 21 = .ok (.invokevirtual 101, 3) := by decide +kernel
theorem dX11_child_24 : decode cX11_child 24 = .ok (.goto 4, 3) := by decide +kernel
theorem dX11_child_27 : decode cX11_child 27 = .ok (.iconst (-1), 1) := by decide +kernel
theorem dX11_child_28 : decode cX11_child 28 = .ok (.ireturn, 1) := by decide +kernel
theorem dX11_isLeaf_0 : decode cX11_isLeaf 0 = .ok (.aload_n 0, 1) := by decide +kernel
theorem dX11_isLeaf_1 : decode cX11_isLeaf 1 = .ok (.getfield 33, 3) := by decide +kernel
theorem dX11_isLeaf_4 : decode cX11_isLeaf 4 = .ok (.iload_n 1, 1) := by decide +kernel
theorem dX11_isLeaf_5 : decode cX11_isLeaf 5 = .ok (.invokevirtual 105, 3) := by decide +kernel
theorem dX11_isLeaf_8 : decode cX11_isLeaf 8 = .ok (.ireturn, 1) := by decide +kernel
theorem dX11_depth_0 : decode cX11_depth 0 = .ok (.aload_n 0, 1) := by decide +kernel
theorem dX11_depth_1 : decode cX11_depth 1 = .ok (.getfield 33, 3) := by decide +kernel
theorem dX11_depth_4 : decode cX11_depth 4 = .ok (.iload_n 1, 1) := by decide +kernel
theorem dX11_depth_5 : decode cX11_depth 5 = .ok (.invokevirtual 85, 3) := by decide +kernel
theorem dX11_depth_8 : decode cX11_depth 8 = .ok (.ifCond .eq 15, 3) := by decide +kernel
theorem dX11_depth_11 : decode cX11_depth 11 = .ok (.aload_n 0, 1) := by decide +kernel
theorem dX11_depth_12 : decode cX11_depth 12 = .ok (.getfield 33, 3) := by decide +kernel
theorem dX11_depth_15 : decode cX11_depth 15 = .ok (.getfield 108, 3) := by decide +kernel
theorem dX11_depth_18 : decode cX11_depth 18 = .ok (.iload_n 1, 1) := by decide +kernel
theorem dX11_depth_19 : decode cX11_depth 19 = .ok (.iaload, 1) := by decide +kernel
theorem dX11_depth_20 : decode cX11_depth 20 = .ok (.goto 4, 3) := by decide +kernel
theorem dX11_depth_23 : decode cX11_depth 23 = .ok (.iconst (-1), 1) := by decide +kernel
theorem dX11_depth_24 : decode cX11_depth 24 = .ok (.ireturn, 1) := by decide +kernel
theorem dX11_rate_0 : decode cX11_rate 0 = .ok (.aload_n 0, 1) := by decide +kernel
theorem dX11_rate_1 : decode cX11_rate 1 = .ok (.getfield 33, 3) := by decide +kernel
theorem dX11_rate_4 : decode cX11_rate 4 = .ok (.iload_n 1, 1) := by decide +kernel
theorem dX11_rate_5 : decode cX11_rate 5 = .ok (.invokevirtual 85, 3) := by decide +kernel
theorem dX11_rate_8 : decode cX11_rate 8 = .ok (.ifCond .eq 15, 3) := by decide +kernel
theorem dX11_rate_11 : decode cX11_rate 11 = .ok (.aload_n 0, 1) := by decide +kernel
theorem dX11_rate_12 : decode cX11_rate 12 = .ok (.getfield 40, 3) := by decide +kernel
theorem dX11_rate_15 : decode cX11_rate 15 = .ok (.getfield 111, 3) := by decide +kernel
theorem dX11_rate_18 : decode cX11_rate 18 = .ok (.iload_n 1, 1) := by decide +kernel
theorem dX11_rate_19 : decode cX11_rate 19 = .ok (.iaload, 1) := by decide +kernel
theorem dX11_rate_20 : decode cX11_rate 20 = .ok (.goto 4, 3) := by decide +kernel
theorem dX11_rate_23 : decode cX11_rate 23 = .ok (.iconst (-1), 1) := by decide +kernel
theorem dX11_rate_24 : decode cX11_rate 24 = .ok (.ireturn, 1) := by decide +kernel
theorem dX11_ceiling_0 : decode cX11_ceiling 0 = .ok (.aload_n 0, 1) := by decide +kernel
theorem dX11_ceiling_1 : decode cX11_ceiling 1 = .ok (.getfield 33, 3) := by decide +kernel
theorem dX11_ceiling_4 : decode cX11_ceiling 4 = .ok (.iload_n 1, 1) := by decide +kernel
theorem dX11_ceiling_5 : decode cX11_ceiling 5 = .ok (.invokevirtual 85, 3) := by decide +kernel
theorem dX11_ceiling_8 : decode cX11_ceiling 8 = .ok (.ifCond .eq 15, 3) := by decide +kernel
theorem dX11_ceiling_11 : decode cX11_ceiling 11 = .ok (.aload_n 0, 1) := by decide +kernel
theorem dX11_ceiling_12 : decode cX11_ceiling 12 = .ok (.getfield 40, 3) := by decide +kernel
theorem dX11_ceiling_15 : decode cX11_ceiling 15 = .ok (.getfield 114, 3) := by decide +kernel
theorem dX11_ceiling_18 : decode cX11_ceiling 18 = .ok (.iload_n 1, 1) := by decide +kernel
theorem dX11_ceiling_19 : decode cX11_ceiling 19 = .ok (.iaload, 1) := by decide +kernel
theorem dX11_ceiling_20 : decode cX11_ceiling 20 = .ok (.goto 4, 3) := by decide +kernel
theorem dX11_ceiling_23 : decode cX11_ceiling 23 = .ok (.iconst (-1), 1) := by decide +kernel
theorem dX11_ceiling_24 : decode cX11_ceiling 24 = .ok (.ireturn, 1) := by decide +kernel
theorem dX11_burst_0 : decode cX11_burst 0 = .ok (.aload_n 0, 1) := by decide +kernel
theorem dX11_burst_1 : decode cX11_burst 1 = .ok (.getfield 33, 3) := by decide +kernel
theorem dX11_burst_4 : decode cX11_burst 4 = .ok (.iload_n 1, 1) := by decide +kernel
theorem dX11_burst_5 : decode cX11_burst 5 = .ok (.invokevirtual 85, 3) := by decide +kernel
theorem dX11_burst_8 : decode cX11_burst 8 = .ok (.ifCond .eq 15, 3) := by decide +kernel
theorem dX11_burst_11 : decode cX11_burst 11 = .ok (.aload_n 0, 1) := by decide +kernel
theorem dX11_burst_12 : decode cX11_burst 12 = .ok (.getfield 33, 3) := by decide +kernel
theorem dX11_burst_15 : decode cX11_burst 15 = .ok (.getfield 117, 3) := by decide +kernel
theorem dX11_burst_18 : decode cX11_burst 18 = .ok (.iload_n 1, 1) := by decide +kernel
theorem dX11_burst_19 : decode cX11_burst 19 = .ok (.iaload, 1) := by decide +kernel
theorem dX11_burst_20 : decode cX11_burst 20 = .ok (.goto 4, 3) := by decide +kernel
theorem dX11_burst_23 : decode cX11_burst 23 = .ok (.iconst (-1), 1) := by decide +kernel
theorem dX11_burst_24 : decode cX11_burst 24 = .ok (.ireturn, 1) := by decide +kernel
theorem dX11_creditLimit_0 : decode cX11_creditLimit 0 = .ok (.aload_n 0, 1) := by decide +kernel
theorem dX11_creditLimit_1 : decode cX11_creditLimit 1 = .ok (.getfield 33, 3) := by decide +kernel
theorem dX11_creditLimit_4 : decode cX11_creditLimit 4 = .ok (.iload_n 1, 1) := by decide +kernel
theorem dX11_creditLimit_5 : decode cX11_creditLimit 5 = .ok (.invokevirtual 85, 3) := by decide +kernel
theorem dX11_creditLimit_8 : decode cX11_creditLimit 8 = .ok (.ifCond .eq 15, 3) := by decide +kernel
theorem dX11_creditLimit_11 : decode cX11_creditLimit 11 = .ok (.aload_n 0, 1) := by decide +kernel
theorem dX11_creditLimit_12 : decode cX11_creditLimit 12 = .ok (.getfield 33, 3) := by decide +kernel
theorem dX11_creditLimit_15 : decode cX11_creditLimit 15 = .ok (.getfield 120, 3) := by decide +kernel
theorem dX11_creditLimit_18 : decode cX11_creditLimit 18 = .ok (.iload_n 1, 1) := by decide +kernel
theorem dX11_creditLimit_19 : decode cX11_creditLimit 19 = .ok (.iaload, 1) := by decide +kernel
theorem dX11_creditLimit_20 : decode cX11_creditLimit 20 = .ok (.goto 4, 3) := by decide +kernel
theorem dX11_creditLimit_23 : decode cX11_creditLimit 23 = .ok (.iconst (-1), 1) := by decide +kernel
theorem dX11_creditLimit_24 : decode cX11_creditLimit 24 = .ok (.ireturn, 1) := by decide +kernel
theorem dX11_weight_0 : decode cX11_weight 0 = .ok (.aload_n 0, 1) := by decide +kernel
theorem dX11_weight_1 : decode cX11_weight 1 = .ok (.getfield 33, 3) := by decide +kernel
theorem dX11_weight_4 : decode cX11_weight 4 = .ok (.iload_n 1, 1) := by decide +kernel
theorem dX11_weight_5 : decode cX11_weight 5 = .ok (.invokevirtual 85, 3) := by decide +kernel
theorem dX11_weight_8 : decode cX11_weight 8 = .ok (.ifCond .eq 15, 3) := by decide +kernel
theorem dX11_weight_11 : decode cX11_weight 11 = .ok (.aload_n 0, 1) := by decide +kernel
theorem dX11_weight_12 : decode cX11_weight 12 = .ok (.getfield 40, 3) := by decide +kernel
theorem dX11_weight_15 : decode cX11_weight 15 = .ok (.getfield 123, 3) := by decide +kernel
theorem dX11_weight_18 : decode cX11_weight 18 = .ok (.iload_n 1, 1) := by decide +kernel
theorem dX11_weight_19 : decode cX11_weight 19 = .ok (.iaload, 1) := by decide +kernel
theorem dX11_weight_20 : decode cX11_weight 20 = .ok (.goto 4, 3) := by decide +kernel
theorem dX11_weight_23 : decode cX11_weight 23 = .ok (.iconst (-1), 1) := by decide +kernel
theorem dX11_weight_24 : decode cX11_weight 24 = .ok (.ireturn, 1) := by decide +kernel
theorem dX11_priority_0 : decode cX11_priority 0 = .ok (.aload_n 0, 1) := by decide +kernel
theorem dX11_priority_1 : decode cX11_priority 1 = .ok (.getfield 33, 3) := by decide +kernel
theorem dX11_priority_4 : decode cX11_priority 4 = .ok (.iload_n 1, 1) := by decide +kernel
theorem dX11_priority_5 : decode cX11_priority 5 = .ok (.invokevirtual 85, 3) := by decide +kernel
theorem dX11_priority_8 : decode cX11_priority 8 = .ok (.ifCond .eq 15, 3) := by decide +kernel
theorem dX11_priority_11 : decode cX11_priority 11 = .ok (.aload_n 0, 1) := by decide +kernel
theorem dX11_priority_12 : decode cX11_priority 12 = .ok (.getfield 33, 3) := by decide +kernel
theorem dX11_priority_15 : decode cX11_priority 15 = .ok (.getfield 126, 3) := by decide +kernel
theorem dX11_priority_18 : decode cX11_priority 18 = .ok (.iload_n 1, 1) := by decide +kernel
theorem dX11_priority_19 : decode cX11_priority 19 = .ok (.iaload, 1) := by decide +kernel
theorem dX11_priority_20 : decode cX11_priority 20 = .ok (.goto 4, 3) := by decide +kernel
theorem dX11_priority_23 : decode cX11_priority 23 = .ok (.iconst (-1), 1) := by decide +kernel
theorem dX11_priority_24 : decode cX11_priority 24 = .ok (.ireturn, 1) := by decide +kernel
theorem dX11_mayBorrow_0 : decode cX11_mayBorrow 0 = .ok (.aload_n 0, 1) := by decide +kernel
theorem dX11_mayBorrow_1 : decode cX11_mayBorrow 1 = .ok (.getfield 33, 3) := by decide +kernel
theorem dX11_mayBorrow_4 : decode cX11_mayBorrow 4 = .ok (.iload_n 1, 1) := by decide +kernel
theorem dX11_mayBorrow_5 : decode cX11_mayBorrow 5 = .ok (.invokevirtual 85, 3) := by decide +kernel
theorem dX11_mayBorrow_8 : decode cX11_mayBorrow 8 = .ok (.ifCond .eq 19, 3) := by decide +kernel
theorem dX11_mayBorrow_11 : decode cX11_mayBorrow 11 = .ok (.aload_n 0, 1) := by decide +kernel
theorem dX11_mayBorrow_12 : decode cX11_mayBorrow 12 = .ok (.getfield 33, 3) := by decide +kernel
theorem dX11_mayBorrow_15 : decode cX11_mayBorrow 15 = .ok (.getfield 129, 3) := by decide +kernel
theorem dX11_mayBorrow_18 : decode cX11_mayBorrow 18 = .ok (.iload_n 1, 1) := by decide +kernel
theorem dX11_mayBorrow_19 : decode cX11_mayBorrow 19 = .ok (.baload, 1) := by decide +kernel
theorem dX11_mayBorrow_20 : decode cX11_mayBorrow 20 = .ok (.ifCond .ne 7, 3) := by decide +kernel
theorem dX11_mayBorrow_23 : decode cX11_mayBorrow 23 = .ok (.iconst 1, 1) := by decide +kernel
theorem dX11_mayBorrow_24 : decode cX11_mayBorrow 24 = .ok (.goto 4, 3) := by decide +kernel
theorem dX11_mayBorrow_27 : decode cX11_mayBorrow 27 = .ok (.iconst 0, 1) := by decide +kernel
theorem dX11_mayBorrow_28 : decode cX11_mayBorrow 28 = .ok (.ireturn, 1) := by decide +kernel
theorem dX11_isOversubscribed_0 : decode cX11_isOversubscribed 0 = .ok (.aload_n 0, 1) := by decide +kernel
theorem dX11_isOversubscribed_1 : decode cX11_isOversubscribed 1 = .ok (.getfield 33, 3) := by decide +kernel
theorem dX11_isOversubscribed_4 : decode cX11_isOversubscribed 4 = .ok (.iload_n 1, 1) := by decide +kernel
theorem dX11_isOversubscribed_5 : decode cX11_isOversubscribed 5 = .ok (.invokevirtual 85, 3) := by decide +kernel
theorem dX11_isOversubscribed_8 : decode cX11_isOversubscribed 8 = .ok (.ifCond .eq 31, 3) := by decide +kernel
theorem dX11_isOversubscribed_11 : decode cX11_isOversubscribed 11 = .ok (.aload_n 0, 1) := by decide +kernel
theorem dX11_isOversubscribed_12 : decode cX11_isOversubscribed 12 = .ok (.getfield 40, 3) := by decide +kernel
theorem dX11_isOversubscribed_15 : decode cX11_isOversubscribed 15 = .ok (.aload_n 0, 1) := by decide +kernel
theorem dX11_isOversubscribed_16 : decode cX11_isOversubscribed 16 = .ok (.getfield 33, 3) := by decide +kernel
theorem dX11_isOversubscribed_19 : decode cX11_isOversubscribed 19 = .ok (.iload_n 1, 1) := by decide +kernel
theorem dX11_isOversubscribed_20 : decode cX11_isOversubscribed 20 = .ok (.invokevirtual 133, 3) := by decide +kernel
theorem dX11_isOversubscribed_23 : decode cX11_isOversubscribed 23 = .ok (.aload_n 0, 1) := by decide +kernel
theorem dX11_isOversubscribed_24 : decode cX11_isOversubscribed 24 = .ok (.getfield 40, 3) := by decide +kernel
theorem dX11_isOversubscribed_27 : decode cX11_isOversubscribed 27 = .ok (.getfield 111, 3) := by decide +kernel
theorem dX11_isOversubscribed_30 : decode cX11_isOversubscribed 30 = .ok (.iload_n 1, 1) := by decide +kernel
theorem dX11_isOversubscribed_31 : decode cX11_isOversubscribed 31 = .ok (.iaload, 1) := by decide +kernel
theorem dX11_isOversubscribed_32 : decode cX11_isOversubscribed 32 = .ok (.if_icmp .le 7, 3) := by decide +kernel
theorem dX11_isOversubscribed_35 : decode cX11_isOversubscribed 35 = .ok (.iconst 1, 1) := by decide +kernel
theorem dX11_isOversubscribed_36 : decode cX11_isOversubscribed 36 = .ok (.goto 4, 3) := by decide +kernel
theorem dX11_isOversubscribed_39 : decode cX11_isOversubscribed 39 = .ok (.iconst 0, 1) := by decide +kernel
theorem dX11_isOversubscribed_40 : decode cX11_isOversubscribed 40 = .ok (.ireturn, 1) := by decide +kernel
theorem dX11_pathCeiling_0 : decode cX11_pathCeiling 0 = .ok (.aload_n 0, 1) := by decide +kernel
theorem dX11_pathCeiling_1 : decode cX11_pathCeiling 1 = .ok (.getfield 33, 3) := by decide +kernel
theorem dX11_pathCeiling_4 : decode cX11_pathCeiling 4 = .ok (.iload_n 1, 1) := by decide +kernel
theorem dX11_pathCeiling_5 : decode cX11_pathCeiling 5 = .ok (.invokevirtual 85, 3) := by decide +kernel
theorem dX11_pathCeiling_8 : decode cX11_pathCeiling 8 = .ok (.ifCond .eq 18, 3) := by decide +kernel
theorem dX11_pathCeiling_11 : decode cX11_pathCeiling 11 = .ok (.aload_n 0, 1) := by decide +kernel
theorem dX11_pathCeiling_12 : decode cX11_pathCeiling 12 = .ok (.getfield 40, 3) := by decide +kernel
theorem dX11_pathCeiling_15 : decode cX11_pathCeiling 15 = .ok (.aload_n 0, 1) := by decide +kernel
theorem dX11_pathCeiling_16 : decode cX11_pathCeiling 16 = .ok (.getfield 33, 3) := by decide +kernel
theorem dX11_pathCeiling_19 : decode cX11_pathCeiling 19 = .ok (.iload_n 1, 1) := by decide +kernel
theorem dX11_pathCeiling_20 : decode cX11_pathCeiling 20 = .ok (.invokevirtual 137, 3) := by decide +kernel
theorem dX11_pathCeiling_23 : decode cX11_pathCeiling 23 = .ok (.goto 4, 3) := by decide +kernel
theorem dX11_pathCeiling_26 : decode cX11_pathCeiling 26 = .ok (.iconst (-1), 1) := by decide +kernel
theorem dX11_pathCeiling_27 : decode cX11_pathCeiling 27 = .ok (.ireturn, 1) := by decide +kernel
theorem dX11_time_0 : decode cX11_time 0 = .ok (.aload_n 0, 1) := by decide +kernel
theorem dX11_time_1 : decode cX11_time 1 = .ok (.getfield 40, 3) := by decide +kernel
theorem dX11_time_4 : decode cX11_time 4 = .ok (.getfield 140, 3) := by decide +kernel
theorem dX11_time_7 : decode cX11_time 7 = .ok (.ireturn, 1) := by decide +kernel
theorem dX11_tokens_0 : decode cX11_tokens 0 = .ok (.aload_n 0, 1) := by decide +kernel
theorem dX11_tokens_1 : decode cX11_tokens 1 = .ok (.getfield 33, 3) := by decide +kernel
theorem dX11_tokens_4 : decode cX11_tokens 4 = .ok (.iload_n 1, 1) := by decide +kernel
theorem dX11_tokens_5 : decode cX11_tokens 5 = .ok (.invokevirtual 85, 3) := by decide +kernel
theorem dX11_tokens_8 : decode cX11_tokens 8 = .ok (.ifCond .eq 18, 3) := by decide +kernel
theorem dX11_tokens_11 : decode cX11_tokens 11 = .ok (.aload_n 0, 1) := by decide +kernel
theorem dX11_tokens_12 : decode cX11_tokens 12 = .ok (.getfield 40, 3) := by decide +kernel
theorem dX11_tokens_15 : decode cX11_tokens 15 = .ok (.getfield 143, 3) := by decide +kernel
theorem dX11_tokens_18 : decode cX11_tokens 18 = .ok (.getfield 147, 3) := by decide +kernel
theorem dX11_tokens_21 : decode cX11_tokens 21 = .ok (.iload_n 1, 1) := by decide +kernel
theorem dX11_tokens_22 : decode cX11_tokens 22 = .ok (.iaload, 1) := by decide +kernel
theorem dX11_tokens_23 : decode cX11_tokens 23 = .ok (.goto 4, 3) := by decide +kernel
theorem dX11_tokens_26 : decode cX11_tokens 26 = .ok (.iconst (-1), 1) := by decide +kernel
theorem dX11_tokens_27 : decode cX11_tokens 27 = .ok (.ireturn, 1) := by decide +kernel
theorem dX11_credit_0 : decode cX11_credit 0 = .ok (.aload_n 0, 1) := by decide +kernel
theorem dX11_credit_1 : decode cX11_credit 1 = .ok (.getfield 33, 3) := by decide +kernel
theorem dX11_credit_4 : decode cX11_credit 4 = .ok (.iload_n 1, 1) := by decide +kernel
theorem dX11_credit_5 : decode cX11_credit 5 = .ok (.invokevirtual 85, 3) := by decide +kernel
theorem dX11_credit_8 : decode cX11_credit 8 = .ok (.ifCond .eq 18, 3) := by decide +kernel
theorem dX11_credit_11 : decode cX11_credit 11 = .ok (.aload_n 0, 1) := by decide +kernel
theorem dX11_credit_12 : decode cX11_credit 12 = .ok (.getfield 40, 3) := by decide +kernel
theorem dX11_credit_15 : decode cX11_credit 15 = .ok (.getfield 143, 3) := by decide +kernel
theorem dX11_credit_18 : decode cX11_credit 18 = .ok (.getfield 152, 3) := by decide +kernel
theorem dX11_credit_21 : decode cX11_credit 21 = .ok (.iload_n 1, 1) := by decide +kernel
theorem dX11_credit_22 : decode cX11_credit 22 = .ok (.iaload, 1) := by decide +kernel
theorem dX11_credit_23 : decode cX11_credit 23 = .ok (.goto 4, 3) := by decide +kernel
theorem dX11_credit_26 : decode cX11_credit 26 = .ok (.iconst (-1), 1) := by decide +kernel
theorem dX11_credit_27 : decode cX11_credit 27 = .ok (.ireturn, 1) := by decide +kernel
theorem dX11_headroom_0 : decode cX11_headroom 0 = .ok (.aload_n 0, 1) := by decide +kernel
theorem dX11_headroom_1 : decode cX11_headroom 1 = .ok (.getfield 33, 3) := by decide +kernel
theorem dX11_headroom_4 : decode cX11_headroom 4 = .ok (.iload_n 1, 1) := by decide +kernel
theorem dX11_headroom_5 : decode cX11_headroom 5 = .ok (.invokevirtual 85, 3) := by decide +kernel
theorem dX11_headroom_8 : decode cX11_headroom 8 = .ok (.ifCond .eq 18, 3) := by decide +kernel
theorem dX11_headroom_11 : decode cX11_headroom 11 = .ok (.aload_n 0, 1) := by decide +kernel
theorem dX11_headroom_12 : decode cX11_headroom 12 = .ok (.getfield 40, 3) := by decide +kernel
theorem dX11_headroom_15 : decode cX11_headroom 15 = .ok (.getfield 143, 3) := by decide +kernel
theorem dX11_headroom_18 : decode cX11_headroom 18 = .ok (.getfield 155, 3) := by decide +kernel
theorem dX11_headroom_21 : decode cX11_headroom 21 = .ok (.iload_n 1, 1) := by decide +kernel
theorem dX11_headroom_22 : decode cX11_headroom 22 = .ok (.iaload, 1) := by decide +kernel
theorem dX11_headroom_23 : decode cX11_headroom 23 = .ok (.goto 4, 3) := by decide +kernel
theorem dX11_headroom_26 : decode cX11_headroom 26 = .ok (.iconst (-1), 1) := by decide +kernel
theorem dX11_headroom_27 : decode cX11_headroom 27 = .ok (.ireturn, 1) := by decide +kernel
theorem dX11_lender_0 : decode cX11_lender 0 = .ok (.aload_n 0, 1) := by decide +kernel
theorem dX11_lender_1 : decode cX11_lender 1 = .ok (.iload_n 1, 1) := by decide +kernel
theorem dX11_lender_2 : decode cX11_lender 2 = .ok (.iload_n 2, 1) := by decide +kernel
theorem dX11_lender_3 : decode cX11_lender 3 = .ok (.invokevirtual 158, 3) := by decide +kernel
theorem dX11_lender_6 : decode cX11_lender 6 = .ok (.ifCond .eq 22, 3) := by decide +kernel
theorem dX11_lender_9 : decode cX11_lender 9 = .ok (.aload_n 0, 1) := by decide +kernel
theorem dX11_lender_10 : decode cX11_lender 10 = .ok (.getfield 40, 3) := by decide +kernel
theorem dX11_lender_13 : decode cX11_lender 13 = .ok (.getfield 143, 3) := by decide +kernel
theorem dX11_lender_16 : decode cX11_lender 16 = .ok (.aload_n 0, 1) := by decide +kernel
theorem dX11_lender_17 : decode cX11_lender 17 = .ok (.getfield 33, 3) := by decide +kernel
theorem dX11_lender_20 : decode cX11_lender 20 = .ok (.iload_n 1, 1) := by decide +kernel
theorem dX11_lender_21 : decode cX11_lender 21 = .ok (.iload_n 2, 1) := by decide +kernel
theorem dX11_lender_22 : decode cX11_lender 22 = .ok (.invokevirtual 162, 3) := by decide +kernel
theorem dX11_lender_25 : decode cX11_lender 25 = .ok (.goto 4, 3) := by decide +kernel
theorem dX11_lender_28 : decode cX11_lender 28 = .ok (.iconst (-1), 1) := by decide +kernel
theorem dX11_lender_29 : decode cX11_lender 29 = .ok (.ireturn, 1) := by decide +kernel
theorem dX11_greatestCost_0 : decode cX11_greatestCost 0 = .ok (.aload_n 0, 1) := by decide +kernel
theorem dX11_greatestCost_1 : decode cX11_greatestCost 1 = .ok (.getfield 33, 3) := by decide +kernel
theorem dX11_greatestCost_4 : decode cX11_greatestCost 4 = .ok (.iload_n 1, 1) := by decide +kernel
theorem dX11_greatestCost_5 : decode cX11_greatestCost 5 = .ok (.invokevirtual 105, 3) := by decide +kernel
theorem dX11_greatestCost_8 : decode cX11_greatestCost 8 = .ok (.ifCond .ne 5, 3) := by decide +kernel
theorem dX11_greatestCost_11 : decode cX11_greatestCost 11 = .ok (.iconst (-1), 1) := by decide +kernel
theorem dX11_greatestCost_12 : decode cX11_greatestCost 12 = .ok (.ireturn, 1) := by decide +kernel
theorem dX11_greatestCost_13 : decode cX11_greatestCost 13 = .ok (.bipush 99, 2) := by decide +kernel
theorem dX11_greatestCost_15 : decode cX11_greatestCost 15 = .ok (.istore_n 2, 1) := by decide +kernel
theorem dX11_greatestCost_16 : decode cX11_greatestCost 16 = .ok (.iload_n 2, 1) := by decide +kernel
theorem dX11_greatestCost_17 : decode cX11_greatestCost 17 = .ok (.ifCond .le 32, 3) := by decide +kernel
theorem dX11_greatestCost_20 : decode cX11_greatestCost 20 = .ok (.aload_n 0, 1) := by decide +kernel
theorem dX11_greatestCost_21 : decode cX11_greatestCost 21 = .ok (.getfield 40, 3) := by decide +kernel
theorem dX11_greatestCost_24 : decode cX11_greatestCost 24 = .ok (.getfield 143, 3) := by decide +kernel
theorem dX11_greatestCost_27 : decode cX11_greatestCost 27 = .ok (.aload_n 0, 1) := by decide +kernel
theorem dX11_greatestCost_28 : decode cX11_greatestCost 28 = .ok (.getfield 33, 3) := by decide +kernel
theorem dX11_greatestCost_31 : decode cX11_greatestCost 31 = .ok (.iload_n 1, 1) := by decide +kernel
theorem dX11_greatestCost_32 : decode cX11_greatestCost 32 = .ok (.iload_n 2, 1) := by decide +kernel
theorem dX11_greatestCost_33 : decode cX11_greatestCost 33 = .ok (.invokevirtual 162, 3) := by decide +kernel
theorem dX11_greatestCost_36 : decode cX11_greatestCost 36 = .ok (.bipush (-2), 2) := by decide +kernel
theorem dX11_greatestCost_38 : decode cX11_greatestCost 38 = .ok (.if_icmp .eq 5, 3) := by decide +kernel
theorem dX11_greatestCost_41 : decode cX11_greatestCost 41 = .ok (.iload_n 2, 1) := by decide +kernel
theorem dX11_greatestCost_42 : decode cX11_greatestCost 42 = .ok (.ireturn, 1) := by decide +kernel
theorem dX11_greatestCost_43 : decode cX11_greatestCost 43 = .ok (.iinc 2 (-1), 3) := by decide +kernel
theorem dX11_greatestCost_46 : decode cX11_greatestCost 46 = .ok (.goto (-30), 3) := by decide +kernel
theorem dX11_greatestCost_49 : decode cX11_greatestCost 49 = .ok (.iconst 0, 1) := by decide +kernel
theorem dX11_greatestCost_50 : decode cX11_greatestCost 50 = .ok (.ireturn, 1) := by decide +kernel
theorem dX11_acquire_0 : decode cX11_acquire 0 = .ok (.aload_n 0, 1) := by decide +kernel
theorem dX11_acquire_1 : decode cX11_acquire 1 = .ok (.iload_n 1, 1) := by decide +kernel
theorem dX11_acquire_2 : decode cX11_acquire 2 = .ok (.iload_n 2, 1) := by decide +kernel
theorem dX11_acquire_3 : decode cX11_acquire 3 = .ok (.invokevirtual 158, 3) := by decide +kernel
theorem dX11_acquire_6 : decode cX11_acquire 6 = .ok (.ifCond .ne 5, 3) := by decide +kernel
theorem dX11_acquire_9 : decode cX11_acquire 9 = .ok (.iconst (-1), 1) := by decide +kernel
theorem dX11_acquire_10 : decode cX11_acquire 10 = .ok (.ireturn, 1) := by decide +kernel
theorem dX11_acquire_11 : decode cX11_acquire 11 = .ok (.aload_n 0, 1) := by decide +kernel
theorem dX11_acquire_12 : decode cX11_acquire 12 = .ok (.getfield 40, 3) := by decide +kernel
theorem dX11_acquire_15 : decode cX11_acquire 15 = .ok (.getfield 143, 3) := by decide +kernel
theorem dX11_acquire_18 : decode cX11_acquire 18 = .ok (.aload_n 0, 1) := by decide +kernel
theorem dX11_acquire_19 : decode cX11_acquire 19 = .ok (.getfield 33, 3) := by decide +kernel
theorem dX11_acquire_22 : decode cX11_acquire 22 = .ok (.iload_n 1, 1) := by decide +kernel
theorem dX11_acquire_23 : decode cX11_acquire 23 = .ok (.iload_n 2, 1) := by decide +kernel
theorem dX11_acquire_24 : decode cX11_acquire 24 = .ok (.invokevirtual 162, 3) := by decide +kernel
theorem dX11_acquire_27 : decode cX11_acquire 27 = .ok (.istore_n 3, 1) := by decide +kernel
theorem dX11_acquire_28 : decode cX11_acquire 28 = .ok (.iload_n 3, 1) := by decide +kernel
theorem dX11_acquire_29 : decode cX11_acquire 29 = .ok (.bipush (-2), 2) := by decide +kernel
theorem dX11_acquire_31 : decode cX11_acquire 31 = .ok (.if_icmp .ne 6, 3) := by decide +kernel
theorem dX11_acquire_34 : decode cX11_acquire 34 = .ok (.bipush (-2), 2) := by decide +kernel
theorem dX11_acquire_36 : decode cX11_acquire 36 = .ok (.ireturn, 1) := by decide +kernel
theorem dX11_acquire_37 : decode cX11_acquire 37 = .ok (.aload_n 0, 1) := by decide +kernel
theorem dX11_acquire_38 : decode cX11_acquire 38 = .ok (.getfield 40, 3) := by decide +kernel
theorem dX11_acquire_41 : decode cX11_acquire 41 = .ok (.aload_n 0, 1) := by decide +kernel
theorem dX11_acquire_42 : decode cX11_acquire 42 = .ok (.getfield 33, 3) := by decide +kernel
theorem dX11_acquire_45 : decode cX11_acquire 45 = .ok (.iload_n 1, 1) := by decide +kernel
theorem dX11_acquire_46 : decode cX11_acquire 46 = .ok (.iload_n 3, 1) := by decide +kernel
theorem dX11_acquire_47 : decode cX11_acquire 47 = .ok (.iload_n 2, 1) := by decide +kernel
theorem dX11_acquire_48 : decode cX11_acquire 48 = .ok (.invokevirtual 166, 3) := by decide +kernel
theorem dX11_acquire_51 : decode cX11_acquire 51 = .ok (.aload_n 0, 1) := by decide +kernel
theorem dX11_acquire_52 : decode cX11_acquire 52 = .ok (.getfield 33, 3) := by decide +kernel
theorem dX11_acquire_55 : decode cX11_acquire 55 = .ok (.iload_n 1, 1) := by decide +kernel
theorem dX11_acquire_56 : decode cX11_acquire 56 = .ok (.iload_n 3, 1) := by decide +kernel
theorem dX11_acquire_57 : decode cX11_acquire 57 = .ok (.invokevirtual 170, 3) := by decide +kernel
theorem dX11_acquire_60 : decode cX11_acquire 60 = .ok (.ireturn, 1) := by decide +kernel
theorem dX11_waitTime_0 : decode cX11_waitTime 0 = .ok (.aload_n 0, 1) := by decide +kernel
theorem dX11_waitTime_1 : decode cX11_waitTime 1 = .ok (.iload_n 1, 1) := by decide +kernel
theorem dX11_waitTime_2 : decode cX11_waitTime 2 = .ok (.iload_n 2, 1) := by decide +kernel
theorem dX11_waitTime_3 : decode cX11_waitTime 3 = .ok (.invokevirtual 158, 3) := by decide +kernel
theorem dX11_waitTime_6 : decode cX11_waitTime 6 = .ok (.ifCond .eq 19, 3) := by decide +kernel
theorem dX11_waitTime_9 : decode cX11_waitTime 9 = .ok (.aload_n 0, 1) := by decide +kernel
theorem dX11_waitTime_10 : decode cX11_waitTime 10 = .ok (.getfield 40, 3) := by decide +kernel
theorem dX11_waitTime_13 : decode cX11_waitTime 13 = .ok (.aload_n 0, 1) := by decide +kernel
theorem dX11_waitTime_14 : decode cX11_waitTime 14 = .ok (.getfield 33, 3) := by decide +kernel
theorem dX11_waitTime_17 : decode cX11_waitTime 17 = .ok (.iload_n 1, 1) := by decide +kernel
theorem dX11_waitTime_18 : decode cX11_waitTime 18 = .ok (.iload_n 2, 1) := by decide +kernel
theorem dX11_waitTime_19 : decode cX11_waitTime 19 = .ok (.invokevirtual 176, 3) := by decide +kernel
theorem dX11_waitTime_22 : decode cX11_waitTime 22 = .ok (.goto 4, 3) := by decide +kernel
theorem dX11_waitTime_25 : decode cX11_waitTime 25 = .ok (.iconst (-1), 1) := by decide +kernel
theorem dX11_waitTime_26 : decode cX11_waitTime 26 = .ok (.ireturn, 1) := by decide +kernel
theorem dX11_repeats_0 : decode cX11_repeats 0 = .ok (.aload_n 0, 1) := by decide +kernel
theorem dX11_repeats_1 : decode cX11_repeats 1 = .ok (.iload_n 1, 1) := by decide +kernel
theorem dX11_repeats_2 : decode cX11_repeats 2 = .ok (.iload_n 2, 1) := by decide +kernel
theorem dX11_repeats_3 : decode cX11_repeats 3 = .ok (.invokevirtual 158, 3) := by decide +kernel
theorem dX11_repeats_6 : decode cX11_repeats 6 = .ok (.ifCond .ne 5, 3) := by decide +kernel
theorem dX11_repeats_9 : decode cX11_repeats 9 = .ok (.iconst (-1), 1) := by decide +kernel
theorem dX11_repeats_10 : decode cX11_repeats 10 = .ok (.ireturn, 1) := by decide +kernel
theorem dX11_repeats_11 : decode cX11_repeats 11 = .ok (.aload_n 0, 1) := by decide +kernel
theorem dX11_repeats_12 : decode cX11_repeats 12 = .ok (.getfield 44, 3) := by decide +kernel
theorem dX11_repeats_15 : decode cX11_repeats 15 = .ok (.getfield 143, 3) := by decide +kernel
theorem dX11_repeats_18 : decode cX11_repeats 18 = .ok (.aload_n 0, 1) := by decide +kernel
theorem dX11_repeats_19 : decode cX11_repeats 19 = .ok (.getfield 40, 3) := by decide +kernel
theorem dX11_repeats_22 : decode cX11_repeats 22 = .ok (.getfield 143, 3) := by decide +kernel
theorem dX11_repeats_25 : decode cX11_repeats 25 = .ok (.invokevirtual 179, 3) := by decide +kernel
theorem dX11_repeats_28 : decode cX11_repeats 28 = .ok (.aload_n 0, 1) := by decide +kernel
theorem dX11_repeats_29 : decode cX11_repeats 29 = .ok (.getfield 44, 3) := by decide +kernel
theorem dX11_repeats_32 : decode cX11_repeats 32 = .ok (.getfield 143, 3) := by decide +kernel
theorem dX11_repeats_35 : decode cX11_repeats 35 = .ok (.aload_n 0, 1) := by decide +kernel
theorem dX11_repeats_36 : decode cX11_repeats 36 = .ok (.getfield 33, 3) := by decide +kernel
theorem dX11_repeats_39 : decode cX11_repeats 39 = .ok (.iload_n 1, 1) := by decide +kernel
theorem dX11_repeats_40 : decode cX11_repeats 40 = .ok (.iload_n 2, 1) := by decide +kernel
theorem dX11_repeats_41 : decode cX11_repeats 41 = .ok (.invokevirtual 183, 3) := by decide +kernel
theorem dX11_repeats_44 : decode cX11_repeats 44 = .ok (.ireturn, 1) := by decide +kernel
theorem dX11_refusal_0 : decode cX11_refusal 0 = .ok (.aload_n 0, 1) := by decide +kernel
theorem dX11_refusal_1 : decode cX11_refusal 1 = .ok (.iload_n 1, 1) := by decide +kernel
theorem dX11_refusal_2 : decode cX11_refusal 2 = .ok (.iload_n 2, 1) := by decide +kernel
theorem dX11_refusal_3 : decode cX11_refusal 3 = .ok (.invokevirtual 158, 3) := by decide +kernel
theorem dX11_refusal_6 : decode cX11_refusal 6 = .ok (.ifCond .ne 5, 3) := by decide +kernel
theorem dX11_refusal_9 : decode cX11_refusal 9 = .ok (.iconst (-1), 1) := by decide +kernel
theorem dX11_refusal_10 : decode cX11_refusal 10 = .ok (.ireturn, 1) := by decide +kernel
theorem dX11_refusal_11 : decode cX11_refusal 11 = .ok (.aload_n 0, 1) := by decide +kernel
theorem dX11_refusal_12 : decode cX11_refusal 12 = .ok (.getfield 40, 3) := by decide +kernel
theorem dX11_refusal_15 : decode cX11_refusal 15 = .ok (.getfield 143, 3) := by decide +kernel
theorem dX11_refusal_18 : decode cX11_refusal 18 = .ok (.aload_n 0, 1) := by decide +kernel
theorem dX11_refusal_19 : decode cX11_refusal 19 = .ok (.getfield 33, 3) := by decide +kernel
theorem dX11_refusal_22 : decode cX11_refusal 22 = .ok (.iload_n 1, 1) := by decide +kernel
theorem dX11_refusal_23 : decode cX11_refusal 23 = .ok (.iload_n 2, 1) := by decide +kernel
theorem dX11_refusal_24 : decode cX11_refusal 24 = .ok (.invokevirtual 186, 3) := by decide +kernel
theorem dX11_refusal_27 : decode cX11_refusal 27 = .ok (.bipush (-2), 2) := by decide +kernel
theorem dX11_refusal_29 : decode cX11_refusal 29 = .ok (.if_icmp .eq 5, 3) := by decide +kernel
theorem dX11_refusal_32 : decode cX11_refusal 32 = .ok (.iconst 1, 1) := by decide +kernel
theorem dX11_refusal_33 : decode cX11_refusal 33 = .ok (.ireturn, 1) := by decide +kernel
theorem dX11_refusal_34 : decode cX11_refusal 34 = .ok (.aload_n 0, 1) := by decide +kernel
theorem dX11_refusal_35 : decode cX11_refusal 35 = .ok (.getfield 40, 3) := by decide +kernel
theorem dX11_refusal_38 : decode cX11_refusal 38 = .ok (.getfield 143, 3) := by decide +kernel
theorem dX11_refusal_41 : decode cX11_refusal 41 = .ok (.aload_n 0, 1) := by decide +kernel
theorem dX11_refusal_42 : decode cX11_refusal 42 = .ok (.getfield 33, 3) := by decide +kernel
theorem dX11_refusal_45 : decode cX11_refusal 45 = .ok (.iload_n 1, 1) := by decide +kernel
theorem dX11_refusal_46 : decode cX11_refusal 46 = .ok (.iload_n 2, 1) := by decide +kernel
theorem dX11_refusal_47 : decode cX11_refusal 47 = .ok (.invokevirtual 162, 3) := by decide +kernel
theorem dX11_refusal_50 : decode cX11_refusal 50 = .ok (.bipush (-2), 2) := by decide +kernel
theorem dX11_refusal_52 : decode cX11_refusal 52 = .ok (.if_icmp .ne 7, 3) := by decide +kernel
theorem dX11_refusal_55 : decode cX11_refusal 55 = .ok (.iconst 2, 1) := by decide +kernel
theorem dX11_refusal_56 : decode cX11_refusal 56 = .ok (.goto 4, 3) := by decide +kernel
theorem dX11_refusal_59 : decode cX11_refusal 59 = .ok (.iconst 0, 1) := by decide +kernel
theorem dX11_refusal_60 : decode cX11_refusal 60 = .ok (.ireturn, 1) := by decide +kernel
theorem dX11_blockingNode_0 : decode cX11_blockingNode 0 = .ok (.aload_n 0, 1) := by decide +kernel
theorem dX11_blockingNode_1 : decode cX11_blockingNode 1 = .ok (.iload_n 1, 1) := by decide +kernel
theorem dX11_blockingNode_2 : decode cX11_blockingNode 2 = .ok (.iload_n 2, 1) := by decide +kernel
theorem dX11_blockingNode_3 : decode cX11_blockingNode 3 = .ok (.invokevirtual 158, 3) := by decide +kernel
theorem dX11_blockingNode_6 : decode cX11_blockingNode 6 = .ok (.ifCond .eq 22, 3) := by decide +kernel
theorem dX11_blockingNode_9 : decode cX11_blockingNode 9 = .ok (.aload_n 0, 1) := by decide +kernel
theorem dX11_blockingNode_10 : decode cX11_blockingNode 10 = .ok (.getfield 40, 3) := by decide +kernel
theorem dX11_blockingNode_13 : decode cX11_blockingNode 13 = .ok (.getfield 143, 3) := by decide +kernel
theorem dX11_blockingNode_16 : decode cX11_blockingNode 16 = .ok (.aload_n 0, 1) := by decide +kernel
theorem dX11_blockingNode_17 : decode cX11_blockingNode 17 = .ok (.getfield 33, 3) := by decide +kernel
theorem dX11_blockingNode_20 : decode cX11_blockingNode 20 = .ok (.iload_n 1, 1) := by decide +kernel
theorem dX11_blockingNode_21 : decode cX11_blockingNode 21 = .ok (.iload_n 2, 1) := by decide +kernel
theorem dX11_blockingNode_22 : decode cX11_blockingNode 22 = .ok (.invokevirtual 186, 3) := by decide +kernel
theorem dX11_blockingNode_25 : decode cX11_blockingNode 25 = .ok (.goto 4, 3) := by decide +kernel
theorem dX11_blockingNode_28 : decode cX11_blockingNode 28 = .ok (.iconst (-1), 1) := by decide +kernel
theorem dX11_blockingNode_29 : decode cX11_blockingNode 29 = .ok (.ireturn, 1) := by decide +kernel
theorem dX11_queueLength_0 : decode cX11_queueLength 0 = .ok (.aload_n 0, 1) := by decide +kernel
theorem dX11_queueLength_1 : decode cX11_queueLength 1 = .ok (.getfield 33, 3) := by decide +kernel
theorem dX11_queueLength_4 : decode cX11_queueLength 4 = .ok (.iload_n 1, 1) := by decide +kernel
theorem dX11_queueLength_5 : decode cX11_queueLength 5 = .ok (.invokevirtual 105, 3) := by decide +kernel
theorem dX11_queueLength_8 : decode cX11_queueLength 8 = .ok (.ifCond .eq 18, 3) := by decide +kernel
theorem dX11_queueLength_11 : decode cX11_queueLength 11 = .ok (.aload_n 0, 1) := by decide +kernel
theorem dX11_queueLength_12 : decode cX11_queueLength 12 = .ok (.getfield 40, 3) := by decide +kernel
theorem dX11_queueLength_15 : decode cX11_queueLength 15 = .ok (.getfield 189, 3) := by decide +kernel
theorem dX11_queueLength_18 : decode cX11_queueLength 18 = .ok (.getfield 193, 3) := by decide +kernel
theorem dX11_queueLength_21 : decode cX11_queueLength 21 = .ok (.iload_n 1, 1) := by decide +kernel
theorem dX11_queueLength_22 : decode cX11_queueLength 22 = .ok (.iaload, 1) := by decide +kernel
theorem dX11_queueLength_23 : decode cX11_queueLength 23 = .ok (.goto 4, 3) := by decide +kernel
theorem dX11_queueLength_26 : decode cX11_queueLength 26 = .ok (.iconst (-1), 1) := by decide +kernel
theorem dX11_queueLength_27 : decode cX11_queueLength 27 = .ok (.ireturn, 1) := by decide +kernel
theorem dX11_nextLeaf_0 : decode cX11_nextLeaf 0 = .ok (.aload_n 0, 1) := by decide +kernel
theorem dX11_nextLeaf_1 : decode cX11_nextLeaf 1 = .ok (.getfield 40, 3) := by decide +kernel
theorem dX11_nextLeaf_4 : decode cX11_nextLeaf 4 = .ok (.aload_n 0, 1) := by decide +kernel
theorem dX11_nextLeaf_5 : decode cX11_nextLeaf 5 = .ok (.getfield 33, 3) := by decide +kernel
theorem dX11_nextLeaf_8 : decode cX11_nextLeaf 8 = .ok (.invokevirtual 197, 3) := by decide +kernel
theorem dX11_nextLeaf_11 : decode cX11_nextLeaf 11 = .ok (.ireturn, 1) := by decide +kernel
theorem dX11_advance_0 : decode cX11_advance 0 = .ok (.aload_n 0, 1) := by decide +kernel
theorem dX11_advance_1 : decode cX11_advance 1 = .ok (.iload_n 1, 1) := by decide +kernel
theorem dX11_advance_2 : decode cX11_advance 2 = .ok (.invokevirtual 217, 3) := by decide +kernel
theorem dX11_advance_5 : decode cX11_advance 5 = .ok (.ifCond .eq 18, 3) := by decide +kernel
theorem dX11_advance_8 : decode cX11_advance 8 = .ok (.aload_n 0, 1) := by decide +kernel
theorem dX11_advance_9 : decode cX11_advance 9 = .ok (.getfield 40, 3) := by decide +kernel
theorem dX11_advance_12 : decode cX11_advance 12 = .ok (.aload_n 0, 1) := by decide +kernel
theorem dX11_advance_13 : decode cX11_advance 13 = .ok (.getfield 33, 3) := by decide +kernel
theorem dX11_advance_16 : decode cX11_advance 16 = .ok (.iload_n 1, 1) := by decide +kernel
theorem dX11_advance_17 : decode cX11_advance 17 = .ok (.invokevirtual 220, 3) := by decide +kernel
theorem dX11_advance_20 : decode cX11_advance 20 = .ok (.goto 4, 3) := by decide +kernel
theorem dX11_advance_23 : decode cX11_advance 23 = .ok (.iconst (-1), 1) := by decide +kernel
theorem dX11_advance_24 : decode cX11_advance 24 = .ok (.ireturn, 1) := by decide +kernel
theorem dX11_sentCost_0 : decode cX11_sentCost 0 = .ok (.aload_n 0, 1) := by decide +kernel
theorem dX11_sentCost_1 : decode cX11_sentCost 1 = .ok (.getfield 33, 3) := by decide +kernel
theorem dX11_sentCost_4 : decode cX11_sentCost 4 = .ok (.iload_n 1, 1) := by decide +kernel
theorem dX11_sentCost_5 : decode cX11_sentCost 5 = .ok (.invokevirtual 105, 3) := by decide +kernel
theorem dX11_sentCost_8 : decode cX11_sentCost 8 = .ok (.ifCond .eq 18, 3) := by decide +kernel
theorem dX11_sentCost_11 : decode cX11_sentCost 11 = .ok (.aload_n 0, 1) := by decide +kernel
theorem dX11_sentCost_12 : decode cX11_sentCost 12 = .ok (.getfield 40, 3) := by decide +kernel
theorem dX11_sentCost_15 : decode cX11_sentCost 15 = .ok (.getfield 226, 3) := by decide +kernel
theorem dX11_sentCost_18 : decode cX11_sentCost 18 = .ok (.getfield 243, 3) := by decide +kernel
theorem dX11_sentCost_21 : decode cX11_sentCost 21 = .ok (.iload_n 1, 1) := by decide +kernel
theorem dX11_sentCost_22 : decode cX11_sentCost 22 = .ok (.iaload, 1) := by decide +kernel
theorem dX11_sentCost_23 : decode cX11_sentCost 23 = .ok (.goto 4, 3) := by decide +kernel
theorem dX11_sentCost_26 : decode cX11_sentCost 26 = .ok (.iconst (-1), 1) := by decide +kernel
theorem dX11_sentCost_27 : decode cX11_sentCost 27 = .ok (.ireturn, 1) := by decide +kernel
theorem dX11_sentCount_0 : decode cX11_sentCount 0 = .ok (.aload_n 0, 1) := by decide +kernel
theorem dX11_sentCount_1 : decode cX11_sentCount 1 = .ok (.getfield 33, 3) := by decide +kernel
theorem dX11_sentCount_4 : decode cX11_sentCount 4 = .ok (.iload_n 1, 1) := by decide +kernel
theorem dX11_sentCount_5 : decode cX11_sentCount 5 = .ok (.invokevirtual 105, 3) := by decide +kernel
theorem dX11_sentCount_8 : decode cX11_sentCount 8 = .ok (.ifCond .eq 18, 3) := by decide +kernel
theorem dX11_sentCount_11 : decode cX11_sentCount 11 = .ok (.aload_n 0, 1) := by decide +kernel
theorem dX11_sentCount_12 : decode cX11_sentCount 12 = .ok (.getfield 40, 3) := by decide +kernel
theorem dX11_sentCount_15 : decode cX11_sentCount 15 = .ok (.getfield 226, 3) := by decide +kernel
theorem dX11_sentCount_18 : decode cX11_sentCount 18 = .ok (.getfield 230, 3) := by decide +kernel
theorem dX11_sentCount_21 : decode cX11_sentCount 21 = .ok (.iload_n 1, 1) := by decide +kernel
theorem dX11_sentCount_22 : decode cX11_sentCount 22 = .ok (.iaload, 1) := by decide +kernel
theorem dX11_sentCount_23 : decode cX11_sentCount 23 = .ok (.goto 4, 3) := by decide +kernel
theorem dX11_sentCount_26 : decode cX11_sentCount 26 = .ok (.iconst (-1), 1) := by decide +kernel
theorem dX11_sentCount_27 : decode cX11_sentCount 27 = .ok (.ireturn, 1) := by decide +kernel
theorem dX11_borrowedCost_0 : decode cX11_borrowedCost 0 = .ok (.aload_n 0, 1) := by decide +kernel
theorem dX11_borrowedCost_1 : decode cX11_borrowedCost 1 = .ok (.getfield 33, 3) := by decide +kernel
theorem dX11_borrowedCost_4 : decode cX11_borrowedCost 4 = .ok (.iload_n 1, 1) := by decide +kernel
theorem dX11_borrowedCost_5 : decode cX11_borrowedCost 5 = .ok (.invokevirtual 105, 3) := by decide +kernel
theorem dX11_borrowedCost_8 : decode cX11_borrowedCost 8 = .ok (.ifCond .eq 18, 3) := by decide +kernel
theorem dX11_borrowedCost_11 : decode cX11_borrowedCost 11 = .ok (.aload_n 0, 1) := by decide +kernel
theorem dX11_borrowedCost_12 : decode cX11_borrowedCost 12 = .ok (.getfield 40, 3) := by decide +kernel
theorem dX11_borrowedCost_15 : decode cX11_borrowedCost 15 = .ok (.getfield 226, 3) := by decide +kernel
theorem dX11_borrowedCost_18 : decode cX11_borrowedCost 18 = .ok (.getfield 246, 3) := by decide +kernel
theorem dX11_borrowedCost_21 : decode cX11_borrowedCost 21 = .ok (.iload_n 1, 1) := by decide +kernel
theorem dX11_borrowedCost_22 : decode cX11_borrowedCost 22 = .ok (.iaload, 1) := by decide +kernel
theorem dX11_borrowedCost_23 : decode cX11_borrowedCost 23 = .ok (.goto 4, 3) := by decide +kernel
theorem dX11_borrowedCost_26 : decode cX11_borrowedCost 26 = .ok (.iconst (-1), 1) := by decide +kernel
theorem dX11_borrowedCost_27 : decode cX11_borrowedCost 27 = .ok (.ireturn, 1) := by decide +kernel
theorem dX11_lentCost_0 : decode cX11_lentCost 0 = .ok (.aload_n 0, 1) := by decide +kernel
theorem dX11_lentCost_1 : decode cX11_lentCost 1 = .ok (.getfield 33, 3) := by decide +kernel
theorem dX11_lentCost_4 : decode cX11_lentCost 4 = .ok (.iload_n 1, 1) := by decide +kernel
theorem dX11_lentCost_5 : decode cX11_lentCost 5 = .ok (.invokevirtual 85, 3) := by decide +kernel
theorem dX11_lentCost_8 : decode cX11_lentCost 8 = .ok (.ifCond .eq 18, 3) := by decide +kernel
theorem dX11_lentCost_11 : decode cX11_lentCost 11 = .ok (.aload_n 0, 1) := by decide +kernel
theorem dX11_lentCost_12 : decode cX11_lentCost 12 = .ok (.getfield 40, 3) := by decide +kernel
theorem dX11_lentCost_15 : decode cX11_lentCost 15 = .ok (.getfield 226, 3) := by decide +kernel
theorem dX11_lentCost_18 : decode cX11_lentCost 18 = .ok (.getfield 249, 3) := by decide +kernel
theorem dX11_lentCost_21 : decode cX11_lentCost 21 = .ok (.iload_n 1, 1) := by decide +kernel
theorem dX11_lentCost_22 : decode cX11_lentCost 22 = .ok (.iaload, 1) := by decide +kernel
theorem dX11_lentCost_23 : decode cX11_lentCost 23 = .ok (.goto 4, 3) := by decide +kernel
theorem dX11_lentCost_26 : decode cX11_lentCost 26 = .ok (.iconst (-1), 1) := by decide +kernel
theorem dX11_lentCost_27 : decode cX11_lentCost 27 = .ok (.ireturn, 1) := by decide +kernel
theorem dX11_droppedCount_0 : decode cX11_droppedCount 0 = .ok (.aload_n 0, 1) := by decide +kernel
theorem dX11_droppedCount_1 : decode cX11_droppedCount 1 = .ok (.getfield 33, 3) := by decide +kernel
theorem dX11_droppedCount_4 : decode cX11_droppedCount 4 = .ok (.iload_n 1, 1) := by decide +kernel
theorem dX11_droppedCount_5 : decode cX11_droppedCount 5 = .ok (.invokevirtual 105, 3) := by decide +kernel
theorem dX11_droppedCount_8 : decode cX11_droppedCount 8 = .ok (.ifCond .eq 18, 3) := by decide +kernel
theorem dX11_droppedCount_11 : decode cX11_droppedCount 11 = .ok (.aload_n 0, 1) := by decide +kernel
theorem dX11_droppedCount_12 : decode cX11_droppedCount 12 = .ok (.getfield 40, 3) := by decide +kernel
theorem dX11_droppedCount_15 : decode cX11_droppedCount 15 = .ok (.getfield 226, 3) := by decide +kernel
theorem dX11_droppedCount_18 : decode cX11_droppedCount 18 = .ok (.getfield 252, 3) := by decide +kernel
theorem dX11_droppedCount_21 : decode cX11_droppedCount 21 = .ok (.iload_n 1, 1) := by decide +kernel
theorem dX11_droppedCount_22 : decode cX11_droppedCount 22 = .ok (.iaload, 1) := by decide +kernel
theorem dX11_droppedCount_23 : decode cX11_droppedCount 23 = .ok (.goto 4, 3) := by decide +kernel
theorem dX11_droppedCount_26 : decode cX11_droppedCount 26 = .ok (.iconst (-1), 1) := by decide +kernel
theorem dX11_droppedCount_27 : decode cX11_droppedCount 27 = .ok (.ireturn, 1) := by decide +kernel
theorem dX11_fairness_0 : decode cX11_fairness 0 = .ok (.aload_n 0, 1) := by decide +kernel
theorem dX11_fairness_1 : decode cX11_fairness 1 = .ok (.getfield 33, 3) := by decide +kernel
theorem dX11_fairness_4 : decode cX11_fairness 4 = .ok (.getfield 79, 3) := by decide +kernel
theorem dX11_fairness_7 : decode cX11_fairness 7 = .ok (.ifCond .ne 5, 3) := by decide +kernel
theorem dX11_fairness_10 : decode cX11_fairness 10 = .ok (.iconst (-1), 1) := by decide +kernel
theorem dX11_fairness_11 : decode cX11_fairness 11 = .ok (.ireturn, 1) := by decide +kernel
theorem dX11_fairness_12 : decode cX11_fairness 12 = .ok (.lconst 0, 1) := by decide +kernel
theorem dX11_fairness_13 : decode cX11_fairness 13 = .ok (.lstore_n 1, 1) := by decide +kernel
theorem dX11_fairness_14 : decode cX11_fairness 14 = .ok (.lconst 0, 1) := by decide +kernel
theorem dX11_fairness_15 : decode cX11_fairness 15 = .ok (.lstore_n 3, 1) := by decide +kernel
theorem dX11_fairness_16 : decode cX11_fairness 16 = .ok (.lconst 0, 1) := by decide +kernel
theorem dX11_fairness_17 : decode cX11_fairness 17 = .ok (.lstore 5, 2) := by decide +kernel
theorem dX11_fairness_19 : decode cX11_fairness 19 = .ok (.iconst 0, 1) := by decide +kernel
theorem dX11_fairness_20 : decode cX11_fairness 20 = .ok (.istore 7, 2) := by decide +kernel
theorem dX11_fairness_22 : decode cX11_fairness 22 = .ok (.iload 7, 2) := by decide +kernel
theorem dX11_fairness_24 : decode cX11_fairness 24 = .ok (.aload_n 0, 1) := by decide +kernel
theorem dX11_fairness_25 : decode cX11_fairness 25 = .ok (.getfield 33, 3) := by decide +kernel
theorem dX11_fairness_28 : decode cX11_fairness 28 = .ok (.getfield 79, 3) := by decide +kernel
theorem dX11_fairness_31 : decode cX11_fairness 31 = .ok (.if_icmp .ge 74, 3) := by decide +kernel
theorem dX11_fairness_34 : decode cX11_fairness 34 = .ok (.aload_n 0, 1) := by decide +kernel
theorem dX11_fairness_35 : decode cX11_fairness 35 = .ok (.getfield 33, 3) := by decide +kernel
theorem dX11_fairness_38 : decode cX11_fairness 38 = .ok (.iload 7, 2) := by decide +kernel
theorem dX11_fairness_40 : decode cX11_fairness 40 = .ok (.invokevirtual 105, 3) := by decide +kernel
theorem dX11_fairness_43 : decode cX11_fairness 43 = .ok (.ifCond .eq 56, 3) := by decide +kernel
theorem dX11_fairness_46 : decode cX11_fairness 46 = .ok (.ldc2_w 255, 3) := by decide +kernel
theorem dX11_fairness_49 : decode cX11_fairness 49 = .ok (.aload_n 0, 1) := by decide +kernel
theorem dX11_fairness_50 : decode cX11_fairness 50 = .ok (.getfield 40, 3) := by decide +kernel
theorem dX11_fairness_53 : decode cX11_fairness 53 = .ok (.getfield 226, 3) := by decide +kernel
theorem dX11_fairness_56 : decode cX11_fairness 56 = .ok (.getfield 243, 3) := by decide +kernel
theorem dX11_fairness_59 : decode cX11_fairness 59 = .ok (.iload 7, 2) := by decide +kernel
theorem dX11_fairness_61 : decode cX11_fairness 61 = .ok (.iaload, 1) := by decide +kernel
theorem dX11_fairness_62 : decode cX11_fairness 62 = .ok (.i2l, 1) := by decide +kernel
theorem dX11_fairness_63 : decode cX11_fairness 63 = .ok (.lmul, 1) := by decide +kernel
theorem dX11_fairness_64 : decode cX11_fairness 64 = .ok (.aload_n 0, 1) := by decide +kernel
theorem dX11_fairness_65 : decode cX11_fairness 65 = .ok (.getfield 40, 3) := by decide +kernel
theorem dX11_fairness_68 : decode cX11_fairness 68 = .ok (.getfield 123, 3) := by decide +kernel
theorem dX11_fairness_71 : decode cX11_fairness 71 = .ok (.iload 7, 2) := by decide +kernel
theorem dX11_fairness_73 : decode cX11_fairness 73 = .ok (.iaload, 1) := by decide +kernel
theorem dX11_fairness_74 : decode cX11_fairness 74 = .ok (.i2l, 1) := by decide +kernel
theorem dX11_fairness_75 : decode cX11_fairness 75 = .ok (.invokestatic 257, 3) := by decide +kernel
theorem dX11_fairness_78 : decode cX11_fairness 78 = .ok (.lstore 8, 2) := by decide +kernel
theorem dX11_fairness_80 : decode cX11_fairness 80 = .ok (.lload_n 1, 1) := by decide +kernel
theorem dX11_fairness_81 : decode cX11_fairness 81 = .ok (.lconst 1, 1) := by decide +kernel
theorem dX11_fairness_82 : decode cX11_fairness 82 = .ok (.ladd, 1) := by decide +kernel
theorem dX11_fairness_83 : decode cX11_fairness 83 = .ok (.lstore_n 1, 1) := by decide +kernel
theorem dX11_fairness_84 : decode cX11_fairness 84 = .ok (.lload_n 3, 1) := by decide +kernel
theorem dX11_fairness_85 : decode cX11_fairness 85 = .ok (.lload 8, 2) := by decide +kernel
theorem dX11_fairness_87 : decode cX11_fairness 87 = .ok (.ladd, 1) := by decide +kernel
theorem dX11_fairness_88 : decode cX11_fairness 88 = .ok (.lstore_n 3, 1) := by decide +kernel
theorem dX11_fairness_89 : decode cX11_fairness 89 = .ok (.lload 5, 2) := by decide +kernel
theorem dX11_fairness_91 : decode cX11_fairness 91 = .ok (.lload 8, 2) := by decide +kernel
theorem dX11_fairness_93 : decode cX11_fairness 93 = .ok (.lload 8, 2) := by decide +kernel
end
section
theorem dX11_fairness_95 : decode cX11_fairness 95 = .ok (.lmul, 1) := by decide +kernel
theorem dX11_fairness_96 : decode cX11_fairness 96 = .ok (.ladd, 1) := by decide +kernel
theorem dX11_fairness_97 : decode cX11_fairness 97 = .ok (.lstore 5, 2) := by decide +kernel
theorem dX11_fairness_99 : decode cX11_fairness 99 = .ok (.iinc 7 1, 3) := by decide +kernel
theorem dX11_fairness_102 : decode cX11_fairness 102 = .ok (.goto (-80), 3) := by decide +kernel
theorem dX11_fairness_105 : decode cX11_fairness 105 = .ok (.lload 5, 2) := by decide +kernel
theorem dX11_fairness_107 : decode cX11_fairness 107 = .ok (.lconst 0, 1) := by decide +kernel
theorem dX11_fairness_108 : decode cX11_fairness 108 = .ok (.lcmp, 1) := by decide +kernel
theorem dX11_fairness_109 : decode cX11_fairness 109 = .ok (.ifCond .ne 9, 3) := by decide +kernel
theorem dX11_fairness_112 : decode cX11_fairness 112 = .ok (.sipush 1000, 3) := by decide +kernel
theorem dX11_fairness_115 : decode cX11_fairness 115 = .ok (.goto 18, 3) := by decide +kernel
theorem dX11_fairness_118 : decode cX11_fairness 118 = .ok (.ldc2_w 261, 3) := by decide +kernel
theorem dX11_fairness_121 : decode cX11_fairness 121 = .ok (.lload_n 3, 1) := by decide +kernel
theorem dX11_fairness_122 : decode cX11_fairness 122 = .ok (.lmul, 1) := by decide +kernel
theorem dX11_fairness_123 : decode cX11_fairness 123 = .ok (.lload_n 3, 1) := by decide +kernel
theorem dX11_fairness_124 : decode cX11_fairness 124 = .ok (.lmul, 1) := by decide +kernel
theorem dX11_fairness_125 : decode cX11_fairness 125 = .ok (.lload_n 1, 1) := by decide +kernel
theorem dX11_fairness_126 : decode cX11_fairness 126 = .ok (.lload 5, 2) := by decide +kernel
theorem dX11_fairness_128 : decode cX11_fairness 128 = .ok (.lmul, 1) := by decide +kernel
theorem dX11_fairness_129 : decode cX11_fairness 129 = .ok (.invokestatic 257, 3) := by decide +kernel
theorem dX11_fairness_132 : decode cX11_fairness 132 = .ok (.l2i, 1) := by decide +kernel
theorem dX11_fairness_133 : decode cX11_fairness 133 = .ok (.ireturn, 1) := by decide +kernel
theorem dX11_mostServed_0 : decode cX11_mostServed 0 = .ok (.bipush (-2), 2) := by decide +kernel
theorem dX11_mostServed_2 : decode cX11_mostServed 2 = .ok (.istore_n 1, 1) := by decide +kernel
theorem dX11_mostServed_3 : decode cX11_mostServed 3 = .ok (.iconst 0, 1) := by decide +kernel
theorem dX11_mostServed_4 : decode cX11_mostServed 4 = .ok (.istore_n 2, 1) := by decide +kernel
theorem dX11_mostServed_5 : decode cX11_mostServed 5 = .ok (.iload_n 2, 1) := by decide +kernel
theorem dX11_mostServed_6 : decode cX11_mostServed 6 = .ok (.aload_n 0, 1) := by decide +kernel
theorem dX11_mostServed_7 : decode cX11_mostServed 7 = .ok (.getfield 33, 3) := by decide +kernel
theorem dX11_mostServed_10 : decode cX11_mostServed 10 = .ok (.getfield 79, 3) := by decide +kernel
theorem dX11_mostServed_13 : decode cX11_mostServed 13 = .ok (.if_icmp .ge 40, 3) := by decide +kernel
theorem dX11_mostServed_16 : decode cX11_mostServed 16 = .ok (.aload_n 0, 1) := by decide +kernel
theorem dX11_mostServed_17 : decode cX11_mostServed 17 = .ok (.getfield 33, 3) := by decide +kernel
theorem dX11_mostServed_20 : decode cX11_mostServed 20 = .ok (.iload_n 2, 1) := by decide +kernel
theorem dX11_mostServed_21 : decode cX11_mostServed 21 = .ok (.invokevirtual 105, 3) := by decide +kernel
theorem dX11_mostServed_24 : decode cX11_mostServed 24 = .ok (.ifCond .eq 23, 3) := by decide +kernel
theorem dX11_mostServed_27 : decode cX11_mostServed 27 = .ok (.iload_n 1, 1) := by decide +kernel
theorem dX11_mostServed_28 : decode cX11_mostServed 28 = .ok (.bipush (-2), 2) := by decide +kernel
theorem dX11_mostServed_30 : decode cX11_mostServed 30 = .ok (.if_icmp .eq 15, 3) := by decide +kernel
theorem dX11_mostServed_33 : decode cX11_mostServed 33 = .ok (.aload_n 0, 1) := by decide +kernel
theorem dX11_mostServed_34 : decode cX11_mostServed 34 = .ok (.getfield 40, 3) := by decide +kernel
theorem dX11_mostServed_37 : decode cX11_mostServed 37 = .ok (.iload_n 2, 1) := by decide +kernel
theorem dX11_mostServed_38 : decode cX11_mostServed 38 = .ok (.iload_n 1, 1) := by decide +kernel
theorem dX11_mostServed_39 : decode cX11_mostServed 39 = .ok (.invokevirtual 263, 3) := by decide +kernel
theorem dX11_mostServed_42 : decode cX11_mostServed 42 = .ok (.ifCond .le 5, 3) := by decide +kernel
theorem dX11_mostServed_45 : decode cX11_mostServed 45 = .ok (.iload_n 2, 1) := by decide +kernel
theorem dX11_mostServed_46 : decode cX11_mostServed 46 = .ok (.istore_n 1, 1) := by decide +kernel
theorem dX11_mostServed_47 : decode cX11_mostServed 47 = .ok (.iinc 2 1, 3) := by decide +kernel
theorem dX11_mostServed_50 : decode cX11_mostServed 50 = .ok (.goto (-45), 3) := by decide +kernel
theorem dX11_mostServed_53 : decode cX11_mostServed 53 = .ok (.iload_n 1, 1) := by decide +kernel
theorem dX11_mostServed_54 : decode cX11_mostServed 54 = .ok (.ireturn, 1) := by decide +kernel
theorem dX11_loggedLeaf_0 : decode cX11_loggedLeaf 0 = .ok (.aload_n 0, 1) := by decide +kernel
theorem dX11_loggedLeaf_1 : decode cX11_loggedLeaf 1 = .ok (.iload_n 1, 1) := by decide +kernel
theorem dX11_loggedLeaf_2 : decode cX11_loggedLeaf 2 = .ok (.invokevirtual 278, 3) := by decide +kernel
theorem dX11_loggedLeaf_5 : decode cX11_loggedLeaf 5 = .ok (.istore_n 2, 1) := by decide +kernel
theorem dX11_loggedLeaf_6 : decode cX11_loggedLeaf 6 = .ok (.iload_n 2, 1) := by decide +kernel
theorem dX11_loggedLeaf_7 : decode cX11_loggedLeaf 7 = .ok (.ifCond .ge 7, 3) := by decide +kernel
theorem dX11_loggedLeaf_10 : decode cX11_loggedLeaf 10 = .ok (.iload_n 2, 1) := by decide +kernel
theorem dX11_loggedLeaf_11 : decode cX11_loggedLeaf 11 = .ok (.goto 15, 3) := by decide +kernel
theorem dX11_loggedLeaf_14 : decode cX11_loggedLeaf 14 = .ok (.aload_n 0, 1) := by decide +kernel
theorem dX11_loggedLeaf_15 : decode cX11_loggedLeaf 15 = .ok (.getfield 40, 3) := by decide +kernel
theorem dX11_loggedLeaf_18 : decode cX11_loggedLeaf 18 = .ok (.getfield 266, 3) := by decide +kernel
theorem dX11_loggedLeaf_21 : decode cX11_loggedLeaf 21 = .ok (.getfield 281, 3) := by decide +kernel
theorem dX11_loggedLeaf_24 : decode cX11_loggedLeaf 24 = .ok (.iload_n 2, 1) := by decide +kernel
theorem dX11_loggedLeaf_25 : decode cX11_loggedLeaf 25 = .ok (.iaload, 1) := by decide +kernel
theorem dX11_loggedLeaf_26 : decode cX11_loggedLeaf 26 = .ok (.ireturn, 1) := by decide +kernel
theorem dX11_loggedCost_0 : decode cX11_loggedCost 0 = .ok (.aload_n 0, 1) := by decide +kernel
theorem dX11_loggedCost_1 : decode cX11_loggedCost 1 = .ok (.iload_n 1, 1) := by decide +kernel
theorem dX11_loggedCost_2 : decode cX11_loggedCost 2 = .ok (.invokevirtual 278, 3) := by decide +kernel
theorem dX11_loggedCost_5 : decode cX11_loggedCost 5 = .ok (.istore_n 2, 1) := by decide +kernel
theorem dX11_loggedCost_6 : decode cX11_loggedCost 6 = .ok (.iload_n 2, 1) := by decide +kernel
theorem dX11_loggedCost_7 : decode cX11_loggedCost 7 = .ok (.ifCond .ge 7, 3) := by decide +kernel
theorem dX11_loggedCost_10 : decode cX11_loggedCost 10 = .ok (.iload_n 2, 1) := by decide +kernel
theorem dX11_loggedCost_11 : decode cX11_loggedCost 11 = .ok (.goto 15, 3) := by decide +kernel
theorem dX11_loggedCost_14 : decode cX11_loggedCost 14 = .ok (.aload_n 0, 1) := by decide +kernel
theorem dX11_loggedCost_15 : decode cX11_loggedCost 15 = .ok (.getfield 40, 3) := by decide +kernel
theorem dX11_loggedCost_18 : decode cX11_loggedCost 18 = .ok (.getfield 266, 3) := by decide +kernel
theorem dX11_loggedCost_21 : decode cX11_loggedCost 21 = .ok (.getfield 284, 3) := by decide +kernel
theorem dX11_loggedCost_24 : decode cX11_loggedCost 24 = .ok (.iload_n 2, 1) := by decide +kernel
theorem dX11_loggedCost_25 : decode cX11_loggedCost 25 = .ok (.iaload, 1) := by decide +kernel
theorem dX11_loggedCost_26 : decode cX11_loggedCost 26 = .ok (.ireturn, 1) := by decide +kernel
theorem dX11_loggedLender_0 : decode cX11_loggedLender 0 = .ok (.aload_n 0, 1) := by decide +kernel
theorem dX11_loggedLender_1 : decode cX11_loggedLender 1 = .ok (.iload_n 1, 1) := by decide +kernel
theorem dX11_loggedLender_2 : decode cX11_loggedLender 2 = .ok (.invokevirtual 278, 3) := by decide +kernel
theorem dX11_loggedLender_5 : decode cX11_loggedLender 5 = .ok (.istore_n 2, 1) := by decide +kernel
theorem dX11_loggedLender_6 : decode cX11_loggedLender 6 = .ok (.iload_n 2, 1) := by decide +kernel
theorem dX11_loggedLender_7 : decode cX11_loggedLender 7 = .ok (.ifCond .ge 7, 3) := by decide +kernel
theorem dX11_loggedLender_10 : decode cX11_loggedLender 10 = .ok (.iload_n 2, 1) := by decide +kernel
theorem dX11_loggedLender_11 : decode cX11_loggedLender 11 = .ok (.goto 15, 3) := by decide +kernel
theorem dX11_loggedLender_14 : decode cX11_loggedLender 14 = .ok (.aload_n 0, 1) := by decide +kernel
theorem dX11_loggedLender_15 : decode cX11_loggedLender 15 = .ok (.getfield 40, 3) := by decide +kernel
theorem dX11_loggedLender_18 : decode cX11_loggedLender 18 = .ok (.getfield 266, 3) := by decide +kernel
theorem dX11_loggedLender_21 : decode cX11_loggedLender 21 = .ok (.getfield 285, 3) := by decide +kernel
theorem dX11_loggedLender_24 : decode cX11_loggedLender 24 = .ok (.iload_n 2, 1) := by decide +kernel
theorem dX11_loggedLender_25 : decode cX11_loggedLender 25 = .ok (.iaload, 1) := by decide +kernel
theorem dX11_loggedLender_26 : decode cX11_loggedLender 26 = .ok (.ireturn, 1) := by decide +kernel
theorem dX11_loggedTime_0 : decode cX11_loggedTime 0 = .ok (.aload_n 0, 1) := by decide +kernel
theorem dX11_loggedTime_1 : decode cX11_loggedTime 1 = .ok (.iload_n 1, 1) := by decide +kernel
theorem dX11_loggedTime_2 : decode cX11_loggedTime 2 = .ok (.invokevirtual 278, 3) := by decide +kernel
theorem dX11_loggedTime_5 : decode cX11_loggedTime 5 = .ok (.istore_n 2, 1) := by decide +kernel
theorem dX11_loggedTime_6 : decode cX11_loggedTime 6 = .ok (.iload_n 2, 1) := by decide +kernel
theorem dX11_loggedTime_7 : decode cX11_loggedTime 7 = .ok (.ifCond .ge 7, 3) := by decide +kernel
theorem dX11_loggedTime_10 : decode cX11_loggedTime 10 = .ok (.iload_n 2, 1) := by decide +kernel
theorem dX11_loggedTime_11 : decode cX11_loggedTime 11 = .ok (.goto 15, 3) := by decide +kernel
theorem dX11_loggedTime_14 : decode cX11_loggedTime 14 = .ok (.aload_n 0, 1) := by decide +kernel
theorem dX11_loggedTime_15 : decode cX11_loggedTime 15 = .ok (.getfield 40, 3) := by decide +kernel
theorem dX11_loggedTime_18 : decode cX11_loggedTime 18 = .ok (.getfield 266, 3) := by decide +kernel
theorem dX11_loggedTime_21 : decode cX11_loggedTime 21 = .ok (.getfield 288, 3) := by decide +kernel
theorem dX11_loggedTime_24 : decode cX11_loggedTime 24 = .ok (.iload_n 2, 1) := by decide +kernel
theorem dX11_loggedTime_25 : decode cX11_loggedTime 25 = .ok (.iaload, 1) := by decide +kernel
theorem dX11_loggedTime_26 : decode cX11_loggedTime 26 = .ok (.ireturn, 1) := by decide +kernel
theorem dX11_setRate_0 : decode cX11_setRate 0 = .ok (.aload_n 0, 1) := by decide +kernel
theorem dX11_setRate_1 : decode cX11_setRate 1 = .ok (.iload_n 1, 1) := by decide +kernel
theorem dX11_setRate_2 : decode cX11_setRate 2 = .ok (.iconst 0, 1) := by decide +kernel
theorem dX11_setRate_3 : decode cX11_setRate 3 = .ok (.iload_n 2, 1) := by decide +kernel
theorem dX11_setRate_4 : decode cX11_setRate 4 = .ok (.invokevirtual 301, 3) := by decide +kernel
theorem dX11_setRate_7 : decode cX11_setRate 7 = .ok (.ireturn, 1) := by decide +kernel
theorem dX11_isRequest_0 : decode cX11_isRequest 0 = .ok (.aload_n 0, 1) := by decide +kernel
theorem dX11_isRequest_1 : decode cX11_isRequest 1 = .ok (.getfield 33, 3) := by decide +kernel
theorem dX11_isRequest_4 : decode cX11_isRequest 4 = .ok (.iload_n 1, 1) := by decide +kernel
theorem dX11_isRequest_5 : decode cX11_isRequest 5 = .ok (.invokevirtual 105, 3) := by decide +kernel
theorem dX11_isRequest_8 : decode cX11_isRequest 8 = .ok (.ifCond .eq 18, 3) := by decide +kernel
theorem dX11_isRequest_11 : decode cX11_isRequest 11 = .ok (.iload_n 2, 1) := by decide +kernel
theorem dX11_isRequest_12 : decode cX11_isRequest 12 = .ok (.iconst 1, 1) := by decide +kernel
theorem dX11_isRequest_13 : decode cX11_isRequest 13 = .ok (.if_icmp .lt 13, 3) := by decide +kernel
theorem dX11_isRequest_16 : decode cX11_isRequest 16 = .ok (.iload_n 2, 1) := by decide +kernel
theorem dX11_isRequest_17 : decode cX11_isRequest 17 = .ok (.bipush 99, 2) := by decide +kernel
theorem dX11_isRequest_19 : decode cX11_isRequest 19 = .ok (.if_icmp .gt 7, 3) := by decide +kernel
theorem dX11_isRequest_22 : decode cX11_isRequest 22 = .ok (.iconst 1, 1) := by decide +kernel
theorem dX11_isRequest_23 : decode cX11_isRequest 23 = .ok (.goto 4, 3) := by decide +kernel
theorem dX11_isRequest_26 : decode cX11_isRequest 26 = .ok (.iconst 0, 1) := by decide +kernel
theorem dX11_isRequest_27 : decode cX11_isRequest 27 = .ok (.ireturn, 1) := by decide +kernel
theorem dX11_canAdvance_0 : decode cX11_canAdvance 0 = .ok (.aload_n 0, 1) := by decide +kernel
theorem dX11_canAdvance_1 : decode cX11_canAdvance 1 = .ok (.getfield 33, 3) := by decide +kernel
theorem dX11_canAdvance_4 : decode cX11_canAdvance 4 = .ok (.getfield 79, 3) := by decide +kernel
theorem dX11_canAdvance_7 : decode cX11_canAdvance 7 = .ok (.ifCond .le 34, 3) := by decide +kernel
theorem dX11_canAdvance_10 : decode cX11_canAdvance 10 = .ok (.iload_n 1, 1) := by decide +kernel
theorem dX11_canAdvance_11 : decode cX11_canAdvance 11 = .ok (.iconst 1, 1) := by decide +kernel
theorem dX11_canAdvance_12 : decode cX11_canAdvance 12 = .ok (.if_icmp .lt 29, 3) := by decide +kernel
theorem dX11_canAdvance_15 : decode cX11_canAdvance 15 = .ok (.iload_n 1, 1) := by decide +kernel
theorem dX11_canAdvance_16 : decode cX11_canAdvance 16 = .ok (.sipush 500, 3) := by decide +kernel
theorem dX11_canAdvance_19 : decode cX11_canAdvance 19 = .ok (.if_icmp .gt 22, 3) := by decide +kernel
theorem dX11_canAdvance_22 : decode cX11_canAdvance 22 = .ok (.aload_n 0, 1) := by decide +kernel
theorem dX11_canAdvance_23 : decode cX11_canAdvance 23 = .ok (.getfield 40, 3) := by decide +kernel
theorem dX11_canAdvance_26 : decode cX11_canAdvance 26 = .ok (.getfield 140, 3) := by decide +kernel
theorem dX11_canAdvance_29 : decode cX11_canAdvance 29 = .ok (.iload_n 1, 1) := by decide +kernel
theorem dX11_canAdvance_30 : decode cX11_canAdvance 30 = .ok (.iadd, 1) := by decide +kernel
theorem dX11_canAdvance_31 : decode cX11_canAdvance 31 = .ok (.sipush 5000, 3) := by decide +kernel
theorem dX11_canAdvance_34 : decode cX11_canAdvance 34 = .ok (.if_icmp .gt 7, 3) := by decide +kernel
theorem dX11_canAdvance_37 : decode cX11_canAdvance 37 = .ok (.iconst 1, 1) := by decide +kernel
theorem dX11_canAdvance_38 : decode cX11_canAdvance 38 = .ok (.goto 4, 3) := by decide +kernel
theorem dX11_canAdvance_41 : decode cX11_canAdvance 41 = .ok (.iconst 0, 1) := by decide +kernel
theorem dX11_canAdvance_42 : decode cX11_canAdvance 42 = .ok (.ireturn, 1) := by decide +kernel
theorem dX11_logEntry_0 : decode cX11_logEntry 0 = .ok (.iload_n 1, 1) := by decide +kernel
theorem dX11_logEntry_1 : decode cX11_logEntry 1 = .ok (.ifCond .ge 5, 3) := by decide +kernel
theorem dX11_logEntry_4 : decode cX11_logEntry 4 = .ok (.iconst (-1), 1) := by decide +kernel
theorem dX11_logEntry_5 : decode cX11_logEntry 5 = .ok (.ireturn, 1) := by decide +kernel
theorem dX11_logEntry_6 : decode cX11_logEntry 6 = .ok (.iload_n 1, 1) := by decide +kernel
theorem dX11_logEntry_7 : decode cX11_logEntry 7 = .ok (.aload_n 0, 1) := by decide +kernel
theorem dX11_logEntry_8 : decode cX11_logEntry 8 = .ok (.getfield 40, 3) := by decide +kernel
theorem dX11_logEntry_11 : decode cX11_logEntry 11 = .ok (.getfield 266, 3) := by decide +kernel
theorem dX11_logEntry_14 : decode cX11_logEntry 14 = .ok (.getfield 275, 3) := by decide +kernel
theorem dX11_logEntry_17 : decode cX11_logEntry 17 = .ok (.if_icmp .ge 7, 3) := by decide +kernel
theorem dX11_logEntry_20 : decode cX11_logEntry 20 = .ok (.iload_n 1, 1) := by decide +kernel
theorem dX11_logEntry_21 : decode cX11_logEntry 21 = .ok (.goto 5, 3) := by decide +kernel
theorem dX11_logEntry_24 : decode cX11_logEntry 24 = .ok (.bipush (-2), 2) := by decide +kernel
theorem dX11_logEntry_26 : decode cX11_logEntry 26 = .ok (.ireturn, 1) := by decide +kernel
theorem dX11_change_0 : decode cX11_change 0 = .ok (.aload_n 0, 1) := by decide +kernel
theorem dX11_change_1 : decode cX11_change 1 = .ok (.getfield 33, 3) := by decide +kernel
theorem dX11_change_4 : decode cX11_change 4 = .ok (.iload_n 1, 1) := by decide +kernel
theorem dX11_change_5 : decode cX11_change 5 = .ok (.invokevirtual 85, 3) := by decide +kernel
theorem dX11_change_8 : decode cX11_change 8 = .ok (.ifCond .eq 11, 3) := by decide +kernel
theorem dX11_change_11 : decode cX11_change 11 = .ok (.iload_n 2, 1) := by decide +kernel
theorem dX11_change_12 : decode cX11_change 12 = .ok (.iload_n 3, 1) := by decide +kernel
theorem dX11_change_13 : decode cX11_change 13 = .ok (.invokestatic 309, 3) := by decide +kernel
theorem dX11_change_16 : decode cX11_change 16 = .ok (.ifCond .ne 5, 3) := by decide +kernel
theorem dX11_change_19 : decode cX11_change 19 = .ok (.iconst (-1), 1) := by decide +kernel
theorem dX11_change_20 : decode cX11_change 20 = .ok (.ireturn, 1) := by decide +kernel
theorem dX11_change_21 : decode cX11_change 21 = .ok (.aload_n 0, 1) := by decide +kernel
theorem dX11_change_22 : decode cX11_change 22 = .ok (.getfield 40, 3) := by decide +kernel
theorem dX11_change_25 : decode cX11_change 25 = .ok (.iload_n 2, 1) := by decide +kernel
theorem dX11_change_26 : decode cX11_change 26 = .ok (.invokevirtual 312, 3) := by decide +kernel
theorem dX11_change_29 : decode cX11_change 29 = .ok (.astore 4, 2) := by decide +kernel
theorem dX11_change_31 : decode cX11_change 31 = .ok (.aload 4, 2) := by decide +kernel
theorem dX11_change_33 : decode cX11_change 33 = .ok (.iload_n 1, 1) := by decide +kernel
theorem dX11_change_34 : decode cX11_change 34 = .ok (.iaload, 1) := by decide +kernel
theorem dX11_change_35 : decode cX11_change 35 = .ok (.istore 5, 2) := by decide +kernel
theorem dX11_change_37 : decode cX11_change 37 = .ok (.aload 4, 2) := by decide +kernel
theorem dX11_change_39 : decode cX11_change 39 = .ok (.iload_n 1, 1) := by decide +kernel
theorem dX11_change_40 : decode cX11_change 40 = .ok (.iload_n 3, 1) := by decide +kernel
theorem dX11_change_41 : decode cX11_change 41 = .ok (.iastore, 1) := by decide +kernel
theorem dX11_change_42 : decode cX11_change 42 = .ok (.iload 5, 2) := by decide +kernel
theorem dX11_change_44 : decode cX11_change 44 = .ok (.ireturn, 1) := by decide +kernel
theorem dX11_isInRange_0 : decode cX11_isInRange 0 = .ok (.iload_n 0, 1) := by decide +kernel
theorem dX11_isInRange_1 : decode cX11_isInRange 1 = .ok (.ifCond .lt 31, 3) := by decide +kernel
theorem dX11_isInRange_4 : decode cX11_isInRange 4 = .ok (.iload_n 0, 1) := by decide +kernel
theorem dX11_isInRange_5 : decode cX11_isInRange 5 = .ok (.bipush 6, 2) := by decide +kernel
theorem dX11_isInRange_7 : decode cX11_isInRange 7 = .ok (.if_icmp .ge 25, 3) := by decide +kernel
theorem dX11_isInRange_10 : decode cX11_isInRange 10 = .ok (.iload_n 1, 1) := by decide +kernel
theorem dX11_isInRange_11 : decode cX11_isInRange 11 = .ok (.getstatic 316, 3) := by decide +kernel
theorem dX11_isInRange_14 : decode cX11_isInRange 14 = .ok (.iload_n 0, 1) := by decide +kernel
theorem dX11_isInRange_15 : decode cX11_isInRange 15 = .ok (.iaload, 1) := by decide +kernel
theorem dX11_isInRange_16 : decode cX11_isInRange 16 = .ok (.if_icmp .lt 16, 3) := by decide +kernel
theorem dX11_isInRange_19 : decode cX11_isInRange 19 = .ok (.iload_n 1, 1) := by decide +kernel
theorem dX11_isInRange_20 : decode cX11_isInRange 20 = .ok (.getstatic 319, 3) := by decide +kernel
theorem dX11_isInRange_23 : decode cX11_isInRange 23 = .ok (.iload_n 0, 1) := by decide +kernel
theorem dX11_isInRange_24 : decode cX11_isInRange 24 = .ok (.iaload, 1) := by decide +kernel
theorem dX11_isInRange_25 : decode cX11_isInRange 25 = .ok (.if_icmp .gt 7, 3) := by decide +kernel
theorem dX11_isInRange_28 : decode cX11_isInRange 28 = .ok (.iconst 1, 1) := by decide +kernel
theorem dX11_isInRange_29 : decode cX11_isInRange 29 = .ok (.goto 4, 3) := by decide +kernel
theorem dX11_isInRange_32 : decode cX11_isInRange 32 = .ok (.iconst 0, 1) := by decide +kernel
theorem dX11_isInRange_33 : decode cX11_isInRange 33 = .ok (.ireturn, 1) := by decide +kernel
theorem dX11_quotient_0 : decode cX11_quotient 0 = .ok (.lload_n 2, 1) := by decide +kernel
theorem dX11_quotient_1 : decode cX11_quotient 1 = .ok (.lconst 0, 1) := by decide +kernel
theorem dX11_quotient_2 : decode cX11_quotient 2 = .ok (.lcmp, 1) := by decide +kernel
theorem dX11_quotient_3 : decode cX11_quotient 3 = .ok (.ifCond .ne 7, 3) := by decide +kernel
theorem dX11_quotient_6 : decode cX11_quotient 6 = .ok (.lconst 0, 1) := by decide +kernel
theorem dX11_quotient_7 : decode cX11_quotient 7 = .ok (.goto 6, 3) := by decide +kernel
theorem dX11_quotient_10 : decode cX11_quotient 10 = .ok (.lload_n 0, 1) := by decide +kernel
theorem dX11_quotient_11 : decode cX11_quotient 11 = .ok (.lload_n 2, 1) := by decide +kernel
theorem dX11_quotient_12 : decode cX11_quotient 12 = .ok (.ldiv, 1) := by decide +kernel
theorem dX11_quotient_13 : decode cX11_quotient 13 = .ok (.lreturn, 1) := by decide +kernel
theorem dX11_copyRow_0 : decode cX11_copyRow 0 = .ok (.aload_n 0, 1) := by decide +kernel
theorem dX11_copyRow_1 : decode cX11_copyRow 1 = .ok (.iconst 0, 1) := by decide +kernel
theorem dX11_copyRow_2 : decode cX11_copyRow 2 = .ok (.aload_n 1, 1) := by decide +kernel
theorem dX11_copyRow_3 : decode cX11_copyRow 3 = .ok (.iconst 0, 1) := by decide +kernel
theorem dX11_copyRow_4 : decode cX11_copyRow 4 = .ok (.aload_n 0, 1) := by decide +kernel
theorem dX11_copyRow_5 : decode cX11_copyRow 5 = .ok (.arraylength, 1) := by decide +kernel
theorem dX11_copyRow_6 : decode cX11_copyRow 6 = .ok (.aload_n 1, 1) := by decide +kernel
theorem dX11_copyRow_7 : decode cX11_copyRow 7 = .ok (.arraylength, 1) := by decide +kernel
theorem dX11_copyRow_8 : decode cX11_copyRow 8 = .ok (.invokestatic 235, 3) := by decide +kernel
theorem dX11_copyRow_11 : decode cX11_copyRow 11 = .ok (.invokestatic 322, 3) := by decide +kernel
theorem dX11_copyRow_14 : decode cX11_copyRow 14 = .ok (.return_, 1) := by decide +kernel
theorem dX11_clearRow_0 : decode cX11_clearRow 0 = .ok (.iconst 0, 1) := by decide +kernel
theorem dX11_clearRow_1 : decode cX11_clearRow 1 = .ok (.istore_n 1, 1) := by decide +kernel
theorem dX11_clearRow_2 : decode cX11_clearRow 2 = .ok (.iload_n 1, 1) := by decide +kernel
theorem dX11_clearRow_3 : decode cX11_clearRow 3 = .ok (.aload_n 0, 1) := by decide +kernel
theorem dX11_clearRow_4 : decode cX11_clearRow 4 = .ok (.arraylength, 1) := by decide +kernel
theorem dX11_clearRow_5 : decode cX11_clearRow 5 = .ok (.if_icmp .ge 13, 3) := by decide +kernel
theorem dX11_clearRow_8 : decode cX11_clearRow 8 = .ok (.aload_n 0, 1) := by decide +kernel
theorem dX11_clearRow_9 : decode cX11_clearRow 9 = .ok (.iload_n 1, 1) := by decide +kernel
theorem dX11_clearRow_10 : decode cX11_clearRow 10 = .ok (.iconst 0, 1) := by decide +kernel
theorem dX11_clearRow_11 : decode cX11_clearRow 11 = .ok (.iastore, 1) := by decide +kernel
theorem dX11_clearRow_12 : decode cX11_clearRow 12 = .ok (.iinc 1 1, 3) := by decide +kernel
theorem dX11_clearRow_15 : decode cX11_clearRow 15 = .ok (.goto (-13), 3) := by decide +kernel
theorem dX11_clearRow_18 : decode cX11_clearRow 18 = .ok (.return_, 1) := by decide +kernel
theorem dX11_keywordText_0 : decode cX11_keywordText 0 = .ok (.iload_n 0, 1) := by decide +kernel
theorem dX11_keywordText_1 : decode cX11_keywordText 1 = .ok (.tableswitch 111 0 11 #[63, 67, 71, 75, 79, 83, 87, 91, 95, 99, 103, 107], 63) := by decide +kernel
theorem dX11_keywordText_64 : decode cX11_keywordText 64 = .ok (.ldc_w 328, 3) := by decide +kernel
theorem dX11_keywordText_67 : decode cX11_keywordText 67 = .ok (.areturn, 1) := by decide +kernel
theorem dX11_keywordText_68 : decode cX11_keywordText 68 = .ok (.ldc_w 329, 3) := by decide +kernel
theorem dX11_keywordText_71 : decode cX11_keywordText 71 = .ok (.areturn, 1) := by decide +kernel
theorem dX11_keywordText_72 : decode cX11_keywordText 72 = .ok (.ldc_w 330, 3) := by decide +kernel
theorem dX11_keywordText_75 : decode cX11_keywordText 75 = .ok (.areturn, 1) := by decide +kernel
theorem dX11_keywordText_76 : decode cX11_keywordText 76 = .ok (.ldc_w 331, 3) := by decide +kernel
theorem dX11_keywordText_79 : decode cX11_keywordText 79 = .ok (.areturn, 1) := by decide +kernel
theorem dX11_keywordText_80 : decode cX11_keywordText 80 = .ok (.ldc_w 332, 3) := by decide +kernel
theorem dX11_keywordText_83 : decode cX11_keywordText 83 = .ok (.areturn, 1) := by decide +kernel
theorem dX11_keywordText_84 : decode cX11_keywordText 84 = .ok (.ldc_w 333, 3) := by decide +kernel
theorem dX11_keywordText_87 : decode cX11_keywordText 87 = .ok (.areturn, 1) := by decide +kernel
theorem dX11_keywordText_88 : decode cX11_keywordText 88 = .ok (.ldc_w 334, 3) := by decide +kernel
theorem dX11_keywordText_91 : decode cX11_keywordText 91 = .ok (.areturn, 1) := by decide +kernel
theorem dX11_keywordText_92 : decode cX11_keywordText 92 = .ok (.ldc_w 335, 3) := by decide +kernel
theorem dX11_keywordText_95 : decode cX11_keywordText 95 = .ok (.areturn, 1) := by decide +kernel
theorem dX11_keywordText_96 : decode cX11_keywordText 96 = .ok (.ldc_w 337, 3) := by decide +kernel
theorem dX11_keywordText_99 : decode cX11_keywordText 99 = .ok (.areturn, 1) := by decide +kernel
theorem dX11_keywordText_100 : decode cX11_keywordText 100 = .ok (.ldc_w 339, 3) := by decide +kernel
theorem dX11_keywordText_103 : decode cX11_keywordText 103 = .ok (.areturn, 1) := by decide +kernel
theorem dX11_keywordText_104 : decode cX11_keywordText 104 = .ok (.ldc_w 341, 3) := by decide +kernel
theorem dX11_keywordText_107 : decode cX11_keywordText 107 = .ok (.areturn, 1) := by decide +kernel
theorem dX11_keywordText_108 : decode cX11_keywordText 108 = .ok (.ldc_w 343, 3) := by decide +kernel
theorem dX11_keywordText_111 : decode cX11_keywordText 111 = .ok (.areturn, 1) := by decide +kernel
theorem dX11_keywordText_112 : decode cX11_keywordText 112 = .ok (.ldc_w 345, 3) := by decide +kernel
theorem dX11_keywordText_115 : decode cX11_keywordText 115 = .ok (.areturn, 1) := by decide +kernel
theorem dX11_withLetter_0 : decode cX11_withLetter 0 = .ok (.iload_n 2, 1) := by decide +kernel
theorem dX11_withLetter_1 : decode cX11_withLetter 1 = .ok (.bipush 8, 2) := by decide +kernel
theorem dX11_withLetter_3 : decode cX11_withLetter 3 = .ok (.if_icmp .ge 22, 3) := by decide +kernel
theorem dX11_withLetter_6 : decode cX11_withLetter 6 = .ok (.lload_n 0, 1) := by decide +kernel
theorem dX11_withLetter_7 : decode cX11_withLetter 7 = .ok (.iload_n 3, 1) := by decide +kernel
theorem dX11_withLetter_8 : decode cX11_withLetter 8 = .ok (.bipush 97, 2) := by decide +kernel
theorem dX11_withLetter_10 : decode cX11_withLetter 10 = .ok (.isub, 1) := by decide +kernel
theorem dX11_withLetter_11 : decode cX11_withLetter 11 = .ok (.iconst 1, 1) := by decide +kernel
theorem dX11_withLetter_12 : decode cX11_withLetter 12 = .ok (.iadd, 1) := by decide +kernel
theorem dX11_withLetter_13 : decode cX11_withLetter 13 = .ok (.i2l, 1) := by decide +kernel
theorem dX11_withLetter_14 : decode cX11_withLetter 14 = .ok (.iconst 5, 1) := by decide +kernel
theorem dX11_withLetter_15 : decode cX11_withLetter 15 = .ok (.bipush 7, 2) := by decide +kernel
theorem dX11_withLetter_17 : decode cX11_withLetter 17 = .ok (.iload_n 2, 1) := by decide +kernel
theorem dX11_withLetter_18 : decode cX11_withLetter 18 = .ok (.isub, 1) := by decide +kernel
theorem dX11_withLetter_19 : decode cX11_withLetter 19 = .ok (.imul, 1) := by decide +kernel
theorem dX11_withLetter_20 : decode cX11_withLetter 20 = .ok (.lshl, 1) := by decide +kernel
theorem dX11_withLetter_21 : decode cX11_withLetter 21 = .ok (.lor, 1) := by decide +kernel
theorem dX11_withLetter_22 : decode cX11_withLetter 22 = .ok (.goto 4, 3) := by decide +kernel
theorem dX11_withLetter_25 : decode cX11_withLetter 25 = .ok (.lload_n 0, 1) := by decide +kernel
theorem dX11_withLetter_26 : decode cX11_withLetter 26 = .ok (.lreturn, 1) := by decide +kernel
theorem dX11_letterOf_0 : decode cX11_letterOf 0 = .ok (.iload_n 2, 1) := by decide +kernel
theorem dX11_letterOf_1 : decode cX11_letterOf 1 = .ok (.bipush 8, 2) := by decide +kernel
theorem dX11_letterOf_3 : decode cX11_letterOf 3 = .ok (.if_icmp .ge 18, 3) := by decide +kernel
theorem dX11_letterOf_6 : decode cX11_letterOf 6 = .ok (.lload_n 0, 1) := by decide +kernel
theorem dX11_letterOf_7 : decode cX11_letterOf 7 = .ok (.iconst 5, 1) := by decide +kernel
theorem dX11_letterOf_8 : decode cX11_letterOf 8 = .ok (.bipush 7, 2) := by decide +kernel
theorem dX11_letterOf_10 : decode cX11_letterOf 10 = .ok (.iload_n 2, 1) := by decide +kernel
theorem dX11_letterOf_11 : decode cX11_letterOf 11 = .ok (.isub, 1) := by decide +kernel
theorem dX11_letterOf_12 : decode cX11_letterOf 12 = .ok (.imul, 1) := by decide +kernel
theorem dX11_letterOf_13 : decode cX11_letterOf 13 = .ok (.lshr, 1) := by decide +kernel
theorem dX11_letterOf_14 : decode cX11_letterOf 14 = .ok (.l2i, 1) := by decide +kernel
theorem dX11_letterOf_15 : decode cX11_letterOf 15 = .ok (.bipush 31, 2) := by decide +kernel
theorem dX11_letterOf_17 : decode cX11_letterOf 17 = .ok (.iand, 1) := by decide +kernel
theorem dX11_letterOf_18 : decode cX11_letterOf 18 = .ok (.goto 4, 3) := by decide +kernel
theorem dX11_letterOf_21 : decode cX11_letterOf 21 = .ok (.iconst 0, 1) := by decide +kernel
theorem dX11_letterOf_22 : decode cX11_letterOf 22 = .ok (.ireturn, 1) := by decide +kernel
theorem dX11_keywordOf_0 : decode cX11_keywordOf 0 = .ok (.iconst 0, 1) := by decide +kernel
theorem dX11_keywordOf_1 : decode cX11_keywordOf 1 = .ok (.istore_n 2, 1) := by decide +kernel
theorem dX11_keywordOf_2 : decode cX11_keywordOf 2 = .ok (.iload_n 2, 1) := by decide +kernel
theorem dX11_keywordOf_3 : decode cX11_keywordOf 3 = .ok (.bipush 12, 2) := by decide +kernel
theorem dX11_keywordOf_5 : decode cX11_keywordOf 5 = .ok (.if_icmp .ge 59, 3) := by decide +kernel
theorem dX11_keywordOf_8 : decode cX11_keywordOf 8 = .ok (.iload_n 2, 1) := by decide +kernel
theorem dX11_keywordOf_9 : decode cX11_keywordOf 9 = .ok (.invokestatic 347, 3) := by decide +kernel
theorem dX11_keywordOf_12 : decode cX11_keywordOf 12 = .ok (.astore_n 3, 1) := by decide +kernel
theorem dX11_keywordOf_13 : decode cX11_keywordOf 13 = .ok (.lconst 0, 1) := by decide +kernel
theorem dX11_keywordOf_14 : decode cX11_keywordOf 14 = .ok (.lstore 4, 2) := by decide +kernel
theorem dX11_keywordOf_16 : decode cX11_keywordOf 16 = .ok (.iconst 0, 1) := by decide +kernel
theorem dX11_keywordOf_17 : decode cX11_keywordOf 17 = .ok (.istore 6, 2) := by decide +kernel
theorem dX11_keywordOf_19 : decode cX11_keywordOf 19 = .ok (.iload 6, 2) := by decide +kernel
theorem dX11_keywordOf_21 : decode cX11_keywordOf 21 = .ok (.aload_n 3, 1) := by decide +kernel
theorem dX11_keywordOf_22 : decode cX11_keywordOf 22 = .ok (.invokevirtual 351, 3) := by decide +kernel
theorem dX11_keywordOf_25 : decode cX11_keywordOf 25 = .ok (.if_icmp .ge 24, 3) := by decide +kernel
theorem dX11_keywordOf_28 : decode cX11_keywordOf 28 = .ok (.lload 4, 2) := by decide +kernel
theorem dX11_keywordOf_30 : decode cX11_keywordOf 30 = .ok (.iload 6, 2) := by decide +kernel
theorem dX11_keywordOf_32 : decode cX11_keywordOf 32 = .ok (.aload_n 3, 1) := by decide +kernel
theorem dX11_keywordOf_33 : decode cX11_keywordOf 33 = .ok (.iload 6, 2) := by decide +kernel
theorem dX11_keywordOf_35 : decode cX11_keywordOf 35 = .ok (.invokevirtual 356, 3) := by decide +kernel
theorem dX11_keywordOf_38 : decode cX11_keywordOf 38 = .ok (.invokestatic 360, 3) := by decide +kernel
theorem dX11_keywordOf_41 : decode cX11_keywordOf 41 = .ok (.lstore 4, 2) := by decide +kernel
theorem dX11_keywordOf_43 : decode cX11_keywordOf 43 = .ok (.iinc 6 1, 3) := by decide +kernel
theorem dX11_keywordOf_46 : decode cX11_keywordOf 46 = .ok (.goto (-27), 3) := by decide +kernel
theorem dX11_keywordOf_49 : decode cX11_keywordOf 49 = .ok (.lload 4, 2) := by decide +kernel
theorem dX11_keywordOf_51 : decode cX11_keywordOf 51 = .ok (.lload_n 0, 1) := by decide +kernel
theorem dX11_keywordOf_52 : decode cX11_keywordOf 52 = .ok (.lcmp, 1) := by decide +kernel
theorem dX11_keywordOf_53 : decode cX11_keywordOf 53 = .ok (.ifCond .ne 5, 3) := by decide +kernel
theorem dX11_keywordOf_56 : decode cX11_keywordOf 56 = .ok (.iload_n 2, 1) := by decide +kernel
theorem dX11_keywordOf_57 : decode cX11_keywordOf 57 = .ok (.ireturn, 1) := by decide +kernel
theorem dX11_keywordOf_58 : decode cX11_keywordOf 58 = .ok (.iinc 2 1, 3) := by decide +kernel
theorem dX11_keywordOf_61 : decode cX11_keywordOf 61 = .ok (.goto (-59), 3) := by decide +kernel
theorem dX11_keywordOf_64 : decode cX11_keywordOf 64 = .ok (.iconst (-1), 1) := by decide +kernel
theorem dX11_keywordOf_65 : decode cX11_keywordOf 65 = .ok (.ireturn, 1) := by decide +kernel
theorem dX12_init_0 : decode cX12_init 0 = .ok (.aload_n 0, 1) := by decide +kernel
theorem dX12_init_1 : decode cX12_init 1 = .ok (.invokespecial 1, 3) := by decide +kernel
theorem dX12_init_4 : decode cX12_init 4 = .ok (.aload_n 0, 1) := by decide +kernel
theorem dX12_init_5 : decode cX12_init 5 = .ok (.bipush 6, 2) := by decide +kernel
theorem dX12_init_7 : decode cX12_init 7 = .ok (.newarray .int, 2) := by decide +kernel
theorem dX12_init_9 : decode cX12_init 9 = .ok (.putfield 7, 3) := by decide +kernel
theorem dX12_init_12 : decode cX12_init 12 = .ok (.aload_n 0, 1) := by decide +kernel
theorem dX12_init_13 : decode cX12_init 13 = .ok (.bipush 6, 2) := by decide +kernel
theorem dX12_init_15 : decode cX12_init 15 = .ok (.newarray .int, 2) := by decide +kernel
theorem dX12_init_17 : decode cX12_init 17 = .ok (.putfield 13, 3) := by decide +kernel
theorem dX12_init_20 : decode cX12_init 20 = .ok (.aload_n 0, 1) := by decide +kernel
theorem dX12_init_21 : decode cX12_init 21 = .ok (.bipush 6, 2) := by decide +kernel
theorem dX12_init_23 : decode cX12_init 23 = .ok (.newarray .int, 2) := by decide +kernel
theorem dX12_init_25 : decode cX12_init 25 = .ok (.putfield 16, 3) := by decide +kernel
theorem dX12_init_28 : decode cX12_init 28 = .ok (.aload_n 0, 1) := by decide +kernel
theorem dX12_init_29 : decode cX12_init 29 = .ok (.bipush 6, 2) := by decide +kernel
theorem dX12_init_31 : decode cX12_init 31 = .ok (.newarray .int, 2) := by decide +kernel
theorem dX12_init_33 : decode cX12_init 33 = .ok (.putfield 19, 3) := by decide +kernel
theorem dX12_init_36 : decode cX12_init 36 = .ok (.aload_n 0, 1) := by decide +kernel
theorem dX12_init_37 : decode cX12_init 37 = .ok (.bipush 6, 2) := by decide +kernel
theorem dX12_init_39 : decode cX12_init 39 = .ok (.newarray .int, 2) := by decide +kernel
theorem dX12_init_41 : decode cX12_init 41 = .ok (.putfield 22, 3) := by decide +kernel
theorem dX12_init_44 : decode cX12_init 44 = .ok (.aload_n 0, 1) := by decide +kernel
theorem dX12_init_45 : decode cX12_init 45 = .ok (.bipush 6, 2) := by decide +kernel
theorem dX12_init_47 : decode cX12_init 47 = .ok (.newarray .int, 2) := by decide +kernel
theorem dX12_init_49 : decode cX12_init 49 = .ok (.putfield 25, 3) := by decide +kernel
theorem dX12_init_52 : decode cX12_init 52 = .ok (.aload_n 0, 1) := by decide +kernel
theorem dX12_init_53 : decode cX12_init 53 = .ok (.bipush 6, 2) := by decide +kernel
theorem dX12_init_55 : decode cX12_init 55 = .ok (.newarray .int, 2) := by decide +kernel
theorem dX12_init_57 : decode cX12_init 57 = .ok (.putfield 28, 3) := by decide +kernel
theorem dX12_init_60 : decode cX12_init 60 = .ok (.aload_n 0, 1) := by decide +kernel
theorem dX12_init_61 : decode cX12_init 61 = .ok (.bipush 6, 2) := by decide +kernel
theorem dX12_init_63 : decode cX12_init 63 = .ok (.newarray .boolean, 2) := by decide +kernel
theorem dX12_init_65 : decode cX12_init 65 = .ok (.putfield 31, 3) := by decide +kernel
theorem dX12_init_68 : decode cX12_init 68 = .ok (.aload_n 0, 1) := by decide +kernel
theorem dX12_init_69 : decode cX12_init 69 = .ok (.bipush 6, 2) := by decide +kernel
theorem dX12_init_71 : decode cX12_init 71 = .ok (.newarray .int, 2) := by decide +kernel
theorem dX12_init_73 : decode cX12_init 73 = .ok (.putfield 35, 3) := by decide +kernel
theorem dX12_init_76 : decode cX12_init 76 = .ok (.aload_n 0, 1) := by decide +kernel
theorem dX12_init_77 : decode cX12_init 77 = .ok (.bipush 6, 2) := by decide +kernel
theorem dX12_init_79 : decode cX12_init 79 = .ok (.newarray .int, 2) := by decide +kernel
theorem dX12_init_81 : decode cX12_init 81 = .ok (.putfield 38, 3) := by decide +kernel
theorem dX12_init_84 : decode cX12_init 84 = .ok (.aload_n 0, 1) := by decide +kernel
theorem dX12_init_85 : decode cX12_init 85 = .ok (.bipush 6, 2) := by decide +kernel
theorem dX12_init_87 : decode cX12_init 87 = .ok (.newarray .int, 2) := by decide +kernel
theorem dX12_init_89 : decode cX12_init 89 = .ok (.putfield 41, 3) := by decide +kernel
theorem dX12_init_92 : decode cX12_init 92 = .ok (.aload_n 0, 1) := by decide +kernel
theorem dX12_init_93 : decode cX12_init 93 = .ok (.bipush 6, 2) := by decide +kernel
theorem dX12_init_95 : decode cX12_init 95 = .ok (.newarray .int, 2) := by decide +kernel
theorem dX12_init_97 : decode cX12_init 97 = .ok (.putfield 44, 3) := by decide +kernel
theorem dX12_init_100 : decode cX12_init 100 = .ok (.aload_n 0, 1) := by decide +kernel
theorem dX12_init_101 : decode cX12_init 101 = .ok (.bipush 6, 2) := by decide +kernel
theorem dX12_init_103 : decode cX12_init 103 = .ok (.newarray .int, 2) := by decide +kernel
theorem dX12_init_105 : decode cX12_init 105 = .ok (.putfield 47, 3) := by decide +kernel
theorem dX12_init_108 : decode cX12_init 108 = .ok (.aload_n 0, 1) := by decide +kernel
theorem dX12_init_109 : decode cX12_init 109 = .ok (.bipush 6, 2) := by decide +kernel
theorem dX12_init_111 : decode cX12_init 111 = .ok (.newarray .int, 2) := by decide +kernel
theorem dX12_init_113 : decode cX12_init 113 = .ok (.putfield 50, 3) := by decide +kernel
theorem dX12_init_116 : decode cX12_init 116 = .ok (.aload_n 0, 1) := by decide +kernel
theorem dX12_init_117 : decode cX12_init 117 = .ok (.bipush 6, 2) := by decide +kernel
theorem dX12_init_119 : decode cX12_init 119 = .ok (.newarray .int, 2) := by decide +kernel
theorem dX12_init_121 : decode cX12_init 121 = .ok (.putfield 53, 3) := by decide +kernel
theorem dX12_init_124 : decode cX12_init 124 = .ok (.aload_n 0, 1) := by decide +kernel
theorem dX12_init_125 : decode cX12_init 125 = .ok (.bipush 6, 2) := by decide +kernel
theorem dX12_init_127 : decode cX12_init 127 = .ok (.newarray .int, 2) := by decide +kernel
theorem dX12_init_129 : decode cX12_init 129 = .ok (.putfield 56, 3) := by decide +kernel
theorem dX12_init_132 : decode cX12_init 132 = .ok (.aload_n 0, 1) := by decide +kernel
theorem dX12_init_133 : decode cX12_init 133 = .ok (.new 59, 3) := by decide +kernel
theorem dX12_init_136 : decode cX12_init 136 = .ok (.dup, 1) := by decide +kernel
theorem dX12_init_137 : decode cX12_init 137 = .ok (.invokespecial 61, 3) := by decide +kernel
theorem dX12_init_140 : decode cX12_init 140 = .ok (.putfield 62, 3) := by decide +kernel
theorem dX12_init_143 : decode cX12_init 143 = .ok (.aload_n 0, 1) := by decide +kernel
theorem dX12_init_144 : decode cX12_init 144 = .ok (.iconst 1, 1) := by decide +kernel
theorem dX12_init_145 : decode cX12_init 145 = .ok (.aload_n 1, 1) := by decide +kernel
theorem dX12_init_146 : decode cX12_init 146 = .ok (.bipush 6, 2) := by decide +kernel
theorem dX12_init_148 : decode cX12_init 148 = .ok (.invokestatic 66, 3) := by decide +kernel
theorem dX12_init_151 : decode cX12_init 151 = .ok (.iadd, 1) := by decide +kernel
theorem dX12_init_152 : decode cX12_init 152 = .ok (.putfield 72, 3) := by decide +kernel
theorem dX12_init_155 : decode cX12_init 155 = .ok (.aload_n 0, 1) := by decide +kernel
theorem dX12_init_156 : decode cX12_init 156 = .ok (.aload_n 1, 1) := by decide +kernel
theorem dX12_init_157 : decode cX12_init 157 = .ok (.bipush 6, 2) := by decide +kernel
theorem dX12_init_159 : decode cX12_init 159 = .ok (.invokestatic 66, 3) := by decide +kernel
theorem dX12_init_162 : decode cX12_init 162 = .ok (.putfield 76, 3) := by decide +kernel
theorem dX12_init_165 : decode cX12_init 165 = .ok (.aload_n 0, 1) := by decide +kernel
theorem dX12_init_166 : decode cX12_init 166 = .ok (.aload_n 1, 1) := by decide +kernel
theorem dX12_init_167 : decode cX12_init 167 = .ok (.iconst 3, 1) := by decide +kernel
theorem dX12_init_168 : decode cX12_init 168 = .ok (.invokestatic 66, 3) := by decide +kernel
theorem dX12_init_171 : decode cX12_init 171 = .ok (.ifCond .ne 14, 3) := by decide +kernel
theorem dX12_init_174 : decode cX12_init 174 = .ok (.iconst 2, 1) := by decide +kernel
theorem dX12_init_175 : decode cX12_init 175 = .ok (.aload_n 1, 1) := by decide +kernel
theorem dX12_init_176 : decode cX12_init 176 = .ok (.bipush 6, 2) := by decide +kernel
theorem dX12_init_178 : decode cX12_init 178 = .ok (.invokestatic 66, 3) := by decide +kernel
theorem dX12_init_181 : decode cX12_init 181 = .ok (.iadd, 1) := by decide +kernel
theorem dX12_init_182 : decode cX12_init 182 = .ok (.goto 4, 3) := by decide +kernel
theorem dX12_init_185 : decode cX12_init 185 = .ok (.iconst (-1), 1) := by decide +kernel
theorem dX12_init_186 : decode cX12_init 186 = .ok (.putfield 79, 3) := by decide +kernel
theorem dX12_init_189 : decode cX12_init 189 = .ok (.aload_n 0, 1) := by decide +kernel
theorem dX12_init_190 : decode cX12_init 190 = .ok (.aload_n 1, 1) := by decide +kernel
theorem dX12_init_191 : decode cX12_init 191 = .ok (.iconst 2, 1) := by decide +kernel
theorem dX12_init_192 : decode cX12_init 192 = .ok (.invokestatic 66, 3) := by decide +kernel
theorem dX12_init_195 : decode cX12_init 195 = .ok (.ifCond .ne 14, 3) := by decide +kernel
theorem dX12_init_198 : decode cX12_init 198 = .ok (.iconst 1, 1) := by decide +kernel
theorem dX12_init_199 : decode cX12_init 199 = .ok (.aload_n 1, 1) := by decide +kernel
theorem dX12_init_200 : decode cX12_init 200 = .ok (.bipush 9, 2) := by decide +kernel
theorem dX12_init_202 : decode cX12_init 202 = .ok (.invokestatic 66, 3) := by decide +kernel
theorem dX12_init_205 : decode cX12_init 205 = .ok (.iadd, 1) := by decide +kernel
theorem dX12_init_206 : decode cX12_init 206 = .ok (.goto 4, 3) := by decide +kernel
theorem dX12_init_209 : decode cX12_init 209 = .ok (.iconst 0, 1) := by decide +kernel
theorem dX12_init_210 : decode cX12_init 210 = .ok (.putfield 82, 3) := by decide +kernel
theorem dX12_init_213 : decode cX12_init 213 = .ok (.aload_n 0, 1) := by decide +kernel
theorem dX12_init_214 : decode cX12_init 214 = .ok (.aload_n 1, 1) := by decide +kernel
theorem dX12_init_215 : decode cX12_init 215 = .ok (.aload_n 0, 1) := by decide +kernel
theorem dX12_init_216 : decode cX12_init 216 = .ok (.getfield 72, 3) := by decide +kernel
theorem dX12_init_219 : decode cX12_init 219 = .ok (.invokestatic 66, 3) := by decide +kernel
theorem dX12_init_222 : decode cX12_init 222 = .ok (.putfield 85, 3) := by decide +kernel
theorem dX12_init_225 : decode cX12_init 225 = .ok (.aload_n 0, 1) := by decide +kernel
theorem dX12_init_226 : decode cX12_init 226 = .ok (.aload_n 1, 1) := by decide +kernel
theorem dX12_init_227 : decode cX12_init 227 = .ok (.bipush 12, 2) := by decide +kernel
theorem dX12_init_229 : decode cX12_init 229 = .ok (.invokestatic 66, 3) := by decide +kernel
theorem dX12_init_232 : decode cX12_init 232 = .ok (.putfield 88, 3) := by decide +kernel
theorem dX12_init_235 : decode cX12_init 235 = .ok (.iconst 0, 1) := by decide +kernel
theorem dX12_init_236 : decode cX12_init 236 = .ok (.istore_n 2, 1) := by decide +kernel
theorem dX12_init_237 : decode cX12_init 237 = .ok (.iload_n 2, 1) := by decide +kernel
theorem dX12_init_238 : decode cX12_init 238 = .ok (.aload_n 0, 1) := by decide +kernel
theorem dX12_init_239 : decode cX12_init 239 = .ok (.getfield 72, 3) := by decide +kernel
theorem dX12_init_242 : decode cX12_init 242 = .ok (.if_icmp .ge 161, 3) := by decide +kernel
theorem dX12_init_245 : decode cX12_init 245 = .ok (.aload_n 0, 1) := by decide +kernel
theorem dX12_init_246 : decode cX12_init 246 = .ok (.getfield 7, 3) := by decide +kernel
theorem dX12_init_249 : decode cX12_init 249 = .ok (.iload_n 2, 1) := by decide +kernel
theorem dX12_init_250 : decode cX12_init 250 = .ok (.iload_n 2, 1) := by decide +kernel
theorem dX12_init_251 : decode cX12_init 251 = .ok (.ifCond .ne 8, 3) := by decide +kernel
theorem dX12_init_254 : decode cX12_init 254 = .ok (.bipush (-2), 2) := by decide +kernel
theorem dX12_init_256 : decode cX12_init 256 = .ok (.goto 8, 3) := by decide +kernel
theorem dX12_init_259 : decode cX12_init 259 = .ok (.aload_n 1, 1) := by decide +kernel
theorem dX12_init_260 : decode cX12_init 260 = .ok (.iload_n 2, 1) := by decide +kernel
theorem dX12_init_261 : decode cX12_init 261 = .ok (.invokestatic 66, 3) := by decide +kernel
theorem dX12_init_264 : decode cX12_init 264 = .ok (.iastore, 1) := by decide +kernel
theorem dX12_init_265 : decode cX12_init 265 = .ok (.aload_n 0, 1) := by decide +kernel
theorem dX12_init_266 : decode cX12_init 266 = .ok (.getfield 13, 3) := by decide +kernel
theorem dX12_init_269 : decode cX12_init 269 = .ok (.iload_n 2, 1) := by decide +kernel
theorem dX12_init_270 : decode cX12_init 270 = .ok (.aload_n 1, 1) := by decide +kernel
theorem dX12_init_271 : decode cX12_init 271 = .ok (.bipush 7, 2) := by decide +kernel
theorem dX12_init_273 : decode cX12_init 273 = .ok (.invokestatic 66, 3) := by decide +kernel
theorem dX12_init_276 : decode cX12_init 276 = .ok (.iastore, 1) := by decide +kernel
theorem dX12_init_277 : decode cX12_init 277 = .ok (.aload_n 0, 1) := by decide +kernel
theorem dX12_init_278 : decode cX12_init 278 = .ok (.getfield 16, 3) := by decide +kernel
theorem dX12_init_281 : decode cX12_init 281 = .ok (.iload_n 2, 1) := by decide +kernel
theorem dX12_init_282 : decode cX12_init 282 = .ok (.aload_n 1, 1) := by decide +kernel
theorem dX12_init_283 : decode cX12_init 283 = .ok (.bipush 12, 2) := by decide +kernel
theorem dX12_init_285 : decode cX12_init 285 = .ok (.invokestatic 66, 3) := by decide +kernel
theorem dX12_init_288 : decode cX12_init 288 = .ok (.iastore, 1) := by decide +kernel
theorem dX12_init_289 : decode cX12_init 289 = .ok (.aload_n 0, 1) := by decide +kernel
theorem dX12_init_290 : decode cX12_init 290 = .ok (.getfield 19, 3) := by decide +kernel
theorem dX12_init_293 : decode cX12_init 293 = .ok (.iload_n 2, 1) := by decide +kernel
theorem dX12_init_294 : decode cX12_init 294 = .ok (.iconst 1, 1) := by decide +kernel
theorem dX12_init_295 : decode cX12_init 295 = .ok (.aload_n 1, 1) := by decide +kernel
theorem dX12_init_296 : decode cX12_init 296 = .ok (.bipush 20, 2) := by decide +kernel
theorem dX12_init_298 : decode cX12_init 298 = .ok (.invokestatic 66, 3) := by decide +kernel
theorem dX12_init_301 : decode cX12_init 301 = .ok (.iadd, 1) := by decide +kernel
theorem dX12_init_302 : decode cX12_init 302 = .ok (.iastore, 1) := by decide +kernel
theorem dX12_init_303 : decode cX12_init 303 = .ok (.aload_n 0, 1) := by decide +kernel
theorem dX12_init_304 : decode cX12_init 304 = .ok (.getfield 22, 3) := by decide +kernel
theorem dX12_init_307 : decode cX12_init 307 = .ok (.iload_n 2, 1) := by decide +kernel
theorem dX12_init_308 : decode cX12_init 308 = .ok (.aload_n 1, 1) := by decide +kernel
theorem dX12_init_309 : decode cX12_init 309 = .ok (.bipush 9, 2) := by decide +kernel
theorem dX12_init_311 : decode cX12_init 311 = .ok (.invokestatic 66, 3) := by decide +kernel
theorem dX12_init_314 : decode cX12_init 314 = .ok (.iastore, 1) := by decide +kernel
theorem dX12_init_315 : decode cX12_init 315 = .ok (.aload_n 0, 1) := by decide +kernel
theorem dX12_init_316 : decode cX12_init 316 = .ok (.getfield 25, 3) := by decide +kernel
theorem dX12_init_319 : decode cX12_init 319 = .ok (.iload_n 2, 1) := by decide +kernel
theorem dX12_init_320 : decode cX12_init 320 = .ok (.iconst 1, 1) := by decide +kernel
theorem dX12_init_321 : decode cX12_init 321 = .ok (.aload_n 1, 1) := by decide +kernel
theorem dX12_init_322 : decode cX12_init 322 = .ok (.iconst 3, 1) := by decide +kernel
theorem dX12_init_323 : decode cX12_init 323 = .ok (.invokestatic 66, 3) := by decide +kernel
theorem dX12_init_326 : decode cX12_init 326 = .ok (.iadd, 1) := by decide +kernel
theorem dX12_init_327 : decode cX12_init 327 = .ok (.iastore, 1) := by decide +kernel
theorem dX12_init_328 : decode cX12_init 328 = .ok (.aload_n 0, 1) := by decide +kernel
theorem dX12_init_329 : decode cX12_init 329 = .ok (.getfield 28, 3) := by decide +kernel
theorem dX12_init_332 : decode cX12_init 332 = .ok (.iload_n 2, 1) := by decide +kernel
theorem dX12_init_333 : decode cX12_init 333 = .ok (.aload_n 1, 1) := by decide +kernel
theorem dX12_init_334 : decode cX12_init 334 = .ok (.iconst 2, 1) := by decide +kernel
theorem dX12_init_335 : decode cX12_init 335 = .ok (.invokestatic 66, 3) := by decide +kernel
theorem dX12_init_338 : decode cX12_init 338 = .ok (.iastore, 1) := by decide +kernel
theorem dX12_init_339 : decode cX12_init 339 = .ok (.aload_n 0, 1) := by decide +kernel
theorem dX12_init_340 : decode cX12_init 340 = .ok (.getfield 31, 3) := by decide +kernel
theorem dX12_init_343 : decode cX12_init 343 = .ok (.iload_n 2, 1) := by decide +kernel
theorem dX12_init_344 : decode cX12_init 344 = .ok (.aload_n 1, 1) := by decide +kernel
theorem dX12_init_345 : decode cX12_init 345 = .ok (.iconst 5, 1) := by decide +kernel
theorem dX12_init_346 : decode cX12_init 346 = .ok (.invokestatic 66, 3) := by decide +kernel
theorem dX12_init_349 : decode cX12_init 349 = .ok (.ifCond .ne 7, 3) := by decide +kernel
theorem dX12_init_352 : decode cX12_init 352 = .ok (.iconst 1, 1) := by decide +kernel
theorem dX12_init_353 : decode cX12_init 353 = .ok (.goto 4, 3) := by decide +kernel
theorem dX12_init_356 : decode cX12_init 356 = .ok (.iconst 0, 1) := by decide +kernel
theorem dX12_init_357 : decode cX12_init 357 = .ok (.bastore, 1) := by decide +kernel
theorem dX12_init_358 : decode cX12_init 358 = .ok (.aload_n 0, 1) := by decide +kernel
theorem dX12_init_359 : decode cX12_init 359 = .ok (.getfield 35, 3) := by decide +kernel
theorem dX12_init_362 : decode cX12_init 362 = .ok (.iload_n 2, 1) := by decide +kernel
theorem dX12_init_363 : decode cX12_init 363 = .ok (.aload_n 0, 1) := by decide +kernel
theorem dX12_init_364 : decode cX12_init 364 = .ok (.getfield 19, 3) := by decide +kernel
theorem dX12_init_367 : decode cX12_init 367 = .ok (.iload_n 2, 1) := by decide +kernel
theorem dX12_init_368 : decode cX12_init 368 = .ok (.iaload, 1) := by decide +kernel
theorem dX12_init_369 : decode cX12_init 369 = .ok (.iastore, 1) := by decide +kernel
theorem dX12_init_370 : decode cX12_init 370 = .ok (.aload_n 0, 1) := by decide +kernel
theorem dX12_init_371 : decode cX12_init 371 = .ok (.getfield 41, 3) := by decide +kernel
theorem dX12_init_374 : decode cX12_init 374 = .ok (.iload_n 2, 1) := by decide +kernel
theorem dX12_init_375 : decode cX12_init 375 = .ok (.aload_n 0, 1) := by decide +kernel
theorem dX12_init_376 : decode cX12_init 376 = .ok (.getfield 19, 3) := by decide +kernel
theorem dX12_init_379 : decode cX12_init 379 = .ok (.iload_n 2, 1) := by decide +kernel
theorem dX12_init_380 : decode cX12_init 380 = .ok (.iaload, 1) := by decide +kernel
theorem dX12_init_381 : decode cX12_init 381 = .ok (.iastore, 1) := by decide +kernel
theorem dX12_init_382 : decode cX12_init 382 = .ok (.aload_n 0, 1) := by decide +kernel
theorem dX12_init_383 : decode cX12_init 383 = .ok (.getfield 62, 3) := by decide +kernel
theorem dX12_init_386 : decode cX12_init 386 = .ok (.new 59, 3) := by decide +kernel
theorem dX12_init_389 : decode cX12_init 389 = .ok (.dup, 1) := by decide +kernel
theorem dX12_init_390 : decode cX12_init 390 = .ok (.invokespecial 61, 3) := by decide +kernel
theorem dX12_init_393 : decode cX12_init 393 = .ok (.invokevirtual 91, 3) := by decide +kernel
theorem dX12_init_396 : decode cX12_init 396 = .ok (.pop, 1) := by decide +kernel
theorem dX12_init_397 : decode cX12_init 397 = .ok (.iinc 2 1, 3) := by decide +kernel
theorem dX12_init_400 : decode cX12_init 400 = .ok (.goto (-163), 3) := by decide +kernel
theorem dX12_init_403 : decode cX12_init 403 = .ok (.return_, 1) := by decide +kernel
theorem dX12_isLeaf_0 : decode cX12_isLeaf 0 = .ok (.iconst 0, 1) := by decide +kernel
theorem dX12_isLeaf_1 : decode cX12_isLeaf 1 = .ok (.istore_n 2, 1) := by decide +kernel
theorem dX12_isLeaf_2 : decode cX12_isLeaf 2 = .ok (.iload_n 2, 1) := by decide +kernel
theorem dX12_isLeaf_3 : decode cX12_isLeaf 3 = .ok (.aload_n 0, 1) := by decide +kernel
theorem dX12_isLeaf_4 : decode cX12_isLeaf 4 = .ok (.getfield 72, 3) := by decide +kernel
theorem dX12_isLeaf_7 : decode cX12_isLeaf 7 = .ok (.if_icmp .ge 21, 3) := by decide +kernel
theorem dX12_isLeaf_10 : decode cX12_isLeaf 10 = .ok (.aload_n 0, 1) := by decide +kernel
theorem dX12_isLeaf_11 : decode cX12_isLeaf 11 = .ok (.getfield 7, 3) := by decide +kernel
theorem dX12_isLeaf_14 : decode cX12_isLeaf 14 = .ok (.iload_n 2, 1) := by decide +kernel
theorem dX12_isLeaf_15 : decode cX12_isLeaf 15 = .ok (.iaload, 1) := by decide +kernel
theorem dX12_isLeaf_16 : decode cX12_isLeaf 16 = .ok (.iload_n 1, 1) := by decide +kernel
theorem dX12_isLeaf_17 : decode cX12_isLeaf 17 = .ok (.if_icmp .ne 5, 3) := by decide +kernel
theorem dX12_isLeaf_20 : decode cX12_isLeaf 20 = .ok (.iconst 0, 1) := by decide +kernel
theorem dX12_isLeaf_21 : decode cX12_isLeaf 21 = .ok (.ireturn, 1) := by decide +kernel
theorem dX12_isLeaf_22 : decode cX12_isLeaf 22 = .ok (.iinc 2 1, 3) := by decide +kernel
theorem dX12_isLeaf_25 : decode cX12_isLeaf 25 = .ok (.goto (-23), 3) := by decide +kernel
theorem dX12_isLeaf_28 : decode cX12_isLeaf 28 = .ok (.iconst 1, 1) := by decide +kernel
theorem dX12_isLeaf_29 : decode cX12_isLeaf 29 = .ok (.ireturn, 1) := by decide +kernel
theorem dX12_steps_0 : decode cX12_steps 0 = .ok (.iload_n 1, 1) := by decide +kernel
theorem dX12_steps_1 : decode cX12_steps 1 = .ok (.iload_n 2, 1) := by decide +kernel
theorem dX12_steps_2 : decode cX12_steps 2 = .ok (.if_icmp .ne 7, 3) := by decide +kernel
theorem dX12_steps_5 : decode cX12_steps 5 = .ok (.iconst 0, 1) := by decide +kernel
theorem dX12_steps_6 : decode cX12_steps 6 = .ok (.goto 16, 3) := by decide +kernel
theorem dX12_steps_9 : decode cX12_steps 9 = .ok (.iconst 1, 1) := by decide +kernel
theorem dX12_steps_10 : decode cX12_steps 10 = .ok (.aload_n 0, 1) := by decide +kernel
theorem dX12_steps_11 : decode cX12_steps 11 = .ok (.aload_n 0, 1) := by decide +kernel
theorem dX12_steps_12 : decode cX12_steps 12 = .ok (.getfield 7, 3) := by decide +kernel
theorem dX12_steps_15 : decode cX12_steps 15 = .ok (.iload_n 1, 1) := by decide +kernel
theorem dX12_steps_16 : decode cX12_steps 16 = .ok (.iaload, 1) := by decide +kernel
theorem dX12_steps_17 : decode cX12_steps 17 = .ok (.iload_n 2, 1) := by decide +kernel
theorem dX12_steps_18 : decode cX12_steps 18 = .ok (.invokevirtual 95, 3) := by decide +kernel
theorem dX12_steps_21 : decode cX12_steps 21 = .ok (.iadd, 1) := by decide +kernel
theorem dX12_steps_22 : decode cX12_steps 22 = .ok (.ireturn, 1) := by decide +kernel
theorem dX12_lender_0 : decode cX12_lender 0 = .ok (.iload_n 1, 1) := by decide +kernel
theorem dX12_lender_1 : decode cX12_lender 1 = .ok (.istore_n 3, 1) := by decide +kernel
theorem dX12_lender_2 : decode cX12_lender 2 = .ok (.iload_n 3, 1) := by decide +kernel
theorem dX12_lender_3 : decode cX12_lender 3 = .ok (.ifCond .lt 26, 3) := by decide +kernel
theorem dX12_lender_6 : decode cX12_lender 6 = .ok (.aload_n 0, 1) := by decide +kernel
theorem dX12_lender_7 : decode cX12_lender 7 = .ok (.getfield 41, 3) := by decide +kernel
theorem dX12_lender_10 : decode cX12_lender 10 = .ok (.iload_n 3, 1) := by decide +kernel
theorem dX12_lender_11 : decode cX12_lender 11 = .ok (.iaload, 1) := by decide +kernel
theorem dX12_lender_12 : decode cX12_lender 12 = .ok (.iload_n 2, 1) := by decide +kernel
theorem dX12_lender_13 : decode cX12_lender 13 = .ok (.if_icmp .ge 6, 3) := by decide +kernel
theorem dX12_lender_16 : decode cX12_lender 16 = .ok (.bipush (-2), 2) := by decide +kernel
theorem dX12_lender_18 : decode cX12_lender 18 = .ok (.ireturn, 1) := by decide +kernel
theorem dX12_lender_19 : decode cX12_lender 19 = .ok (.aload_n 0, 1) := by decide +kernel
theorem dX12_lender_20 : decode cX12_lender 20 = .ok (.getfield 7, 3) := by decide +kernel
theorem dX12_lender_23 : decode cX12_lender 23 = .ok (.iload_n 3, 1) := by decide +kernel
theorem dX12_lender_24 : decode cX12_lender 24 = .ok (.iaload, 1) := by decide +kernel
theorem dX12_lender_25 : decode cX12_lender 25 = .ok (.istore_n 3, 1) := by decide +kernel
theorem dX12_lender_26 : decode cX12_lender 26 = .ok (.goto (-24), 3) := by decide +kernel
theorem dX12_lender_29 : decode cX12_lender 29 = .ok (.iload_n 1, 1) := by decide +kernel
theorem dX12_lender_30 : decode cX12_lender 30 = .ok (.istore_n 3, 1) := by decide +kernel
theorem dX12_lender_31 : decode cX12_lender 31 = .ok (.iload_n 3, 1) := by decide +kernel
theorem dX12_lender_32 : decode cX12_lender 32 = .ok (.ifCond .lt 44, 3) := by decide +kernel
theorem dX12_lender_35 : decode cX12_lender 35 = .ok (.aload_n 0, 1) := by decide +kernel
theorem dX12_lender_36 : decode cX12_lender 36 = .ok (.getfield 35, 3) := by decide +kernel
theorem dX12_lender_39 : decode cX12_lender 39 = .ok (.iload_n 3, 1) := by decide +kernel
theorem dX12_lender_40 : decode cX12_lender 40 = .ok (.iaload, 1) := by decide +kernel
theorem dX12_lender_41 : decode cX12_lender 41 = .ok (.aload_n 0, 1) := by decide +kernel
theorem dX12_lender_42 : decode cX12_lender 42 = .ok (.getfield 38, 3) := by decide +kernel
theorem dX12_lender_45 : decode cX12_lender 45 = .ok (.iload_n 3, 1) := by decide +kernel
theorem dX12_lender_46 : decode cX12_lender 46 = .ok (.iaload, 1) := by decide +kernel
theorem dX12_lender_47 : decode cX12_lender 47 = .ok (.iadd, 1) := by decide +kernel
theorem dX12_lender_48 : decode cX12_lender 48 = .ok (.iload_n 2, 1) := by decide +kernel
theorem dX12_lender_49 : decode cX12_lender 49 = .ok (.if_icmp .lt 5, 3) := by decide +kernel
theorem dX12_lender_52 : decode cX12_lender 52 = .ok (.iload_n 3, 1) := by decide +kernel
theorem dX12_lender_53 : decode cX12_lender 53 = .ok (.ireturn, 1) := by decide +kernel
theorem dX12_lender_54 : decode cX12_lender 54 = .ok (.aload_n 0, 1) := by decide +kernel
theorem dX12_lender_55 : decode cX12_lender 55 = .ok (.getfield 31, 3) := by decide +kernel
theorem dX12_lender_58 : decode cX12_lender 58 = .ok (.iload_n 3, 1) := by decide +kernel
theorem dX12_lender_59 : decode cX12_lender 59 = .ok (.baload, 1) := by decide +kernel
theorem dX12_lender_60 : decode cX12_lender 60 = .ok (.ifCond .eq 6, 3) := by decide +kernel
theorem dX12_lender_63 : decode cX12_lender 63 = .ok (.bipush (-2), 2) := by decide +kernel
theorem dX12_lender_65 : decode cX12_lender 65 = .ok (.ireturn, 1) := by decide +kernel
theorem dX12_lender_66 : decode cX12_lender 66 = .ok (.aload_n 0, 1) := by decide +kernel
theorem dX12_lender_67 : decode cX12_lender 67 = .ok (.getfield 7, 3) := by decide +kernel
theorem dX12_lender_70 : decode cX12_lender 70 = .ok (.iload_n 3, 1) := by decide +kernel
theorem dX12_lender_71 : decode cX12_lender 71 = .ok (.iaload, 1) := by decide +kernel
theorem dX12_lender_72 : decode cX12_lender 72 = .ok (.istore_n 3, 1) := by decide +kernel
theorem dX12_lender_73 : decode cX12_lender 73 = .ok (.goto (-42), 3) := by decide +kernel
theorem dX12_lender_76 : decode cX12_lender 76 = .ok (.bipush (-2), 2) := by decide +kernel
theorem dX12_lender_78 : decode cX12_lender 78 = .ok (.ireturn, 1) := by decide +kernel
theorem dX12_send_0 : decode cX12_send 0 = .ok (.aload_n 0, 1) := by decide +kernel
theorem dX12_send_1 : decode cX12_send 1 = .ok (.iload_n 1, 1) := by decide +kernel
theorem dX12_send_2 : decode cX12_send 2 = .ok (.iload_n 2, 1) := by decide +kernel
theorem dX12_send_3 : decode cX12_send 3 = .ok (.invokevirtual 99, 3) := by decide +kernel
theorem dX12_send_6 : decode cX12_send 6 = .ok (.istore_n 3, 1) := by decide +kernel
theorem dX12_send_7 : decode cX12_send 7 = .ok (.iload_n 1, 1) := by decide +kernel
theorem dX12_send_8 : decode cX12_send 8 = .ok (.istore 4, 2) := by decide +kernel
theorem dX12_send_10 : decode cX12_send 10 = .ok (.iload 4, 2) := by decide +kernel
theorem dX12_send_12 : decode cX12_send 12 = .ok (.ifCond .lt 26, 3) := by decide +kernel
theorem dX12_send_15 : decode cX12_send 15 = .ok (.aload_n 0, 1) := by decide +kernel
theorem dX12_send_16 : decode cX12_send 16 = .ok (.getfield 41, 3) := by decide +kernel
theorem dX12_send_19 : decode cX12_send 19 = .ok (.iload 4, 2) := by decide +kernel
theorem dX12_send_21 : decode cX12_send 21 = .ok (.dup2, 1) := by decide +kernel
theorem dX12_send_22 : decode cX12_send 22 = .ok (.iaload, 1) := by decide +kernel
theorem dX12_send_23 : decode cX12_send 23 = .ok (.iload_n 2, 1) := by decide +kernel
theorem dX12_send_24 : decode cX12_send 24 = .ok (.isub, 1) := by decide +kernel
theorem dX12_send_25 : decode cX12_send 25 = .ok (.iastore, 1) := by decide +kernel
theorem dX12_send_26 : decode cX12_send 26 = .ok (.aload_n 0, 1) := by decide +kernel
theorem dX12_send_27 : decode cX12_send 27 = .ok (.getfield 7, 3) := by decide +kernel
theorem dX12_send_30 : decode cX12_send 30 = .ok (.iload 4, 2) := by decide +kernel
theorem dX12_send_32 : decode cX12_send 32 = .ok (.iaload, 1) := by decide +kernel
theorem dX12_send_33 : decode cX12_send 33 = .ok (.istore 4, 2) := by decide +kernel
theorem dX12_send_35 : decode cX12_send 35 = .ok (.goto (-25), 3) := by decide +kernel
theorem dX12_send_38 : decode cX12_send 38 = .ok (.iload_n 2, 1) := by decide +kernel
theorem dX12_send_39 : decode cX12_send 39 = .ok (.aload_n 0, 1) := by decide +kernel
theorem dX12_send_40 : decode cX12_send 40 = .ok (.getfield 35, 3) := by decide +kernel
theorem dX12_send_43 : decode cX12_send 43 = .ok (.iload_n 3, 1) := by decide +kernel
theorem dX12_send_44 : decode cX12_send 44 = .ok (.iaload, 1) := by decide +kernel
theorem dX12_send_45 : decode cX12_send 45 = .ok (.invokestatic 102, 3) := by decide +kernel
theorem dX12_send_48 : decode cX12_send 48 = .ok (.istore 4, 2) := by decide +kernel
theorem dX12_send_50 : decode cX12_send 50 = .ok (.aload_n 0, 1) := by decide +kernel
theorem dX12_send_51 : decode cX12_send 51 = .ok (.getfield 35, 3) := by decide +kernel
theorem dX12_send_54 : decode cX12_send 54 = .ok (.iload_n 3, 1) := by decide +kernel
theorem dX12_send_55 : decode cX12_send 55 = .ok (.dup2, 1) := by decide +kernel
theorem dX12_send_56 : decode cX12_send 56 = .ok (.iaload, 1) := by decide +kernel
theorem dX12_send_57 : decode cX12_send 57 = .ok (.iload 4, 2) := by decide +kernel
theorem dX12_send_59 : decode cX12_send 59 = .ok (.isub, 1) := by decide +kernel
theorem dX12_send_60 : decode cX12_send 60 = .ok (.iastore, 1) := by decide +kernel
theorem dX12_send_61 : decode cX12_send 61 = .ok (.aload_n 0, 1) := by decide +kernel
theorem dX12_send_62 : decode cX12_send 62 = .ok (.getfield 38, 3) := by decide +kernel
theorem dX12_send_65 : decode cX12_send 65 = .ok (.iload_n 3, 1) := by decide +kernel
theorem dX12_send_66 : decode cX12_send 66 = .ok (.dup2, 1) := by decide +kernel
theorem dX12_send_67 : decode cX12_send 67 = .ok (.iaload, 1) := by decide +kernel
theorem dX12_send_68 : decode cX12_send 68 = .ok (.iload_n 2, 1) := by decide +kernel
theorem dX12_send_69 : decode cX12_send 69 = .ok (.iload 4, 2) := by decide +kernel
theorem dX12_send_71 : decode cX12_send 71 = .ok (.isub, 1) := by decide +kernel
theorem dX12_send_72 : decode cX12_send 72 = .ok (.isub, 1) := by decide +kernel
theorem dX12_send_73 : decode cX12_send 73 = .ok (.iastore, 1) := by decide +kernel
theorem dX12_send_74 : decode cX12_send 74 = .ok (.aload_n 0, 1) := by decide +kernel
theorem dX12_send_75 : decode cX12_send 75 = .ok (.getfield 7, 3) := by decide +kernel
theorem dX12_send_78 : decode cX12_send 78 = .ok (.iload_n 3, 1) := by decide +kernel
theorem dX12_send_79 : decode cX12_send 79 = .ok (.iaload, 1) := by decide +kernel
theorem dX12_send_80 : decode cX12_send 80 = .ok (.istore 5, 2) := by decide +kernel
theorem dX12_send_82 : decode cX12_send 82 = .ok (.iload 5, 2) := by decide +kernel
theorem dX12_send_84 : decode cX12_send 84 = .ok (.ifCond .lt 35, 3) := by decide +kernel
theorem dX12_send_87 : decode cX12_send 87 = .ok (.aload_n 0, 1) := by decide +kernel
theorem dX12_send_88 : decode cX12_send 88 = .ok (.getfield 35, 3) := by decide +kernel
theorem dX12_send_91 : decode cX12_send 91 = .ok (.iload 5, 2) := by decide +kernel
theorem dX12_send_93 : decode cX12_send 93 = .ok (.iconst 0, 1) := by decide +kernel
theorem dX12_send_94 : decode cX12_send 94 = .ok (.aload_n 0, 1) := by decide +kernel
theorem dX12_send_95 : decode cX12_send 95 = .ok (.getfield 35, 3) := by decide +kernel
theorem dX12_send_98 : decode cX12_send 98 = .ok (.iload 5, 2) := by decide +kernel
theorem dX12_send_100 : decode cX12_send 100 = .ok (.iaload, 1) := by decide +kernel
theorem dX12_send_101 : decode cX12_send 101 = .ok (.iload_n 2, 1) := by decide +kernel
theorem dX12_send_102 : decode cX12_send 102 = .ok (.isub, 1) := by decide +kernel
theorem dX12_send_103 : decode cX12_send 103 = .ok (.invokestatic 107, 3) := by decide +kernel
theorem dX12_send_106 : decode cX12_send 106 = .ok (.iastore, 1) := by decide +kernel
theorem dX12_send_107 : decode cX12_send 107 = .ok (.aload_n 0, 1) := by decide +kernel
theorem dX12_send_108 : decode cX12_send 108 = .ok (.getfield 7, 3) := by decide +kernel
theorem dX12_send_111 : decode cX12_send 111 = .ok (.iload 5, 2) := by decide +kernel
theorem dX12_send_113 : decode cX12_send 113 = .ok (.iaload, 1) := by decide +kernel
theorem dX12_send_114 : decode cX12_send 114 = .ok (.istore 5, 2) := by decide +kernel
theorem dX12_send_116 : decode cX12_send 116 = .ok (.goto (-34), 3) := by decide +kernel
theorem dX12_send_119 : decode cX12_send 119 = .ok (.aload_n 0, 1) := by decide +kernel
theorem dX12_send_120 : decode cX12_send 120 = .ok (.getfield 50, 3) := by decide +kernel
theorem dX12_send_123 : decode cX12_send 123 = .ok (.iload_n 1, 1) := by decide +kernel
theorem dX12_send_124 : decode cX12_send 124 = .ok (.dup2, 1) := by decide +kernel
theorem dX12_send_125 : decode cX12_send 125 = .ok (.iaload, 1) := by decide +kernel
theorem dX12_send_126 : decode cX12_send 126 = .ok (.iload_n 3, 1) := by decide +kernel
theorem dX12_send_127 : decode cX12_send 127 = .ok (.iload_n 1, 1) := by decide +kernel
theorem dX12_send_128 : decode cX12_send 128 = .ok (.if_icmp .ne 7, 3) := by decide +kernel
theorem dX12_send_131 : decode cX12_send 131 = .ok (.iconst 0, 1) := by decide +kernel
theorem dX12_send_132 : decode cX12_send 132 = .ok (.goto 4, 3) := by decide +kernel
theorem dX12_send_135 : decode cX12_send 135 = .ok (.iload_n 2, 1) := by decide +kernel
theorem dX12_send_136 : decode cX12_send 136 = .ok (.iadd, 1) := by decide +kernel
theorem dX12_send_137 : decode cX12_send 137 = .ok (.iastore, 1) := by decide +kernel
theorem dX12_send_138 : decode cX12_send 138 = .ok (.aload_n 0, 1) := by decide +kernel
theorem dX12_send_139 : decode cX12_send 139 = .ok (.getfield 53, 3) := by decide +kernel
theorem dX12_send_142 : decode cX12_send 142 = .ok (.iload_n 3, 1) := by decide +kernel
theorem dX12_send_143 : decode cX12_send 143 = .ok (.dup2, 1) := by decide +kernel
theorem dX12_send_144 : decode cX12_send 144 = .ok (.iaload, 1) := by decide +kernel
theorem dX12_send_145 : decode cX12_send 145 = .ok (.iload_n 3, 1) := by decide +kernel
theorem dX12_send_146 : decode cX12_send 146 = .ok (.iload_n 1, 1) := by decide +kernel
theorem dX12_send_147 : decode cX12_send 147 = .ok (.if_icmp .ne 7, 3) := by decide +kernel
theorem dX12_send_150 : decode cX12_send 150 = .ok (.iconst 0, 1) := by decide +kernel
theorem dX12_send_151 : decode cX12_send 151 = .ok (.goto 4, 3) := by decide +kernel
theorem dX12_send_154 : decode cX12_send 154 = .ok (.iload_n 2, 1) := by decide +kernel
theorem dX12_send_155 : decode cX12_send 155 = .ok (.iadd, 1) := by decide +kernel
theorem dX12_send_156 : decode cX12_send 156 = .ok (.iastore, 1) := by decide +kernel
theorem dX12_send_157 : decode cX12_send 157 = .ok (.aload_n 0, 1) := by decide +kernel
theorem dX12_send_158 : decode cX12_send 158 = .ok (.getfield 44, 3) := by decide +kernel
theorem dX12_send_161 : decode cX12_send 161 = .ok (.iload_n 1, 1) := by decide +kernel
theorem dX12_send_162 : decode cX12_send 162 = .ok (.dup2, 1) := by decide +kernel
theorem dX12_send_163 : decode cX12_send 163 = .ok (.iaload, 1) := by decide +kernel
theorem dX12_send_164 : decode cX12_send 164 = .ok (.iload_n 2, 1) := by decide +kernel
theorem dX12_send_165 : decode cX12_send 165 = .ok (.iadd, 1) := by decide +kernel
theorem dX12_send_166 : decode cX12_send 166 = .ok (.iastore, 1) := by decide +kernel
theorem dX12_send_167 : decode cX12_send 167 = .ok (.aload_n 0, 1) := by decide +kernel
theorem dX12_send_168 : decode cX12_send 168 = .ok (.getfield 47, 3) := by decide +kernel
theorem dX12_send_171 : decode cX12_send 171 = .ok (.iload_n 1, 1) := by decide +kernel
theorem dX12_send_172 : decode cX12_send 172 = .ok (.dup2, 1) := by decide +kernel
theorem dX12_send_173 : decode cX12_send 173 = .ok (.iaload, 1) := by decide +kernel
theorem dX12_send_174 : decode cX12_send 174 = .ok (.iconst 1, 1) := by decide +kernel
theorem dX12_send_175 : decode cX12_send 175 = .ok (.iadd, 1) := by decide +kernel
theorem dX12_send_176 : decode cX12_send 176 = .ok (.iastore, 1) := by decide +kernel
theorem dX12_send_177 : decode cX12_send 177 = .ok (.return_, 1) := by decide +kernel
theorem dX12_refill_0 : decode cX12_refill 0 = .ok (.iconst 0, 1) := by decide +kernel
theorem dX12_refill_1 : decode cX12_refill 1 = .ok (.istore_n 1, 1) := by decide +kernel
theorem dX12_refill_2 : decode cX12_refill 2 = .ok (.iload_n 1, 1) := by decide +kernel
theorem dX12_refill_3 : decode cX12_refill 3 = .ok (.aload_n 0, 1) := by decide +kernel
theorem dX12_refill_4 : decode cX12_refill 4 = .ok (.getfield 72, 3) := by decide +kernel
theorem dX12_refill_7 : decode cX12_refill 7 = .ok (.if_icmp .ge 97, 3) := by decide +kernel
theorem dX12_refill_10 : decode cX12_refill 10 = .ok (.aload_n 0, 1) := by decide +kernel
theorem dX12_refill_11 : decode cX12_refill 11 = .ok (.getfield 35, 3) := by decide +kernel
theorem dX12_refill_14 : decode cX12_refill 14 = .ok (.iload_n 1, 1) := by decide +kernel
theorem dX12_refill_15 : decode cX12_refill 15 = .ok (.iaload, 1) := by decide +kernel
theorem dX12_refill_16 : decode cX12_refill 16 = .ok (.aload_n 0, 1) := by decide +kernel
theorem dX12_refill_17 : decode cX12_refill 17 = .ok (.getfield 13, 3) := by decide +kernel
theorem dX12_refill_20 : decode cX12_refill 20 = .ok (.iload_n 1, 1) := by decide +kernel
theorem dX12_refill_21 : decode cX12_refill 21 = .ok (.iaload, 1) := by decide +kernel
theorem dX12_refill_22 : decode cX12_refill 22 = .ok (.iadd, 1) := by decide +kernel
theorem dX12_refill_23 : decode cX12_refill 23 = .ok (.istore_n 2, 1) := by decide +kernel
theorem dX12_refill_24 : decode cX12_refill 24 = .ok (.aload_n 0, 1) := by decide +kernel
theorem dX12_refill_25 : decode cX12_refill 25 = .ok (.getfield 35, 3) := by decide +kernel
theorem dX12_refill_28 : decode cX12_refill 28 = .ok (.iload_n 1, 1) := by decide +kernel
theorem dX12_refill_29 : decode cX12_refill 29 = .ok (.aload_n 0, 1) := by decide +kernel
theorem dX12_refill_30 : decode cX12_refill 30 = .ok (.getfield 19, 3) := by decide +kernel
theorem dX12_refill_33 : decode cX12_refill 33 = .ok (.iload_n 1, 1) := by decide +kernel
theorem dX12_refill_34 : decode cX12_refill 34 = .ok (.iaload, 1) := by decide +kernel
theorem dX12_refill_35 : decode cX12_refill 35 = .ok (.iload_n 2, 1) := by decide +kernel
theorem dX12_refill_36 : decode cX12_refill 36 = .ok (.invokestatic 102, 3) := by decide +kernel
theorem dX12_refill_39 : decode cX12_refill 39 = .ok (.iastore, 1) := by decide +kernel
theorem dX12_refill_40 : decode cX12_refill 40 = .ok (.aload_n 0, 1) := by decide +kernel
theorem dX12_refill_41 : decode cX12_refill 41 = .ok (.getfield 38, 3) := by decide +kernel
theorem dX12_refill_44 : decode cX12_refill 44 = .ok (.iload_n 1, 1) := by decide +kernel
theorem dX12_refill_45 : decode cX12_refill 45 = .ok (.aload_n 0, 1) := by decide +kernel
theorem dX12_refill_46 : decode cX12_refill 46 = .ok (.getfield 22, 3) := by decide +kernel
theorem dX12_refill_49 : decode cX12_refill 49 = .ok (.iload_n 1, 1) := by decide +kernel
theorem dX12_refill_50 : decode cX12_refill 50 = .ok (.iaload, 1) := by decide +kernel
theorem dX12_refill_51 : decode cX12_refill 51 = .ok (.aload_n 0, 1) := by decide +kernel
theorem dX12_refill_52 : decode cX12_refill 52 = .ok (.getfield 38, 3) := by decide +kernel
theorem dX12_refill_55 : decode cX12_refill 55 = .ok (.iload_n 1, 1) := by decide +kernel
theorem dX12_refill_56 : decode cX12_refill 56 = .ok (.iaload, 1) := by decide +kernel
theorem dX12_refill_57 : decode cX12_refill 57 = .ok (.iload_n 2, 1) := by decide +kernel
theorem dX12_refill_58 : decode cX12_refill 58 = .ok (.iadd, 1) := by decide +kernel
theorem dX12_refill_59 : decode cX12_refill 59 = .ok (.aload_n 0, 1) := by decide +kernel
theorem dX12_refill_60 : decode cX12_refill 60 = .ok (.getfield 35, 3) := by decide +kernel
theorem dX12_refill_63 : decode cX12_refill 63 = .ok (.iload_n 1, 1) := by decide +kernel
theorem dX12_refill_64 : decode cX12_refill 64 = .ok (.iaload, 1) := by decide +kernel
theorem dX12_refill_65 : decode cX12_refill 65 = .ok (.isub, 1) := by decide +kernel
theorem dX12_refill_66 : decode cX12_refill 66 = .ok (.invokestatic 102, 3) := by decide +kernel
theorem dX12_refill_69 : decode cX12_refill 69 = .ok (.iastore, 1) := by decide +kernel
theorem dX12_refill_70 : decode cX12_refill 70 = .ok (.aload_n 0, 1) := by decide +kernel
theorem dX12_refill_71 : decode cX12_refill 71 = .ok (.getfield 41, 3) := by decide +kernel
theorem dX12_refill_74 : decode cX12_refill 74 = .ok (.iload_n 1, 1) := by decide +kernel
theorem dX12_refill_75 : decode cX12_refill 75 = .ok (.aload_n 0, 1) := by decide +kernel
theorem dX12_refill_76 : decode cX12_refill 76 = .ok (.getfield 19, 3) := by decide +kernel
theorem dX12_refill_79 : decode cX12_refill 79 = .ok (.iload_n 1, 1) := by decide +kernel
theorem dX12_refill_80 : decode cX12_refill 80 = .ok (.iaload, 1) := by decide +kernel
theorem dX12_refill_81 : decode cX12_refill 81 = .ok (.aload_n 0, 1) := by decide +kernel
theorem dX12_refill_82 : decode cX12_refill 82 = .ok (.getfield 41, 3) := by decide +kernel
theorem dX12_refill_85 : decode cX12_refill 85 = .ok (.iload_n 1, 1) := by decide +kernel
theorem dX12_refill_86 : decode cX12_refill 86 = .ok (.iaload, 1) := by decide +kernel
theorem dX12_refill_87 : decode cX12_refill 87 = .ok (.aload_n 0, 1) := by decide +kernel
theorem dX12_refill_88 : decode cX12_refill 88 = .ok (.getfield 16, 3) := by decide +kernel
theorem dX12_refill_91 : decode cX12_refill 91 = .ok (.iload_n 1, 1) := by decide +kernel
theorem dX12_refill_92 : decode cX12_refill 92 = .ok (.iaload, 1) := by decide +kernel
theorem dX12_refill_93 : decode cX12_refill 93 = .ok (.iadd, 1) := by decide +kernel
theorem dX12_refill_94 : decode cX12_refill 94 = .ok (.invokestatic 102, 3) := by decide +kernel
theorem dX12_refill_97 : decode cX12_refill 97 = .ok (.iastore, 1) := by decide +kernel
theorem dX12_refill_98 : decode cX12_refill 98 = .ok (.iinc 1 1, 3) := by decide +kernel
theorem dX12_refill_101 : decode cX12_refill 101 = .ok (.goto (-99), 3) := by decide +kernel
theorem dX12_refill_104 : decode cX12_refill 104 = .ok (.return_, 1) := by decide +kernel
theorem dX12_first_0 : decode cX12_first 0 = .ok (.bipush (-2), 2) := by decide +kernel
theorem dX12_first_2 : decode cX12_first 2 = .ok (.istore_n 1, 1) := by decide +kernel
theorem dX12_first_3 : decode cX12_first 3 = .ok (.iconst 0, 1) := by decide +kernel
theorem dX12_first_4 : decode cX12_first 4 = .ok (.istore_n 2, 1) := by decide +kernel
theorem dX12_first_5 : decode cX12_first 5 = .ok (.iload_n 2, 1) := by decide +kernel
theorem dX12_first_6 : decode cX12_first 6 = .ok (.aload_n 0, 1) := by decide +kernel
theorem dX12_first_7 : decode cX12_first 7 = .ok (.getfield 72, 3) := by decide +kernel
theorem dX12_first_10 : decode cX12_first 10 = .ok (.if_icmp .ge 72, 3) := by decide +kernel
theorem dX12_first_13 : decode cX12_first 13 = .ok (.aload_n 0, 1) := by decide +kernel
theorem dX12_first_14 : decode cX12_first 14 = .ok (.getfield 62, 3) := by decide +kernel
theorem dX12_first_17 : decode cX12_first 17 = .ok (.iload_n 2, 1) := by decide +kernel
theorem dX12_first_18 : decode cX12_first 18 = .ok (.invokevirtual 110, 3) := by decide +kernel
theorem dX12_first_21 : decode cX12_first 21 = .ok (.checkcast 59, 3) := by decide +kernel
theorem dX12_first_24 : decode cX12_first 24 = .ok (.invokevirtual 114, 3) := by decide +kernel
theorem dX12_first_27 : decode cX12_first 27 = .ok (.ifCond .ne 49, 3) := by decide +kernel
theorem dX12_first_30 : decode cX12_first 30 = .ok (.aload_n 0, 1) := by decide +kernel
theorem dX12_first_31 : decode cX12_first 31 = .ok (.iload_n 2, 1) := by decide +kernel
theorem dX12_first_32 : decode cX12_first 32 = .ok (.aload_n 0, 1) := by decide +kernel
theorem dX12_first_33 : decode cX12_first 33 = .ok (.getfield 62, 3) := by decide +kernel
theorem dX12_first_36 : decode cX12_first 36 = .ok (.iload_n 2, 1) := by decide +kernel
theorem dX12_first_37 : decode cX12_first 37 = .ok (.invokevirtual 110, 3) := by decide +kernel
theorem dX12_first_40 : decode cX12_first 40 = .ok (.checkcast 59, 3) := by decide +kernel
theorem dX12_first_43 : decode cX12_first 43 = .ok (.iconst 0, 1) := by decide +kernel
theorem dX12_first_44 : decode cX12_first 44 = .ok (.invokevirtual 110, 3) := by decide +kernel
theorem dX12_first_47 : decode cX12_first 47 = .ok (.checkcast 118, 3) := by decide +kernel
theorem dX12_first_50 : decode cX12_first 50 = .ok (.iconst 1, 1) := by decide +kernel
theorem dX12_first_51 : decode cX12_first 51 = .ok (.iaload, 1) := by decide +kernel
theorem dX12_first_52 : decode cX12_first 52 = .ok (.invokevirtual 99, 3) := by decide +kernel
theorem dX12_first_55 : decode cX12_first 55 = .ok (.ifCond .ge 6, 3) := by decide +kernel
theorem dX12_first_58 : decode cX12_first 58 = .ok (.goto 18, 3) := by decide +kernel
theorem dX12_first_61 : decode cX12_first 61 = .ok (.iload_n 1, 1) := by decide +kernel
theorem dX12_first_62 : decode cX12_first 62 = .ok (.ifCond .lt 12, 3) := by decide +kernel
theorem dX12_first_65 : decode cX12_first 65 = .ok (.aload_n 0, 1) := by decide +kernel
theorem dX12_first_66 : decode cX12_first 66 = .ok (.iload_n 2, 1) := by decide +kernel
theorem dX12_first_67 : decode cX12_first 67 = .ok (.iload_n 1, 1) := by decide +kernel
theorem dX12_first_68 : decode cX12_first 68 = .ok (.invokevirtual 119, 3) := by decide +kernel
theorem dX12_first_71 : decode cX12_first 71 = .ok (.ifCond .eq 5, 3) := by decide +kernel
theorem dX12_first_74 : decode cX12_first 74 = .ok (.iload_n 2, 1) := by decide +kernel
theorem dX12_first_75 : decode cX12_first 75 = .ok (.istore_n 1, 1) := by decide +kernel
theorem dX12_first_76 : decode cX12_first 76 = .ok (.iinc 2 1, 3) := by decide +kernel
theorem dX12_first_79 : decode cX12_first 79 = .ok (.goto (-74), 3) := by decide +kernel
theorem dX12_first_82 : decode cX12_first 82 = .ok (.iload_n 1, 1) := by decide +kernel
theorem dX12_first_83 : decode cX12_first 83 = .ok (.ireturn, 1) := by decide +kernel
theorem dX12_isAhead_0 : decode cX12_isAhead 0 = .ok (.aload_n 0, 1) := by decide +kernel
theorem dX12_isAhead_1 : decode cX12_isAhead 1 = .ok (.iload_n 1, 1) := by decide +kernel
theorem dX12_isAhead_2 : decode cX12_isAhead 2 = .ok (.aload_n 0, 1) := by decide +kernel
theorem dX12_isAhead_3 : decode cX12_isAhead 3 = .ok (.iload_n 1, 1) := by decide +kernel
theorem dX12_isAhead_4 : decode cX12_isAhead 4 = .ok (.aload_n 0, 1) := by decide +kernel
theorem dX12_isAhead_5 : decode cX12_isAhead 5 = .ok (.getfield 62, 3) := by decide +kernel
theorem dX12_isAhead_8 : decode cX12_isAhead 8 = .ok (.iload_n 1, 1) := by decide +kernel
theorem dX12_isAhead_9 : decode cX12_isAhead 9 = .ok (.invokevirtual 110, 3) := by decide +kernel
theorem dX12_isAhead_12 : decode cX12_isAhead 12 = .ok (.checkcast 59, 3) := by decide +kernel
theorem dX12_isAhead_15 : decode cX12_isAhead 15 = .ok (.iconst 0, 1) := by decide +kernel
theorem dX12_isAhead_16 : decode cX12_isAhead 16 = .ok (.invokevirtual 110, 3) := by decide +kernel
theorem dX12_isAhead_19 : decode cX12_isAhead 19 = .ok (.checkcast 118, 3) := by decide +kernel
theorem dX12_isAhead_22 : decode cX12_isAhead 22 = .ok (.iconst 1, 1) := by decide +kernel
theorem dX12_isAhead_23 : decode cX12_isAhead 23 = .ok (.iaload, 1) := by decide +kernel
theorem dX12_isAhead_24 : decode cX12_isAhead 24 = .ok (.invokevirtual 99, 3) := by decide +kernel
theorem dX12_isAhead_27 : decode cX12_isAhead 27 = .ok (.invokevirtual 95, 3) := by decide +kernel
theorem dX12_isAhead_30 : decode cX12_isAhead 30 = .ok (.aload_n 0, 1) := by decide +kernel
theorem dX12_isAhead_31 : decode cX12_isAhead 31 = .ok (.iload_n 2, 1) := by decide +kernel
theorem dX12_isAhead_32 : decode cX12_isAhead 32 = .ok (.aload_n 0, 1) := by decide +kernel
theorem dX12_isAhead_33 : decode cX12_isAhead 33 = .ok (.iload_n 2, 1) := by decide +kernel
theorem dX12_isAhead_34 : decode cX12_isAhead 34 = .ok (.aload_n 0, 1) := by decide +kernel
theorem dX12_isAhead_35 : decode cX12_isAhead 35 = .ok (.getfield 62, 3) := by decide +kernel
theorem dX12_isAhead_38 : decode cX12_isAhead 38 = .ok (.iload_n 2, 1) := by decide +kernel
theorem dX12_isAhead_39 : decode cX12_isAhead 39 = .ok (.invokevirtual 110, 3) := by decide +kernel
theorem dX12_isAhead_42 : decode cX12_isAhead 42 = .ok (.checkcast 59, 3) := by decide +kernel
theorem dX12_isAhead_45 : decode cX12_isAhead 45 = .ok (.iconst 0, 1) := by decide +kernel
theorem dX12_isAhead_46 : decode cX12_isAhead 46 = .ok (.invokevirtual 110, 3) := by decide +kernel
theorem dX12_isAhead_49 : decode cX12_isAhead 49 = .ok (.checkcast 118, 3) := by decide +kernel
theorem dX12_isAhead_52 : decode cX12_isAhead 52 = .ok (.iconst 1, 1) := by decide +kernel
theorem dX12_isAhead_53 : decode cX12_isAhead 53 = .ok (.iaload, 1) := by decide +kernel
theorem dX12_isAhead_54 : decode cX12_isAhead 54 = .ok (.invokevirtual 99, 3) := by decide +kernel
theorem dX12_isAhead_57 : decode cX12_isAhead 57 = .ok (.invokevirtual 95, 3) := by decide +kernel
theorem dX12_isAhead_60 : decode cX12_isAhead 60 = .ok (.isub, 1) := by decide +kernel
theorem dX12_isAhead_61 : decode cX12_isAhead 61 = .ok (.istore_n 3, 1) := by decide +kernel
theorem dX12_isAhead_62 : decode cX12_isAhead 62 = .ok (.iload_n 3, 1) := by decide +kernel
theorem dX12_isAhead_63 : decode cX12_isAhead 63 = .ok (.ifCond .eq 13, 3) := by decide +kernel
theorem dX12_isAhead_66 : decode cX12_isAhead 66 = .ok (.iload_n 3, 1) := by decide +kernel
theorem dX12_isAhead_67 : decode cX12_isAhead 67 = .ok (.ifCond .ge 7, 3) := by decide +kernel
theorem dX12_isAhead_70 : decode cX12_isAhead 70 = .ok (.iconst 1, 1) := by decide +kernel
theorem dX12_isAhead_71 : decode cX12_isAhead 71 = .ok (.goto 4, 3) := by decide +kernel
theorem dX12_isAhead_74 : decode cX12_isAhead 74 = .ok (.iconst 0, 1) := by decide +kernel
theorem dX12_isAhead_75 : decode cX12_isAhead 75 = .ok (.ireturn, 1) := by decide +kernel
theorem dX12_isAhead_76 : decode cX12_isAhead 76 = .ok (.aload_n 0, 1) := by decide +kernel
theorem dX12_isAhead_77 : decode cX12_isAhead 77 = .ok (.getfield 28, 3) := by decide +kernel
theorem dX12_isAhead_80 : decode cX12_isAhead 80 = .ok (.iload_n 1, 1) := by decide +kernel
theorem dX12_isAhead_81 : decode cX12_isAhead 81 = .ok (.iaload, 1) := by decide +kernel
theorem dX12_isAhead_82 : decode cX12_isAhead 82 = .ok (.aload_n 0, 1) := by decide +kernel
theorem dX12_isAhead_83 : decode cX12_isAhead 83 = .ok (.getfield 28, 3) := by decide +kernel
theorem dX12_isAhead_86 : decode cX12_isAhead 86 = .ok (.iload_n 2, 1) := by decide +kernel
theorem dX12_isAhead_87 : decode cX12_isAhead 87 = .ok (.iaload, 1) := by decide +kernel
theorem dX12_isAhead_88 : decode cX12_isAhead 88 = .ok (.if_icmp .eq 26, 3) := by decide +kernel
theorem dX12_isAhead_91 : decode cX12_isAhead 91 = .ok (.aload_n 0, 1) := by decide +kernel
theorem dX12_isAhead_92 : decode cX12_isAhead 92 = .ok (.getfield 28, 3) := by decide +kernel
theorem dX12_isAhead_95 : decode cX12_isAhead 95 = .ok (.iload_n 1, 1) := by decide +kernel
theorem dX12_isAhead_96 : decode cX12_isAhead 96 = .ok (.iaload, 1) := by decide +kernel
theorem dX12_isAhead_97 : decode cX12_isAhead 97 = .ok (.aload_n 0, 1) := by decide +kernel
theorem dX12_isAhead_98 : decode cX12_isAhead 98 = .ok (.getfield 28, 3) := by decide +kernel
theorem dX12_isAhead_101 : decode cX12_isAhead 101 = .ok (.iload_n 2, 1) := by decide +kernel
theorem dX12_isAhead_102 : decode cX12_isAhead 102 = .ok (.iaload, 1) := by decide +kernel
theorem dX12_isAhead_103 : decode cX12_isAhead 103 = .ok (.if_icmp .ge 7, 3) := by decide +kernel
theorem dX12_isAhead_106 : decode cX12_isAhead 106 = .ok (.iconst 1, 1) := by decide +kernel
theorem dX12_isAhead_107 : decode cX12_isAhead 107 = .ok (.goto 41, 3) := by decide +kernel
theorem dX12_isAhead_110 : decode cX12_isAhead 110 = .ok (.iconst 0, 1) := by decide +kernel
theorem dX12_isAhead_111 : decode cX12_isAhead 111 = .ok (.goto 37, 3) := by decide +kernel
theorem dX12_isAhead_114 : decode cX12_isAhead 114 = .ok (.aload_n 0, 1) := by decide +kernel
theorem dX12_isAhead_115 : decode cX12_isAhead 115 = .ok (.getfield 44, 3) := by decide +kernel
theorem dX12_isAhead_118 : decode cX12_isAhead 118 = .ok (.iload_n 1, 1) := by decide +kernel
theorem dX12_isAhead_119 : decode cX12_isAhead 119 = .ok (.iaload, 1) := by decide +kernel
theorem dX12_isAhead_120 : decode cX12_isAhead 120 = .ok (.aload_n 0, 1) := by decide +kernel
theorem dX12_isAhead_121 : decode cX12_isAhead 121 = .ok (.getfield 25, 3) := by decide +kernel
theorem dX12_isAhead_124 : decode cX12_isAhead 124 = .ok (.iload_n 2, 1) := by decide +kernel
theorem dX12_isAhead_125 : decode cX12_isAhead 125 = .ok (.iaload, 1) := by decide +kernel
theorem dX12_isAhead_126 : decode cX12_isAhead 126 = .ok (.imul, 1) := by decide +kernel
theorem dX12_isAhead_127 : decode cX12_isAhead 127 = .ok (.aload_n 0, 1) := by decide +kernel
theorem dX12_isAhead_128 : decode cX12_isAhead 128 = .ok (.getfield 44, 3) := by decide +kernel
theorem dX12_isAhead_131 : decode cX12_isAhead 131 = .ok (.iload_n 2, 1) := by decide +kernel
theorem dX12_isAhead_132 : decode cX12_isAhead 132 = .ok (.iaload, 1) := by decide +kernel
theorem dX12_isAhead_133 : decode cX12_isAhead 133 = .ok (.aload_n 0, 1) := by decide +kernel
theorem dX12_isAhead_134 : decode cX12_isAhead 134 = .ok (.getfield 25, 3) := by decide +kernel
theorem dX12_isAhead_137 : decode cX12_isAhead 137 = .ok (.iload_n 1, 1) := by decide +kernel
theorem dX12_isAhead_138 : decode cX12_isAhead 138 = .ok (.iaload, 1) := by decide +kernel
theorem dX12_isAhead_139 : decode cX12_isAhead 139 = .ok (.imul, 1) := by decide +kernel
theorem dX12_isAhead_140 : decode cX12_isAhead 140 = .ok (.if_icmp .ge 7, 3) := by decide +kernel
theorem dX12_isAhead_143 : decode cX12_isAhead 143 = .ok (.iconst 1, 1) := by decide +kernel
theorem dX12_isAhead_144 : decode cX12_isAhead 144 = .ok (.goto 4, 3) := by decide +kernel
theorem dX12_isAhead_147 : decode cX12_isAhead 147 = .ok (.iconst 0, 1) := by decide +kernel
theorem dX12_isAhead_148 : decode cX12_isAhead 148 = .ok (.ireturn, 1) := by decide +kernel
theorem dX12_tick_0 : decode cX12_tick 0 = .ok (.aload_n 0, 1) := by decide +kernel
theorem dX12_tick_1 : decode cX12_tick 1 = .ok (.dup, 1) := by decide +kernel
theorem dX12_tick_2 : decode cX12_tick 2 = .ok (.getfield 123, 3) := by decide +kernel
theorem dX12_tick_5 : decode cX12_tick 5 = .ok (.iconst 1, 1) := by decide +kernel
theorem dX12_tick_6 : decode cX12_tick 6 = .ok (.iadd, 1) := by decide +kernel
theorem dX12_tick_7 : decode cX12_tick 7 = .ok (.putfield 123, 3) := by decide +kernel
theorem dX12_tick_10 : decode cX12_tick 10 = .ok (.aload_n 0, 1) := by decide +kernel
theorem dX12_tick_11 : decode cX12_tick 11 = .ok (.getfield 123, 3) := by decide +kernel
theorem dX12_tick_14 : decode cX12_tick 14 = .ok (.aload_n 0, 1) := by decide +kernel
theorem dX12_tick_15 : decode cX12_tick 15 = .ok (.getfield 82, 3) := by decide +kernel
theorem dX12_tick_18 : decode cX12_tick 18 = .ok (.if_icmp .ne 16, 3) := by decide +kernel
theorem dX12_tick_21 : decode cX12_tick 21 = .ok (.aload_n 0, 1) := by decide +kernel
theorem dX12_tick_22 : decode cX12_tick 22 = .ok (.getfield 13, 3) := by decide +kernel
theorem dX12_tick_25 : decode cX12_tick 25 = .ok (.aload_n 0, 1) := by decide +kernel
theorem dX12_tick_26 : decode cX12_tick 26 = .ok (.getfield 85, 3) := by decide +kernel
theorem dX12_tick_29 : decode cX12_tick 29 = .ok (.aload_n 0, 1) := by decide +kernel
theorem dX12_tick_30 : decode cX12_tick 30 = .ok (.getfield 88, 3) := by decide +kernel
theorem dX12_tick_33 : decode cX12_tick 33 = .ok (.iastore, 1) := by decide +kernel
theorem dX12_tick_34 : decode cX12_tick 34 = .ok (.aload_n 0, 1) := by decide +kernel
theorem dX12_tick_35 : decode cX12_tick 35 = .ok (.invokevirtual 126, 3) := by decide +kernel
theorem dX12_tick_38 : decode cX12_tick 38 = .ok (.iconst 0, 1) := by decide +kernel
end
section
theorem dX12_tick_39 : decode cX12_tick 39 = .ok (.istore_n 1, 1) := by decide +kernel
theorem dX12_tick_40 : decode cX12_tick 40 = .ok (.iload_n 1, 1) := by decide +kernel
theorem dX12_tick_41 : decode cX12_tick 41 = .ok (.aload_n 0, 1) := by decide +kernel
theorem dX12_tick_42 : decode cX12_tick 42 = .ok (.getfield 72, 3) := by decide +kernel
theorem dX12_tick_45 : decode cX12_tick 45 = .ok (.if_icmp .ge 94, 3) := by decide +kernel
theorem dX12_tick_48 : decode cX12_tick 48 = .ok (.aload_n 0, 1) := by decide +kernel
theorem dX12_tick_49 : decode cX12_tick 49 = .ok (.getfield 79, 3) := by decide +kernel
theorem dX12_tick_52 : decode cX12_tick 52 = .ok (.ifCond .lt 81, 3) := by decide +kernel
theorem dX12_tick_55 : decode cX12_tick 55 = .ok (.aload_n 0, 1) := by decide +kernel
theorem dX12_tick_56 : decode cX12_tick 56 = .ok (.getfield 62, 3) := by decide +kernel
theorem dX12_tick_59 : decode cX12_tick 59 = .ok (.iload_n 1, 1) := by decide +kernel
theorem dX12_tick_60 : decode cX12_tick 60 = .ok (.invokevirtual 110, 3) := by decide +kernel
theorem dX12_tick_63 : decode cX12_tick 63 = .ok (.checkcast 59, 3) := by decide +kernel
theorem dX12_tick_66 : decode cX12_tick 66 = .ok (.invokevirtual 114, 3) := by decide +kernel
theorem dX12_tick_69 : decode cX12_tick 69 = .ok (.ifCond .ne 64, 3) := by decide +kernel
theorem dX12_tick_72 : decode cX12_tick 72 = .ok (.aload_n 0, 1) := by decide +kernel
theorem dX12_tick_73 : decode cX12_tick 73 = .ok (.getfield 123, 3) := by decide +kernel
theorem dX12_tick_76 : decode cX12_tick 76 = .ok (.aload_n 0, 1) := by decide +kernel
theorem dX12_tick_77 : decode cX12_tick 77 = .ok (.getfield 62, 3) := by decide +kernel
theorem dX12_tick_80 : decode cX12_tick 80 = .ok (.iload_n 1, 1) := by decide +kernel
theorem dX12_tick_81 : decode cX12_tick 81 = .ok (.invokevirtual 110, 3) := by decide +kernel
theorem dX12_tick_84 : decode cX12_tick 84 = .ok (.checkcast 59, 3) := by decide +kernel
theorem dX12_tick_87 : decode cX12_tick 87 = .ok (.iconst 0, 1) := by decide +kernel
theorem dX12_tick_88 : decode cX12_tick 88 = .ok (.invokevirtual 110, 3) := by decide +kernel
theorem dX12_tick_91 : decode cX12_tick 91 = .ok (.checkcast 118, 3) := by decide +kernel
theorem dX12_tick_94 : decode cX12_tick 94 = .ok (.iconst 2, 1) := by decide +kernel
theorem dX12_tick_95 : decode cX12_tick 95 = .ok (.iaload, 1) := by decide +kernel
theorem dX12_tick_96 : decode cX12_tick 96 = .ok (.isub, 1) := by decide +kernel
theorem dX12_tick_97 : decode cX12_tick 97 = .ok (.aload_n 0, 1) := by decide +kernel
theorem dX12_tick_98 : decode cX12_tick 98 = .ok (.getfield 79, 3) := by decide +kernel
theorem dX12_tick_101 : decode cX12_tick 101 = .ok (.if_icmp .le 32, 3) := by decide +kernel
theorem dX12_tick_104 : decode cX12_tick 104 = .ok (.aload_n 0, 1) := by decide +kernel
theorem dX12_tick_105 : decode cX12_tick 105 = .ok (.getfield 62, 3) := by decide +kernel
theorem dX12_tick_108 : decode cX12_tick 108 = .ok (.iload_n 1, 1) := by decide +kernel
theorem dX12_tick_109 : decode cX12_tick 109 = .ok (.invokevirtual 110, 3) := by decide +kernel
theorem dX12_tick_112 : decode cX12_tick 112 = .ok (.checkcast 59, 3) := by decide +kernel
theorem dX12_tick_115 : decode cX12_tick 115 = .ok (.iconst 0, 1) := by decide +kernel
theorem dX12_tick_116 : decode cX12_tick 116 = .ok (.invokevirtual 129, 3) := by decide +kernel
theorem dX12_tick_119 : decode cX12_tick 119 = .ok (.pop, 1) := by decide +kernel
theorem dX12_tick_120 : decode cX12_tick 120 = .ok (.aload_n 0, 1) := by decide +kernel
theorem dX12_tick_121 : decode cX12_tick 121 = .ok (.getfield 56, 3) := by decide +kernel
theorem dX12_tick_124 : decode cX12_tick 124 = .ok (.iload_n 1, 1) := by decide +kernel
theorem dX12_tick_125 : decode cX12_tick 125 = .ok (.dup2, 1) := by decide +kernel
theorem dX12_tick_126 : decode cX12_tick 126 = .ok (.iaload, 1) := by decide +kernel
theorem dX12_tick_127 : decode cX12_tick 127 = .ok (.iconst 1, 1) := by decide +kernel
theorem dX12_tick_128 : decode cX12_tick 128 = .ok (.iadd, 1) := by decide +kernel
theorem dX12_tick_129 : decode cX12_tick 129 = .ok (.iastore, 1) := by decide +kernel
theorem dX12_tick_130 : decode cX12_tick 130 = .ok (.goto (-82), 3) := by decide +kernel
theorem dX12_tick_133 : decode cX12_tick 133 = .ok (.iinc 1 1, 3) := by decide +kernel
theorem dX12_tick_136 : decode cX12_tick 136 = .ok (.goto (-96), 3) := by decide +kernel
theorem dX12_tick_139 : decode cX12_tick 139 = .ok (.iconst 0, 1) := by decide +kernel
theorem dX12_tick_140 : decode cX12_tick 140 = .ok (.istore_n 1, 1) := by decide +kernel
theorem dX12_tick_141 : decode cX12_tick 141 = .ok (.aload_n 0, 1) := by decide +kernel
theorem dX12_tick_142 : decode cX12_tick 142 = .ok (.getfield 76, 3) := by decide +kernel
theorem dX12_tick_145 : decode cX12_tick 145 = .ok (.ifCond .le 10, 3) := by decide +kernel
theorem dX12_tick_148 : decode cX12_tick 148 = .ok (.aload_n 0, 1) := by decide +kernel
theorem dX12_tick_149 : decode cX12_tick 149 = .ok (.invokevirtual 132, 3) := by decide +kernel
theorem dX12_tick_152 : decode cX12_tick 152 = .ok (.goto 5, 3) := by decide +kernel
theorem dX12_tick_155 : decode cX12_tick 155 = .ok (.bipush (-2), 2) := by decide +kernel
theorem dX12_tick_157 : decode cX12_tick 157 = .ok (.istore_n 2, 1) := by decide +kernel
theorem dX12_tick_158 : decode cX12_tick 158 = .ok (.iload_n 2, 1) := by decide +kernel
theorem dX12_tick_159 : decode cX12_tick 159 = .ok (.ifCond .lt 52, 3) := by decide +kernel
theorem dX12_tick_162 : decode cX12_tick 162 = .ok (.aload_n 0, 1) := by decide +kernel
theorem dX12_tick_163 : decode cX12_tick 163 = .ok (.iload_n 2, 1) := by decide +kernel
theorem dX12_tick_164 : decode cX12_tick 164 = .ok (.aload_n 0, 1) := by decide +kernel
theorem dX12_tick_165 : decode cX12_tick 165 = .ok (.getfield 62, 3) := by decide +kernel
theorem dX12_tick_168 : decode cX12_tick 168 = .ok (.iload_n 2, 1) := by decide +kernel
theorem dX12_tick_169 : decode cX12_tick 169 = .ok (.invokevirtual 110, 3) := by decide +kernel
theorem dX12_tick_172 : decode cX12_tick 172 = .ok (.checkcast 59, 3) := by decide +kernel
theorem dX12_tick_175 : decode cX12_tick 175 = .ok (.iconst 0, 1) := by decide +kernel
theorem dX12_tick_176 : decode cX12_tick 176 = .ok (.invokevirtual 129, 3) := by decide +kernel
theorem dX12_tick_179 : decode cX12_tick 179 = .ok (.checkcast 118, 3) := by decide +kernel
theorem dX12_tick_182 : decode cX12_tick 182 = .ok (.iconst 1, 1) := by decide +kernel
theorem dX12_tick_183 : decode cX12_tick 183 = .ok (.iaload, 1) := by decide +kernel
theorem dX12_tick_184 : decode cX12_tick 184 = .ok (.invokevirtual 136, 3) := by decide +kernel
theorem dX12_tick_187 : decode cX12_tick 187 = .ok (.iinc 1 1, 3) := by decide +kernel
theorem dX12_tick_190 : decode cX12_tick 190 = .ok (.iload_n 1, 1) := by decide +kernel
theorem dX12_tick_191 : decode cX12_tick 191 = .ok (.aload_n 0, 1) := by decide +kernel
theorem dX12_tick_192 : decode cX12_tick 192 = .ok (.getfield 76, 3) := by decide +kernel
theorem dX12_tick_195 : decode cX12_tick 195 = .ok (.if_icmp .ge 10, 3) := by decide +kernel
theorem dX12_tick_198 : decode cX12_tick 198 = .ok (.aload_n 0, 1) := by decide +kernel
theorem dX12_tick_199 : decode cX12_tick 199 = .ok (.invokevirtual 132, 3) := by decide +kernel
theorem dX12_tick_202 : decode cX12_tick 202 = .ok (.goto 5, 3) := by decide +kernel
theorem dX12_tick_205 : decode cX12_tick 205 = .ok (.bipush (-2), 2) := by decide +kernel
theorem dX12_tick_207 : decode cX12_tick 207 = .ok (.istore_n 2, 1) := by decide +kernel
theorem dX12_tick_208 : decode cX12_tick 208 = .ok (.goto (-50), 3) := by decide +kernel
theorem dX12_tick_211 : decode cX12_tick 211 = .ok (.iload_n 1, 1) := by decide +kernel
theorem dX12_tick_212 : decode cX12_tick 212 = .ok (.ireturn, 1) := by decide +kernel
theorem dX12_text_0 : decode cX12_text 0 = .ok (.new 146, 3) := by decide +kernel
theorem dX12_text_3 : decode cX12_text 3 = .ok (.dup, 1) := by decide +kernel
theorem dX12_text_4 : decode cX12_text 4 = .ok (.invokespecial 148, 3) := by decide +kernel
theorem dX12_text_7 : decode cX12_text 7 = .ok (.astore_n 1, 1) := by decide +kernel
theorem dX12_text_8 : decode cX12_text 8 = .ok (.iconst 0, 1) := by decide +kernel
theorem dX12_text_9 : decode cX12_text 9 = .ok (.istore_n 2, 1) := by decide +kernel
theorem dX12_text_10 : decode cX12_text 10 = .ok (.iload_n 2, 1) := by decide +kernel
theorem dX12_text_11 : decode cX12_text 11 = .ok (.aload_n 0, 1) := by decide +kernel
theorem dX12_text_12 : decode cX12_text 12 = .ok (.getfield 72, 3) := by decide +kernel
theorem dX12_text_15 : decode cX12_text 15 = .ok (.if_icmp .ge 155, 3) := by decide +kernel
theorem dX12_text_18 : decode cX12_text 18 = .ok (.aload_n 1, 1) := by decide +kernel
theorem dX12_text_19 : decode cX12_text 19 = .ok (.ldc 149, 2) := by decide +kernel
theorem dX12_text_21 : decode cX12_text 21 = .ok (.invokevirtual 151, 3) := by decide +kernel
theorem dX12_text_24 : decode cX12_text 24 = .ok (.bipush 112, 2) := by decide +kernel
theorem dX12_text_26 : decode cX12_text 26 = .ok (.iload_n 2, 1) := by decide +kernel
theorem dX12_text_27 : decode cX12_text 27 = .ok (.iadd, 1) := by decide +kernel
theorem dX12_text_28 : decode cX12_text 28 = .ok (.i2c, 1) := by decide +kernel
theorem dX12_text_29 : decode cX12_text 29 = .ok (.invokevirtual 155, 3) := by decide +kernel
theorem dX12_text_32 : decode cX12_text 32 = .ok (.pop, 1) := by decide +kernel
theorem dX12_text_33 : decode cX12_text 33 = .ok (.iload_n 2, 1) := by decide +kernel
theorem dX12_text_34 : decode cX12_text 34 = .ok (.ifCond .le 23, 3) := by decide +kernel
theorem dX12_text_37 : decode cX12_text 37 = .ok (.aload_n 1, 1) := by decide +kernel
theorem dX12_text_38 : decode cX12_text 38 = .ok (.ldc 158, 2) := by decide +kernel
theorem dX12_text_40 : decode cX12_text 40 = .ok (.invokevirtual 151, 3) := by decide +kernel
theorem dX12_text_43 : decode cX12_text 43 = .ok (.bipush 112, 2) := by decide +kernel
theorem dX12_text_45 : decode cX12_text 45 = .ok (.aload_n 0, 1) := by decide +kernel
theorem dX12_text_46 : decode cX12_text 46 = .ok (.getfield 7, 3) := by decide +kernel
theorem dX12_text_49 : decode cX12_text 49 = .ok (.iload_n 2, 1) := by decide +kernel
theorem dX12_text_50 : decode cX12_text 50 = .ok (.iaload, 1) := by decide +kernel
theorem dX12_text_51 : decode cX12_text 51 = .ok (.iadd, 1) := by decide +kernel
theorem dX12_text_52 : decode cX12_text 52 = .ok (.i2c, 1) := by decide +kernel
theorem dX12_text_53 : decode cX12_text 53 = .ok (.invokevirtual 155, 3) := by decide +kernel
theorem dX12_text_56 : decode cX12_text 56 = .ok (.pop, 1) := by decide +kernel
theorem dX12_text_57 : decode cX12_text 57 = .ok (.aload_n 1, 1) := by decide +kernel
theorem dX12_text_58 : decode cX12_text 58 = .ok (.ldc 160, 2) := by decide +kernel
theorem dX12_text_60 : decode cX12_text 60 = .ok (.invokevirtual 151, 3) := by decide +kernel
theorem dX12_text_63 : decode cX12_text 63 = .ok (.aload_n 0, 1) := by decide +kernel
theorem dX12_text_64 : decode cX12_text 64 = .ok (.getfield 13, 3) := by decide +kernel
theorem dX12_text_67 : decode cX12_text 67 = .ok (.iload_n 2, 1) := by decide +kernel
theorem dX12_text_68 : decode cX12_text 68 = .ok (.iaload, 1) := by decide +kernel
theorem dX12_text_69 : decode cX12_text 69 = .ok (.invokevirtual 162, 3) := by decide +kernel
theorem dX12_text_72 : decode cX12_text 72 = .ok (.ldc 165, 2) := by decide +kernel
theorem dX12_text_74 : decode cX12_text 74 = .ok (.invokevirtual 151, 3) := by decide +kernel
theorem dX12_text_77 : decode cX12_text 77 = .ok (.aload_n 0, 1) := by decide +kernel
theorem dX12_text_78 : decode cX12_text 78 = .ok (.getfield 16, 3) := by decide +kernel
theorem dX12_text_81 : decode cX12_text 81 = .ok (.iload_n 2, 1) := by decide +kernel
theorem dX12_text_82 : decode cX12_text 82 = .ok (.iaload, 1) := by decide +kernel
theorem dX12_text_83 : decode cX12_text 83 = .ok (.invokevirtual 162, 3) := by decide +kernel
theorem dX12_text_86 : decode cX12_text 86 = .ok (.ldc 167, 2) := by decide +kernel
theorem dX12_text_88 : decode cX12_text 88 = .ok (.invokevirtual 151, 3) := by decide +kernel
theorem dX12_text_91 : decode cX12_text 91 = .ok (.aload_n 0, 1) := by decide +kernel
theorem dX12_text_92 : decode cX12_text 92 = .ok (.getfield 19, 3) := by decide +kernel
theorem dX12_text_95 : decode cX12_text 95 = .ok (.iload_n 2, 1) := by decide +kernel
theorem dX12_text_96 : decode cX12_text 96 = .ok (.iaload, 1) := by decide +kernel
theorem dX12_text_97 : decode cX12_text 97 = .ok (.invokevirtual 162, 3) := by decide +kernel
theorem dX12_text_100 : decode cX12_text 100 = .ok (.ldc 169, 2) := by decide +kernel
theorem dX12_text_102 : decode cX12_text 102 = .ok (.invokevirtual 151, 3) := by decide +kernel
theorem dX12_text_105 : decode cX12_text 105 = .ok (.aload_n 0, 1) := by decide +kernel
theorem dX12_text_106 : decode cX12_text 106 = .ok (.getfield 22, 3) := by decide +kernel
theorem dX12_text_109 : decode cX12_text 109 = .ok (.iload_n 2, 1) := by decide +kernel
theorem dX12_text_110 : decode cX12_text 110 = .ok (.iaload, 1) := by decide +kernel
theorem dX12_text_111 : decode cX12_text 111 = .ok (.invokevirtual 162, 3) := by decide +kernel
theorem dX12_text_114 : decode cX12_text 114 = .ok (.ldc 171, 2) := by decide +kernel
theorem dX12_text_116 : decode cX12_text 116 = .ok (.invokevirtual 151, 3) := by decide +kernel
theorem dX12_text_119 : decode cX12_text 119 = .ok (.aload_n 0, 1) := by decide +kernel
theorem dX12_text_120 : decode cX12_text 120 = .ok (.getfield 25, 3) := by decide +kernel
theorem dX12_text_123 : decode cX12_text 123 = .ok (.iload_n 2, 1) := by decide +kernel
theorem dX12_text_124 : decode cX12_text 124 = .ok (.iaload, 1) := by decide +kernel
theorem dX12_text_125 : decode cX12_text 125 = .ok (.invokevirtual 162, 3) := by decide +kernel
theorem dX12_text_128 : decode cX12_text 128 = .ok (.ldc 173, 2) := by decide +kernel
theorem dX12_text_130 : decode cX12_text 130 = .ok (.invokevirtual 151, 3) := by decide +kernel
theorem dX12_text_133 : decode cX12_text 133 = .ok (.aload_n 0, 1) := by decide +kernel
theorem dX12_text_134 : decode cX12_text 134 = .ok (.getfield 28, 3) := by decide +kernel
theorem dX12_text_137 : decode cX12_text 137 = .ok (.iload_n 2, 1) := by decide +kernel
theorem dX12_text_138 : decode cX12_text 138 = .ok (.iaload, 1) := by decide +kernel
theorem dX12_text_139 : decode cX12_text 139 = .ok (.invokevirtual 162, 3) := by decide +kernel
theorem dX12_text_142 : decode cX12_text 142 = .ok (.pop, 1) := by decide +kernel
theorem dX12_text_143 : decode cX12_text 143 = .ok (.aload_n 1, 1) := by decide +kernel
theorem dX12_text_144 : decode cX12_text 144 = .ok (.aload_n 0, 1) := by decide +kernel
theorem dX12_text_145 : decode cX12_text 145 = .ok (.getfield 31, 3) := by decide +kernel
theorem dX12_text_148 : decode cX12_text 148 = .ok (.iload_n 2, 1) := by decide +kernel
theorem dX12_text_149 : decode cX12_text 149 = .ok (.baload, 1) := by decide +kernel
theorem dX12_text_150 : decode cX12_text 150 = .ok (.ifCond .eq 8, 3) := by decide +kernel
theorem dX12_text_153 : decode cX12_text 153 = .ok (.ldc 175, 2) := by decide +kernel
theorem dX12_text_155 : decode cX12_text 155 = .ok (.goto 5, 3) := by decide +kernel
theorem dX12_text_158 : decode cX12_text 158 = .ok (.ldc 177, 2) := by decide +kernel
theorem dX12_text_160 : decode cX12_text 160 = .ok (.invokevirtual 151, 3) := by decide +kernel
theorem dX12_text_163 : decode cX12_text 163 = .ok (.pop, 1) := by decide +kernel
theorem dX12_text_164 : decode cX12_text 164 = .ok (.iinc 2 1, 3) := by decide +kernel
theorem dX12_text_167 : decode cX12_text 167 = .ok (.goto (-157), 3) := by decide +kernel
theorem dX12_text_170 : decode cX12_text 170 = .ok (.aload_n 1, 1) := by decide +kernel
theorem dX12_text_171 : decode cX12_text 171 = .ok (.ldc 179, 2) := by decide +kernel
theorem dX12_text_173 : decode cX12_text 173 = .ok (.invokevirtual 151, 3) := by decide +kernel
theorem dX12_text_176 : decode cX12_text 176 = .ok (.aload_n 0, 1) := by decide +kernel
theorem dX12_text_177 : decode cX12_text 177 = .ok (.getfield 76, 3) := by decide +kernel
theorem dX12_text_180 : decode cX12_text 180 = .ok (.invokevirtual 162, 3) := by decide +kernel
theorem dX12_text_183 : decode cX12_text 183 = .ok (.ldc 177, 2) := by decide +kernel
theorem dX12_text_185 : decode cX12_text 185 = .ok (.invokevirtual 151, 3) := by decide +kernel
theorem dX12_text_188 : decode cX12_text 188 = .ok (.pop, 1) := by decide +kernel
theorem dX12_text_189 : decode cX12_text 189 = .ok (.aload_n 0, 1) := by decide +kernel
theorem dX12_text_190 : decode cX12_text 190 = .ok (.getfield 79, 3) := by decide +kernel
theorem dX12_text_193 : decode cX12_text 193 = .ok (.ifCond .lt 22, 3) := by decide +kernel
theorem dX12_text_196 : decode cX12_text 196 = .ok (.aload_n 1, 1) := by decide +kernel
theorem dX12_text_197 : decode cX12_text 197 = .ok (.ldc 181, 2) := by decide +kernel
theorem dX12_text_199 : decode cX12_text 199 = .ok (.invokevirtual 151, 3) := by decide +kernel
theorem dX12_text_202 : decode cX12_text 202 = .ok (.aload_n 0, 1) := by decide +kernel
theorem dX12_text_203 : decode cX12_text 203 = .ok (.getfield 79, 3) := by decide +kernel
theorem dX12_text_206 : decode cX12_text 206 = .ok (.invokevirtual 162, 3) := by decide +kernel
theorem dX12_text_209 : decode cX12_text 209 = .ok (.ldc 177, 2) := by decide +kernel
theorem dX12_text_211 : decode cX12_text 211 = .ok (.invokevirtual 151, 3) := by decide +kernel
theorem dX12_text_214 : decode cX12_text 214 = .ok (.pop, 1) := by decide +kernel
theorem dX12_text_215 : decode cX12_text 215 = .ok (.aload_n 0, 1) := by decide +kernel
theorem dX12_text_216 : decode cX12_text 216 = .ok (.getfield 82, 3) := by decide +kernel
theorem dX12_text_219 : decode cX12_text 219 = .ok (.aload_n 0, 1) := by decide +kernel
theorem dX12_text_220 : decode cX12_text 220 = .ok (.getfield 123, 3) := by decide +kernel
theorem dX12_text_223 : decode cX12_text 223 = .ok (.if_icmp .le 50, 3) := by decide +kernel
theorem dX12_text_226 : decode cX12_text 226 = .ok (.aload_n 1, 1) := by decide +kernel
theorem dX12_text_227 : decode cX12_text 227 = .ok (.ldc 183, 2) := by decide +kernel
theorem dX12_text_229 : decode cX12_text 229 = .ok (.invokevirtual 151, 3) := by decide +kernel
theorem dX12_text_232 : decode cX12_text 232 = .ok (.aload_n 0, 1) := by decide +kernel
theorem dX12_text_233 : decode cX12_text 233 = .ok (.getfield 82, 3) := by decide +kernel
theorem dX12_text_236 : decode cX12_text 236 = .ok (.invokevirtual 162, 3) := by decide +kernel
theorem dX12_text_239 : decode cX12_text 239 = .ok (.ldc 185, 2) := by decide +kernel
theorem dX12_text_241 : decode cX12_text 241 = .ok (.invokevirtual 151, 3) := by decide +kernel
theorem dX12_text_244 : decode cX12_text 244 = .ok (.bipush 112, 2) := by decide +kernel
theorem dX12_text_246 : decode cX12_text 246 = .ok (.aload_n 0, 1) := by decide +kernel
theorem dX12_text_247 : decode cX12_text 247 = .ok (.getfield 85, 3) := by decide +kernel
theorem dX12_text_250 : decode cX12_text 250 = .ok (.iadd, 1) := by decide +kernel
theorem dX12_text_251 : decode cX12_text 251 = .ok (.i2c, 1) := by decide +kernel
theorem dX12_text_252 : decode cX12_text 252 = .ok (.invokevirtual 155, 3) := by decide +kernel
theorem dX12_text_255 : decode cX12_text 255 = .ok (.ldc 160, 2) := by decide +kernel
theorem dX12_text_257 : decode cX12_text 257 = .ok (.invokevirtual 151, 3) := by decide +kernel
theorem dX12_text_260 : decode cX12_text 260 = .ok (.aload_n 0, 1) := by decide +kernel
theorem dX12_text_261 : decode cX12_text 261 = .ok (.getfield 88, 3) := by decide +kernel
theorem dX12_text_264 : decode cX12_text 264 = .ok (.invokevirtual 162, 3) := by decide +kernel
theorem dX12_text_267 : decode cX12_text 267 = .ok (.ldc 177, 2) := by decide +kernel
theorem dX12_text_269 : decode cX12_text 269 = .ok (.invokevirtual 151, 3) := by decide +kernel
theorem dX12_text_272 : decode cX12_text 272 = .ok (.pop, 1) := by decide +kernel
theorem dX12_text_273 : decode cX12_text 273 = .ok (.aload_n 1, 1) := by decide +kernel
theorem dX12_text_274 : decode cX12_text 274 = .ok (.invokevirtual 187, 3) := by decide +kernel
theorem dX12_text_277 : decode cX12_text 277 = .ok (.areturn, 1) := by decide +kernel
theorem dX12_anyLeaf_0 : decode cX12_anyLeaf 0 = .ok (.aload_n 1, 1) := by decide +kernel
theorem dX12_anyLeaf_1 : decode cX12_anyLeaf 1 = .ok (.aload_n 0, 1) := by decide +kernel
theorem dX12_anyLeaf_2 : decode cX12_anyLeaf 2 = .ok (.getfield 72, 3) := by decide +kernel
theorem dX12_anyLeaf_5 : decode cX12_anyLeaf 5 = .ok (.invokestatic 66, 3) := by decide +kernel
theorem dX12_anyLeaf_8 : decode cX12_anyLeaf 8 = .ok (.istore_n 2, 1) := by decide +kernel
theorem dX12_anyLeaf_9 : decode cX12_anyLeaf 9 = .ok (.aload_n 0, 1) := by decide +kernel
theorem dX12_anyLeaf_10 : decode cX12_anyLeaf 10 = .ok (.iload_n 2, 1) := by decide +kernel
theorem dX12_anyLeaf_11 : decode cX12_anyLeaf 11 = .ok (.invokevirtual 191, 3) := by decide +kernel
theorem dX12_anyLeaf_14 : decode cX12_anyLeaf 14 = .ok (.ifCond .ne 15, 3) := by decide +kernel
theorem dX12_anyLeaf_17 : decode cX12_anyLeaf 17 = .ok (.iload_n 2, 1) := by decide +kernel
theorem dX12_anyLeaf_18 : decode cX12_anyLeaf 18 = .ok (.iconst 1, 1) := by decide +kernel
theorem dX12_anyLeaf_19 : decode cX12_anyLeaf 19 = .ok (.iadd, 1) := by decide +kernel
theorem dX12_anyLeaf_20 : decode cX12_anyLeaf 20 = .ok (.aload_n 0, 1) := by decide +kernel
theorem dX12_anyLeaf_21 : decode cX12_anyLeaf 21 = .ok (.getfield 72, 3) := by decide +kernel
theorem dX12_anyLeaf_24 : decode cX12_anyLeaf 24 = .ok (.irem, 1) := by decide +kernel
theorem dX12_anyLeaf_25 : decode cX12_anyLeaf 25 = .ok (.istore_n 2, 1) := by decide +kernel
theorem dX12_anyLeaf_26 : decode cX12_anyLeaf 26 = .ok (.goto (-17), 3) := by decide +kernel
theorem dX12_anyLeaf_29 : decode cX12_anyLeaf 29 = .ok (.iload_n 2, 1) := by decide +kernel
theorem dX12_anyLeaf_30 : decode cX12_anyLeaf 30 = .ok (.ireturn, 1) := by decide +kernel
theorem dJ5_init_d00df_0 : decode cJ5_init_d00df 0 = .ok (.aload_n 0, 1) := by decide +kernel
theorem dJ5_init_d00df_1 : decode cJ5_init_d00df 1 = .ok (.invokespecial 3, 3) := by decide +kernel
theorem dJ5_init_d00df_4 : decode cJ5_init_d00df 4 = .ok (.getstatic 18, 3) := by decide +kernel
theorem dJ5_init_d00df_7 : decode cJ5_init_d00df 7 = .ok (.ifCond .eq 18, 3) := by decide +kernel
theorem dJ5_init_d00df_10 : decode cJ5_init_d00df 10 = .ok (.aload_n 0, 1) := by decide +kernel
theorem dJ5_init_d00df_11 : decode cJ5_init_d00df 11 = .ok (.iload_n 1, 1) := by decide +kernel
theorem dJ5_init_d00df_12 : decode cJ5_init_d00df 12 = .ok (.newarray .byte, 2) := by decide +kernel
theorem dJ5_init_d00df_14 : decode cJ5_init_d00df 14 = .ok (.putfield 15, 3) := by decide +kernel
theorem dJ5_init_d00df_17 : decode cJ5_init_d00df 17 = .ok (.aload_n 0, 1) := by decide +kernel
theorem dJ5_init_d00df_18 : decode cJ5_init_d00df 18 = .ok (.iconst 0, 1) := by decide +kernel
theorem dJ5_init_d00df_19 : decode cJ5_init_d00df 19 = .ok (.putfield 22, 3) := by decide +kernel
theorem dJ5_init_d00df_22 : decode cJ5_init_d00df 22 = .ok (.goto 16, 3) := by decide +kernel
theorem dJ5_init_d00df_25 : decode cJ5_init_d00df 25 = .ok (.aload_n 0, 1) := by decide +kernel
theorem dJ5_init_d00df_26 : decode cJ5_init_d00df 26 = .ok (.iload_n 1, 1) := by decide +kernel
theorem dJ5_init_d00df_27 : decode cJ5_init_d00df 27 = .ok (.invokestatic 26, 3) := by decide +kernel
theorem dJ5_init_d00df_30 : decode cJ5_init_d00df 30 = .ok (.putfield 15, 3) := by decide +kernel
theorem dJ5_init_d00df_33 : decode cJ5_init_d00df 33 = .ok (.aload_n 0, 1) := by decide +kernel
theorem dJ5_init_d00df_34 : decode cJ5_init_d00df 34 = .ok (.iconst 1, 1) := by decide +kernel
theorem dJ5_init_d00df_35 : decode cJ5_init_d00df 35 = .ok (.putfield 22, 3) := by decide +kernel
theorem dJ5_init_d00df_38 : decode cJ5_init_d00df 38 = .ok (.return_, 1) := by decide +kernel
theorem dJ5_length_8abf5_0 : decode cJ5_length_8abf5 0 = .ok (.aload_n 0, 1) := by decide +kernel
theorem dJ5_length_8abf5_1 : decode cJ5_length_8abf5 1 = .ok (.getfield 79, 3) := by decide +kernel
theorem dJ5_length_8abf5_4 : decode cJ5_length_8abf5 4 = .ok (.ireturn, 1) := by decide +kernel
theorem dJ5_ensureCapacityInternal_d00df_0 : decode cJ5_ensureCapacityInternal_d00df 0 = .ok (.aload_n 0, 1) := by decide +kernel
theorem dJ5_ensureCapacityInternal_d00df_1 : decode cJ5_ensureCapacityInternal_d00df 1 = .ok (.getfield 15, 3) := by decide +kernel
theorem dJ5_ensureCapacityInternal_d00df_4 : decode cJ5_ensureCapacityInternal_d00df 4 = .ok (.arraylength, 1) := by decide +kernel
theorem dJ5_ensureCapacityInternal_d00df_5 : decode cJ5_ensureCapacityInternal_d00df 5 = .ok (.aload_n 0, 1) := by decide +kernel
theorem dJ5_ensureCapacityInternal_d00df_6 : decode cJ5_ensureCapacityInternal_d00df 6 = .ok (.getfield 22, 3) := by decide +kernel
theorem dJ5_ensureCapacityInternal_d00df_9 : decode cJ5_ensureCapacityInternal_d00df 9 = .ok (.ishr, 1) := by decide +kernel
theorem dJ5_ensureCapacityInternal_d00df_10 : decode cJ5_ensureCapacityInternal_d00df 10 = .ok (.istore_n 2, 1) := by decide +kernel
theorem dJ5_ensureCapacityInternal_d00df_11 : decode cJ5_ensureCapacityInternal_d00df 11 = .ok (.iload_n 1, 1) := by decide +kernel
theorem dJ5_ensureCapacityInternal_d00df_12 : decode cJ5_ensureCapacityInternal_d00df 12 = .ok (.iload_n 2, 1) := by decide +kernel
theorem dJ5_ensureCapacityInternal_d00df_13 : decode cJ5_ensureCapacityInternal_d00df 13 = .ok (.isub, 1) := by decide +kernel
theorem dJ5_ensureCapacityInternal_d00df_14 : decode cJ5_ensureCapacityInternal_d00df 14 = .ok (.ifCond .le 24, 3) := by decide +kernel
theorem dJ5_ensureCapacityInternal_d00df_17 : decode cJ5_ensureCapacityInternal_d00df 17 = .ok (.aload_n 0, 1) := by decide +kernel
theorem dJ5_ensureCapacityInternal_d00df_18 : decode cJ5_ensureCapacityInternal_d00df 18 = .ok (.aload_n 0, 1) := by decide +kernel
theorem dJ5_ensureCapacityInternal_d00df_19 : decode cJ5_ensureCapacityInternal_d00df 19 = .ok (.getfield 15, 3) := by decide +kernel
theorem dJ5_ensureCapacityInternal_d00df_22 : decode cJ5_ensureCapacityInternal_d00df 22 = .ok (.aload_n 0, 1) := by decide +kernel
theorem dJ5_ensureCapacityInternal_d00df_23 : decode cJ5_ensureCapacityInternal_d00df 23 = .ok (.iload_n 1, 1) := by decide +kernel
theorem dJ5_ensureCapacityInternal_d00df_24 : decode cJ5_ensureCapacityInternal_d00df 24 = .ok (.invokevirtual 104, 3) := by decide +kernel
theorem dJ5_ensureCapacityInternal_d00df_27 : decode cJ5_ensureCapacityInternal_d00df 27 = .ok (.aload_n 0, 1) := by decide +kernel
theorem dJ5_ensureCapacityInternal_d00df_28 : decode cJ5_ensureCapacityInternal_d00df 28 = .ok (.getfield 22, 3) := by decide +kernel
theorem dJ5_ensureCapacityInternal_d00df_31 : decode cJ5_ensureCapacityInternal_d00df 31 = .ok (.ishl, 1) := by decide +kernel
theorem dJ5_ensureCapacityInternal_d00df_32 : decode cJ5_ensureCapacityInternal_d00df 32 = .ok (.invokestatic 108, 3) := by decide +kernel
theorem dJ5_ensureCapacityInternal_d00df_35 : decode cJ5_ensureCapacityInternal_d00df 35 = .ok (.putfield 15, 3) := by decide +kernel
theorem dJ5_ensureCapacityInternal_d00df_38 : decode cJ5_ensureCapacityInternal_d00df 38 = .ok (.return_, 1) := by decide +kernel
theorem dJ5_newCapacity_0f7a4_0 : decode cJ5_newCapacity_0f7a4 0 = .ok (.aload_n 0, 1) := by decide +kernel
theorem dJ5_newCapacity_0f7a4_1 : decode cJ5_newCapacity_0f7a4 1 = .ok (.getfield 15, 3) := by decide +kernel
theorem dJ5_newCapacity_0f7a4_4 : decode cJ5_newCapacity_0f7a4 4 = .ok (.arraylength, 1) := by decide +kernel
theorem dJ5_newCapacity_0f7a4_5 : decode cJ5_newCapacity_0f7a4 5 = .ok (.istore_n 2, 1) := by decide +kernel
theorem dJ5_newCapacity_0f7a4_6 : decode cJ5_newCapacity_0f7a4 6 = .ok (.iload_n 1, 1) := by decide +kernel
theorem dJ5_newCapacity_0f7a4_7 : decode cJ5_newCapacity_0f7a4 7 = .ok (.aload_n 0, 1) := by decide +kernel
theorem dJ5_newCapacity_0f7a4_8 : decode cJ5_newCapacity_0f7a4 8 = .ok (.getfield 22, 3) := by decide +kernel
theorem dJ5_newCapacity_0f7a4_11 : decode cJ5_newCapacity_0f7a4 11 = .ok (.ishl, 1) := by decide +kernel
theorem dJ5_newCapacity_0f7a4_12 : decode cJ5_newCapacity_0f7a4 12 = .ok (.istore_n 3, 1) := by decide +kernel
theorem dJ5_newCapacity_0f7a4_13 : decode cJ5_newCapacity_0f7a4 13 = .ok (.iload_n 3, 1) := by decide +kernel
theorem dJ5_newCapacity_0f7a4_14 : decode cJ5_newCapacity_0f7a4 14 = .ok (.iload_n 2, 1) := by decide +kernel
theorem dJ5_newCapacity_0f7a4_15 : decode cJ5_newCapacity_0f7a4 15 = .ok (.isub, 1) := by decide +kernel
theorem dJ5_newCapacity_0f7a4_16 : decode cJ5_newCapacity_0f7a4 16 = .ok (.istore 4, 2) := by decide +kernel
theorem dJ5_newCapacity_0f7a4_18 : decode cJ5_newCapacity_0f7a4 18 = .ok (.iload_n 2, 1) := by decide +kernel
theorem dJ5_newCapacity_0f7a4_19 : decode cJ5_newCapacity_0f7a4 19 = .ok (.iload 4, 2) := by decide +kernel
theorem dJ5_newCapacity_0f7a4_21 : decode cJ5_newCapacity_0f7a4 21 = .ok (.iload_n 2, 1) := by decide +kernel
theorem dJ5_newCapacity_0f7a4_22 : decode cJ5_newCapacity_0f7a4 22 = .ok (.iconst 2, 1) := by decide +kernel
theorem dJ5_newCapacity_0f7a4_23 : decode cJ5_newCapacity_0f7a4 23 = .ok (.aload_n 0, 1) := by decide +kernel
theorem dJ5_newCapacity_0f7a4_24 : decode cJ5_newCapacity_0f7a4 24 = .ok (.getfield 22, 3) := by decide +kernel
theorem dJ5_newCapacity_0f7a4_27 : decode cJ5_newCapacity_0f7a4 27 = .ok (.ishl, 1) := by decide +kernel
theorem dJ5_newCapacity_0f7a4_28 : decode cJ5_newCapacity_0f7a4 28 = .ok (.iadd, 1) := by decide +kernel
theorem dJ5_newCapacity_0f7a4_29 : decode cJ5_newCapacity_0f7a4 29 = .ok (.invokestatic 114, 3) := by decide +kernel
theorem dJ5_newCapacity_0f7a4_32 : decode cJ5_newCapacity_0f7a4 32 = .ok (.istore 5, 2) := by decide +kernel
theorem dJ5_newCapacity_0f7a4_34 : decode cJ5_newCapacity_0f7a4 34 = .ok (.iload 5, 2) := by decide +kernel
theorem dJ5_newCapacity_0f7a4_36 : decode cJ5_newCapacity_0f7a4 36 = .ok (.ldc 39, 2) := by decide +kernel
theorem dJ5_newCapacity_0f7a4_38 : decode cJ5_newCapacity_0f7a4 38 = .ok (.if_icmp .ne 13, 3) := by decide +kernel
theorem dJ5_newCapacity_0f7a4_41 : decode cJ5_newCapacity_0f7a4 41 = .ok (.new 120, 3) := by decide +kernel
theorem dJ5_newCapacity_0f7a4_44 : decode cJ5_newCapacity_0f7a4 44 = .ok (.dup, 1) := by decide +kernel
theorem dJ5_newCapacity_0f7a4_45 : decode cJ5_newCapacity_0f7a4 45 = .ok (.ldc 122, 2) := by decide +kernel
theorem dJ5_newCapacity_0f7a4_47 : decode cJ5_newCapacity_0f7a4 47 = .ok (.invokespecial 124, 3) := by decide +kernel
theorem dJ5_newCapacity_0f7a4_50 : decode cJ5_newCapacity_0f7a4 50 = .ok (.athrow, 1) := by decide +kernel
theorem dJ5_newCapacity_0f7a4_51 : decode cJ5_newCapacity_0f7a4 51 = .ok (.iload 5, 2) := by decide +kernel
theorem dJ5_newCapacity_0f7a4_53 : decode cJ5_newCapacity_0f7a4 53 = .ok (.aload_n 0, 1) := by decide +kernel
theorem dJ5_newCapacity_0f7a4_54 : decode cJ5_newCapacity_0f7a4 54 = .ok (.getfield 22, 3) := by decide +kernel
theorem dJ5_newCapacity_0f7a4_57 : decode cJ5_newCapacity_0f7a4 57 = .ok (.ishr, 1) := by decide +kernel
theorem dJ5_newCapacity_0f7a4_58 : decode cJ5_newCapacity_0f7a4 58 = .ok (.ireturn, 1) := by decide +kernel
theorem dJ5_append_cf1ce_0 : decode cJ5_append_cf1ce 0 = .ok (.aload_n 1, 1) := by decide +kernel
theorem dJ5_append_cf1ce_1 : decode cJ5_append_cf1ce 1 = .ok (.ifnonnull 8, 3) := by decide +kernel
theorem dJ5_append_cf1ce_4 : decode cJ5_append_cf1ce 4 = .ok (.aload_n 0, 1) := by decide +kernel
theorem dJ5_append_cf1ce_5 : decode cJ5_append_cf1ce 5 = .ok (.invokevirtual 204, 3) := by decide +kernel
theorem dJ5_append_cf1ce_8 : decode cJ5_append_cf1ce 8 = .ok (.areturn, 1) := by decide +kernel
theorem dJ5_append_cf1ce_9 : decode cJ5_append_cf1ce 9 = .ok (.aload_n 1, 1) := by decide +kernel
theorem dJ5_append_cf1ce_10 : decode cJ5_append_cf1ce 10 = .ok (.invokevirtual 32, 3) := by decide +kernel
theorem dJ5_append_cf1ce_13 : decode cJ5_append_cf1ce 13 = .ok (.istore_n 2, 1) := by decide +kernel
theorem dJ5_append_cf1ce_14 : decode cJ5_append_cf1ce 14 = .ok (.aload_n 0, 1) := by decide +kernel
theorem dJ5_append_cf1ce_15 : decode cJ5_append_cf1ce 15 = .ok (.aload_n 0, 1) := by decide +kernel
theorem dJ5_append_cf1ce_16 : decode cJ5_append_cf1ce 16 = .ok (.getfield 79, 3) := by decide +kernel
theorem dJ5_append_cf1ce_19 : decode cJ5_append_cf1ce 19 = .ok (.iload_n 2, 1) := by decide +kernel
theorem dJ5_append_cf1ce_20 : decode cJ5_append_cf1ce 20 = .ok (.iadd, 1) := by decide +kernel
theorem dJ5_append_cf1ce_21 : decode cJ5_append_cf1ce 21 = .ok (.invokevirtual 100, 3) := by decide +kernel
theorem dJ5_append_cf1ce_24 : decode cJ5_append_cf1ce 24 = .ok (.aload_n 0, 1) := by decide +kernel
theorem dJ5_append_cf1ce_25 : decode cJ5_append_cf1ce 25 = .ok (.aload_n 0, 1) := by decide +kernel
theorem dJ5_append_cf1ce_26 : decode cJ5_append_cf1ce 26 = .ok (.getfield 79, 3) := by decide +kernel
theorem dJ5_append_cf1ce_29 : decode cJ5_append_cf1ce 29 = .ok (.aload_n 1, 1) := by decide +kernel
theorem dJ5_append_cf1ce_30 : decode cJ5_append_cf1ce 30 = .ok (.invokevirtual 208, 3) := by decide +kernel
theorem dJ5_append_cf1ce_33 : decode cJ5_append_cf1ce 33 = .ok (.aload_n 0, 1) := by decide +kernel
theorem dJ5_append_cf1ce_34 : decode cJ5_append_cf1ce 34 = .ok (.dup, 1) := by decide +kernel
theorem dJ5_append_cf1ce_35 : decode cJ5_append_cf1ce 35 = .ok (.getfield 79, 3) := by decide +kernel
theorem dJ5_append_cf1ce_38 : decode cJ5_append_cf1ce 38 = .ok (.iload_n 2, 1) := by decide +kernel
theorem dJ5_append_cf1ce_39 : decode cJ5_append_cf1ce 39 = .ok (.iadd, 1) := by decide +kernel
theorem dJ5_append_cf1ce_40 : decode cJ5_append_cf1ce 40 = .ok (.putfield 79, 3) := by decide +kernel
theorem dJ5_append_cf1ce_43 : decode cJ5_append_cf1ce 43 = .ok (.aload_n 0, 1) := by decide +kernel
theorem dJ5_append_cf1ce_44 : decode cJ5_append_cf1ce 44 = .ok (.areturn, 1) := by decide +kernel
theorem dJ5_append_3fe6f_0 : decode cJ5_append_3fe6f 0 = .ok (.aload_n 0, 1) := by decide +kernel
theorem dJ5_append_3fe6f_1 : decode cJ5_append_3fe6f 1 = .ok (.aload_n 0, 1) := by decide +kernel
theorem dJ5_append_3fe6f_2 : decode cJ5_append_3fe6f 2 = .ok (.getfield 79, 3) := by decide +kernel
theorem dJ5_append_3fe6f_5 : decode cJ5_append_3fe6f 5 = .ok (.iconst 1, 1) := by decide +kernel
theorem dJ5_append_3fe6f_6 : decode cJ5_append_3fe6f 6 = .ok (.iadd, 1) := by decide +kernel
theorem dJ5_append_3fe6f_7 : decode cJ5_append_3fe6f 7 = .ok (.invokevirtual 100, 3) := by decide +kernel
theorem dJ5_append_3fe6f_10 : decode cJ5_append_3fe6f 10 = .ok (.aload_n 0, 1) := by decide +kernel
theorem dJ5_append_3fe6f_11 : decode cJ5_append_3fe6f 11 = .ok (.invokevirtual 83, 3) := by decide +kernel
theorem dJ5_append_3fe6f_14 : decode cJ5_append_3fe6f 14 = .ok (.ifCond .eq 31, 3) := by decide +kernel
theorem dJ5_append_3fe6f_17 : decode cJ5_append_3fe6f 17 = .ok (.iload_n 1, 1) := by decide +kernel
theorem dJ5_append_3fe6f_18 : decode cJ5_append_3fe6f 18 = .ok (.invokestatic 191, 3) := by decide +kernel
theorem dJ5_append_3fe6f_21 : decode cJ5_append_3fe6f 21 = .ok (.ifCond .eq 24, 3) := by decide +kernel
theorem dJ5_append_3fe6f_24 : decode cJ5_append_3fe6f 24 = .ok (.aload_n 0, 1) := by decide +kernel
theorem dJ5_append_3fe6f_25 : decode cJ5_append_3fe6f 25 = .ok (.getfield 15, 3) := by decide +kernel
theorem dJ5_append_3fe6f_28 : decode cJ5_append_3fe6f 28 = .ok (.aload_n 0, 1) := by decide +kernel
theorem dJ5_append_3fe6f_29 : decode cJ5_append_3fe6f 29 = .ok (.dup, 1) := by decide +kernel
theorem dJ5_append_3fe6f_30 : decode cJ5_append_3fe6f 30 = .ok (.getfield 79, 3) := by decide +kernel
theorem dJ5_append_3fe6f_33 : decode cJ5_append_3fe6f 33 = .ok (.dup_x1, 1) := by decide +kernel
theorem dJ5_append_3fe6f_34 : decode cJ5_append_3fe6f 34 = .ok (.iconst 1, 1) := by decide +kernel
theorem dJ5_append_3fe6f_35 : decode cJ5_append_3fe6f 35 = .ok (.iadd, 1) := by decide +kernel
theorem dJ5_append_3fe6f_36 : decode cJ5_append_3fe6f 36 = .ok (.putfield 79, 3) := by decide +kernel
theorem dJ5_append_3fe6f_39 : decode cJ5_append_3fe6f 39 = .ok (.iload_n 1, 1) := by decide +kernel
theorem dJ5_append_3fe6f_40 : decode cJ5_append_3fe6f 40 = .ok (.i2b, 1) := by decide +kernel
theorem dJ5_append_3fe6f_41 : decode cJ5_append_3fe6f 41 = .ok (.bastore, 1) := by decide +kernel
theorem dJ5_append_3fe6f_42 : decode cJ5_append_3fe6f 42 = .ok (.goto 33, 3) := by decide +kernel
theorem dJ5_append_3fe6f_45 : decode cJ5_append_3fe6f 45 = .ok (.aload_n 0, 1) := by decide +kernel
theorem dJ5_append_3fe6f_46 : decode cJ5_append_3fe6f 46 = .ok (.invokevirtual 83, 3) := by decide +kernel
theorem dJ5_append_3fe6f_49 : decode cJ5_append_3fe6f 49 = .ok (.ifCond .eq 7, 3) := by decide +kernel
theorem dJ5_append_3fe6f_52 : decode cJ5_append_3fe6f 52 = .ok (.aload_n 0, 1) := by decide +kernel
theorem dJ5_append_3fe6f_53 : decode cJ5_append_3fe6f 53 = .ok (.invokevirtual 195, 3) := by decide +kernel
theorem dJ5_append_3fe6f_56 : decode cJ5_append_3fe6f 56 = .ok (.aload_n 0, 1) := by decide +kernel
theorem dJ5_append_3fe6f_57 : decode cJ5_append_3fe6f 57 = .ok (.getfield 15, 3) := by decide +kernel
theorem dJ5_append_3fe6f_60 : decode cJ5_append_3fe6f 60 = .ok (.aload_n 0, 1) := by decide +kernel
theorem dJ5_append_3fe6f_61 : decode cJ5_append_3fe6f 61 = .ok (.dup, 1) := by decide +kernel
theorem dJ5_append_3fe6f_62 : decode cJ5_append_3fe6f 62 = .ok (.getfield 79, 3) := by decide +kernel
theorem dJ5_append_3fe6f_65 : decode cJ5_append_3fe6f 65 = .ok (.dup_x1, 1) := by decide +kernel
theorem dJ5_append_3fe6f_66 : decode cJ5_append_3fe6f 66 = .ok (.iconst 1, 1) := by decide +kernel
theorem dJ5_append_3fe6f_67 : decode cJ5_append_3fe6f 67 = .ok (.iadd, 1) := by decide +kernel
theorem dJ5_append_3fe6f_68 : decode cJ5_append_3fe6f 68 = .ok (.putfield 79, 3) := by decide +kernel
theorem dJ5_append_3fe6f_71 : decode cJ5_append_3fe6f 71 = .ok (.iload_n 1, 1) := by decide +kernel
theorem dJ5_append_3fe6f_72 : decode cJ5_append_3fe6f 72 = .ok (.invokestatic 197, 3) := by decide +kernel
theorem dJ5_append_3fe6f_75 : decode cJ5_append_3fe6f 75 = .ok (.aload_n 0, 1) := by decide +kernel
theorem dJ5_append_3fe6f_76 : decode cJ5_append_3fe6f 76 = .ok (.areturn, 1) := by decide +kernel
theorem dJ5_append_c97b9_0 : decode cJ5_append_c97b9 0 = .ok (.aload_n 0, 1) := by decide +kernel
theorem dJ5_append_c97b9_1 : decode cJ5_append_c97b9 1 = .ok (.getfield 79, 3) := by decide +kernel
theorem dJ5_append_c97b9_4 : decode cJ5_append_c97b9 4 = .ok (.istore_n 2, 1) := by decide +kernel
theorem dJ5_append_c97b9_5 : decode cJ5_append_c97b9 5 = .ok (.iload_n 2, 1) := by decide +kernel
theorem dJ5_append_c97b9_6 : decode cJ5_append_c97b9 6 = .ok (.iload_n 1, 1) := by decide +kernel
theorem dJ5_append_c97b9_7 : decode cJ5_append_c97b9 7 = .ok (.invokestatic 245, 3) := by decide +kernel
theorem dJ5_append_c97b9_10 : decode cJ5_append_c97b9 10 = .ok (.iadd, 1) := by decide +kernel
theorem dJ5_append_c97b9_11 : decode cJ5_append_c97b9 11 = .ok (.istore_n 3, 1) := by decide +kernel
theorem dJ5_append_c97b9_12 : decode cJ5_append_c97b9 12 = .ok (.aload_n 0, 1) := by decide +kernel
theorem dJ5_append_c97b9_13 : decode cJ5_append_c97b9 13 = .ok (.iload_n 3, 1) := by decide +kernel
theorem dJ5_append_c97b9_14 : decode cJ5_append_c97b9 14 = .ok (.invokevirtual 100, 3) := by decide +kernel
theorem dJ5_append_c97b9_17 : decode cJ5_append_c97b9 17 = .ok (.aload_n 0, 1) := by decide +kernel
theorem dJ5_append_c97b9_18 : decode cJ5_append_c97b9 18 = .ok (.invokevirtual 83, 3) := by decide +kernel
theorem dJ5_append_c97b9_21 : decode cJ5_append_c97b9 21 = .ok (.ifCond .eq 16, 3) := by decide +kernel
theorem dJ5_append_c97b9_24 : decode cJ5_append_c97b9 24 = .ok (.iload_n 1, 1) := by decide +kernel
theorem dJ5_append_c97b9_25 : decode cJ5_append_c97b9 25 = .ok (.iload_n 3, 1) := by decide +kernel
theorem dJ5_append_c97b9_26 : decode cJ5_append_c97b9 26 = .ok (.aload_n 0, 1) := by decide +kernel
theorem dJ5_append_c97b9_27 : decode cJ5_append_c97b9 27 = .ok (.getfield 15, 3) := by decide +kernel
theorem dJ5_append_c97b9_30 : decode cJ5_append_c97b9 30 = .ok (.invokestatic 248, 3) := by decide +kernel
theorem dJ5_append_c97b9_33 : decode cJ5_append_c97b9 33 = .ok (.pop, 1) := by decide +kernel
theorem dJ5_append_c97b9_34 : decode cJ5_append_c97b9 34 = .ok (.goto 14, 3) := by decide +kernel
theorem dJ5_append_c97b9_37 : decode cJ5_append_c97b9 37 = .ok (.iload_n 1, 1) := by decide +kernel
theorem dJ5_append_c97b9_38 : decode cJ5_append_c97b9 38 = .ok (.iload_n 2, 1) := by decide +kernel
theorem dJ5_append_c97b9_39 : decode cJ5_append_c97b9 39 = .ok (.iload_n 3, 1) := by decide +kernel
theorem dJ5_append_c97b9_40 : decode cJ5_append_c97b9 40 = .ok (.aload_n 0, 1) := by decide +kernel
theorem dJ5_append_c97b9_41 : decode cJ5_append_c97b9 41 = .ok (.getfield 15, 3) := by decide +kernel
theorem dJ5_append_c97b9_44 : decode cJ5_append_c97b9 44 = .ok (.invokestatic 251, 3) := by decide +kernel
theorem dJ5_append_c97b9_47 : decode cJ5_append_c97b9 47 = .ok (.pop, 1) := by decide +kernel
theorem dJ5_append_c97b9_48 : decode cJ5_append_c97b9 48 = .ok (.aload_n 0, 1) := by decide +kernel
theorem dJ5_append_c97b9_49 : decode cJ5_append_c97b9 49 = .ok (.iload_n 3, 1) := by decide +kernel
theorem dJ5_append_c97b9_50 : decode cJ5_append_c97b9 50 = .ok (.putfield 79, 3) := by decide +kernel
theorem dJ5_append_c97b9_53 : decode cJ5_append_c97b9 53 = .ok (.aload_n 0, 1) := by decide +kernel
theorem dJ5_append_c97b9_54 : decode cJ5_append_c97b9 54 = .ok (.areturn, 1) := by decide +kernel
theorem dJ5_getValue_6d5f1_0 : decode cJ5_getValue_6d5f1 0 = .ok (.aload_n 0, 1) := by decide +kernel
theorem dJ5_getValue_6d5f1_1 : decode cJ5_getValue_6d5f1 1 = .ok (.getfield 15, 3) := by decide +kernel
theorem dJ5_getValue_6d5f1_4 : decode cJ5_getValue_6d5f1 4 = .ok (.areturn, 1) := by decide +kernel
theorem dJ5_isLatin1_aae02_0 : decode cJ5_isLatin1_aae02 0 = .ok (.getstatic 18, 3) := by decide +kernel
theorem dJ5_isLatin1_aae02_3 : decode cJ5_isLatin1_aae02 3 = .ok (.ifCond .eq 14, 3) := by decide +kernel
theorem dJ5_isLatin1_aae02_6 : decode cJ5_isLatin1_aae02 6 = .ok (.aload_n 0, 1) := by decide +kernel
theorem dJ5_isLatin1_aae02_7 : decode cJ5_isLatin1_aae02 7 = .ok (.getfield 22, 3) := by decide +kernel
theorem dJ5_isLatin1_aae02_10 : decode cJ5_isLatin1_aae02 10 = .ok (.ifCond .ne 7, 3) := by decide +kernel
theorem dJ5_isLatin1_aae02_13 : decode cJ5_isLatin1_aae02 13 = .ok (.iconst 1, 1) := by decide +kernel
theorem dJ5_isLatin1_aae02_14 : decode cJ5_isLatin1_aae02 14 = .ok (.goto 4, 3) := by decide +kernel
theorem dJ5_isLatin1_aae02_17 : decode cJ5_isLatin1_aae02 17 = .ok (.iconst 0, 1) := by decide +kernel
theorem dJ5_isLatin1_aae02_18 : decode cJ5_isLatin1_aae02 18 = .ok (.ireturn, 1) := by decide +kernel
theorem dJ5_putStringAt_47b60_0 : decode cJ5_putStringAt_47b60 0 = .ok (.aload_n 0, 1) := by decide +kernel
theorem dJ5_putStringAt_47b60_1 : decode cJ5_putStringAt_47b60 1 = .ok (.aload_n 2, 1) := by decide +kernel
theorem dJ5_putStringAt_47b60_2 : decode cJ5_putStringAt_47b60 2 = .ok (.invokevirtual 397, 3) := by decide +kernel
theorem dJ5_putStringAt_47b60_5 : decode cJ5_putStringAt_47b60 5 = .ok (.aload_n 2, 1) := by decide +kernel
theorem dJ5_putStringAt_47b60_6 : decode cJ5_putStringAt_47b60 6 = .ok (.aload_n 0, 1) := by decide +kernel
theorem dJ5_putStringAt_47b60_7 : decode cJ5_putStringAt_47b60 7 = .ok (.getfield 15, 3) := by decide +kernel
theorem dJ5_putStringAt_47b60_10 : decode cJ5_putStringAt_47b60 10 = .ok (.iload_n 1, 1) := by decide +kernel
theorem dJ5_putStringAt_47b60_11 : decode cJ5_putStringAt_47b60 11 = .ok (.aload_n 0, 1) := by decide +kernel
theorem dJ5_putStringAt_47b60_12 : decode cJ5_putStringAt_47b60 12 = .ok (.getfield 22, 3) := by decide +kernel
theorem dJ5_putStringAt_47b60_15 : decode cJ5_putStringAt_47b60 15 = .ok (.invokevirtual 399, 3) := by decide +kernel
theorem dJ5_putStringAt_47b60_18 : decode cJ5_putStringAt_47b60 18 = .ok (.return_, 1) := by decide +kernel
theorem dJ6_getChars_ba4f3_0 : decode cJ6_getChars_ba4f3 0 = .ok (.iload_n 1, 1) := by decide +kernel
theorem dJ6_getChars_ba4f3_1 : decode cJ6_getChars_ba4f3 1 = .ok (.istore 5, 2) := by decide +kernel
theorem dJ6_getChars_ba4f3_3 : decode cJ6_getChars_ba4f3 3 = .ok (.iload_n 0, 1) := by decide +kernel
theorem dJ6_getChars_ba4f3_4 : decode cJ6_getChars_ba4f3 4 = .ok (.ifCond .ge 7, 3) := by decide +kernel
theorem dJ6_getChars_ba4f3_7 : decode cJ6_getChars_ba4f3 7 = .ok (.iconst 1, 1) := by decide +kernel
theorem dJ6_getChars_ba4f3_8 : decode cJ6_getChars_ba4f3 8 = .ok (.goto 4, 3) := by decide +kernel
theorem dJ6_getChars_ba4f3_11 : decode cJ6_getChars_ba4f3 11 = .ok (.iconst 0, 1) := by decide +kernel
theorem dJ6_getChars_ba4f3_12 : decode cJ6_getChars_ba4f3 12 = .ok (.istore 6, 2) := by decide +kernel
theorem dJ6_getChars_ba4f3_14 : decode cJ6_getChars_ba4f3 14 = .ok (.iload 6, 2) := by decide +kernel
theorem dJ6_getChars_ba4f3_16 : decode cJ6_getChars_ba4f3 16 = .ok (.ifCond .ne 6, 3) := by decide +kernel
theorem dJ6_getChars_ba4f3_19 : decode cJ6_getChars_ba4f3 19 = .ok (.iload_n 0, 1) := by decide +kernel
theorem dJ6_getChars_ba4f3_20 : decode cJ6_getChars_ba4f3 20 = .ok (.ineg, 1) := by decide +kernel
theorem dJ6_getChars_ba4f3_21 : decode cJ6_getChars_ba4f3 21 = .ok (.istore_n 0, 1) := by decide +kernel
theorem dJ6_getChars_ba4f3_22 : decode cJ6_getChars_ba4f3 22 = .ok (.iload_n 0, 1) := by decide +kernel
theorem dJ6_getChars_ba4f3_23 : decode cJ6_getChars_ba4f3 23 = .ok (.bipush (-100), 2) := by decide +kernel
theorem dJ6_getChars_ba4f3_25 : decode cJ6_getChars_ba4f3 25 = .ok (.if_icmp .gt 47, 3) := by decide +kernel
theorem dJ6_getChars_ba4f3_28 : decode cJ6_getChars_ba4f3 28 = .ok (.iload_n 0, 1) := by decide +kernel
theorem dJ6_getChars_ba4f3_29 : decode cJ6_getChars_ba4f3 29 = .ok (.bipush 100, 2) := by decide +kernel
theorem dJ6_getChars_ba4f3_31 : decode cJ6_getChars_ba4f3 31 = .ok (.idiv, 1) := by decide +kernel
theorem dJ6_getChars_ba4f3_32 : decode cJ6_getChars_ba4f3 32 = .ok (.istore_n 3, 1) := by decide +kernel
theorem dJ6_getChars_ba4f3_33 : decode cJ6_getChars_ba4f3 33 = .ok (.iload_n 3, 1) := by decide +kernel
theorem dJ6_getChars_ba4f3_34 : decode cJ6_getChars_ba4f3 34 = .ok (.bipush 100, 2) := by decide +kernel
theorem dJ6_getChars_ba4f3_36 : decode cJ6_getChars_ba4f3 36 = .ok (.imul, 1) := by decide +kernel
theorem dJ6_getChars_ba4f3_37 : decode cJ6_getChars_ba4f3 37 = .ok (.iload_n 0, 1) := by decide +kernel
theorem dJ6_getChars_ba4f3_38 : decode cJ6_getChars_ba4f3 38 = .ok (.isub, 1) := by decide +kernel
theorem dJ6_getChars_ba4f3_39 : decode cJ6_getChars_ba4f3 39 = .ok (.istore 4, 2) := by decide +kernel
theorem dJ6_getChars_ba4f3_41 : decode cJ6_getChars_ba4f3 41 = .ok (.iload_n 3, 1) := by decide +kernel
theorem dJ6_getChars_ba4f3_42 : decode cJ6_getChars_ba4f3 42 = .ok (.istore_n 0, 1) := by decide +kernel
theorem dJ6_getChars_ba4f3_43 : decode cJ6_getChars_ba4f3 43 = .ok (.aload_n 2, 1) := by decide +kernel
theorem dJ6_getChars_ba4f3_44 : decode cJ6_getChars_ba4f3 44 = .ok (.iinc 5 (-1), 3) := by decide +kernel
theorem dJ6_getChars_ba4f3_47 : decode cJ6_getChars_ba4f3 47 = .ok (.iload 5, 2) := by decide +kernel
theorem dJ6_getChars_ba4f3_49 : decode cJ6_getChars_ba4f3 49 = .ok (.getstatic 83, 3) := by decide +kernel
theorem dJ6_getChars_ba4f3_52 : decode cJ6_getChars_ba4f3 52 = .ok (.iload 4, 2) := by decide +kernel
theorem dJ6_getChars_ba4f3_54 : decode cJ6_getChars_ba4f3 54 = .ok (.baload, 1) := by decide +kernel
theorem dJ6_getChars_ba4f3_55 : decode cJ6_getChars_ba4f3 55 = .ok (.bastore, 1) := by decide +kernel
theorem dJ6_getChars_ba4f3_56 : decode cJ6_getChars_ba4f3 56 = .ok (.aload_n 2, 1) := by decide +kernel
theorem dJ6_getChars_ba4f3_57 : decode cJ6_getChars_ba4f3 57 = .ok (.iinc 5 (-1), 3) := by decide +kernel
theorem dJ6_getChars_ba4f3_60 : decode cJ6_getChars_ba4f3 60 = .ok (.iload 5, 2) := by decide +kernel
theorem dJ6_getChars_ba4f3_62 : decode cJ6_getChars_ba4f3 62 = .ok (.getstatic 87, 3) := by decide +kernel
theorem dJ6_getChars_ba4f3_65 : decode cJ6_getChars_ba4f3 65 = .ok (.iload 4, 2) := by decide +kernel
theorem dJ6_getChars_ba4f3_67 : decode cJ6_getChars_ba4f3 67 = .ok (.baload, 1) := by decide +kernel
theorem dJ6_getChars_ba4f3_68 : decode cJ6_getChars_ba4f3 68 = .ok (.bastore, 1) := by decide +kernel
theorem dJ6_getChars_ba4f3_69 : decode cJ6_getChars_ba4f3 69 = .ok (.goto (-47), 3) := by decide +kernel
theorem dJ6_getChars_ba4f3_72 : decode cJ6_getChars_ba4f3 72 = .ok (.aload_n 2, 1) := by decide +kernel
theorem dJ6_getChars_ba4f3_73 : decode cJ6_getChars_ba4f3 73 = .ok (.iinc 5 (-1), 3) := by decide +kernel
theorem dJ6_getChars_ba4f3_76 : decode cJ6_getChars_ba4f3 76 = .ok (.iload 5, 2) := by decide +kernel
theorem dJ6_getChars_ba4f3_78 : decode cJ6_getChars_ba4f3 78 = .ok (.getstatic 83, 3) := by decide +kernel
theorem dJ6_getChars_ba4f3_81 : decode cJ6_getChars_ba4f3 81 = .ok (.iload_n 0, 1) := by decide +kernel
theorem dJ6_getChars_ba4f3_82 : decode cJ6_getChars_ba4f3 82 = .ok (.ineg, 1) := by decide +kernel
theorem dJ6_getChars_ba4f3_83 : decode cJ6_getChars_ba4f3 83 = .ok (.baload, 1) := by decide +kernel
theorem dJ6_getChars_ba4f3_84 : decode cJ6_getChars_ba4f3 84 = .ok (.bastore, 1) := by decide +kernel
theorem dJ6_getChars_ba4f3_85 : decode cJ6_getChars_ba4f3 85 = .ok (.iload_n 0, 1) := by decide +kernel
theorem dJ6_getChars_ba4f3_86 : decode cJ6_getChars_ba4f3 86 = .ok (.bipush (-9), 2) := by decide +kernel
theorem dJ6_getChars_ba4f3_88 : decode cJ6_getChars_ba4f3 88 = .ok (.if_icmp .ge 16, 3) := by decide +kernel
theorem dJ6_getChars_ba4f3_91 : decode cJ6_getChars_ba4f3 91 = .ok (.aload_n 2, 1) := by decide +kernel
theorem dJ6_getChars_ba4f3_92 : decode cJ6_getChars_ba4f3 92 = .ok (.iinc 5 (-1), 3) := by decide +kernel
theorem dJ6_getChars_ba4f3_95 : decode cJ6_getChars_ba4f3 95 = .ok (.iload 5, 2) := by decide +kernel
theorem dJ6_getChars_ba4f3_97 : decode cJ6_getChars_ba4f3 97 = .ok (.getstatic 87, 3) := by decide +kernel
theorem dJ6_getChars_ba4f3_100 : decode cJ6_getChars_ba4f3 100 = .ok (.iload_n 0, 1) := by decide +kernel
theorem dJ6_getChars_ba4f3_101 : decode cJ6_getChars_ba4f3 101 = .ok (.ineg, 1) := by decide +kernel
theorem dJ6_getChars_ba4f3_102 : decode cJ6_getChars_ba4f3 102 = .ok (.baload, 1) := by decide +kernel
theorem dJ6_getChars_ba4f3_103 : decode cJ6_getChars_ba4f3 103 = .ok (.bastore, 1) := by decide +kernel
theorem dJ6_getChars_ba4f3_104 : decode cJ6_getChars_ba4f3 104 = .ok (.iload 6, 2) := by decide +kernel
theorem dJ6_getChars_ba4f3_106 : decode cJ6_getChars_ba4f3 106 = .ok (.ifCond .eq 12, 3) := by decide +kernel
theorem dJ6_getChars_ba4f3_109 : decode cJ6_getChars_ba4f3 109 = .ok (.aload_n 2, 1) := by decide +kernel
theorem dJ6_getChars_ba4f3_110 : decode cJ6_getChars_ba4f3 110 = .ok (.iinc 5 (-1), 3) := by decide +kernel
theorem dJ6_getChars_ba4f3_113 : decode cJ6_getChars_ba4f3 113 = .ok (.iload 5, 2) := by decide +kernel
theorem dJ6_getChars_ba4f3_115 : decode cJ6_getChars_ba4f3 115 = .ok (.bipush 45, 2) := by decide +kernel
theorem dJ6_getChars_ba4f3_117 : decode cJ6_getChars_ba4f3 117 = .ok (.bastore, 1) := by decide +kernel
theorem dJ6_getChars_ba4f3_118 : decode cJ6_getChars_ba4f3 118 = .ok (.iload 5, 2) := by decide +kernel
theorem dJ6_getChars_ba4f3_120 : decode cJ6_getChars_ba4f3 120 = .ok (.ireturn, 1) := by decide +kernel
theorem dJ6_stringSize_0f7a4_0 : decode cJ6_stringSize_0f7a4 0 = .ok (.iconst 1, 1) := by decide +kernel
theorem dJ6_stringSize_0f7a4_1 : decode cJ6_stringSize_0f7a4 1 = .ok (.istore_n 1, 1) := by decide +kernel
theorem dJ6_stringSize_0f7a4_2 : decode cJ6_stringSize_0f7a4 2 = .ok (.iload_n 0, 1) := by decide +kernel
theorem dJ6_stringSize_0f7a4_3 : decode cJ6_stringSize_0f7a4 3 = .ok (.ifCond .lt 8, 3) := by decide +kernel
theorem dJ6_stringSize_0f7a4_6 : decode cJ6_stringSize_0f7a4 6 = .ok (.iconst 0, 1) := by decide +kernel
theorem dJ6_stringSize_0f7a4_7 : decode cJ6_stringSize_0f7a4 7 = .ok (.istore_n 1, 1) := by decide +kernel
theorem dJ6_stringSize_0f7a4_8 : decode cJ6_stringSize_0f7a4 8 = .ok (.iload_n 0, 1) := by decide +kernel
theorem dJ6_stringSize_0f7a4_9 : decode cJ6_stringSize_0f7a4 9 = .ok (.ineg, 1) := by decide +kernel
theorem dJ6_stringSize_0f7a4_10 : decode cJ6_stringSize_0f7a4 10 = .ok (.istore_n 0, 1) := by decide +kernel
theorem dJ6_stringSize_0f7a4_11 : decode cJ6_stringSize_0f7a4 11 = .ok (.bipush (-10), 2) := by decide +kernel
theorem dJ6_stringSize_0f7a4_13 : decode cJ6_stringSize_0f7a4 13 = .ok (.istore_n 2, 1) := by decide +kernel
theorem dJ6_stringSize_0f7a4_14 : decode cJ6_stringSize_0f7a4 14 = .ok (.iconst 1, 1) := by decide +kernel
theorem dJ6_stringSize_0f7a4_15 : decode cJ6_stringSize_0f7a4 15 = .ok (.istore_n 3, 1) := by decide +kernel
theorem dJ6_stringSize_0f7a4_16 : decode cJ6_stringSize_0f7a4 16 = .ok (.iload_n 3, 1) := by decide +kernel
theorem dJ6_stringSize_0f7a4_17 : decode cJ6_stringSize_0f7a4 17 = .ok (.bipush 10, 2) := by decide +kernel
theorem dJ6_stringSize_0f7a4_19 : decode cJ6_stringSize_0f7a4 19 = .ok (.if_icmp .ge 23, 3) := by decide +kernel
theorem dJ6_stringSize_0f7a4_22 : decode cJ6_stringSize_0f7a4 22 = .ok (.iload_n 0, 1) := by decide +kernel
theorem dJ6_stringSize_0f7a4_23 : decode cJ6_stringSize_0f7a4 23 = .ok (.iload_n 2, 1) := by decide +kernel
theorem dJ6_stringSize_0f7a4_24 : decode cJ6_stringSize_0f7a4 24 = .ok (.if_icmp .le 7, 3) := by decide +kernel
theorem dJ6_stringSize_0f7a4_27 : decode cJ6_stringSize_0f7a4 27 = .ok (.iload_n 3, 1) := by decide +kernel
theorem dJ6_stringSize_0f7a4_28 : decode cJ6_stringSize_0f7a4 28 = .ok (.iload_n 1, 1) := by decide +kernel
theorem dJ6_stringSize_0f7a4_29 : decode cJ6_stringSize_0f7a4 29 = .ok (.iadd, 1) := by decide +kernel
theorem dJ6_stringSize_0f7a4_30 : decode cJ6_stringSize_0f7a4 30 = .ok (.ireturn, 1) := by decide +kernel
theorem dJ6_stringSize_0f7a4_31 : decode cJ6_stringSize_0f7a4 31 = .ok (.bipush 10, 2) := by decide +kernel
theorem dJ6_stringSize_0f7a4_33 : decode cJ6_stringSize_0f7a4 33 = .ok (.iload_n 2, 1) := by decide +kernel
theorem dJ6_stringSize_0f7a4_34 : decode cJ6_stringSize_0f7a4 34 = .ok (.imul, 1) := by decide +kernel
theorem dJ6_stringSize_0f7a4_35 : decode cJ6_stringSize_0f7a4 35 = .ok (.istore_n 2, 1) := by decide +kernel
theorem dJ6_stringSize_0f7a4_36 : decode cJ6_stringSize_0f7a4 36 = .ok (.iinc 3 1, 3) := by decide +kernel
theorem dJ6_stringSize_0f7a4_39 : decode cJ6_stringSize_0f7a4 39 = .ok (.goto (-23), 3) := by decide +kernel
theorem dJ6_stringSize_0f7a4_42 : decode cJ6_stringSize_0f7a4 42 = .ok (.bipush 10, 2) := by decide +kernel
theorem dJ6_stringSize_0f7a4_44 : decode cJ6_stringSize_0f7a4 44 = .ok (.iload_n 1, 1) := by decide +kernel
theorem dJ6_stringSize_0f7a4_45 : decode cJ6_stringSize_0f7a4 45 = .ok (.iadd, 1) := by decide +kernel
theorem dJ6_stringSize_0f7a4_46 : decode cJ6_stringSize_0f7a4 46 = .ok (.ireturn, 1) := by decide +kernel
theorem dJ13_compare_74951_0 : decode cJ13_compare_74951 0 = .ok (.lload_n 0, 1) := by decide +kernel
theorem dJ13_compare_74951_1 : decode cJ13_compare_74951 1 = .ok (.lload_n 2, 1) := by decide +kernel
theorem dJ13_compare_74951_2 : decode cJ13_compare_74951 2 = .ok (.lcmp, 1) := by decide +kernel
theorem dJ13_compare_74951_3 : decode cJ13_compare_74951 3 = .ok (.ifCond .ge 7, 3) := by decide +kernel
theorem dJ13_compare_74951_6 : decode cJ13_compare_74951 6 = .ok (.iconst (-1), 1) := by decide +kernel
theorem dJ13_compare_74951_7 : decode cJ13_compare_74951 7 = .ok (.goto 14, 3) := by decide +kernel
theorem dJ13_compare_74951_10 : decode cJ13_compare_74951 10 = .ok (.lload_n 0, 1) := by decide +kernel
theorem dJ13_compare_74951_11 : decode cJ13_compare_74951 11 = .ok (.lload_n 2, 1) := by decide +kernel
theorem dJ13_compare_74951_12 : decode cJ13_compare_74951 12 = .ok (.lcmp, 1) := by decide +kernel
theorem dJ13_compare_74951_13 : decode cJ13_compare_74951 13 = .ok (.ifCond .ne 7, 3) := by decide +kernel
theorem dJ13_compare_74951_16 : decode cJ13_compare_74951 16 = .ok (.iconst 0, 1) := by decide +kernel
theorem dJ13_compare_74951_17 : decode cJ13_compare_74951 17 = .ok (.goto 4, 3) := by decide +kernel
theorem dJ13_compare_74951_20 : decode cJ13_compare_74951 20 = .ok (.iconst 1, 1) := by decide +kernel
theorem dJ13_compare_74951_21 : decode cJ13_compare_74951 21 = .ok (.ireturn, 1) := by decide +kernel
theorem dJ0_init_81219_0 : decode cJ0_init_81219 0 = .ok (.aload_n 0, 1) := by decide +kernel
theorem dJ0_init_81219_1 : decode cJ0_init_81219 1 = .ok (.aload_n 1, 1) := by decide +kernel
theorem dJ0_init_81219_2 : decode cJ0_init_81219 2 = .ok (.aconst_null, 1) := by decide +kernel
theorem dJ0_init_81219_3 : decode cJ0_init_81219 3 = .ok (.invokespecial 489, 3) := by decide +kernel
theorem dJ0_init_81219_6 : decode cJ0_init_81219 6 = .ok (.return_, 1) := by decide +kernel
theorem dJ0_length_8abf5_0 : decode cJ0_length_8abf5 0 = .ok (.aload_n 0, 1) := by decide +kernel
theorem dJ0_length_8abf5_1 : decode cJ0_length_8abf5 1 = .ok (.getfield 9, 3) := by decide +kernel
theorem dJ0_length_8abf5_4 : decode cJ0_length_8abf5 4 = .ok (.arraylength, 1) := by decide +kernel
theorem dJ0_length_8abf5_5 : decode cJ0_length_8abf5 5 = .ok (.aload_n 0, 1) := by decide +kernel
theorem dJ0_length_8abf5_6 : decode cJ0_length_8abf5 6 = .ok (.invokevirtual 335, 3) := by decide +kernel
theorem dJ0_length_8abf5_9 : decode cJ0_length_8abf5 9 = .ok (.ishr, 1) := by decide +kernel
theorem dJ0_length_8abf5_10 : decode cJ0_length_8abf5 10 = .ok (.ireturn, 1) := by decide +kernel
theorem dJ0_charAt_5068e_0 : decode cJ0_charAt_5068e 0 = .ok (.aload_n 0, 1) := by decide +kernel
theorem dJ0_charAt_5068e_1 : decode cJ0_charAt_5068e 1 = .ok (.invokevirtual 492, 3) := by decide +kernel
theorem dJ0_charAt_5068e_4 : decode cJ0_charAt_5068e 4 = .ok (.ifCond .eq 12, 3) := by decide +kernel
theorem dJ0_charAt_5068e_7 : decode cJ0_charAt_5068e 7 = .ok (.aload_n 0, 1) := by decide +kernel
theorem dJ0_charAt_5068e_8 : decode cJ0_charAt_5068e 8 = .ok (.getfield 9, 3) := by decide +kernel
theorem dJ0_charAt_5068e_11 : decode cJ0_charAt_5068e 11 = .ok (.iload_n 1, 1) := by decide +kernel
theorem dJ0_charAt_5068e_12 : decode cJ0_charAt_5068e 12 = .ok (.invokestatic 495, 3) := by decide +kernel
theorem dJ0_charAt_5068e_15 : decode cJ0_charAt_5068e 15 = .ok (.ireturn, 1) := by decide +kernel
theorem dJ0_charAt_5068e_16 : decode cJ0_charAt_5068e 16 = .ok (.aload_n 0, 1) := by decide +kernel
theorem dJ0_charAt_5068e_17 : decode cJ0_charAt_5068e 17 = .ok (.getfield 9, 3) := by decide +kernel
theorem dJ0_charAt_5068e_20 : decode cJ0_charAt_5068e 20 = .ok (.iload_n 1, 1) := by decide +kernel
theorem dJ0_charAt_5068e_21 : decode cJ0_charAt_5068e 21 = .ok (.invokestatic 498, 3) := by decide +kernel
theorem dJ0_charAt_5068e_24 : decode cJ0_charAt_5068e 24 = .ok (.ireturn, 1) := by decide +kernel
theorem dJ0_getBytes_840e7_0 : decode cJ0_getBytes_840e7 0 = .ok (.aload_n 0, 1) := by decide +kernel
theorem dJ0_getBytes_840e7_1 : decode cJ0_getBytes_840e7 1 = .ok (.invokevirtual 335, 3) := by decide +kernel
theorem dJ0_getBytes_840e7_4 : decode cJ0_getBytes_840e7 4 = .ok (.iload_n 3, 1) := by decide +kernel
theorem dJ0_getBytes_840e7_5 : decode cJ0_getBytes_840e7 5 = .ok (.if_icmp .ne 23, 3) := by decide +kernel
theorem dJ0_getBytes_840e7_8 : decode cJ0_getBytes_840e7 8 = .ok (.aload_n 0, 1) := by decide +kernel
theorem dJ0_getBytes_840e7_9 : decode cJ0_getBytes_840e7 9 = .ok (.getfield 9, 3) := by decide +kernel
theorem dJ0_getBytes_840e7_12 : decode cJ0_getBytes_840e7 12 = .ok (.iconst 0, 1) := by decide +kernel
theorem dJ0_getBytes_840e7_13 : decode cJ0_getBytes_840e7 13 = .ok (.aload_n 1, 1) := by decide +kernel
theorem dJ0_getBytes_840e7_14 : decode cJ0_getBytes_840e7 14 = .ok (.iload_n 2, 1) := by decide +kernel
theorem dJ0_getBytes_840e7_15 : decode cJ0_getBytes_840e7 15 = .ok (.iload_n 3, 1) := by decide +kernel
theorem dJ0_getBytes_840e7_16 : decode cJ0_getBytes_840e7 16 = .ok (.ishl, 1) := by decide +kernel
theorem dJ0_getBytes_840e7_17 : decode cJ0_getBytes_840e7 17 = .ok (.aload_n 0, 1) := by decide +kernel
theorem dJ0_getBytes_840e7_18 : decode cJ0_getBytes_840e7 18 = .ok (.getfield 9, 3) := by decide +kernel
theorem dJ0_getBytes_840e7_21 : decode cJ0_getBytes_840e7 21 = .ok (.arraylength, 1) := by decide +kernel
theorem dJ0_getBytes_840e7_22 : decode cJ0_getBytes_840e7 22 = .ok (.invokestatic 212, 3) := by decide +kernel
theorem dJ0_getBytes_840e7_25 : decode cJ0_getBytes_840e7 25 = .ok (.goto 18, 3) := by decide +kernel
theorem dJ0_getBytes_840e7_28 : decode cJ0_getBytes_840e7 28 = .ok (.aload_n 0, 1) := by decide +kernel
theorem dJ0_getBytes_840e7_29 : decode cJ0_getBytes_840e7 29 = .ok (.getfield 9, 3) := by decide +kernel
theorem dJ0_getBytes_840e7_32 : decode cJ0_getBytes_840e7 32 = .ok (.iconst 0, 1) := by decide +kernel
theorem dJ0_getBytes_840e7_33 : decode cJ0_getBytes_840e7 33 = .ok (.aload_n 1, 1) := by decide +kernel
theorem dJ0_getBytes_840e7_34 : decode cJ0_getBytes_840e7 34 = .ok (.iload_n 2, 1) := by decide +kernel
theorem dJ0_getBytes_840e7_35 : decode cJ0_getBytes_840e7 35 = .ok (.aload_n 0, 1) := by decide +kernel
theorem dJ0_getBytes_840e7_36 : decode cJ0_getBytes_840e7 36 = .ok (.getfield 9, 3) := by decide +kernel
theorem dJ0_getBytes_840e7_39 : decode cJ0_getBytes_840e7 39 = .ok (.arraylength, 1) := by decide +kernel
theorem dJ0_getBytes_840e7_40 : decode cJ0_getBytes_840e7 40 = .ok (.invokestatic 106, 3) := by decide +kernel
theorem dJ0_getBytes_840e7_43 : decode cJ0_getBytes_840e7 43 = .ok (.return_, 1) := by decide +kernel
theorem dJ0_init_db425_0 : decode cJ0_init_db425 0 = .ok (.aload_n 0, 1) := by decide +kernel
theorem dJ0_init_db425_1 : decode cJ0_init_db425 1 = .ok (.invokespecial 1, 3) := by decide +kernel
theorem dJ0_init_db425_4 : decode cJ0_init_db425 4 = .ok (.aload_n 1, 1) := by decide +kernel
theorem dJ0_init_db425_5 : decode cJ0_init_db425 5 = .ok (.invokevirtual 552, 3) := by decide +kernel
theorem dJ0_init_db425_8 : decode cJ0_init_db425 8 = .ok (.astore_n 3, 1) := by decide +kernel
theorem dJ0_init_db425_9 : decode cJ0_init_db425 9 = .ok (.aload_n 1, 1) := by decide +kernel
theorem dJ0_init_db425_10 : decode cJ0_init_db425 10 = .ok (.invokevirtual 549, 3) := by decide +kernel
theorem dJ0_init_db425_13 : decode cJ0_init_db425 13 = .ok (.istore 4, 2) := by decide +kernel
theorem dJ0_init_db425_15 : decode cJ0_init_db425 15 = .ok (.aload_n 1, 1) := by decide +kernel
theorem dJ0_init_db425_16 : decode cJ0_init_db425 16 = .ok (.invokevirtual 1047, 3) := by decide +kernel
theorem dJ0_init_db425_19 : decode cJ0_init_db425 19 = .ok (.ifCond .eq 22, 3) := by decide +kernel
theorem dJ0_init_db425_22 : decode cJ0_init_db425 22 = .ok (.aload_n 0, 1) := by decide +kernel
theorem dJ0_init_db425_23 : decode cJ0_init_db425 23 = .ok (.iconst 0, 1) := by decide +kernel
theorem dJ0_init_db425_24 : decode cJ0_init_db425 24 = .ok (.putfield 15, 3) := by decide +kernel
theorem dJ0_init_db425_27 : decode cJ0_init_db425 27 = .ok (.aload_n 0, 1) := by decide +kernel
theorem dJ0_init_db425_28 : decode cJ0_init_db425 28 = .ok (.aload_n 3, 1) := by decide +kernel
theorem dJ0_init_db425_29 : decode cJ0_init_db425 29 = .ok (.iconst 0, 1) := by decide +kernel
theorem dJ0_init_db425_30 : decode cJ0_init_db425 30 = .ok (.iload 4, 2) := by decide +kernel
theorem dJ0_init_db425_32 : decode cJ0_init_db425 32 = .ok (.invokestatic 54, 3) := by decide +kernel
theorem dJ0_init_db425_35 : decode cJ0_init_db425 35 = .ok (.putfield 9, 3) := by decide +kernel
theorem dJ0_init_db425_38 : decode cJ0_init_db425 38 = .ok (.goto 59, 3) := by decide +kernel
theorem dJ0_init_db425_41 : decode cJ0_init_db425 41 = .ok (.getstatic 38, 3) := by decide +kernel
theorem dJ0_init_db425_44 : decode cJ0_init_db425 44 = .ok (.ifCond .eq 35, 3) := by decide +kernel
theorem dJ0_init_db425_47 : decode cJ0_init_db425 47 = .ok (.aload_n 1, 1) := by decide +kernel
theorem dJ0_init_db425_48 : decode cJ0_init_db425 48 = .ok (.getfield 1048, 3) := by decide +kernel
theorem dJ0_init_db425_51 : decode cJ0_init_db425 51 = .ok (.ifCond .eq 28, 3) := by decide +kernel
theorem dJ0_init_db425_54 : decode cJ0_init_db425 54 = .ok (.aload_n 0, 1) := by decide +kernel
theorem dJ0_init_db425_55 : decode cJ0_init_db425 55 = .ok (.aload_n 3, 1) := by decide +kernel
theorem dJ0_init_db425_56 : decode cJ0_init_db425 56 = .ok (.iconst 0, 1) := by decide +kernel
theorem dJ0_init_db425_57 : decode cJ0_init_db425 57 = .ok (.iload 4, 2) := by decide +kernel
theorem dJ0_init_db425_59 : decode cJ0_init_db425 59 = .ok (.invokestatic 1051, 3) := by decide +kernel
theorem dJ0_init_db425_62 : decode cJ0_init_db425 62 = .ok (.putfield 9, 3) := by decide +kernel
theorem dJ0_init_db425_65 : decode cJ0_init_db425 65 = .ok (.aload_n 0, 1) := by decide +kernel
theorem dJ0_init_db425_66 : decode cJ0_init_db425 66 = .ok (.aload_n 0, 1) := by decide +kernel
theorem dJ0_init_db425_67 : decode cJ0_init_db425 67 = .ok (.getfield 9, 3) := by decide +kernel
theorem dJ0_init_db425_70 : decode cJ0_init_db425 70 = .ok (.iload 4, 2) := by decide +kernel
theorem dJ0_init_db425_72 : decode cJ0_init_db425 72 = .ok (.invokestatic 47, 3) := by decide +kernel
theorem dJ0_init_db425_75 : decode cJ0_init_db425 75 = .ok (.putfield 15, 3) := by decide +kernel
theorem dJ0_init_db425_78 : decode cJ0_init_db425 78 = .ok (.return_, 1) := by decide +kernel
theorem dJ0_init_db425_79 : decode cJ0_init_db425 79 = .ok (.aload_n 0, 1) := by decide +kernel
theorem dJ0_init_db425_80 : decode cJ0_init_db425 80 = .ok (.iconst 1, 1) := by decide +kernel
theorem dJ0_init_db425_81 : decode cJ0_init_db425 81 = .ok (.putfield 15, 3) := by decide +kernel
theorem dJ0_init_db425_84 : decode cJ0_init_db425 84 = .ok (.aload_n 0, 1) := by decide +kernel
theorem dJ0_init_db425_85 : decode cJ0_init_db425 85 = .ok (.aload_n 3, 1) := by decide +kernel
theorem dJ0_init_db425_86 : decode cJ0_init_db425 86 = .ok (.iconst 0, 1) := by decide +kernel
theorem dJ0_init_db425_87 : decode cJ0_init_db425 87 = .ok (.iload 4, 2) := by decide +kernel
theorem dJ0_init_db425_89 : decode cJ0_init_db425 89 = .ok (.iconst 1, 1) := by decide +kernel
theorem dJ0_init_db425_90 : decode cJ0_init_db425 90 = .ok (.ishl, 1) := by decide +kernel
theorem dJ0_init_db425_91 : decode cJ0_init_db425 91 = .ok (.invokestatic 54, 3) := by decide +kernel
theorem dJ0_init_db425_94 : decode cJ0_init_db425 94 = .ok (.putfield 9, 3) := by decide +kernel
theorem dJ0_init_db425_97 : decode cJ0_init_db425 97 = .ok (.return_, 1) := by decide +kernel
theorem dJ0_coder_7d493_0 : decode cJ0_coder_7d493 0 = .ok (.getstatic 38, 3) := by decide +kernel
theorem dJ0_coder_7d493_3 : decode cJ0_coder_7d493 3 = .ok (.ifCond .eq 10, 3) := by decide +kernel
theorem dJ0_coder_7d493_6 : decode cJ0_coder_7d493 6 = .ok (.aload_n 0, 1) := by decide +kernel
theorem dJ0_coder_7d493_7 : decode cJ0_coder_7d493 7 = .ok (.getfield 15, 3) := by decide +kernel
theorem dJ0_coder_7d493_10 : decode cJ0_coder_7d493 10 = .ok (.goto 4, 3) := by decide +kernel
theorem dJ0_coder_7d493_13 : decode cJ0_coder_7d493 13 = .ok (.iconst 1, 1) := by decide +kernel
theorem dJ0_coder_7d493_14 : decode cJ0_coder_7d493 14 = .ok (.ireturn, 1) := by decide +kernel
theorem dJ0_isLatin1_aae02_0 : decode cJ0_isLatin1_aae02 0 = .ok (.getstatic 38, 3) := by decide +kernel
theorem dJ0_isLatin1_aae02_3 : decode cJ0_isLatin1_aae02 3 = .ok (.ifCond .eq 14, 3) := by decide +kernel
theorem dJ0_isLatin1_aae02_6 : decode cJ0_isLatin1_aae02 6 = .ok (.aload_n 0, 1) := by decide +kernel
theorem dJ0_isLatin1_aae02_7 : decode cJ0_isLatin1_aae02 7 = .ok (.getfield 15, 3) := by decide +kernel
theorem dJ0_isLatin1_aae02_10 : decode cJ0_isLatin1_aae02 10 = .ok (.ifCond .ne 7, 3) := by decide +kernel
theorem dJ0_isLatin1_aae02_13 : decode cJ0_isLatin1_aae02 13 = .ok (.iconst 1, 1) := by decide +kernel
theorem dJ0_isLatin1_aae02_14 : decode cJ0_isLatin1_aae02 14 = .ok (.goto 4, 3) := by decide +kernel
theorem dJ0_isLatin1_aae02_17 : decode cJ0_isLatin1_aae02 17 = .ok (.iconst 0, 1) := by decide +kernel
theorem dJ0_isLatin1_aae02_18 : decode cJ0_isLatin1_aae02 18 = .ok (.ireturn, 1) := by decide +kernel
theorem dJ0_checkIndex_df160_0 : decode cJ0_checkIndex_df160 0 = .ok (.iload_n 0, 1) := by decide +kernel
theorem dJ0_checkIndex_df160_1 : decode cJ0_checkIndex_df160 1 = .ok (.iload_n 1, 1) := by decide +kernel
theorem dJ0_checkIndex_df160_2 : decode cJ0_checkIndex_df160 2 = .ok (.getstatic 1053, 3) := by decide +kernel
theorem dJ0_checkIndex_df160_5 : decode cJ0_checkIndex_df160 5 = .ok (.invokestatic 1059, 3) := by decide +kernel
theorem dJ0_checkIndex_df160_8 : decode cJ0_checkIndex_df160 8 = .ok (.pop, 1) := by decide +kernel
theorem dJ0_checkIndex_df160_9 : decode cJ0_checkIndex_df160 9 = .ok (.return_, 1) := by decide +kernel
theorem dJ4_init_da8c8_0 : decode cJ4_init_da8c8 0 = .ok (.aload_n 0, 1) := by decide +kernel
theorem dJ4_init_da8c8_1 : decode cJ4_init_da8c8 1 = .ok (.bipush 16, 2) := by decide +kernel
theorem dJ4_init_da8c8_3 : decode cJ4_init_da8c8 3 = .ok (.invokespecial 1, 3) := by decide +kernel
theorem dJ4_init_da8c8_6 : decode cJ4_init_da8c8 6 = .ok (.return_, 1) := by decide +kernel
theorem dJ4_append_15ec4_0 : decode cJ4_append_15ec4 0 = .ok (.aload_n 0, 1) := by decide +kernel
theorem dJ4_append_15ec4_1 : decode cJ4_append_15ec4 1 = .ok (.aload_n 1, 1) := by decide +kernel
theorem dJ4_append_15ec4_2 : decode cJ4_append_15ec4 2 = .ok (.invokespecial 29, 3) := by decide +kernel
theorem dJ4_append_15ec4_5 : decode cJ4_append_15ec4 5 = .ok (.pop, 1) := by decide +kernel
theorem dJ4_append_15ec4_6 : decode cJ4_append_15ec4 6 = .ok (.aload_n 0, 1) := by decide +kernel
theorem dJ4_append_15ec4_7 : decode cJ4_append_15ec4 7 = .ok (.areturn, 1) := by decide +kernel
theorem dJ4_append_cf468_0 : decode cJ4_append_cf468 0 = .ok (.aload_n 0, 1) := by decide +kernel
theorem dJ4_append_cf468_1 : decode cJ4_append_cf468 1 = .ok (.iload_n 1, 1) := by decide +kernel
theorem dJ4_append_cf468_2 : decode cJ4_append_cf468 2 = .ok (.invokespecial 50, 3) := by decide +kernel
theorem dJ4_append_cf468_5 : decode cJ4_append_cf468 5 = .ok (.pop, 1) := by decide +kernel
theorem dJ4_append_cf468_6 : decode cJ4_append_cf468 6 = .ok (.aload_n 0, 1) := by decide +kernel
theorem dJ4_append_cf468_7 : decode cJ4_append_cf468 7 = .ok (.areturn, 1) := by decide +kernel
theorem dJ4_append_bf812_0 : decode cJ4_append_bf812 0 = .ok (.aload_n 0, 1) := by decide +kernel
theorem dJ4_append_bf812_1 : decode cJ4_append_bf812 1 = .ok (.iload_n 1, 1) := by decide +kernel
theorem dJ4_append_bf812_2 : decode cJ4_append_bf812 2 = .ok (.invokespecial 53, 3) := by decide +kernel
theorem dJ4_append_bf812_5 : decode cJ4_append_bf812 5 = .ok (.pop, 1) := by decide +kernel
theorem dJ4_append_bf812_6 : decode cJ4_append_bf812 6 = .ok (.aload_n 0, 1) := by decide +kernel
theorem dJ4_append_bf812_7 : decode cJ4_append_bf812 7 = .ok (.areturn, 1) := by decide +kernel
theorem dJ4_toString_0e30d_0 : decode cJ4_toString_0e30d 0 = .ok (.new 18, 3) := by decide +kernel
theorem dJ4_toString_0e30d_3 : decode cJ4_toString_0e30d 3 = .ok (.dup, 1) := by decide +kernel
theorem dJ4_toString_0e30d_4 : decode cJ4_toString_0e30d 4 = .ok (.aload_n 0, 1) := by decide +kernel
theorem dJ4_toString_0e30d_5 : decode cJ4_toString_0e30d 5 = .ok (.invokespecial 137, 3) := by decide +kernel
theorem dJ4_toString_0e30d_8 : decode cJ4_toString_0e30d 8 = .ok (.areturn, 1) := by decide +kernel
theorem dJ4_length_8abf5_0 : decode cJ4_length_8abf5 0 = .ok (.aload_n 0, 1) := by decide +kernel
theorem dJ4_length_8abf5_1 : decode cJ4_length_8abf5 1 = .ok (.invokespecial 343, 3) := by decide +kernel
theorem dJ4_length_8abf5_4 : decode cJ4_length_8abf5 4 = .ok (.ireturn, 1) := by decide +kernel
theorem dJ1_charAt_3b067_0 : decode cJ1_charAt_3b067 0 = .ok (.iload_n 1, 1) := by decide +kernel
theorem dJ1_charAt_3b067_1 : decode cJ1_charAt_3b067 1 = .ok (.aload_n 0, 1) := by decide +kernel
theorem dJ1_charAt_3b067_2 : decode cJ1_charAt_3b067 2 = .ok (.arraylength, 1) := by decide +kernel
theorem dJ1_charAt_3b067_3 : decode cJ1_charAt_3b067 3 = .ok (.invokestatic 9, 3) := by decide +kernel
theorem dJ1_charAt_3b067_6 : decode cJ1_charAt_3b067 6 = .ok (.aload_n 0, 1) := by decide +kernel
theorem dJ1_charAt_3b067_7 : decode cJ1_charAt_3b067 7 = .ok (.iload_n 1, 1) := by decide +kernel
theorem dJ1_charAt_3b067_8 : decode cJ1_charAt_3b067 8 = .ok (.baload, 1) := by decide +kernel
theorem dJ1_charAt_3b067_9 : decode cJ1_charAt_3b067 9 = .ok (.sipush 255, 3) := by decide +kernel
theorem dJ1_charAt_3b067_12 : decode cJ1_charAt_3b067 12 = .ok (.iand, 1) := by decide +kernel
theorem dJ1_charAt_3b067_13 : decode cJ1_charAt_3b067 13 = .ok (.i2c, 1) := by decide +kernel
theorem dJ1_charAt_3b067_14 : decode cJ1_charAt_3b067 14 = .ok (.ireturn, 1) := by decide +kernel
theorem dJ1_canEncode_fc78d_0 : decode cJ1_canEncode_fc78d 0 = .ok (.iload_n 0, 1) := by decide +kernel
theorem dJ1_canEncode_fc78d_1 : decode cJ1_canEncode_fc78d 1 = .ok (.sipush 255, 3) := by decide +kernel
theorem dJ1_canEncode_fc78d_4 : decode cJ1_canEncode_fc78d 4 = .ok (.if_icmp .gt 7, 3) := by decide +kernel
theorem dJ1_canEncode_fc78d_7 : decode cJ1_canEncode_fc78d 7 = .ok (.iconst 1, 1) := by decide +kernel
theorem dJ1_canEncode_fc78d_8 : decode cJ1_canEncode_fc78d 8 = .ok (.goto 4, 3) := by decide +kernel
theorem dJ1_canEncode_fc78d_11 : decode cJ1_canEncode_fc78d 11 = .ok (.iconst 0, 1) := by decide +kernel
theorem dJ1_canEncode_fc78d_12 : decode cJ1_canEncode_fc78d 12 = .ok (.ireturn, 1) := by decide +kernel
theorem dJxa1e45_init_da8c8_0 : decode cJxa1e45_init_da8c8 0 = .ok (.aload_n 0, 1) := by decide +kernel
theorem dJxa1e45_init_da8c8_1 : decode cJxa1e45_init_da8c8 1 = .ok (.invokespecial 1, 3) := by decide +kernel
theorem dJxa1e45_init_da8c8_4 : decode cJxa1e45_init_da8c8 4 = .ok (.return_, 1) := by decide +kernel
theorem dJxc12de_init_da8c8_0 : decode cJxc12de_init_da8c8 0 = .ok (.aload_n 0, 1) := by decide +kernel
theorem dJxc12de_init_da8c8_1 : decode cJxc12de_init_da8c8 1 = .ok (.invokespecial 1, 3) := by decide +kernel
theorem dJxc12de_init_da8c8_4 : decode cJxc12de_init_da8c8 4 = .ok (.aload_n 0, 1) := by decide +kernel
theorem dJxc12de_init_da8c8_5 : decode cJxc12de_init_da8c8 5 = .ok (.iconst 0, 1) := by decide +kernel
theorem dJxc12de_init_da8c8_6 : decode cJxc12de_init_da8c8 6 = .ok (.putfield 7, 3) := by decide +kernel
theorem dJxc12de_init_da8c8_9 : decode cJxc12de_init_da8c8 9 = .ok (.return_, 1) := by decide +kernel
theorem dJx4a65c_init_da8c8_0 : decode cJx4a65c_init_da8c8 0 = .ok (.aload_n 0, 1) := by decide +kernel
theorem dJx4a65c_init_da8c8_1 : decode cJx4a65c_init_da8c8 1 = .ok (.invokespecial 1, 3) := by decide +kernel
theorem dJx4a65c_init_da8c8_4 : decode cJx4a65c_init_da8c8 4 = .ok (.aload_n 0, 1) := by decide +kernel
theorem dJx4a65c_init_da8c8_5 : decode cJx4a65c_init_da8c8 5 = .ok (.getstatic 39, 3) := by decide +kernel
theorem dJx4a65c_init_da8c8_8 : decode cJx4a65c_init_da8c8 8 = .ok (.putfield 9, 3) := by decide +kernel
theorem dJx4a65c_init_da8c8_11 : decode cJx4a65c_init_da8c8 11 = .ok (.return_, 1) := by decide +kernel
theorem dJx4a65c_grow_92f84_0 : decode cJx4a65c_grow_92f84 0 = .ok (.aload_n 0, 1) := by decide +kernel
theorem dJx4a65c_grow_92f84_1 : decode cJx4a65c_grow_92f84 1 = .ok (.getfield 9, 3) := by decide +kernel
theorem dJx4a65c_grow_92f84_4 : decode cJx4a65c_grow_92f84 4 = .ok (.arraylength, 1) := by decide +kernel
theorem dJx4a65c_grow_92f84_5 : decode cJx4a65c_grow_92f84 5 = .ok (.istore_n 2, 1) := by decide +kernel
theorem dJx4a65c_grow_92f84_6 : decode cJx4a65c_grow_92f84 6 = .ok (.iload_n 2, 1) := by decide +kernel
theorem dJx4a65c_grow_92f84_7 : decode cJx4a65c_grow_92f84 7 = .ok (.ifCond .gt 13, 3) := by decide +kernel
theorem dJx4a65c_grow_92f84_10 : decode cJx4a65c_grow_92f84 10 = .ok (.aload_n 0, 1) := by decide +kernel
theorem dJx4a65c_grow_92f84_11 : decode cJx4a65c_grow_92f84 11 = .ok (.getfield 9, 3) := by decide +kernel
theorem dJx4a65c_grow_92f84_14 : decode cJx4a65c_grow_92f84 14 = .ok (.getstatic 39, 3) := by decide +kernel
theorem dJx4a65c_grow_92f84_17 : decode cJx4a65c_grow_92f84 17 = .ok (.if_acmp .eq 28, 3) := by decide +kernel
theorem dJx4a65c_grow_92f84_20 : decode cJx4a65c_grow_92f84 20 = .ok (.iload_n 2, 1) := by decide +kernel
theorem dJx4a65c_grow_92f84_21 : decode cJx4a65c_grow_92f84 21 = .ok (.iload_n 1, 1) := by decide +kernel
theorem dJx4a65c_grow_92f84_22 : decode cJx4a65c_grow_92f84 22 = .ok (.iload_n 2, 1) := by decide +kernel
theorem dJx4a65c_grow_92f84_23 : decode cJx4a65c_grow_92f84 23 = .ok (.isub, 1) := by decide +kernel
theorem dJx4a65c_grow_92f84_24 : decode cJx4a65c_grow_92f84 24 = .ok (.iload_n 2, 1) := by decide +kernel
theorem dJx4a65c_grow_92f84_25 : decode cJx4a65c_grow_92f84 25 = .ok (.iconst 1, 1) := by decide +kernel
theorem dJx4a65c_grow_92f84_26 : decode cJx4a65c_grow_92f84 26 = .ok (.ishr, 1) := by decide +kernel
theorem dJx4a65c_grow_92f84_27 : decode cJx4a65c_grow_92f84 27 = .ok (.invokestatic 73, 3) := by decide +kernel
theorem dJx4a65c_grow_92f84_30 : decode cJx4a65c_grow_92f84 30 = .ok (.istore_n 3, 1) := by decide +kernel
theorem dJx4a65c_grow_92f84_31 : decode cJx4a65c_grow_92f84 31 = .ok (.aload_n 0, 1) := by decide +kernel
theorem dJx4a65c_grow_92f84_32 : decode cJx4a65c_grow_92f84 32 = .ok (.aload_n 0, 1) := by decide +kernel
theorem dJx4a65c_grow_92f84_33 : decode cJx4a65c_grow_92f84 33 = .ok (.getfield 9, 3) := by decide +kernel
theorem dJx4a65c_grow_92f84_36 : decode cJx4a65c_grow_92f84 36 = .ok (.iload_n 3, 1) := by decide +kernel
theorem dJx4a65c_grow_92f84_37 : decode cJx4a65c_grow_92f84 37 = .ok (.invokestatic 66, 3) := by decide +kernel
theorem dJx4a65c_grow_92f84_40 : decode cJx4a65c_grow_92f84 40 = .ok (.dup_x1, 1) := by decide +kernel
theorem dJx4a65c_grow_92f84_41 : decode cJx4a65c_grow_92f84 41 = .ok (.putfield 9, 3) := by decide +kernel
theorem dJx4a65c_grow_92f84_44 : decode cJx4a65c_grow_92f84 44 = .ok (.areturn, 1) := by decide +kernel
theorem dJx4a65c_grow_92f84_45 : decode cJx4a65c_grow_92f84 45 = .ok (.aload_n 0, 1) := by decide +kernel
theorem dJx4a65c_grow_92f84_46 : decode cJx4a65c_grow_92f84 46 = .ok (.bipush 10, 2) := by decide +kernel
theorem dJx4a65c_grow_92f84_48 : decode cJx4a65c_grow_92f84 48 = .ok (.iload_n 1, 1) := by decide +kernel
theorem dJx4a65c_grow_92f84_49 : decode cJx4a65c_grow_92f84 49 = .ok (.invokestatic 79, 3) := by decide +kernel
theorem dJx4a65c_grow_92f84_52 : decode cJx4a65c_grow_92f84 52 = .ok (.anewarray 7, 3) := by decide +kernel
theorem dJx4a65c_grow_92f84_55 : decode cJx4a65c_grow_92f84 55 = .ok (.dup_x1, 1) := by decide +kernel
theorem dJx4a65c_grow_92f84_56 : decode cJx4a65c_grow_92f84 56 = .ok (.putfield 9, 3) := by decide +kernel
theorem dJx4a65c_grow_92f84_59 : decode cJx4a65c_grow_92f84 59 = .ok (.areturn, 1) := by decide +kernel
theorem dJx4a65c_grow_d5877_0 : decode cJx4a65c_grow_d5877 0 = .ok (.aload_n 0, 1) := by decide +kernel
theorem dJx4a65c_grow_d5877_1 : decode cJx4a65c_grow_d5877 1 = .ok (.aload_n 0, 1) := by decide +kernel
theorem dJx4a65c_grow_d5877_2 : decode cJx4a65c_grow_d5877 2 = .ok (.getfield 48, 3) := by decide +kernel
theorem dJx4a65c_grow_d5877_5 : decode cJx4a65c_grow_d5877 5 = .ok (.iconst 1, 1) := by decide +kernel
theorem dJx4a65c_grow_d5877_6 : decode cJx4a65c_grow_d5877 6 = .ok (.iadd, 1) := by decide +kernel
theorem dJx4a65c_grow_d5877_7 : decode cJx4a65c_grow_d5877 7 = .ok (.invokevirtual 69, 3) := by decide +kernel
theorem dJx4a65c_grow_d5877_10 : decode cJx4a65c_grow_d5877 10 = .ok (.areturn, 1) := by decide +kernel
theorem dJx4a65c_size_8abf5_0 : decode cJx4a65c_size_8abf5 0 = .ok (.aload_n 0, 1) := by decide +kernel
theorem dJx4a65c_size_8abf5_1 : decode cJx4a65c_size_8abf5 1 = .ok (.getfield 48, 3) := by decide +kernel
theorem dJx4a65c_size_8abf5_4 : decode cJx4a65c_size_8abf5 4 = .ok (.ireturn, 1) := by decide +kernel
theorem dJx4a65c_isEmpty_aae02_0 : decode cJx4a65c_isEmpty_aae02 0 = .ok (.aload_n 0, 1) := by decide +kernel
theorem dJx4a65c_isEmpty_aae02_1 : decode cJx4a65c_isEmpty_aae02 1 = .ok (.getfield 48, 3) := by decide +kernel
theorem dJx4a65c_isEmpty_aae02_4 : decode cJx4a65c_isEmpty_aae02 4 = .ok (.ifCond .ne 7, 3) := by decide +kernel
theorem dJx4a65c_isEmpty_aae02_7 : decode cJx4a65c_isEmpty_aae02 7 = .ok (.iconst 1, 1) := by decide +kernel
theorem dJx4a65c_isEmpty_aae02_8 : decode cJx4a65c_isEmpty_aae02 8 = .ok (.goto 4, 3) := by decide +kernel
theorem dJx4a65c_isEmpty_aae02_11 : decode cJx4a65c_isEmpty_aae02 11 = .ok (.iconst 0, 1) := by decide +kernel
theorem dJx4a65c_isEmpty_aae02_12 : decode cJx4a65c_isEmpty_aae02 12 = .ok (.ireturn, 1) := by decide +kernel
theorem dJx4a65c_elementData_915e3_0 : decode cJx4a65c_elementData_915e3 0 = .ok (.aload_n 0, 1) := by decide +kernel
theorem dJx4a65c_elementData_915e3_1 : decode cJx4a65c_elementData_915e3 1 = .ok (.getfield 9, 3) := by decide +kernel
theorem dJx4a65c_elementData_915e3_4 : decode cJx4a65c_elementData_915e3 4 = .ok (.iload_n 1, 1) := by decide +kernel
theorem dJx4a65c_elementData_915e3_5 : decode cJx4a65c_elementData_915e3 5 = .ok (.aaload, 1) := by decide +kernel
theorem dJx4a65c_elementData_915e3_6 : decode cJx4a65c_elementData_915e3 6 = .ok (.areturn, 1) := by decide +kernel
theorem dJx4a65c_get_915e3_0 : decode cJx4a65c_get_915e3 0 = .ok (.iload_n 1, 1) := by decide +kernel
theorem dJx4a65c_get_915e3_1 : decode cJx4a65c_get_915e3 1 = .ok (.aload_n 0, 1) := by decide +kernel
theorem dJx4a65c_get_915e3_2 : decode cJx4a65c_get_915e3 2 = .ok (.getfield 48, 3) := by decide +kernel
theorem dJx4a65c_get_915e3_5 : decode cJx4a65c_get_915e3 5 = .ok (.invokestatic 118, 3) := by decide +kernel
theorem dJx4a65c_get_915e3_8 : decode cJx4a65c_get_915e3 8 = .ok (.pop, 1) := by decide +kernel
theorem dJx4a65c_get_915e3_9 : decode cJx4a65c_get_915e3 9 = .ok (.aload_n 0, 1) := by decide +kernel
theorem dJx4a65c_get_915e3_10 : decode cJx4a65c_get_915e3 10 = .ok (.iload_n 1, 1) := by decide +kernel
theorem dJx4a65c_get_915e3_11 : decode cJx4a65c_get_915e3 11 = .ok (.invokevirtual 123, 3) := by decide +kernel
theorem dJx4a65c_get_915e3_14 : decode cJx4a65c_get_915e3 14 = .ok (.areturn, 1) := by decide +kernel
theorem dJx4a65c_add_72be8_0 : decode cJx4a65c_add_72be8 0 = .ok (.iload_n 3, 1) := by decide +kernel
theorem dJx4a65c_add_72be8_1 : decode cJx4a65c_add_72be8 1 = .ok (.aload_n 2, 1) := by decide +kernel
theorem dJx4a65c_add_72be8_2 : decode cJx4a65c_add_72be8 2 = .ok (.arraylength, 1) := by decide +kernel
theorem dJx4a65c_add_72be8_3 : decode cJx4a65c_add_72be8 3 = .ok (.if_icmp .ne 8, 3) := by decide +kernel
theorem dJx4a65c_add_72be8_6 : decode cJx4a65c_add_72be8 6 = .ok (.aload_n 0, 1) := by decide +kernel
theorem dJx4a65c_add_72be8_7 : decode cJx4a65c_add_72be8 7 = .ok (.invokevirtual 129, 3) := by decide +kernel
theorem dJx4a65c_add_72be8_10 : decode cJx4a65c_add_72be8 10 = .ok (.astore_n 2, 1) := by decide +kernel
theorem dJx4a65c_add_72be8_11 : decode cJx4a65c_add_72be8 11 = .ok (.aload_n 2, 1) := by decide +kernel
theorem dJx4a65c_add_72be8_12 : decode cJx4a65c_add_72be8 12 = .ok (.iload_n 3, 1) := by decide +kernel
theorem dJx4a65c_add_72be8_13 : decode cJx4a65c_add_72be8 13 = .ok (.aload_n 1, 1) := by decide +kernel
theorem dJx4a65c_add_72be8_14 : decode cJx4a65c_add_72be8 14 = .ok (.aastore, 1) := by decide +kernel
theorem dJx4a65c_add_72be8_15 : decode cJx4a65c_add_72be8 15 = .ok (.aload_n 0, 1) := by decide +kernel
theorem dJx4a65c_add_72be8_16 : decode cJx4a65c_add_72be8 16 = .ok (.iload_n 3, 1) := by decide +kernel
theorem dJx4a65c_add_72be8_17 : decode cJx4a65c_add_72be8 17 = .ok (.iconst 1, 1) := by decide +kernel
theorem dJx4a65c_add_72be8_18 : decode cJx4a65c_add_72be8 18 = .ok (.iadd, 1) := by decide +kernel
theorem dJx4a65c_add_72be8_19 : decode cJx4a65c_add_72be8 19 = .ok (.putfield 48, 3) := by decide +kernel
theorem dJx4a65c_add_72be8_22 : decode cJx4a65c_add_72be8 22 = .ok (.return_, 1) := by decide +kernel
theorem dJx4a65c_add_9ea2d_0 : decode cJx4a65c_add_9ea2d 0 = .ok (.aload_n 0, 1) := by decide +kernel
theorem dJx4a65c_add_9ea2d_1 : decode cJx4a65c_add_9ea2d 1 = .ok (.dup, 1) := by decide +kernel
theorem dJx4a65c_add_9ea2d_2 : decode cJx4a65c_add_9ea2d 2 = .ok (.getfield 63, 3) := by decide +kernel
theorem dJx4a65c_add_9ea2d_5 : decode cJx4a65c_add_9ea2d 5 = .ok (.iconst 1, 1) := by decide +kernel
theorem dJx4a65c_add_9ea2d_6 : decode cJx4a65c_add_9ea2d 6 = .ok (.iadd, 1) := by decide +kernel
theorem dJx4a65c_add_9ea2d_7 : decode cJx4a65c_add_9ea2d 7 = .ok (.putfield 63, 3) := by decide +kernel
theorem dJx4a65c_add_9ea2d_10 : decode cJx4a65c_add_9ea2d 10 = .ok (.aload_n 0, 1) := by decide +kernel
theorem dJx4a65c_add_9ea2d_11 : decode cJx4a65c_add_9ea2d 11 = .ok (.aload_n 1, 1) := by decide +kernel
theorem dJx4a65c_add_9ea2d_12 : decode cJx4a65c_add_9ea2d 12 = .ok (.aload_n 0, 1) := by decide +kernel
theorem dJx4a65c_add_9ea2d_13 : decode cJx4a65c_add_9ea2d 13 = .ok (.getfield 9, 3) := by decide +kernel
theorem dJx4a65c_add_9ea2d_16 : decode cJx4a65c_add_9ea2d 16 = .ok (.aload_n 0, 1) := by decide +kernel
theorem dJx4a65c_add_9ea2d_17 : decode cJx4a65c_add_9ea2d 17 = .ok (.getfield 48, 3) := by decide +kernel
theorem dJx4a65c_add_9ea2d_20 : decode cJx4a65c_add_9ea2d 20 = .ok (.invokevirtual 131, 3) := by decide +kernel
theorem dJx4a65c_add_9ea2d_23 : decode cJx4a65c_add_9ea2d 23 = .ok (.iconst 1, 1) := by decide +kernel
theorem dJx4a65c_add_9ea2d_24 : decode cJx4a65c_add_9ea2d 24 = .ok (.ireturn, 1) := by decide +kernel
theorem dJ7_copyOf_9075b_0 : decode cJ7_copyOf_9075b 0 = .ok (.iload_n 1, 1) := by decide +kernel
theorem dJ7_copyOf_9075b_1 : decode cJ7_copyOf_9075b 1 = .ok (.aload_n 0, 1) := by decide +kernel
theorem dJ7_copyOf_9075b_2 : decode cJ7_copyOf_9075b 2 = .ok (.arraylength, 1) := by decide +kernel
theorem dJ7_copyOf_9075b_3 : decode cJ7_copyOf_9075b 3 = .ok (.if_icmp .ne 11, 3) := by decide +kernel
theorem dJ7_copyOf_9075b_6 : decode cJ7_copyOf_9075b 6 = .ok (.aload_n 0, 1) := by decide +kernel
theorem dJ7_copyOf_9075b_7 : decode cJ7_copyOf_9075b 7 = .ok (.invokevirtual 310, 3) := by decide +kernel
theorem dJ7_copyOf_9075b_10 : decode cJ7_copyOf_9075b 10 = .ok (.checkcast 311, 3) := by decide +kernel
theorem dJ7_copyOf_9075b_13 : decode cJ7_copyOf_9075b 13 = .ok (.areturn, 1) := by decide +kernel
theorem dJ7_copyOf_9075b_14 : decode cJ7_copyOf_9075b 14 = .ok (.iload_n 1, 1) := by decide +kernel
theorem dJ7_copyOf_9075b_15 : decode cJ7_copyOf_9075b 15 = .ok (.newarray .byte, 2) := by decide +kernel
theorem dJ7_copyOf_9075b_17 : decode cJ7_copyOf_9075b 17 = .ok (.astore_n 2, 1) := by decide +kernel
theorem dJ7_copyOf_9075b_18 : decode cJ7_copyOf_9075b 18 = .ok (.aload_n 0, 1) := by decide +kernel
theorem dJ7_copyOf_9075b_19 : decode cJ7_copyOf_9075b 19 = .ok (.iconst 0, 1) := by decide +kernel
theorem dJ7_copyOf_9075b_20 : decode cJ7_copyOf_9075b 20 = .ok (.aload_n 2, 1) := by decide +kernel
theorem dJ7_copyOf_9075b_21 : decode cJ7_copyOf_9075b 21 = .ok (.iconst 0, 1) := by decide +kernel
theorem dJ7_copyOf_9075b_22 : decode cJ7_copyOf_9075b 22 = .ok (.aload_n 0, 1) := by decide +kernel
theorem dJ7_copyOf_9075b_23 : decode cJ7_copyOf_9075b 23 = .ok (.arraylength, 1) := by decide +kernel
theorem dJ7_copyOf_9075b_24 : decode cJ7_copyOf_9075b 24 = .ok (.iload_n 1, 1) := by decide +kernel
theorem dJ7_copyOf_9075b_25 : decode cJ7_copyOf_9075b 25 = .ok (.invokestatic 304, 3) := by decide +kernel
theorem dJ7_copyOf_9075b_28 : decode cJ7_copyOf_9075b 28 = .ok (.invokestatic 150, 3) := by decide +kernel
theorem dJ7_copyOf_9075b_31 : decode cJ7_copyOf_9075b 31 = .ok (.aload_n 2, 1) := by decide +kernel
theorem dJ7_copyOf_9075b_32 : decode cJ7_copyOf_9075b 32 = .ok (.areturn, 1) := by decide +kernel
theorem dJ7_checkLength_df160_0 : decode cJ7_checkLength_df160 0 = .ok (.iload_n 1, 1) := by decide +kernel
theorem dJ7_checkLength_df160_1 : decode cJ7_checkLength_df160 1 = .ok (.iload_n 0, 1) := by decide +kernel
theorem dJ7_checkLength_df160_2 : decode cJ7_checkLength_df160 2 = .ok (.if_icmp .ge 35, 3) := by decide +kernel
theorem dJ7_checkLength_df160_5 : decode cJ7_checkLength_df160 5 = .ok (.new 43, 3) := by decide +kernel
theorem dJ7_checkLength_df160_8 : decode cJ7_checkLength_df160 8 = .ok (.dup, 1) := by decide +kernel
theorem dJ7_checkLength_df160_9 : decode cJ7_checkLength_df160 9 = .ok (.new 45, 3) := by decide +kernel
theorem dJ7_checkLength_df160_12 : decode cJ7_checkLength_df160 12 = .ok (.dup, 1) := by decide +kernel
theorem dJ7_checkLength_df160_13 : decode cJ7_checkLength_df160 13 = .ok (.invokespecial 47, 3) := by decide +kernel
theorem dJ7_checkLength_df160_16 : decode cJ7_checkLength_df160 16 = .ok (.iload_n 0, 1) := by decide +kernel
theorem dJ7_checkLength_df160_17 : decode cJ7_checkLength_df160 17 = .ok (.invokevirtual 54, 3) := by decide +kernel
theorem dJ7_checkLength_df160_20 : decode cJ7_checkLength_df160 20 = .ok (.ldc_w 337, 3) := by decide +kernel
theorem dJ7_checkLength_df160_23 : decode cJ7_checkLength_df160 23 = .ok (.invokevirtual 50, 3) := by decide +kernel
theorem dJ7_checkLength_df160_26 : decode cJ7_checkLength_df160 26 = .ok (.iload_n 1, 1) := by decide +kernel
theorem dJ7_checkLength_df160_27 : decode cJ7_checkLength_df160 27 = .ok (.invokevirtual 54, 3) := by decide +kernel
theorem dJ7_checkLength_df160_30 : decode cJ7_checkLength_df160 30 = .ok (.invokevirtual 61, 3) := by decide +kernel
theorem dJ7_checkLength_df160_33 : decode cJ7_checkLength_df160 33 = .ok (.invokespecial 65, 3) := by decide +kernel
theorem dJ7_checkLength_df160_36 : decode cJ7_checkLength_df160 36 = .ok (.athrow, 1) := by decide +kernel
theorem dJ7_checkLength_df160_37 : decode cJ7_checkLength_df160 37 = .ok (.return_, 1) := by decide +kernel
theorem dJ7_copyOfRange_39247_0 : decode cJ7_copyOfRange_39247 0 = .ok (.iload_n 1, 1) := by decide +kernel
theorem dJ7_copyOfRange_39247_1 : decode cJ7_copyOfRange_39247 1 = .ok (.ifCond .ne 9, 3) := by decide +kernel
theorem dJ7_copyOfRange_39247_4 : decode cJ7_copyOfRange_39247 4 = .ok (.iload_n 2, 1) := by decide +kernel
theorem dJ7_copyOfRange_39247_5 : decode cJ7_copyOfRange_39247 5 = .ok (.aload_n 0, 1) := by decide +kernel
theorem dJ7_copyOfRange_39247_6 : decode cJ7_copyOfRange_39247 6 = .ok (.arraylength, 1) := by decide +kernel
theorem dJ7_copyOfRange_39247_7 : decode cJ7_copyOfRange_39247 7 = .ok (.if_icmp .eq 10, 3) := by decide +kernel
theorem dJ7_copyOfRange_39247_10 : decode cJ7_copyOfRange_39247 10 = .ok (.aload_n 0, 1) := by decide +kernel
theorem dJ7_copyOfRange_39247_11 : decode cJ7_copyOfRange_39247 11 = .ok (.iload_n 1, 1) := by decide +kernel
theorem dJ7_copyOfRange_39247_12 : decode cJ7_copyOfRange_39247 12 = .ok (.iload_n 2, 1) := by decide +kernel
theorem dJ7_copyOfRange_39247_13 : decode cJ7_copyOfRange_39247 13 = .ok (.invokestatic 339, 3) := by decide +kernel
theorem dJ7_copyOfRange_39247_16 : decode cJ7_copyOfRange_39247 16 = .ok (.areturn, 1) := by decide +kernel
theorem dJ7_copyOfRange_39247_17 : decode cJ7_copyOfRange_39247 17 = .ok (.aload_n 0, 1) := by decide +kernel
theorem dJ7_copyOfRange_39247_18 : decode cJ7_copyOfRange_39247 18 = .ok (.invokevirtual 310, 3) := by decide +kernel
theorem dJ7_copyOfRange_39247_21 : decode cJ7_copyOfRange_39247 21 = .ok (.checkcast 311, 3) := by decide +kernel
theorem dJ7_copyOfRange_39247_24 : decode cJ7_copyOfRange_39247 24 = .ok (.areturn, 1) := by decide +kernel
theorem dJ7_copyOfRangeByte_39247_0 : decode cJ7_copyOfRangeByte_39247 0 = .ok (.iload_n 1, 1) := by decide +kernel
theorem dJ7_copyOfRangeByte_39247_1 : decode cJ7_copyOfRangeByte_39247 1 = .ok (.iload_n 2, 1) := by decide +kernel
theorem dJ7_copyOfRangeByte_39247_2 : decode cJ7_copyOfRangeByte_39247 2 = .ok (.invokestatic 343, 3) := by decide +kernel
theorem dJ7_copyOfRangeByte_39247_5 : decode cJ7_copyOfRangeByte_39247 5 = .ok (.iload_n 2, 1) := by decide +kernel
theorem dJ7_copyOfRangeByte_39247_6 : decode cJ7_copyOfRangeByte_39247 6 = .ok (.iload_n 1, 1) := by decide +kernel
theorem dJ7_copyOfRangeByte_39247_7 : decode cJ7_copyOfRangeByte_39247 7 = .ok (.isub, 1) := by decide +kernel
theorem dJ7_copyOfRangeByte_39247_8 : decode cJ7_copyOfRangeByte_39247 8 = .ok (.istore_n 3, 1) := by decide +kernel
theorem dJ7_copyOfRangeByte_39247_9 : decode cJ7_copyOfRangeByte_39247 9 = .ok (.iload_n 3, 1) := by decide +kernel
theorem dJ7_copyOfRangeByte_39247_10 : decode cJ7_copyOfRangeByte_39247 10 = .ok (.newarray .byte, 2) := by decide +kernel
theorem dJ7_copyOfRangeByte_39247_12 : decode cJ7_copyOfRangeByte_39247 12 = .ok (.astore 4, 2) := by decide +kernel
theorem dJ7_copyOfRangeByte_39247_14 : decode cJ7_copyOfRangeByte_39247 14 = .ok (.aload_n 0, 1) := by decide +kernel
theorem dJ7_copyOfRangeByte_39247_15 : decode cJ7_copyOfRangeByte_39247 15 = .ok (.iload_n 1, 1) := by decide +kernel
theorem dJ7_copyOfRangeByte_39247_16 : decode cJ7_copyOfRangeByte_39247 16 = .ok (.aload 4, 2) := by decide +kernel
theorem dJ7_copyOfRangeByte_39247_18 : decode cJ7_copyOfRangeByte_39247 18 = .ok (.iconst 0, 1) := by decide +kernel
theorem dJ7_copyOfRangeByte_39247_19 : decode cJ7_copyOfRangeByte_39247 19 = .ok (.aload_n 0, 1) := by decide +kernel
theorem dJ7_copyOfRangeByte_39247_20 : decode cJ7_copyOfRangeByte_39247 20 = .ok (.arraylength, 1) := by decide +kernel
theorem dJ7_copyOfRangeByte_39247_21 : decode cJ7_copyOfRangeByte_39247 21 = .ok (.iload_n 1, 1) := by decide +kernel
theorem dJ7_copyOfRangeByte_39247_22 : decode cJ7_copyOfRangeByte_39247 22 = .ok (.isub, 1) := by decide +kernel
theorem dJ7_copyOfRangeByte_39247_23 : decode cJ7_copyOfRangeByte_39247 23 = .ok (.iload_n 3, 1) := by decide +kernel
theorem dJ7_copyOfRangeByte_39247_24 : decode cJ7_copyOfRangeByte_39247 24 = .ok (.invokestatic 304, 3) := by decide +kernel
theorem dJ7_copyOfRangeByte_39247_27 : decode cJ7_copyOfRangeByte_39247 27 = .ok (.invokestatic 150, 3) := by decide +kernel
theorem dJ7_copyOfRangeByte_39247_30 : decode cJ7_copyOfRangeByte_39247 30 = .ok (.aload 4, 2) := by decide +kernel
theorem dJ7_copyOfRangeByte_39247_32 : decode cJ7_copyOfRangeByte_39247 32 = .ok (.areturn, 1) := by decide +kernel
theorem dJ15_checkIndex_7cf53_0 : decode cJ15_checkIndex_7cf53 0 = .ok (.iload_n 0, 1) := by decide +kernel
theorem dJ15_checkIndex_7cf53_1 : decode cJ15_checkIndex_7cf53 1 = .ok (.iload_n 1, 1) := by decide +kernel
theorem dJ15_checkIndex_7cf53_2 : decode cJ15_checkIndex_7cf53 2 = .ok (.aconst_null, 1) := by decide +kernel
theorem dJ15_checkIndex_7cf53_3 : decode cJ15_checkIndex_7cf53 3 = .ok (.invokestatic 105, 3) := by decide +kernel
theorem dJ15_checkIndex_7cf53_6 : decode cJ15_checkIndex_7cf53 6 = .ok (.ireturn, 1) := by decide +kernel
theorem dJ8_newLength_cabcc_0 : decode cJ8_newLength_cabcc 0 = .ok (.iload_n 0, 1) := by decide +kernel
theorem dJ8_newLength_cabcc_1 : decode cJ8_newLength_cabcc 1 = .ok (.iload_n 1, 1) := by decide +kernel
theorem dJ8_newLength_cabcc_2 : decode cJ8_newLength_cabcc 2 = .ok (.iload_n 2, 1) := by decide +kernel
theorem dJ8_newLength_cabcc_3 : decode cJ8_newLength_cabcc 3 = .ok (.invokestatic 194, 3) := by decide +kernel
theorem dJ8_newLength_cabcc_6 : decode cJ8_newLength_cabcc 6 = .ok (.iadd, 1) := by decide +kernel
theorem dJ8_newLength_cabcc_7 : decode cJ8_newLength_cabcc 7 = .ok (.istore_n 3, 1) := by decide +kernel
theorem dJ8_newLength_cabcc_8 : decode cJ8_newLength_cabcc 8 = .ok (.iconst 0, 1) := by decide +kernel
theorem dJ8_newLength_cabcc_9 : decode cJ8_newLength_cabcc 9 = .ok (.iload_n 3, 1) := by decide +kernel
theorem dJ8_newLength_cabcc_10 : decode cJ8_newLength_cabcc 10 = .ok (.if_icmp .ge 11, 3) := by decide +kernel
theorem dJ8_newLength_cabcc_13 : decode cJ8_newLength_cabcc 13 = .ok (.iload_n 3, 1) := by decide +kernel
theorem dJ8_newLength_cabcc_14 : decode cJ8_newLength_cabcc 14 = .ok (.ldc 200, 2) := by decide +kernel
theorem dJ8_newLength_cabcc_16 : decode cJ8_newLength_cabcc 16 = .ok (.if_icmp .gt 5, 3) := by decide +kernel
theorem dJ8_newLength_cabcc_19 : decode cJ8_newLength_cabcc 19 = .ok (.iload_n 3, 1) := by decide +kernel
theorem dJ8_newLength_cabcc_20 : decode cJ8_newLength_cabcc 20 = .ok (.ireturn, 1) := by decide +kernel
theorem dJ8_newLength_cabcc_21 : decode cJ8_newLength_cabcc 21 = .ok (.iload_n 0, 1) := by decide +kernel
theorem dJ8_newLength_cabcc_22 : decode cJ8_newLength_cabcc 22 = .ok (.iload_n 1, 1) := by decide +kernel
theorem dJ8_newLength_cabcc_23 : decode cJ8_newLength_cabcc 23 = .ok (.invokestatic 201, 3) := by decide +kernel
theorem dJ8_newLength_cabcc_26 : decode cJ8_newLength_cabcc 26 = .ok (.ireturn, 1) := by decide +kernel
theorem dJ3_checkIndex_8e157_0 : decode cJ3_checkIndex_8e157 0 = .ok (.iload_n 0, 1) := by decide +kernel
theorem dJ3_checkIndex_8e157_1 : decode cJ3_checkIndex_8e157 1 = .ok (.ifCond .lt 8, 3) := by decide +kernel
theorem dJ3_checkIndex_8e157_4 : decode cJ3_checkIndex_8e157 4 = .ok (.iload_n 0, 1) := by decide +kernel
theorem dJ3_checkIndex_8e157_5 : decode cJ3_checkIndex_8e157 5 = .ok (.iload_n 1, 1) := by decide +kernel
theorem dJ3_checkIndex_8e157_6 : decode cJ3_checkIndex_8e157 6 = .ok (.if_icmp .lt 10, 3) := by decide +kernel
theorem dJ3_checkIndex_8e157_9 : decode cJ3_checkIndex_8e157 9 = .ok (.aload_n 2, 1) := by decide +kernel
theorem dJ3_checkIndex_8e157_10 : decode cJ3_checkIndex_8e157 10 = .ok (.iload_n 0, 1) := by decide +kernel
theorem dJ3_checkIndex_8e157_11 : decode cJ3_checkIndex_8e157 11 = .ok (.iload_n 1, 1) := by decide +kernel
theorem dJ3_checkIndex_8e157_12 : decode cJ3_checkIndex_8e157 12 = .ok (.invokestatic 95, 3) := by decide +kernel
theorem dJ3_checkIndex_8e157_15 : decode cJ3_checkIndex_8e157 15 = .ok (.athrow, 1) := by decide +kernel
theorem dJ3_checkIndex_8e157_16 : decode cJ3_checkIndex_8e157 16 = .ok (.iload_n 0, 1) := by decide +kernel
theorem dJ3_checkIndex_8e157_17 : decode cJ3_checkIndex_8e157 17 = .ok (.ireturn, 1) := by decide +kernel
theorem dL_cell_0 : decode cL_cell 0 = .ok (.iload_n 1, 1) := by decide +kernel
theorem dL_cell_1 : decode cL_cell 1 = .ok (.aload_n 0, 1) := by decide +kernel
theorem dL_cell_2 : decode cL_cell 2 = .ok (.arraylength, 1) := by decide +kernel
theorem dL_cell_3 : decode cL_cell 3 = .ok (.if_icmp .ge 9, 3) := by decide +kernel
theorem dL_cell_6 : decode cL_cell 6 = .ok (.aload_n 0, 1) := by decide +kernel
theorem dL_cell_7 : decode cL_cell 7 = .ok (.iload_n 1, 1) := by decide +kernel
theorem dL_cell_8 : decode cL_cell 8 = .ok (.iaload, 1) := by decide +kernel
theorem dL_cell_9 : decode cL_cell 9 = .ok (.goto 4, 3) := by decide +kernel
theorem dL_cell_12 : decode cL_cell 12 = .ok (.iconst 0, 1) := by decide +kernel
theorem dL_cell_13 : decode cL_cell 13 = .ok (.ireturn, 1) := by decide +kernel
end
section
theorem dL_mixed_0 : decode cL_mixed 0 = .ok (.iload_n 0, 1) := by decide +kernel
theorem dL_mixed_1 : decode cL_mixed 1 = .ok (.ldc 7, 2) := by decide +kernel
theorem dL_mixed_3 : decode cL_mixed 3 = .ok (.imul, 1) := by decide +kernel
theorem dL_mixed_4 : decode cL_mixed 4 = .ok (.sipush 12345, 3) := by decide +kernel
theorem dL_mixed_7 : decode cL_mixed 7 = .ok (.iadd, 1) := by decide +kernel
theorem dL_mixed_8 : decode cL_mixed 8 = .ok (.bipush 9, 2) := by decide +kernel
theorem dL_mixed_10 : decode cL_mixed 10 = .ok (.iushr, 1) := by decide +kernel
theorem dL_mixed_11 : decode cL_mixed 11 = .ok (.ireturn, 1) := by decide +kernel
theorem dL_draw_0 : decode cL_draw 0 = .ok (.aload_n 0, 1) := by decide +kernel
theorem dL_draw_1 : decode cL_draw 1 = .ok (.iconst 0, 1) := by decide +kernel
theorem dL_draw_2 : decode cL_draw 2 = .ok (.aload_n 0, 1) := by decide +kernel
theorem dL_draw_3 : decode cL_draw 3 = .ok (.iconst 0, 1) := by decide +kernel
theorem dL_draw_4 : decode cL_draw 4 = .ok (.iaload, 1) := by decide +kernel
theorem dL_draw_5 : decode cL_draw 5 = .ok (.bipush 77, 2) := by decide +kernel
theorem dL_draw_7 : decode cL_draw 7 = .ok (.iadd, 1) := by decide +kernel
theorem dL_draw_8 : decode cL_draw 8 = .ok (.invokestatic 8, 3) := by decide +kernel
theorem dL_draw_11 : decode cL_draw 11 = .ok (.iastore, 1) := by decide +kernel
theorem dL_draw_12 : decode cL_draw 12 = .ok (.aload_n 0, 1) := by decide +kernel
theorem dL_draw_13 : decode cL_draw 13 = .ok (.iconst 0, 1) := by decide +kernel
theorem dL_draw_14 : decode cL_draw 14 = .ok (.iaload, 1) := by decide +kernel
theorem dL_draw_15 : decode cL_draw 15 = .ok (.iconst 3, 1) := by decide +kernel
theorem dL_draw_16 : decode cL_draw 16 = .ok (.iushr, 1) := by decide +kernel
theorem dL_draw_17 : decode cL_draw 17 = .ok (.iload_n 1, 1) := by decide +kernel
theorem dL_draw_18 : decode cL_draw 18 = .ok (.irem, 1) := by decide +kernel
theorem dL_draw_19 : decode cL_draw 19 = .ok (.ireturn, 1) := by decide +kernel
theorem dL_fill_0 : decode cL_fill 0 = .ok (.iconst 5, 1) := by decide +kernel
theorem dL_fill_1 : decode cL_fill 1 = .ok (.newarray .int, 2) := by decide +kernel
theorem dL_fill_3 : decode cL_fill 3 = .ok (.astore_n 2, 1) := by decide +kernel
theorem dL_fill_4 : decode cL_fill 4 = .ok (.iconst 0, 1) := by decide +kernel
theorem dL_fill_5 : decode cL_fill 5 = .ok (.istore_n 3, 1) := by decide +kernel
theorem dL_fill_6 : decode cL_fill 6 = .ok (.iload_n 3, 1) := by decide +kernel
theorem dL_fill_7 : decode cL_fill 7 = .ok (.aload_n 1, 1) := by decide +kernel
theorem dL_fill_8 : decode cL_fill 8 = .ok (.invokevirtual 14, 3) := by decide +kernel
theorem dL_fill_11 : decode cL_fill 11 = .ok (.if_icmp .ge 88, 3) := by decide +kernel
theorem dL_fill_14 : decode cL_fill 14 = .ok (.iconst 0, 1) := by decide +kernel
theorem dL_fill_15 : decode cL_fill 15 = .ok (.istore 4, 2) := by decide +kernel
theorem dL_fill_17 : decode cL_fill 17 = .ok (.iload 4, 2) := by decide +kernel
theorem dL_fill_19 : decode cL_fill 19 = .ok (.bipush 20, 2) := by decide +kernel
theorem dL_fill_21 : decode cL_fill 21 = .ok (.if_icmp .ge 52, 3) := by decide +kernel
theorem dL_fill_24 : decode cL_fill 24 = .ok (.aload_n 2, 1) := by decide +kernel
theorem dL_fill_25 : decode cL_fill 25 = .ok (.iload 4, 2) := by decide +kernel
theorem dL_fill_27 : decode cL_fill 27 = .ok (.iconst 4, 1) := by decide +kernel
theorem dL_fill_28 : decode cL_fill 28 = .ok (.idiv, 1) := by decide +kernel
theorem dL_fill_29 : decode cL_fill 29 = .ok (.aload_n 2, 1) := by decide +kernel
theorem dL_fill_30 : decode cL_fill 30 = .ok (.iload 4, 2) := by decide +kernel
theorem dL_fill_32 : decode cL_fill 32 = .ok (.iconst 4, 1) := by decide +kernel
theorem dL_fill_33 : decode cL_fill 33 = .ok (.idiv, 1) := by decide +kernel
theorem dL_fill_34 : decode cL_fill 34 = .ok (.iaload, 1) := by decide +kernel
theorem dL_fill_35 : decode cL_fill 35 = .ok (.bipush 8, 2) := by decide +kernel
theorem dL_fill_37 : decode cL_fill 37 = .ok (.ishl, 1) := by decide +kernel
theorem dL_fill_38 : decode cL_fill 38 = .ok (.iload_n 3, 1) := by decide +kernel
theorem dL_fill_39 : decode cL_fill 39 = .ok (.iload 4, 2) := by decide +kernel
theorem dL_fill_41 : decode cL_fill 41 = .ok (.iadd, 1) := by decide +kernel
theorem dL_fill_42 : decode cL_fill 42 = .ok (.aload_n 1, 1) := by decide +kernel
theorem dL_fill_43 : decode cL_fill 43 = .ok (.invokevirtual 14, 3) := by decide +kernel
theorem dL_fill_46 : decode cL_fill 46 = .ok (.if_icmp .ge 18, 3) := by decide +kernel
theorem dL_fill_49 : decode cL_fill 49 = .ok (.aload_n 1, 1) := by decide +kernel
theorem dL_fill_50 : decode cL_fill 50 = .ok (.iload_n 3, 1) := by decide +kernel
theorem dL_fill_51 : decode cL_fill 51 = .ok (.iload 4, 2) := by decide +kernel
theorem dL_fill_53 : decode cL_fill 53 = .ok (.iadd, 1) := by decide +kernel
theorem dL_fill_54 : decode cL_fill 54 = .ok (.invokevirtual 20, 3) := by decide +kernel
theorem dL_fill_57 : decode cL_fill 57 = .ok (.sipush 255, 3) := by decide +kernel
theorem dL_fill_60 : decode cL_fill 60 = .ok (.iand, 1) := by decide +kernel
theorem dL_fill_61 : decode cL_fill 61 = .ok (.goto 4, 3) := by decide +kernel
theorem dL_fill_64 : decode cL_fill 64 = .ok (.iconst 0, 1) := by decide +kernel
theorem dL_fill_65 : decode cL_fill 65 = .ok (.ior, 1) := by decide +kernel
theorem dL_fill_66 : decode cL_fill 66 = .ok (.iastore, 1) := by decide +kernel
theorem dL_fill_67 : decode cL_fill 67 = .ok (.iinc 4 1, 3) := by decide +kernel
theorem dL_fill_70 : decode cL_fill 70 = .ok (.goto (-53), 3) := by decide +kernel
theorem dL_fill_73 : decode cL_fill 73 = .ok (.aload_n 0, 1) := by decide +kernel
theorem dL_fill_74 : decode cL_fill 74 = .ok (.aload_n 2, 1) := by decide +kernel
theorem dL_fill_75 : decode cL_fill 75 = .ok (.iconst 0, 1) := by decide +kernel
theorem dL_fill_76 : decode cL_fill 76 = .ok (.iaload, 1) := by decide +kernel
theorem dL_fill_77 : decode cL_fill 77 = .ok (.aload_n 2, 1) := by decide +kernel
theorem dL_fill_78 : decode cL_fill 78 = .ok (.iconst 1, 1) := by decide +kernel
theorem dL_fill_79 : decode cL_fill 79 = .ok (.iaload, 1) := by decide +kernel
theorem dL_fill_80 : decode cL_fill 80 = .ok (.aload_n 2, 1) := by decide +kernel
theorem dL_fill_81 : decode cL_fill 81 = .ok (.iconst 2, 1) := by decide +kernel
theorem dL_fill_82 : decode cL_fill 82 = .ok (.iaload, 1) := by decide +kernel
theorem dL_fill_83 : decode cL_fill 83 = .ok (.aload_n 2, 1) := by decide +kernel
theorem dL_fill_84 : decode cL_fill 84 = .ok (.iconst 3, 1) := by decide +kernel
theorem dL_fill_85 : decode cL_fill 85 = .ok (.iaload, 1) := by decide +kernel
theorem dL_fill_86 : decode cL_fill 86 = .ok (.aload_n 2, 1) := by decide +kernel
theorem dL_fill_87 : decode cL_fill 87 = .ok (.iconst 4, 1) := by decide +kernel
theorem dL_fill_88 : decode cL_fill 88 = .ok (.iaload, 1) := by decide +kernel
theorem dL_fill_89 : decode cL_fill 89 = .ok (.invokevirtual 24, 3) := by decide +kernel
theorem dL_fill_92 : decode cL_fill 92 = .ok (.pop, 1) := by decide +kernel
theorem dL_fill_93 : decode cL_fill 93 = .ok (.iinc 3 20, 3) := by decide +kernel
theorem dL_fill_96 : decode cL_fill 96 = .ok (.goto (-90), 3) := by decide +kernel
theorem dL_fill_99 : decode cL_fill 99 = .ok (.aload_n 0, 1) := by decide +kernel
theorem dL_fill_100 : decode cL_fill 100 = .ok (.aload_n 1, 1) := by decide +kernel
theorem dL_fill_101 : decode cL_fill 101 = .ok (.invokevirtual 14, 3) := by decide +kernel
theorem dL_fill_104 : decode cL_fill 104 = .ok (.invokevirtual 30, 3) := by decide +kernel
theorem dL_fill_107 : decode cL_fill 107 = .ok (.aload_n 1, 1) := by decide +kernel
theorem dL_fill_108 : decode cL_fill 108 = .ok (.invokevirtual 14, 3) := by decide +kernel
theorem dL_fill_111 : decode cL_fill 111 = .ok (.if_icmp .ne 7, 3) := by decide +kernel
theorem dL_fill_114 : decode cL_fill 114 = .ok (.iconst 1, 1) := by decide +kernel
theorem dL_fill_115 : decode cL_fill 115 = .ok (.goto 4, 3) := by decide +kernel
theorem dL_fill_118 : decode cL_fill 118 = .ok (.iconst 0, 1) := by decide +kernel
theorem dL_fill_119 : decode cL_fill 119 = .ok (.ireturn, 1) := by decide +kernel
theorem dL_stands_0 : decode cL_stands 0 = .ok (.aload_n 0, 1) := by decide +kernel
theorem dL_stands_1 : decode cL_stands 1 = .ok (.aload_n 1, 1) := by decide +kernel
theorem dL_stands_2 : decode cL_stands 2 = .ok (.invokevirtual 33, 3) := by decide +kernel
theorem dL_stands_5 : decode cL_stands 5 = .ok (.invokestatic 39, 3) := by decide +kernel
theorem dL_stands_8 : decode cL_stands 8 = .ok (.ifCond .eq 34, 3) := by decide +kernel
theorem dL_stands_11 : decode cL_stands 11 = .ok (.aload_n 0, 1) := by decide +kernel
theorem dL_stands_12 : decode cL_stands 12 = .ok (.invokevirtual 43, 3) := by decide +kernel
theorem dL_stands_15 : decode cL_stands 15 = .ok (.aload_n 1, 1) := by decide +kernel
theorem dL_stands_16 : decode cL_stands 16 = .ok (.getfield 46, 3) := by decide +kernel
theorem dL_stands_19 : decode cL_stands 19 = .ok (.if_icmp .ne 23, 3) := by decide +kernel
theorem dL_stands_22 : decode cL_stands 22 = .ok (.aload_n 0, 1) := by decide +kernel
theorem dL_stands_23 : decode cL_stands 23 = .ok (.invokevirtual 50, 3) := by decide +kernel
theorem dL_stands_26 : decode cL_stands 26 = .ok (.ifCond .ne 16, 3) := by decide +kernel
theorem dL_stands_29 : decode cL_stands 29 = .ok (.aload_n 0, 1) := by decide +kernel
theorem dL_stands_30 : decode cL_stands 30 = .ok (.invokevirtual 53, 3) := by decide +kernel
theorem dL_stands_33 : decode cL_stands 33 = .ok (.bipush (-2), 2) := by decide +kernel
theorem dL_stands_35 : decode cL_stands 35 = .ok (.if_icmp .ne 7, 3) := by decide +kernel
theorem dL_stands_38 : decode cL_stands 38 = .ok (.iconst 1, 1) := by decide +kernel
theorem dL_stands_39 : decode cL_stands 39 = .ok (.goto 4, 3) := by decide +kernel
theorem dL_stands_42 : decode cL_stands 42 = .ok (.iconst 0, 1) := by decide +kernel
theorem dL_stands_43 : decode cL_stands 43 = .ok (.ireturn, 1) := by decide +kernel
theorem dL_same_0 : decode cL_same 0 = .ok (.aload_n 0, 1) := by decide +kernel
theorem dL_same_1 : decode cL_same 1 = .ok (.invokevirtual 56, 3) := by decide +kernel
theorem dL_same_4 : decode cL_same 4 = .ok (.aload_n 1, 1) := by decide +kernel
theorem dL_same_5 : decode cL_same 5 = .ok (.getfield 59, 3) := by decide +kernel
theorem dL_same_8 : decode cL_same 8 = .ok (.if_icmp .ne 18, 3) := by decide +kernel
theorem dL_same_11 : decode cL_same 11 = .ok (.aload_n 0, 1) := by decide +kernel
theorem dL_same_12 : decode cL_same 12 = .ok (.invokevirtual 61, 3) := by decide +kernel
theorem dL_same_15 : decode cL_same 15 = .ok (.aload_n 1, 1) := by decide +kernel
theorem dL_same_16 : decode cL_same 16 = .ok (.invokevirtual 64, 3) := by decide +kernel
theorem dL_same_19 : decode cL_same 19 = .ok (.if_icmp .ne 7, 3) := by decide +kernel
theorem dL_same_22 : decode cL_same 22 = .ok (.iconst 1, 1) := by decide +kernel
theorem dL_same_23 : decode cL_same 23 = .ok (.goto 4, 3) := by decide +kernel
theorem dL_same_26 : decode cL_same 26 = .ok (.iconst 0, 1) := by decide +kernel
theorem dL_same_27 : decode cL_same 27 = .ok (.istore_n 2, 1) := by decide +kernel
theorem dL_same_28 : decode cL_same 28 = .ok (.iconst 0, 1) := by decide +kernel
theorem dL_same_29 : decode cL_same 29 = .ok (.istore_n 3, 1) := by decide +kernel
theorem dL_same_30 : decode cL_same 30 = .ok (.iload_n 3, 1) := by decide +kernel
theorem dL_same_31 : decode cL_same 31 = .ok (.aload_n 1, 1) := by decide +kernel
theorem dL_same_32 : decode cL_same 32 = .ok (.getfield 46, 3) := by decide +kernel
theorem dL_same_35 : decode cL_same 35 = .ok (.if_icmp .ge 218, 3) := by decide +kernel
theorem dL_same_38 : decode cL_same 38 = .ok (.iload_n 2, 1) := by decide +kernel
theorem dL_same_39 : decode cL_same 39 = .ok (.ifCond .eq 214, 3) := by decide +kernel
theorem dL_same_42 : decode cL_same 42 = .ok (.aload_n 0, 1) := by decide +kernel
theorem dL_same_43 : decode cL_same 43 = .ok (.iload_n 3, 1) := by decide +kernel
theorem dL_same_44 : decode cL_same 44 = .ok (.invokevirtual 67, 3) := by decide +kernel
theorem dL_same_47 : decode cL_same 47 = .ok (.aload_n 1, 1) := by decide +kernel
theorem dL_same_48 : decode cL_same 48 = .ok (.getfield 70, 3) := by decide +kernel
theorem dL_same_51 : decode cL_same 51 = .ok (.iload_n 3, 1) := by decide +kernel
theorem dL_same_52 : decode cL_same 52 = .ok (.iaload, 1) := by decide +kernel
theorem dL_same_53 : decode cL_same 53 = .ok (.if_icmp .ne 49, 3) := by decide +kernel
theorem dL_same_56 : decode cL_same 56 = .ok (.aload_n 0, 1) := by decide +kernel
theorem dL_same_57 : decode cL_same 57 = .ok (.iload_n 3, 1) := by decide +kernel
theorem dL_same_58 : decode cL_same 58 = .ok (.invokevirtual 73, 3) := by decide +kernel
theorem dL_same_61 : decode cL_same 61 = .ok (.aload_n 1, 1) := by decide +kernel
theorem dL_same_62 : decode cL_same 62 = .ok (.getfield 76, 3) := by decide +kernel
theorem dL_same_65 : decode cL_same 65 = .ok (.iload_n 3, 1) := by decide +kernel
theorem dL_same_66 : decode cL_same 66 = .ok (.iaload, 1) := by decide +kernel
theorem dL_same_67 : decode cL_same 67 = .ok (.if_icmp .ne 35, 3) := by decide +kernel
theorem dL_same_70 : decode cL_same 70 = .ok (.aload_n 0, 1) := by decide +kernel
theorem dL_same_71 : decode cL_same 71 = .ok (.iload_n 3, 1) := by decide +kernel
theorem dL_same_72 : decode cL_same 72 = .ok (.invokevirtual 78, 3) := by decide +kernel
theorem dL_same_75 : decode cL_same 75 = .ok (.aload_n 1, 1) := by decide +kernel
theorem dL_same_76 : decode cL_same 76 = .ok (.getfield 81, 3) := by decide +kernel
theorem dL_same_79 : decode cL_same 79 = .ok (.iload_n 3, 1) := by decide +kernel
theorem dL_same_80 : decode cL_same 80 = .ok (.iaload, 1) := by decide +kernel
theorem dL_same_81 : decode cL_same 81 = .ok (.if_icmp .ne 21, 3) := by decide +kernel
theorem dL_same_84 : decode cL_same 84 = .ok (.aload_n 0, 1) := by decide +kernel
theorem dL_same_85 : decode cL_same 85 = .ok (.iload_n 3, 1) := by decide +kernel
theorem dL_same_86 : decode cL_same 86 = .ok (.invokevirtual 84, 3) := by decide +kernel
theorem dL_same_89 : decode cL_same 89 = .ok (.aload_n 1, 1) := by decide +kernel
theorem dL_same_90 : decode cL_same 90 = .ok (.getfield 87, 3) := by decide +kernel
theorem dL_same_93 : decode cL_same 93 = .ok (.iload_n 3, 1) := by decide +kernel
theorem dL_same_94 : decode cL_same 94 = .ok (.iaload, 1) := by decide +kernel
theorem dL_same_95 : decode cL_same 95 = .ok (.if_icmp .ne 7, 3) := by decide +kernel
theorem dL_same_98 : decode cL_same 98 = .ok (.iconst 1, 1) := by decide +kernel
theorem dL_same_99 : decode cL_same 99 = .ok (.goto 4, 3) := by decide +kernel
theorem dL_same_102 : decode cL_same 102 = .ok (.iconst 0, 1) := by decide +kernel
theorem dL_same_103 : decode cL_same 103 = .ok (.istore_n 2, 1) := by decide +kernel
theorem dL_same_104 : decode cL_same 104 = .ok (.aload_n 1, 1) := by decide +kernel
theorem dL_same_105 : decode cL_same 105 = .ok (.iload_n 3, 1) := by decide +kernel
theorem dL_same_106 : decode cL_same 106 = .ok (.invokevirtual 90, 3) := by decide +kernel
theorem dL_same_109 : decode cL_same 109 = .ok (.ifCond .ne 42, 3) := by decide +kernel
theorem dL_same_112 : decode cL_same 112 = .ok (.iload_n 2, 1) := by decide +kernel
theorem dL_same_113 : decode cL_same 113 = .ok (.ifCond .eq 33, 3) := by decide +kernel
theorem dL_same_116 : decode cL_same 116 = .ok (.aload_n 0, 1) := by decide +kernel
theorem dL_same_117 : decode cL_same 117 = .ok (.iload_n 3, 1) := by decide +kernel
theorem dL_same_118 : decode cL_same 118 = .ok (.invokevirtual 94, 3) := by decide +kernel
theorem dL_same_121 : decode cL_same 121 = .ok (.iconst (-1), 1) := by decide +kernel
theorem dL_same_122 : decode cL_same 122 = .ok (.if_icmp .ne 24, 3) := by decide +kernel
theorem dL_same_125 : decode cL_same 125 = .ok (.aload_n 0, 1) := by decide +kernel
theorem dL_same_126 : decode cL_same 126 = .ok (.iload_n 3, 1) := by decide +kernel
theorem dL_same_127 : decode cL_same 127 = .ok (.invokevirtual 97, 3) := by decide +kernel
theorem dL_same_130 : decode cL_same 130 = .ok (.iconst (-1), 1) := by decide +kernel
theorem dL_same_131 : decode cL_same 131 = .ok (.if_icmp .ne 15, 3) := by decide +kernel
theorem dL_same_134 : decode cL_same 134 = .ok (.aload_n 0, 1) := by decide +kernel
theorem dL_same_135 : decode cL_same 135 = .ok (.iload_n 3, 1) := by decide +kernel
theorem dL_same_136 : decode cL_same 136 = .ok (.invokevirtual 100, 3) := by decide +kernel
theorem dL_same_139 : decode cL_same 139 = .ok (.ifCond .ne 7, 3) := by decide +kernel
theorem dL_same_142 : decode cL_same 142 = .ok (.iconst 1, 1) := by decide +kernel
theorem dL_same_143 : decode cL_same 143 = .ok (.goto 4, 3) := by decide +kernel
theorem dL_same_146 : decode cL_same 146 = .ok (.iconst 0, 1) := by decide +kernel
theorem dL_same_147 : decode cL_same 147 = .ok (.istore_n 2, 1) := by decide +kernel
theorem dL_same_148 : decode cL_same 148 = .ok (.goto 99, 3) := by decide +kernel
theorem dL_same_151 : decode cL_same 151 = .ok (.iload_n 2, 1) := by decide +kernel
theorem dL_same_152 : decode cL_same 152 = .ok (.ifCond .eq 93, 3) := by decide +kernel
theorem dL_same_155 : decode cL_same 155 = .ok (.aload_n 0, 1) := by decide +kernel
theorem dL_same_156 : decode cL_same 156 = .ok (.iload_n 3, 1) := by decide +kernel
theorem dL_same_157 : decode cL_same 157 = .ok (.invokevirtual 94, 3) := by decide +kernel
theorem dL_same_160 : decode cL_same 160 = .ok (.aload_n 1, 1) := by decide +kernel
theorem dL_same_161 : decode cL_same 161 = .ok (.getfield 101, 3) := by decide +kernel
theorem dL_same_164 : decode cL_same 164 = .ok (.iload_n 3, 1) := by decide +kernel
theorem dL_same_165 : decode cL_same 165 = .ok (.iaload, 1) := by decide +kernel
theorem dL_same_166 : decode cL_same 166 = .ok (.if_icmp .ne 79, 3) := by decide +kernel
theorem dL_same_169 : decode cL_same 169 = .ok (.aload_n 0, 1) := by decide +kernel
theorem dL_same_170 : decode cL_same 170 = .ok (.iload_n 3, 1) := by decide +kernel
theorem dL_same_171 : decode cL_same 171 = .ok (.invokevirtual 104, 3) := by decide +kernel
theorem dL_same_174 : decode cL_same 174 = .ok (.aload_n 1, 1) := by decide +kernel
theorem dL_same_175 : decode cL_same 175 = .ok (.getfield 107, 3) := by decide +kernel
theorem dL_same_178 : decode cL_same 178 = .ok (.iload_n 3, 1) := by decide +kernel
theorem dL_same_179 : decode cL_same 179 = .ok (.iaload, 1) := by decide +kernel
theorem dL_same_180 : decode cL_same 180 = .ok (.if_icmp .ne 65, 3) := by decide +kernel
theorem dL_same_183 : decode cL_same 183 = .ok (.aload_n 0, 1) := by decide +kernel
theorem dL_same_184 : decode cL_same 184 = .ok (.iload_n 3, 1) := by decide +kernel
theorem dL_same_185 : decode cL_same 185 = .ok (.invokevirtual 110, 3) := by decide +kernel
theorem dL_same_188 : decode cL_same 188 = .ok (.aload_n 1, 1) := by decide +kernel
theorem dL_same_189 : decode cL_same 189 = .ok (.getfield 113, 3) := by decide +kernel
theorem dL_same_192 : decode cL_same 192 = .ok (.iload_n 3, 1) := by decide +kernel
theorem dL_same_193 : decode cL_same 193 = .ok (.iaload, 1) := by decide +kernel
theorem dL_same_194 : decode cL_same 194 = .ok (.if_icmp .ne 51, 3) := by decide +kernel
theorem dL_same_197 : decode cL_same 197 = .ok (.aload_n 0, 1) := by decide +kernel
theorem dL_same_198 : decode cL_same 198 = .ok (.iload_n 3, 1) := by decide +kernel
theorem dL_same_199 : decode cL_same 199 = .ok (.invokevirtual 116, 3) := by decide +kernel
theorem dL_same_202 : decode cL_same 202 = .ok (.aload_n 1, 1) := by decide +kernel
theorem dL_same_203 : decode cL_same 203 = .ok (.getfield 119, 3) := by decide +kernel
theorem dL_same_206 : decode cL_same 206 = .ok (.iload_n 3, 1) := by decide +kernel
theorem dL_same_207 : decode cL_same 207 = .ok (.iaload, 1) := by decide +kernel
theorem dL_same_208 : decode cL_same 208 = .ok (.if_icmp .ne 37, 3) := by decide +kernel
theorem dL_same_211 : decode cL_same 211 = .ok (.aload_n 0, 1) := by decide +kernel
theorem dL_same_212 : decode cL_same 212 = .ok (.iload_n 3, 1) := by decide +kernel
theorem dL_same_213 : decode cL_same 213 = .ok (.invokevirtual 97, 3) := by decide +kernel
theorem dL_same_216 : decode cL_same 216 = .ok (.aload_n 1, 1) := by decide +kernel
theorem dL_same_217 : decode cL_same 217 = .ok (.getfield 122, 3) := by decide +kernel
theorem dL_same_220 : decode cL_same 220 = .ok (.iload_n 3, 1) := by decide +kernel
theorem dL_same_221 : decode cL_same 221 = .ok (.invokevirtual 126, 3) := by decide +kernel
theorem dL_same_224 : decode cL_same 224 = .ok (.checkcast 127, 3) := by decide +kernel
theorem dL_same_227 : decode cL_same 227 = .ok (.invokevirtual 132, 3) := by decide +kernel
theorem dL_same_230 : decode cL_same 230 = .ok (.if_icmp .ne 15, 3) := by decide +kernel
theorem dL_same_233 : decode cL_same 233 = .ok (.aload_n 0, 1) := by decide +kernel
theorem dL_same_234 : decode cL_same 234 = .ok (.iload_n 3, 1) := by decide +kernel
theorem dL_same_235 : decode cL_same 235 = .ok (.invokevirtual 100, 3) := by decide +kernel
theorem dL_same_238 : decode cL_same 238 = .ok (.ifCond .eq 7, 3) := by decide +kernel
theorem dL_same_241 : decode cL_same 241 = .ok (.iconst 1, 1) := by decide +kernel
theorem dL_same_242 : decode cL_same 242 = .ok (.goto 4, 3) := by decide +kernel
theorem dL_same_245 : decode cL_same 245 = .ok (.iconst 0, 1) := by decide +kernel
theorem dL_same_246 : decode cL_same 246 = .ok (.istore_n 2, 1) := by decide +kernel
theorem dL_same_247 : decode cL_same 247 = .ok (.iinc 3 1, 3) := by decide +kernel
theorem dL_same_250 : decode cL_same 250 = .ok (.goto (-220), 3) := by decide +kernel
theorem dL_same_253 : decode cL_same 253 = .ok (.iload_n 2, 1) := by decide +kernel
theorem dL_same_254 : decode cL_same 254 = .ok (.ireturn, 1) := by decide +kernel
theorem dL_law_0 : decode cL_law 0 = .ok (.new 25, 3) := by decide +kernel
theorem dL_law_3 : decode cL_law 3 = .ok (.dup, 1) := by decide +kernel
theorem dL_law_4 : decode cL_law 4 = .ok (.invokespecial 135, 3) := by decide +kernel
theorem dL_law_7 : decode cL_law 7 = .ok (.astore_n 1, 1) := by decide +kernel
theorem dL_law_8 : decode cL_law 8 = .ok (.aload_n 1, 1) := by decide +kernel
theorem dL_law_9 : decode cL_law 9 = .ok (.invokevirtual 136, 3) := by decide +kernel
theorem dL_law_12 : decode cL_law 12 = .ok (.ifCond .ne 96, 3) := by decide +kernel
theorem dL_law_15 : decode cL_law 15 = .ok (.aload_n 1, 1) := by decide +kernel
theorem dL_law_16 : decode cL_law 16 = .ok (.invokevirtual 56, 3) := by decide +kernel
theorem dL_law_19 : decode cL_law 19 = .ok (.ifCond .ne 89, 3) := by decide +kernel
theorem dL_law_22 : decode cL_law 22 = .ok (.aload_n 1, 1) := by decide +kernel
theorem dL_law_23 : decode cL_law 23 = .ok (.iconst 0, 1) := by decide +kernel
theorem dL_law_24 : decode cL_law 24 = .ok (.invokevirtual 67, 3) := by decide +kernel
theorem dL_law_27 : decode cL_law 27 = .ok (.iconst (-1), 1) := by decide +kernel
theorem dL_law_28 : decode cL_law 28 = .ok (.if_icmp .ne 80, 3) := by decide +kernel
theorem dL_law_31 : decode cL_law 31 = .ok (.aload_n 1, 1) := by decide +kernel
theorem dL_law_32 : decode cL_law 32 = .ok (.iconst 0, 1) := by decide +kernel
theorem dL_law_33 : decode cL_law 33 = .ok (.iconst 1, 1) := by decide +kernel
theorem dL_law_34 : decode cL_law 34 = .ok (.invokevirtual 139, 3) := by decide +kernel
theorem dL_law_37 : decode cL_law 37 = .ok (.iconst (-1), 1) := by decide +kernel
theorem dL_law_38 : decode cL_law 38 = .ok (.if_icmp .ne 70, 3) := by decide +kernel
theorem dL_law_41 : decode cL_law 41 = .ok (.aload_n 1, 1) := by decide +kernel
theorem dL_law_42 : decode cL_law 42 = .ok (.iconst 0, 1) := by decide +kernel
theorem dL_law_43 : decode cL_law 43 = .ok (.iconst 1, 1) := by decide +kernel
theorem dL_law_44 : decode cL_law 44 = .ok (.invokevirtual 143, 3) := by decide +kernel
theorem dL_law_47 : decode cL_law 47 = .ok (.iconst (-1), 1) := by decide +kernel
theorem dL_law_48 : decode cL_law 48 = .ok (.if_icmp .ne 60, 3) := by decide +kernel
theorem dL_law_51 : decode cL_law 51 = .ok (.aload_n 1, 1) := by decide +kernel
theorem dL_law_52 : decode cL_law 52 = .ok (.iconst 1, 1) := by decide +kernel
theorem dL_law_53 : decode cL_law 53 = .ok (.invokevirtual 146, 3) := by decide +kernel
theorem dL_law_56 : decode cL_law 56 = .ok (.iconst (-1), 1) := by decide +kernel
theorem dL_law_57 : decode cL_law 57 = .ok (.if_icmp .ne 51, 3) := by decide +kernel
theorem dL_law_60 : decode cL_law 60 = .ok (.aload_n 1, 1) := by decide +kernel
theorem dL_law_61 : decode cL_law 61 = .ok (.invokevirtual 61, 3) := by decide +kernel
theorem dL_law_64 : decode cL_law 64 = .ok (.bipush (-2), 2) := by decide +kernel
theorem dL_law_66 : decode cL_law 66 = .ok (.if_icmp .ne 42, 3) := by decide +kernel
theorem dL_law_69 : decode cL_law 69 = .ok (.aload_n 1, 1) := by decide +kernel
theorem dL_law_70 : decode cL_law 70 = .ok (.invokevirtual 149, 3) := by decide +kernel
theorem dL_law_73 : decode cL_law 73 = .ok (.bipush (-2), 2) := by decide +kernel
theorem dL_law_75 : decode cL_law 75 = .ok (.if_icmp .ne 33, 3) := by decide +kernel
theorem dL_law_78 : decode cL_law 78 = .ok (.aload_n 1, 1) := by decide +kernel
theorem dL_law_79 : decode cL_law 79 = .ok (.invokevirtual 152, 3) := by decide +kernel
theorem dL_law_82 : decode cL_law 82 = .ok (.iconst (-1), 1) := by decide +kernel
theorem dL_law_83 : decode cL_law 83 = .ok (.if_icmp .ne 25, 3) := by decide +kernel
theorem dL_law_86 : decode cL_law 86 = .ok (.aload_n 1, 1) := by decide +kernel
theorem dL_law_87 : decode cL_law 87 = .ok (.iconst 0, 1) := by decide +kernel
theorem dL_law_88 : decode cL_law 88 = .ok (.invokevirtual 100, 3) := by decide +kernel
theorem dL_law_91 : decode cL_law 91 = .ok (.ifCond .ne 17, 3) := by decide +kernel
theorem dL_law_94 : decode cL_law 94 = .ok (.aload_n 1, 1) := by decide +kernel
theorem dL_law_95 : decode cL_law 95 = .ok (.iconst 0, 1) := by decide +kernel
theorem dL_law_96 : decode cL_law 96 = .ok (.iconst 1, 1) := by decide +kernel
theorem dL_law_97 : decode cL_law 97 = .ok (.invokevirtual 155, 3) := by decide +kernel
theorem dL_law_100 : decode cL_law 100 = .ok (.iconst (-1), 1) := by decide +kernel
theorem dL_law_101 : decode cL_law 101 = .ok (.if_icmp .ne 7, 3) := by decide +kernel
theorem dL_law_104 : decode cL_law 104 = .ok (.iconst 1, 1) := by decide +kernel
theorem dL_law_105 : decode cL_law 105 = .ok (.goto 4, 3) := by decide +kernel
theorem dL_law_108 : decode cL_law 108 = .ok (.iconst 0, 1) := by decide +kernel
theorem dL_law_109 : decode cL_law 109 = .ok (.istore_n 2, 1) := by decide +kernel
theorem dL_law_110 : decode cL_law 110 = .ok (.iconst 0, 1) := by decide +kernel
theorem dL_law_111 : decode cL_law 111 = .ok (.istore_n 3, 1) := by decide +kernel
theorem dL_law_112 : decode cL_law 112 = .ok (.iload_n 3, 1) := by decide +kernel
theorem dL_law_113 : decode cL_law 113 = .ok (.iconst 5, 1) := by decide +kernel
theorem dL_law_114 : decode cL_law 114 = .ok (.if_icmp .ge 315, 3) := by decide +kernel
theorem dL_law_117 : decode cL_law 117 = .ok (.iload_n 2, 1) := by decide +kernel
theorem dL_law_118 : decode cL_law 118 = .ok (.ifCond .eq 311, 3) := by decide +kernel
theorem dL_law_121 : decode cL_law 121 = .ok (.iconst 1, 1) := by decide +kernel
theorem dL_law_122 : decode cL_law 122 = .ok (.newarray .int, 2) := by decide +kernel
theorem dL_law_124 : decode cL_law 124 = .ok (.dup, 1) := by decide +kernel
theorem dL_law_125 : decode cL_law 125 = .ok (.iconst 0, 1) := by decide +kernel
theorem dL_law_126 : decode cL_law 126 = .ok (.aload_n 0, 1) := by decide +kernel
theorem dL_law_127 : decode cL_law 127 = .ok (.iload_n 3, 1) := by decide +kernel
theorem dL_law_128 : decode cL_law 128 = .ok (.invokestatic 158, 3) := by decide +kernel
theorem dL_law_131 : decode cL_law 131 = .ok (.iload_n 3, 1) := by decide +kernel
theorem dL_law_132 : decode cL_law 132 = .ok (.iadd, 1) := by decide +kernel
theorem dL_law_133 : decode cL_law 133 = .ok (.invokestatic 8, 3) := by decide +kernel
theorem dL_law_136 : decode cL_law 136 = .ok (.iastore, 1) := by decide +kernel
theorem dL_law_137 : decode cL_law 137 = .ok (.astore 4, 2) := by decide +kernel
theorem dL_law_139 : decode cL_law 139 = .ok (.new 34, 3) := by decide +kernel
theorem dL_law_142 : decode cL_law 142 = .ok (.dup, 1) := by decide +kernel
theorem dL_law_143 : decode cL_law 143 = .ok (.aload 4, 2) := by decide +kernel
theorem dL_law_145 : decode cL_law 145 = .ok (.invokespecial 162, 3) := by decide +kernel
theorem dL_law_148 : decode cL_law 148 = .ok (.astore 5, 2) := by decide +kernel
theorem dL_law_150 : decode cL_law 150 = .ok (.aload_n 1, 1) := by decide +kernel
theorem dL_law_151 : decode cL_law 151 = .ok (.aload 5, 2) := by decide +kernel
theorem dL_law_153 : decode cL_law 153 = .ok (.invokestatic 165, 3) := by decide +kernel
theorem dL_law_156 : decode cL_law 156 = .ok (.ifCond .eq 25, 3) := by decide +kernel
theorem dL_law_159 : decode cL_law 159 = .ok (.aload_n 1, 1) := by decide +kernel
theorem dL_law_160 : decode cL_law 160 = .ok (.aload 5, 2) := by decide +kernel
theorem dL_law_162 : decode cL_law 162 = .ok (.invokestatic 169, 3) := by decide +kernel
theorem dL_law_165 : decode cL_law 165 = .ok (.ifCond .eq 16, 3) := by decide +kernel
theorem dL_law_168 : decode cL_law 168 = .ok (.aload_n 1, 1) := by decide +kernel
theorem dL_law_169 : decode cL_law 169 = .ok (.aload 5, 2) := by decide +kernel
theorem dL_law_171 : decode cL_law 171 = .ok (.invokestatic 172, 3) := by decide +kernel
theorem dL_law_174 : decode cL_law 174 = .ok (.ifCond .eq 7, 3) := by decide +kernel
theorem dL_law_177 : decode cL_law 177 = .ok (.iconst 1, 1) := by decide +kernel
theorem dL_law_178 : decode cL_law 178 = .ok (.goto 4, 3) := by decide +kernel
theorem dL_law_181 : decode cL_law 181 = .ok (.iconst 0, 1) := by decide +kernel
theorem dL_law_182 : decode cL_law 182 = .ok (.istore_n 2, 1) := by decide +kernel
theorem dL_law_183 : decode cL_law 183 = .ok (.iconst 0, 1) := by decide +kernel
theorem dL_law_184 : decode cL_law 184 = .ok (.istore 6, 2) := by decide +kernel
theorem dL_law_186 : decode cL_law 186 = .ok (.iload 6, 2) := by decide +kernel
theorem dL_law_188 : decode cL_law 188 = .ok (.bipush 14, 2) := by decide +kernel
theorem dL_law_190 : decode cL_law 190 = .ok (.if_icmp .ge 233, 3) := by decide +kernel
theorem dL_law_193 : decode cL_law 193 = .ok (.iload_n 2, 1) := by decide +kernel
theorem dL_law_194 : decode cL_law 194 = .ok (.ifCond .eq 229, 3) := by decide +kernel
theorem dL_law_197 : decode cL_law 197 = .ok (.aload 5, 2) := by decide +kernel
theorem dL_law_199 : decode cL_law 199 = .ok (.aload 4, 2) := by decide +kernel
theorem dL_law_201 : decode cL_law 201 = .ok (.invokevirtual 175, 3) := by decide +kernel
theorem dL_law_204 : decode cL_law 204 = .ok (.istore 7, 2) := by decide +kernel
theorem dL_law_206 : decode cL_law 206 = .ok (.iconst 1, 1) := by decide +kernel
theorem dL_law_207 : decode cL_law 207 = .ok (.aload 4, 2) := by decide +kernel
theorem dL_law_209 : decode cL_law 209 = .ok (.bipush 12, 2) := by decide +kernel
theorem dL_law_211 : decode cL_law 211 = .ok (.invokestatic 179, 3) := by decide +kernel
theorem dL_law_214 : decode cL_law 214 = .ok (.iadd, 1) := by decide +kernel
theorem dL_law_215 : decode cL_law 215 = .ok (.istore 8, 2) := by decide +kernel
theorem dL_law_217 : decode cL_law 217 = .ok (.aload_n 1, 1) := by decide +kernel
theorem dL_law_218 : decode cL_law 218 = .ok (.aload 5, 2) := by decide +kernel
theorem dL_law_220 : decode cL_law 220 = .ok (.iload 7, 2) := by decide +kernel
theorem dL_law_222 : decode cL_law 222 = .ok (.iload 8, 2) := by decide +kernel
theorem dL_law_224 : decode cL_law 224 = .ok (.invokestatic 182, 3) := by decide +kernel
theorem dL_law_227 : decode cL_law 227 = .ok (.istore_n 2, 1) := by decide +kernel
theorem dL_law_228 : decode cL_law 228 = .ok (.iload_n 2, 1) := by decide +kernel
theorem dL_law_229 : decode cL_law 229 = .ok (.ifCond .ne 5, 3) := by decide +kernel
theorem dL_law_232 : decode cL_law 232 = .ok (.iconst 0, 1) := by decide +kernel
theorem dL_law_233 : decode cL_law 233 = .ok (.ireturn, 1) := by decide +kernel
theorem dL_law_234 : decode cL_law 234 = .ok (.aload 5, 2) := by decide +kernel
theorem dL_law_236 : decode cL_law 236 = .ok (.iload 7, 2) := by decide +kernel
theorem dL_law_238 : decode cL_law 238 = .ok (.iload 8, 2) := by decide +kernel
theorem dL_law_240 : decode cL_law 240 = .ok (.invokevirtual 186, 3) := by decide +kernel
theorem dL_law_243 : decode cL_law 243 = .ok (.istore 9, 2) := by decide +kernel
theorem dL_law_245 : decode cL_law 245 = .ok (.aload_n 1, 1) := by decide +kernel
theorem dL_law_246 : decode cL_law 246 = .ok (.iload 7, 2) := by decide +kernel
theorem dL_law_248 : decode cL_law 248 = .ok (.iload 8, 2) := by decide +kernel
theorem dL_law_250 : decode cL_law 250 = .ok (.invokevirtual 143, 3) := by decide +kernel
theorem dL_law_253 : decode cL_law 253 = .ok (.iload 9, 2) := by decide +kernel
theorem dL_law_255 : decode cL_law 255 = .ok (.ifCond .ge 8, 3) := by decide +kernel
theorem dL_law_258 : decode cL_law 258 = .ok (.bipush (-2), 2) := by decide +kernel
theorem dL_law_260 : decode cL_law 260 = .ok (.goto 12, 3) := by decide +kernel
theorem dL_law_263 : decode cL_law 263 = .ok (.aload 5, 2) := by decide +kernel
theorem dL_law_265 : decode cL_law 265 = .ok (.iload 7, 2) := by decide +kernel
theorem dL_law_267 : decode cL_law 267 = .ok (.iload 9, 2) := by decide +kernel
theorem dL_law_269 : decode cL_law 269 = .ok (.invokevirtual 187, 3) := by decide +kernel
theorem dL_law_272 : decode cL_law 272 = .ok (.if_icmp .ne 7, 3) := by decide +kernel
theorem dL_law_275 : decode cL_law 275 = .ok (.iconst 1, 1) := by decide +kernel
theorem dL_law_276 : decode cL_law 276 = .ok (.goto 4, 3) := by decide +kernel
theorem dL_law_279 : decode cL_law 279 = .ok (.iconst 0, 1) := by decide +kernel
theorem dL_law_280 : decode cL_law 280 = .ok (.istore_n 2, 1) := by decide +kernel
theorem dL_law_281 : decode cL_law 281 = .ok (.iload 9, 2) := by decide +kernel
theorem dL_law_283 : decode cL_law 283 = .ok (.ifCond .lt 12, 3) := by decide +kernel
theorem dL_law_286 : decode cL_law 286 = .ok (.aload 5, 2) := by decide +kernel
theorem dL_law_288 : decode cL_law 288 = .ok (.iload 7, 2) := by decide +kernel
theorem dL_law_290 : decode cL_law 290 = .ok (.iload 8, 2) := by decide +kernel
theorem dL_law_292 : decode cL_law 292 = .ok (.invokevirtual 190, 3) := by decide +kernel
theorem dL_law_295 : decode cL_law 295 = .ok (.iload_n 2, 1) := by decide +kernel
theorem dL_law_296 : decode cL_law 296 = .ok (.ifCond .eq 64, 3) := by decide +kernel
theorem dL_law_299 : decode cL_law 299 = .ok (.aload_n 1, 1) := by decide +kernel
theorem dL_law_300 : decode cL_law 300 = .ok (.aload 5, 2) := by decide +kernel
theorem dL_law_302 : decode cL_law 302 = .ok (.invokestatic 172, 3) := by decide +kernel
theorem dL_law_305 : decode cL_law 305 = .ok (.ifCond .eq 55, 3) := by decide +kernel
theorem dL_law_308 : decode cL_law 308 = .ok (.iload 9, 2) := by decide +kernel
theorem dL_law_310 : decode cL_law 310 = .ok (.ifCond .lt 46, 3) := by decide +kernel
theorem dL_law_313 : decode cL_law 313 = .ok (.aload_n 1, 1) := by decide +kernel
theorem dL_law_314 : decode cL_law 314 = .ok (.iconst 0, 1) := by decide +kernel
theorem dL_law_315 : decode cL_law 315 = .ok (.invokevirtual 194, 3) := by decide +kernel
theorem dL_law_318 : decode cL_law 318 = .ok (.iload 7, 2) := by decide +kernel
theorem dL_law_320 : decode cL_law 320 = .ok (.if_icmp .ne 40, 3) := by decide +kernel
theorem dL_law_323 : decode cL_law 323 = .ok (.aload_n 1, 1) := by decide +kernel
theorem dL_law_324 : decode cL_law 324 = .ok (.iconst 0, 1) := by decide +kernel
theorem dL_law_325 : decode cL_law 325 = .ok (.invokevirtual 197, 3) := by decide +kernel
theorem dL_law_328 : decode cL_law 328 = .ok (.iload 8, 2) := by decide +kernel
theorem dL_law_330 : decode cL_law 330 = .ok (.if_icmp .ne 30, 3) := by decide +kernel
theorem dL_law_333 : decode cL_law 333 = .ok (.aload_n 1, 1) := by decide +kernel
theorem dL_law_334 : decode cL_law 334 = .ok (.iconst 0, 1) := by decide +kernel
theorem dL_law_335 : decode cL_law 335 = .ok (.invokevirtual 200, 3) := by decide +kernel
theorem dL_law_338 : decode cL_law 338 = .ok (.iload 9, 2) := by decide +kernel
theorem dL_law_340 : decode cL_law 340 = .ok (.if_icmp .ne 20, 3) := by decide +kernel
theorem dL_law_343 : decode cL_law 343 = .ok (.aload_n 1, 1) := by decide +kernel
theorem dL_law_344 : decode cL_law 344 = .ok (.iconst 0, 1) := by decide +kernel
theorem dL_law_345 : decode cL_law 345 = .ok (.invokevirtual 203, 3) := by decide +kernel
theorem dL_law_348 : decode cL_law 348 = .ok (.aload 5, 2) := by decide +kernel
theorem dL_law_350 : decode cL_law 350 = .ok (.getfield 59, 3) := by decide +kernel
theorem dL_law_353 : decode cL_law 353 = .ok (.if_icmp .ne 7, 3) := by decide +kernel
theorem dL_law_356 : decode cL_law 356 = .ok (.iconst 1, 1) := by decide +kernel
theorem dL_law_357 : decode cL_law 357 = .ok (.goto 4, 3) := by decide +kernel
theorem dL_law_360 : decode cL_law 360 = .ok (.iconst 0, 1) := by decide +kernel
theorem dL_law_361 : decode cL_law 361 = .ok (.istore_n 2, 1) := by decide +kernel
theorem dL_law_362 : decode cL_law 362 = .ok (.aload 4, 2) := by decide +kernel
theorem dL_law_364 : decode cL_law 364 = .ok (.iconst 3, 1) := by decide +kernel
theorem dL_law_365 : decode cL_law 365 = .ok (.invokestatic 179, 3) := by decide +kernel
theorem dL_law_368 : decode cL_law 368 = .ok (.ifCond .le 6, 3) := by decide +kernel
theorem dL_law_371 : decode cL_law 371 = .ok (.goto 46, 3) := by decide +kernel
theorem dL_law_374 : decode cL_law 374 = .ok (.iload_n 2, 1) := by decide +kernel
theorem dL_law_375 : decode cL_law 375 = .ok (.ifCond .eq 15, 3) := by decide +kernel
theorem dL_law_378 : decode cL_law 378 = .ok (.aload_n 1, 1) := by decide +kernel
theorem dL_law_379 : decode cL_law 379 = .ok (.iconst 1, 1) := by decide +kernel
theorem dL_law_380 : decode cL_law 380 = .ok (.invokevirtual 146, 3) := by decide +kernel
theorem dL_law_383 : decode cL_law 383 = .ok (.ifCond .ne 7, 3) := by decide +kernel
theorem dL_law_386 : decode cL_law 386 = .ok (.iconst 1, 1) := by decide +kernel
theorem dL_law_387 : decode cL_law 387 = .ok (.goto 4, 3) := by decide +kernel
theorem dL_law_390 : decode cL_law 390 = .ok (.iconst 0, 1) := by decide +kernel
theorem dL_law_391 : decode cL_law 391 = .ok (.istore_n 2, 1) := by decide +kernel
theorem dL_law_392 : decode cL_law 392 = .ok (.aload 5, 2) := by decide +kernel
theorem dL_law_394 : decode cL_law 394 = .ok (.invokevirtual 206, 3) := by decide +kernel
theorem dL_law_397 : decode cL_law 397 = .ok (.pop, 1) := by decide +kernel
theorem dL_law_398 : decode cL_law 398 = .ok (.iload_n 2, 1) := by decide +kernel
theorem dL_law_399 : decode cL_law 399 = .ok (.ifCond .eq 16, 3) := by decide +kernel
theorem dL_law_402 : decode cL_law 402 = .ok (.aload_n 1, 1) := by decide +kernel
theorem dL_law_403 : decode cL_law 403 = .ok (.aload 5, 2) := by decide +kernel
theorem dL_law_405 : decode cL_law 405 = .ok (.invokestatic 172, 3) := by decide +kernel
theorem dL_law_408 : decode cL_law 408 = .ok (.ifCond .eq 7, 3) := by decide +kernel
theorem dL_law_411 : decode cL_law 411 = .ok (.iconst 1, 1) := by decide +kernel
theorem dL_law_412 : decode cL_law 412 = .ok (.goto 4, 3) := by decide +kernel
theorem dL_law_415 : decode cL_law 415 = .ok (.iconst 0, 1) := by decide +kernel
theorem dL_law_416 : decode cL_law 416 = .ok (.istore_n 2, 1) := by decide +kernel
theorem dL_law_417 : decode cL_law 417 = .ok (.iinc 6 1, 3) := by decide +kernel
theorem dL_law_420 : decode cL_law 420 = .ok (.goto (-234), 3) := by decide +kernel
theorem dL_law_423 : decode cL_law 423 = .ok (.iinc 3 1, 3) := by decide +kernel
theorem dL_law_426 : decode cL_law 426 = .ok (.goto (-314), 3) := by decide +kernel
theorem dL_law_429 : decode cL_law 429 = .ok (.iload_n 2, 1) := by decide +kernel
theorem dL_law_430 : decode cL_law 430 = .ok (.ireturn, 1) := by decide +kernel
theorem dL_tree_0 : decode cL_tree 0 = .ok (.aload_n 0, 1) := by decide +kernel
theorem dL_tree_1 : decode cL_tree 1 = .ok (.invokevirtual 136, 3) := by decide +kernel
theorem dL_tree_4 : decode cL_tree 4 = .ok (.aload_n 1, 1) := by decide +kernel
theorem dL_tree_5 : decode cL_tree 5 = .ok (.getfield 46, 3) := by decide +kernel
theorem dL_tree_8 : decode cL_tree 8 = .ok (.if_icmp .ne 29, 3) := by decide +kernel
theorem dL_tree_11 : decode cL_tree 11 = .ok (.aload_n 0, 1) := by decide +kernel
theorem dL_tree_12 : decode cL_tree 12 = .ok (.iconst 0, 1) := by decide +kernel
theorem dL_tree_13 : decode cL_tree 13 = .ok (.invokevirtual 209, 3) := by decide +kernel
theorem dL_tree_16 : decode cL_tree 16 = .ok (.bipush (-2), 2) := by decide +kernel
theorem dL_tree_18 : decode cL_tree 18 = .ok (.if_icmp .ne 19, 3) := by decide +kernel
theorem dL_tree_21 : decode cL_tree 21 = .ok (.aload_n 0, 1) := by decide +kernel
theorem dL_tree_22 : decode cL_tree 22 = .ok (.aload_n 1, 1) := by decide +kernel
theorem dL_tree_23 : decode cL_tree 23 = .ok (.getfield 46, 3) := by decide +kernel
theorem dL_tree_26 : decode cL_tree 26 = .ok (.invokevirtual 209, 3) := by decide +kernel
theorem dL_tree_29 : decode cL_tree 29 = .ok (.iconst (-1), 1) := by decide +kernel
theorem dL_tree_30 : decode cL_tree 30 = .ok (.if_icmp .ne 7, 3) := by decide +kernel
theorem dL_tree_33 : decode cL_tree 33 = .ok (.iconst 1, 1) := by decide +kernel
theorem dL_tree_34 : decode cL_tree 34 = .ok (.goto 4, 3) := by decide +kernel
theorem dL_tree_37 : decode cL_tree 37 = .ok (.iconst 0, 1) := by decide +kernel
theorem dL_tree_38 : decode cL_tree 38 = .ok (.istore_n 2, 1) := by decide +kernel
theorem dL_tree_39 : decode cL_tree 39 = .ok (.iconst 0, 1) := by decide +kernel
theorem dL_tree_40 : decode cL_tree 40 = .ok (.istore_n 3, 1) := by decide +kernel
theorem dL_tree_41 : decode cL_tree 41 = .ok (.iload_n 3, 1) := by decide +kernel
theorem dL_tree_42 : decode cL_tree 42 = .ok (.aload_n 1, 1) := by decide +kernel
theorem dL_tree_43 : decode cL_tree 43 = .ok (.getfield 46, 3) := by decide +kernel
theorem dL_tree_46 : decode cL_tree 46 = .ok (.if_icmp .ge 349, 3) := by decide +kernel
theorem dL_tree_49 : decode cL_tree 49 = .ok (.iload_n 2, 1) := by decide +kernel
theorem dL_tree_50 : decode cL_tree 50 = .ok (.ifCond .eq 345, 3) := by decide +kernel
theorem dL_tree_53 : decode cL_tree 53 = .ok (.iconst 0, 1) := by decide +kernel
theorem dL_tree_54 : decode cL_tree 54 = .ok (.istore 4, 2) := by decide +kernel
theorem dL_tree_56 : decode cL_tree 56 = .ok (.iconst 0, 1) := by decide +kernel
theorem dL_tree_57 : decode cL_tree 57 = .ok (.istore 5, 2) := by decide +kernel
theorem dL_tree_59 : decode cL_tree 59 = .ok (.iconst 1, 1) := by decide +kernel
theorem dL_tree_60 : decode cL_tree 60 = .ok (.istore 6, 2) := by decide +kernel
theorem dL_tree_62 : decode cL_tree 62 = .ok (.iload 6, 2) := by decide +kernel
theorem dL_tree_64 : decode cL_tree 64 = .ok (.aload_n 1, 1) := by decide +kernel
theorem dL_tree_65 : decode cL_tree 65 = .ok (.getfield 46, 3) := by decide +kernel
theorem dL_tree_68 : decode cL_tree 68 = .ok (.if_icmp .ge 60, 3) := by decide +kernel
theorem dL_tree_71 : decode cL_tree 71 = .ok (.aload_n 1, 1) := by decide +kernel
theorem dL_tree_72 : decode cL_tree 72 = .ok (.getfield 212, 3) := by decide +kernel
theorem dL_tree_75 : decode cL_tree 75 = .ok (.iload 6, 2) := by decide +kernel
theorem dL_tree_77 : decode cL_tree 77 = .ok (.iaload, 1) := by decide +kernel
theorem dL_tree_78 : decode cL_tree 78 = .ok (.iload_n 3, 1) := by decide +kernel
theorem dL_tree_79 : decode cL_tree 79 = .ok (.if_icmp .eq 6, 3) := by decide +kernel
theorem dL_tree_82 : decode cL_tree 82 = .ok (.goto 40, 3) := by decide +kernel
theorem dL_tree_85 : decode cL_tree 85 = .ok (.iload 4, 2) := by decide +kernel
theorem dL_tree_87 : decode cL_tree 87 = .ok (.aload_n 1, 1) := by decide +kernel
theorem dL_tree_88 : decode cL_tree 88 = .ok (.getfield 214, 3) := by decide +kernel
theorem dL_tree_91 : decode cL_tree 91 = .ok (.iload 6, 2) := by decide +kernel
theorem dL_tree_93 : decode cL_tree 93 = .ok (.iaload, 1) := by decide +kernel
theorem dL_tree_94 : decode cL_tree 94 = .ok (.iadd, 1) := by decide +kernel
theorem dL_tree_95 : decode cL_tree 95 = .ok (.istore 4, 2) := by decide +kernel
theorem dL_tree_97 : decode cL_tree 97 = .ok (.iload_n 2, 1) := by decide +kernel
theorem dL_tree_98 : decode cL_tree 98 = .ok (.ifCond .eq 19, 3) := by decide +kernel
theorem dL_tree_101 : decode cL_tree 101 = .ok (.aload_n 0, 1) := by decide +kernel
theorem dL_tree_102 : decode cL_tree 102 = .ok (.iload_n 3, 1) := by decide +kernel
theorem dL_tree_103 : decode cL_tree 103 = .ok (.iload 5, 2) := by decide +kernel
theorem dL_tree_105 : decode cL_tree 105 = .ok (.invokevirtual 217, 3) := by decide +kernel
theorem dL_tree_108 : decode cL_tree 108 = .ok (.iload 6, 2) := by decide +kernel
theorem dL_tree_110 : decode cL_tree 110 = .ok (.if_icmp .ne 7, 3) := by decide +kernel
theorem dL_tree_113 : decode cL_tree 113 = .ok (.iconst 1, 1) := by decide +kernel
theorem dL_tree_114 : decode cL_tree 114 = .ok (.goto 4, 3) := by decide +kernel
theorem dL_tree_117 : decode cL_tree 117 = .ok (.iconst 0, 1) := by decide +kernel
theorem dL_tree_118 : decode cL_tree 118 = .ok (.istore_n 2, 1) := by decide +kernel
theorem dL_tree_119 : decode cL_tree 119 = .ok (.iinc 5 1, 3) := by decide +kernel
theorem dL_tree_122 : decode cL_tree 122 = .ok (.iinc 6 1, 3) := by decide +kernel
theorem dL_tree_125 : decode cL_tree 125 = .ok (.goto (-63), 3) := by decide +kernel
theorem dL_tree_128 : decode cL_tree 128 = .ok (.sipush 1000, 3) := by decide +kernel
theorem dL_tree_131 : decode cL_tree 131 = .ok (.istore 6, 2) := by decide +kernel
theorem dL_tree_133 : decode cL_tree 133 = .ok (.iload_n 3, 1) := by decide +kernel
theorem dL_tree_134 : decode cL_tree 134 = .ok (.istore 7, 2) := by decide +kernel
theorem dL_tree_136 : decode cL_tree 136 = .ok (.iload 7, 2) := by decide +kernel
theorem dL_tree_138 : decode cL_tree 138 = .ok (.ifCond .lt 29, 3) := by decide +kernel
theorem dL_tree_141 : decode cL_tree 141 = .ok (.iload 6, 2) := by decide +kernel
theorem dL_tree_143 : decode cL_tree 143 = .ok (.aload_n 1, 1) := by decide +kernel
theorem dL_tree_144 : decode cL_tree 144 = .ok (.getfield 220, 3) := by decide +kernel
theorem dL_tree_147 : decode cL_tree 147 = .ok (.iload 7, 2) := by decide +kernel
theorem dL_tree_149 : decode cL_tree 149 = .ok (.iaload, 1) := by decide +kernel
theorem dL_tree_150 : decode cL_tree 150 = .ok (.invokestatic 223, 3) := by decide +kernel
theorem dL_tree_153 : decode cL_tree 153 = .ok (.istore 6, 2) := by decide +kernel
theorem dL_tree_155 : decode cL_tree 155 = .ok (.aload_n 1, 1) := by decide +kernel
theorem dL_tree_156 : decode cL_tree 156 = .ok (.getfield 212, 3) := by decide +kernel
theorem dL_tree_159 : decode cL_tree 159 = .ok (.iload 7, 2) := by decide +kernel
theorem dL_tree_161 : decode cL_tree 161 = .ok (.iaload, 1) := by decide +kernel
theorem dL_tree_162 : decode cL_tree 162 = .ok (.istore 7, 2) := by decide +kernel
theorem dL_tree_164 : decode cL_tree 164 = .ok (.goto (-28), 3) := by decide +kernel
theorem dL_tree_167 : decode cL_tree 167 = .ok (.iload_n 2, 1) := by decide +kernel
theorem dL_tree_168 : decode cL_tree 168 = .ok (.ifCond .eq 153, 3) := by decide +kernel
theorem dL_tree_171 : decode cL_tree 171 = .ok (.aload_n 0, 1) := by decide +kernel
theorem dL_tree_172 : decode cL_tree 172 = .ok (.iload_n 3, 1) := by decide +kernel
theorem dL_tree_173 : decode cL_tree 173 = .ok (.iload 5, 2) := by decide +kernel
theorem dL_tree_175 : decode cL_tree 175 = .ok (.invokevirtual 217, 3) := by decide +kernel
theorem dL_tree_178 : decode cL_tree 178 = .ok (.bipush (-2), 2) := by decide +kernel
theorem dL_tree_180 : decode cL_tree 180 = .ok (.if_icmp .ne 141, 3) := by decide +kernel
theorem dL_tree_183 : decode cL_tree 183 = .ok (.aload_n 0, 1) := by decide +kernel
theorem dL_tree_184 : decode cL_tree 184 = .ok (.iload_n 3, 1) := by decide +kernel
theorem dL_tree_185 : decode cL_tree 185 = .ok (.invokevirtual 209, 3) := by decide +kernel
theorem dL_tree_188 : decode cL_tree 188 = .ok (.aload_n 1, 1) := by decide +kernel
theorem dL_tree_189 : decode cL_tree 189 = .ok (.getfield 212, 3) := by decide +kernel
theorem dL_tree_192 : decode cL_tree 192 = .ok (.iload_n 3, 1) := by decide +kernel
theorem dL_tree_193 : decode cL_tree 193 = .ok (.iaload, 1) := by decide +kernel
theorem dL_tree_194 : decode cL_tree 194 = .ok (.if_icmp .ne 127, 3) := by decide +kernel
theorem dL_tree_197 : decode cL_tree 197 = .ok (.aload_n 0, 1) := by decide +kernel
theorem dL_tree_198 : decode cL_tree 198 = .ok (.iload_n 3, 1) := by decide +kernel
theorem dL_tree_199 : decode cL_tree 199 = .ok (.invokevirtual 228, 3) := by decide +kernel
theorem dL_tree_202 : decode cL_tree 202 = .ok (.aload_n 1, 1) := by decide +kernel
theorem dL_tree_203 : decode cL_tree 203 = .ok (.iload_n 3, 1) := by decide +kernel
theorem dL_tree_204 : decode cL_tree 204 = .ok (.iconst 0, 1) := by decide +kernel
theorem dL_tree_205 : decode cL_tree 205 = .ok (.invokevirtual 187, 3) := by decide +kernel
theorem dL_tree_208 : decode cL_tree 208 = .ok (.if_icmp .ne 113, 3) := by decide +kernel
theorem dL_tree_211 : decode cL_tree 211 = .ok (.aload_n 0, 1) := by decide +kernel
theorem dL_tree_212 : decode cL_tree 212 = .ok (.iload_n 3, 1) := by decide +kernel
theorem dL_tree_213 : decode cL_tree 213 = .ok (.invokevirtual 231, 3) := by decide +kernel
theorem dL_tree_216 : decode cL_tree 216 = .ok (.aload_n 1, 1) := by decide +kernel
theorem dL_tree_217 : decode cL_tree 217 = .ok (.getfield 214, 3) := by decide +kernel
theorem dL_tree_220 : decode cL_tree 220 = .ok (.iload_n 3, 1) := by decide +kernel
theorem dL_tree_221 : decode cL_tree 221 = .ok (.iaload, 1) := by decide +kernel
theorem dL_tree_222 : decode cL_tree 222 = .ok (.if_icmp .ne 99, 3) := by decide +kernel
theorem dL_tree_225 : decode cL_tree 225 = .ok (.aload_n 0, 1) := by decide +kernel
theorem dL_tree_226 : decode cL_tree 226 = .ok (.iload_n 3, 1) := by decide +kernel
theorem dL_tree_227 : decode cL_tree 227 = .ok (.invokevirtual 233, 3) := by decide +kernel
theorem dL_tree_230 : decode cL_tree 230 = .ok (.aload_n 1, 1) := by decide +kernel
theorem dL_tree_231 : decode cL_tree 231 = .ok (.getfield 220, 3) := by decide +kernel
theorem dL_tree_234 : decode cL_tree 234 = .ok (.iload_n 3, 1) := by decide +kernel
theorem dL_tree_235 : decode cL_tree 235 = .ok (.iaload, 1) := by decide +kernel
theorem dL_tree_236 : decode cL_tree 236 = .ok (.if_icmp .ne 85, 3) := by decide +kernel
theorem dL_tree_239 : decode cL_tree 239 = .ok (.aload_n 0, 1) := by decide +kernel
theorem dL_tree_240 : decode cL_tree 240 = .ok (.iload_n 3, 1) := by decide +kernel
theorem dL_tree_241 : decode cL_tree 241 = .ok (.invokevirtual 235, 3) := by decide +kernel
theorem dL_tree_244 : decode cL_tree 244 = .ok (.aload_n 1, 1) := by decide +kernel
theorem dL_tree_245 : decode cL_tree 245 = .ok (.getfield 238, 3) := by decide +kernel
theorem dL_tree_248 : decode cL_tree 248 = .ok (.iload_n 3, 1) := by decide +kernel
theorem dL_tree_249 : decode cL_tree 249 = .ok (.iaload, 1) := by decide +kernel
theorem dL_tree_250 : decode cL_tree 250 = .ok (.if_icmp .ne 71, 3) := by decide +kernel
theorem dL_tree_253 : decode cL_tree 253 = .ok (.aload_n 0, 1) := by decide +kernel
theorem dL_tree_254 : decode cL_tree 254 = .ok (.iload_n 3, 1) := by decide +kernel
theorem dL_tree_255 : decode cL_tree 255 = .ok (.invokevirtual 240, 3) := by decide +kernel
theorem dL_tree_258 : decode cL_tree 258 = .ok (.aload_n 1, 1) := by decide +kernel
theorem dL_tree_259 : decode cL_tree 259 = .ok (.getfield 243, 3) := by decide +kernel
theorem dL_tree_262 : decode cL_tree 262 = .ok (.iload_n 3, 1) := by decide +kernel
theorem dL_tree_263 : decode cL_tree 263 = .ok (.iaload, 1) := by decide +kernel
theorem dL_tree_264 : decode cL_tree 264 = .ok (.if_icmp .ne 57, 3) := by decide +kernel
theorem dL_tree_267 : decode cL_tree 267 = .ok (.aload_n 0, 1) := by decide +kernel
theorem dL_tree_268 : decode cL_tree 268 = .ok (.iload_n 3, 1) := by decide +kernel
theorem dL_tree_269 : decode cL_tree 269 = .ok (.invokevirtual 246, 3) := by decide +kernel
theorem dL_tree_272 : decode cL_tree 272 = .ok (.aload_n 1, 1) := by decide +kernel
theorem dL_tree_273 : decode cL_tree 273 = .ok (.getfield 249, 3) := by decide +kernel
theorem dL_tree_276 : decode cL_tree 276 = .ok (.iload_n 3, 1) := by decide +kernel
theorem dL_tree_277 : decode cL_tree 277 = .ok (.iaload, 1) := by decide +kernel
theorem dL_tree_278 : decode cL_tree 278 = .ok (.if_icmp .ne 43, 3) := by decide +kernel
theorem dL_tree_281 : decode cL_tree 281 = .ok (.aload_n 0, 1) := by decide +kernel
theorem dL_tree_282 : decode cL_tree 282 = .ok (.iload_n 3, 1) := by decide +kernel
theorem dL_tree_283 : decode cL_tree 283 = .ok (.invokevirtual 251, 3) := by decide +kernel
theorem dL_tree_286 : decode cL_tree 286 = .ok (.aload_n 1, 1) := by decide +kernel
theorem dL_tree_287 : decode cL_tree 287 = .ok (.getfield 254, 3) := by decide +kernel
theorem dL_tree_290 : decode cL_tree 290 = .ok (.iload_n 3, 1) := by decide +kernel
theorem dL_tree_291 : decode cL_tree 291 = .ok (.iaload, 1) := by decide +kernel
theorem dL_tree_292 : decode cL_tree 292 = .ok (.if_icmp .ne 29, 3) := by decide +kernel
theorem dL_tree_295 : decode cL_tree 295 = .ok (.aload_n 0, 1) := by decide +kernel
theorem dL_tree_296 : decode cL_tree 296 = .ok (.iload_n 3, 1) := by decide +kernel
theorem dL_tree_297 : decode cL_tree 297 = .ok (.invokevirtual 256, 3) := by decide +kernel
theorem dL_tree_300 : decode cL_tree 300 = .ok (.aload_n 1, 1) := by decide +kernel
theorem dL_tree_301 : decode cL_tree 301 = .ok (.getfield 259, 3) := by decide +kernel
theorem dL_tree_304 : decode cL_tree 304 = .ok (.iload_n 3, 1) := by decide +kernel
theorem dL_tree_305 : decode cL_tree 305 = .ok (.baload, 1) := by decide +kernel
theorem dL_tree_306 : decode cL_tree 306 = .ok (.ifCond .ne 7, 3) := by decide +kernel
theorem dL_tree_309 : decode cL_tree 309 = .ok (.iconst 1, 1) := by decide +kernel
theorem dL_tree_310 : decode cL_tree 310 = .ok (.goto 4, 3) := by decide +kernel
theorem dL_tree_313 : decode cL_tree 313 = .ok (.iconst 0, 1) := by decide +kernel
theorem dL_tree_314 : decode cL_tree 314 = .ok (.if_icmp .ne 7, 3) := by decide +kernel
theorem dL_tree_317 : decode cL_tree 317 = .ok (.iconst 1, 1) := by decide +kernel
theorem dL_tree_318 : decode cL_tree 318 = .ok (.goto 4, 3) := by decide +kernel
theorem dL_tree_321 : decode cL_tree 321 = .ok (.iconst 0, 1) := by decide +kernel
theorem dL_tree_322 : decode cL_tree 322 = .ok (.istore_n 2, 1) := by decide +kernel
theorem dL_tree_323 : decode cL_tree 323 = .ok (.iload_n 2, 1) := by decide +kernel
theorem dL_tree_324 : decode cL_tree 324 = .ok (.ifCond .eq 63, 3) := by decide +kernel
theorem dL_tree_327 : decode cL_tree 327 = .ok (.aload_n 0, 1) := by decide +kernel
theorem dL_tree_328 : decode cL_tree 328 = .ok (.iload_n 3, 1) := by decide +kernel
theorem dL_tree_329 : decode cL_tree 329 = .ok (.invokevirtual 263, 3) := by decide +kernel
theorem dL_tree_332 : decode cL_tree 332 = .ok (.iload 4, 2) := by decide +kernel
theorem dL_tree_334 : decode cL_tree 334 = .ok (.aload_n 1, 1) := by decide +kernel
theorem dL_tree_335 : decode cL_tree 335 = .ok (.getfield 214, 3) := by decide +kernel
theorem dL_tree_338 : decode cL_tree 338 = .ok (.iload_n 3, 1) := by decide +kernel
theorem dL_tree_339 : decode cL_tree 339 = .ok (.iaload, 1) := by decide +kernel
theorem dL_tree_340 : decode cL_tree 340 = .ok (.if_icmp .le 7, 3) := by decide +kernel
theorem dL_tree_343 : decode cL_tree 343 = .ok (.iconst 1, 1) := by decide +kernel
theorem dL_tree_344 : decode cL_tree 344 = .ok (.goto 4, 3) := by decide +kernel
theorem dL_tree_347 : decode cL_tree 347 = .ok (.iconst 0, 1) := by decide +kernel
theorem dL_tree_348 : decode cL_tree 348 = .ok (.if_icmp .ne 39, 3) := by decide +kernel
theorem dL_tree_351 : decode cL_tree 351 = .ok (.aload_n 0, 1) := by decide +kernel
theorem dL_tree_352 : decode cL_tree 352 = .ok (.iload_n 3, 1) := by decide +kernel
theorem dL_tree_353 : decode cL_tree 353 = .ok (.invokevirtual 266, 3) := by decide +kernel
theorem dL_tree_356 : decode cL_tree 356 = .ok (.iload 6, 2) := by decide +kernel
theorem dL_tree_358 : decode cL_tree 358 = .ok (.if_icmp .ne 29, 3) := by decide +kernel
theorem dL_tree_361 : decode cL_tree 361 = .ok (.aload_n 0, 1) := by decide +kernel
theorem dL_tree_362 : decode cL_tree 362 = .ok (.iload_n 3, 1) := by decide +kernel
theorem dL_tree_363 : decode cL_tree 363 = .ok (.iconst 0, 1) := by decide +kernel
theorem dL_tree_364 : decode cL_tree 364 = .ok (.invokevirtual 269, 3) := by decide +kernel
theorem dL_tree_367 : decode cL_tree 367 = .ok (.bipush 16, 2) := by decide +kernel
theorem dL_tree_369 : decode cL_tree 369 = .ok (.iload_n 3, 1) := by decide +kernel
theorem dL_tree_370 : decode cL_tree 370 = .ok (.iadd, 1) := by decide +kernel
theorem dL_tree_371 : decode cL_tree 371 = .ok (.if_icmp .ne 16, 3) := by decide +kernel
theorem dL_tree_374 : decode cL_tree 374 = .ok (.aload_n 0, 1) := by decide +kernel
theorem dL_tree_375 : decode cL_tree 375 = .ok (.iload_n 3, 1) := by decide +kernel
theorem dL_tree_376 : decode cL_tree 376 = .ok (.iconst 1, 1) := by decide +kernel
theorem dL_tree_377 : decode cL_tree 377 = .ok (.invokevirtual 269, 3) := by decide +kernel
theorem dL_tree_380 : decode cL_tree 380 = .ok (.ifCond .ne 7, 3) := by decide +kernel
theorem dL_tree_383 : decode cL_tree 383 = .ok (.iconst 1, 1) := by decide +kernel
theorem dL_tree_384 : decode cL_tree 384 = .ok (.goto 4, 3) := by decide +kernel
theorem dL_tree_387 : decode cL_tree 387 = .ok (.iconst 0, 1) := by decide +kernel
theorem dL_tree_388 : decode cL_tree 388 = .ok (.istore_n 2, 1) := by decide +kernel
theorem dL_tree_389 : decode cL_tree 389 = .ok (.iinc 3 1, 3) := by decide +kernel
theorem dL_tree_392 : decode cL_tree 392 = .ok (.goto (-351), 3) := by decide +kernel
theorem dL_tree_395 : decode cL_tree 395 = .ok (.iload_n 2, 1) := by decide +kernel
theorem dL_tree_396 : decode cL_tree 396 = .ok (.ireturn, 1) := by decide +kernel
theorem dL_asked_0 : decode cL_asked 0 = .ok (.aload_n 1, 1) := by decide +kernel
theorem dL_asked_1 : decode cL_asked 1 = .ok (.iload_n 2, 1) := by decide +kernel
theorem dL_asked_2 : decode cL_asked 2 = .ok (.iload_n 3, 1) := by decide +kernel
theorem dL_asked_3 : decode cL_asked 3 = .ok (.invokevirtual 186, 3) := by decide +kernel
theorem dL_asked_6 : decode cL_asked 6 = .ok (.istore 4, 2) := by decide +kernel
theorem dL_asked_8 : decode cL_asked 8 = .ok (.bipush (-2), 2) := by decide +kernel
theorem dL_asked_10 : decode cL_asked 10 = .ok (.istore 5, 2) := by decide +kernel
theorem dL_asked_12 : decode cL_asked 12 = .ok (.iload_n 2, 1) := by decide +kernel
theorem dL_asked_13 : decode cL_asked 13 = .ok (.istore 6, 2) := by decide +kernel
theorem dL_asked_15 : decode cL_asked 15 = .ok (.iload 6, 2) := by decide +kernel
theorem dL_asked_17 : decode cL_asked 17 = .ok (.ifCond .lt 40, 3) := by decide +kernel
theorem dL_asked_20 : decode cL_asked 20 = .ok (.iload 5, 2) := by decide +kernel
theorem dL_asked_22 : decode cL_asked 22 = .ok (.ifCond .ge 35, 3) := by decide +kernel
theorem dL_asked_25 : decode cL_asked 25 = .ok (.aload_n 1, 1) := by decide +kernel
theorem dL_asked_26 : decode cL_asked 26 = .ok (.getfield 81, 3) := by decide +kernel
theorem dL_asked_29 : decode cL_asked 29 = .ok (.iload 6, 2) := by decide +kernel
theorem dL_asked_31 : decode cL_asked 31 = .ok (.iaload, 1) := by decide +kernel
theorem dL_asked_32 : decode cL_asked 32 = .ok (.iload_n 3, 1) := by decide +kernel
theorem dL_asked_33 : decode cL_asked 33 = .ok (.if_icmp .ge 8, 3) := by decide +kernel
theorem dL_asked_36 : decode cL_asked 36 = .ok (.iload 6, 2) := by decide +kernel
theorem dL_asked_38 : decode cL_asked 38 = .ok (.goto 5, 3) := by decide +kernel
theorem dL_asked_41 : decode cL_asked 41 = .ok (.iload 5, 2) := by decide +kernel
theorem dL_asked_43 : decode cL_asked 43 = .ok (.istore 5, 2) := by decide +kernel
theorem dL_asked_45 : decode cL_asked 45 = .ok (.aload_n 1, 1) := by decide +kernel
theorem dL_asked_46 : decode cL_asked 46 = .ok (.getfield 212, 3) := by decide +kernel
theorem dL_asked_49 : decode cL_asked 49 = .ok (.iload 6, 2) := by decide +kernel
theorem dL_asked_51 : decode cL_asked 51 = .ok (.iaload, 1) := by decide +kernel
theorem dL_asked_52 : decode cL_asked 52 = .ok (.istore 6, 2) := by decide +kernel
theorem dL_asked_54 : decode cL_asked 54 = .ok (.goto (-39), 3) := by decide +kernel
theorem dL_asked_57 : decode cL_asked 57 = .ok (.iconst 0, 1) := by decide +kernel
theorem dL_asked_58 : decode cL_asked 58 = .ok (.istore 6, 2) := by decide +kernel
theorem dL_asked_60 : decode cL_asked 60 = .ok (.iconst 1, 1) := by decide +kernel
theorem dL_asked_61 : decode cL_asked 61 = .ok (.istore 7, 2) := by decide +kernel
theorem dL_asked_63 : decode cL_asked 63 = .ok (.iload 7, 2) := by decide +kernel
theorem dL_asked_65 : decode cL_asked 65 = .ok (.bipush 100, 2) := by decide +kernel
theorem dL_asked_67 : decode cL_asked 67 = .ok (.if_icmp .ge 28, 3) := by decide +kernel
theorem dL_asked_70 : decode cL_asked 70 = .ok (.aload_n 1, 1) := by decide +kernel
theorem dL_asked_71 : decode cL_asked 71 = .ok (.iload_n 2, 1) := by decide +kernel
theorem dL_asked_72 : decode cL_asked 72 = .ok (.iload 7, 2) := by decide +kernel
theorem dL_asked_74 : decode cL_asked 74 = .ok (.invokevirtual 186, 3) := by decide +kernel
theorem dL_asked_77 : decode cL_asked 77 = .ok (.ifCond .lt 8, 3) := by decide +kernel
theorem dL_asked_80 : decode cL_asked 80 = .ok (.iload 7, 2) := by decide +kernel
theorem dL_asked_82 : decode cL_asked 82 = .ok (.goto 5, 3) := by decide +kernel
theorem dL_asked_85 : decode cL_asked 85 = .ok (.iload 6, 2) := by decide +kernel
theorem dL_asked_87 : decode cL_asked 87 = .ok (.istore 6, 2) := by decide +kernel
theorem dL_asked_89 : decode cL_asked 89 = .ok (.iinc 7 1, 3) := by decide +kernel
theorem dL_asked_92 : decode cL_asked 92 = .ok (.goto (-29), 3) := by decide +kernel
theorem dL_asked_95 : decode cL_asked 95 = .ok (.aload_n 0, 1) := by decide +kernel
theorem dL_asked_96 : decode cL_asked 96 = .ok (.iload_n 2, 1) := by decide +kernel
theorem dL_asked_97 : decode cL_asked 97 = .ok (.iload_n 3, 1) := by decide +kernel
theorem dL_asked_98 : decode cL_asked 98 = .ok (.invokevirtual 139, 3) := by decide +kernel
theorem dL_asked_101 : decode cL_asked 101 = .ok (.iload 4, 2) := by decide +kernel
theorem dL_asked_103 : decode cL_asked 103 = .ok (.if_icmp .ne 77, 3) := by decide +kernel
theorem dL_asked_106 : decode cL_asked 106 = .ok (.aload_n 0, 1) := by decide +kernel
theorem dL_asked_107 : decode cL_asked 107 = .ok (.iload_n 2, 1) := by decide +kernel
theorem dL_asked_108 : decode cL_asked 108 = .ok (.iload_n 3, 1) := by decide +kernel
theorem dL_asked_109 : decode cL_asked 109 = .ok (.invokevirtual 272, 3) := by decide +kernel
theorem dL_asked_112 : decode cL_asked 112 = .ok (.iload 5, 2) := by decide +kernel
theorem dL_asked_114 : decode cL_asked 114 = .ok (.if_icmp .ne 66, 3) := by decide +kernel
theorem dL_asked_117 : decode cL_asked 117 = .ok (.aload_n 0, 1) := by decide +kernel
theorem dL_asked_118 : decode cL_asked 118 = .ok (.iload_n 2, 1) := by decide +kernel
theorem dL_asked_119 : decode cL_asked 119 = .ok (.invokevirtual 275, 3) := by decide +kernel
theorem dL_asked_122 : decode cL_asked 122 = .ok (.iload 6, 2) := by decide +kernel
theorem dL_asked_124 : decode cL_asked 124 = .ok (.if_icmp .ne 56, 3) := by decide +kernel
theorem dL_asked_127 : decode cL_asked 127 = .ok (.aload_n 0, 1) := by decide +kernel
theorem dL_asked_128 : decode cL_asked 128 = .ok (.iload_n 2, 1) := by decide +kernel
theorem dL_asked_129 : decode cL_asked 129 = .ok (.iload_n 3, 1) := by decide +kernel
theorem dL_asked_130 : decode cL_asked 130 = .ok (.invokevirtual 278, 3) := by decide +kernel
theorem dL_asked_133 : decode cL_asked 133 = .ok (.iload 5, 2) := by decide +kernel
theorem dL_asked_135 : decode cL_asked 135 = .ok (.ifCond .lt 7, 3) := by decide +kernel
theorem dL_asked_138 : decode cL_asked 138 = .ok (.iconst 1, 1) := by decide +kernel
theorem dL_asked_139 : decode cL_asked 139 = .ok (.goto 13, 3) := by decide +kernel
theorem dL_asked_142 : decode cL_asked 142 = .ok (.iload 4, 2) := by decide +kernel
theorem dL_asked_144 : decode cL_asked 144 = .ok (.ifCond .ge 7, 3) := by decide +kernel
theorem dL_asked_147 : decode cL_asked 147 = .ok (.iconst 2, 1) := by decide +kernel
theorem dL_asked_148 : decode cL_asked 148 = .ok (.goto 4, 3) := by decide +kernel
theorem dL_asked_151 : decode cL_asked 151 = .ok (.iconst 0, 1) := by decide +kernel
theorem dL_asked_152 : decode cL_asked 152 = .ok (.if_icmp .ne 28, 3) := by decide +kernel
theorem dL_asked_155 : decode cL_asked 155 = .ok (.aload_n 0, 1) := by decide +kernel
theorem dL_asked_156 : decode cL_asked 156 = .ok (.iload_n 2, 1) := by decide +kernel
theorem dL_asked_157 : decode cL_asked 157 = .ok (.iconst 0, 1) := by decide +kernel
theorem dL_asked_158 : decode cL_asked 158 = .ok (.invokevirtual 139, 3) := by decide +kernel
theorem dL_asked_161 : decode cL_asked 161 = .ok (.iconst (-1), 1) := by decide +kernel
theorem dL_asked_162 : decode cL_asked 162 = .ok (.if_icmp .ne 18, 3) := by decide +kernel
theorem dL_asked_165 : decode cL_asked 165 = .ok (.aload_n 0, 1) := by decide +kernel
theorem dL_asked_166 : decode cL_asked 166 = .ok (.iload_n 2, 1) := by decide +kernel
theorem dL_asked_167 : decode cL_asked 167 = .ok (.bipush 100, 2) := by decide +kernel
theorem dL_asked_169 : decode cL_asked 169 = .ok (.invokevirtual 139, 3) := by decide +kernel
theorem dL_asked_172 : decode cL_asked 172 = .ok (.iconst (-1), 1) := by decide +kernel
theorem dL_asked_173 : decode cL_asked 173 = .ok (.if_icmp .ne 7, 3) := by decide +kernel
theorem dL_asked_176 : decode cL_asked 176 = .ok (.iconst 1, 1) := by decide +kernel
theorem dL_asked_177 : decode cL_asked 177 = .ok (.goto 4, 3) := by decide +kernel
theorem dL_asked_180 : decode cL_asked 180 = .ok (.iconst 0, 1) := by decide +kernel
theorem dL_asked_181 : decode cL_asked 181 = .ok (.istore 7, 2) := by decide +kernel
theorem dL_asked_183 : decode cL_asked 183 = .ok (.bipush 7, 2) := by decide +kernel
theorem dL_asked_185 : decode cL_asked 185 = .ok (.anewarray 281, 3) := by decide +kernel
theorem dL_asked_188 : decode cL_asked 188 = .ok (.dup, 1) := by decide +kernel
theorem dL_asked_189 : decode cL_asked 189 = .ok (.iconst 0, 1) := by decide +kernel
theorem dL_asked_190 : decode cL_asked 190 = .ok (.aload_n 1, 1) := by decide +kernel
theorem dL_asked_191 : decode cL_asked 191 = .ok (.getfield 70, 3) := by decide +kernel
theorem dL_asked_194 : decode cL_asked 194 = .ok (.invokevirtual 282, 3) := by decide +kernel
theorem dL_asked_197 : decode cL_asked 197 = .ok (.checkcast 281, 3) := by decide +kernel
theorem dL_asked_200 : decode cL_asked 200 = .ok (.aastore, 1) := by decide +kernel
theorem dL_asked_201 : decode cL_asked 201 = .ok (.dup, 1) := by decide +kernel
theorem dL_asked_202 : decode cL_asked 202 = .ok (.iconst 1, 1) := by decide +kernel
theorem dL_asked_203 : decode cL_asked 203 = .ok (.aload_n 1, 1) := by decide +kernel
theorem dL_asked_204 : decode cL_asked 204 = .ok (.getfield 76, 3) := by decide +kernel
theorem dL_asked_207 : decode cL_asked 207 = .ok (.invokevirtual 282, 3) := by decide +kernel
theorem dL_asked_210 : decode cL_asked 210 = .ok (.checkcast 281, 3) := by decide +kernel
theorem dL_asked_213 : decode cL_asked 213 = .ok (.aastore, 1) := by decide +kernel
theorem dL_asked_214 : decode cL_asked 214 = .ok (.dup, 1) := by decide +kernel
theorem dL_asked_215 : decode cL_asked 215 = .ok (.iconst 2, 1) := by decide +kernel
theorem dL_asked_216 : decode cL_asked 216 = .ok (.aload_n 1, 1) := by decide +kernel
theorem dL_asked_217 : decode cL_asked 217 = .ok (.getfield 81, 3) := by decide +kernel
theorem dL_asked_220 : decode cL_asked 220 = .ok (.invokevirtual 282, 3) := by decide +kernel
theorem dL_asked_223 : decode cL_asked 223 = .ok (.checkcast 281, 3) := by decide +kernel
theorem dL_asked_226 : decode cL_asked 226 = .ok (.aastore, 1) := by decide +kernel
theorem dL_asked_227 : decode cL_asked 227 = .ok (.dup, 1) := by decide +kernel
theorem dL_asked_228 : decode cL_asked 228 = .ok (.iconst 3, 1) := by decide +kernel
theorem dL_asked_229 : decode cL_asked 229 = .ok (.aload_n 1, 1) := by decide +kernel
theorem dL_asked_230 : decode cL_asked 230 = .ok (.getfield 101, 3) := by decide +kernel
theorem dL_asked_233 : decode cL_asked 233 = .ok (.invokevirtual 282, 3) := by decide +kernel
theorem dL_asked_236 : decode cL_asked 236 = .ok (.checkcast 281, 3) := by decide +kernel
theorem dL_asked_239 : decode cL_asked 239 = .ok (.aastore, 1) := by decide +kernel
theorem dL_asked_240 : decode cL_asked 240 = .ok (.dup, 1) := by decide +kernel
theorem dL_asked_241 : decode cL_asked 241 = .ok (.iconst 4, 1) := by decide +kernel
theorem dL_asked_242 : decode cL_asked 242 = .ok (.aload_n 1, 1) := by decide +kernel
theorem dL_asked_243 : decode cL_asked 243 = .ok (.getfield 107, 3) := by decide +kernel
theorem dL_asked_246 : decode cL_asked 246 = .ok (.invokevirtual 282, 3) := by decide +kernel
theorem dL_asked_249 : decode cL_asked 249 = .ok (.checkcast 281, 3) := by decide +kernel
theorem dL_asked_252 : decode cL_asked 252 = .ok (.aastore, 1) := by decide +kernel
theorem dL_asked_253 : decode cL_asked 253 = .ok (.dup, 1) := by decide +kernel
theorem dL_asked_254 : decode cL_asked 254 = .ok (.iconst 5, 1) := by decide +kernel
theorem dL_asked_255 : decode cL_asked 255 = .ok (.aload_n 1, 1) := by decide +kernel
theorem dL_asked_256 : decode cL_asked 256 = .ok (.getfield 113, 3) := by decide +kernel
theorem dL_asked_259 : decode cL_asked 259 = .ok (.invokevirtual 282, 3) := by decide +kernel
theorem dL_asked_262 : decode cL_asked 262 = .ok (.checkcast 281, 3) := by decide +kernel
theorem dL_asked_265 : decode cL_asked 265 = .ok (.aastore, 1) := by decide +kernel
theorem dL_asked_266 : decode cL_asked 266 = .ok (.dup, 1) := by decide +kernel
theorem dL_asked_267 : decode cL_asked 267 = .ok (.bipush 6, 2) := by decide +kernel
theorem dL_asked_269 : decode cL_asked 269 = .ok (.aload_n 1, 1) := by decide +kernel
theorem dL_asked_270 : decode cL_asked 270 = .ok (.getfield 87, 3) := by decide +kernel
theorem dL_asked_273 : decode cL_asked 273 = .ok (.invokevirtual 282, 3) := by decide +kernel
theorem dL_asked_276 : decode cL_asked 276 = .ok (.checkcast 281, 3) := by decide +kernel
theorem dL_asked_279 : decode cL_asked 279 = .ok (.aastore, 1) := by decide +kernel
theorem dL_asked_280 : decode cL_asked 280 = .ok (.astore 8, 2) := by decide +kernel
theorem dL_asked_282 : decode cL_asked 282 = .ok (.iconst 0, 1) := by decide +kernel
theorem dL_asked_283 : decode cL_asked 283 = .ok (.istore 9, 2) := by decide +kernel
theorem dL_asked_285 : decode cL_asked 285 = .ok (.iload 9, 2) := by decide +kernel
theorem dL_asked_287 : decode cL_asked 287 = .ok (.bipush 40, 2) := by decide +kernel
theorem dL_asked_289 : decode cL_asked 289 = .ok (.if_icmp .gt 22, 3) := by decide +kernel
theorem dL_asked_292 : decode cL_asked 292 = .ok (.aload_n 1, 1) := by decide +kernel
theorem dL_asked_293 : decode cL_asked 293 = .ok (.iload_n 2, 1) := by decide +kernel
theorem dL_asked_294 : decode cL_asked 294 = .ok (.iload_n 3, 1) := by decide +kernel
theorem dL_asked_295 : decode cL_asked 295 = .ok (.invokevirtual 186, 3) := by decide +kernel
theorem dL_asked_298 : decode cL_asked 298 = .ok (.ifCond .ge 13, 3) := by decide +kernel
theorem dL_asked_301 : decode cL_asked 301 = .ok (.aload_n 1, 1) := by decide +kernel
theorem dL_asked_302 : decode cL_asked 302 = .ok (.invokevirtual 286, 3) := by decide +kernel
theorem dL_asked_305 : decode cL_asked 305 = .ok (.iinc 9 1, 3) := by decide +kernel
theorem dL_asked_308 : decode cL_asked 308 = .ok (.goto (-23), 3) := by decide +kernel
theorem dL_asked_311 : decode cL_asked 311 = .ok (.aload_n 0, 1) := by decide +kernel
theorem dL_asked_312 : decode cL_asked 312 = .ok (.iload_n 2, 1) := by decide +kernel
theorem dL_asked_313 : decode cL_asked 313 = .ok (.iload_n 3, 1) := by decide +kernel
theorem dL_asked_314 : decode cL_asked 314 = .ok (.invokevirtual 289, 3) := by decide +kernel
theorem dL_asked_317 : decode cL_asked 317 = .ok (.istore 10, 2) := by decide +kernel
theorem dL_asked_319 : decode cL_asked 319 = .ok (.iload 7, 2) := by decide +kernel
theorem dL_asked_321 : decode cL_asked 321 = .ok (.ifCond .eq 38, 3) := by decide +kernel
theorem dL_asked_324 : decode cL_asked 324 = .ok (.iload 9, 2) := by decide +kernel
theorem dL_asked_326 : decode cL_asked 326 = .ok (.bipush 40, 2) := by decide +kernel
theorem dL_asked_328 : decode cL_asked 328 = .ok (.if_icmp .gt 13, 3) := by decide +kernel
theorem dL_asked_331 : decode cL_asked 331 = .ok (.iload 10, 2) := by decide +kernel
theorem dL_asked_333 : decode cL_asked 333 = .ok (.iload 9, 2) := by decide +kernel
theorem dL_asked_335 : decode cL_asked 335 = .ok (.if_icmp .ne 24, 3) := by decide +kernel
theorem dL_asked_338 : decode cL_asked 338 = .ok (.goto 17, 3) := by decide +kernel
theorem dL_asked_341 : decode cL_asked 341 = .ok (.iload 10, 2) := by decide +kernel
theorem dL_asked_343 : decode cL_asked 343 = .ok (.bipush (-2), 2) := by decide +kernel
theorem dL_asked_345 : decode cL_asked 345 = .ok (.if_icmp .eq 10, 3) := by decide +kernel
theorem dL_asked_348 : decode cL_asked 348 = .ok (.iload 10, 2) := by decide +kernel
theorem dL_asked_350 : decode cL_asked 350 = .ok (.bipush 40, 2) := by decide +kernel
theorem dL_asked_352 : decode cL_asked 352 = .ok (.if_icmp .le 7, 3) := by decide +kernel
theorem dL_asked_355 : decode cL_asked 355 = .ok (.iconst 1, 1) := by decide +kernel
theorem dL_asked_356 : decode cL_asked 356 = .ok (.goto 4, 3) := by decide +kernel
theorem dL_asked_359 : decode cL_asked 359 = .ok (.iconst 0, 1) := by decide +kernel
theorem dL_asked_360 : decode cL_asked 360 = .ok (.istore 7, 2) := by decide +kernel
theorem dL_asked_362 : decode cL_asked 362 = .ok (.aload_n 1, 1) := by decide +kernel
theorem dL_asked_363 : decode cL_asked 363 = .ok (.aload 8, 2) := by decide +kernel
theorem dL_asked_365 : decode cL_asked 365 = .ok (.invokestatic 292, 3) := by decide +kernel
theorem dL_asked_368 : decode cL_asked 368 = .ok (.iconst 0, 1) := by decide +kernel
theorem dL_asked_369 : decode cL_asked 369 = .ok (.istore 11, 2) := by decide +kernel
theorem dL_asked_371 : decode cL_asked 371 = .ok (.aload_n 1, 1) := by decide +kernel
theorem dL_asked_372 : decode cL_asked 372 = .ok (.iload_n 2, 1) := by decide +kernel
theorem dL_asked_373 : decode cL_asked 373 = .ok (.iload_n 3, 1) := by decide +kernel
theorem dL_asked_374 : decode cL_asked 374 = .ok (.invokevirtual 186, 3) := by decide +kernel
theorem dL_asked_377 : decode cL_asked 377 = .ok (.ifCond .lt 15, 3) := by decide +kernel
theorem dL_asked_380 : decode cL_asked 380 = .ok (.aload_n 1, 1) := by decide +kernel
theorem dL_asked_381 : decode cL_asked 381 = .ok (.iload_n 2, 1) := by decide +kernel
theorem dL_asked_382 : decode cL_asked 382 = .ok (.iload_n 3, 1) := by decide +kernel
theorem dL_asked_383 : decode cL_asked 383 = .ok (.invokevirtual 190, 3) := by decide +kernel
theorem dL_asked_386 : decode cL_asked 386 = .ok (.iinc 11 1, 3) := by decide +kernel
theorem dL_asked_389 : decode cL_asked 389 = .ok (.goto (-18), 3) := by decide +kernel
theorem dL_asked_392 : decode cL_asked 392 = .ok (.iload 7, 2) := by decide +kernel
theorem dL_asked_394 : decode cL_asked 394 = .ok (.ifCond .eq 18, 3) := by decide +kernel
theorem dL_asked_397 : decode cL_asked 397 = .ok (.aload_n 0, 1) := by decide +kernel
theorem dL_asked_398 : decode cL_asked 398 = .ok (.iload_n 2, 1) := by decide +kernel
theorem dL_asked_399 : decode cL_asked 399 = .ok (.iload_n 3, 1) := by decide +kernel
theorem dL_asked_400 : decode cL_asked 400 = .ok (.invokevirtual 296, 3) := by decide +kernel
theorem dL_asked_403 : decode cL_asked 403 = .ok (.iload 11, 2) := by decide +kernel
theorem dL_asked_405 : decode cL_asked 405 = .ok (.if_icmp .ne 7, 3) := by decide +kernel
theorem dL_asked_408 : decode cL_asked 408 = .ok (.iconst 1, 1) := by decide +kernel
theorem dL_asked_409 : decode cL_asked 409 = .ok (.goto 4, 3) := by decide +kernel
theorem dL_asked_412 : decode cL_asked 412 = .ok (.iconst 0, 1) := by decide +kernel
theorem dL_asked_413 : decode cL_asked 413 = .ok (.istore 7, 2) := by decide +kernel
theorem dL_asked_415 : decode cL_asked 415 = .ok (.aload_n 1, 1) := by decide +kernel
theorem dL_asked_416 : decode cL_asked 416 = .ok (.aload 8, 2) := by decide +kernel
theorem dL_asked_418 : decode cL_asked 418 = .ok (.invokestatic 292, 3) := by decide +kernel
theorem dL_asked_421 : decode cL_asked 421 = .ok (.iload 7, 2) := by decide +kernel
theorem dL_asked_423 : decode cL_asked 423 = .ok (.ifCond .eq 15, 3) := by decide +kernel
theorem dL_asked_426 : decode cL_asked 426 = .ok (.aload_n 0, 1) := by decide +kernel
theorem dL_asked_427 : decode cL_asked 427 = .ok (.aload_n 1, 1) := by decide +kernel
theorem dL_asked_428 : decode cL_asked 428 = .ok (.invokestatic 172, 3) := by decide +kernel
theorem dL_asked_431 : decode cL_asked 431 = .ok (.ifCond .eq 7, 3) := by decide +kernel
theorem dL_asked_434 : decode cL_asked 434 = .ok (.iconst 1, 1) := by decide +kernel
theorem dL_asked_435 : decode cL_asked 435 = .ok (.goto 4, 3) := by decide +kernel
theorem dL_asked_438 : decode cL_asked 438 = .ok (.iconst 0, 1) := by decide +kernel
theorem dL_asked_439 : decode cL_asked 439 = .ok (.ireturn, 1) := by decide +kernel
theorem dL_back_0 : decode cL_back 0 = .ok (.bipush 7, 2) := by decide +kernel
theorem dL_back_2 : decode cL_back 2 = .ok (.anewarray 281, 3) := by decide +kernel
theorem dL_back_5 : decode cL_back 5 = .ok (.dup, 1) := by decide +kernel
theorem dL_back_6 : decode cL_back 6 = .ok (.iconst 0, 1) := by decide +kernel
theorem dL_back_7 : decode cL_back 7 = .ok (.aload_n 0, 1) := by decide +kernel
theorem dL_back_8 : decode cL_back 8 = .ok (.getfield 70, 3) := by decide +kernel
theorem dL_back_11 : decode cL_back 11 = .ok (.aastore, 1) := by decide +kernel
theorem dL_back_12 : decode cL_back 12 = .ok (.dup, 1) := by decide +kernel
theorem dL_back_13 : decode cL_back 13 = .ok (.iconst 1, 1) := by decide +kernel
theorem dL_back_14 : decode cL_back 14 = .ok (.aload_n 0, 1) := by decide +kernel
theorem dL_back_15 : decode cL_back 15 = .ok (.getfield 76, 3) := by decide +kernel
theorem dL_back_18 : decode cL_back 18 = .ok (.aastore, 1) := by decide +kernel
theorem dL_back_19 : decode cL_back 19 = .ok (.dup, 1) := by decide +kernel
theorem dL_back_20 : decode cL_back 20 = .ok (.iconst 2, 1) := by decide +kernel
theorem dL_back_21 : decode cL_back 21 = .ok (.aload_n 0, 1) := by decide +kernel
theorem dL_back_22 : decode cL_back 22 = .ok (.getfield 81, 3) := by decide +kernel
theorem dL_back_25 : decode cL_back 25 = .ok (.aastore, 1) := by decide +kernel
theorem dL_back_26 : decode cL_back 26 = .ok (.dup, 1) := by decide +kernel
theorem dL_back_27 : decode cL_back 27 = .ok (.iconst 3, 1) := by decide +kernel
theorem dL_back_28 : decode cL_back 28 = .ok (.aload_n 0, 1) := by decide +kernel
theorem dL_back_29 : decode cL_back 29 = .ok (.getfield 101, 3) := by decide +kernel
theorem dL_back_32 : decode cL_back 32 = .ok (.aastore, 1) := by decide +kernel
theorem dL_back_33 : decode cL_back 33 = .ok (.dup, 1) := by decide +kernel
theorem dL_back_34 : decode cL_back 34 = .ok (.iconst 4, 1) := by decide +kernel
theorem dL_back_35 : decode cL_back 35 = .ok (.aload_n 0, 1) := by decide +kernel
theorem dL_back_36 : decode cL_back 36 = .ok (.getfield 107, 3) := by decide +kernel
theorem dL_back_39 : decode cL_back 39 = .ok (.aastore, 1) := by decide +kernel
theorem dL_back_40 : decode cL_back 40 = .ok (.dup, 1) := by decide +kernel
theorem dL_back_41 : decode cL_back 41 = .ok (.iconst 5, 1) := by decide +kernel
theorem dL_back_42 : decode cL_back 42 = .ok (.aload_n 0, 1) := by decide +kernel
theorem dL_back_43 : decode cL_back 43 = .ok (.getfield 113, 3) := by decide +kernel
theorem dL_back_46 : decode cL_back 46 = .ok (.aastore, 1) := by decide +kernel
theorem dL_back_47 : decode cL_back 47 = .ok (.dup, 1) := by decide +kernel
theorem dL_back_48 : decode cL_back 48 = .ok (.bipush 6, 2) := by decide +kernel
theorem dL_back_50 : decode cL_back 50 = .ok (.aload_n 0, 1) := by decide +kernel
theorem dL_back_51 : decode cL_back 51 = .ok (.getfield 87, 3) := by decide +kernel
theorem dL_back_54 : decode cL_back 54 = .ok (.aastore, 1) := by decide +kernel
theorem dL_back_55 : decode cL_back 55 = .ok (.astore_n 2, 1) := by decide +kernel
theorem dL_back_56 : decode cL_back 56 = .ok (.iconst 0, 1) := by decide +kernel
theorem dL_back_57 : decode cL_back 57 = .ok (.istore_n 3, 1) := by decide +kernel
theorem dL_back_58 : decode cL_back 58 = .ok (.iload_n 3, 1) := by decide +kernel
theorem dL_back_59 : decode cL_back 59 = .ok (.aload_n 2, 1) := by decide +kernel
theorem dL_back_60 : decode cL_back 60 = .ok (.arraylength, 1) := by decide +kernel
theorem dL_back_61 : decode cL_back 61 = .ok (.if_icmp .ge 24, 3) := by decide +kernel
theorem dL_back_64 : decode cL_back 64 = .ok (.aload_n 1, 1) := by decide +kernel
theorem dL_back_65 : decode cL_back 65 = .ok (.iload_n 3, 1) := by decide +kernel
theorem dL_back_66 : decode cL_back 66 = .ok (.aaload, 1) := by decide +kernel
theorem dL_back_67 : decode cL_back 67 = .ok (.iconst 0, 1) := by decide +kernel
theorem dL_back_68 : decode cL_back 68 = .ok (.aload_n 2, 1) := by decide +kernel
theorem dL_back_69 : decode cL_back 69 = .ok (.iload_n 3, 1) := by decide +kernel
theorem dL_back_70 : decode cL_back 70 = .ok (.aaload, 1) := by decide +kernel
theorem dL_back_71 : decode cL_back 71 = .ok (.iconst 0, 1) := by decide +kernel
theorem dL_back_72 : decode cL_back 72 = .ok (.aload_n 1, 1) := by decide +kernel
theorem dL_back_73 : decode cL_back 73 = .ok (.iload_n 3, 1) := by decide +kernel
theorem dL_back_74 : decode cL_back 74 = .ok (.aaload, 1) := by decide +kernel
theorem dL_back_75 : decode cL_back 75 = .ok (.arraylength, 1) := by decide +kernel
theorem dL_back_76 : decode cL_back 76 = .ok (.invokestatic 299, 3) := by decide +kernel
theorem dL_back_79 : decode cL_back 79 = .ok (.iinc 3 1, 3) := by decide +kernel
theorem dL_back_82 : decode cL_back 82 = .ok (.goto (-24), 3) := by decide +kernel
theorem dL_back_85 : decode cL_back 85 = .ok (.return_, 1) := by decide +kernel
end
section
/-- the tables' words that stay through calls -/
def xsel : List Cond := [.selects RJ4 yJ5_ensureCapacityInternal_d00df yJ5_ensureCapacityInternal_d00df, .selects RJ4 yJ5_newCapacity_0f7a4 yJ5_newCapacity_0f7a4, .selects RJ4 yJ5_putStringAt_47b60 yJ5_putStringAt_47b60, .selects RJ4 yJ5_inflateIfNeededFor_a7421 yJ5_inflateIfNeededFor_a7421]
def gwt : List Cond := (xsel ++ lw_tbl).filter goodWord
def isNest : Cond → Bool
  | .methodLinkNest .. => true
  | .fieldLinkNest .. => true
  | .castable .. => true
  | _ => false
/-- the nest mates' links, and what may be cast -/
def nst : List Cond := tables_1.filter isNest

def ftys (ci k : Nat) : FieldType := match ci with
  | 0 => tyX0 k
  | 1 => tyX1 k
  | 2 => tyX2 k
  | 3 => tyX3 k
  | 4 => tyX4 k
  | 5 => tyX5 k
  | 6 => tyX6 k
  | 7 => tyX7 k
  | 8 => tyX8 k
  | 9 => tyX9 k
  | 10 => tyX10 k
  | 11 => tyX11 k
  | 12 => tyX12 k
  | 13 => tyJ0 k
  | 14 => tyJ4 k
  | _ => tyJx4a65c k
def fN (ci : Nat) : Nat := match ci with
  | 0 => 3
  | 1 => 5
  | 2 => 5
  | 3 => 5
  | 4 => 5
  | 5 => 11
  | 6 => 6
  | 7 => 15
  | 8 => 9
  | 9 => 2
  | 10 => 4
  | 11 => 8
  | 12 => 25
  | 13 => 4
  | 14 => 4
  | _ => 3
/-- what the class's tables say, by its number -/
def CF (ci : Nat) (C : String) (T : u_T) (N : Nat) : Prop := vwCl[ci]? = some (C, T, N) ∧ fN ci = N ∧ (∀ w ∈ u_ws C T N, w ∈ gwt) ∧ (∀ a, a < N → ∀ b, b < N → a ≠ b → (T a).2.1 ≠ (T b).2.1) ∧ (∀ k, k < N → parseFieldDescriptor (T k).2.2.1 = some (ftys ci k))
/-- a field that code of 'own' reads or writes by its pool's entry idx -/
def FLk (own : String) (idx ci : Nat) (j : Int) (ty : FieldType) (fin : Bool) : Prop := 0 ≤ j ∧ ftys ci j.toNat = ty ∧ ∃ (C : String) (T : u_T) (N : Nat) (rf : String), CF ci C T N ∧ j.toNat < N ∧ Cond.fieldLink own idx rf (T j.toNat).2.1 (T j.toNat).2.2.1 ∈ gwt ∧ (T j.toNat).2.2.2 = fin ∧ (rf = (T j.toNat).1 ∨ Cond.sameField rf (T j.toNat).1 (T j.toNat).2.1 (T j.toNat).2.2.1 ∈ gwt)
/-- a method's own words -/
def MK (y : MethodName) (cc : ByteArray) (nL : Nat) (ret : Option FieldType) (n : Nat) : Prop := Cond.code y cc nL ret ∈ gwt ∧ Cond.initialized y.cls ∈ gwt ∧ (y.cls ≠ "java/lang/invoke/MethodHandle" ∧ y.cls ≠ "java/lang/invoke/VarHandle" ∧ (parseMethodDescriptor y.desc).map (fun d => d.parameters.length) = some n)
def MI (y : MethodName) : Prop := Cond.instanceMethod y ∈ gwt ∧ Cond.selects y.cls y y ∈ gwt
/-- a method of a class above: called by the name y0 on an object of C it's y that runs -/
def MU (C : String) (y0 y : MethodName) : Prop := Cond.instanceMethod y ∈ gwt ∧ Cond.selects C y0 y ∈ gwt ∧ Cond.sameMethod y0.cls y0.cls y0.name y0.desc ∈ gwt ∧ Cond.instanceMethod y0 ∈ gwt ∧ ∃ (b : ByteArray) (m : Nat) (r : Option FieldType), Cond.code y0 b m r ∈ gwt
/-- a method of the class above, called by 'super' -/
def MV (own : String) (y : MethodName) : Prop := Cond.instanceMethod y ∈ gwt ∧ Cond.superclass own y.cls ∈ gwt ∧ Cond.sameMethod y.cls y.cls y.name y.desc ∈ gwt ∧ y.name ≠ "<init>"
/-- a nest mate's field -/
def FLN (own : String) (idx ci : Nat) (j : Int) (ty : FieldType) (fin : Bool) : Prop := 0 ≤ j ∧ ftys ci j.toNat = ty ∧ ∃ (C : String) (T : u_T) (N : Nat) (host : String), CF ci C T N ∧ j.toNat < N ∧ Cond.fieldLinkNest own idx (T j.toNat).1 (T j.toNat).2.1 (T j.toNat).2.2.1 host ∈ nst ∧ (T j.toNat).2.2.2 = fin
def MC (y : MethodName) : Prop := Cond.instanceMethod y ∈ gwt ∧ y.name = "<init>"
def MS (y : MethodName) : Prop := Cond.static y ∈ gwt
def LK (own : String) (idx : Nat) (y : MethodName) : Prop := Cond.methodLink own idx y ∈ gwt
def LN (own : String) (idx : Nat) (y : MethodName) (host : String) : Prop := Cond.methodLinkNest own idx y host ∈ nst
end
section
/-! cells as one function: cell, place ↦ a whole number (ints and longs by their residues, references by the cell's number, null below 0) -/
abbrev Hp : Type := Int → Int → Int
abbrev Sg : Type := (Nat × List Int) ⊕ (FieldType × Nat)
abbrev Shp : Type := List Sg
abbrev GP : Type := (Nat × Nat × Nat) × (Nat → Nat) × (Nat → Nat) × (Nat × Nat × Nat)
abbrev VX : Type := Launch × Nat × va_G × (FieldType → ClassId) × GP
abbrev KX : Type := VX × Program × Env × Room × State × MethodId × Array Value × List Frame × Method × Code
abbrev vL (V : VX) : Launch := V.1
abbrev vB (V : VX) : Nat := V.2.1
abbrev vD (V : VX) : va_G := V.2.2.1
abbrev vA (V : VX) : FieldType → ClassId := V.2.2.2.1
abbrev vG (V : VX) : GP := V.2.2.2.2
abbrev xV (X : KX) : VX := X.1
abbrev xp (X : KX) : Program := X.2.1
abbrev xe (X : KX) : Env := X.2.2.1
abbrev xr (X : KX) : Room := X.2.2.2.1
abbrev xs (X : KX) : State := X.2.2.2.2.1
abbrev xm (X : KX) : MethodId := X.2.2.2.2.2.1
abbrev xa (X : KX) : Array Value := X.2.2.2.2.2.2.1
abbrev xb (X : KX) : List Frame := X.2.2.2.2.2.2.2.1
abbrev xM (X : KX) : Method := X.2.2.2.2.2.2.2.2.1
abbrev xc (X : KX) : Code := X.2.2.2.2.2.2.2.2.2
def vi (x : Int) : Value := .int (Int32.ofInt x)
def vl (x : Int) : Value := .long (Int64.ofInt x)
def vr (V : VX) (x : Int) : Value := if x < 0 then .null else .ref (vB V + x.toNat)
def up (F : Hp) (k i v : Int) : Hp := fun a b => if a = k ∧ b = i then v else F a b
theorem up_s {F : Hp} {k i v : Int} : up F k i v k i = v := if_pos ⟨rfl, rfl⟩
theorem up_n {F : Hp} {k i v a b : Int} (h : ¬ (a = k ∧ b = i)) : up F k i v a b = F a b := if_neg h
theorem up_k {F : Hp} {k i v a b : Int} (h : a ≠ k) : up F k i v a b = F a b := if_neg fun q => h q.1
theorem up_i {F : Hp} {k i v a b : Int} (h : b ≠ i) : up F k i v a b = F a b := if_neg fun q => h q.2
abbrev I32 (x : Int) : Prop := -2147483648 ≤ x ∧ x ≤ 2147483647
abbrev I64 (x : Int) : Prop := -9223372036854775808 ≤ x ∧ x ≤ 9223372036854775807
theorem vr_cat (V : VX) (x : Int) : (vr V x).category = 1 := by unfold vr; split <;> rfl
theorem vi_cat (x : Int) : (vi x).category = 1 := rfl
theorem vl_cat (x : Int) : (vl x).category = 2 := rfl
theorem vr_ref {V : VX} {x : Int} (h : 0 ≤ x) : vr V x = .ref (vB V + x.toNat) := if_neg (by omega)
theorem vr_null {V : VX} {x : Int} (h : x < 0) : vr V x = .null := if_pos h
/-- a row of references that may be the lists' empty one -/
def vq (V : VX) (x : Int) : Value := if x = -2 then .ref (vG V).2.2.2.2.2 else vr V x
def mkv (V : VX) (ty : FieldType) (x : Int) : Value := match ty with
  | .long => vl x
  | .object _ => vr V x
  | .array t => match t with
    | .object _ => vq V x
    | _ => vr V x
  | _ => vi x


/-- a reference in a row of references -/
def rq (V : VX) (x : Int) : Option Nat := if x < 0 then none else some (vB V + x.toNat)
theorem rq_vr {V : VX} {x : Int} : va_rf (rq V x) = vr V x := by unfold rq vr; split <;> rfl
def aE (V : VX) (ty : FieldType) (n : Nat) (f : Int → Int) : vp_A := match ty with
  | .long => (n, .inr (.inl fun j => Int64.ofInt (f (j : Int))))
  | .object _ => (n, .inr (.inr (.inr (.inr fun j => rq V (f (j : Int))))))
  | .array _ => (n, .inr (.inr (.inr (.inr fun j => rq V (f (j : Int))))))
  | _ => (n, .inl fun j => Int32.ofInt (f (j : Int)))
/-- a field's value: a frozen reference, or what the cells say -/
def fv (V : VX) (rs : List Int) (ty : FieldType) (j : Nat) (x : Int) : Value := if 0 ≤ rs.getD j (-1) then vr V (rs.getD j (-1)) else mkv V ty x
def cE (V : VX) (g : Sg) (f : Int → Int) : va_E := match g with
  | .inl (ci, rs) => .inr (ci, (List.range (fN ci)).map fun (j : Nat) => fv V rs (ftys ci j) j (f (j : Int)))
  | .inr (ty, n) => .inl (vA V ty, aE V ty n f)
def wl (V : VX) (sh : Shp) (F : Hp) : va_W := (List.range sh.length).map fun (k : Nat) => (vB V + k, cE V (sh.getD k (.inl (0, []))) (F (k : Int)))
def tys4 (V : VX) : List (ClassId × FieldType) := [(vA V .int, .int), (vA V .long, .long), (vA V .boolean, .boolean), (vA V .byte, .byte), (vA V (.object "java/lang/Object"), .object "java/lang/Object"), (vA V (.array .int), .array .int)]
def HP (V : VX) (sh : Shp) (F : Hp) (H : Heap) : Prop := va_P (vD V) vwCl (wl V sh F) H
def AB (V : VX) : Nat → Prop := fun q => vB V ≤ q
def isO (sh : Shp) (k : Int) (ci : Nat) (rs : List Int) : Prop := 0 ≤ k ∧ sh[k.toNat]? = some (.inl (ci, rs))
def isA (sh : Shp) (k : Int) (ty : FieldType) (n : Nat) : Prop := 0 ≤ k ∧ sh[k.toNat]? = some (.inr (ty, n)) ∧ n < 2147483648
theorem wl_at {V : VX} {sh : Shp} {F : Hp} {k : Nat} {g : Sg} (h : sh[k]? = some g) : (wl V sh F)[k]? = some (vB V + k, cE V g (F (k : Int))) := by
  have hl : k < sh.length := (List.getElem?_eq_some_iff.mp h).1
  unfold wl
  rw [List.getElem?_map, List.getElem?_range hl]
  simp [List.getD_eq_getElem?_getD, h]
theorem wl_len {V : VX} {sh : Shp} {F : Hp} : (wl V sh F).length = sh.length := by simp [wl]
theorem wl_inv {V : VX} {sh : Shp} {F : Hp} {k : Nat} {q : Nat × va_E} (h : (wl V sh F)[k]? = some q) : k < sh.length ∧ q.1 = vB V + k := by
  have hl : k < (wl V sh F).length := (List.getElem?_eq_some_iff.mp h).1
  rw [wl_len] at hl
  refine ⟨hl, ?_⟩
  rw [wl_at (List.getElem?_eq_getElem hl)] at h
  cases h
  rfl
theorem wl_D {V : VX} {sh : Shp} {F : Hp} : va_D (AB V) (wl V sh F) := by
  refine ⟨fun i j p q hi hj hpq => ?_, fun k q hk => ?_⟩
  · have h1 := wl_inv hi
    have h2 := wl_inv hj
    omega
  · have h1 := wl_inv hk
    unfold AB
    omega
theorem wl_ext {V : VX} {sh : Shp} {F F' : Hp} {k : Nat} {g : Sg} (h : sh[k]? = some g) (hF : ∀ j : Nat, j < sh.length → j ≠ k → F' (j : Int) = F (j : Int)) :
    (wl V sh F).set k (vB V + k, cE V g (F' (k : Int))) = wl V sh F' := by
  apply List.ext_getElem?
  intro j
  by_cases hj : j = k
  · subst hj
    have hl : j < sh.length := (List.getElem?_eq_some_iff.mp h).1
    rw [List.getElem?_set_self (by rw [wl_len]; exact hl), wl_at h]
  · rw [List.getElem?_set_ne (fun e => hj e.symm)]
    by_cases hl : j < sh.length
    · rw [wl_at (List.getElem?_eq_getElem hl), wl_at (List.getElem?_eq_getElem hl), hF j hl hj]
    · rw [List.getElem?_eq_none (by rw [wl_len]; omega), List.getElem?_eq_none (by rw [wl_len]; omega)]
theorem up_row {F : Hp} {k i v : Int} {j : Nat} (h : (j : Int) ≠ k) : up F k i v (j : Int) = F (j : Int) := by
  funext b
  exact up_k h
/-- what stays all along: the constants' tables and texts -/
def skey (i : Nat) : Nat := [328, 329, 330, 331, 332, 333, 334, 335, 337, 339, 341, 343, 345, 149, 158, 160, 165, 167, 169, 171, 173, 175, 177, 179, 181, 183, 185].getD i 0
def stx (i : Nat) : String := ["rate", "ceiling", "burst", "credit", "weight", "priority", "alone", "node", "in", "limit", "age", "at", "", "node ", " in ", " rate ", " ceiling ", " burst ", " credit ", " weight ", " priority ", " alone;", ";", "limit ", "age ", "at ", " "].getD i ""
def sow (i : Nat) : String := if i < 13 then "RateLimiter" else "RateLimiterLaw$Tree"
def sbyt : List (List Int32) := [[114, 97, 116, 101], [99, 101, 105, 108, 105, 110, 103], [98, 117, 114, 115, 116], [99, 114, 101, 100, 105, 116], [119, 101, 105, 103, 104, 116], [112, 114, 105, 111, 114, 105, 116, 121], [97, 108, 111, 110, 101], [110, 111, 100, 101], [105, 110], [108, 105, 109, 105, 116], [97, 103, 101], [97, 116], [], [110, 111, 100, 101, 32], [32, 105, 110, 32], [32, 114, 97, 116, 101, 32], [32, 99, 101, 105, 108, 105, 110, 103, 32], [32, 98, 117, 114, 115, 116, 32], [32, 99, 114, 101, 100, 105, 116, 32], [32, 119, 101, 105, 103, 104, 116, 32], [32, 112, 114, 105, 111, 114, 105, 116, 121, 32], [32, 97, 108, 111, 110, 101, 59], [59], [108, 105, 109, 105, 116, 32], [97, 103, 101, 32], [97, 116, 32], [32]]
def slen : List Nat := [4, 7, 5, 6, 6, 8, 5, 4, 2, 5, 3, 2, 0, 5, 4, 6, 9, 7, 8, 8, 10, 7, 1, 6, 4, 3, 1]
def tabL (j : Nat) : Int := [0, 0, 1, 0, 1, 0].getD j 0
def tabG (j : Nat) : Int := [99, 999, 999, 999, 9, 7].getD j 0
def tabD (j : Nat) : Int := [1, 1, 10, 0, 1, 0].getD j 0
/-- the digits' tables, the lists' empty row, the two classes of rows of references -/
def GX (V : VX) (U : State) : Prop :=
  va_Z "java/lang/Integer" "DigitOnes" "[B" (.ref (vG V).2.2.2.1) (AB V) U U.heap ∧ va_T .byte (vG V).2.2.2.1 100 (fun j => vi (48 + (j : Int) % 10)) (AB V) U U.heap ∧
  va_Z "java/lang/Integer" "DigitTens" "[B" (.ref (vG V).2.2.2.2.1) (AB V) U U.heap ∧ va_T .byte (vG V).2.2.2.2.1 100 (fun j => vi (48 + (j : Int) / 10)) (AB V) U U.heap ∧
  va_Z "java/util/ArrayList" "DEFAULTCAPACITY_EMPTY_ELEMENTDATA" "[Ljava/lang/Object;" (.ref (vG V).2.2.2.2.2) (AB V) U U.heap ∧ va_T (.object "java/lang/Object") (vG V).2.2.2.2.2 0 (fun _ => .null) (AB V) U U.heap ∧
  (Cond.arrayOver (.object "java/lang/Object")).before #[] U = true ∧ (Cond.arrayOver (.array .int)).before #[] U = true
theorem aoA_moved {t : FieldType} {u U : State} (hvm : u.vm.Alike U.vm) (h : (Cond.arrayOver (.array t)).before #[] u = true) : (Cond.arrayOver (.array t)).before #[] U = true := by
  obtain ⟨comp, c, k, hcomp, hidx, hk, hkind, hname⟩ := arrayOverA_spec h
  obtain ⟨k', hk', hek'⟩ := hvm.2.2 _ _ hk
  have hkind' : k'.kind = .array comp (.array t) := by rw [hek']; exact hkind
  have hname' : U.vm.findClass ("[" ++ (FieldType.array t).toString) = some c := by rw [hvm.findClass]; exact hname
  have hcomp' : U.vm.findClass (FieldType.array t).toString = some comp := by rw [hvm.findClass]; exact hcomp
  unfold Cond.before
  simp only [Cond.holds, Cond.value, hcomp', Option.bind_some, beq_iff_eq]
  rw [Option.bind_eq_some_iff]
  refine ⟨c, (hvm.findIdx?_eq _ (fun _ => rfl)).trans hidx, ?_⟩
  simp [hk', hkind', hname']
theorem GX.move {V : VX} {s U : State} (h : GX V s) (hW : s.WarmedH U.vm) (kq : ∀ a : Nat, a < s.heap.size → ¬ AB V a → U.heap[a]? = s.heap[a]?) : GX V U := by
  have al := hW.alike
  obtain ⟨h1, h2, h3, h4, h5, h6, h7, h8⟩ := h
  exact ⟨(h1.moved al).kept kq, (h2.moved al).kept kq, (h3.moved al).kept kq, (h4.moved al).kept kq, (h5.moved al).kept kq, (h6.moved al).kept kq, va_AO.moved al h7, aoA_moved al h8⟩
def GF (V : VX) (U : State) : Prop := vB V ≤ U.heap.size ∧
  va_Z "RateLimiter" "LEAST" "[I" (.ref (vG V).1.1) (AB V) U U.heap ∧ va_T .int (vG V).1.1 6 (fun j => vi (tabL j)) (AB V) U U.heap ∧
  va_Z "RateLimiter" "GREATEST" "[I" (.ref (vG V).1.2.1) (AB V) U U.heap ∧ va_T .int (vG V).1.2.1 6 (fun j => vi (tabG j)) (AB V) U U.heap ∧
  va_Z "RateLimiter" "DEFAULTS" "[I" (.ref (vG V).1.2.2) (AB V) U U.heap ∧ va_T .int (vG V).1.2.2 6 (fun j => vi (tabD j)) (AB V) U U.heap ∧
  (∀ i, i < 27 → vk_R (sow i) (skey i) (stx i) ((vG V).2.1 i) U) ∧ vk_S 27 slen sbyt (vG V).2.1 (vG V).2.2.1 (AB V) U U.heap ∧
  va_Z "java/lang/String" "COMPACT_STRINGS" "Z" (.int 1) (AB V) U U.heap ∧ va_Zq "jdk/internal/util/Preconditions" "SIOOBE_FORMATTER" "Ljava/util/function/BiFunction;" (AB V) U U.heap ∧
  (∀ w ∈ nst, va_Nw w U) ∧ GX V U
theorem nest_warm {w : Cond} {s U : State} (hn : isNest w = true) (hW : s.WarmedH U.vm) (h : va_Nw w s) : va_Nw w U := by
  cases w <;> first | exact absurd hn (by decide) | exact h.warmM hW | exact h.warmF hW | exact h.warmC hW | (simp [isNest] at hn)
theorem GF.move {V : VX} {s U : State} (h : GF V s) (hW : s.WarmedH U.vm) (hz : s.heap.size ≤ U.heap.size) (hq : ∀ a : Nat, a < vB V → U.heap[a]? = s.heap[a]?) : GF V U := by
  have kq : ∀ a : Nat, a < s.heap.size → ¬ AB V a → U.heap[a]? = s.heap[a]? := fun a _ h2 => hq a (by unfold AB at h2; omega)
  have al := hW.alike
  obtain ⟨h0, h1, h2, h3, h4, h5, h6, h7, h8, h9, h10, h11, h12⟩ := h
  exact ⟨by omega, (h1.moved al).kept kq, (h2.moved al).kept kq, (h3.moved al).kept kq, (h4.moved al).kept kq, (h5.moved al).kept kq, (h6.moved al).kept kq, fun i hi => (h7 i hi).warm hW, (h8.moved al).kept kq, (h9.moved al).kept kq, (h10.moved al).kept kq, fun w hw => nest_warm (List.mem_filter.mp hw).2 hW (h11 w hw), h12.move hW kq⟩
theorem GF.nest {V : VX} {U : State} (h : GF V U) {w : Cond} (hw : w ∈ nst) (ht : w.onTables = true) {A : Array Value} : w.before A U = true := va_Nw.use ht (h.2.2.2.2.2.2.2.2.2.2.2.1 w hw)
/-! the frame's locals by their places -/
def asc : Nat → List (Option Value) → List (Nat × Value)
  | _, [] => []
  | i, some v :: r => (i, v) :: asc (i + 1) r
  | i, none :: r => asc (i + 1) r
theorem asc_at : ∀ {L : List (Option Value)} {b i : Nat} {v : Value}, L[i]? = some (some v) → (b + i, v) ∈ asc b L
  | [], b, i, v, h => by simp at h
  | some u :: L, b, 0, v, h => by
    simp at h
    subst h
    exact List.mem_cons_self
  | none :: L, b, 0, v, h => by simp at h
  | some u :: L, b, i + 1, v, h => by
    have := asc_at (L := L) (b := b + 1) (i := i) (v := v) (by simpa using h)
    rw [show b + (i + 1) = b + 1 + i by omega]
    exact List.mem_cons_of_mem _ this
  | none :: L, b, i + 1, v, h => by
    have := asc_at (L := L) (b := b + 1) (i := i) (v := v) (by simpa using h)
    rw [show b + (i + 1) = b + 1 + i by omega]
    exact this
theorem asc_of : ∀ {L : List (Option Value)} {b : Nat} {q : Nat × Value}, q ∈ asc b L → b ≤ q.1 ∧ L[q.1 - b]? = some (some q.2)
  | [], b, q, h => by simp [asc] at h
  | some u :: L, b, q, h => by
    rcases List.mem_cons.mp h with rfl | h
    · simp
    · obtain ⟨h1, h2⟩ := asc_of h
      refine ⟨by omega, ?_⟩
      rw [show q.1 - b = q.1 - (b + 1) + 1 by omega]
      simpa using h2
  | none :: L, b, q, h => by
    obtain ⟨h1, h2⟩ := asc_of (show q ∈ asc (b + 1) L from h)
    refine ⟨by omega, ?_⟩
    rw [show q.1 - b = q.1 - (b + 1) + 1 by omega]
    simpa using h2
def LSl (ls : Array Slot) (L : List (Option Value)) : Prop := lv_has ls L.length (asc 0 L)
theorem LSl.at {ls : Array Slot} {L : List (Option Value)} (h : LSl ls L) {i : Nat} {v : Value} (hi : L[i]? = some (some v)) : ls[i]? = some (.val v) := by
  have := h.2.2 _ (asc_at (b := 0) hi)
  simpa using this
/-- no long ends at this place -/
def c1 (x : Option Value) : Prop := ∀ v, x = some v → v.category = 1
theorem c1_n : c1 none := fun _ h => by cases h
theorem c1_i {x : Int} : c1 (some (vi x)) := fun _ h => by cases h; rfl
theorem c1_r {V : VX} {x : Int} : c1 (some (vr V x)) := fun _ h => by cases h; exact vr_cat V x
theorem LSl.st1 {ls' : Array Slot} {L L' : List (Option Value)} {i : Nat} {v : Value} (h : lv_has ls' L.length ((i, v) :: (asc 0 L).filter (fun q => !(q.1 == i) && !(q.1 + 1 == i && q.2.category == 2)))) (hL : L' = L.set i (some v)) (hp : ∀ j u, j + 1 = i → L[j]? = some u → c1 u) : LSl ls' L' := by
  subst hL
  refine ⟨by rw [List.length_set]; exact h.1, h.2.1, fun q hq => ?_⟩
  obtain ⟨-, h2⟩ := asc_of hq
  apply h.2.2
  by_cases hqi : q.1 = i
  · rw [Nat.sub_zero, hqi] at h2
    have hl : i < L.length := by
      have := (List.getElem?_eq_some_iff.mp h2).1
      simpa using this
    rw [List.getElem?_set_self hl] at h2
    have e : q = (i, v) := by
      obtain ⟨a, b⟩ := q
      simp at h2 hqi
      rw [hqi, h2]
    rw [e]
    exact List.mem_cons_self
  · rw [Nat.sub_zero, List.getElem?_set_ne (fun e => hqi e.symm)] at h2
    refine List.mem_cons_of_mem _ (List.mem_filter.mpr ⟨?_, ?_⟩)
    · have := asc_at (b := 0) h2
      simpa using this
    · have hc : q.1 + 1 = i → q.2.category = 1 := fun e => hp q.1 _ e h2 q.2 rfl
      by_cases e : q.1 + 1 = i
      · simp [hqi, hc e]
      · simp [hqi, e]
theorem LSl.st2 {ls' : Array Slot} {L L' : List (Option Value)} {i : Nat} {v : Value} (h : lv_has ls' L.length ((i, v) :: (asc 0 L).filter (fun q => !(q.1 == i) && (!(q.1 == i + 1) && !(q.1 + 1 == i && q.2.category == 2))))) (hL : L' = (L.set i (some v)).set (i + 1) none) (hp : ∀ j u, j + 1 = i → L[j]? = some u → c1 u) : LSl ls' L' := by
  subst hL
  refine ⟨by rw [List.length_set, List.length_set]; exact h.1, h.2.1, fun q hq => ?_⟩
  obtain ⟨-, h2⟩ := asc_of hq
  apply h.2.2
  have hq1 : q.1 ≠ i + 1 := by
    intro e
    rw [Nat.sub_zero, e] at h2
    have hl := (List.getElem?_eq_some_iff.mp h2).1
    rw [List.getElem?_set_self (by simpa using hl)] at h2
    cases h2
  rw [Nat.sub_zero, List.getElem?_set_ne (fun e => hq1 e.symm)] at h2
  by_cases hqi : q.1 = i
  · rw [hqi] at h2
    have hl : i < L.length := by
      have := (List.getElem?_eq_some_iff.mp h2).1
      simpa using this
    rw [List.getElem?_set_self hl] at h2
    have e : q = (i, v) := by
      obtain ⟨a, b⟩ := q
      simp at h2 hqi
      rw [hqi, h2]
    rw [e]
    exact List.mem_cons_self
  · rw [List.getElem?_set_ne (fun e => hqi e.symm)] at h2
    refine List.mem_cons_of_mem _ (List.mem_filter.mpr ⟨?_, ?_⟩)
    · have := asc_at (b := 0) h2
      simpa using this
    · have hc : q.1 + 1 = i → q.2.category = 1 := fun e => hp q.1 _ e h2 q.2 rfl
      by_cases e : q.1 + 1 = i
      · simp [hqi, hq1, hc e]
      · simp [hqi, hq1, e]
theorem LSl.drop {ls : Array Slot} {L L' : List (Option Value)} (h : LSl ls L) (hl : L'.length = L.length) (hi : ∀ (i : Nat) (v : Value), L'[i]? = some (some v) → L[i]? = some (some v)) : LSl ls L' := by
  refine ⟨by rw [hl]; exact h.1, h.2.1, fun q hq => ?_⟩
  obtain ⟨-, h2⟩ := asc_of hq
  exact h.at (hi _ _ h2)
/-! the judgement -/
def R (X : KX) (sh : Shp) (cs ss pc : Nat) (L : List (Option Value)) (st : List Value) (F : Hp) (Z : State → Prop) : Prop :=
  (xs X).heap.size + cs = vB (xV X) + sh.length → ∀ (H : Heap) (locs : List Loc) (ls : Array Slot), HP (xV X) sh F H → va_S (AB (xV X)) (xs X).heap H locs → LSl ls L → W (xp X) (vL (xV X)) (xe X) (xr X) (xs X) (xm X) (xa X) (xb X) (xM X) (xc X) H locs cs ss Z (F0 (xm X) pc ls st)
/-- what holds all along a method -/
def Ok (X : KX) (own : String) (cc : ByteArray) (nL : Nat) (ret : Option FieldType) (fr lo mc ms : Nat) : Prop :=
  (xp X).tables.exec = Jvm.exec ∧ (xc X).code = cc ∧ (xs X).vm.findClass own = some (xm X).cls ∧ (xc X).maxLocals = nL ∧ (∀ w ∈ gwt, w.before (xa X) (xs X) = true) ∧ va_K (vD (xV X)) vwCl (tys4 (xV X)) (xs X) ∧ GF (xV X) (xs X) ∧ (xM X).sig.returnType = ret ∧ (xM X).locks = false ∧
  (fr ≤ (xr X).frames ∧ lo ≤ (xr X).locals ∧ mc ≤ (xr X).cells ∧ ms ≤ (xr X).slots)
def rv (V : VX) (kd : Nat) (x : Int) : Option Value := match kd with
  | 0 => none
  | 1 => some (vi x)
  | 2 => some (vl x)
  | 3 => some (vr V x)
  | _ => some (.ref ((vG V).2.1 x.toNat))
def Post (V : VX) (sh : Shp) (kd : Nat) (Q : Int → Hp → Prop) : Array Value → State → Outcome → State → Prop := fun _ st oc t =>
  (∃ (x : Int) (F : Hp), oc = .returned (rv V kd x) ∧ Q x F ∧ HP V sh F t.heap) ∧ va_F (AB V) st t
/-- a method's contract: from these arguments and cells, it answers x and leaves the cells F' with 'Q x F'' -/
def Ct (V : VX) (y : MethodName) (cc : ByteArray) (nL : Nat) (ret : Option FieldType) (fr lo mc ms : Nat) (sh : Shp) (args : List Value) (F : Hp) (sh' : Shp) (kd : Nat) (Q : Int → Hp → Prop) : Prop :=
  Met (vL V) y (.code y cc nL ret :: gwt) ({ frames := fr, cells := mc, slots := ms, locals := lo }) (va_Pc args (fun U => U.heap.size = vB V + sh.length ∧ HP V sh F U.heap ∧ va_K (vD V) vwCl (tys4 V) U ∧ GF V U)) (Post V sh' kd Q) mc ms (AB V)
def Zq (X : KX) (sh : Shp) (kd : Nat) (Q : Int → Hp → Prop) (mc ms : Nat) : State → Prop := MQ (xb X) (Post (xV X) sh kd Q) (xa X) (xs X) mc ms (AB (xV X))
theorem good_tbl : GoodIn gwt gwt := fun w hw => ⟨hw, good_of_word (List.mem_filter.mp hw).2⟩
theorem good_cons {w : Cond} (h : w ∈ gwt) : GoodIn gwt (w :: gwt) := fun u hu => by
  rcases List.mem_cons.mp hu with rfl | hu
  · exact good_tbl _ h
  · exact good_tbl _ hu
theorem R.eq {X : KX} {sh : Shp} {cs ss pc : Nat} {L L' : List (Option Value)} {st st' : List Value} {F F' : Hp} {Z : State → Prop} (h1 : L = L') (h2 : st = st') (h3 : F = F') (k : R X sh cs ss pc L' st' F' Z) : R X sh cs ss pc L st F Z := by
  subst h1; subst h2; subst h3; exact k
theorem R.drop {X : KX} {sh : Shp} {cs ss pc : Nat} {L : List (Option Value)} {st : List Value} {F : Hp} {Z : State → Prop} (L' : List (Option Value)) (hl : L'.length = L.length) (hi : ∀ (i : Nat) (v : Value), L'[i]? = some (some v) → L[i]? = some (some v)) (k : R X sh cs ss pc L' st F Z) : R X sh cs ss pc L st F Z :=
  fun hz H locs ls hP hS hl' => k hz H locs ls hP hS (hl'.drop hl hi)
/-- the method's contract out of a walk of its body -/
theorem Ct.of {V : VX} {y : MethodName} {cc : ByteArray} {nL : Nat} {ret : Option FieldType} {fr lo mc ms : Nat} {sh sh' : Shp} {args : List Value} {F : Hp} {kd : Nat} {Q : Int → Hp → Prop} (L : List (Option Value)) (hy : plainName y.cls = true) (hlen : (lg_sl args).length ≤ nL) (hL : L.length = nL) (hLa : asc 0 L = lv_args 0 args)
    (body : ∀ X : KX, xV X = V → Ok X y.cls cc nL ret fr lo mc ms → R X sh 0 0 0 L [] F (Zq X sh' kd Q mc ms)) : Ct V y cc nL ret fr lo mc ms sh args F sh' kd Q := by
  refine Met.ofW (cc := cc) (maxL := nL) (ret := ret) hy rfl ?_
  intro p e s m as below meth c s₁ B hml hv
  obtain ⟨rfl, hz, hP, hK, hG⟩ := hv
  have hts0 := atoms_spec (ws := .code y cc nL ret :: gwt) B.pre
  have hts : ∀ w ∈ gwt, w.before args.toArray s = true := fun w hw => hts0 w (List.mem_cons_of_mem _ hw)
  have hown : s.vm.findClass y.cls = some m.cls := findClass_of_methodNamed B.named
  have key := body (V, p, e, (headSpec (.code y cc nL ret :: gwt) ({ frames := fr, cells := mc, slots := ms, locals := lo } : Room)).room, s, m, args.toArray, below, meth, c) rfl ⟨B.exec, B.bytes, hown, hml, hts, hK, hG, B.returns, B.notSynchronized, Nat.le_refl _, Nat.le_refl _, Nat.le_refl _, Nat.le_refl _⟩
  have hl := lv_entry args (n := nL) hlen
  rw [lg_entry_eq]
  exact key hz s.heap [] _ hP va_S.rf (by unfold LSl; rw [hL, hLa]; exact hl)
theorem Ct.weaken {V : VX} {y : MethodName} {cc : ByteArray} {nL : Nat} {ret : Option FieldType} {fr lo mc ms : Nat} {sh sh' : Shp} {args : List Value} {F : Hp} {kd : Nat} {Q Q' : Int → Hp → Prop} (h : Ct V y cc nL ret fr lo mc ms sh args F sh' kd Q) (hq : ∀ x F', Q x F' → Q' x F') : Ct V y cc nL ret fr lo mc ms sh args F sh' kd Q' := by
  intro p e h1 h2 h3 s m as below h4 h5 h6 h7
  obtain ⟨k, o, a1, a2, a3, ⟨⟨x, F', e1, q1, p1⟩, fr'⟩, a5⟩ := h p e h1 h2 h3 s m as below h4 h5 h6 h7
  exact ⟨k, o, a1, a2, a3, ⟨⟨x, F', e1, hq _ _ q1, p1⟩, fr'⟩, a5⟩
end
section
section RU
variable {X : KX} {sh : Shp} {cs ss pc : Nat} {L : List (Option Value)} {st : List Value} {F : Hp} {Z : State → Prop} {own : String} {cc : ByteArray} {nL : Nat} {ret : Option FieldType} {fr lo mc ms : Nat}
theorem vi_add {x y : Int} : vi (x + y) = .int (Int32.ofInt x + Int32.ofInt y) := congrArg Value.int (Int32.ofInt_add ..)
theorem vi_sub {x y : Int} : vi (x - y) = .int (Int32.ofInt x - Int32.ofInt y) := congrArg Value.int (Int32.ofInt_sub ..)
theorem vi_mul {x y : Int} : vi (x * y) = .int (Int32.ofInt x * Int32.ofInt y) := congrArg Value.int (Int32.ofInt_mul ..)
theorem vi_neg {x : Int} : vi (-x) = .int (-Int32.ofInt x) := congrArg Value.int (Int32.ofInt_neg ..)
theorem vl_add {x y : Int} : vl (x + y) = .long (Int64.ofInt x + Int64.ofInt y) := congrArg Value.long (Int64.ofInt_add ..)
theorem vl_sub {x y : Int} : vl (x - y) = .long (Int64.ofInt x - Int64.ofInt y) := congrArg Value.long (Int64.ofInt_sub ..)
theorem vl_mul {x y : Int} : vl (x * y) = .long (Int64.ofInt x * Int64.ofInt y) := congrArg Value.long (Int64.ofInt_mul ..)
theorem i32_to {x : Int} (h : I32 x) : (Int32.ofInt x).toInt = x := Int32.toInt_ofInt_of_le (by unfold I32 at h; omega) (by unfold I32 at h; omega)
theorem i64_to {x : Int} (h : I64 x) : (Int64.ofInt x).toInt = x := Int64.toInt_ofInt_of_le (by unfold I64 at h; omega) (by unfold I64 at h; omega)
theorem i32_lt {x y : Int} (hx : I32 x) (hy : I32 y) : Int32.ofInt x < Int32.ofInt y ↔ x < y := by rw [Int32.lt_iff_toInt_lt, i32_to hx, i32_to hy]
theorem i32_le {x y : Int} (hx : I32 x) (hy : I32 y) : Int32.ofInt x ≤ Int32.ofInt y ↔ x ≤ y := by rw [Int32.le_iff_toInt_le, i32_to hx, i32_to hy]
theorem i32_eq {x y : Int} (hx : I32 x) (hy : I32 y) : Int32.ofInt x = Int32.ofInt y ↔ x = y := ⟨fun h => by have := congrArg Int32.toInt h; rwa [i32_to hx, i32_to hy] at this, fun h => by rw [h]⟩
theorem i32_0 : (0 : Int32) = Int32.ofInt 0 := rfl
theorem I32_0 : I32 0 := by unfold I32; omega
theorem i64_lt {x y : Int} (hx : I64 x) (hy : I64 y) : Int64.ofInt x < Int64.ofInt y ↔ x < y := by rw [Int64.lt_iff_toInt_lt, i64_to hx, i64_to hy]
theorem i64_eq {x y : Int} (hx : I64 x) (hy : I64 y) : Int64.ofInt x = Int64.ofInt y ↔ x = y := ⟨fun h => by have := congrArg Int64.toInt h; rwa [i64_to hx, i64_to hy] at this, fun h => by rw [h]⟩
theorem vi_div {x y : Int} (hx : I32 x) (hy : I32 y) : vi (x.tdiv y) = .int (Int32.ofInt x / Int32.ofInt y) := by
  have h1 : Int32.maxValue.toInt = 2147483647 := rfl
  have h2 : Int32.minValue.toInt = -2147483648 := rfl
  unfold I32 at hx hy
  exact congrArg Value.int (Int32.ofInt_tdiv (by omega) (by omega) (by omega) (by omega))
theorem vl_div {x y : Int} (hx : I64 x) (hy : I64 y) : vl (x.tdiv y) = .long (Int64.ofInt x / Int64.ofInt y) := by
  have h1 : Int64.maxValue.toInt = 9223372036854775807 := rfl
  have h2 : Int64.minValue.toInt = -9223372036854775808 := rfl
  unfold I64 at hx hy
  exact congrArg Value.long (Int64.ofInt_tdiv (by omega) (by omega) (by omega) (by omega))
theorem vi_rem {x y : Int} (hx : I32 x) (hy : I32 y) : vi (x.tmod y) = .int (Int32.ofInt x - Int32.ofInt x / Int32.ofInt y * Int32.ofInt y) := by
  have h1 : Int32.ofInt x / Int32.ofInt y = Int32.ofInt (x.tdiv y) := (Value.int.inj (vi_div hx hy)).symm
  rw [h1, ← Int32.ofInt_mul, ← Int32.ofInt_sub, Int.tmod_def, Int.mul_comm]
  rfl
theorem vl_rem {x y : Int} (hx : I64 x) (hy : I64 y) : vl (x.tmod y) = .long (Int64.ofInt x - Int64.ofInt x / Int64.ofInt y * Int64.ofInt y) := by
  have h1 : Int64.ofInt x / Int64.ofInt y = Int64.ofInt (x.tdiv y) := (Value.long.inj (vl_div hx hy)).symm
  rw [h1, ← Int64.ofInt_mul, ← Int64.ofInt_sub, Int.tmod_def, Int.mul_comm]
  rfl
def iand (x y : Int) : Int := (Int32.ofInt x &&& Int32.ofInt y).toInt
def ior (x y : Int) : Int := (Int32.ofInt x ||| Int32.ofInt y).toInt
def ishl (x y : Int) : Int := (Int32.ofInt x <<< (Int32.ofInt y &&& 31)).toInt
def ishr (x y : Int) : Int := (Int32.ofInt x >>> (Int32.ofInt y &&& 31)).toInt
def lor (x y : Int) : Int := (Int64.ofInt x ||| Int64.ofInt y).toInt
def lshl (x y : Int) : Int := (Int64.ofInt x <<< ((Int32.ofInt y).toInt64 &&& 63)).toInt
def lshr (x y : Int) : Int := (Int64.ofInt x >>> ((Int32.ofInt y).toInt64 &&& 63)).toInt
def b8 (x : Int) : Int := (Int32.ofInt x).toInt8.toInt32.toInt
def lc (x y : Int) : Int := if x < y then -1 else if x = y then 0 else 1
theorem vi_lc {x y : Int} (hx : I64 x) (hy : I64 y) : vi (lc x y) = Value.int (lg_cmp (Int64.ofInt x) (Int64.ofInt y)) := by
  unfold lc lg_cmp vi
  simp only [gt_iff_lt, i64_lt hx hy, i64_lt hy hx, i64_eq hx hy]
  rcases Int.lt_trichotomy x y with h | h | h
  · rw [if_pos h, if_neg (by omega), if_neg (by omega)]; rfl
  · rw [if_neg (by omega), if_pos h, if_neg (by omega), if_pos h]; rfl
  · rw [if_neg (by omega), if_neg (by omega), if_pos h]; rfl
theorem vi_to {z : Int32} : vi z.toInt = .int z := congrArg Value.int (Int32.ofInt_toInt z)
theorem vl_to {z : Int64} : vl z.toInt = .long z := congrArg Value.long (Int64.ofInt_toInt z)
theorem vl_i2l {x : Int} (h : I32 x) : vl x = .long (Int32.ofInt x).toInt64 := by
  refine congrArg Value.long ?_
  apply Int64.toInt_inj.mp
  rw [Int32.toInt_toInt64, i32_to h, i64_to (by unfold I32 at h; unfold I64; omega)]
theorem vi_l2i {x : Int} : vi x = .int (Int64.ofInt x).toInt32 := by
  refine congrArg Value.int ?_
  apply Int32.toInt_inj.mp
  rw [Int64.toInt_toInt32, Int32.toInt_ofInt, Int64.toInt_ofInt]
  exact (Int.bmod_bmod_of_dvd (by decide)).symm

theorem R_iconst (hX : Ok X own cc nL ret fr lo mc ms) {n : Int} (hd : decode cc pc = .ok (.iconst n, 1)) (k : R X sh cs ss (pc + 1) L (vi n :: st) F Z) : R X sh cs ss pc L st F Z := fun hz H locs ls hP hS hL => lv_iconst hX.1 hX.2.1 hd rfl (k hz H locs ls hP hS hL)
theorem R_bipush (hX : Ok X own cc nL ret fr lo mc ms) {n : Int} (hd : decode cc pc = .ok (.bipush n, 2)) (hn : (Int8.ofInt n).toInt32 = Int32.ofInt n) (k : R X sh cs ss (pc + 2) L (vi n :: st) F Z) : R X sh cs ss pc L st F Z := fun hz H locs ls hP hS hL => lv_bipush hX.1 hX.2.1 hd hn (k hz H locs ls hP hS hL)
theorem R_sipush (hX : Ok X own cc nL ret fr lo mc ms) {n : Int} (hd : decode cc pc = .ok (.sipush n, 3)) (hn : (Int16.ofInt n).toInt32 = Int32.ofInt n) (k : R X sh cs ss (pc + 3) L (vi n :: st) F Z) : R X sh cs ss pc L st F Z := fun hz H locs ls hP hS hL => lv_sipush hX.1 hX.2.1 hd hn (k hz H locs ls hP hS hL)
theorem R_lconst0 (hX : Ok X own cc nL ret fr lo mc ms) (hd : decode cc pc = .ok (.lconst 0, 1)) (k : R X sh cs ss (pc + 1) L (vl 0 :: st) F Z) : R X sh cs ss pc L st F Z := fun hz H locs ls hP hS hL => lv_lconst hX.1 hX.2.1 hd rfl (k hz H locs ls hP hS hL)
theorem R_lconst1 (hX : Ok X own cc nL ret fr lo mc ms) (hd : decode cc pc = .ok (.lconst 1, 1)) (k : R X sh cs ss (pc + 1) L (vl 1 :: st) F Z) : R X sh cs ss pc L st F Z := fun hz H locs ls hP hS hL => lv_lconst hX.1 hX.2.1 hd rfl (k hz H locs ls hP hS hL)
theorem R_ldc (hX : Ok X own cc nL ret fr lo mc ms) {idx : Nat} {n : Int} {v : Int32} (hw : Cond.constant own idx v ∈ gwt) (hv : v = Int32.ofInt n) (hd : decode cc pc = .ok (.ldc idx, 2)) (k : R X sh cs ss (pc + 2) L (vi n :: st) F Z) : R X sh cs ss pc L st F Z := fun hz H locs ls hP hS hL => lv_ldc hX.1 hX.2.1 hX.2.2.1 (hX.2.2.2.2.1 _ hw) hd (by rw [hv]; exact k hz H locs ls hP hS hL)
theorem R_ldc2 (hX : Ok X own cc nL ret fr lo mc ms) {idx : Nat} {n : Int} {v : Int64} (hw : Cond.constantLong own idx v ∈ gwt) (hv : v = Int64.ofInt n) (hd : decode cc pc = .ok (.ldc2_w idx, 3)) (k : R X sh cs ss (pc + 3) L (vl n :: st) F Z) : R X sh cs ss pc L st F Z := fun hz H locs ls hP hS hL => lv_ldc2 hX.1 hX.2.1 hX.2.2.1 (hX.2.2.2.2.1 _ hw) hd (by rw [hv]; exact k hz H locs ls hP hS hL)
theorem R_null (hX : Ok X own cc nL ret fr lo mc ms) (hd : decode cc pc = .ok (.aconst_null, 1)) (k : R X sh cs ss (pc + 1) L (vr (xV X) (-1) :: st) F Z) : R X sh cs ss pc L st F Z := fun hz H locs ls hP hS hL => lv_null hX.1 hX.2.1 hd (k hz H locs ls hP hS hL)
theorem R_iadd (hX : Ok X own cc nL ret fr lo mc ms) {x y : Int} (hd : decode cc pc = .ok (.iadd, 1)) (k : R X sh cs ss (pc + 1) L (vi (x + y) :: st) F Z) : R X sh cs ss pc L (vi y :: vi x :: st) F Z := fun hz H locs ls hP hS hL => lv_iadd hX.1 hX.2.1 hd  (by have h := k hz H locs ls hP hS hL; rw [vi_add] at h; exact h)
theorem R_isub (hX : Ok X own cc nL ret fr lo mc ms) {x y : Int} (hd : decode cc pc = .ok (.isub, 1)) (k : R X sh cs ss (pc + 1) L (vi (x - y) :: st) F Z) : R X sh cs ss pc L (vi y :: vi x :: st) F Z := fun hz H locs ls hP hS hL => lv_isub hX.1 hX.2.1 hd  (by have h := k hz H locs ls hP hS hL; rw [vi_sub] at h; exact h)
theorem R_imul (hX : Ok X own cc nL ret fr lo mc ms) {x y : Int} (hd : decode cc pc = .ok (.imul, 1)) (k : R X sh cs ss (pc + 1) L (vi (x * y) :: st) F Z) : R X sh cs ss pc L (vi y :: vi x :: st) F Z := fun hz H locs ls hP hS hL => lv_imul hX.1 hX.2.1 hd  (by have h := k hz H locs ls hP hS hL; rw [vi_mul] at h; exact h)
theorem R_ladd (hX : Ok X own cc nL ret fr lo mc ms) {x y : Int} (hd : decode cc pc = .ok (.ladd, 1)) (k : R X sh cs ss (pc + 1) L (vl (x + y) :: st) F Z) : R X sh cs ss pc L (vl y :: vl x :: st) F Z := fun hz H locs ls hP hS hL => lv_ladd hX.1 hX.2.1 hd  (by have h := k hz H locs ls hP hS hL; rw [vl_add] at h; exact h)
theorem R_lsub (hX : Ok X own cc nL ret fr lo mc ms) {x y : Int} (hd : decode cc pc = .ok (.lsub, 1)) (k : R X sh cs ss (pc + 1) L (vl (x - y) :: st) F Z) : R X sh cs ss pc L (vl y :: vl x :: st) F Z := fun hz H locs ls hP hS hL => lv_lsub hX.1 hX.2.1 hd  (by have h := k hz H locs ls hP hS hL; rw [vl_sub] at h; exact h)
theorem R_lmul (hX : Ok X own cc nL ret fr lo mc ms) {x y : Int} (hd : decode cc pc = .ok (.lmul, 1)) (k : R X sh cs ss (pc + 1) L (vl (x * y) :: st) F Z) : R X sh cs ss pc L (vl y :: vl x :: st) F Z := fun hz H locs ls hP hS hL => lv_lmul hX.1 hX.2.1 hd  (by have h := k hz H locs ls hP hS hL; rw [vl_mul] at h; exact h)
theorem R_iand (hX : Ok X own cc nL ret fr lo mc ms) {x y : Int} (hd : decode cc pc = .ok (.iand, 1)) (k : R X sh cs ss (pc + 1) L (vi (iand x y) :: st) F Z) : R X sh cs ss pc L (vi y :: vi x :: st) F Z := fun hz H locs ls hP hS hL => lv_iand hX.1 hX.2.1 hd  (by have h := k hz H locs ls hP hS hL; rw [iand, vi_to] at h; exact h)
theorem R_ior (hX : Ok X own cc nL ret fr lo mc ms) {x y : Int} (hd : decode cc pc = .ok (.ior, 1)) (k : R X sh cs ss (pc + 1) L (vi (ior x y) :: st) F Z) : R X sh cs ss pc L (vi y :: vi x :: st) F Z := fun hz H locs ls hP hS hL => lv_ior hX.1 hX.2.1 hd  (by have h := k hz H locs ls hP hS hL; rw [ior, vi_to] at h; exact h)
theorem R_ishl (hX : Ok X own cc nL ret fr lo mc ms) {x y : Int} (hd : decode cc pc = .ok (.ishl, 1)) (k : R X sh cs ss (pc + 1) L (vi (ishl x y) :: st) F Z) : R X sh cs ss pc L (vi y :: vi x :: st) F Z := fun hz H locs ls hP hS hL => lv_ishl hX.1 hX.2.1 hd  (by have h := k hz H locs ls hP hS hL; rw [ishl, vi_to] at h; exact h)
theorem R_ishr (hX : Ok X own cc nL ret fr lo mc ms) {x y : Int} (hd : decode cc pc = .ok (.ishr, 1)) (k : R X sh cs ss (pc + 1) L (vi (ishr x y) :: st) F Z) : R X sh cs ss pc L (vi y :: vi x :: st) F Z := fun hz H locs ls hP hS hL => lv_ishr hX.1 hX.2.1 hd  (by have h := k hz H locs ls hP hS hL; rw [ishr, vi_to] at h; exact h)
theorem R_lor (hX : Ok X own cc nL ret fr lo mc ms) {x y : Int} (hd : decode cc pc = .ok (.lor, 1)) (k : R X sh cs ss (pc + 1) L (vl (lor x y) :: st) F Z) : R X sh cs ss pc L (vl y :: vl x :: st) F Z := fun hz H locs ls hP hS hL => lv_lor hX.1 hX.2.1 hd  (by have h := k hz H locs ls hP hS hL; rw [lor, vl_to] at h; exact h)
theorem R_lshl (hX : Ok X own cc nL ret fr lo mc ms) {x y : Int} (hd : decode cc pc = .ok (.lshl, 1)) (k : R X sh cs ss (pc + 1) L (vl (lshl x y) :: st) F Z) : R X sh cs ss pc L (vi y :: vl x :: st) F Z := fun hz H locs ls hP hS hL => lv_lshl hX.1 hX.2.1 hd rfl (by have h := k hz H locs ls hP hS hL; rw [lshl, vl_to] at h; exact h)
theorem R_lshr (hX : Ok X own cc nL ret fr lo mc ms) {x y : Int} (hd : decode cc pc = .ok (.lshr, 1)) (k : R X sh cs ss (pc + 1) L (vl (lshr x y) :: st) F Z) : R X sh cs ss pc L (vi y :: vl x :: st) F Z := fun hz H locs ls hP hS hL => lv_lshr hX.1 hX.2.1 hd rfl (by have h := k hz H locs ls hP hS hL; rw [lshr, vl_to] at h; exact h)
theorem R_idiv (hX : Ok X own cc nL ret fr lo mc ms) {x y : Int} (hx : I32 x) (hy : I32 y) (hne : ¬ y = 0) (hd : decode cc pc = .ok (.idiv, 1)) (k : R X sh cs ss (pc + 1) L (vi (x.tdiv y) :: st) F Z) : R X sh cs ss pc L (vi y :: vi x :: st) F Z := fun hz H locs ls hP hS hL => lv_idiv hX.1 hX.2.1 hd (by intro h; exact hne ((i32_eq hy (by unfold I32; omega)).mp h)) (by have h := k hz H locs ls hP hS hL; rw [vi_div hx hy] at h; exact h)
theorem R_irem (hX : Ok X own cc nL ret fr lo mc ms) {x y : Int} (hx : I32 x) (hy : I32 y) (hne : ¬ y = 0) (hd : decode cc pc = .ok (.irem, 1)) (k : R X sh cs ss (pc + 1) L (vi (x.tmod y) :: st) F Z) : R X sh cs ss pc L (vi y :: vi x :: st) F Z := fun hz H locs ls hP hS hL => lv_irem hX.1 hX.2.1 hd (by intro h; exact hne ((i32_eq hy (by unfold I32; omega)).mp h)) (by have h := k hz H locs ls hP hS hL; rw [vi_rem hx hy] at h; exact h)
theorem R_ldiv (hX : Ok X own cc nL ret fr lo mc ms) {x y : Int} (hx : I64 x) (hy : I64 y) (hne : ¬ y = 0) (hd : decode cc pc = .ok (.ldiv, 1)) (k : R X sh cs ss (pc + 1) L (vl (x.tdiv y) :: st) F Z) : R X sh cs ss pc L (vl y :: vl x :: st) F Z := fun hz H locs ls hP hS hL => lv_ldiv hX.1 hX.2.1 hd (by intro h; exact hne ((i64_eq hy (by unfold I64; omega)).mp h)) (by have h := k hz H locs ls hP hS hL; rw [vl_div hx hy] at h; exact h)
theorem R_lrem (hX : Ok X own cc nL ret fr lo mc ms) {x y : Int} (hx : I64 x) (hy : I64 y) (hne : ¬ y = 0) (hd : decode cc pc = .ok (.lrem, 1)) (k : R X sh cs ss (pc + 1) L (vl (x.tmod y) :: st) F Z) : R X sh cs ss pc L (vl y :: vl x :: st) F Z := fun hz H locs ls hP hS hL => lv_lrem hX.1 hX.2.1 hd (by intro h; exact hne ((i64_eq hy (by unfold I64; omega)).mp h)) (by have h := k hz H locs ls hP hS hL; rw [vl_rem hx hy] at h; exact h)
theorem R_i2l (hX : Ok X own cc nL ret fr lo mc ms) {x : Int} (hx : I32 x) (hd : decode cc pc = .ok (.i2l, 1)) (k : R X sh cs ss (pc + 1) L (vl x :: st) F Z) : R X sh cs ss pc L (vi x :: st) F Z := fun hz H locs ls hP hS hL => lv_i2l hX.1 hX.2.1 hd rfl (by have h := k hz H locs ls hP hS hL; rw [vl_i2l hx] at h; exact h)
theorem R_l2i (hX : Ok X own cc nL ret fr lo mc ms) {x : Int} (hd : decode cc pc = .ok (.l2i, 1)) (k : R X sh cs ss (pc + 1) L (vi x :: st) F Z) : R X sh cs ss pc L (vl x :: st) F Z := fun hz H locs ls hP hS hL => lv_l2i hX.1 hX.2.1 hd rfl (by have h := k hz H locs ls hP hS hL; rw [vi_l2i] at h; exact h)
theorem R_i2b (hX : Ok X own cc nL ret fr lo mc ms) {x : Int} (hd : decode cc pc = .ok (.i2b, 1)) (k : R X sh cs ss (pc + 1) L (vi (b8 x) :: st) F Z) : R X sh cs ss pc L (vi x :: st) F Z := fun hz H locs ls hP hS hL => lv_i2b hX.1 hX.2.1 hd rfl (by have h := k hz H locs ls hP hS hL; rw [b8, vi_to] at h; exact h)
theorem R_lcmp (hX : Ok X own cc nL ret fr lo mc ms) {x y : Int} (hx : I64 x) (hy : I64 y) (hd : decode cc pc = .ok (.lcmp, 1)) (k : R X sh cs ss (pc + 1) L (vi (lc x y) :: st) F Z) : R X sh cs ss pc L (vl y :: vl x :: st) F Z := fun hz H locs ls hP hS hL => W.lcmp hX.1 hX.2.1 hd (by have h := k hz H locs ls hP hS hL; rw [vi_lc hx hy] at h; exact h)
theorem R_dup (hX : Ok X own cc nL ret fr lo mc ms) {v : Value} (hc : c1 (some v)) (hd : decode cc pc = .ok (.dup, 1)) (k : R X sh cs ss (pc + 1) L (v :: v :: st) F Z) : R X sh cs ss pc L (v :: st) F Z := fun hz H locs ls hP hS hL => lv_dup hX.1 hX.2.1 hd (hc _ rfl) (k hz H locs ls hP hS hL)
theorem R_dup2 (hX : Ok X own cc nL ret fr lo mc ms) {v u : Value} (hc : c1 (some v)) (hc2 : c1 (some u)) (hd : decode cc pc = .ok (.dup2, 1)) (k : R X sh cs ss (pc + 1) L (v :: u :: v :: u :: st) F Z) : R X sh cs ss pc L (v :: u :: st) F Z := fun hz H locs ls hP hS hL => lv_dup2_11 hX.1 hX.2.1 hd (hc _ rfl) (hc2 _ rfl) (k hz H locs ls hP hS hL)
theorem R_dup2l (hX : Ok X own cc nL ret fr lo mc ms) {x : Int} (hd : decode cc pc = .ok (.dup2, 1)) (k : R X sh cs ss (pc + 1) L (vl x :: vl x :: st) F Z) : R X sh cs ss pc L (vl x :: st) F Z := fun hz H locs ls hP hS hL => lv_dup2_2 hX.1 hX.2.1 hd rfl (k hz H locs ls hP hS hL)
theorem R_pop (hX : Ok X own cc nL ret fr lo mc ms) {v : Value} (hc : c1 (some v)) (hd : decode cc pc = .ok (.pop, 1)) (k : R X sh cs ss (pc + 1) L st F Z) : R X sh cs ss pc L (v :: st) F Z := fun hz H locs ls hP hS hL => lv_pop hX.1 hX.2.1 hd (hc _ rfl) (k hz H locs ls hP hS hL)
theorem R_ifeq (hX : Ok X own cc nL ret fr lo mc ms) {x : Int} {off : Int} {tgt : Nat} (hd : decode cc pc = .ok (.ifCond .eq off, 3)) (ht : (pc : Int) + off = (tgt : Int)) (hx : I32 x) (kt : x = 0 → R X sh cs ss tgt L st F Z) (kf : ¬ (x = 0) → R X sh cs ss (pc + 3) L st F Z) : R X sh cs ss pc L (vi x :: st) F Z := fun hz H locs ls hP hS hL => lv_if_eq hX.1 hX.2.1 hd ht (fun h => kt ((i32_eq hx I32_0).mp h) hz H locs ls hP hS hL) (fun h => kf (fun q => h ((i32_eq hx I32_0).mpr q)) hz H locs ls hP hS hL)
theorem R_ifne (hX : Ok X own cc nL ret fr lo mc ms) {x : Int} {off : Int} {tgt : Nat} (hd : decode cc pc = .ok (.ifCond .ne off, 3)) (ht : (pc : Int) + off = (tgt : Int)) (hx : I32 x) (kt : ¬ x = 0 → R X sh cs ss tgt L st F Z) (kf : x = 0 → R X sh cs ss (pc + 3) L st F Z) : R X sh cs ss pc L (vi x :: st) F Z := fun hz H locs ls hP hS hL => lv_if_ne hX.1 hX.2.1 hd ht (fun h => kt (fun q => h ((i32_eq hx I32_0).mpr q)) hz H locs ls hP hS hL) (fun h => kf ((i32_eq hx I32_0).mp h) hz H locs ls hP hS hL)
theorem R_iflt (hX : Ok X own cc nL ret fr lo mc ms) {x : Int} {off : Int} {tgt : Nat} (hd : decode cc pc = .ok (.ifCond .lt off, 3)) (ht : (pc : Int) + off = (tgt : Int)) (hx : I32 x) (kt : x < 0 → R X sh cs ss tgt L st F Z) (kf : ¬ (x < 0) → R X sh cs ss (pc + 3) L st F Z) : R X sh cs ss pc L (vi x :: st) F Z := fun hz H locs ls hP hS hL => lv_if_lt hX.1 hX.2.1 hd ht (fun h => kt ((i32_lt hx I32_0).mp h) hz H locs ls hP hS hL) (fun h => kf (fun q => h ((i32_lt hx I32_0).mpr q)) hz H locs ls hP hS hL)
theorem R_ifge (hX : Ok X own cc nL ret fr lo mc ms) {x : Int} {off : Int} {tgt : Nat} (hd : decode cc pc = .ok (.ifCond .ge off, 3)) (ht : (pc : Int) + off = (tgt : Int)) (hx : I32 x) (kt : 0 ≤ x → R X sh cs ss tgt L st F Z) (kf : ¬ (0 ≤ x) → R X sh cs ss (pc + 3) L st F Z) : R X sh cs ss pc L (vi x :: st) F Z := fun hz H locs ls hP hS hL => lv_if_ge hX.1 hX.2.1 hd ht (fun h => kt ((i32_le I32_0 hx).mp h) hz H locs ls hP hS hL) (fun h => kf (fun q => h ((i32_le I32_0 hx).mpr q)) hz H locs ls hP hS hL)
theorem R_ifgt (hX : Ok X own cc nL ret fr lo mc ms) {x : Int} {off : Int} {tgt : Nat} (hd : decode cc pc = .ok (.ifCond .gt off, 3)) (ht : (pc : Int) + off = (tgt : Int)) (hx : I32 x) (kt : 0 < x → R X sh cs ss tgt L st F Z) (kf : ¬ (0 < x) → R X sh cs ss (pc + 3) L st F Z) : R X sh cs ss pc L (vi x :: st) F Z := fun hz H locs ls hP hS hL => lv_if_gt hX.1 hX.2.1 hd ht (fun h => kt ((i32_lt I32_0 hx).mp h) hz H locs ls hP hS hL) (fun h => kf (fun q => h ((i32_lt I32_0 hx).mpr q)) hz H locs ls hP hS hL)
theorem R_ifle (hX : Ok X own cc nL ret fr lo mc ms) {x : Int} {off : Int} {tgt : Nat} (hd : decode cc pc = .ok (.ifCond .le off, 3)) (ht : (pc : Int) + off = (tgt : Int)) (hx : I32 x) (kt : x ≤ 0 → R X sh cs ss tgt L st F Z) (kf : ¬ (x ≤ 0) → R X sh cs ss (pc + 3) L st F Z) : R X sh cs ss pc L (vi x :: st) F Z := fun hz H locs ls hP hS hL => lv_if_le hX.1 hX.2.1 hd ht (fun h => kt ((i32_le hx I32_0).mp h) hz H locs ls hP hS hL) (fun h => kf (fun q => h ((i32_le hx I32_0).mpr q)) hz H locs ls hP hS hL)
theorem R_icmpeq (hX : Ok X own cc nL ret fr lo mc ms) {x y : Int} {off : Int} {tgt : Nat} (hd : decode cc pc = .ok (.if_icmp .eq off, 3)) (ht : (pc : Int) + off = (tgt : Int)) (hx : I32 x) (hy : I32 y) (kt : x = y → R X sh cs ss tgt L st F Z) (kf : ¬ (x = y) → R X sh cs ss (pc + 3) L st F Z) : R X sh cs ss pc L (vi y :: vi x :: st) F Z := fun hz H locs ls hP hS hL => lv_icmp_eq hX.1 hX.2.1 hd ht (fun h => kt ((i32_eq hx hy).mp h) hz H locs ls hP hS hL) (fun h => kf (fun q => h ((i32_eq hx hy).mpr q)) hz H locs ls hP hS hL)
theorem R_icmpne (hX : Ok X own cc nL ret fr lo mc ms) {x y : Int} {off : Int} {tgt : Nat} (hd : decode cc pc = .ok (.if_icmp .ne off, 3)) (ht : (pc : Int) + off = (tgt : Int)) (hx : I32 x) (hy : I32 y) (kt : ¬ x = y → R X sh cs ss tgt L st F Z) (kf : x = y → R X sh cs ss (pc + 3) L st F Z) : R X sh cs ss pc L (vi y :: vi x :: st) F Z := fun hz H locs ls hP hS hL => lv_icmp_ne hX.1 hX.2.1 hd ht (fun h => kt (fun q => h ((i32_eq hx hy).mpr q)) hz H locs ls hP hS hL) (fun h => kf ((i32_eq hx hy).mp h) hz H locs ls hP hS hL)
theorem R_icmplt (hX : Ok X own cc nL ret fr lo mc ms) {x y : Int} {off : Int} {tgt : Nat} (hd : decode cc pc = .ok (.if_icmp .lt off, 3)) (ht : (pc : Int) + off = (tgt : Int)) (hx : I32 x) (hy : I32 y) (kt : x < y → R X sh cs ss tgt L st F Z) (kf : ¬ (x < y) → R X sh cs ss (pc + 3) L st F Z) : R X sh cs ss pc L (vi y :: vi x :: st) F Z := fun hz H locs ls hP hS hL => lv_icmp_lt hX.1 hX.2.1 hd ht (fun h => kt ((i32_lt hx hy).mp h) hz H locs ls hP hS hL) (fun h => kf (fun q => h ((i32_lt hx hy).mpr q)) hz H locs ls hP hS hL)
theorem R_icmpge (hX : Ok X own cc nL ret fr lo mc ms) {x y : Int} {off : Int} {tgt : Nat} (hd : decode cc pc = .ok (.if_icmp .ge off, 3)) (ht : (pc : Int) + off = (tgt : Int)) (hx : I32 x) (hy : I32 y) (kt : y ≤ x → R X sh cs ss tgt L st F Z) (kf : ¬ (y ≤ x) → R X sh cs ss (pc + 3) L st F Z) : R X sh cs ss pc L (vi y :: vi x :: st) F Z := fun hz H locs ls hP hS hL => lv_icmp_ge hX.1 hX.2.1 hd ht (fun h => kt ((i32_le hy hx).mp h) hz H locs ls hP hS hL) (fun h => kf (fun q => h ((i32_le hy hx).mpr q)) hz H locs ls hP hS hL)
theorem R_icmpgt (hX : Ok X own cc nL ret fr lo mc ms) {x y : Int} {off : Int} {tgt : Nat} (hd : decode cc pc = .ok (.if_icmp .gt off, 3)) (ht : (pc : Int) + off = (tgt : Int)) (hx : I32 x) (hy : I32 y) (kt : y < x → R X sh cs ss tgt L st F Z) (kf : ¬ (y < x) → R X sh cs ss (pc + 3) L st F Z) : R X sh cs ss pc L (vi y :: vi x :: st) F Z := fun hz H locs ls hP hS hL => lv_icmp_gt hX.1 hX.2.1 hd ht (fun h => kt ((i32_lt hy hx).mp h) hz H locs ls hP hS hL) (fun h => kf (fun q => h ((i32_lt hy hx).mpr q)) hz H locs ls hP hS hL)
theorem R_icmple (hX : Ok X own cc nL ret fr lo mc ms) {x y : Int} {off : Int} {tgt : Nat} (hd : decode cc pc = .ok (.if_icmp .le off, 3)) (ht : (pc : Int) + off = (tgt : Int)) (hx : I32 x) (hy : I32 y) (kt : x ≤ y → R X sh cs ss tgt L st F Z) (kf : ¬ (x ≤ y) → R X sh cs ss (pc + 3) L st F Z) : R X sh cs ss pc L (vi y :: vi x :: st) F Z := fun hz H locs ls hP hS hL => lv_icmp_le hX.1 hX.2.1 hd ht (fun h => kt ((i32_le hx hy).mp h) hz H locs ls hP hS hL) (fun h => kf (fun q => h ((i32_le hx hy).mpr q)) hz H locs ls hP hS hL)
theorem R_goto (hX : Ok X own cc nL ret fr lo mc ms) {off : Int} {tgt : Nat} (hd : decode cc pc = .ok (.goto off, 3)) (ht : (pc : Int) + off = (tgt : Int)) (k : R X sh cs ss tgt L st F Z) : R X sh cs ss pc L st F Z := fun hz H locs ls hP hS hL => lv_goto hX.1 hX.2.1 hd ht (k hz H locs ls hP hS hL)
theorem R_ifnull (hX : Ok X own cc nL ret fr lo mc ms) {x : Int} {off : Int} {tgt : Nat} (hd : decode cc pc = .ok (.ifnull off, 3)) (ht : (pc : Int) + off = (tgt : Int)) (kt : x < 0 → R X sh cs ss tgt L st F Z) (kf : ¬ x < 0 → R X sh cs ss (pc + 3) L st F Z) : R X sh cs ss pc L (vr (xV X) x :: st) F Z := fun hz H locs ls hP hS hL => by
  by_cases h : x < 0
  · rw [vr_null h]
    exact lv_ifnullN hX.1 hX.2.1 hd ht (kt h hz H locs ls hP hS hL)
  · rw [vr_ref (by omega)]
    exact lv_ifnull hX.1 hX.2.1 hd (kf h hz H locs ls hP hS hL)
theorem R_ifnonnull (hX : Ok X own cc nL ret fr lo mc ms) {x : Int} {off : Int} {tgt : Nat} (hd : decode cc pc = .ok (.ifnonnull off, 3)) (ht : (pc : Int) + off = (tgt : Int)) (kt : ¬ x < 0 → R X sh cs ss tgt L st F Z) (kf : x < 0 → R X sh cs ss (pc + 3) L st F Z) : R X sh cs ss pc L (vr (xV X) x :: st) F Z := fun hz H locs ls hP hS hL => by
  by_cases h : x < 0
  · rw [vr_null h]
    exact lv_ifnonnullN hX.1 hX.2.1 hd (kf h hz H locs ls hP hS hL)
  · rw [vr_ref (by omega)]
    exact lv_ifnonnull hX.1 hX.2.1 hd ht (kt h hz H locs ls hP hS hL)
theorem R_switchIn (hX : Ok X own cc nL ret fr lo mc ms) {x : Int} {dflt lo' hi : Int} {offs : Array Int} {len : Nat} {off : Int} {tgt : Nat} (hd : decode cc pc = .ok (.tableswitch dflt lo' hi offs, len)) (hx : I32 x) (h1 : lo' ≤ x) (h2 : x ≤ hi) (ho : offs[(x - lo').toNat]? = some off) (ht : (pc : Int) + off = (tgt : Int)) (k : R X sh cs ss tgt L st F Z) : R X sh cs ss pc L (vi x :: st) F Z := fun hz H locs ls hP hS hL => lv_tableIn hX.1 hX.2.1 hd (by rw [i32_to hx]; omega) (by rw [i32_to hx]; omega) (by rw [i32_to hx]; exact ho) ht (k hz H locs ls hP hS hL)
theorem R_switchOut (hX : Ok X own cc nL ret fr lo mc ms) {x : Int} {dflt lo' hi : Int} {offs : Array Int} {len : Nat} {tgt : Nat} (hd : decode cc pc = .ok (.tableswitch dflt lo' hi offs, len)) (hx : I32 x) (h : x < lo' ∨ hi < x) (ht : (pc : Int) + dflt = (tgt : Int)) (k : R X sh cs ss tgt L st F Z) : R X sh cs ss pc L (vi x :: st) F Z := fun hz H locs ls hP hS hL => lv_tableOut hX.1 hX.2.1 hd (by rw [i32_to hx]; exact h) ht (k hz H locs ls hP hS hL)
theorem R_lookup (hX : Ok X own cc nL ret fr lo mc ms) {x : Int} {dflt : Int} {ps : Array (Int × Int)} {len : Nat} {off : Int} {tgt : Nat} (hd : decode cc pc = .ok (.lookupswitch dflt ps, len)) (hx : I32 x) (hp : (ps.toList.zip (ps.toList.drop 1)).all (fun (a, next) => a.1 < next.1) = true) (ho : Op.lookupswitch.offset ps.toList dflt x = off) (ht : (pc : Int) + off = (tgt : Int)) (k : R X sh cs ss tgt L st F Z) : R X sh cs ss pc L (vi x :: st) F Z := fun hz H locs ls hP hS hL => lv_lookup hX.1 hX.2.1 hd hp (by rw [i32_to hx]; exact ho) ht (k hz H locs ls hP hS hL)
theorem R_iload_0 (hX : Ok X own cc nL ret fr lo mc ms) {T : List (Option Value)} {x : Int} (hd : decode cc pc = .ok (.iload_n 0, 1)) (k : R X sh cs ss (pc + 1) (some (vi x) :: T) (vi x :: st) F Z) : R X sh cs ss pc (some (vi x) :: T) st F Z := fun hz H locs ls hP hS hL => lv_iload_n hX.1 hX.2.1 hd rfl (hL.at (i := 0) rfl) (k hz H locs ls hP hS hL)
theorem R_lload_0 (hX : Ok X own cc nL ret fr lo mc ms) {T : List (Option Value)} {x : Int} (hd : decode cc pc = .ok (.lload_n 0, 1)) (k : R X sh cs ss (pc + 1) (some (vl x) :: T) (vl x :: st) F Z) : R X sh cs ss pc (some (vl x) :: T) st F Z := fun hz H locs ls hP hS hL => lv_lload_n hX.1 hX.2.1 hd rfl (hL.at (i := 0) rfl) (k hz H locs ls hP hS hL)
theorem R_aload_0 (hX : Ok X own cc nL ret fr lo mc ms) {T : List (Option Value)} {x : Int} (hd : decode cc pc = .ok (.aload_n 0, 1)) (k : R X sh cs ss (pc + 1) (some (vr (xV X) x) :: T) (vr (xV X) x :: st) F Z) : R X sh cs ss pc (some (vr (xV X) x) :: T) st F Z := fun hz H locs ls hP hS hL => by
  have k := k hz H locs ls hP hS hL
  have hl := hL.at (i := 0) rfl
  by_cases h : x < 0
  · rw [vr_null h] at k hl
    exact lv_aload_nN hX.1 hX.2.1 hd rfl hl k
  · rw [vr_ref (by omega)] at k hl
    exact lv_aload_n hX.1 hX.2.1 hd rfl hl k
theorem R_aload_0_raw (hX : Ok X own cc nL ret fr lo mc ms) {T : List (Option Value)} {x : Nat} (hd : decode cc pc = .ok (.aload_n 0, 1)) (k : R X sh cs ss (pc + 1) (some (.ref x) :: T) (.ref x :: st) F Z) : R X sh cs ss pc (some (.ref x) :: T) st F Z := fun hz H locs ls hP hS hL => lv_aload_n hX.1 hX.2.1 hd rfl (hL.at (i := 0) rfl) (k hz H locs ls hP hS hL)
theorem R_istore_0 (hX : Ok X own cc nL ret fr lo mc ms) {a : Option Value} {T : List (Option Value)} {x : Int} (hd : decode cc pc = .ok (.istore_n 0, 1)) (k : R X sh cs ss (pc + 1) (some (vi x) :: T) st F Z) : R X sh cs ss pc (a :: T) (vi x :: st) F Z := fun hz H locs ls hP hS hL => lv_istore_n hX.1 hX.2.1 hd rfl hL (by simp only [List.length_cons]; omega) rfl (fun ls' h => k hz H locs ls' hP hS (LSl.st1 h rfl (fun j u hj hu => by omega)))
theorem R_lstore_0 (hX : Ok X own cc nL ret fr lo mc ms) {a a' : Option Value} {T : List (Option Value)} {x : Int} (hd : decode cc pc = .ok (.lstore_n 0, 1)) (k : R X sh cs ss (pc + 1) (some (vl x) :: none :: T) st F Z) : R X sh cs ss pc (a :: a' :: T) (vl x :: st) F Z := fun hz H locs ls hP hS hL => lv_lstore_n hX.1 hX.2.1 hd rfl hL (by simp only [List.length_cons]; omega) rfl (fun ls' h => k hz H locs ls' hP hS (LSl.st2 h rfl (fun j u hj hu => by omega)))
theorem R_astore_0 (hX : Ok X own cc nL ret fr lo mc ms) {a : Option Value} {T : List (Option Value)} {x : Int} (hd : decode cc pc = .ok (.astore_n 0, 1)) (k : R X sh cs ss (pc + 1) (some (vr (xV X) x) :: T) st F Z) : R X sh cs ss pc (a :: T) (vr (xV X) x :: st) F Z := fun hz H locs ls hP hS hL => by
  by_cases h : x < 0
  · rw [vr_null h] at k ⊢
    exact lv_astore_nN hX.1 hX.2.1 hd rfl hL (by simp only [List.length_cons]; omega) rfl (fun ls' h => k hz H locs ls' hP hS (LSl.st1 h rfl (fun j u hj hu => by omega)))
  · rw [vr_ref (by omega)] at k ⊢
    exact lv_astore_n hX.1 hX.2.1 hd rfl hL (by simp only [List.length_cons]; omega) rfl (fun ls' h => k hz H locs ls' hP hS (LSl.st1 h rfl (fun j u hj hu => by omega)))
theorem R_iinc_0 (hX : Ok X own cc nL ret fr lo mc ms) {T : List (Option Value)} {x n : Int} (hd : decode cc pc = .ok (.iinc 0 n, 3)) (k : R X sh cs ss (pc + 3) (some (vi (x + n)) :: T) st F Z) : R X sh cs ss pc (some (vi x) :: T) st F Z := fun hz H locs ls hP hS hL => by
  have hl := asc_at (b := 0) (i := 0) (v := vi x) (L := (some (vi x) :: T)) rfl
  obtain ⟨q, hq⟩ := List.getElem?_of_mem hl
  refine lv_iinc (k := q) (v := Int32.ofInt (x + n)) hX.1 hX.2.1 hd hL (by rw [Nat.zero_add] at hq; exact hq) (by rw [Int32.ofInt_add]) (by simp only [List.length_cons]; omega) rfl (fun ls' h => k hz H locs ls' hP hS (LSl.st1 h rfl (fun j u hj hu => by omega)))
theorem R_iload_1 (hX : Ok X own cc nL ret fr lo mc ms) {a0 : Option Value} {T : List (Option Value)} {x : Int} (hd : decode cc pc = .ok (.iload_n 1, 1)) (k : R X sh cs ss (pc + 1) (a0 :: some (vi x) :: T) (vi x :: st) F Z) : R X sh cs ss pc (a0 :: some (vi x) :: T) st F Z := fun hz H locs ls hP hS hL => lv_iload_n hX.1 hX.2.1 hd rfl (hL.at (i := 1) rfl) (k hz H locs ls hP hS hL)
theorem R_lload_1 (hX : Ok X own cc nL ret fr lo mc ms) {a0 : Option Value} {T : List (Option Value)} {x : Int} (hd : decode cc pc = .ok (.lload_n 1, 1)) (k : R X sh cs ss (pc + 1) (a0 :: some (vl x) :: T) (vl x :: st) F Z) : R X sh cs ss pc (a0 :: some (vl x) :: T) st F Z := fun hz H locs ls hP hS hL => lv_lload_n hX.1 hX.2.1 hd rfl (hL.at (i := 1) rfl) (k hz H locs ls hP hS hL)
theorem R_aload_1 (hX : Ok X own cc nL ret fr lo mc ms) {a0 : Option Value} {T : List (Option Value)} {x : Int} (hd : decode cc pc = .ok (.aload_n 1, 1)) (k : R X sh cs ss (pc + 1) (a0 :: some (vr (xV X) x) :: T) (vr (xV X) x :: st) F Z) : R X sh cs ss pc (a0 :: some (vr (xV X) x) :: T) st F Z := fun hz H locs ls hP hS hL => by
  have k := k hz H locs ls hP hS hL
  have hl := hL.at (i := 1) rfl
  by_cases h : x < 0
  · rw [vr_null h] at k hl
    exact lv_aload_nN hX.1 hX.2.1 hd rfl hl k
  · rw [vr_ref (by omega)] at k hl
    exact lv_aload_n hX.1 hX.2.1 hd rfl hl k
theorem R_aload_1_raw (hX : Ok X own cc nL ret fr lo mc ms) {a0 : Option Value} {T : List (Option Value)} {x : Nat} (hd : decode cc pc = .ok (.aload_n 1, 1)) (k : R X sh cs ss (pc + 1) (a0 :: some (.ref x) :: T) (.ref x :: st) F Z) : R X sh cs ss pc (a0 :: some (.ref x) :: T) st F Z := fun hz H locs ls hP hS hL => lv_aload_n hX.1 hX.2.1 hd rfl (hL.at (i := 1) rfl) (k hz H locs ls hP hS hL)
theorem R_istore_1 (hX : Ok X own cc nL ret fr lo mc ms) {a0 : Option Value} {a : Option Value} {T : List (Option Value)} {x : Int} (hc : c1 a0) (hd : decode cc pc = .ok (.istore_n 1, 1)) (k : R X sh cs ss (pc + 1) (a0 :: some (vi x) :: T) st F Z) : R X sh cs ss pc (a0 :: a :: T) (vi x :: st) F Z := fun hz H locs ls hP hS hL => lv_istore_n hX.1 hX.2.1 hd rfl hL (by simp only [List.length_cons]; omega) rfl (fun ls' h => k hz H locs ls' hP hS (LSl.st1 h rfl (fun j u hj hu => by cases (show j = 0 by omega); cases hu; exact hc)))
theorem R_lstore_1 (hX : Ok X own cc nL ret fr lo mc ms) {a0 : Option Value} {a a' : Option Value} {T : List (Option Value)} {x : Int} (hc : c1 a0) (hd : decode cc pc = .ok (.lstore_n 1, 1)) (k : R X sh cs ss (pc + 1) (a0 :: some (vl x) :: none :: T) st F Z) : R X sh cs ss pc (a0 :: a :: a' :: T) (vl x :: st) F Z := fun hz H locs ls hP hS hL => lv_lstore_n hX.1 hX.2.1 hd rfl hL (by simp only [List.length_cons]; omega) rfl (fun ls' h => k hz H locs ls' hP hS (LSl.st2 h rfl (fun j u hj hu => by cases (show j = 0 by omega); cases hu; exact hc)))
theorem R_astore_1 (hX : Ok X own cc nL ret fr lo mc ms) {a0 : Option Value} {a : Option Value} {T : List (Option Value)} {x : Int} (hc : c1 a0) (hd : decode cc pc = .ok (.astore_n 1, 1)) (k : R X sh cs ss (pc + 1) (a0 :: some (vr (xV X) x) :: T) st F Z) : R X sh cs ss pc (a0 :: a :: T) (vr (xV X) x :: st) F Z := fun hz H locs ls hP hS hL => by
  by_cases h : x < 0
  · rw [vr_null h] at k ⊢
    exact lv_astore_nN hX.1 hX.2.1 hd rfl hL (by simp only [List.length_cons]; omega) rfl (fun ls' h => k hz H locs ls' hP hS (LSl.st1 h rfl (fun j u hj hu => by cases (show j = 0 by omega); cases hu; exact hc)))
  · rw [vr_ref (by omega)] at k ⊢
    exact lv_astore_n hX.1 hX.2.1 hd rfl hL (by simp only [List.length_cons]; omega) rfl (fun ls' h => k hz H locs ls' hP hS (LSl.st1 h rfl (fun j u hj hu => by cases (show j = 0 by omega); cases hu; exact hc)))
theorem R_iinc_1 (hX : Ok X own cc nL ret fr lo mc ms) {a0 : Option Value} {T : List (Option Value)} {x n : Int} (hc : c1 a0) (hd : decode cc pc = .ok (.iinc 1 n, 3)) (k : R X sh cs ss (pc + 3) (a0 :: some (vi (x + n)) :: T) st F Z) : R X sh cs ss pc (a0 :: some (vi x) :: T) st F Z := fun hz H locs ls hP hS hL => by
  have hl := asc_at (b := 0) (i := 1) (v := vi x) (L := (a0 :: some (vi x) :: T)) rfl
  obtain ⟨q, hq⟩ := List.getElem?_of_mem hl
  refine lv_iinc (k := q) (v := Int32.ofInt (x + n)) hX.1 hX.2.1 hd hL (by rw [Nat.zero_add] at hq; exact hq) (by rw [Int32.ofInt_add]) (by simp only [List.length_cons]; omega) rfl (fun ls' h => k hz H locs ls' hP hS (LSl.st1 h rfl (fun j u hj hu => by cases (show j = 0 by omega); cases hu; exact hc)))
theorem R_iload_2 (hX : Ok X own cc nL ret fr lo mc ms) {a0 a1 : Option Value} {T : List (Option Value)} {x : Int} (hd : decode cc pc = .ok (.iload_n 2, 1)) (k : R X sh cs ss (pc + 1) (a0 :: a1 :: some (vi x) :: T) (vi x :: st) F Z) : R X sh cs ss pc (a0 :: a1 :: some (vi x) :: T) st F Z := fun hz H locs ls hP hS hL => lv_iload_n hX.1 hX.2.1 hd rfl (hL.at (i := 2) rfl) (k hz H locs ls hP hS hL)
theorem R_lload_2 (hX : Ok X own cc nL ret fr lo mc ms) {a0 a1 : Option Value} {T : List (Option Value)} {x : Int} (hd : decode cc pc = .ok (.lload_n 2, 1)) (k : R X sh cs ss (pc + 1) (a0 :: a1 :: some (vl x) :: T) (vl x :: st) F Z) : R X sh cs ss pc (a0 :: a1 :: some (vl x) :: T) st F Z := fun hz H locs ls hP hS hL => lv_lload_n hX.1 hX.2.1 hd rfl (hL.at (i := 2) rfl) (k hz H locs ls hP hS hL)
theorem R_aload_2 (hX : Ok X own cc nL ret fr lo mc ms) {a0 a1 : Option Value} {T : List (Option Value)} {x : Int} (hd : decode cc pc = .ok (.aload_n 2, 1)) (k : R X sh cs ss (pc + 1) (a0 :: a1 :: some (vr (xV X) x) :: T) (vr (xV X) x :: st) F Z) : R X sh cs ss pc (a0 :: a1 :: some (vr (xV X) x) :: T) st F Z := fun hz H locs ls hP hS hL => by
  have k := k hz H locs ls hP hS hL
  have hl := hL.at (i := 2) rfl
  by_cases h : x < 0
  · rw [vr_null h] at k hl
    exact lv_aload_nN hX.1 hX.2.1 hd rfl hl k
  · rw [vr_ref (by omega)] at k hl
    exact lv_aload_n hX.1 hX.2.1 hd rfl hl k
theorem R_aload_2_raw (hX : Ok X own cc nL ret fr lo mc ms) {a0 a1 : Option Value} {T : List (Option Value)} {x : Nat} (hd : decode cc pc = .ok (.aload_n 2, 1)) (k : R X sh cs ss (pc + 1) (a0 :: a1 :: some (.ref x) :: T) (.ref x :: st) F Z) : R X sh cs ss pc (a0 :: a1 :: some (.ref x) :: T) st F Z := fun hz H locs ls hP hS hL => lv_aload_n hX.1 hX.2.1 hd rfl (hL.at (i := 2) rfl) (k hz H locs ls hP hS hL)
theorem R_istore_2 (hX : Ok X own cc nL ret fr lo mc ms) {a0 a1 : Option Value} {a : Option Value} {T : List (Option Value)} {x : Int} (hc : c1 a1) (hd : decode cc pc = .ok (.istore_n 2, 1)) (k : R X sh cs ss (pc + 1) (a0 :: a1 :: some (vi x) :: T) st F Z) : R X sh cs ss pc (a0 :: a1 :: a :: T) (vi x :: st) F Z := fun hz H locs ls hP hS hL => lv_istore_n hX.1 hX.2.1 hd rfl hL (by simp only [List.length_cons]; omega) rfl (fun ls' h => k hz H locs ls' hP hS (LSl.st1 h rfl (fun j u hj hu => by cases (show j = 1 by omega); cases hu; exact hc)))
theorem R_lstore_2 (hX : Ok X own cc nL ret fr lo mc ms) {a0 a1 : Option Value} {a a' : Option Value} {T : List (Option Value)} {x : Int} (hc : c1 a1) (hd : decode cc pc = .ok (.lstore_n 2, 1)) (k : R X sh cs ss (pc + 1) (a0 :: a1 :: some (vl x) :: none :: T) st F Z) : R X sh cs ss pc (a0 :: a1 :: a :: a' :: T) (vl x :: st) F Z := fun hz H locs ls hP hS hL => lv_lstore_n hX.1 hX.2.1 hd rfl hL (by simp only [List.length_cons]; omega) rfl (fun ls' h => k hz H locs ls' hP hS (LSl.st2 h rfl (fun j u hj hu => by cases (show j = 1 by omega); cases hu; exact hc)))
theorem R_astore_2 (hX : Ok X own cc nL ret fr lo mc ms) {a0 a1 : Option Value} {a : Option Value} {T : List (Option Value)} {x : Int} (hc : c1 a1) (hd : decode cc pc = .ok (.astore_n 2, 1)) (k : R X sh cs ss (pc + 1) (a0 :: a1 :: some (vr (xV X) x) :: T) st F Z) : R X sh cs ss pc (a0 :: a1 :: a :: T) (vr (xV X) x :: st) F Z := fun hz H locs ls hP hS hL => by
  by_cases h : x < 0
  · rw [vr_null h] at k ⊢
    exact lv_astore_nN hX.1 hX.2.1 hd rfl hL (by simp only [List.length_cons]; omega) rfl (fun ls' h => k hz H locs ls' hP hS (LSl.st1 h rfl (fun j u hj hu => by cases (show j = 1 by omega); cases hu; exact hc)))
  · rw [vr_ref (by omega)] at k ⊢
    exact lv_astore_n hX.1 hX.2.1 hd rfl hL (by simp only [List.length_cons]; omega) rfl (fun ls' h => k hz H locs ls' hP hS (LSl.st1 h rfl (fun j u hj hu => by cases (show j = 1 by omega); cases hu; exact hc)))
theorem R_iinc_2 (hX : Ok X own cc nL ret fr lo mc ms) {a0 a1 : Option Value} {T : List (Option Value)} {x n : Int} (hc : c1 a1) (hd : decode cc pc = .ok (.iinc 2 n, 3)) (k : R X sh cs ss (pc + 3) (a0 :: a1 :: some (vi (x + n)) :: T) st F Z) : R X sh cs ss pc (a0 :: a1 :: some (vi x) :: T) st F Z := fun hz H locs ls hP hS hL => by
  have hl := asc_at (b := 0) (i := 2) (v := vi x) (L := (a0 :: a1 :: some (vi x) :: T)) rfl
  obtain ⟨q, hq⟩ := List.getElem?_of_mem hl
  refine lv_iinc (k := q) (v := Int32.ofInt (x + n)) hX.1 hX.2.1 hd hL (by rw [Nat.zero_add] at hq; exact hq) (by rw [Int32.ofInt_add]) (by simp only [List.length_cons]; omega) rfl (fun ls' h => k hz H locs ls' hP hS (LSl.st1 h rfl (fun j u hj hu => by cases (show j = 1 by omega); cases hu; exact hc)))
theorem R_iload_3 (hX : Ok X own cc nL ret fr lo mc ms) {a0 a1 a2 : Option Value} {T : List (Option Value)} {x : Int} (hd : decode cc pc = .ok (.iload_n 3, 1)) (k : R X sh cs ss (pc + 1) (a0 :: a1 :: a2 :: some (vi x) :: T) (vi x :: st) F Z) : R X sh cs ss pc (a0 :: a1 :: a2 :: some (vi x) :: T) st F Z := fun hz H locs ls hP hS hL => lv_iload_n hX.1 hX.2.1 hd rfl (hL.at (i := 3) rfl) (k hz H locs ls hP hS hL)
theorem R_lload_3 (hX : Ok X own cc nL ret fr lo mc ms) {a0 a1 a2 : Option Value} {T : List (Option Value)} {x : Int} (hd : decode cc pc = .ok (.lload_n 3, 1)) (k : R X sh cs ss (pc + 1) (a0 :: a1 :: a2 :: some (vl x) :: T) (vl x :: st) F Z) : R X sh cs ss pc (a0 :: a1 :: a2 :: some (vl x) :: T) st F Z := fun hz H locs ls hP hS hL => lv_lload_n hX.1 hX.2.1 hd rfl (hL.at (i := 3) rfl) (k hz H locs ls hP hS hL)
theorem R_aload_3 (hX : Ok X own cc nL ret fr lo mc ms) {a0 a1 a2 : Option Value} {T : List (Option Value)} {x : Int} (hd : decode cc pc = .ok (.aload_n 3, 1)) (k : R X sh cs ss (pc + 1) (a0 :: a1 :: a2 :: some (vr (xV X) x) :: T) (vr (xV X) x :: st) F Z) : R X sh cs ss pc (a0 :: a1 :: a2 :: some (vr (xV X) x) :: T) st F Z := fun hz H locs ls hP hS hL => by
  have k := k hz H locs ls hP hS hL
  have hl := hL.at (i := 3) rfl
  by_cases h : x < 0
  · rw [vr_null h] at k hl
    exact lv_aload_nN hX.1 hX.2.1 hd rfl hl k
  · rw [vr_ref (by omega)] at k hl
    exact lv_aload_n hX.1 hX.2.1 hd rfl hl k
theorem R_aload_3_raw (hX : Ok X own cc nL ret fr lo mc ms) {a0 a1 a2 : Option Value} {T : List (Option Value)} {x : Nat} (hd : decode cc pc = .ok (.aload_n 3, 1)) (k : R X sh cs ss (pc + 1) (a0 :: a1 :: a2 :: some (.ref x) :: T) (.ref x :: st) F Z) : R X sh cs ss pc (a0 :: a1 :: a2 :: some (.ref x) :: T) st F Z := fun hz H locs ls hP hS hL => lv_aload_n hX.1 hX.2.1 hd rfl (hL.at (i := 3) rfl) (k hz H locs ls hP hS hL)
theorem R_istore_3 (hX : Ok X own cc nL ret fr lo mc ms) {a0 a1 a2 : Option Value} {a : Option Value} {T : List (Option Value)} {x : Int} (hc : c1 a2) (hd : decode cc pc = .ok (.istore_n 3, 1)) (k : R X sh cs ss (pc + 1) (a0 :: a1 :: a2 :: some (vi x) :: T) st F Z) : R X sh cs ss pc (a0 :: a1 :: a2 :: a :: T) (vi x :: st) F Z := fun hz H locs ls hP hS hL => lv_istore_n hX.1 hX.2.1 hd rfl hL (by simp only [List.length_cons]; omega) rfl (fun ls' h => k hz H locs ls' hP hS (LSl.st1 h rfl (fun j u hj hu => by cases (show j = 2 by omega); cases hu; exact hc)))
theorem R_lstore_3 (hX : Ok X own cc nL ret fr lo mc ms) {a0 a1 a2 : Option Value} {a a' : Option Value} {T : List (Option Value)} {x : Int} (hc : c1 a2) (hd : decode cc pc = .ok (.lstore_n 3, 1)) (k : R X sh cs ss (pc + 1) (a0 :: a1 :: a2 :: some (vl x) :: none :: T) st F Z) : R X sh cs ss pc (a0 :: a1 :: a2 :: a :: a' :: T) (vl x :: st) F Z := fun hz H locs ls hP hS hL => lv_lstore_n hX.1 hX.2.1 hd rfl hL (by simp only [List.length_cons]; omega) rfl (fun ls' h => k hz H locs ls' hP hS (LSl.st2 h rfl (fun j u hj hu => by cases (show j = 2 by omega); cases hu; exact hc)))
theorem R_astore_3 (hX : Ok X own cc nL ret fr lo mc ms) {a0 a1 a2 : Option Value} {a : Option Value} {T : List (Option Value)} {x : Int} (hc : c1 a2) (hd : decode cc pc = .ok (.astore_n 3, 1)) (k : R X sh cs ss (pc + 1) (a0 :: a1 :: a2 :: some (vr (xV X) x) :: T) st F Z) : R X sh cs ss pc (a0 :: a1 :: a2 :: a :: T) (vr (xV X) x :: st) F Z := fun hz H locs ls hP hS hL => by
  by_cases h : x < 0
  · rw [vr_null h] at k ⊢
    exact lv_astore_nN hX.1 hX.2.1 hd rfl hL (by simp only [List.length_cons]; omega) rfl (fun ls' h => k hz H locs ls' hP hS (LSl.st1 h rfl (fun j u hj hu => by cases (show j = 2 by omega); cases hu; exact hc)))
  · rw [vr_ref (by omega)] at k ⊢
    exact lv_astore_n hX.1 hX.2.1 hd rfl hL (by simp only [List.length_cons]; omega) rfl (fun ls' h => k hz H locs ls' hP hS (LSl.st1 h rfl (fun j u hj hu => by cases (show j = 2 by omega); cases hu; exact hc)))
theorem R_iinc_3 (hX : Ok X own cc nL ret fr lo mc ms) {a0 a1 a2 : Option Value} {T : List (Option Value)} {x n : Int} (hc : c1 a2) (hd : decode cc pc = .ok (.iinc 3 n, 3)) (k : R X sh cs ss (pc + 3) (a0 :: a1 :: a2 :: some (vi (x + n)) :: T) st F Z) : R X sh cs ss pc (a0 :: a1 :: a2 :: some (vi x) :: T) st F Z := fun hz H locs ls hP hS hL => by
  have hl := asc_at (b := 0) (i := 3) (v := vi x) (L := (a0 :: a1 :: a2 :: some (vi x) :: T)) rfl
  obtain ⟨q, hq⟩ := List.getElem?_of_mem hl
  refine lv_iinc (k := q) (v := Int32.ofInt (x + n)) hX.1 hX.2.1 hd hL (by rw [Nat.zero_add] at hq; exact hq) (by rw [Int32.ofInt_add]) (by simp only [List.length_cons]; omega) rfl (fun ls' h => k hz H locs ls' hP hS (LSl.st1 h rfl (fun j u hj hu => by cases (show j = 2 by omega); cases hu; exact hc)))
theorem R_iload_4 (hX : Ok X own cc nL ret fr lo mc ms) {a0 a1 a2 a3 : Option Value} {T : List (Option Value)} {x : Int} (hd : decode cc pc = .ok (.iload 4, 2)) (k : R X sh cs ss (pc + 2) (a0 :: a1 :: a2 :: a3 :: some (vi x) :: T) (vi x :: st) F Z) : R X sh cs ss pc (a0 :: a1 :: a2 :: a3 :: some (vi x) :: T) st F Z := fun hz H locs ls hP hS hL => lv_iload hX.1 hX.2.1 hd (hL.at (i := 4) rfl) (k hz H locs ls hP hS hL)
theorem R_lload_4 (hX : Ok X own cc nL ret fr lo mc ms) {a0 a1 a2 a3 : Option Value} {T : List (Option Value)} {x : Int} (hd : decode cc pc = .ok (.lload 4, 2)) (k : R X sh cs ss (pc + 2) (a0 :: a1 :: a2 :: a3 :: some (vl x) :: T) (vl x :: st) F Z) : R X sh cs ss pc (a0 :: a1 :: a2 :: a3 :: some (vl x) :: T) st F Z := fun hz H locs ls hP hS hL => lv_lload hX.1 hX.2.1 hd (hL.at (i := 4) rfl) (k hz H locs ls hP hS hL)
theorem R_aload_4 (hX : Ok X own cc nL ret fr lo mc ms) {a0 a1 a2 a3 : Option Value} {T : List (Option Value)} {x : Int} (hd : decode cc pc = .ok (.aload 4, 2)) (k : R X sh cs ss (pc + 2) (a0 :: a1 :: a2 :: a3 :: some (vr (xV X) x) :: T) (vr (xV X) x :: st) F Z) : R X sh cs ss pc (a0 :: a1 :: a2 :: a3 :: some (vr (xV X) x) :: T) st F Z := fun hz H locs ls hP hS hL => by
  have k := k hz H locs ls hP hS hL
  have hl := hL.at (i := 4) rfl
  by_cases h : x < 0
  · rw [vr_null h] at k hl
    exact lv_aloadN hX.1 hX.2.1 hd hl k
  · rw [vr_ref (by omega)] at k hl
    exact lv_aload hX.1 hX.2.1 hd hl k
theorem R_aload_4_raw (hX : Ok X own cc nL ret fr lo mc ms) {a0 a1 a2 a3 : Option Value} {T : List (Option Value)} {x : Nat} (hd : decode cc pc = .ok (.aload 4, 2)) (k : R X sh cs ss (pc + 2) (a0 :: a1 :: a2 :: a3 :: some (.ref x) :: T) (.ref x :: st) F Z) : R X sh cs ss pc (a0 :: a1 :: a2 :: a3 :: some (.ref x) :: T) st F Z := fun hz H locs ls hP hS hL => lv_aload hX.1 hX.2.1 hd (hL.at (i := 4) rfl) (k hz H locs ls hP hS hL)
theorem R_istore_4 (hX : Ok X own cc nL ret fr lo mc ms) {a0 a1 a2 a3 : Option Value} {a : Option Value} {T : List (Option Value)} {x : Int} (hc : c1 a3) (hd : decode cc pc = .ok (.istore 4, 2)) (k : R X sh cs ss (pc + 2) (a0 :: a1 :: a2 :: a3 :: some (vi x) :: T) st F Z) : R X sh cs ss pc (a0 :: a1 :: a2 :: a3 :: a :: T) (vi x :: st) F Z := fun hz H locs ls hP hS hL => lv_istore hX.1 hX.2.1 hd hL (by simp only [List.length_cons]; omega) rfl (fun ls' h => k hz H locs ls' hP hS (LSl.st1 h rfl (fun j u hj hu => by cases (show j = 3 by omega); cases hu; exact hc)))
theorem R_lstore_4 (hX : Ok X own cc nL ret fr lo mc ms) {a0 a1 a2 a3 : Option Value} {a a' : Option Value} {T : List (Option Value)} {x : Int} (hc : c1 a3) (hd : decode cc pc = .ok (.lstore 4, 2)) (k : R X sh cs ss (pc + 2) (a0 :: a1 :: a2 :: a3 :: some (vl x) :: none :: T) st F Z) : R X sh cs ss pc (a0 :: a1 :: a2 :: a3 :: a :: a' :: T) (vl x :: st) F Z := fun hz H locs ls hP hS hL => lv_lstore hX.1 hX.2.1 hd hL (by simp only [List.length_cons]; omega) rfl (fun ls' h => k hz H locs ls' hP hS (LSl.st2 h rfl (fun j u hj hu => by cases (show j = 3 by omega); cases hu; exact hc)))
theorem R_astore_4 (hX : Ok X own cc nL ret fr lo mc ms) {a0 a1 a2 a3 : Option Value} {a : Option Value} {T : List (Option Value)} {x : Int} (hc : c1 a3) (hd : decode cc pc = .ok (.astore 4, 2)) (k : R X sh cs ss (pc + 2) (a0 :: a1 :: a2 :: a3 :: some (vr (xV X) x) :: T) st F Z) : R X sh cs ss pc (a0 :: a1 :: a2 :: a3 :: a :: T) (vr (xV X) x :: st) F Z := fun hz H locs ls hP hS hL => by
  by_cases h : x < 0
  · rw [vr_null h] at k ⊢
    exact lv_astoreN hX.1 hX.2.1 hd hL (by simp only [List.length_cons]; omega) rfl (fun ls' h => k hz H locs ls' hP hS (LSl.st1 h rfl (fun j u hj hu => by cases (show j = 3 by omega); cases hu; exact hc)))
  · rw [vr_ref (by omega)] at k ⊢
    exact lv_astore hX.1 hX.2.1 hd hL (by simp only [List.length_cons]; omega) rfl (fun ls' h => k hz H locs ls' hP hS (LSl.st1 h rfl (fun j u hj hu => by cases (show j = 3 by omega); cases hu; exact hc)))
theorem R_iinc_4 (hX : Ok X own cc nL ret fr lo mc ms) {a0 a1 a2 a3 : Option Value} {T : List (Option Value)} {x n : Int} (hc : c1 a3) (hd : decode cc pc = .ok (.iinc 4 n, 3)) (k : R X sh cs ss (pc + 3) (a0 :: a1 :: a2 :: a3 :: some (vi (x + n)) :: T) st F Z) : R X sh cs ss pc (a0 :: a1 :: a2 :: a3 :: some (vi x) :: T) st F Z := fun hz H locs ls hP hS hL => by
  have hl := asc_at (b := 0) (i := 4) (v := vi x) (L := (a0 :: a1 :: a2 :: a3 :: some (vi x) :: T)) rfl
  obtain ⟨q, hq⟩ := List.getElem?_of_mem hl
  refine lv_iinc (k := q) (v := Int32.ofInt (x + n)) hX.1 hX.2.1 hd hL (by rw [Nat.zero_add] at hq; exact hq) (by rw [Int32.ofInt_add]) (by simp only [List.length_cons]; omega) rfl (fun ls' h => k hz H locs ls' hP hS (LSl.st1 h rfl (fun j u hj hu => by cases (show j = 3 by omega); cases hu; exact hc)))
theorem R_iload_5 (hX : Ok X own cc nL ret fr lo mc ms) {a0 a1 a2 a3 a4 : Option Value} {T : List (Option Value)} {x : Int} (hd : decode cc pc = .ok (.iload 5, 2)) (k : R X sh cs ss (pc + 2) (a0 :: a1 :: a2 :: a3 :: a4 :: some (vi x) :: T) (vi x :: st) F Z) : R X sh cs ss pc (a0 :: a1 :: a2 :: a3 :: a4 :: some (vi x) :: T) st F Z := fun hz H locs ls hP hS hL => lv_iload hX.1 hX.2.1 hd (hL.at (i := 5) rfl) (k hz H locs ls hP hS hL)
theorem R_lload_5 (hX : Ok X own cc nL ret fr lo mc ms) {a0 a1 a2 a3 a4 : Option Value} {T : List (Option Value)} {x : Int} (hd : decode cc pc = .ok (.lload 5, 2)) (k : R X sh cs ss (pc + 2) (a0 :: a1 :: a2 :: a3 :: a4 :: some (vl x) :: T) (vl x :: st) F Z) : R X sh cs ss pc (a0 :: a1 :: a2 :: a3 :: a4 :: some (vl x) :: T) st F Z := fun hz H locs ls hP hS hL => lv_lload hX.1 hX.2.1 hd (hL.at (i := 5) rfl) (k hz H locs ls hP hS hL)
theorem R_aload_5 (hX : Ok X own cc nL ret fr lo mc ms) {a0 a1 a2 a3 a4 : Option Value} {T : List (Option Value)} {x : Int} (hd : decode cc pc = .ok (.aload 5, 2)) (k : R X sh cs ss (pc + 2) (a0 :: a1 :: a2 :: a3 :: a4 :: some (vr (xV X) x) :: T) (vr (xV X) x :: st) F Z) : R X sh cs ss pc (a0 :: a1 :: a2 :: a3 :: a4 :: some (vr (xV X) x) :: T) st F Z := fun hz H locs ls hP hS hL => by
  have k := k hz H locs ls hP hS hL
  have hl := hL.at (i := 5) rfl
  by_cases h : x < 0
  · rw [vr_null h] at k hl
    exact lv_aloadN hX.1 hX.2.1 hd hl k
  · rw [vr_ref (by omega)] at k hl
    exact lv_aload hX.1 hX.2.1 hd hl k
theorem R_aload_5_raw (hX : Ok X own cc nL ret fr lo mc ms) {a0 a1 a2 a3 a4 : Option Value} {T : List (Option Value)} {x : Nat} (hd : decode cc pc = .ok (.aload 5, 2)) (k : R X sh cs ss (pc + 2) (a0 :: a1 :: a2 :: a3 :: a4 :: some (.ref x) :: T) (.ref x :: st) F Z) : R X sh cs ss pc (a0 :: a1 :: a2 :: a3 :: a4 :: some (.ref x) :: T) st F Z := fun hz H locs ls hP hS hL => lv_aload hX.1 hX.2.1 hd (hL.at (i := 5) rfl) (k hz H locs ls hP hS hL)
theorem R_istore_5 (hX : Ok X own cc nL ret fr lo mc ms) {a0 a1 a2 a3 a4 : Option Value} {a : Option Value} {T : List (Option Value)} {x : Int} (hc : c1 a4) (hd : decode cc pc = .ok (.istore 5, 2)) (k : R X sh cs ss (pc + 2) (a0 :: a1 :: a2 :: a3 :: a4 :: some (vi x) :: T) st F Z) : R X sh cs ss pc (a0 :: a1 :: a2 :: a3 :: a4 :: a :: T) (vi x :: st) F Z := fun hz H locs ls hP hS hL => lv_istore hX.1 hX.2.1 hd hL (by simp only [List.length_cons]; omega) rfl (fun ls' h => k hz H locs ls' hP hS (LSl.st1 h rfl (fun j u hj hu => by cases (show j = 4 by omega); cases hu; exact hc)))
theorem R_lstore_5 (hX : Ok X own cc nL ret fr lo mc ms) {a0 a1 a2 a3 a4 : Option Value} {a a' : Option Value} {T : List (Option Value)} {x : Int} (hc : c1 a4) (hd : decode cc pc = .ok (.lstore 5, 2)) (k : R X sh cs ss (pc + 2) (a0 :: a1 :: a2 :: a3 :: a4 :: some (vl x) :: none :: T) st F Z) : R X sh cs ss pc (a0 :: a1 :: a2 :: a3 :: a4 :: a :: a' :: T) (vl x :: st) F Z := fun hz H locs ls hP hS hL => lv_lstore hX.1 hX.2.1 hd hL (by simp only [List.length_cons]; omega) rfl (fun ls' h => k hz H locs ls' hP hS (LSl.st2 h rfl (fun j u hj hu => by cases (show j = 4 by omega); cases hu; exact hc)))
theorem R_astore_5 (hX : Ok X own cc nL ret fr lo mc ms) {a0 a1 a2 a3 a4 : Option Value} {a : Option Value} {T : List (Option Value)} {x : Int} (hc : c1 a4) (hd : decode cc pc = .ok (.astore 5, 2)) (k : R X sh cs ss (pc + 2) (a0 :: a1 :: a2 :: a3 :: a4 :: some (vr (xV X) x) :: T) st F Z) : R X sh cs ss pc (a0 :: a1 :: a2 :: a3 :: a4 :: a :: T) (vr (xV X) x :: st) F Z := fun hz H locs ls hP hS hL => by
  by_cases h : x < 0
  · rw [vr_null h] at k ⊢
    exact lv_astoreN hX.1 hX.2.1 hd hL (by simp only [List.length_cons]; omega) rfl (fun ls' h => k hz H locs ls' hP hS (LSl.st1 h rfl (fun j u hj hu => by cases (show j = 4 by omega); cases hu; exact hc)))
  · rw [vr_ref (by omega)] at k ⊢
    exact lv_astore hX.1 hX.2.1 hd hL (by simp only [List.length_cons]; omega) rfl (fun ls' h => k hz H locs ls' hP hS (LSl.st1 h rfl (fun j u hj hu => by cases (show j = 4 by omega); cases hu; exact hc)))
theorem R_iinc_5 (hX : Ok X own cc nL ret fr lo mc ms) {a0 a1 a2 a3 a4 : Option Value} {T : List (Option Value)} {x n : Int} (hc : c1 a4) (hd : decode cc pc = .ok (.iinc 5 n, 3)) (k : R X sh cs ss (pc + 3) (a0 :: a1 :: a2 :: a3 :: a4 :: some (vi (x + n)) :: T) st F Z) : R X sh cs ss pc (a0 :: a1 :: a2 :: a3 :: a4 :: some (vi x) :: T) st F Z := fun hz H locs ls hP hS hL => by
  have hl := asc_at (b := 0) (i := 5) (v := vi x) (L := (a0 :: a1 :: a2 :: a3 :: a4 :: some (vi x) :: T)) rfl
  obtain ⟨q, hq⟩ := List.getElem?_of_mem hl
  refine lv_iinc (k := q) (v := Int32.ofInt (x + n)) hX.1 hX.2.1 hd hL (by rw [Nat.zero_add] at hq; exact hq) (by rw [Int32.ofInt_add]) (by simp only [List.length_cons]; omega) rfl (fun ls' h => k hz H locs ls' hP hS (LSl.st1 h rfl (fun j u hj hu => by cases (show j = 4 by omega); cases hu; exact hc)))
theorem R_iload_6 (hX : Ok X own cc nL ret fr lo mc ms) {a0 a1 a2 a3 a4 a5 : Option Value} {T : List (Option Value)} {x : Int} (hd : decode cc pc = .ok (.iload 6, 2)) (k : R X sh cs ss (pc + 2) (a0 :: a1 :: a2 :: a3 :: a4 :: a5 :: some (vi x) :: T) (vi x :: st) F Z) : R X sh cs ss pc (a0 :: a1 :: a2 :: a3 :: a4 :: a5 :: some (vi x) :: T) st F Z := fun hz H locs ls hP hS hL => lv_iload hX.1 hX.2.1 hd (hL.at (i := 6) rfl) (k hz H locs ls hP hS hL)
theorem R_lload_6 (hX : Ok X own cc nL ret fr lo mc ms) {a0 a1 a2 a3 a4 a5 : Option Value} {T : List (Option Value)} {x : Int} (hd : decode cc pc = .ok (.lload 6, 2)) (k : R X sh cs ss (pc + 2) (a0 :: a1 :: a2 :: a3 :: a4 :: a5 :: some (vl x) :: T) (vl x :: st) F Z) : R X sh cs ss pc (a0 :: a1 :: a2 :: a3 :: a4 :: a5 :: some (vl x) :: T) st F Z := fun hz H locs ls hP hS hL => lv_lload hX.1 hX.2.1 hd (hL.at (i := 6) rfl) (k hz H locs ls hP hS hL)
theorem R_aload_6 (hX : Ok X own cc nL ret fr lo mc ms) {a0 a1 a2 a3 a4 a5 : Option Value} {T : List (Option Value)} {x : Int} (hd : decode cc pc = .ok (.aload 6, 2)) (k : R X sh cs ss (pc + 2) (a0 :: a1 :: a2 :: a3 :: a4 :: a5 :: some (vr (xV X) x) :: T) (vr (xV X) x :: st) F Z) : R X sh cs ss pc (a0 :: a1 :: a2 :: a3 :: a4 :: a5 :: some (vr (xV X) x) :: T) st F Z := fun hz H locs ls hP hS hL => by
  have k := k hz H locs ls hP hS hL
  have hl := hL.at (i := 6) rfl
  by_cases h : x < 0
  · rw [vr_null h] at k hl
    exact lv_aloadN hX.1 hX.2.1 hd hl k
  · rw [vr_ref (by omega)] at k hl
    exact lv_aload hX.1 hX.2.1 hd hl k
theorem R_aload_6_raw (hX : Ok X own cc nL ret fr lo mc ms) {a0 a1 a2 a3 a4 a5 : Option Value} {T : List (Option Value)} {x : Nat} (hd : decode cc pc = .ok (.aload 6, 2)) (k : R X sh cs ss (pc + 2) (a0 :: a1 :: a2 :: a3 :: a4 :: a5 :: some (.ref x) :: T) (.ref x :: st) F Z) : R X sh cs ss pc (a0 :: a1 :: a2 :: a3 :: a4 :: a5 :: some (.ref x) :: T) st F Z := fun hz H locs ls hP hS hL => lv_aload hX.1 hX.2.1 hd (hL.at (i := 6) rfl) (k hz H locs ls hP hS hL)
theorem R_istore_6 (hX : Ok X own cc nL ret fr lo mc ms) {a0 a1 a2 a3 a4 a5 : Option Value} {a : Option Value} {T : List (Option Value)} {x : Int} (hc : c1 a5) (hd : decode cc pc = .ok (.istore 6, 2)) (k : R X sh cs ss (pc + 2) (a0 :: a1 :: a2 :: a3 :: a4 :: a5 :: some (vi x) :: T) st F Z) : R X sh cs ss pc (a0 :: a1 :: a2 :: a3 :: a4 :: a5 :: a :: T) (vi x :: st) F Z := fun hz H locs ls hP hS hL => lv_istore hX.1 hX.2.1 hd hL (by simp only [List.length_cons]; omega) rfl (fun ls' h => k hz H locs ls' hP hS (LSl.st1 h rfl (fun j u hj hu => by cases (show j = 5 by omega); cases hu; exact hc)))
theorem R_lstore_6 (hX : Ok X own cc nL ret fr lo mc ms) {a0 a1 a2 a3 a4 a5 : Option Value} {a a' : Option Value} {T : List (Option Value)} {x : Int} (hc : c1 a5) (hd : decode cc pc = .ok (.lstore 6, 2)) (k : R X sh cs ss (pc + 2) (a0 :: a1 :: a2 :: a3 :: a4 :: a5 :: some (vl x) :: none :: T) st F Z) : R X sh cs ss pc (a0 :: a1 :: a2 :: a3 :: a4 :: a5 :: a :: a' :: T) (vl x :: st) F Z := fun hz H locs ls hP hS hL => lv_lstore hX.1 hX.2.1 hd hL (by simp only [List.length_cons]; omega) rfl (fun ls' h => k hz H locs ls' hP hS (LSl.st2 h rfl (fun j u hj hu => by cases (show j = 5 by omega); cases hu; exact hc)))
theorem R_astore_6 (hX : Ok X own cc nL ret fr lo mc ms) {a0 a1 a2 a3 a4 a5 : Option Value} {a : Option Value} {T : List (Option Value)} {x : Int} (hc : c1 a5) (hd : decode cc pc = .ok (.astore 6, 2)) (k : R X sh cs ss (pc + 2) (a0 :: a1 :: a2 :: a3 :: a4 :: a5 :: some (vr (xV X) x) :: T) st F Z) : R X sh cs ss pc (a0 :: a1 :: a2 :: a3 :: a4 :: a5 :: a :: T) (vr (xV X) x :: st) F Z := fun hz H locs ls hP hS hL => by
  by_cases h : x < 0
  · rw [vr_null h] at k ⊢
    exact lv_astoreN hX.1 hX.2.1 hd hL (by simp only [List.length_cons]; omega) rfl (fun ls' h => k hz H locs ls' hP hS (LSl.st1 h rfl (fun j u hj hu => by cases (show j = 5 by omega); cases hu; exact hc)))
  · rw [vr_ref (by omega)] at k ⊢
    exact lv_astore hX.1 hX.2.1 hd hL (by simp only [List.length_cons]; omega) rfl (fun ls' h => k hz H locs ls' hP hS (LSl.st1 h rfl (fun j u hj hu => by cases (show j = 5 by omega); cases hu; exact hc)))
theorem R_iinc_6 (hX : Ok X own cc nL ret fr lo mc ms) {a0 a1 a2 a3 a4 a5 : Option Value} {T : List (Option Value)} {x n : Int} (hc : c1 a5) (hd : decode cc pc = .ok (.iinc 6 n, 3)) (k : R X sh cs ss (pc + 3) (a0 :: a1 :: a2 :: a3 :: a4 :: a5 :: some (vi (x + n)) :: T) st F Z) : R X sh cs ss pc (a0 :: a1 :: a2 :: a3 :: a4 :: a5 :: some (vi x) :: T) st F Z := fun hz H locs ls hP hS hL => by
  have hl := asc_at (b := 0) (i := 6) (v := vi x) (L := (a0 :: a1 :: a2 :: a3 :: a4 :: a5 :: some (vi x) :: T)) rfl
  obtain ⟨q, hq⟩ := List.getElem?_of_mem hl
  refine lv_iinc (k := q) (v := Int32.ofInt (x + n)) hX.1 hX.2.1 hd hL (by rw [Nat.zero_add] at hq; exact hq) (by rw [Int32.ofInt_add]) (by simp only [List.length_cons]; omega) rfl (fun ls' h => k hz H locs ls' hP hS (LSl.st1 h rfl (fun j u hj hu => by cases (show j = 5 by omega); cases hu; exact hc)))
theorem R_iload_7 (hX : Ok X own cc nL ret fr lo mc ms) {a0 a1 a2 a3 a4 a5 a6 : Option Value} {T : List (Option Value)} {x : Int} (hd : decode cc pc = .ok (.iload 7, 2)) (k : R X sh cs ss (pc + 2) (a0 :: a1 :: a2 :: a3 :: a4 :: a5 :: a6 :: some (vi x) :: T) (vi x :: st) F Z) : R X sh cs ss pc (a0 :: a1 :: a2 :: a3 :: a4 :: a5 :: a6 :: some (vi x) :: T) st F Z := fun hz H locs ls hP hS hL => lv_iload hX.1 hX.2.1 hd (hL.at (i := 7) rfl) (k hz H locs ls hP hS hL)
theorem R_lload_7 (hX : Ok X own cc nL ret fr lo mc ms) {a0 a1 a2 a3 a4 a5 a6 : Option Value} {T : List (Option Value)} {x : Int} (hd : decode cc pc = .ok (.lload 7, 2)) (k : R X sh cs ss (pc + 2) (a0 :: a1 :: a2 :: a3 :: a4 :: a5 :: a6 :: some (vl x) :: T) (vl x :: st) F Z) : R X sh cs ss pc (a0 :: a1 :: a2 :: a3 :: a4 :: a5 :: a6 :: some (vl x) :: T) st F Z := fun hz H locs ls hP hS hL => lv_lload hX.1 hX.2.1 hd (hL.at (i := 7) rfl) (k hz H locs ls hP hS hL)
theorem R_aload_7 (hX : Ok X own cc nL ret fr lo mc ms) {a0 a1 a2 a3 a4 a5 a6 : Option Value} {T : List (Option Value)} {x : Int} (hd : decode cc pc = .ok (.aload 7, 2)) (k : R X sh cs ss (pc + 2) (a0 :: a1 :: a2 :: a3 :: a4 :: a5 :: a6 :: some (vr (xV X) x) :: T) (vr (xV X) x :: st) F Z) : R X sh cs ss pc (a0 :: a1 :: a2 :: a3 :: a4 :: a5 :: a6 :: some (vr (xV X) x) :: T) st F Z := fun hz H locs ls hP hS hL => by
  have k := k hz H locs ls hP hS hL
  have hl := hL.at (i := 7) rfl
  by_cases h : x < 0
  · rw [vr_null h] at k hl
    exact lv_aloadN hX.1 hX.2.1 hd hl k
  · rw [vr_ref (by omega)] at k hl
    exact lv_aload hX.1 hX.2.1 hd hl k
theorem R_aload_7_raw (hX : Ok X own cc nL ret fr lo mc ms) {a0 a1 a2 a3 a4 a5 a6 : Option Value} {T : List (Option Value)} {x : Nat} (hd : decode cc pc = .ok (.aload 7, 2)) (k : R X sh cs ss (pc + 2) (a0 :: a1 :: a2 :: a3 :: a4 :: a5 :: a6 :: some (.ref x) :: T) (.ref x :: st) F Z) : R X sh cs ss pc (a0 :: a1 :: a2 :: a3 :: a4 :: a5 :: a6 :: some (.ref x) :: T) st F Z := fun hz H locs ls hP hS hL => lv_aload hX.1 hX.2.1 hd (hL.at (i := 7) rfl) (k hz H locs ls hP hS hL)
theorem R_istore_7 (hX : Ok X own cc nL ret fr lo mc ms) {a0 a1 a2 a3 a4 a5 a6 : Option Value} {a : Option Value} {T : List (Option Value)} {x : Int} (hc : c1 a6) (hd : decode cc pc = .ok (.istore 7, 2)) (k : R X sh cs ss (pc + 2) (a0 :: a1 :: a2 :: a3 :: a4 :: a5 :: a6 :: some (vi x) :: T) st F Z) : R X sh cs ss pc (a0 :: a1 :: a2 :: a3 :: a4 :: a5 :: a6 :: a :: T) (vi x :: st) F Z := fun hz H locs ls hP hS hL => lv_istore hX.1 hX.2.1 hd hL (by simp only [List.length_cons]; omega) rfl (fun ls' h => k hz H locs ls' hP hS (LSl.st1 h rfl (fun j u hj hu => by cases (show j = 6 by omega); cases hu; exact hc)))
theorem R_lstore_7 (hX : Ok X own cc nL ret fr lo mc ms) {a0 a1 a2 a3 a4 a5 a6 : Option Value} {a a' : Option Value} {T : List (Option Value)} {x : Int} (hc : c1 a6) (hd : decode cc pc = .ok (.lstore 7, 2)) (k : R X sh cs ss (pc + 2) (a0 :: a1 :: a2 :: a3 :: a4 :: a5 :: a6 :: some (vl x) :: none :: T) st F Z) : R X sh cs ss pc (a0 :: a1 :: a2 :: a3 :: a4 :: a5 :: a6 :: a :: a' :: T) (vl x :: st) F Z := fun hz H locs ls hP hS hL => lv_lstore hX.1 hX.2.1 hd hL (by simp only [List.length_cons]; omega) rfl (fun ls' h => k hz H locs ls' hP hS (LSl.st2 h rfl (fun j u hj hu => by cases (show j = 6 by omega); cases hu; exact hc)))
theorem R_astore_7 (hX : Ok X own cc nL ret fr lo mc ms) {a0 a1 a2 a3 a4 a5 a6 : Option Value} {a : Option Value} {T : List (Option Value)} {x : Int} (hc : c1 a6) (hd : decode cc pc = .ok (.astore 7, 2)) (k : R X sh cs ss (pc + 2) (a0 :: a1 :: a2 :: a3 :: a4 :: a5 :: a6 :: some (vr (xV X) x) :: T) st F Z) : R X sh cs ss pc (a0 :: a1 :: a2 :: a3 :: a4 :: a5 :: a6 :: a :: T) (vr (xV X) x :: st) F Z := fun hz H locs ls hP hS hL => by
  by_cases h : x < 0
  · rw [vr_null h] at k ⊢
    exact lv_astoreN hX.1 hX.2.1 hd hL (by simp only [List.length_cons]; omega) rfl (fun ls' h => k hz H locs ls' hP hS (LSl.st1 h rfl (fun j u hj hu => by cases (show j = 6 by omega); cases hu; exact hc)))
  · rw [vr_ref (by omega)] at k ⊢
    exact lv_astore hX.1 hX.2.1 hd hL (by simp only [List.length_cons]; omega) rfl (fun ls' h => k hz H locs ls' hP hS (LSl.st1 h rfl (fun j u hj hu => by cases (show j = 6 by omega); cases hu; exact hc)))
theorem R_iinc_7 (hX : Ok X own cc nL ret fr lo mc ms) {a0 a1 a2 a3 a4 a5 a6 : Option Value} {T : List (Option Value)} {x n : Int} (hc : c1 a6) (hd : decode cc pc = .ok (.iinc 7 n, 3)) (k : R X sh cs ss (pc + 3) (a0 :: a1 :: a2 :: a3 :: a4 :: a5 :: a6 :: some (vi (x + n)) :: T) st F Z) : R X sh cs ss pc (a0 :: a1 :: a2 :: a3 :: a4 :: a5 :: a6 :: some (vi x) :: T) st F Z := fun hz H locs ls hP hS hL => by
  have hl := asc_at (b := 0) (i := 7) (v := vi x) (L := (a0 :: a1 :: a2 :: a3 :: a4 :: a5 :: a6 :: some (vi x) :: T)) rfl
  obtain ⟨q, hq⟩ := List.getElem?_of_mem hl
  refine lv_iinc (k := q) (v := Int32.ofInt (x + n)) hX.1 hX.2.1 hd hL (by rw [Nat.zero_add] at hq; exact hq) (by rw [Int32.ofInt_add]) (by simp only [List.length_cons]; omega) rfl (fun ls' h => k hz H locs ls' hP hS (LSl.st1 h rfl (fun j u hj hu => by cases (show j = 6 by omega); cases hu; exact hc)))
theorem R_iload_8 (hX : Ok X own cc nL ret fr lo mc ms) {a0 a1 a2 a3 a4 a5 a6 a7 : Option Value} {T : List (Option Value)} {x : Int} (hd : decode cc pc = .ok (.iload 8, 2)) (k : R X sh cs ss (pc + 2) (a0 :: a1 :: a2 :: a3 :: a4 :: a5 :: a6 :: a7 :: some (vi x) :: T) (vi x :: st) F Z) : R X sh cs ss pc (a0 :: a1 :: a2 :: a3 :: a4 :: a5 :: a6 :: a7 :: some (vi x) :: T) st F Z := fun hz H locs ls hP hS hL => lv_iload hX.1 hX.2.1 hd (hL.at (i := 8) rfl) (k hz H locs ls hP hS hL)
theorem R_lload_8 (hX : Ok X own cc nL ret fr lo mc ms) {a0 a1 a2 a3 a4 a5 a6 a7 : Option Value} {T : List (Option Value)} {x : Int} (hd : decode cc pc = .ok (.lload 8, 2)) (k : R X sh cs ss (pc + 2) (a0 :: a1 :: a2 :: a3 :: a4 :: a5 :: a6 :: a7 :: some (vl x) :: T) (vl x :: st) F Z) : R X sh cs ss pc (a0 :: a1 :: a2 :: a3 :: a4 :: a5 :: a6 :: a7 :: some (vl x) :: T) st F Z := fun hz H locs ls hP hS hL => lv_lload hX.1 hX.2.1 hd (hL.at (i := 8) rfl) (k hz H locs ls hP hS hL)
theorem R_aload_8 (hX : Ok X own cc nL ret fr lo mc ms) {a0 a1 a2 a3 a4 a5 a6 a7 : Option Value} {T : List (Option Value)} {x : Int} (hd : decode cc pc = .ok (.aload 8, 2)) (k : R X sh cs ss (pc + 2) (a0 :: a1 :: a2 :: a3 :: a4 :: a5 :: a6 :: a7 :: some (vr (xV X) x) :: T) (vr (xV X) x :: st) F Z) : R X sh cs ss pc (a0 :: a1 :: a2 :: a3 :: a4 :: a5 :: a6 :: a7 :: some (vr (xV X) x) :: T) st F Z := fun hz H locs ls hP hS hL => by
  have k := k hz H locs ls hP hS hL
  have hl := hL.at (i := 8) rfl
  by_cases h : x < 0
  · rw [vr_null h] at k hl
    exact lv_aloadN hX.1 hX.2.1 hd hl k
  · rw [vr_ref (by omega)] at k hl
    exact lv_aload hX.1 hX.2.1 hd hl k
theorem R_aload_8_raw (hX : Ok X own cc nL ret fr lo mc ms) {a0 a1 a2 a3 a4 a5 a6 a7 : Option Value} {T : List (Option Value)} {x : Nat} (hd : decode cc pc = .ok (.aload 8, 2)) (k : R X sh cs ss (pc + 2) (a0 :: a1 :: a2 :: a3 :: a4 :: a5 :: a6 :: a7 :: some (.ref x) :: T) (.ref x :: st) F Z) : R X sh cs ss pc (a0 :: a1 :: a2 :: a3 :: a4 :: a5 :: a6 :: a7 :: some (.ref x) :: T) st F Z := fun hz H locs ls hP hS hL => lv_aload hX.1 hX.2.1 hd (hL.at (i := 8) rfl) (k hz H locs ls hP hS hL)
theorem R_istore_8 (hX : Ok X own cc nL ret fr lo mc ms) {a0 a1 a2 a3 a4 a5 a6 a7 : Option Value} {a : Option Value} {T : List (Option Value)} {x : Int} (hc : c1 a7) (hd : decode cc pc = .ok (.istore 8, 2)) (k : R X sh cs ss (pc + 2) (a0 :: a1 :: a2 :: a3 :: a4 :: a5 :: a6 :: a7 :: some (vi x) :: T) st F Z) : R X sh cs ss pc (a0 :: a1 :: a2 :: a3 :: a4 :: a5 :: a6 :: a7 :: a :: T) (vi x :: st) F Z := fun hz H locs ls hP hS hL => lv_istore hX.1 hX.2.1 hd hL (by simp only [List.length_cons]; omega) rfl (fun ls' h => k hz H locs ls' hP hS (LSl.st1 h rfl (fun j u hj hu => by cases (show j = 7 by omega); cases hu; exact hc)))
theorem R_lstore_8 (hX : Ok X own cc nL ret fr lo mc ms) {a0 a1 a2 a3 a4 a5 a6 a7 : Option Value} {a a' : Option Value} {T : List (Option Value)} {x : Int} (hc : c1 a7) (hd : decode cc pc = .ok (.lstore 8, 2)) (k : R X sh cs ss (pc + 2) (a0 :: a1 :: a2 :: a3 :: a4 :: a5 :: a6 :: a7 :: some (vl x) :: none :: T) st F Z) : R X sh cs ss pc (a0 :: a1 :: a2 :: a3 :: a4 :: a5 :: a6 :: a7 :: a :: a' :: T) (vl x :: st) F Z := fun hz H locs ls hP hS hL => lv_lstore hX.1 hX.2.1 hd hL (by simp only [List.length_cons]; omega) rfl (fun ls' h => k hz H locs ls' hP hS (LSl.st2 h rfl (fun j u hj hu => by cases (show j = 7 by omega); cases hu; exact hc)))
theorem R_astore_8 (hX : Ok X own cc nL ret fr lo mc ms) {a0 a1 a2 a3 a4 a5 a6 a7 : Option Value} {a : Option Value} {T : List (Option Value)} {x : Int} (hc : c1 a7) (hd : decode cc pc = .ok (.astore 8, 2)) (k : R X sh cs ss (pc + 2) (a0 :: a1 :: a2 :: a3 :: a4 :: a5 :: a6 :: a7 :: some (vr (xV X) x) :: T) st F Z) : R X sh cs ss pc (a0 :: a1 :: a2 :: a3 :: a4 :: a5 :: a6 :: a7 :: a :: T) (vr (xV X) x :: st) F Z := fun hz H locs ls hP hS hL => by
  by_cases h : x < 0
  · rw [vr_null h] at k ⊢
    exact lv_astoreN hX.1 hX.2.1 hd hL (by simp only [List.length_cons]; omega) rfl (fun ls' h => k hz H locs ls' hP hS (LSl.st1 h rfl (fun j u hj hu => by cases (show j = 7 by omega); cases hu; exact hc)))
  · rw [vr_ref (by omega)] at k ⊢
    exact lv_astore hX.1 hX.2.1 hd hL (by simp only [List.length_cons]; omega) rfl (fun ls' h => k hz H locs ls' hP hS (LSl.st1 h rfl (fun j u hj hu => by cases (show j = 7 by omega); cases hu; exact hc)))
theorem R_iinc_8 (hX : Ok X own cc nL ret fr lo mc ms) {a0 a1 a2 a3 a4 a5 a6 a7 : Option Value} {T : List (Option Value)} {x n : Int} (hc : c1 a7) (hd : decode cc pc = .ok (.iinc 8 n, 3)) (k : R X sh cs ss (pc + 3) (a0 :: a1 :: a2 :: a3 :: a4 :: a5 :: a6 :: a7 :: some (vi (x + n)) :: T) st F Z) : R X sh cs ss pc (a0 :: a1 :: a2 :: a3 :: a4 :: a5 :: a6 :: a7 :: some (vi x) :: T) st F Z := fun hz H locs ls hP hS hL => by
  have hl := asc_at (b := 0) (i := 8) (v := vi x) (L := (a0 :: a1 :: a2 :: a3 :: a4 :: a5 :: a6 :: a7 :: some (vi x) :: T)) rfl
  obtain ⟨q, hq⟩ := List.getElem?_of_mem hl
  refine lv_iinc (k := q) (v := Int32.ofInt (x + n)) hX.1 hX.2.1 hd hL (by rw [Nat.zero_add] at hq; exact hq) (by rw [Int32.ofInt_add]) (by simp only [List.length_cons]; omega) rfl (fun ls' h => k hz H locs ls' hP hS (LSl.st1 h rfl (fun j u hj hu => by cases (show j = 7 by omega); cases hu; exact hc)))
theorem R_iload_9 (hX : Ok X own cc nL ret fr lo mc ms) {a0 a1 a2 a3 a4 a5 a6 a7 a8 : Option Value} {T : List (Option Value)} {x : Int} (hd : decode cc pc = .ok (.iload 9, 2)) (k : R X sh cs ss (pc + 2) (a0 :: a1 :: a2 :: a3 :: a4 :: a5 :: a6 :: a7 :: a8 :: some (vi x) :: T) (vi x :: st) F Z) : R X sh cs ss pc (a0 :: a1 :: a2 :: a3 :: a4 :: a5 :: a6 :: a7 :: a8 :: some (vi x) :: T) st F Z := fun hz H locs ls hP hS hL => lv_iload hX.1 hX.2.1 hd (hL.at (i := 9) rfl) (k hz H locs ls hP hS hL)
theorem R_lload_9 (hX : Ok X own cc nL ret fr lo mc ms) {a0 a1 a2 a3 a4 a5 a6 a7 a8 : Option Value} {T : List (Option Value)} {x : Int} (hd : decode cc pc = .ok (.lload 9, 2)) (k : R X sh cs ss (pc + 2) (a0 :: a1 :: a2 :: a3 :: a4 :: a5 :: a6 :: a7 :: a8 :: some (vl x) :: T) (vl x :: st) F Z) : R X sh cs ss pc (a0 :: a1 :: a2 :: a3 :: a4 :: a5 :: a6 :: a7 :: a8 :: some (vl x) :: T) st F Z := fun hz H locs ls hP hS hL => lv_lload hX.1 hX.2.1 hd (hL.at (i := 9) rfl) (k hz H locs ls hP hS hL)
theorem R_aload_9 (hX : Ok X own cc nL ret fr lo mc ms) {a0 a1 a2 a3 a4 a5 a6 a7 a8 : Option Value} {T : List (Option Value)} {x : Int} (hd : decode cc pc = .ok (.aload 9, 2)) (k : R X sh cs ss (pc + 2) (a0 :: a1 :: a2 :: a3 :: a4 :: a5 :: a6 :: a7 :: a8 :: some (vr (xV X) x) :: T) (vr (xV X) x :: st) F Z) : R X sh cs ss pc (a0 :: a1 :: a2 :: a3 :: a4 :: a5 :: a6 :: a7 :: a8 :: some (vr (xV X) x) :: T) st F Z := fun hz H locs ls hP hS hL => by
  have k := k hz H locs ls hP hS hL
  have hl := hL.at (i := 9) rfl
  by_cases h : x < 0
  · rw [vr_null h] at k hl
    exact lv_aloadN hX.1 hX.2.1 hd hl k
  · rw [vr_ref (by omega)] at k hl
    exact lv_aload hX.1 hX.2.1 hd hl k
theorem R_aload_9_raw (hX : Ok X own cc nL ret fr lo mc ms) {a0 a1 a2 a3 a4 a5 a6 a7 a8 : Option Value} {T : List (Option Value)} {x : Nat} (hd : decode cc pc = .ok (.aload 9, 2)) (k : R X sh cs ss (pc + 2) (a0 :: a1 :: a2 :: a3 :: a4 :: a5 :: a6 :: a7 :: a8 :: some (.ref x) :: T) (.ref x :: st) F Z) : R X sh cs ss pc (a0 :: a1 :: a2 :: a3 :: a4 :: a5 :: a6 :: a7 :: a8 :: some (.ref x) :: T) st F Z := fun hz H locs ls hP hS hL => lv_aload hX.1 hX.2.1 hd (hL.at (i := 9) rfl) (k hz H locs ls hP hS hL)
theorem R_istore_9 (hX : Ok X own cc nL ret fr lo mc ms) {a0 a1 a2 a3 a4 a5 a6 a7 a8 : Option Value} {a : Option Value} {T : List (Option Value)} {x : Int} (hc : c1 a8) (hd : decode cc pc = .ok (.istore 9, 2)) (k : R X sh cs ss (pc + 2) (a0 :: a1 :: a2 :: a3 :: a4 :: a5 :: a6 :: a7 :: a8 :: some (vi x) :: T) st F Z) : R X sh cs ss pc (a0 :: a1 :: a2 :: a3 :: a4 :: a5 :: a6 :: a7 :: a8 :: a :: T) (vi x :: st) F Z := fun hz H locs ls hP hS hL => lv_istore hX.1 hX.2.1 hd hL (by simp only [List.length_cons]; omega) rfl (fun ls' h => k hz H locs ls' hP hS (LSl.st1 h rfl (fun j u hj hu => by cases (show j = 8 by omega); cases hu; exact hc)))
theorem R_lstore_9 (hX : Ok X own cc nL ret fr lo mc ms) {a0 a1 a2 a3 a4 a5 a6 a7 a8 : Option Value} {a a' : Option Value} {T : List (Option Value)} {x : Int} (hc : c1 a8) (hd : decode cc pc = .ok (.lstore 9, 2)) (k : R X sh cs ss (pc + 2) (a0 :: a1 :: a2 :: a3 :: a4 :: a5 :: a6 :: a7 :: a8 :: some (vl x) :: none :: T) st F Z) : R X sh cs ss pc (a0 :: a1 :: a2 :: a3 :: a4 :: a5 :: a6 :: a7 :: a8 :: a :: a' :: T) (vl x :: st) F Z := fun hz H locs ls hP hS hL => lv_lstore hX.1 hX.2.1 hd hL (by simp only [List.length_cons]; omega) rfl (fun ls' h => k hz H locs ls' hP hS (LSl.st2 h rfl (fun j u hj hu => by cases (show j = 8 by omega); cases hu; exact hc)))
theorem R_astore_9 (hX : Ok X own cc nL ret fr lo mc ms) {a0 a1 a2 a3 a4 a5 a6 a7 a8 : Option Value} {a : Option Value} {T : List (Option Value)} {x : Int} (hc : c1 a8) (hd : decode cc pc = .ok (.astore 9, 2)) (k : R X sh cs ss (pc + 2) (a0 :: a1 :: a2 :: a3 :: a4 :: a5 :: a6 :: a7 :: a8 :: some (vr (xV X) x) :: T) st F Z) : R X sh cs ss pc (a0 :: a1 :: a2 :: a3 :: a4 :: a5 :: a6 :: a7 :: a8 :: a :: T) (vr (xV X) x :: st) F Z := fun hz H locs ls hP hS hL => by
  by_cases h : x < 0
  · rw [vr_null h] at k ⊢
    exact lv_astoreN hX.1 hX.2.1 hd hL (by simp only [List.length_cons]; omega) rfl (fun ls' h => k hz H locs ls' hP hS (LSl.st1 h rfl (fun j u hj hu => by cases (show j = 8 by omega); cases hu; exact hc)))
  · rw [vr_ref (by omega)] at k ⊢
    exact lv_astore hX.1 hX.2.1 hd hL (by simp only [List.length_cons]; omega) rfl (fun ls' h => k hz H locs ls' hP hS (LSl.st1 h rfl (fun j u hj hu => by cases (show j = 8 by omega); cases hu; exact hc)))
theorem R_iinc_9 (hX : Ok X own cc nL ret fr lo mc ms) {a0 a1 a2 a3 a4 a5 a6 a7 a8 : Option Value} {T : List (Option Value)} {x n : Int} (hc : c1 a8) (hd : decode cc pc = .ok (.iinc 9 n, 3)) (k : R X sh cs ss (pc + 3) (a0 :: a1 :: a2 :: a3 :: a4 :: a5 :: a6 :: a7 :: a8 :: some (vi (x + n)) :: T) st F Z) : R X sh cs ss pc (a0 :: a1 :: a2 :: a3 :: a4 :: a5 :: a6 :: a7 :: a8 :: some (vi x) :: T) st F Z := fun hz H locs ls hP hS hL => by
  have hl := asc_at (b := 0) (i := 9) (v := vi x) (L := (a0 :: a1 :: a2 :: a3 :: a4 :: a5 :: a6 :: a7 :: a8 :: some (vi x) :: T)) rfl
  obtain ⟨q, hq⟩ := List.getElem?_of_mem hl
  refine lv_iinc (k := q) (v := Int32.ofInt (x + n)) hX.1 hX.2.1 hd hL (by rw [Nat.zero_add] at hq; exact hq) (by rw [Int32.ofInt_add]) (by simp only [List.length_cons]; omega) rfl (fun ls' h => k hz H locs ls' hP hS (LSl.st1 h rfl (fun j u hj hu => by cases (show j = 8 by omega); cases hu; exact hc)))
theorem R_iload_10 (hX : Ok X own cc nL ret fr lo mc ms) {a0 a1 a2 a3 a4 a5 a6 a7 a8 a9 : Option Value} {T : List (Option Value)} {x : Int} (hd : decode cc pc = .ok (.iload 10, 2)) (k : R X sh cs ss (pc + 2) (a0 :: a1 :: a2 :: a3 :: a4 :: a5 :: a6 :: a7 :: a8 :: a9 :: some (vi x) :: T) (vi x :: st) F Z) : R X sh cs ss pc (a0 :: a1 :: a2 :: a3 :: a4 :: a5 :: a6 :: a7 :: a8 :: a9 :: some (vi x) :: T) st F Z := fun hz H locs ls hP hS hL => lv_iload hX.1 hX.2.1 hd (hL.at (i := 10) rfl) (k hz H locs ls hP hS hL)
theorem R_lload_10 (hX : Ok X own cc nL ret fr lo mc ms) {a0 a1 a2 a3 a4 a5 a6 a7 a8 a9 : Option Value} {T : List (Option Value)} {x : Int} (hd : decode cc pc = .ok (.lload 10, 2)) (k : R X sh cs ss (pc + 2) (a0 :: a1 :: a2 :: a3 :: a4 :: a5 :: a6 :: a7 :: a8 :: a9 :: some (vl x) :: T) (vl x :: st) F Z) : R X sh cs ss pc (a0 :: a1 :: a2 :: a3 :: a4 :: a5 :: a6 :: a7 :: a8 :: a9 :: some (vl x) :: T) st F Z := fun hz H locs ls hP hS hL => lv_lload hX.1 hX.2.1 hd (hL.at (i := 10) rfl) (k hz H locs ls hP hS hL)
theorem R_aload_10 (hX : Ok X own cc nL ret fr lo mc ms) {a0 a1 a2 a3 a4 a5 a6 a7 a8 a9 : Option Value} {T : List (Option Value)} {x : Int} (hd : decode cc pc = .ok (.aload 10, 2)) (k : R X sh cs ss (pc + 2) (a0 :: a1 :: a2 :: a3 :: a4 :: a5 :: a6 :: a7 :: a8 :: a9 :: some (vr (xV X) x) :: T) (vr (xV X) x :: st) F Z) : R X sh cs ss pc (a0 :: a1 :: a2 :: a3 :: a4 :: a5 :: a6 :: a7 :: a8 :: a9 :: some (vr (xV X) x) :: T) st F Z := fun hz H locs ls hP hS hL => by
  have k := k hz H locs ls hP hS hL
  have hl := hL.at (i := 10) rfl
  by_cases h : x < 0
  · rw [vr_null h] at k hl
    exact lv_aloadN hX.1 hX.2.1 hd hl k
  · rw [vr_ref (by omega)] at k hl
    exact lv_aload hX.1 hX.2.1 hd hl k
theorem R_aload_10_raw (hX : Ok X own cc nL ret fr lo mc ms) {a0 a1 a2 a3 a4 a5 a6 a7 a8 a9 : Option Value} {T : List (Option Value)} {x : Nat} (hd : decode cc pc = .ok (.aload 10, 2)) (k : R X sh cs ss (pc + 2) (a0 :: a1 :: a2 :: a3 :: a4 :: a5 :: a6 :: a7 :: a8 :: a9 :: some (.ref x) :: T) (.ref x :: st) F Z) : R X sh cs ss pc (a0 :: a1 :: a2 :: a3 :: a4 :: a5 :: a6 :: a7 :: a8 :: a9 :: some (.ref x) :: T) st F Z := fun hz H locs ls hP hS hL => lv_aload hX.1 hX.2.1 hd (hL.at (i := 10) rfl) (k hz H locs ls hP hS hL)
theorem R_istore_10 (hX : Ok X own cc nL ret fr lo mc ms) {a0 a1 a2 a3 a4 a5 a6 a7 a8 a9 : Option Value} {a : Option Value} {T : List (Option Value)} {x : Int} (hc : c1 a9) (hd : decode cc pc = .ok (.istore 10, 2)) (k : R X sh cs ss (pc + 2) (a0 :: a1 :: a2 :: a3 :: a4 :: a5 :: a6 :: a7 :: a8 :: a9 :: some (vi x) :: T) st F Z) : R X sh cs ss pc (a0 :: a1 :: a2 :: a3 :: a4 :: a5 :: a6 :: a7 :: a8 :: a9 :: a :: T) (vi x :: st) F Z := fun hz H locs ls hP hS hL => lv_istore hX.1 hX.2.1 hd hL (by simp only [List.length_cons]; omega) rfl (fun ls' h => k hz H locs ls' hP hS (LSl.st1 h rfl (fun j u hj hu => by cases (show j = 9 by omega); cases hu; exact hc)))
theorem R_lstore_10 (hX : Ok X own cc nL ret fr lo mc ms) {a0 a1 a2 a3 a4 a5 a6 a7 a8 a9 : Option Value} {a a' : Option Value} {T : List (Option Value)} {x : Int} (hc : c1 a9) (hd : decode cc pc = .ok (.lstore 10, 2)) (k : R X sh cs ss (pc + 2) (a0 :: a1 :: a2 :: a3 :: a4 :: a5 :: a6 :: a7 :: a8 :: a9 :: some (vl x) :: none :: T) st F Z) : R X sh cs ss pc (a0 :: a1 :: a2 :: a3 :: a4 :: a5 :: a6 :: a7 :: a8 :: a9 :: a :: a' :: T) (vl x :: st) F Z := fun hz H locs ls hP hS hL => lv_lstore hX.1 hX.2.1 hd hL (by simp only [List.length_cons]; omega) rfl (fun ls' h => k hz H locs ls' hP hS (LSl.st2 h rfl (fun j u hj hu => by cases (show j = 9 by omega); cases hu; exact hc)))
theorem R_astore_10 (hX : Ok X own cc nL ret fr lo mc ms) {a0 a1 a2 a3 a4 a5 a6 a7 a8 a9 : Option Value} {a : Option Value} {T : List (Option Value)} {x : Int} (hc : c1 a9) (hd : decode cc pc = .ok (.astore 10, 2)) (k : R X sh cs ss (pc + 2) (a0 :: a1 :: a2 :: a3 :: a4 :: a5 :: a6 :: a7 :: a8 :: a9 :: some (vr (xV X) x) :: T) st F Z) : R X sh cs ss pc (a0 :: a1 :: a2 :: a3 :: a4 :: a5 :: a6 :: a7 :: a8 :: a9 :: a :: T) (vr (xV X) x :: st) F Z := fun hz H locs ls hP hS hL => by
  by_cases h : x < 0
  · rw [vr_null h] at k ⊢
    exact lv_astoreN hX.1 hX.2.1 hd hL (by simp only [List.length_cons]; omega) rfl (fun ls' h => k hz H locs ls' hP hS (LSl.st1 h rfl (fun j u hj hu => by cases (show j = 9 by omega); cases hu; exact hc)))
  · rw [vr_ref (by omega)] at k ⊢
    exact lv_astore hX.1 hX.2.1 hd hL (by simp only [List.length_cons]; omega) rfl (fun ls' h => k hz H locs ls' hP hS (LSl.st1 h rfl (fun j u hj hu => by cases (show j = 9 by omega); cases hu; exact hc)))
theorem R_iinc_10 (hX : Ok X own cc nL ret fr lo mc ms) {a0 a1 a2 a3 a4 a5 a6 a7 a8 a9 : Option Value} {T : List (Option Value)} {x n : Int} (hc : c1 a9) (hd : decode cc pc = .ok (.iinc 10 n, 3)) (k : R X sh cs ss (pc + 3) (a0 :: a1 :: a2 :: a3 :: a4 :: a5 :: a6 :: a7 :: a8 :: a9 :: some (vi (x + n)) :: T) st F Z) : R X sh cs ss pc (a0 :: a1 :: a2 :: a3 :: a4 :: a5 :: a6 :: a7 :: a8 :: a9 :: some (vi x) :: T) st F Z := fun hz H locs ls hP hS hL => by
  have hl := asc_at (b := 0) (i := 10) (v := vi x) (L := (a0 :: a1 :: a2 :: a3 :: a4 :: a5 :: a6 :: a7 :: a8 :: a9 :: some (vi x) :: T)) rfl
  obtain ⟨q, hq⟩ := List.getElem?_of_mem hl
  refine lv_iinc (k := q) (v := Int32.ofInt (x + n)) hX.1 hX.2.1 hd hL (by rw [Nat.zero_add] at hq; exact hq) (by rw [Int32.ofInt_add]) (by simp only [List.length_cons]; omega) rfl (fun ls' h => k hz H locs ls' hP hS (LSl.st1 h rfl (fun j u hj hu => by cases (show j = 9 by omega); cases hu; exact hc)))
theorem R_iload_11 (hX : Ok X own cc nL ret fr lo mc ms) {a0 a1 a2 a3 a4 a5 a6 a7 a8 a9 a10 : Option Value} {T : List (Option Value)} {x : Int} (hd : decode cc pc = .ok (.iload 11, 2)) (k : R X sh cs ss (pc + 2) (a0 :: a1 :: a2 :: a3 :: a4 :: a5 :: a6 :: a7 :: a8 :: a9 :: a10 :: some (vi x) :: T) (vi x :: st) F Z) : R X sh cs ss pc (a0 :: a1 :: a2 :: a3 :: a4 :: a5 :: a6 :: a7 :: a8 :: a9 :: a10 :: some (vi x) :: T) st F Z := fun hz H locs ls hP hS hL => lv_iload hX.1 hX.2.1 hd (hL.at (i := 11) rfl) (k hz H locs ls hP hS hL)
theorem R_lload_11 (hX : Ok X own cc nL ret fr lo mc ms) {a0 a1 a2 a3 a4 a5 a6 a7 a8 a9 a10 : Option Value} {T : List (Option Value)} {x : Int} (hd : decode cc pc = .ok (.lload 11, 2)) (k : R X sh cs ss (pc + 2) (a0 :: a1 :: a2 :: a3 :: a4 :: a5 :: a6 :: a7 :: a8 :: a9 :: a10 :: some (vl x) :: T) (vl x :: st) F Z) : R X sh cs ss pc (a0 :: a1 :: a2 :: a3 :: a4 :: a5 :: a6 :: a7 :: a8 :: a9 :: a10 :: some (vl x) :: T) st F Z := fun hz H locs ls hP hS hL => lv_lload hX.1 hX.2.1 hd (hL.at (i := 11) rfl) (k hz H locs ls hP hS hL)
theorem R_aload_11 (hX : Ok X own cc nL ret fr lo mc ms) {a0 a1 a2 a3 a4 a5 a6 a7 a8 a9 a10 : Option Value} {T : List (Option Value)} {x : Int} (hd : decode cc pc = .ok (.aload 11, 2)) (k : R X sh cs ss (pc + 2) (a0 :: a1 :: a2 :: a3 :: a4 :: a5 :: a6 :: a7 :: a8 :: a9 :: a10 :: some (vr (xV X) x) :: T) (vr (xV X) x :: st) F Z) : R X sh cs ss pc (a0 :: a1 :: a2 :: a3 :: a4 :: a5 :: a6 :: a7 :: a8 :: a9 :: a10 :: some (vr (xV X) x) :: T) st F Z := fun hz H locs ls hP hS hL => by
  have k := k hz H locs ls hP hS hL
  have hl := hL.at (i := 11) rfl
  by_cases h : x < 0
  · rw [vr_null h] at k hl
    exact lv_aloadN hX.1 hX.2.1 hd hl k
  · rw [vr_ref (by omega)] at k hl
    exact lv_aload hX.1 hX.2.1 hd hl k
theorem R_aload_11_raw (hX : Ok X own cc nL ret fr lo mc ms) {a0 a1 a2 a3 a4 a5 a6 a7 a8 a9 a10 : Option Value} {T : List (Option Value)} {x : Nat} (hd : decode cc pc = .ok (.aload 11, 2)) (k : R X sh cs ss (pc + 2) (a0 :: a1 :: a2 :: a3 :: a4 :: a5 :: a6 :: a7 :: a8 :: a9 :: a10 :: some (.ref x) :: T) (.ref x :: st) F Z) : R X sh cs ss pc (a0 :: a1 :: a2 :: a3 :: a4 :: a5 :: a6 :: a7 :: a8 :: a9 :: a10 :: some (.ref x) :: T) st F Z := fun hz H locs ls hP hS hL => lv_aload hX.1 hX.2.1 hd (hL.at (i := 11) rfl) (k hz H locs ls hP hS hL)
theorem R_istore_11 (hX : Ok X own cc nL ret fr lo mc ms) {a0 a1 a2 a3 a4 a5 a6 a7 a8 a9 a10 : Option Value} {a : Option Value} {T : List (Option Value)} {x : Int} (hc : c1 a10) (hd : decode cc pc = .ok (.istore 11, 2)) (k : R X sh cs ss (pc + 2) (a0 :: a1 :: a2 :: a3 :: a4 :: a5 :: a6 :: a7 :: a8 :: a9 :: a10 :: some (vi x) :: T) st F Z) : R X sh cs ss pc (a0 :: a1 :: a2 :: a3 :: a4 :: a5 :: a6 :: a7 :: a8 :: a9 :: a10 :: a :: T) (vi x :: st) F Z := fun hz H locs ls hP hS hL => lv_istore hX.1 hX.2.1 hd hL (by simp only [List.length_cons]; omega) rfl (fun ls' h => k hz H locs ls' hP hS (LSl.st1 h rfl (fun j u hj hu => by cases (show j = 10 by omega); cases hu; exact hc)))
theorem R_lstore_11 (hX : Ok X own cc nL ret fr lo mc ms) {a0 a1 a2 a3 a4 a5 a6 a7 a8 a9 a10 : Option Value} {a a' : Option Value} {T : List (Option Value)} {x : Int} (hc : c1 a10) (hd : decode cc pc = .ok (.lstore 11, 2)) (k : R X sh cs ss (pc + 2) (a0 :: a1 :: a2 :: a3 :: a4 :: a5 :: a6 :: a7 :: a8 :: a9 :: a10 :: some (vl x) :: none :: T) st F Z) : R X sh cs ss pc (a0 :: a1 :: a2 :: a3 :: a4 :: a5 :: a6 :: a7 :: a8 :: a9 :: a10 :: a :: a' :: T) (vl x :: st) F Z := fun hz H locs ls hP hS hL => lv_lstore hX.1 hX.2.1 hd hL (by simp only [List.length_cons]; omega) rfl (fun ls' h => k hz H locs ls' hP hS (LSl.st2 h rfl (fun j u hj hu => by cases (show j = 10 by omega); cases hu; exact hc)))
theorem R_astore_11 (hX : Ok X own cc nL ret fr lo mc ms) {a0 a1 a2 a3 a4 a5 a6 a7 a8 a9 a10 : Option Value} {a : Option Value} {T : List (Option Value)} {x : Int} (hc : c1 a10) (hd : decode cc pc = .ok (.astore 11, 2)) (k : R X sh cs ss (pc + 2) (a0 :: a1 :: a2 :: a3 :: a4 :: a5 :: a6 :: a7 :: a8 :: a9 :: a10 :: some (vr (xV X) x) :: T) st F Z) : R X sh cs ss pc (a0 :: a1 :: a2 :: a3 :: a4 :: a5 :: a6 :: a7 :: a8 :: a9 :: a10 :: a :: T) (vr (xV X) x :: st) F Z := fun hz H locs ls hP hS hL => by
  by_cases h : x < 0
  · rw [vr_null h] at k ⊢
    exact lv_astoreN hX.1 hX.2.1 hd hL (by simp only [List.length_cons]; omega) rfl (fun ls' h => k hz H locs ls' hP hS (LSl.st1 h rfl (fun j u hj hu => by cases (show j = 10 by omega); cases hu; exact hc)))
  · rw [vr_ref (by omega)] at k ⊢
    exact lv_astore hX.1 hX.2.1 hd hL (by simp only [List.length_cons]; omega) rfl (fun ls' h => k hz H locs ls' hP hS (LSl.st1 h rfl (fun j u hj hu => by cases (show j = 10 by omega); cases hu; exact hc)))
theorem R_iinc_11 (hX : Ok X own cc nL ret fr lo mc ms) {a0 a1 a2 a3 a4 a5 a6 a7 a8 a9 a10 : Option Value} {T : List (Option Value)} {x n : Int} (hc : c1 a10) (hd : decode cc pc = .ok (.iinc 11 n, 3)) (k : R X sh cs ss (pc + 3) (a0 :: a1 :: a2 :: a3 :: a4 :: a5 :: a6 :: a7 :: a8 :: a9 :: a10 :: some (vi (x + n)) :: T) st F Z) : R X sh cs ss pc (a0 :: a1 :: a2 :: a3 :: a4 :: a5 :: a6 :: a7 :: a8 :: a9 :: a10 :: some (vi x) :: T) st F Z := fun hz H locs ls hP hS hL => by
  have hl := asc_at (b := 0) (i := 11) (v := vi x) (L := (a0 :: a1 :: a2 :: a3 :: a4 :: a5 :: a6 :: a7 :: a8 :: a9 :: a10 :: some (vi x) :: T)) rfl
  obtain ⟨q, hq⟩ := List.getElem?_of_mem hl
  refine lv_iinc (k := q) (v := Int32.ofInt (x + n)) hX.1 hX.2.1 hd hL (by rw [Nat.zero_add] at hq; exact hq) (by rw [Int32.ofInt_add]) (by simp only [List.length_cons]; omega) rfl (fun ls' h => k hz H locs ls' hP hS (LSl.st1 h rfl (fun j u hj hu => by cases (show j = 10 by omega); cases hu; exact hc)))
theorem R_iload_12 (hX : Ok X own cc nL ret fr lo mc ms) {a0 a1 a2 a3 a4 a5 a6 a7 a8 a9 a10 a11 : Option Value} {T : List (Option Value)} {x : Int} (hd : decode cc pc = .ok (.iload 12, 2)) (k : R X sh cs ss (pc + 2) (a0 :: a1 :: a2 :: a3 :: a4 :: a5 :: a6 :: a7 :: a8 :: a9 :: a10 :: a11 :: some (vi x) :: T) (vi x :: st) F Z) : R X sh cs ss pc (a0 :: a1 :: a2 :: a3 :: a4 :: a5 :: a6 :: a7 :: a8 :: a9 :: a10 :: a11 :: some (vi x) :: T) st F Z := fun hz H locs ls hP hS hL => lv_iload hX.1 hX.2.1 hd (hL.at (i := 12) rfl) (k hz H locs ls hP hS hL)
theorem R_lload_12 (hX : Ok X own cc nL ret fr lo mc ms) {a0 a1 a2 a3 a4 a5 a6 a7 a8 a9 a10 a11 : Option Value} {T : List (Option Value)} {x : Int} (hd : decode cc pc = .ok (.lload 12, 2)) (k : R X sh cs ss (pc + 2) (a0 :: a1 :: a2 :: a3 :: a4 :: a5 :: a6 :: a7 :: a8 :: a9 :: a10 :: a11 :: some (vl x) :: T) (vl x :: st) F Z) : R X sh cs ss pc (a0 :: a1 :: a2 :: a3 :: a4 :: a5 :: a6 :: a7 :: a8 :: a9 :: a10 :: a11 :: some (vl x) :: T) st F Z := fun hz H locs ls hP hS hL => lv_lload hX.1 hX.2.1 hd (hL.at (i := 12) rfl) (k hz H locs ls hP hS hL)
theorem R_aload_12 (hX : Ok X own cc nL ret fr lo mc ms) {a0 a1 a2 a3 a4 a5 a6 a7 a8 a9 a10 a11 : Option Value} {T : List (Option Value)} {x : Int} (hd : decode cc pc = .ok (.aload 12, 2)) (k : R X sh cs ss (pc + 2) (a0 :: a1 :: a2 :: a3 :: a4 :: a5 :: a6 :: a7 :: a8 :: a9 :: a10 :: a11 :: some (vr (xV X) x) :: T) (vr (xV X) x :: st) F Z) : R X sh cs ss pc (a0 :: a1 :: a2 :: a3 :: a4 :: a5 :: a6 :: a7 :: a8 :: a9 :: a10 :: a11 :: some (vr (xV X) x) :: T) st F Z := fun hz H locs ls hP hS hL => by
  have k := k hz H locs ls hP hS hL
  have hl := hL.at (i := 12) rfl
  by_cases h : x < 0
  · rw [vr_null h] at k hl
    exact lv_aloadN hX.1 hX.2.1 hd hl k
  · rw [vr_ref (by omega)] at k hl
    exact lv_aload hX.1 hX.2.1 hd hl k
theorem R_aload_12_raw (hX : Ok X own cc nL ret fr lo mc ms) {a0 a1 a2 a3 a4 a5 a6 a7 a8 a9 a10 a11 : Option Value} {T : List (Option Value)} {x : Nat} (hd : decode cc pc = .ok (.aload 12, 2)) (k : R X sh cs ss (pc + 2) (a0 :: a1 :: a2 :: a3 :: a4 :: a5 :: a6 :: a7 :: a8 :: a9 :: a10 :: a11 :: some (.ref x) :: T) (.ref x :: st) F Z) : R X sh cs ss pc (a0 :: a1 :: a2 :: a3 :: a4 :: a5 :: a6 :: a7 :: a8 :: a9 :: a10 :: a11 :: some (.ref x) :: T) st F Z := fun hz H locs ls hP hS hL => lv_aload hX.1 hX.2.1 hd (hL.at (i := 12) rfl) (k hz H locs ls hP hS hL)
theorem R_istore_12 (hX : Ok X own cc nL ret fr lo mc ms) {a0 a1 a2 a3 a4 a5 a6 a7 a8 a9 a10 a11 : Option Value} {a : Option Value} {T : List (Option Value)} {x : Int} (hc : c1 a11) (hd : decode cc pc = .ok (.istore 12, 2)) (k : R X sh cs ss (pc + 2) (a0 :: a1 :: a2 :: a3 :: a4 :: a5 :: a6 :: a7 :: a8 :: a9 :: a10 :: a11 :: some (vi x) :: T) st F Z) : R X sh cs ss pc (a0 :: a1 :: a2 :: a3 :: a4 :: a5 :: a6 :: a7 :: a8 :: a9 :: a10 :: a11 :: a :: T) (vi x :: st) F Z := fun hz H locs ls hP hS hL => lv_istore hX.1 hX.2.1 hd hL (by simp only [List.length_cons]; omega) rfl (fun ls' h => k hz H locs ls' hP hS (LSl.st1 h rfl (fun j u hj hu => by cases (show j = 11 by omega); cases hu; exact hc)))
theorem R_lstore_12 (hX : Ok X own cc nL ret fr lo mc ms) {a0 a1 a2 a3 a4 a5 a6 a7 a8 a9 a10 a11 : Option Value} {a a' : Option Value} {T : List (Option Value)} {x : Int} (hc : c1 a11) (hd : decode cc pc = .ok (.lstore 12, 2)) (k : R X sh cs ss (pc + 2) (a0 :: a1 :: a2 :: a3 :: a4 :: a5 :: a6 :: a7 :: a8 :: a9 :: a10 :: a11 :: some (vl x) :: none :: T) st F Z) : R X sh cs ss pc (a0 :: a1 :: a2 :: a3 :: a4 :: a5 :: a6 :: a7 :: a8 :: a9 :: a10 :: a11 :: a :: a' :: T) (vl x :: st) F Z := fun hz H locs ls hP hS hL => lv_lstore hX.1 hX.2.1 hd hL (by simp only [List.length_cons]; omega) rfl (fun ls' h => k hz H locs ls' hP hS (LSl.st2 h rfl (fun j u hj hu => by cases (show j = 11 by omega); cases hu; exact hc)))
theorem R_astore_12 (hX : Ok X own cc nL ret fr lo mc ms) {a0 a1 a2 a3 a4 a5 a6 a7 a8 a9 a10 a11 : Option Value} {a : Option Value} {T : List (Option Value)} {x : Int} (hc : c1 a11) (hd : decode cc pc = .ok (.astore 12, 2)) (k : R X sh cs ss (pc + 2) (a0 :: a1 :: a2 :: a3 :: a4 :: a5 :: a6 :: a7 :: a8 :: a9 :: a10 :: a11 :: some (vr (xV X) x) :: T) st F Z) : R X sh cs ss pc (a0 :: a1 :: a2 :: a3 :: a4 :: a5 :: a6 :: a7 :: a8 :: a9 :: a10 :: a11 :: a :: T) (vr (xV X) x :: st) F Z := fun hz H locs ls hP hS hL => by
  by_cases h : x < 0
  · rw [vr_null h] at k ⊢
    exact lv_astoreN hX.1 hX.2.1 hd hL (by simp only [List.length_cons]; omega) rfl (fun ls' h => k hz H locs ls' hP hS (LSl.st1 h rfl (fun j u hj hu => by cases (show j = 11 by omega); cases hu; exact hc)))
  · rw [vr_ref (by omega)] at k ⊢
    exact lv_astore hX.1 hX.2.1 hd hL (by simp only [List.length_cons]; omega) rfl (fun ls' h => k hz H locs ls' hP hS (LSl.st1 h rfl (fun j u hj hu => by cases (show j = 11 by omega); cases hu; exact hc)))
theorem R_iinc_12 (hX : Ok X own cc nL ret fr lo mc ms) {a0 a1 a2 a3 a4 a5 a6 a7 a8 a9 a10 a11 : Option Value} {T : List (Option Value)} {x n : Int} (hc : c1 a11) (hd : decode cc pc = .ok (.iinc 12 n, 3)) (k : R X sh cs ss (pc + 3) (a0 :: a1 :: a2 :: a3 :: a4 :: a5 :: a6 :: a7 :: a8 :: a9 :: a10 :: a11 :: some (vi (x + n)) :: T) st F Z) : R X sh cs ss pc (a0 :: a1 :: a2 :: a3 :: a4 :: a5 :: a6 :: a7 :: a8 :: a9 :: a10 :: a11 :: some (vi x) :: T) st F Z := fun hz H locs ls hP hS hL => by
  have hl := asc_at (b := 0) (i := 12) (v := vi x) (L := (a0 :: a1 :: a2 :: a3 :: a4 :: a5 :: a6 :: a7 :: a8 :: a9 :: a10 :: a11 :: some (vi x) :: T)) rfl
  obtain ⟨q, hq⟩ := List.getElem?_of_mem hl
  refine lv_iinc (k := q) (v := Int32.ofInt (x + n)) hX.1 hX.2.1 hd hL (by rw [Nat.zero_add] at hq; exact hq) (by rw [Int32.ofInt_add]) (by simp only [List.length_cons]; omega) rfl (fun ls' h => k hz H locs ls' hP hS (LSl.st1 h rfl (fun j u hj hu => by cases (show j = 11 by omega); cases hu; exact hc)))
end RU
end
section
section RH
variable {X : KX} {sh : Shp} {cs ss pc : Nat} {L : List (Option Value)} {st : List Value} {F : Hp} {Z : State → Prop} {own : String} {cc : ByteArray} {nL : Nat} {ret : Option FieldType} {fr lo mc ms : Nat}
theorem fl_same (hX : Ok X own cc nL ret fr lo mc ms) {T : u_T} {k : Nat} {rf : String} (h : rf = (T k).1 ∨ Cond.sameField rf (T k).1 (T k).2.1 (T k).2.2.1 ∈ gwt) : ∀ x, (xs X).fieldFound? (T k).1 (T k).2.1 (T k).2.2.1 = some x → (xs X).fieldFound? rf (T k).2.1 (T k).2.2.1 = some x := fun x hx => by
  rcases h with h | h
  · rw [h]; exact hx
  · exact u_same (hX.2.2.2.2.1 _ h) x hx
theorem R_getf (hX : Ok X own cc nL ret fr lo mc ms) {idx ci : Nat} {j k : Int} {ty : FieldType} {fin : Bool} (hd : decode cc pc = .ok (.getfield idx, 3)) (hf : FLk own idx ci j ty fin) {rs : List Int} (ho : isO sh k ci rs) (hz0 : rs.getD j.toNat (-1) = -1) (kk : R X sh cs ss (pc + 3) L (mkv (xV X) ty (F k j) :: st) F Z) : R X sh cs ss pc L (vr (xV X) k :: st) F Z := by
  intro hz H locs ls hP hS hL
  obtain ⟨hj, hty, C, T, N, rf, hcf, hjN, hl, -, hrf⟩ := hf
  have hcf' := hcf
  obtain ⟨c1', c2, c3, c4, c5⟩ := hcf
  rw [vr_ref ho.1]
  have hw := wl_at (V := xV X) (F := F) ho.2
  refine va_get (v := mkv (xV X) ty (F k j)) hX.1 hX.2.1 hX.2.2.2.2.1 c3 hX.2.2.1 hX.2.2.2.2.2.1 hP k.toNat hw c1' j.toNat hjN (hX.2.2.2.2.1 _ hl) (fl_same hX hrf) ?_ hd (kk hz H locs ls hP hS hL)
  rw [List.getElem?_map, List.getElem?_range (by rw [c2]; exact hjN)]
  show some (fv (xV X) rs (ftys ci j.toNat) j.toNat (F (k.toNat : Int) (j.toNat : Int))) = _
  unfold fv
  rw [hz0, if_neg (by decide), hty, Int.toNat_of_nonneg hj, Int.toNat_of_nonneg ho.1]
theorem R_geti (hX : Ok X own cc nL ret fr lo mc ms) {idx ci : Nat} {j k : Int} {fin : Bool} (hd : decode cc pc = .ok (.getfield idx, 3)) (hf : FLk own idx ci j .int fin) {rs : List Int} (ho : isO sh k ci rs) (hz0 : rs.getD j.toNat (-1) = -1) (kk : R X sh cs ss (pc + 3) L (vi (F k j) :: st) F Z) : R X sh cs ss pc L (vr (xV X) k :: st) F Z := R_getf hX hd hf ho hz0 kk
theorem R_getz (hX : Ok X own cc nL ret fr lo mc ms) {idx ci : Nat} {j k : Int} {fin : Bool} (hd : decode cc pc = .ok (.getfield idx, 3)) (hf : FLk own idx ci j .boolean fin) {rs : List Int} (ho : isO sh k ci rs) (hz0 : rs.getD j.toNat (-1) = -1) (kk : R X sh cs ss (pc + 3) L (vi (F k j) :: st) F Z) : R X sh cs ss pc L (vr (xV X) k :: st) F Z := R_getf hX hd hf ho hz0 kk
theorem R_getl (hX : Ok X own cc nL ret fr lo mc ms) {idx ci : Nat} {j k : Int} {fin : Bool} (hd : decode cc pc = .ok (.getfield idx, 3)) (hf : FLk own idx ci j .long fin) {rs : List Int} (ho : isO sh k ci rs) (hz0 : rs.getD j.toNat (-1) = -1) (kk : R X sh cs ss (pc + 3) L (vl (F k j) :: st) F Z) : R X sh cs ss pc L (vr (xV X) k :: st) F Z := R_getf hX hd hf ho hz0 kk
theorem R_geto (hX : Ok X own cc nL ret fr lo mc ms) {idx ci : Nat} {j k : Int} {fin : Bool} {n : String} (hd : decode cc pc = .ok (.getfield idx, 3)) (hf : FLk own idx ci j (.object n) fin) {rs : List Int} (ho : isO sh k ci rs) (hz0 : rs.getD j.toNat (-1) = -1) (kk : R X sh cs ss (pc + 3) L (vr (xV X) (F k j) :: st) F Z) : R X sh cs ss pc L (vr (xV X) k :: st) F Z := R_getf hX hd hf ho hz0 kk
theorem R_geta (hX : Ok X own cc nL ret fr lo mc ms) {idx ci : Nat} {j k : Int} {fin : Bool} {t : FieldType} (hm : ∀ V x, mkv V (.array t) x = vr V x) (hd : decode cc pc = .ok (.getfield idx, 3)) (hf : FLk own idx ci j (.array t) fin) {rs : List Int} (ho : isO sh k ci rs) (hz0 : rs.getD j.toNat (-1) = -1) (kk : R X sh cs ss (pc + 3) L (vr (xV X) (F k j) :: st) F Z) : R X sh cs ss pc L (vr (xV X) k :: st) F Z := R_getf hX hd hf ho hz0 (by rw [hm]; exact kk)
theorem R_getq (hX : Ok X own cc nL ret fr lo mc ms) {idx ci : Nat} {j k v : Int} {ty : FieldType} {fin : Bool} (hd : decode cc pc = .ok (.getfield idx, 3)) (hf : FLk own idx ci j ty fin) {rs : List Int} (ho : isO sh k ci rs) (hv : rs.getD j.toNat (-1) = v) (h0 : 0 ≤ v) (kk : R X sh cs ss (pc + 3) L (vr (xV X) v :: st) F Z) : R X sh cs ss pc L (vr (xV X) k :: st) F Z := by
  intro hz H locs ls hP hS hL
  obtain ⟨hj, hty, C, T, N, rf, hcf, hjN, hl, -, hrf⟩ := hf
  have hcf' := hcf
  obtain ⟨c1', c2, c3, c4, c5⟩ := hcf
  rw [vr_ref ho.1]
  have hw := wl_at (V := xV X) (F := F) ho.2
  refine va_get (v := vr (xV X) v) hX.1 hX.2.1 hX.2.2.2.2.1 c3 hX.2.2.1 hX.2.2.2.2.2.1 hP k.toNat hw c1' j.toNat hjN (hX.2.2.2.2.1 _ hl) (fl_same hX hrf) ?_ hd (kk hz H locs ls hP hS hL)
  rw [List.getElem?_map, List.getElem?_range (by rw [c2]; exact hjN)]
  show some (fv (xV X) rs (ftys ci j.toNat) j.toNat (F (k.toNat : Int) (j.toNat : Int))) = _
  unfold fv
  rw [hv, if_pos h0]
theorem cE_put {V : VX} {F : Hp} {k : Nat} {ci j : Nat} {rs : List Int} {x : Int} (hj : j < fN ci) (hz0 : rs.getD j (-1) = -1) : (cE V (.inl (ci, rs)) (up F (k : Int) (j : Int) x (k : Int))) = .inr (ci, ((List.range (fN ci)).map fun (i : Nat) => fv V rs (ftys ci i) i (F (k : Int) (i : Int))).set j (mkv V (ftys ci j) x)) := by
  show Sum.inr _ = Sum.inr _
  congr 2
  apply List.ext_getElem?
  intro i
  by_cases hi : i < fN ci
  · rw [List.getElem?_map, List.getElem?_range hi]
    by_cases hij : i = j
    · subst hij
      rw [List.getElem?_set_self (by simpa using hi)]
      show some (fv V rs (ftys ci i) i (up F k i x k i)) = _
      unfold fv
      rw [up_s, hz0, if_neg (by decide)]
    · rw [List.getElem?_set_ne (fun e => hij e.symm), List.getElem?_map, List.getElem?_range hi]
      show some (fv V rs (ftys ci i) i (up F k j x k i)) = some (fv V rs (ftys ci i) i (F k i))
      rw [up_i (by omega)]
  · rw [List.getElem?_eq_none (by simp; omega), List.getElem?_eq_none (by simp; omega)]
theorem wl_put {V : VX} {sh : Shp} {F : Hp} {k : Int} {ci : Nat} {rs : List Int} {j x : Int} (ho : isO sh k ci rs) (hj : 0 ≤ j) (hj2 : j.toNat < fN ci) (hz0 : rs.getD j.toNat (-1) = -1) :
    (wl V sh F).set k.toNat (vB V + k.toNat, .inr (ci, ((List.range (fN ci)).map fun (i : Nat) => fv V rs (ftys ci i) i (F (k.toNat : Int) (i : Int))).set j.toNat (mkv V (ftys ci j.toNat) x))) = wl V sh (up F k j x) := by
  have e := wl_ext (V := V) (F := F) (F' := up F k j x) ho.2 (fun i hi hne => up_row (by have := ho.1; omega))
  rw [← e]
  congr 1
  have h2 := cE_put (V := V) (F := F) (k := k.toNat) (x := x) hj2 hz0
  rw [Int.toNat_of_nonneg hj, Int.toNat_of_nonneg ho.1] at h2
  rw [Int.toNat_of_nonneg ho.1, h2]
theorem mkv_nar {V : VX} {ty : FieldType} {x : Int} (h : ty = .int ∨ ty = .long ∨ (∃ n, ty = .object n) ∨ (∃ t, ty = .array t) ∨ ((ty = .boolean ∨ ty = .byte) ∧ (x = 0 ∨ x = 1))) : narrow ty (mkv V ty x) = mkv V ty x ∧ fits ty (mkv V ty x) = true := by
  rcases h with rfl | rfl | ⟨n, rfl⟩ | ⟨t, rfl⟩ | ⟨rfl | rfl, rfl | rfl⟩
  · exact ⟨rfl, rfl⟩
  · exact ⟨rfl, rfl⟩
  · unfold mkv vr
    dsimp only
    split <;> exact ⟨rfl, rfl⟩
  · unfold mkv
    cases t <;> (dsimp only; first | (unfold vr; split <;> exact ⟨rfl, rfl⟩) | (unfold vq vr; split <;> (try split) <;> exact ⟨rfl, rfl⟩))
  · exact ⟨rfl, rfl⟩
  · exact ⟨rfl, rfl⟩
  · exact ⟨rfl, rfl⟩
  · exact ⟨rfl, rfl⟩
theorem R_putf (hX : Ok X own cc nL ret fr lo mc ms) {idx ci : Nat} {j k x : Int} {ty : FieldType} (hd : decode cc pc = .ok (.putfield idx, 3)) (hf : FLk own idx ci j ty false) {rs : List Int} (ho : isO sh k ci rs) (hz0 : rs.getD j.toNat (-1) = -1) (ht : ty = .int ∨ ty = .long ∨ (∃ n, ty = .object n) ∨ (∃ t, ty = .array t) ∨ ((ty = .boolean ∨ ty = .byte) ∧ (x = 0 ∨ x = 1))) (kk : R X sh cs ss (pc + 3) L st (up F k j x) Z) : R X sh cs ss pc L (mkv (xV X) ty x :: vr (xV X) k :: st) F Z := by
  intro hz H locs ls hP hS hL
  obtain ⟨hj, hty, C, T, N, rf, hcf, hjN, hl, hfin, hrf⟩ := hf
  have hcf' := hcf
  obtain ⟨q1, q2, q3, q4, q5⟩ := hcf
  rw [vr_ref ho.1]
  have hw := wl_at (V := xV X) (F := F) ho.2
  obtain ⟨hn, hfit⟩ := mkv_nar (V := xV X) ht
  subst hty
  refine va_put (v := mkv (xV X) (ftys ci j.toNat) x) hX.1 hX.2.1 hX.2.2.2.2.1 q3 (ftys ci) q5 q4 hX.2.2.1 hX.2.2.2.2.2.1 hP wl_D hS k.toNat hw q1 j.toNat hjN (hX.2.2.2.2.1 _ hl) (fl_same hX hrf) hfin (q5 _ hjN) hn hfit (by simp; omega) hd (fun H1 locs1 hP1 hD1 hS1 => ?_)
  rw [wl_put ho hj (by omega) hz0] at hP1
  exact kk hz H1 locs1 ls hP1 hS1 hL
theorem R_puti (hX : Ok X own cc nL ret fr lo mc ms) {idx ci : Nat} {j k x : Int} (hd : decode cc pc = .ok (.putfield idx, 3)) (hf : FLk own idx ci j .int false) {rs : List Int} (ho : isO sh k ci rs) (hz0 : rs.getD j.toNat (-1) = -1) (kk : R X sh cs ss (pc + 3) L st (up F k j x) Z) : R X sh cs ss pc L (vi x :: vr (xV X) k :: st) F Z := R_putf hX hd hf ho hz0 (Or.inl rfl) kk
theorem R_putl (hX : Ok X own cc nL ret fr lo mc ms) {idx ci : Nat} {j k x : Int} (hd : decode cc pc = .ok (.putfield idx, 3)) (hf : FLk own idx ci j .long false) {rs : List Int} (ho : isO sh k ci rs) (hz0 : rs.getD j.toNat (-1) = -1) (kk : R X sh cs ss (pc + 3) L st (up F k j x) Z) : R X sh cs ss pc L (vl x :: vr (xV X) k :: st) F Z := R_putf hX hd hf ho hz0 (Or.inr (Or.inl rfl)) kk
theorem R_puto (hX : Ok X own cc nL ret fr lo mc ms) {idx ci : Nat} {j k x : Int} {n : String} (hd : decode cc pc = .ok (.putfield idx, 3)) (hf : FLk own idx ci j (.object n) false) {rs : List Int} (ho : isO sh k ci rs) (hz0 : rs.getD j.toNat (-1) = -1) (kk : R X sh cs ss (pc + 3) L st (up F k j x) Z) : R X sh cs ss pc L (vr (xV X) x :: vr (xV X) k :: st) F Z := R_putf hX hd hf ho hz0 (Or.inr (Or.inr (Or.inl ⟨n, rfl⟩))) kk
theorem R_putz (hX : Ok X own cc nL ret fr lo mc ms) {idx ci : Nat} {j k x : Int} (hd : decode cc pc = .ok (.putfield idx, 3)) (hf : FLk own idx ci j .boolean false) {rs : List Int} (ho : isO sh k ci rs) (hz0 : rs.getD j.toNat (-1) = -1) (hb : x = 0 ∨ x = 1) (kk : R X sh cs ss (pc + 3) L st (up F k j x) Z) : R X sh cs ss pc L (vi x :: vr (xV X) k :: st) F Z := R_putf hX hd hf ho hz0 (Or.inr (Or.inr (Or.inr (Or.inr ⟨Or.inl rfl, hb⟩)))) kk
theorem R_puta (hX : Ok X own cc nL ret fr lo mc ms) {idx ci : Nat} {j k x : Int} {t : FieldType} (hm : ∀ V x, mkv V (.array t) x = vr V x) (hd : decode cc pc = .ok (.putfield idx, 3)) (hf : FLk own idx ci j (.array t) false) {rs : List Int} (ho : isO sh k ci rs) (hz0 : rs.getD j.toNat (-1) = -1) (kk : R X sh cs ss (pc + 3) L st (up F k j x) Z) : R X sh cs ss pc L (vr (xV X) x :: vr (xV X) k :: st) F Z := by rw [← hm]; exact R_putf hX hd hf ho hz0 (Or.inr (Or.inr (Or.inr (Or.inl ⟨t, rfl⟩)))) kk
theorem R_putb (hX : Ok X own cc nL ret fr lo mc ms) {idx ci : Nat} {j k x : Int} (hd : decode cc pc = .ok (.putfield idx, 3)) (hf : FLk own idx ci j .byte false) {rs : List Int} (ho : isO sh k ci rs) (hz0 : rs.getD j.toNat (-1) = -1) (hb : x = 0 ∨ x = 1) (kk : R X sh cs ss (pc + 3) L st (up F k j x) Z) : R X sh cs ss pc L (vi x :: vr (xV X) k :: st) F Z := R_putf hX hd hf ho hz0 (Or.inr (Or.inr (Or.inr (Or.inr ⟨Or.inr rfl, hb⟩)))) kk
theorem R_putF (hX : Ok X own cc nL ret fr lo mc ms) {idx ci : Nat} {j k x : Int} {ty : FieldType} (hin : (xM X).name = "<init>") (hd : decode cc pc = .ok (.putfield idx, 3)) (hf : FLk own idx ci j ty true) (hoc : vwCl[ci]?.map (fun q => (q.2.1 j.toNat).1) = some own) {rs : List Int} (ho : isO sh k ci rs) (hz0 : rs.getD j.toNat (-1) = -1) (ht : ty = .int ∨ ty = .long ∨ (∃ n, ty = .object n) ∨ (∃ t, ty = .array t) ∨ ((ty = .boolean ∨ ty = .byte) ∧ (x = 0 ∨ x = 1))) (kk : R X sh cs ss (pc + 3) L st (up F k j x) Z) : R X sh cs ss pc L (mkv (xV X) ty x :: vr (xV X) k :: st) F Z := by
  intro hz H locs ls hP hS hL
  obtain ⟨hj, hty, C, T, N, rf, hcf, hjN, hl, hfin, hrf⟩ := hf
  have hcf' := hcf
  obtain ⟨q1, q2, q3, q4, q5⟩ := hcf
  have hown : (T j.toNat).1 = own := by
    rw [q1] at hoc
    exact Option.some.inj hoc
  rw [vr_ref ho.1]
  have hw := wl_at (V := xV X) (F := F) ho.2
  obtain ⟨hn, hfit⟩ := mkv_nar (V := xV X) ht
  subst hty
  refine va_putF (v := mkv (xV X) (ftys ci j.toNat) x) hX.1 hX.2.1 hX.2.2.2.2.1 q3 (ftys ci) q5 q4 hX.2.2.1 hX.2.2.2.2.2.1 hP wl_D hS k.toNat hw q1 j.toNat hjN (hX.2.2.2.2.1 _ hl) (fl_same hX hrf) hfin hin hown (q5 _ hjN) hn hfit (by simp; omega) hd (fun H1 locs1 hP1 hD1 hS1 => ?_)
  rw [wl_put ho hj (by omega) hz0] at hP1
  exact kk hz H1 locs1 ls hP1 hS1 hL
theorem R_putFo (hX : Ok X own cc nL ret fr lo mc ms) {idx ci : Nat} {j k x : Int} {n : String} (hin : (xM X).name = "<init>") (hd : decode cc pc = .ok (.putfield idx, 3)) (hf : FLk own idx ci j (.object n) true) (hoc : vwCl[ci]?.map (fun q => (q.2.1 j.toNat).1) = some own) {rs : List Int} (ho : isO sh k ci rs) (hz0 : rs.getD j.toNat (-1) = -1) (kk : R X sh cs ss (pc + 3) L st (up F k j x) Z) : R X sh cs ss pc L (vr (xV X) x :: vr (xV X) k :: st) F Z := R_putF hX hin hd hf hoc ho hz0 (Or.inr (Or.inr (Or.inl ⟨n, rfl⟩))) kk
theorem R_putFa (hX : Ok X own cc nL ret fr lo mc ms) {idx ci : Nat} {j k x : Int} {t : FieldType} (hm : ∀ V x, mkv V (.array t) x = vr V x) (hin : (xM X).name = "<init>") (hd : decode cc pc = .ok (.putfield idx, 3)) (hf : FLk own idx ci j (.array t) true) (hoc : vwCl[ci]?.map (fun q => (q.2.1 j.toNat).1) = some own) {rs : List Int} (ho : isO sh k ci rs) (hz0 : rs.getD j.toNat (-1) = -1) (kk : R X sh cs ss (pc + 3) L st (up F k j x) Z) : R X sh cs ss pc L (vr (xV X) x :: vr (xV X) k :: st) F Z := by rw [← hm]; exact R_putF hX hin hd hf hoc ho hz0 (Or.inr (Or.inr (Or.inr (Or.inl ⟨t, rfl⟩)))) kk
-- arrays
theorem ix_in {i : Int} {n : Nat} (hi : 0 ≤ i) (hn : i < n) (h : n < 2147483648) : vp_in (Int32.ofInt i) n ∧ (Int32.ofInt i).toNatClampNeg = i.toNat := by
  have e : (Int32.ofInt i).toInt = i := i32_to (by unfold I32; omega)
  refine ⟨vp_in_iff.mpr ⟨by omega, by omega⟩, ?_⟩
  show (Int32.ofInt i).toInt.toNat = _
  rw [e]
theorem ty_at (V : VX) : (tys4 V)[0]? = some (vA V .int, .int) ∧ (tys4 V)[1]? = some (vA V .long, .long) ∧ (tys4 V)[2]? = some (vA V .boolean, .boolean) ∧ (tys4 V)[3]? = some (vA V .byte, .byte) := ⟨rfl, rfl, rfl, rfl⟩
theorem upd_up {F : Hp} {k i x : Int} (hk : 0 ≤ k) (hi : 0 ≤ i) {z : Int32} (hz : z = Int32.ofInt x) : upd (fun j : Nat => Int32.ofInt (F (k.toNat : Int) (j : Int))) i.toNat z = fun j : Nat => Int32.ofInt (up F k i x (k.toNat : Int) (j : Int)) := by
  funext j
  unfold upd
  rw [Int.toNat_of_nonneg hk]
  by_cases h : j = i.toNat
  · rw [if_pos h, show ((j : Nat) : Int) = i by omega, up_s, hz]
  · rw [if_neg h, up_i (by omega)]
theorem updL_up {F : Hp} {k i x : Int} (hk : 0 ≤ k) (hi : 0 ≤ i) : vp_updL (fun j : Nat => Int64.ofInt (F (k.toNat : Int) (j : Int))) i.toNat (Int64.ofInt x) = fun j : Nat => Int64.ofInt (up F k i x (k.toNat : Int) (j : Int)) := by
  funext j
  unfold vp_updL
  rw [Int.toNat_of_nonneg hk]
  by_cases h : j = i.toNat
  · rw [if_pos h, show ((j : Nat) : Int) = i by omega, up_s]
  · rw [if_neg h, up_i (by omega)]
theorem R_iald (hX : Ok X own cc nL ret fr lo mc ms) {k i : Int} {n : Nat} (hd : decode cc pc = .ok (.iaload, 1)) (ha : isA sh k .int n) (hi : 0 ≤ i ∧ i < n) (kk : R X sh cs ss (pc + 1) L (vi (F k i) :: st) F Z) : R X sh cs ss pc L (vi i :: vr (xV X) k :: st) F Z := by
  intro hz H locs ls hP hS hL
  rw [vr_ref ha.1]
  obtain ⟨h1, h2⟩ := ix_in hi.1 hi.2 ha.2.2
  refine va_iald hX.1 hX.2.1 hX.2.2.2.2.2.1 hP k.toNat 0 (wl_at ha.2.1) rfl h1 hd ?_
  have h := kk hz H locs ls hP hS hL
  rw [h2, Int.toNat_of_nonneg hi.1, Int.toNat_of_nonneg ha.1]
  exact h
theorem R_bald (hX : Ok X own cc nL ret fr lo mc ms) {k i : Int} {n : Nat} (hd : decode cc pc = .ok (.baload, 1)) (ha : isA sh k .byte n) (hi : 0 ≤ i ∧ i < n) (kk : R X sh cs ss (pc + 1) L (vi (F k i) :: st) F Z) : R X sh cs ss pc L (vi i :: vr (xV X) k :: st) F Z := by
  intro hz H locs ls hP hS hL
  rw [vr_ref ha.1]
  obtain ⟨h1, h2⟩ := ix_in hi.1 hi.2 ha.2.2
  refine va_bald hX.1 hX.2.1 hX.2.2.2.2.2.1 hP k.toNat 3 (wl_at ha.2.1) rfl h1 hd ?_
  have h := kk hz H locs ls hP hS hL
  rw [h2, Int.toNat_of_nonneg hi.1, Int.toNat_of_nonneg ha.1]
  exact h
theorem R_zald (hX : Ok X own cc nL ret fr lo mc ms) {k i : Int} {n : Nat} (hd : decode cc pc = .ok (.baload, 1)) (ha : isA sh k .boolean n) (hi : 0 ≤ i ∧ i < n) (kk : R X sh cs ss (pc + 1) L (vi (F k i) :: st) F Z) : R X sh cs ss pc L (vi i :: vr (xV X) k :: st) F Z := by
  intro hz H locs ls hP hS hL
  rw [vr_ref ha.1]
  obtain ⟨h1, h2⟩ := ix_in hi.1 hi.2 ha.2.2
  refine va_zald hX.1 hX.2.1 hX.2.2.2.2.2.1 hP k.toNat 2 (wl_at ha.2.1) rfl h1 hd ?_
  have h := kk hz H locs ls hP hS hL
  rw [h2, Int.toNat_of_nonneg hi.1, Int.toNat_of_nonneg ha.1]
  exact h
theorem R_lald (hX : Ok X own cc nL ret fr lo mc ms) {k i : Int} {n : Nat} (hd : decode cc pc = .ok (.laload, 1)) (ha : isA sh k .long n) (hi : 0 ≤ i ∧ i < n) (kk : R X sh cs ss (pc + 1) L (vl (F k i) :: st) F Z) : R X sh cs ss pc L (vi i :: vr (xV X) k :: st) F Z := by
  intro hz H locs ls hP hS hL
  rw [vr_ref ha.1]
  obtain ⟨h1, h2⟩ := ix_in hi.1 hi.2 ha.2.2
  refine va_lald hX.1 hX.2.1 hX.2.2.2.2.2.1 hP k.toNat 1 (wl_at ha.2.1) rfl h1 hd ?_
  have h := kk hz H locs ls hP hS hL
  rw [h2, Int.toNat_of_nonneg hi.1, Int.toNat_of_nonneg ha.1]
  exact h
theorem R_alen (hX : Ok X own cc nL ret fr lo mc ms) {k : Int} {n : Nat} {ty : FieldType} (ht : ty = .int ∨ ty = .long ∨ ty = .boolean ∨ ty = .byte) (hd : decode cc pc = .ok (.arraylength, 1)) (ha : isA sh k ty n) (kk : R X sh cs ss (pc + 1) L (vi (n : Int) :: st) F Z) : R X sh cs ss pc L (vr (xV X) k :: st) F Z := by
  intro hz H locs ls hP hS hL
  rw [vr_ref ha.1]
  have h := kk hz H locs ls hP hS hL
  have e : Int32.ofNat n = Int32.ofInt (n : Int) := rfl
  rcases ht with rfl | rfl | rfl | rfl
  · exact va_alen hX.1 hX.2.1 hX.2.2.2.2.2.1 hP k.toNat 0 (wl_at ha.2.1) rfl e hd h
  · exact va_alen hX.1 hX.2.1 hX.2.2.2.2.2.1 hP k.toNat 1 (wl_at ha.2.1) rfl e hd h
  · exact va_alen hX.1 hX.2.1 hX.2.2.2.2.2.1 hP k.toNat 2 (wl_at ha.2.1) rfl e hd h
  · exact va_alen hX.1 hX.2.1 hX.2.2.2.2.2.1 hP k.toNat 3 (wl_at ha.2.1) rfl e hd h
theorem wl_ast {V : VX} {sh : Shp} {F : Hp} {k i x : Int} {n : Nat} {ty : FieldType} (ha : isA sh k ty n) (hi : 0 ≤ i) : (wl V sh F).set k.toNat (vB V + k.toNat, .inl (vA V ty, aE V ty n (up F k i x (k.toNat : Int)))) = wl V sh (up F k i x) :=
  wl_ext (V := V) (F := F) (F' := up F k i x) ha.2.1 (fun j hj hne => up_row (by have := ha.1; omega))
theorem R_iast (hX : Ok X own cc nL ret fr lo mc ms) {k i x : Int} {n : Nat} (hd : decode cc pc = .ok (.iastore, 1)) (ha : isA sh k .int n) (hi : 0 ≤ i ∧ i < n) (kk : R X sh cs ss (pc + 1) L st (up F k i x) Z) : R X sh cs ss pc L (vi x :: vi i :: vr (xV X) k :: st) F Z := by
  intro hz H locs ls hP hS hL
  rw [vr_ref ha.1]
  obtain ⟨h1, h2⟩ := ix_in hi.1 hi.2 ha.2.2
  refine va_iast hX.1 hX.2.1 hX.2.2.2.2.2.1 hP wl_D hS k.toNat 0 (wl_at ha.2.1) rfl h1 hd (fun H1 locs1 hP1 hD1 hS1 => ?_)
  rw [h2, upd_up (x := x) ha.1 hi.1 rfl] at hP1
  have e := wl_ast (V := xV X) (F := F) (x := x) ha hi.1
  unfold aE at e
  rw [e] at hP1
  exact kk hz H1 locs1 ls hP1 hS1 hL
theorem R_bast (hX : Ok X own cc nL ret fr lo mc ms) {k i x : Int} {n : Nat} (hd : decode cc pc = .ok (.bastore, 1)) (ha : isA sh k .byte n) (hi : 0 ≤ i ∧ i < n) (kk : R X sh cs ss (pc + 1) L st (up F k i (b8 x)) Z) : R X sh cs ss pc L (vi x :: vi i :: vr (xV X) k :: st) F Z := by
  intro hz H locs ls hP hS hL
  rw [vr_ref ha.1]
  obtain ⟨h1, h2⟩ := ix_in hi.1 hi.2 ha.2.2
  refine va_bast hX.1 hX.2.1 hX.2.2.2.2.2.1 hP wl_D hS k.toNat 3 (wl_at ha.2.1) rfl h1 hd (fun H1 locs1 hP1 hD1 hS1 => ?_)
  rw [h2, upd_up (x := b8 x) ha.1 hi.1 (by rw [vp_nar_byte]; unfold b8; rw [Int32.ofInt_toInt])] at hP1
  have e := wl_ast (V := xV X) (F := F) (x := b8 x) ha hi.1
  unfold aE at e
  rw [e] at hP1
  exact kk hz H1 locs1 ls hP1 hS1 hL
theorem R_zast (hX : Ok X own cc nL ret fr lo mc ms) {k i x : Int} {n : Nat} (hd : decode cc pc = .ok (.bastore, 1)) (ha : isA sh k .boolean n) (hi : 0 ≤ i ∧ i < n) (hx : x = 0 ∨ x = 1) (kk : R X sh cs ss (pc + 1) L st (up F k i x) Z) : R X sh cs ss pc L (vi x :: vi i :: vr (xV X) k :: st) F Z := by
  intro hz H locs ls hP hS hL
  rw [vr_ref ha.1]
  obtain ⟨h1, h2⟩ := ix_in hi.1 hi.2 ha.2.2
  refine va_zast hX.1 hX.2.1 hX.2.2.2.2.2.1 hP wl_D hS k.toNat 2 (wl_at ha.2.1) rfl h1 hd (fun H1 locs1 hP1 hD1 hS1 => ?_)
  rw [h2, upd_up (x := x) ha.1 hi.1 (by rcases hx with rfl | rfl <;> rfl)] at hP1
  have e := wl_ast (V := xV X) (F := F) (x := x) ha hi.1
  unfold aE at e
  rw [e] at hP1
  exact kk hz H1 locs1 ls hP1 hS1 hL
theorem R_last (hX : Ok X own cc nL ret fr lo mc ms) {k i x : Int} {n : Nat} (hd : decode cc pc = .ok (.lastore, 1)) (ha : isA sh k .long n) (hi : 0 ≤ i ∧ i < n) (kk : R X sh cs ss (pc + 1) L st (up F k i x) Z) : R X sh cs ss pc L (vl x :: vi i :: vr (xV X) k :: st) F Z := by
  intro hz H locs ls hP hS hL
  rw [vr_ref ha.1]
  obtain ⟨h1, h2⟩ := ix_in hi.1 hi.2 ha.2.2
  refine va_last hX.1 hX.2.1 hX.2.2.2.2.2.1 hP wl_D hS k.toNat 1 (wl_at ha.2.1) rfl h1 hd (fun H1 locs1 hP1 hD1 hS1 => ?_)
  rw [h2, updL_up (x := x) ha.1 hi.1] at hP1
  have e := wl_ast (V := xV X) (F := F) (x := x) ha hi.1
  unfold aE at e
  rw [e] at hP1
  exact kk hz H1 locs1 ls hP1 hS1 hL
/-- the statics' tables -/
theorem R_tald (hX : Ok X own cc nL ret fr lo mc ms) {t : Nat} {i : Int} {f : Nat → Int} (hT : va_T .int t 6 (fun j => vi (f j)) (AB (xV X)) (xs X) (xs X).heap) (hd : decode cc pc = .ok (.iaload, 1)) (hi : 0 ≤ i ∧ i < 6) (kk : R X sh cs ss (pc + 1) L (vi (f i.toNat) :: st) F Z) : R X sh cs ss pc L (vi i :: .ref t :: st) F Z := by
  intro hz H locs ls hP hS hL
  obtain ⟨h1, h2⟩ := ix_in (n := 6) hi.1 (by omega) (by omega)
  exact va_ti hX.1 hX.2.1 hT hS h1 (by rw [h2]) hd (kk hz H locs ls hP hS hL)
theorem R_gets (hX : Ok X own cc nL ret fr lo mc ms) {n d : String} {idx t : Nat} (hZ : va_Z own n d (.ref t) (AB (xV X)) (xs X) (xs X).heap) (hl : Cond.fieldLink own idx own n d ∈ gwt) (hd : decode cc pc = .ok (.getstatic idx, 3)) (kk : R X sh cs ss (pc + 3) L (.ref t :: st) F Z) : R X sh cs ss pc L st F Z :=
  fun hz H locs ls hP hS hL => va_gets hX.1 hX.2.1 hZ hS hX.2.2.1 (hX.2.2.2.2.1 _ hl) (fun _ h => h) hd (kk hz H locs ls hP hS hL)
theorem R_getsN (hX : Ok X own cc nL ret fr lo mc ms) {C n d host : String} {idx t : Nat} (hZ : va_Z C n d (.ref t) (AB (xV X)) (xs X) (xs X).heap) (hl : Cond.fieldLinkNest own idx C n d host ∈ nst) (hd : decode cc pc = .ok (.getstatic idx, 3)) (kk : R X sh cs ss (pc + 3) L (.ref t :: st) F Z) : R X sh cs ss pc L st F Z :=
  fun hz H locs ls hP hS hL => va_getsN hX.1 hX.2.1 hZ hS hX.2.2.1 (hX.2.2.2.2.2.2.1.nest hl rfl) (fun _ h => h) hd (kk hz H locs ls hP hS hL)
/-- System.arraycopy over ints -/
def cpy (F : Hp) (a sp b dp n : Int) : Hp := fun q i => if q = b ∧ dp ≤ i ∧ i < dp + n then F a (sp + (i - dp)) else F q i
theorem R_acopy (hX : Ok X own cc nL ret fr lo mc ms) {a b sp dp n : Int} {na nb idx : Nat} (hd : decode cc pc = .ok (.invokestatic idx, 3)) (hl : Cond.methodLink own idx arraycopyName ∈ gwt) (hnat : Cond.native arraycopyName ∈ gwt) (hst : Cond.static arraycopyName ∈ gwt) (hini : Cond.initialized "java/lang/System" ∈ gwt) (ha : isA sh a .int na) (hb : isA sh b .int nb) (h1 : 0 ≤ sp) (h2 : 0 ≤ dp) (h3 : 0 ≤ n) (h4 : sp + n ≤ na) (h5 : dp + n ≤ nb) (hr : 1 ≤ fr ∧ 60 ≤ lo) (hL' : L.length = nL) (hst2 : st.length ≤ 4) (kk : R X sh cs ss (pc + 3) L st (cpy F a sp b dp n) Z) : R X sh cs ss pc L (vi n :: vi dp :: vr (xV X) b :: vi sp :: vr (xV X) a :: st) F Z := by
  intro hz H locs ls hP hS hL
  rw [vr_ref ha.1, vr_ref hb.1]
  have z : ∀ q : Int, 0 ≤ q → q ≤ 2147483647 → ¬ (Int32.ofInt q < 0) ∧ (Int32.ofInt q).toNatClampNeg = q.toNat := by
    intro q hq hq2
    have e : (Int32.ofInt q).toInt = q := i32_to (by unfold I32; omega)
    refine ⟨fun h => ?_, ?_⟩
    · have := Int32.lt_iff_toInt_lt.mp h
      rw [e] at this
      simp at this
      omega
    · show (Int32.ofInt q).toInt.toNat = _
      rw [e]
  have hna := ha.2.2
  have hnb := hb.2.2
  obtain ⟨z1, y1⟩ := z sp h1 (by omega)
  obtain ⟨z2, y2⟩ := z dp h2 (by omega)
  obtain ⟨z3, y3⟩ := z n h3 (by omega)
  have hcat : (st.map fun v => v.category).sum ≤ 8 := by
    have : ∀ l : List Value, (l.map fun v => v.category).sum ≤ 2 * l.length := by
      intro l
      induction l with
      | nil => simp
      | cons v l ih =>
        have hv : v.category ≤ 2 := by rcases lv_cat v with h | h <;> omega
        simp only [List.map_cons, List.sum_cons, List.length_cons]
        omega
    have := this st
    omega
  have hnw : nativeFrameWords "java/lang/System" "arraycopy" 5 + 11 ≤ 52 := by decide
  have hr2 := hX.2.2.2.2.2.2.2.2.2
  refine va_copyi hX.1 hX.2.1 (by rw [hX.2.2.2.1, hL.1, hL']) hX.2.2.1 (hX.2.2.2.2.1 _ hl) (hX.2.2.2.2.1 _ hnat) (hX.2.2.2.2.1 _ hst) (hX.2.2.2.2.1 _ hini) hX.2.2.2.2.2.1 hP wl_D hS a.toNat b.toNat 0 0 (wl_at ha.2.1) (wl_at hb.2.1) rfl rfl rfl z1 z2 z3 (by omega) (by omega) (fun _ _ => rfl) (by omega) (by omega) hd (fun H1 locs1 hP1 hD1 hS1 => ?_)
  have e := wl_ext (V := xV X) (F := F) (F' := cpy F a sp b dp n) hb.2.1 (fun j hj hne => by
    funext i
    unfold cpy
    rw [if_neg (fun q => hne (by have := q.1; omega))])
  have e2 : va_cpy (fun j : Nat => Int32.ofInt (F (a.toNat : Int) (j : Int))) (fun j : Nat => Int32.ofInt (F (b.toNat : Int) (j : Int))) (Int32.ofInt sp).toNatClampNeg (Int32.ofInt dp).toNatClampNeg (Int32.ofInt n).toNatClampNeg = fun j : Nat => Int32.ofInt (cpy F a sp b dp n (b.toNat : Int) (j : Int)) := by
    rw [y1, y2, y3]
    funext j
    unfold va_cpy cpy
    have hb1 := hb.1
    have ha1 := ha.1
    by_cases h : dp.toNat ≤ j ∧ j < dp.toNat + n.toNat
    · rw [if_pos h, if_pos ⟨by omega, by omega, by omega⟩]
      show Int32.ofInt (F (a.toNat : Int) ((sp.toNat + (j - dp.toNat) : Nat) : Int)) = Int32.ofInt (F a (sp + ((j : Int) - dp)))
      rw [Int.toNat_of_nonneg ha1, show ((sp.toNat + (j - dp.toNat) : Nat) : Int) = sp + ((j : Int) - dp) by omega]
    · rw [if_neg h, if_neg (fun q => h ⟨by omega, by omega⟩)]
  rw [e2] at hP1
  have e3 : (wl (xV X) sh F).set b.toNat (vB (xV X) + b.toNat, Sum.inl (vA (xV X) .int, nb, Sum.inl fun j : Nat => Int32.ofInt (cpy F a sp b dp n (b.toNat : Int) (j : Int)))) = wl (xV X) sh (cpy F a sp b dp n) := e
  rw [e3] at hP1
  exact kk hz H1 locs1 ls hP1 hS1 hL
/-- Math -/
theorem R_mmin (hX : Ok X own cc nL ret fr lo mc ms) {x y : Int} {idx : Nat} (hd : decode cc pc = .ok (.invokestatic idx, 3)) (hl : Cond.methodLink own idx Lib.Math.min.name ∈ gwt) (hst : Cond.static Lib.Math.min.name ∈ gwt) (hini : Cond.initialized "java/lang/Math" ∈ gwt) (hco : Cond.code Lib.Math.min.name Lib.Math.min.code 2 (some .int) ∈ gwt) (hx : I32 x) (hy : I32 y) (hr : 1 ≤ fr ∧ 21 ≤ lo ∧ cs ≤ mc ∧ ss ≤ ms) (hL' : L.length = nL) (hst2 : st.length ≤ 4) (kk : R X sh cs ss (pc + 3) L (vi (min x y) :: st) F Z) : R X sh cs ss pc L (vi y :: vi x :: st) F Z := by
  intro hz H locs ls hP hS hL
  have hcat : (st.map fun v => v.category).sum ≤ 8 := by
    have : ∀ l : List Value, (l.map fun v => v.category).sum ≤ 2 * l.length := by
      intro l
      induction l with
      | nil => simp
      | cons v l ih =>
        have hv : v.category ≤ 2 := by rcases lv_cat v with h | h <;> omega
        simp only [List.map_cons, List.sum_cons, List.length_cons]
        omega
    have := this st
    omega
  have hr2 := hX.2.2.2.2.2.2.2.2.2
  refine va_mmin hX.1 hX.2.1 (by rw [hX.2.2.2.1, hL.1, hL']) hX.2.2.1 (hX.2.2.2.2.1 _ hl) (hX.2.2.2.2.1 _ hst) (hX.2.2.2.2.1 _ hini) (hX.2.2.2.2.1 _ hco) (by omega) (by omega) (by omega) (by omega) hd ?_
  have h := kk hz H locs ls hP hS hL
  have e : vi (min x y) = .int (if Int32.ofInt y < Int32.ofInt x then Int32.ofInt y else Int32.ofInt x) := by
    unfold vi
    simp only [i32_lt hy hx]
    by_cases q : y < x
    · rw [if_pos q, show min x y = y by omega]
    · rw [if_neg q, show min x y = x by omega]
  rw [e] at h
  exact h
theorem R_mmax (hX : Ok X own cc nL ret fr lo mc ms) {x y : Int} {idx : Nat} (hd : decode cc pc = .ok (.invokestatic idx, 3)) (hl : Cond.methodLink own idx Lib.Math.max.name ∈ gwt) (hst : Cond.static Lib.Math.max.name ∈ gwt) (hini : Cond.initialized "java/lang/Math" ∈ gwt) (hco : Cond.code Lib.Math.max.name Lib.Math.max.code 2 (some .int) ∈ gwt) (hx : I32 x) (hy : I32 y) (hr : 1 ≤ fr ∧ 21 ≤ lo ∧ cs ≤ mc ∧ ss ≤ ms) (hL' : L.length = nL) (hst2 : st.length ≤ 4) (kk : R X sh cs ss (pc + 3) L (vi (max x y) :: st) F Z) : R X sh cs ss pc L (vi y :: vi x :: st) F Z := by
  intro hz H locs ls hP hS hL
  have hcat : (st.map fun v => v.category).sum ≤ 8 := by
    have : ∀ l : List Value, (l.map fun v => v.category).sum ≤ 2 * l.length := by
      intro l
      induction l with
      | nil => simp
      | cons v l ih =>
        have hv : v.category ≤ 2 := by rcases lv_cat v with h | h <;> omega
        simp only [List.map_cons, List.sum_cons, List.length_cons]
        omega
    have := this st
    omega
  have hr2 := hX.2.2.2.2.2.2.2.2.2
  refine va_mmax hX.1 hX.2.1 (by rw [hX.2.2.2.1, hL.1, hL']) hX.2.2.1 (hX.2.2.2.2.1 _ hl) (hX.2.2.2.2.1 _ hst) (hX.2.2.2.2.1 _ hini) (hX.2.2.2.2.1 _ hco) (by omega) (by omega) (by omega) (by omega) hd ?_
  have h := kk hz H locs ls hP hS hL
  have e : vi (max x y) = .int (if Int32.ofInt x < Int32.ofInt y then Int32.ofInt y else Int32.ofInt x) := by
    unfold vi
    simp only [i32_lt hx hy]
    by_cases q : x < y
    · rw [if_pos q, show max x y = y by omega]
    · rw [if_neg q, show max x y = x by omega]
  rw [e] at h
  exact h
/-! ends -/
theorem R_iret (hX : Ok X own cc nL (some .int) fr lo mc ms) {x : Int} {Q : Int → Hp → Prop} (hd : decode cc pc = .ok (.ireturn, 1)) (hq : Q x F) : R X sh cs ss pc L [vi x] F (Zq X sh 1 Q cs ss) := fun hz H locs ls hP hS hL =>
  W.iret hX.1 hX.2.1 hX.2.2.2.2.2.2.2.1 (fun t ht hW => ⟨⟨x, F, rfl, hq, by rw [ht]; exact hP⟩, hS.F ht⟩) hS.2.2 hd hX.2.2.2.2.2.2.2.2.1
theorem R_zret (hX : Ok X own cc nL (some .boolean) fr lo mc ms) {x : Int} {Q : Int → Hp → Prop} (hb : x = 0 ∨ x = 1) (hd : decode cc pc = .ok (.ireturn, 1)) (hq : Q x F) : R X sh cs ss pc L [vi x] F (Zq X sh 1 Q cs ss) := fun hz H locs ls hP hS hL =>
  W.zret hX.1 hX.2.1 hX.2.2.2.2.2.2.2.1 (by rcases hb with rfl | rfl <;> rfl) (fun t ht hW => ⟨⟨x, F, rfl, hq, by rw [ht]; exact hP⟩, hS.F ht⟩) hS.2.2 hd hX.2.2.2.2.2.2.2.2.1
theorem R_lret (hX : Ok X own cc nL (some .long) fr lo mc ms) {x : Int} {Q : Int → Hp → Prop} (hd : decode cc pc = .ok (.lreturn, 1)) (hq : Q x F) : R X sh cs ss pc L [vl x] F (Zq X sh 2 Q cs ss) := fun hz H locs ls hP hS hL =>
  W.lret hX.1 hX.2.1 hX.2.2.2.2.2.2.2.1 (fun t ht hW => ⟨⟨x, F, rfl, hq, by rw [ht]; exact hP⟩, hS.F ht⟩) hS.2.2 hd hX.2.2.2.2.2.2.2.2.1
theorem R_vret (hX : Ok X own cc nL none fr lo mc ms) {Q : Int → Hp → Prop} (hd : decode cc pc = .ok (.return_, 1)) (hq : Q 0 F) : R X sh cs ss pc L [] F (Zq X sh 0 Q cs ss) := fun hz H locs ls hP hS hL =>
  W.vret hX.1 hX.2.1 hX.2.2.2.2.2.2.2.1 (fun t ht hW => ⟨⟨0, F, rfl, hq, by rw [ht]; exact hP⟩, hS.F ht⟩) hS.2.2 hd hX.2.2.2.2.2.2.2.2.1
theorem R_aret {rt : FieldType} (hX : Ok X own cc nL (some rt) fr lo mc ms) {x : Int} {Q : Int → Hp → Prop} (hrt : (∃ n, rt = .object n) ∨ ∃ t, rt = .array t) (hd : decode cc pc = .ok (.areturn, 1)) (hq : Q x F) : R X sh cs ss pc L [vr (xV X) x] F (Zq X sh 3 Q cs ss) := fun hz H locs ls hP hS hL =>
  W.aret hX.1 hX.2.1 hX.2.2.2.2.2.2.2.1 hrt (by unfold vr; split; exact Or.inl rfl; exact Or.inr ⟨_, rfl⟩) (fun t ht hW => ⟨⟨x, F, rfl, hq, by rw [ht]; exact hP⟩, hS.F ht⟩) hS.2.2 hd hX.2.2.2.2.2.2.2.2.1
/-! calls -/
theorem R_after {p : Program} {l : Launch} {e : Env} {Rm : Room} {s : State} {m : MethodId} {args : Array Value} {below : List Frame} {meth : Method} {c : Code} {H : Heap} {locs : List Loc} {cells slots mc2 ms2 : Nat} {V : VX} {sh2 : Shp} {kd : Nat} {Q : Int → Hp → Prop} {a : Array Value} {ls : Array Slot} {st0 rest : List Value}
    (hr : va_Run p l e Rm s m args below meth c H locs cells slots mc2 ms2 (F0 m pc ls st0) rest (Post V sh2 kd Q a) (AB V)) (hS : va_S (AB V) s.heap H locs)
    (kk : ∀ (x : Int) (F' : Hp) (H1 : Heap) (locs1 : List Loc), Q x F' → HP V sh2 F' H1 → va_S (AB V) s.heap H1 locs1 → W p l e Rm s m args below meth c H1 locs1 (cells + mc2) (slots + ms2) Z (F0 m (pc + 3) ls ((rv V kd x).toList ++ rest))) : W p l e Rm s m args below meth c H locs cells slots Z (F0 m pc ls st0) := by
  intro T hT X
  obtain ⟨v, st₀, t, T', Lc, h0, X', hL, e1, e2, ⟨⟨x, F', hv, hq, hp⟩, hz, hk⟩, st⟩ := hr T hT X
  cases hv
  rw [h0] at hz hk
  obtain ⟨t2, a1, b1⟩ := kk x F' T'.heap (locs ++ Lc) hq (by rw [e1]; exact hp)
    ⟨Nat.le_trans hS.1 (by rw [e1]; exact hz), fun q h1 h2 => by rw [e1, hk q (Nat.lt_of_lt_of_le h1 hS.1) h2]; exact hS.2.1 q h1 h2, fun q hq => by
      rcases List.mem_append.mp hq with h | h
      · exact hS.2.2 q h
      · exact hL q h⟩ T' rfl X'
  exact ⟨t2, st t2 a1, b1⟩
theorem sz_eq {H : Heap} {locs : List Loc} {T : State} (hz : (xs X).heap.size + cs = vB (xV X) + sh.length) (hT : T.heap = H) (hP : HP (xV X) sh F H) (hS : va_S (AB (xV X)) (xs X).heap H locs) (hB : vB (xV X) ≤ (xs X).heap.size) (S : Stand (xp X) (vL (xV X)) (xe X) (xr X) (xs X) (xm X) (xa X) (xb X) (xM X) (xc X) T locs cs ss) : H.size = vB (xV X) + sh.length := by
  have h1 := S.heapSize
  rw [hT] at h1
  have h2 := hS.1
  rcases Nat.eq_zero_or_pos sh.length with h | h
  · omega
  · have h3 := (hP (sh.length - 1) _ (wl_at (List.getElem?_eq_getElem (by omega)))).lt
    dsimp only at h3
    omega
theorem cat_le : ∀ l : List Value, (l.map fun v => v.category).sum ≤ 2 * l.length := by
  intro l
  induction l with
  | nil => simp
  | cons v l ih =>
    have hv : v.category ≤ 2 := by rcases lv_cat v with h | h <;> omega
    simp only [List.map_cons, List.sum_cons, List.length_cons]
    omega
theorem pre_blind {V : VX} {sh : Shp} {F : Hp} {av : List Value} : FrameBlind (va_Pc av (fun U => U.heap.size = vB V + sh.length ∧ HP V sh F U.heap ∧ va_K (vD V) vwCl (tys4 V) U ∧ GF V U)) := by
  intro a U g mk q
  obtain ⟨q0, q1, q2, q3, q4⟩ := q
  exact ⟨q0, q1, q2, va_K.moved (u := U) (U := U.calling g mk a) (Vm.Alike.refl U.vm) q3, q4.move (State.WarmedH.refl U) (Nat.le_refl _) (fun _ _ => rfl)⟩
theorem pre_at {V : VX} {sh : Shp} {F : Hp} {av : List Value} {s : State} {H : Heap} {locs : List Loc} (hz : H.size = vB V + sh.length) (hP : HP V sh F H) (hK : va_K (vD V) vwCl (tys4 V) s) (hG : GF V s) (hS : va_S (AB V) s.heap H locs) : ∀ U : State, U.heap = H → s.WarmedH U.vm → va_Pc av (fun U => U.heap.size = vB V + sh.length ∧ HP V sh F U.heap ∧ va_K (vD V) vwCl (tys4 V) U ∧ GF V U) av.toArray U := by
  intro U hU hW
  refine ⟨rfl, by rw [hU]; exact hz, by rw [hU]; exact hP, va_K.moved hW.alike hK, hG.move hW (by rw [hU]; exact hS.1) (fun a ha => ?_)⟩
  rw [hU]
  exact hS.2.1 a (Nat.lt_of_lt_of_le ha hG.1) (by unfold AB; omega)
theorem callB_mk {y : MethodName} {idx n fr2 lo2 mc2 ms2 nL2 : Nat} {c2 : ByteArray} {ret2 : Option FieldType} (hX : Ok X own cc nL ret fr lo mc ms) (hl : LK own idx y) (hm : MK y c2 nL2 ret2 n) (hr : fr2 + 1 ≤ fr ∧ 8 + (nL2 + 11) + lo2 ≤ lo) : CallB (xr X) (xs X) (xa X) own idx y c2 nL2 ret2 (.code y c2 nL2 ret2 :: gwt) ({ frames := fr2, cells := mc2, slots := ms2, locals := lo2 }) mc2 ms2 n := by
  have hr2 := hX.2.2.2.2.2.2.2.2.2
  exact callB_of n hX.2.2.2.2.1 (good_cons hm.1) rfl rfl rfl (hX.2.2.2.2.1 _ hm.2.1) (hX.2.2.2.2.1 _ hl) hm.2.2 ⟨Nat.le_trans hr.1 hr2.1, Nat.le_trans hr.2 hr2.2.1⟩
theorem callN_mk {y : MethodName} {host : String} {idx n fr2 lo2 mc2 ms2 nL2 : Nat} {c2 : ByteArray} {ret2 : Option FieldType} (hX : Ok X own cc nL ret fr lo mc ms) (hl : LN own idx y host) (hm : MK y c2 nL2 ret2 n) (hr : fr2 + 1 ≤ fr ∧ 8 + (nL2 + 11) + lo2 ≤ lo) : va_CN (xr X) (xs X) (xa X) own idx y host c2 nL2 ret2 (.code y c2 nL2 ret2 :: gwt) ({ frames := fr2, cells := mc2, slots := ms2, locals := lo2 }) mc2 ms2 n := by
  have hr2 := hX.2.2.2.2.2.2.2.2.2
  have hc : Cond.code y c2 nL2 ret2 ∈ (.code y c2 nL2 ret2 :: gwt : List Cond) := List.mem_cons_self
  refine ⟨⟨rfl, rfl, Nat.le_trans hr.1 hr2.1, Nat.le_trans hr.2 hr2.2.1, pay_in hX.2.2.2.2.1 (good_cons hm.1), hc⟩, hX.2.2.2.2.1 _ hm.1, hX.2.2.2.2.1 _ hm.2.1, ⟨hm.2.2.1, hm.2.2.2.1⟩, fun sig h => ?_, hX.2.2.2.2.2.2.1.nest hl rfl⟩
  have h2 := hm.2.2.2.2
  rw [h] at h2
  exact (Option.some.inj h2).symm
theorem recv_at {k : Int} {ci : Nat} {C : String} {H : Heap} (hX : Ok X own cc nL ret fr lo mc ms) (hP : HP (xV X) sh F H) {rs : List Int} (ho : isO sh k ci rs) (hC : vwCl[ci]?.map (fun q => q.1) = some C) : ∃ cellB : Cell, H[vB (xV X) + k.toNat]? = some cellB ∧ cellB.vm.isStatics = false ∧ (xs X).vm.findClass C = some cellB.cls := by
  cases hv : vwCl[ci]? with
  | none => rw [hv] at hC; cases hC
  | some q =>
    rw [hv] at hC
    cases hC
    exact va_recv hX.2.2.2.2.2.1 hP hv (wl_at ho.2)
theorem R_callV0 (hX : Ok X own cc nL ret fr lo mc ms) {y : MethodName} {idx n nL2 fr2 lo2 mc2 ms2 ci kd : Nat} {c2 : ByteArray} {ret2 : Option FieldType} {sh2 : Shp} {As : List Value} {k : Int} {Q : Int → Hp → Prop} (hd : decode cc pc = .ok (.invokevirtual idx, 3)) (hl : LK own idx y) (hm : MK y c2 nL2 ret2 n) (hi : MI y) (hC : vwCl[ci]?.map (fun q => q.1) = some y.cls) {rs : List Int} (ho : isO sh k ci rs) (hc : Ct (xV X) y c2 nL2 ret2 fr2 lo2 mc2 ms2 sh (vr (xV X) k :: As) F sh2 kd Q)
    (hr : (fr2 + 1 ≤ fr ∧ 8 + (nL2 + 11) + lo2 ≤ lo) ∧ cs + mc2 ≤ mc ∧ ss + ms2 ≤ ms ∧ As.length = n ∧ L.length = nL ∧ st.length ≤ 4 ∧ sh2.length = sh.length + mc2) (kk : ∀ x F', Q x F' → R X sh2 (cs + mc2) (ss + ms2) (pc + 3) L ((rv (xV X) kd x).toList ++ st) F' Z) : R X sh cs ss pc L (As.reverse ++ vr (xV X) k :: st) F Z := by
  intro hz H locs ls hP hS hL T hT S
  have hz2 := sz_eq hz hT hP hS hX.2.2.2.2.2.2.1.1 S
  have hr2 := hX.2.2.2.2.2.2.2.2.2
  rw [vr_ref ho.1] at hc ⊢
  have hcat := cat_le st
  refine R_after (va_runV (C := y.cls) (As := As) (rest := st) ⟨hX.1, hX.2.1, hX.2.2.2.1, hX.2.2.1, hX.2.2.2.2.1⟩ hc ⟨callB_mk hX hl hm hr.1, hX.2.2.2.2.1 _ hi.1, hX.2.2.2.2.1 _ hi.2⟩ ⟨pre_blind, recv_at hX hP ho hC, pre_at hz2 hP hX.2.2.2.2.2.1 hX.2.2.2.2.2.2.1 hS⟩ rfl hr.2.2.2.1 (hL.1.trans hr.2.2.2.2.1) rfl (lv_room (by omega)) hd ⟨by omega, by omega⟩) hS (fun x F' H1 locs1 hq hp hS1 => kk x F' hq (by omega) H1 locs1 ls hp hS1 hL) T hT S
theorem R_callVN0 (hX : Ok X own cc nL ret fr lo mc ms) {y : MethodName} {host : String} {idx n nL2 fr2 lo2 mc2 ms2 ci kd : Nat} {c2 : ByteArray} {ret2 : Option FieldType} {sh2 : Shp} {As : List Value} {k : Int} {Q : Int → Hp → Prop} (hd : decode cc pc = .ok (.invokevirtual idx, 3)) (hl : LN own idx y host) (hm : MK y c2 nL2 ret2 n) (hi : MI y) (hC : vwCl[ci]?.map (fun q => q.1) = some y.cls) {rs : List Int} (ho : isO sh k ci rs) (hc : Ct (xV X) y c2 nL2 ret2 fr2 lo2 mc2 ms2 sh (vr (xV X) k :: As) F sh2 kd Q)
    (hr : (fr2 + 1 ≤ fr ∧ 8 + (nL2 + 11) + lo2 ≤ lo) ∧ cs + mc2 ≤ mc ∧ ss + ms2 ≤ ms ∧ As.length = n ∧ L.length = nL ∧ st.length ≤ 4 ∧ sh2.length = sh.length + mc2) (kk : ∀ x F', Q x F' → R X sh2 (cs + mc2) (ss + ms2) (pc + 3) L ((rv (xV X) kd x).toList ++ st) F' Z) : R X sh cs ss pc L (As.reverse ++ vr (xV X) k :: st) F Z := by
  intro hz H locs ls hP hS hL T hT S
  have hz2 := sz_eq hz hT hP hS hX.2.2.2.2.2.2.1.1 S
  rw [vr_ref ho.1] at hc ⊢
  have hr2 := hX.2.2.2.2.2.2.2.2.2
  have hcat := cat_le st
  refine R_after (va_runVN (C := y.cls) (As := As) (rest := st) ⟨hX.1, hX.2.1, hX.2.2.2.1, hX.2.2.1, hX.2.2.2.2.1⟩ hc ⟨callN_mk hX hl hm hr.1, hX.2.2.2.2.1 _ hi.1, hX.2.2.2.2.1 _ hi.2⟩ ⟨pre_blind, recv_at hX hP ho hC, pre_at hz2 hP hX.2.2.2.2.2.1 hX.2.2.2.2.2.2.1 hS⟩ rfl hr.2.2.2.1 (hL.1.trans hr.2.2.2.2.1) rfl (lv_room (by omega)) hd ⟨by omega, by omega⟩) hS (fun x F' H1 locs1 hq hp hS1 => kk x F' hq (by omega) H1 locs1 ls hp hS1 hL) T hT S
theorem R_callS0 (hX : Ok X own cc nL ret fr lo mc ms) {y : MethodName} {idx n nL2 fr2 lo2 mc2 ms2 kd : Nat} {c2 : ByteArray} {ret2 : Option FieldType} {sh2 : Shp} {As : List Value} {Q : Int → Hp → Prop} (hd : decode cc pc = .ok (.invokestatic idx, 3)) (hl : LK own idx y) (hm : MK y c2 nL2 ret2 n) (hi : MS y) (hc : Ct (xV X) y c2 nL2 ret2 fr2 lo2 mc2 ms2 sh As F sh2 kd Q)
    (hr : (fr2 + 1 ≤ fr ∧ 8 + (nL2 + 11) + lo2 ≤ lo) ∧ cs + mc2 ≤ mc ∧ ss + ms2 ≤ ms ∧ As.length = n ∧ L.length = nL ∧ st.length ≤ 4 ∧ sh2.length = sh.length + mc2) (kk : ∀ x F', Q x F' → R X sh2 (cs + mc2) (ss + ms2) (pc + 3) L ((rv (xV X) kd x).toList ++ st) F' Z) : R X sh cs ss pc L (As.reverse ++ st) F Z := by
  intro hz H locs ls hP hS hL T hT S
  have hz2 := sz_eq hz hT hP hS hX.2.2.2.2.2.2.1.1 S
  have hr2 := hX.2.2.2.2.2.2.2.2.2
  have hcat := cat_le st
  refine R_after (va_runS (As := As) (rest := st) ⟨hX.1, hX.2.1, hX.2.2.2.1, hX.2.2.1, hX.2.2.2.2.1⟩ hc ⟨callB_mk hX hl hm hr.1, hX.2.2.2.2.1 _ hi⟩ ⟨pre_blind, pre_at hz2 hP hX.2.2.2.2.2.1 hX.2.2.2.2.2.2.1 hS⟩ rfl hr.2.2.2.1 (hL.1.trans hr.2.2.2.2.1) rfl (lv_room (by omega)) hd ⟨by omega, by omega⟩) hS (fun x F' H1 locs1 hq hp hS1 => kk x F' hq (by omega) H1 locs1 ls hp hS1 hL) T hT S
theorem R_callSN0 (hX : Ok X own cc nL ret fr lo mc ms) {y : MethodName} {host : String} {idx n nL2 fr2 lo2 mc2 ms2 kd : Nat} {c2 : ByteArray} {ret2 : Option FieldType} {sh2 : Shp} {As : List Value} {Q : Int → Hp → Prop} (hd : decode cc pc = .ok (.invokestatic idx, 3)) (hl : LN own idx y host) (hm : MK y c2 nL2 ret2 n) (hi : MS y) (hc : Ct (xV X) y c2 nL2 ret2 fr2 lo2 mc2 ms2 sh As F sh2 kd Q)
    (hr : (fr2 + 1 ≤ fr ∧ 8 + (nL2 + 11) + lo2 ≤ lo) ∧ cs + mc2 ≤ mc ∧ ss + ms2 ≤ ms ∧ As.length = n ∧ L.length = nL ∧ st.length ≤ 4 ∧ sh2.length = sh.length + mc2) (kk : ∀ x F', Q x F' → R X sh2 (cs + mc2) (ss + ms2) (pc + 3) L ((rv (xV X) kd x).toList ++ st) F' Z) : R X sh cs ss pc L (As.reverse ++ st) F Z := by
  intro hz H locs ls hP hS hL T hT S
  have hz2 := sz_eq hz hT hP hS hX.2.2.2.2.2.2.1.1 S
  have hr2 := hX.2.2.2.2.2.2.2.2.2
  have hcat := cat_le st
  refine R_after (va_runSN (As := As) (rest := st) ⟨hX.1, hX.2.1, hX.2.2.2.1, hX.2.2.1, hX.2.2.2.2.1⟩ hc ⟨callN_mk hX hl hm hr.1, hX.2.2.2.2.1 _ hi, trivial⟩ ⟨pre_blind, pre_at hz2 hP hX.2.2.2.2.2.1 hX.2.2.2.2.2.2.1 hS⟩ rfl hr.2.2.2.1 (hL.1.trans hr.2.2.2.2.1) rfl (lv_room (by omega)) hd ⟨by omega, by omega⟩) hS (fun x F' H1 locs1 hq hp hS1 => kk x F' hq (by omega) H1 locs1 ls hp hS1 hL) T hT S
theorem R_callI0 (hX : Ok X own cc nL ret fr lo mc ms) {y : MethodName} {idx n nL2 fr2 lo2 mc2 ms2 ci : Nat} {c2 : ByteArray} {sh2 : Shp} {As : List Value} {k : Int} {Q : Int → Hp → Prop} (hd : decode cc pc = .ok (.invokespecial idx, 3)) (hl : LK own idx y) (hm : MK y c2 nL2 none n) (hi : MC y) {rs : List Int} (ho : isO sh k ci rs) (hc : Ct (xV X) y c2 nL2 none fr2 lo2 mc2 ms2 sh (vr (xV X) k :: As) F sh2 0 Q)
    (hr : (fr2 + 1 ≤ fr ∧ 8 + (nL2 + 11) + lo2 ≤ lo) ∧ cs + mc2 ≤ mc ∧ ss + ms2 ≤ ms ∧ As.length = n ∧ L.length = nL ∧ st.length ≤ 4 ∧ sh2.length = sh.length + mc2) (kk : ∀ x F', Q x F' → R X sh2 (cs + mc2) (ss + ms2) (pc + 3) L st F' Z) : R X sh cs ss pc L (As.reverse ++ vr (xV X) k :: st) F Z := by
  intro hz H locs ls hP hS hL T hT S
  have hz2 := sz_eq hz hT hP hS hX.2.2.2.2.2.2.1.1 S
  rw [vr_ref ho.1] at hc ⊢
  have hr2 := hX.2.2.2.2.2.2.2.2.2
  have hcat := cat_le st
  refine R_after (va_runI (As := As) (rest := st) ⟨hX.1, hX.2.1, hX.2.2.2.1, hX.2.2.1, hX.2.2.2.2.1⟩ hc ⟨callB_mk hX hl hm hr.1, hi.2, hX.2.2.2.2.1 _ hi.1⟩ ⟨pre_blind, pre_at hz2 hP hX.2.2.2.2.2.1 hX.2.2.2.2.2.2.1 hS⟩ rfl hr.2.2.2.1 (hL.1.trans hr.2.2.2.2.1) rfl (lv_room (by omega)) hd ⟨by omega, by omega⟩) hS (fun x F' H1 locs1 hq hp hS1 => kk x F' hq (by omega) H1 locs1 ls hp hS1 hL) T hT S
theorem R_callIN0 (hX : Ok X own cc nL ret fr lo mc ms) {y : MethodName} {host : String} {idx n nL2 fr2 lo2 mc2 ms2 ci : Nat} {c2 : ByteArray} {sh2 : Shp} {As : List Value} {k : Int} {Q : Int → Hp → Prop} (hd : decode cc pc = .ok (.invokespecial idx, 3)) (hl : LN own idx y host) (hm : MK y c2 nL2 none n) (hi : MC y) {rs : List Int} (ho : isO sh k ci rs) (hc : Ct (xV X) y c2 nL2 none fr2 lo2 mc2 ms2 sh (vr (xV X) k :: As) F sh2 0 Q)
    (hr : (fr2 + 1 ≤ fr ∧ 8 + (nL2 + 11) + lo2 ≤ lo) ∧ cs + mc2 ≤ mc ∧ ss + ms2 ≤ ms ∧ As.length = n ∧ L.length = nL ∧ st.length ≤ 4 ∧ sh2.length = sh.length + mc2) (kk : ∀ x F', Q x F' → R X sh2 (cs + mc2) (ss + ms2) (pc + 3) L st F' Z) : R X sh cs ss pc L (As.reverse ++ vr (xV X) k :: st) F Z := by
  intro hz H locs ls hP hS hL T hT S
  have hz2 := sz_eq hz hT hP hS hX.2.2.2.2.2.2.1.1 S
  rw [vr_ref ho.1] at hc ⊢
  have hr2 := hX.2.2.2.2.2.2.2.2.2
  have hcat := cat_le st
  refine R_after (va_runIN (As := As) (rest := st) ⟨hX.1, hX.2.1, hX.2.2.2.1, hX.2.2.1, hX.2.2.2.2.1⟩ hc ⟨callN_mk hX hl hm hr.1, hi.2, hX.2.2.2.2.1 _ hi.1⟩ ⟨pre_blind, pre_at hz2 hP hX.2.2.2.2.2.1 hX.2.2.2.2.2.2.1 hS⟩ rfl hr.2.2.2.1 (hL.1.trans hr.2.2.2.2.1) rfl (lv_room (by omega)) hd ⟨by omega, by omega⟩) hS (fun x F' H1 locs1 hq hp hS1 => kk x F' hq (by omega) H1 locs1 ls hp hS1 hL) T hT S
/-- Object's own constructor -/
theorem R_objInit (hX : Ok X own cc nL ret fr lo mc ms) {idx : Nat} {k : Int} (hk : 0 ≤ k) (hd : decode cc pc = .ok (.invokespecial idx, 3)) (hl : Cond.methodLink own idx objectInit ∈ gwt) (hi : Cond.instanceMethod objectInit ∈ gwt) (hco : Cond.code objectInit ⟨#[0xb1]⟩ 1 none ∈ gwt) (hr : 1 ≤ fr ∧ 20 ≤ lo ∧ L.length = nL ∧ st.length ≤ 4) (kk : R X sh cs ss (pc + 3) L st F Z) : R X sh cs ss pc L (vr (xV X) k :: st) F Z := by
  intro hz H locs ls hP hS hL
  rw [vr_ref hk]
  have hr2 := hX.2.2.2.2.2.2.2.2.2
  have hcat := cat_le st
  exact W.objInit hX.1 hX.2.1 hX.2.2.1 (hX.2.2.2.2.1 _ hl) (hX.2.2.2.2.1 _ hi) (hX.2.2.2.2.1 _ hco) rfl (by show ls.size = _; rw [hX.2.2.2.1, hL.1, hr.2.2.1]) rfl hd (by omega) (by show 2 * 0 + _ + 12 ≤ _; omega) (kk hz H locs ls hP hS hL)

end RH
end
section
section RN
variable {X : KX} {sh : Shp} {cs ss pc : Nat} {L : List (Option Value)} {st : List Value} {F : Hp} {Z : State → Prop} {own : String} {cc : ByteArray} {nL : Nat} {ret : Option FieldType} {fr lo mc ms : Nat}
/-- the cells with one row more, or another row -/
def row (F : Hp) (k : Int) (f : Int → Int) : Hp := fun a b => if a = k then f b else F a b
def isRf (ty : FieldType) : Bool := match ty with
  | .object _ => true
  | .array _ => true
  | _ => false
def z0 (ci : Nat) (j : Int) : Int := if isRf (ftys ci j.toNat) = true then -1 else 0
def okTy (ty : FieldType) : Bool := match ty with
  | .float => false
  | .double => false
  | _ => true
theorem wl_row {V : VX} {sh : Shp} {F : Hp} {g : Sg} {f : Int → Int} : wl V (sh ++ [g]) (row F (sh.length : Int) f) = wl V sh F ++ [(vB V + sh.length, cE V g f)] := by
  apply List.ext_getElem?
  intro j
  rcases Nat.lt_trichotomy j sh.length with h | h | h
  · rw [List.getElem?_append_left (by rw [wl_len]; exact h), wl_at (List.getElem?_eq_getElem h), wl_at (g := sh[j]) (by rw [List.getElem?_append_left h]; exact List.getElem?_eq_getElem h)]
    congr 3
    funext b
    exact if_neg (by omega)
  · subst h
    rw [List.getElem?_append_right (by rw [wl_len]; exact Nat.le_refl _), wl_len, Nat.sub_self, wl_at (g := g) (by simp)]
    show some _ = some _
    congr 3
    funext b
    exact if_pos rfl
  · rw [List.getElem?_eq_none (by rw [wl_len]; simp; omega), List.getElem?_eq_none (by simp [wl_len]; omega)]
theorem def_mkv {V : VX} {ty : FieldType} (h : okTy ty = true) : defaultValue ty = mkv V ty (if isRf ty = true then -1 else 0) := by
  cases ty with
  | array t => cases t <;> rfl
  | _ => first | rfl | (exact absurd h (by decide)) | (simp [isRf, mkv, vr, defaultValue])
theorem R_new (hX : Ok X own cc nL ret fr lo mc ms) {idx ci N : Nat} {C : String} {T : u_T} (hcf : CF ci C T N) (hcl : Cond.classLink own idx C ∈ gwt) (hinst : Cond.instantiable C N ∈ gwt) (hini : Cond.initialized C ∈ gwt) (hok : (List.range N).all (fun j => okTy (ftys ci j)) = true) (hr : cs + 1 ≤ mc ∧ ss + N ≤ ms) (hd : decode cc pc = .ok (.new idx, 3))
    (kk : R X (sh ++ [.inl (ci, [])]) (cs + 1) (ss + N) (pc + 3) L (vr (xV X) (sh.length : Int) :: st) (row F (sh.length : Int) (z0 ci)) Z) : R X sh cs ss pc L st F Z := by
  intro hz H locs ls hP hS hL T0 hT S
  have hsz := sz_eq hz hT hP hS hX.2.2.2.2.2.2.1.1 S
  obtain ⟨q1, q2, q3, q4, q5⟩ := hcf
  have hKn := hX.2.2.2.2.2.1.1 ci _ q1
  have hr2 := hX.2.2.2.2.2.2.2.2.2
  refine W.newcK (g := F0 (xm X) pc ls st) hX.1 hX.2.1 hX.2.2.1 (hX.2.2.2.2.1 _ hcl) (hX.2.2.2.2.1 _ hinst) (hX.2.2.2.2.1 _ hini) rfl hd (by omega) (by omega) hKn.2.1 rfl (fun H1 kC hkC e1 z1 o1 => ?_) T0 hT S
  have hk : ∀ (k : Nat) (x : Nat × va_E), (wl (xV X) sh F)[k]? = some x → H1[x.1]? = H[x.1]? := fun k x hx => o1 x.1 ((hP k x hx).lt)
  have hB := hX.2.2.2.2.2.2.1.1
  have hsz1 : (xs X).heap.size + (cs + 1) = vB (xV X) + (sh ++ [(Sum.inl (ci, []) : Sg)]).length := by rw [List.length_append, List.length_singleton]; omega
  have e := kk hsz1 H1 locs ls ?_ ⟨Nat.le_trans hS.1 (by omega), fun x h1 h2 => (o1 x (Nat.lt_of_lt_of_le h1 hS.1)).trans (hS.2.1 x h1 h2), hS.2.2⟩ hL
  · have e2 : vr (xV X) (sh.length : Int) = .ref H.size := by
      rw [vr_ref (Int.natCast_nonneg _), hsz, Int.toNat_natCast]
    rw [e2] at e
    exact e
  · unfold HP
    rw [wl_row]
    refine va_P.app (va_P.kept hP hk) (fun k x hx => ?_)
    have hz1 : k < 1 := (List.getElem?_eq_some_iff.mp hx).1
    rw [show k = 0 by omega] at hx
    cases hx
    rw [hsz] at e1
    refine ⟨_, q1, (u_born (ftys ci) hX.2.2.2.2.1 q3 hKn hkC e1 q5).to (fun j hj => ?_)⟩
    rw [def_mkv (V := xV X) (List.all_eq_true.mp hok j (List.mem_range.mpr hj))]
    unfold vp_V
    rw [List.getD_eq_getElem?_getD, List.getElem?_map, List.getElem?_range (by rw [q2]; exact hj)]
    rfl
theorem R_newa (hX : Ok X own cc nL ret fr lo mc ms) {atype : ArrayType} {n : Nat} {ty : FieldType} (hty : newarray.typeOf atype = ty) (h4 : ty = .int ∨ ty = .long ∨ ty = .boolean ∨ ty = .byte) (harr : Cond.arrayClass ty ∈ gwt) (hn : n < 100000) (hr : cs + 1 ≤ mc ∧ ss + n ≤ ms) (hd : decode cc pc = .ok (.newarray atype, 2))
    (kk : R X (sh ++ [.inr (ty, n)]) (cs + 1) (ss + n) (pc + 2) L (vr (xV X) (sh.length : Int) :: st) (row F (sh.length : Int) (fun _ => 0)) Z) : R X sh cs ss pc L (vi (n : Int) :: st) F Z := by
  intro hz H locs ls hP hS hL T0 hT S
  have hsz := sz_eq hz hT hP hS hX.2.2.2.2.2.2.1.1 S
  have hr2 := hX.2.2.2.2.2.2.2.2.2
  have hB := hX.2.2.2.2.2.2.1.1
  subst hty
  have e0 : (Int32.ofInt (n : Int)).toInt = n := i32_to (by unfold I32; omega)
  have hneg : ¬ (Int32.ofInt (n : Int)) < 0 := fun h => by
    have := Int32.lt_iff_toInt_lt.mp h
    rw [e0] at this
    simp at this
    omega
  have hcl : (Int32.ofInt (n : Int)).toNatClampNeg = n := by
    show (Int32.ofInt (n : Int)).toInt.toNat = _
    rw [e0]
    rfl
  have hcb : n * componentBytes (newarray.typeOf atype) ≤ 536870912 := by
    have : componentBytes (newarray.typeOf atype) ≤ 8 := by cases atype <;> decide
    have := Nat.mul_le_mul_left n this
    omega
  refine va_newaK (g := F0 (xm X) pc ls (vi (n : Int) :: st)) hX.1 hX.2.1 (hX.2.2.2.2.1 _ harr) rfl hd rfl hneg hcl hcb (by omega) (by omega) rfl (fun H1 cA e1 z1 o1 hAr hNm => ?_) T0 hT S
  have hk : ∀ (k : Nat) (x : Nat × va_E), (wl (xV X) sh F)[k]? = some x → H1[x.1]? = H[x.1]? := fun k x hx => o1 x.1 ((hP k x hx).lt)
  have hcA : cA = vA (xV X) (newarray.typeOf atype) := by
    have hh := hX.2.2.2.2.2.1.2
    have g : ∀ (k : Nat) (t : FieldType), (tys4 (xV X))[k]? = some (vA (xV X) t, t) → newarray.typeOf atype = t → va_RA (xs X) (vA (xV X) t) t := fun k t h _ => (hh k _ h).2
    have key : (xs X).vm.findClass ("[" ++ (newarray.typeOf atype).toString) = some (vA (xV X) (newarray.typeOf atype)) := by
      rcases h4 with h | h | h | h <;> rw [h]
      · exact g 0 .int rfl h
      · exact g 1 .long rfl h
      · exact g 2 .boolean rfl h
      · exact g 3 .byte rfl h
    exact Option.some.inj (hNm.symm.trans key)
  subst hcA
  have hsz1 : (xs X).heap.size + (cs + 1) = vB (xV X) + (sh ++ [(Sum.inr (newarray.typeOf atype, n) : Sg)]).length := by rw [List.length_append, List.length_singleton]; omega
  have e := kk hsz1 H1 locs ls ?_ ⟨Nat.le_trans hS.1 (by omega), fun x h1 h2 => (o1 x (Nat.lt_of_lt_of_le h1 hS.1)).trans (hS.2.1 x h1 h2), hS.2.2⟩ hL
  · have e2 : vr (xV X) (sh.length : Int) = .ref H.size := by
      rw [vr_ref (Int.natCast_nonneg _), hsz, Int.toNat_natCast]
    rw [e2] at e
    exact e
  · unfold HP
    rw [wl_row]
    refine va_P.app (va_P.kept hP hk) (fun k x hx => ?_)
    have hz1 : k < 1 := (List.getElem?_eq_some_iff.mp hx).1
    rw [show k = 0 by omega] at hx
    cases hx
    rw [hsz] at e1
    show H1[_]? = some (vp_cell _ _)
    refine e1.trans ?_
    congr 1
    cases atype <;> simp [newarray.typeOf] at h4 <;> rfl

theorem R_c0 (hX : Ok X own cc nL ret fr lo mc ms) {y : MethodName} {idx nL2 fr2 lo2 mc2 ms2 ci : Nat} {c2 : ByteArray} {sh2 : Shp} {k : Int} {Q : Int → Hp → Prop} (hd : decode cc pc = .ok (.invokespecial idx, 3)) (hl : LK own idx y) (hm : MK y c2 nL2 none 0) (hi : MC y) {rs : List Int} (ho : isO sh k ci rs) (hc : Ct (xV X) y c2 nL2 none fr2 lo2 mc2 ms2 sh (vr (xV X) k :: []) F sh2 0 Q) (hr : (fr2 + 1 ≤ fr ∧ 8 + (nL2 + 11) + lo2 ≤ lo) ∧ cs + mc2 ≤ mc ∧ ss + ms2 ≤ ms ∧ L.length = nL ∧ st.length ≤ 4 ∧ sh2.length = sh.length + mc2) (kk : ∀ x F', Q x F' → R X sh2 (cs + mc2) (ss + ms2) (pc + 3) L st F' Z) : R X sh cs ss pc L (vr (xV X) k :: st) F Z := R_callI0 (As := []) hX hd hl hm hi ho hc ⟨hr.1, hr.2.1, hr.2.2.1, rfl, hr.2.2.2.1, hr.2.2.2.2.1, hr.2.2.2.2.2⟩ kk
theorem R_c1 (hX : Ok X own cc nL ret fr lo mc ms) {y : MethodName} {idx nL2 fr2 lo2 mc2 ms2 ci : Nat} {c2 : ByteArray} {sh2 : Shp} {a1 : Value} {k : Int} {Q : Int → Hp → Prop} (hd : decode cc pc = .ok (.invokespecial idx, 3)) (hl : LK own idx y) (hm : MK y c2 nL2 none 1) (hi : MC y) {rs : List Int} (ho : isO sh k ci rs) (hc : Ct (xV X) y c2 nL2 none fr2 lo2 mc2 ms2 sh (vr (xV X) k :: [a1]) F sh2 0 Q) (hr : (fr2 + 1 ≤ fr ∧ 8 + (nL2 + 11) + lo2 ≤ lo) ∧ cs + mc2 ≤ mc ∧ ss + ms2 ≤ ms ∧ L.length = nL ∧ st.length ≤ 4 ∧ sh2.length = sh.length + mc2) (kk : ∀ x F', Q x F' → R X sh2 (cs + mc2) (ss + ms2) (pc + 3) L st F' Z) : R X sh cs ss pc L (a1 :: vr (xV X) k :: st) F Z := R_callI0 (As := [a1]) hX hd hl hm hi ho hc ⟨hr.1, hr.2.1, hr.2.2.1, rfl, hr.2.2.2.1, hr.2.2.2.2.1, hr.2.2.2.2.2⟩ kk
theorem R_c2 (hX : Ok X own cc nL ret fr lo mc ms) {y : MethodName} {idx nL2 fr2 lo2 mc2 ms2 ci : Nat} {c2 : ByteArray} {sh2 : Shp} {a1 a2 : Value} {k : Int} {Q : Int → Hp → Prop} (hd : decode cc pc = .ok (.invokespecial idx, 3)) (hl : LK own idx y) (hm : MK y c2 nL2 none 2) (hi : MC y) {rs : List Int} (ho : isO sh k ci rs) (hc : Ct (xV X) y c2 nL2 none fr2 lo2 mc2 ms2 sh (vr (xV X) k :: [a1, a2]) F sh2 0 Q) (hr : (fr2 + 1 ≤ fr ∧ 8 + (nL2 + 11) + lo2 ≤ lo) ∧ cs + mc2 ≤ mc ∧ ss + ms2 ≤ ms ∧ L.length = nL ∧ st.length ≤ 4 ∧ sh2.length = sh.length + mc2) (kk : ∀ x F', Q x F' → R X sh2 (cs + mc2) (ss + ms2) (pc + 3) L st F' Z) : R X sh cs ss pc L (a2 :: a1 :: vr (xV X) k :: st) F Z := R_callI0 (As := [a1, a2]) hX hd hl hm hi ho hc ⟨hr.1, hr.2.1, hr.2.2.1, rfl, hr.2.2.2.1, hr.2.2.2.2.1, hr.2.2.2.2.2⟩ kk
theorem R_cN0 (hX : Ok X own cc nL ret fr lo mc ms) {y : MethodName} {host : String} {idx nL2 fr2 lo2 mc2 ms2 ci : Nat} {c2 : ByteArray} {sh2 : Shp} {k : Int} {Q : Int → Hp → Prop} (hd : decode cc pc = .ok (.invokespecial idx, 3)) (hl : LN own idx y host) (hm : MK y c2 nL2 none 0) (hi : MC y) {rs : List Int} (ho : isO sh k ci rs) (hc : Ct (xV X) y c2 nL2 none fr2 lo2 mc2 ms2 sh (vr (xV X) k :: []) F sh2 0 Q) (hr : (fr2 + 1 ≤ fr ∧ 8 + (nL2 + 11) + lo2 ≤ lo) ∧ cs + mc2 ≤ mc ∧ ss + ms2 ≤ ms ∧ L.length = nL ∧ st.length ≤ 4 ∧ sh2.length = sh.length + mc2) (kk : ∀ x F', Q x F' → R X sh2 (cs + mc2) (ss + ms2) (pc + 3) L st F' Z) : R X sh cs ss pc L (vr (xV X) k :: st) F Z := R_callIN0 (As := []) hX hd hl hm hi ho hc ⟨hr.1, hr.2.1, hr.2.2.1, rfl, hr.2.2.2.1, hr.2.2.2.2.1, hr.2.2.2.2.2⟩ kk
theorem R_s1i (hX : Ok X own cc nL ret fr lo mc ms) {y : MethodName} {idx nL2 fr2 lo2 mc2 ms2 : Nat} {c2 : ByteArray} {ret2 : Option FieldType} {sh2 : Shp} {a1 : Value} {Q : Int → Hp → Prop} (hd : decode cc pc = .ok (.invokestatic idx, 3)) (hl : LK own idx y) (hm : MK y c2 nL2 ret2 1) (hi : MS y) (hc : Ct (xV X) y c2 nL2 ret2 fr2 lo2 mc2 ms2 sh [a1] F sh2 1 Q) (hr : (fr2 + 1 ≤ fr ∧ 8 + (nL2 + 11) + lo2 ≤ lo) ∧ cs + mc2 ≤ mc ∧ ss + ms2 ≤ ms ∧ L.length = nL ∧ st.length ≤ 4 ∧ sh2.length = sh.length + mc2) (kk : ∀ x F', Q x F' → R X sh2 (cs + mc2) (ss + ms2) (pc + 3) L (vi x :: st) F' Z) : R X sh cs ss pc L (a1 :: st) F Z := R_callS0 (As := [a1]) hX hd hl hm hi hc ⟨hr.1, hr.2.1, hr.2.2.1, rfl, hr.2.2.2.1, hr.2.2.2.2.1, hr.2.2.2.2.2⟩ kk
theorem R_s1r (hX : Ok X own cc nL ret fr lo mc ms) {y : MethodName} {idx nL2 fr2 lo2 mc2 ms2 : Nat} {c2 : ByteArray} {ret2 : Option FieldType} {sh2 : Shp} {a1 : Value} {Q : Int → Hp → Prop} (hd : decode cc pc = .ok (.invokestatic idx, 3)) (hl : LK own idx y) (hm : MK y c2 nL2 ret2 1) (hi : MS y) (hc : Ct (xV X) y c2 nL2 ret2 fr2 lo2 mc2 ms2 sh [a1] F sh2 3 Q) (hr : (fr2 + 1 ≤ fr ∧ 8 + (nL2 + 11) + lo2 ≤ lo) ∧ cs + mc2 ≤ mc ∧ ss + ms2 ≤ ms ∧ L.length = nL ∧ st.length ≤ 4 ∧ sh2.length = sh.length + mc2) (kk : ∀ x F', Q x F' → R X sh2 (cs + mc2) (ss + ms2) (pc + 3) L (vr (xV X) x :: st) F' Z) : R X sh cs ss pc L (a1 :: st) F Z := R_callS0 (As := [a1]) hX hd hl hm hi hc ⟨hr.1, hr.2.1, hr.2.2.1, rfl, hr.2.2.2.1, hr.2.2.2.2.1, hr.2.2.2.2.2⟩ kk
theorem R_s2v (hX : Ok X own cc nL ret fr lo mc ms) {y : MethodName} {idx nL2 fr2 lo2 mc2 ms2 : Nat} {c2 : ByteArray} {ret2 : Option FieldType} {sh2 : Shp} {a1 a2 : Value} {Q : Int → Hp → Prop} (hd : decode cc pc = .ok (.invokestatic idx, 3)) (hl : LK own idx y) (hm : MK y c2 nL2 ret2 2) (hi : MS y) (hc : Ct (xV X) y c2 nL2 ret2 fr2 lo2 mc2 ms2 sh [a1, a2] F sh2 0 Q) (hr : (fr2 + 1 ≤ fr ∧ 8 + (nL2 + 11) + lo2 ≤ lo) ∧ cs + mc2 ≤ mc ∧ ss + ms2 ≤ ms ∧ L.length = nL ∧ st.length ≤ 4 ∧ sh2.length = sh.length + mc2) (kk : ∀ x F', Q x F' → R X sh2 (cs + mc2) (ss + ms2) (pc + 3) L st F' Z) : R X sh cs ss pc L (a2 :: a1 :: st) F Z := R_callS0 (As := [a1, a2]) hX hd hl hm hi hc ⟨hr.1, hr.2.1, hr.2.2.1, rfl, hr.2.2.2.1, hr.2.2.2.2.1, hr.2.2.2.2.2⟩ kk
theorem R_s2i (hX : Ok X own cc nL ret fr lo mc ms) {y : MethodName} {idx nL2 fr2 lo2 mc2 ms2 : Nat} {c2 : ByteArray} {ret2 : Option FieldType} {sh2 : Shp} {a1 a2 : Value} {Q : Int → Hp → Prop} (hd : decode cc pc = .ok (.invokestatic idx, 3)) (hl : LK own idx y) (hm : MK y c2 nL2 ret2 2) (hi : MS y) (hc : Ct (xV X) y c2 nL2 ret2 fr2 lo2 mc2 ms2 sh [a1, a2] F sh2 1 Q) (hr : (fr2 + 1 ≤ fr ∧ 8 + (nL2 + 11) + lo2 ≤ lo) ∧ cs + mc2 ≤ mc ∧ ss + ms2 ≤ ms ∧ L.length = nL ∧ st.length ≤ 4 ∧ sh2.length = sh.length + mc2) (kk : ∀ x F', Q x F' → R X sh2 (cs + mc2) (ss + ms2) (pc + 3) L (vi x :: st) F' Z) : R X sh cs ss pc L (a2 :: a1 :: st) F Z := R_callS0 (As := [a1, a2]) hX hd hl hm hi hc ⟨hr.1, hr.2.1, hr.2.2.1, rfl, hr.2.2.2.1, hr.2.2.2.2.1, hr.2.2.2.2.2⟩ kk
theorem R_s2l (hX : Ok X own cc nL ret fr lo mc ms) {y : MethodName} {idx nL2 fr2 lo2 mc2 ms2 : Nat} {c2 : ByteArray} {ret2 : Option FieldType} {sh2 : Shp} {a1 a2 : Value} {Q : Int → Hp → Prop} (hd : decode cc pc = .ok (.invokestatic idx, 3)) (hl : LK own idx y) (hm : MK y c2 nL2 ret2 2) (hi : MS y) (hc : Ct (xV X) y c2 nL2 ret2 fr2 lo2 mc2 ms2 sh [a1, a2] F sh2 2 Q) (hr : (fr2 + 1 ≤ fr ∧ 8 + (nL2 + 11) + lo2 ≤ lo) ∧ cs + mc2 ≤ mc ∧ ss + ms2 ≤ ms ∧ L.length = nL ∧ st.length ≤ 4 ∧ sh2.length = sh.length + mc2) (kk : ∀ x F', Q x F' → R X sh2 (cs + mc2) (ss + ms2) (pc + 3) L (vl x :: st) F' Z) : R X sh cs ss pc L (a2 :: a1 :: st) F Z := R_callS0 (As := [a1, a2]) hX hd hl hm hi hc ⟨hr.1, hr.2.1, hr.2.2.1, rfl, hr.2.2.2.1, hr.2.2.2.2.1, hr.2.2.2.2.2⟩ kk
theorem R_s2r (hX : Ok X own cc nL ret fr lo mc ms) {y : MethodName} {idx nL2 fr2 lo2 mc2 ms2 : Nat} {c2 : ByteArray} {ret2 : Option FieldType} {sh2 : Shp} {a1 a2 : Value} {Q : Int → Hp → Prop} (hd : decode cc pc = .ok (.invokestatic idx, 3)) (hl : LK own idx y) (hm : MK y c2 nL2 ret2 2) (hi : MS y) (hc : Ct (xV X) y c2 nL2 ret2 fr2 lo2 mc2 ms2 sh [a1, a2] F sh2 3 Q) (hr : (fr2 + 1 ≤ fr ∧ 8 + (nL2 + 11) + lo2 ≤ lo) ∧ cs + mc2 ≤ mc ∧ ss + ms2 ≤ ms ∧ L.length = nL ∧ st.length ≤ 4 ∧ sh2.length = sh.length + mc2) (kk : ∀ x F', Q x F' → R X sh2 (cs + mc2) (ss + ms2) (pc + 3) L (vr (xV X) x :: st) F' Z) : R X sh cs ss pc L (a2 :: a1 :: st) F Z := R_callS0 (As := [a1, a2]) hX hd hl hm hi hc ⟨hr.1, hr.2.1, hr.2.2.1, rfl, hr.2.2.2.1, hr.2.2.2.2.1, hr.2.2.2.2.2⟩ kk
theorem R_s3v (hX : Ok X own cc nL ret fr lo mc ms) {y : MethodName} {idx nL2 fr2 lo2 mc2 ms2 : Nat} {c2 : ByteArray} {ret2 : Option FieldType} {sh2 : Shp} {a1 a2 a3 : Value} {Q : Int → Hp → Prop} (hd : decode cc pc = .ok (.invokestatic idx, 3)) (hl : LK own idx y) (hm : MK y c2 nL2 ret2 3) (hi : MS y) (hc : Ct (xV X) y c2 nL2 ret2 fr2 lo2 mc2 ms2 sh [a1, a2, a3] F sh2 0 Q) (hr : (fr2 + 1 ≤ fr ∧ 8 + (nL2 + 11) + lo2 ≤ lo) ∧ cs + mc2 ≤ mc ∧ ss + ms2 ≤ ms ∧ L.length = nL ∧ st.length ≤ 4 ∧ sh2.length = sh.length + mc2) (kk : ∀ x F', Q x F' → R X sh2 (cs + mc2) (ss + ms2) (pc + 3) L st F' Z) : R X sh cs ss pc L (a3 :: a2 :: a1 :: st) F Z := R_callS0 (As := [a1, a2, a3]) hX hd hl hm hi hc ⟨hr.1, hr.2.1, hr.2.2.1, rfl, hr.2.2.2.1, hr.2.2.2.2.1, hr.2.2.2.2.2⟩ kk
theorem R_s3i (hX : Ok X own cc nL ret fr lo mc ms) {y : MethodName} {idx nL2 fr2 lo2 mc2 ms2 : Nat} {c2 : ByteArray} {ret2 : Option FieldType} {sh2 : Shp} {a1 a2 a3 : Value} {Q : Int → Hp → Prop} (hd : decode cc pc = .ok (.invokestatic idx, 3)) (hl : LK own idx y) (hm : MK y c2 nL2 ret2 3) (hi : MS y) (hc : Ct (xV X) y c2 nL2 ret2 fr2 lo2 mc2 ms2 sh [a1, a2, a3] F sh2 1 Q) (hr : (fr2 + 1 ≤ fr ∧ 8 + (nL2 + 11) + lo2 ≤ lo) ∧ cs + mc2 ≤ mc ∧ ss + ms2 ≤ ms ∧ L.length = nL ∧ st.length ≤ 4 ∧ sh2.length = sh.length + mc2) (kk : ∀ x F', Q x F' → R X sh2 (cs + mc2) (ss + ms2) (pc + 3) L (vi x :: st) F' Z) : R X sh cs ss pc L (a3 :: a2 :: a1 :: st) F Z := R_callS0 (As := [a1, a2, a3]) hX hd hl hm hi hc ⟨hr.1, hr.2.1, hr.2.2.1, rfl, hr.2.2.2.1, hr.2.2.2.2.1, hr.2.2.2.2.2⟩ kk
theorem R_s3l (hX : Ok X own cc nL ret fr lo mc ms) {y : MethodName} {idx nL2 fr2 lo2 mc2 ms2 : Nat} {c2 : ByteArray} {ret2 : Option FieldType} {sh2 : Shp} {a1 a2 a3 : Value} {Q : Int → Hp → Prop} (hd : decode cc pc = .ok (.invokestatic idx, 3)) (hl : LK own idx y) (hm : MK y c2 nL2 ret2 3) (hi : MS y) (hc : Ct (xV X) y c2 nL2 ret2 fr2 lo2 mc2 ms2 sh [a1, a2, a3] F sh2 2 Q) (hr : (fr2 + 1 ≤ fr ∧ 8 + (nL2 + 11) + lo2 ≤ lo) ∧ cs + mc2 ≤ mc ∧ ss + ms2 ≤ ms ∧ L.length = nL ∧ st.length ≤ 4 ∧ sh2.length = sh.length + mc2) (kk : ∀ x F', Q x F' → R X sh2 (cs + mc2) (ss + ms2) (pc + 3) L (vl x :: st) F' Z) : R X sh cs ss pc L (a3 :: a2 :: a1 :: st) F Z := R_callS0 (As := [a1, a2, a3]) hX hd hl hm hi hc ⟨hr.1, hr.2.1, hr.2.2.1, rfl, hr.2.2.2.1, hr.2.2.2.2.1, hr.2.2.2.2.2⟩ kk
theorem R_s3r (hX : Ok X own cc nL ret fr lo mc ms) {y : MethodName} {idx nL2 fr2 lo2 mc2 ms2 : Nat} {c2 : ByteArray} {ret2 : Option FieldType} {sh2 : Shp} {a1 a2 a3 : Value} {Q : Int → Hp → Prop} (hd : decode cc pc = .ok (.invokestatic idx, 3)) (hl : LK own idx y) (hm : MK y c2 nL2 ret2 3) (hi : MS y) (hc : Ct (xV X) y c2 nL2 ret2 fr2 lo2 mc2 ms2 sh [a1, a2, a3] F sh2 3 Q) (hr : (fr2 + 1 ≤ fr ∧ 8 + (nL2 + 11) + lo2 ≤ lo) ∧ cs + mc2 ≤ mc ∧ ss + ms2 ≤ ms ∧ L.length = nL ∧ st.length ≤ 4 ∧ sh2.length = sh.length + mc2) (kk : ∀ x F', Q x F' → R X sh2 (cs + mc2) (ss + ms2) (pc + 3) L (vr (xV X) x :: st) F' Z) : R X sh cs ss pc L (a3 :: a2 :: a1 :: st) F Z := R_callS0 (As := [a1, a2, a3]) hX hd hl hm hi hc ⟨hr.1, hr.2.1, hr.2.2.1, rfl, hr.2.2.2.1, hr.2.2.2.2.1, hr.2.2.2.2.2⟩ kk
theorem R_s4i (hX : Ok X own cc nL ret fr lo mc ms) {y : MethodName} {idx nL2 fr2 lo2 mc2 ms2 : Nat} {c2 : ByteArray} {ret2 : Option FieldType} {sh2 : Shp} {a1 a2 a3 a4 : Value} {Q : Int → Hp → Prop} (hd : decode cc pc = .ok (.invokestatic idx, 3)) (hl : LK own idx y) (hm : MK y c2 nL2 ret2 4) (hi : MS y) (hc : Ct (xV X) y c2 nL2 ret2 fr2 lo2 mc2 ms2 sh [a1, a2, a3, a4] F sh2 1 Q) (hr : (fr2 + 1 ≤ fr ∧ 8 + (nL2 + 11) + lo2 ≤ lo) ∧ cs + mc2 ≤ mc ∧ ss + ms2 ≤ ms ∧ L.length = nL ∧ st.length ≤ 4 ∧ sh2.length = sh.length + mc2) (kk : ∀ x F', Q x F' → R X sh2 (cs + mc2) (ss + ms2) (pc + 3) L (vi x :: st) F' Z) : R X sh cs ss pc L (a4 :: a3 :: a2 :: a1 :: st) F Z := R_callS0 (As := [a1, a2, a3, a4]) hX hd hl hm hi hc ⟨hr.1, hr.2.1, hr.2.2.1, rfl, hr.2.2.2.1, hr.2.2.2.2.1, hr.2.2.2.2.2⟩ kk
theorem R_s5v (hX : Ok X own cc nL ret fr lo mc ms) {y : MethodName} {idx nL2 fr2 lo2 mc2 ms2 : Nat} {c2 : ByteArray} {ret2 : Option FieldType} {sh2 : Shp} {a1 a2 a3 a4 a5 : Value} {Q : Int → Hp → Prop} (hd : decode cc pc = .ok (.invokestatic idx, 3)) (hl : LK own idx y) (hm : MK y c2 nL2 ret2 5) (hi : MS y) (hc : Ct (xV X) y c2 nL2 ret2 fr2 lo2 mc2 ms2 sh [a1, a2, a3, a4, a5] F sh2 0 Q) (hr : (fr2 + 1 ≤ fr ∧ 8 + (nL2 + 11) + lo2 ≤ lo) ∧ cs + mc2 ≤ mc ∧ ss + ms2 ≤ ms ∧ L.length = nL ∧ st.length ≤ 4 ∧ sh2.length = sh.length + mc2) (kk : ∀ x F', Q x F' → R X sh2 (cs + mc2) (ss + ms2) (pc + 3) L st F' Z) : R X sh cs ss pc L (a5 :: a4 :: a3 :: a2 :: a1 :: st) F Z := R_callS0 (As := [a1, a2, a3, a4, a5]) hX hd hl hm hi hc ⟨hr.1, hr.2.1, hr.2.2.1, rfl, hr.2.2.2.1, hr.2.2.2.2.1, hr.2.2.2.2.2⟩ kk
theorem R_s5i (hX : Ok X own cc nL ret fr lo mc ms) {y : MethodName} {idx nL2 fr2 lo2 mc2 ms2 : Nat} {c2 : ByteArray} {ret2 : Option FieldType} {sh2 : Shp} {a1 a2 a3 a4 a5 : Value} {Q : Int → Hp → Prop} (hd : decode cc pc = .ok (.invokestatic idx, 3)) (hl : LK own idx y) (hm : MK y c2 nL2 ret2 5) (hi : MS y) (hc : Ct (xV X) y c2 nL2 ret2 fr2 lo2 mc2 ms2 sh [a1, a2, a3, a4, a5] F sh2 1 Q) (hr : (fr2 + 1 ≤ fr ∧ 8 + (nL2 + 11) + lo2 ≤ lo) ∧ cs + mc2 ≤ mc ∧ ss + ms2 ≤ ms ∧ L.length = nL ∧ st.length ≤ 4 ∧ sh2.length = sh.length + mc2) (kk : ∀ x F', Q x F' → R X sh2 (cs + mc2) (ss + ms2) (pc + 3) L (vi x :: st) F' Z) : R X sh cs ss pc L (a5 :: a4 :: a3 :: a2 :: a1 :: st) F Z := R_callS0 (As := [a1, a2, a3, a4, a5]) hX hd hl hm hi hc ⟨hr.1, hr.2.1, hr.2.2.1, rfl, hr.2.2.2.1, hr.2.2.2.2.1, hr.2.2.2.2.2⟩ kk
theorem R_s6i (hX : Ok X own cc nL ret fr lo mc ms) {y : MethodName} {idx nL2 fr2 lo2 mc2 ms2 : Nat} {c2 : ByteArray} {ret2 : Option FieldType} {sh2 : Shp} {a1 a2 a3 a4 a5 a6 : Value} {Q : Int → Hp → Prop} (hd : decode cc pc = .ok (.invokestatic idx, 3)) (hl : LK own idx y) (hm : MK y c2 nL2 ret2 6) (hi : MS y) (hc : Ct (xV X) y c2 nL2 ret2 fr2 lo2 mc2 ms2 sh [a1, a2, a3, a4, a5, a6] F sh2 1 Q) (hr : (fr2 + 1 ≤ fr ∧ 8 + (nL2 + 11) + lo2 ≤ lo) ∧ cs + mc2 ≤ mc ∧ ss + ms2 ≤ ms ∧ L.length = nL ∧ st.length ≤ 4 ∧ sh2.length = sh.length + mc2) (kk : ∀ x F', Q x F' → R X sh2 (cs + mc2) (ss + ms2) (pc + 3) L (vi x :: st) F' Z) : R X sh cs ss pc L (a6 :: a5 :: a4 :: a3 :: a2 :: a1 :: st) F Z := R_callS0 (As := [a1, a2, a3, a4, a5, a6]) hX hd hl hm hi hc ⟨hr.1, hr.2.1, hr.2.2.1, rfl, hr.2.2.2.1, hr.2.2.2.2.1, hr.2.2.2.2.2⟩ kk
theorem R_sN1v (hX : Ok X own cc nL ret fr lo mc ms) {y : MethodName} {host : String} {idx nL2 fr2 lo2 mc2 ms2 : Nat} {c2 : ByteArray} {ret2 : Option FieldType} {sh2 : Shp} {a1 : Value} {Q : Int → Hp → Prop} (hd : decode cc pc = .ok (.invokestatic idx, 3)) (hl : LN own idx y host) (hm : MK y c2 nL2 ret2 1) (hi : MS y) (hc : Ct (xV X) y c2 nL2 ret2 fr2 lo2 mc2 ms2 sh [a1] F sh2 0 Q) (hr : (fr2 + 1 ≤ fr ∧ 8 + (nL2 + 11) + lo2 ≤ lo) ∧ cs + mc2 ≤ mc ∧ ss + ms2 ≤ ms ∧ L.length = nL ∧ st.length ≤ 4 ∧ sh2.length = sh.length + mc2) (kk : ∀ x F', Q x F' → R X sh2 (cs + mc2) (ss + ms2) (pc + 3) L st F' Z) : R X sh cs ss pc L (a1 :: st) F Z := R_callSN0 (As := [a1]) hX hd hl hm hi hc ⟨hr.1, hr.2.1, hr.2.2.1, rfl, hr.2.2.2.1, hr.2.2.2.2.1, hr.2.2.2.2.2⟩ kk
theorem R_sN1i (hX : Ok X own cc nL ret fr lo mc ms) {y : MethodName} {host : String} {idx nL2 fr2 lo2 mc2 ms2 : Nat} {c2 : ByteArray} {ret2 : Option FieldType} {sh2 : Shp} {a1 : Value} {Q : Int → Hp → Prop} (hd : decode cc pc = .ok (.invokestatic idx, 3)) (hl : LN own idx y host) (hm : MK y c2 nL2 ret2 1) (hi : MS y) (hc : Ct (xV X) y c2 nL2 ret2 fr2 lo2 mc2 ms2 sh [a1] F sh2 1 Q) (hr : (fr2 + 1 ≤ fr ∧ 8 + (nL2 + 11) + lo2 ≤ lo) ∧ cs + mc2 ≤ mc ∧ ss + ms2 ≤ ms ∧ L.length = nL ∧ st.length ≤ 4 ∧ sh2.length = sh.length + mc2) (kk : ∀ x F', Q x F' → R X sh2 (cs + mc2) (ss + ms2) (pc + 3) L (vi x :: st) F' Z) : R X sh cs ss pc L (a1 :: st) F Z := R_callSN0 (As := [a1]) hX hd hl hm hi hc ⟨hr.1, hr.2.1, hr.2.2.1, rfl, hr.2.2.2.1, hr.2.2.2.2.1, hr.2.2.2.2.2⟩ kk
theorem R_sN2v (hX : Ok X own cc nL ret fr lo mc ms) {y : MethodName} {host : String} {idx nL2 fr2 lo2 mc2 ms2 : Nat} {c2 : ByteArray} {ret2 : Option FieldType} {sh2 : Shp} {a1 a2 : Value} {Q : Int → Hp → Prop} (hd : decode cc pc = .ok (.invokestatic idx, 3)) (hl : LN own idx y host) (hm : MK y c2 nL2 ret2 2) (hi : MS y) (hc : Ct (xV X) y c2 nL2 ret2 fr2 lo2 mc2 ms2 sh [a1, a2] F sh2 0 Q) (hr : (fr2 + 1 ≤ fr ∧ 8 + (nL2 + 11) + lo2 ≤ lo) ∧ cs + mc2 ≤ mc ∧ ss + ms2 ≤ ms ∧ L.length = nL ∧ st.length ≤ 4 ∧ sh2.length = sh.length + mc2) (kk : ∀ x F', Q x F' → R X sh2 (cs + mc2) (ss + ms2) (pc + 3) L st F' Z) : R X sh cs ss pc L (a2 :: a1 :: st) F Z := R_callSN0 (As := [a1, a2]) hX hd hl hm hi hc ⟨hr.1, hr.2.1, hr.2.2.1, rfl, hr.2.2.2.1, hr.2.2.2.2.1, hr.2.2.2.2.2⟩ kk
theorem R_sN2i (hX : Ok X own cc nL ret fr lo mc ms) {y : MethodName} {host : String} {idx nL2 fr2 lo2 mc2 ms2 : Nat} {c2 : ByteArray} {ret2 : Option FieldType} {sh2 : Shp} {a1 a2 : Value} {Q : Int → Hp → Prop} (hd : decode cc pc = .ok (.invokestatic idx, 3)) (hl : LN own idx y host) (hm : MK y c2 nL2 ret2 2) (hi : MS y) (hc : Ct (xV X) y c2 nL2 ret2 fr2 lo2 mc2 ms2 sh [a1, a2] F sh2 1 Q) (hr : (fr2 + 1 ≤ fr ∧ 8 + (nL2 + 11) + lo2 ≤ lo) ∧ cs + mc2 ≤ mc ∧ ss + ms2 ≤ ms ∧ L.length = nL ∧ st.length ≤ 4 ∧ sh2.length = sh.length + mc2) (kk : ∀ x F', Q x F' → R X sh2 (cs + mc2) (ss + ms2) (pc + 3) L (vi x :: st) F' Z) : R X sh cs ss pc L (a2 :: a1 :: st) F Z := R_callSN0 (As := [a1, a2]) hX hd hl hm hi hc ⟨hr.1, hr.2.1, hr.2.2.1, rfl, hr.2.2.2.1, hr.2.2.2.2.1, hr.2.2.2.2.2⟩ kk
theorem R_sN3l (hX : Ok X own cc nL ret fr lo mc ms) {y : MethodName} {host : String} {idx nL2 fr2 lo2 mc2 ms2 : Nat} {c2 : ByteArray} {ret2 : Option FieldType} {sh2 : Shp} {a1 a2 a3 : Value} {Q : Int → Hp → Prop} (hd : decode cc pc = .ok (.invokestatic idx, 3)) (hl : LN own idx y host) (hm : MK y c2 nL2 ret2 3) (hi : MS y) (hc : Ct (xV X) y c2 nL2 ret2 fr2 lo2 mc2 ms2 sh [a1, a2, a3] F sh2 2 Q) (hr : (fr2 + 1 ≤ fr ∧ 8 + (nL2 + 11) + lo2 ≤ lo) ∧ cs + mc2 ≤ mc ∧ ss + ms2 ≤ ms ∧ L.length = nL ∧ st.length ≤ 4 ∧ sh2.length = sh.length + mc2) (kk : ∀ x F', Q x F' → R X sh2 (cs + mc2) (ss + ms2) (pc + 3) L (vl x :: st) F' Z) : R X sh cs ss pc L (a3 :: a2 :: a1 :: st) F Z := R_callSN0 (As := [a1, a2, a3]) hX hd hl hm hi hc ⟨hr.1, hr.2.1, hr.2.2.1, rfl, hr.2.2.2.1, hr.2.2.2.2.1, hr.2.2.2.2.2⟩ kk
theorem R_v0v (hX : Ok X own cc nL ret fr lo mc ms) {y : MethodName} {idx nL2 fr2 lo2 mc2 ms2 ci : Nat} {c2 : ByteArray} {ret2 : Option FieldType} {sh2 : Shp} {k : Int} {Q : Int → Hp → Prop} (hd : decode cc pc = .ok (.invokevirtual idx, 3)) (hl : LK own idx y) (hm : MK y c2 nL2 ret2 0) (hi : MI y) (hC : vwCl[ci]?.map (fun q => q.1) = some y.cls) {rs : List Int} (ho : isO sh k ci rs) (hc : Ct (xV X) y c2 nL2 ret2 fr2 lo2 mc2 ms2 sh (vr (xV X) k :: []) F sh2 0 Q) (hr : (fr2 + 1 ≤ fr ∧ 8 + (nL2 + 11) + lo2 ≤ lo) ∧ cs + mc2 ≤ mc ∧ ss + ms2 ≤ ms ∧ L.length = nL ∧ st.length ≤ 4 ∧ sh2.length = sh.length + mc2) (kk : ∀ x F', Q x F' → R X sh2 (cs + mc2) (ss + ms2) (pc + 3) L st F' Z) : R X sh cs ss pc L (vr (xV X) k :: st) F Z := R_callV0 (As := []) hX hd hl hm hi hC ho hc ⟨hr.1, hr.2.1, hr.2.2.1, rfl, hr.2.2.2.1, hr.2.2.2.2.1, hr.2.2.2.2.2⟩ kk
theorem R_v0i (hX : Ok X own cc nL ret fr lo mc ms) {y : MethodName} {idx nL2 fr2 lo2 mc2 ms2 ci : Nat} {c2 : ByteArray} {ret2 : Option FieldType} {sh2 : Shp} {k : Int} {Q : Int → Hp → Prop} (hd : decode cc pc = .ok (.invokevirtual idx, 3)) (hl : LK own idx y) (hm : MK y c2 nL2 ret2 0) (hi : MI y) (hC : vwCl[ci]?.map (fun q => q.1) = some y.cls) {rs : List Int} (ho : isO sh k ci rs) (hc : Ct (xV X) y c2 nL2 ret2 fr2 lo2 mc2 ms2 sh (vr (xV X) k :: []) F sh2 1 Q) (hr : (fr2 + 1 ≤ fr ∧ 8 + (nL2 + 11) + lo2 ≤ lo) ∧ cs + mc2 ≤ mc ∧ ss + ms2 ≤ ms ∧ L.length = nL ∧ st.length ≤ 4 ∧ sh2.length = sh.length + mc2) (kk : ∀ x F', Q x F' → R X sh2 (cs + mc2) (ss + ms2) (pc + 3) L (vi x :: st) F' Z) : R X sh cs ss pc L (vr (xV X) k :: st) F Z := R_callV0 (As := []) hX hd hl hm hi hC ho hc ⟨hr.1, hr.2.1, hr.2.2.1, rfl, hr.2.2.2.1, hr.2.2.2.2.1, hr.2.2.2.2.2⟩ kk
theorem R_v0r (hX : Ok X own cc nL ret fr lo mc ms) {y : MethodName} {idx nL2 fr2 lo2 mc2 ms2 ci : Nat} {c2 : ByteArray} {ret2 : Option FieldType} {sh2 : Shp} {k : Int} {Q : Int → Hp → Prop} (hd : decode cc pc = .ok (.invokevirtual idx, 3)) (hl : LK own idx y) (hm : MK y c2 nL2 ret2 0) (hi : MI y) (hC : vwCl[ci]?.map (fun q => q.1) = some y.cls) {rs : List Int} (ho : isO sh k ci rs) (hc : Ct (xV X) y c2 nL2 ret2 fr2 lo2 mc2 ms2 sh (vr (xV X) k :: []) F sh2 3 Q) (hr : (fr2 + 1 ≤ fr ∧ 8 + (nL2 + 11) + lo2 ≤ lo) ∧ cs + mc2 ≤ mc ∧ ss + ms2 ≤ ms ∧ L.length = nL ∧ st.length ≤ 4 ∧ sh2.length = sh.length + mc2) (kk : ∀ x F', Q x F' → R X sh2 (cs + mc2) (ss + ms2) (pc + 3) L (vr (xV X) x :: st) F' Z) : R X sh cs ss pc L (vr (xV X) k :: st) F Z := R_callV0 (As := []) hX hd hl hm hi hC ho hc ⟨hr.1, hr.2.1, hr.2.2.1, rfl, hr.2.2.2.1, hr.2.2.2.2.1, hr.2.2.2.2.2⟩ kk
theorem R_v1v (hX : Ok X own cc nL ret fr lo mc ms) {y : MethodName} {idx nL2 fr2 lo2 mc2 ms2 ci : Nat} {c2 : ByteArray} {ret2 : Option FieldType} {sh2 : Shp} {a1 : Value} {k : Int} {Q : Int → Hp → Prop} (hd : decode cc pc = .ok (.invokevirtual idx, 3)) (hl : LK own idx y) (hm : MK y c2 nL2 ret2 1) (hi : MI y) (hC : vwCl[ci]?.map (fun q => q.1) = some y.cls) {rs : List Int} (ho : isO sh k ci rs) (hc : Ct (xV X) y c2 nL2 ret2 fr2 lo2 mc2 ms2 sh (vr (xV X) k :: [a1]) F sh2 0 Q) (hr : (fr2 + 1 ≤ fr ∧ 8 + (nL2 + 11) + lo2 ≤ lo) ∧ cs + mc2 ≤ mc ∧ ss + ms2 ≤ ms ∧ L.length = nL ∧ st.length ≤ 4 ∧ sh2.length = sh.length + mc2) (kk : ∀ x F', Q x F' → R X sh2 (cs + mc2) (ss + ms2) (pc + 3) L st F' Z) : R X sh cs ss pc L (a1 :: vr (xV X) k :: st) F Z := R_callV0 (As := [a1]) hX hd hl hm hi hC ho hc ⟨hr.1, hr.2.1, hr.2.2.1, rfl, hr.2.2.2.1, hr.2.2.2.2.1, hr.2.2.2.2.2⟩ kk
theorem R_v1i (hX : Ok X own cc nL ret fr lo mc ms) {y : MethodName} {idx nL2 fr2 lo2 mc2 ms2 ci : Nat} {c2 : ByteArray} {ret2 : Option FieldType} {sh2 : Shp} {a1 : Value} {k : Int} {Q : Int → Hp → Prop} (hd : decode cc pc = .ok (.invokevirtual idx, 3)) (hl : LK own idx y) (hm : MK y c2 nL2 ret2 1) (hi : MI y) (hC : vwCl[ci]?.map (fun q => q.1) = some y.cls) {rs : List Int} (ho : isO sh k ci rs) (hc : Ct (xV X) y c2 nL2 ret2 fr2 lo2 mc2 ms2 sh (vr (xV X) k :: [a1]) F sh2 1 Q) (hr : (fr2 + 1 ≤ fr ∧ 8 + (nL2 + 11) + lo2 ≤ lo) ∧ cs + mc2 ≤ mc ∧ ss + ms2 ≤ ms ∧ L.length = nL ∧ st.length ≤ 4 ∧ sh2.length = sh.length + mc2) (kk : ∀ x F', Q x F' → R X sh2 (cs + mc2) (ss + ms2) (pc + 3) L (vi x :: st) F' Z) : R X sh cs ss pc L (a1 :: vr (xV X) k :: st) F Z := R_callV0 (As := [a1]) hX hd hl hm hi hC ho hc ⟨hr.1, hr.2.1, hr.2.2.1, rfl, hr.2.2.2.1, hr.2.2.2.2.1, hr.2.2.2.2.2⟩ kk
theorem R_v1r (hX : Ok X own cc nL ret fr lo mc ms) {y : MethodName} {idx nL2 fr2 lo2 mc2 ms2 ci : Nat} {c2 : ByteArray} {ret2 : Option FieldType} {sh2 : Shp} {a1 : Value} {k : Int} {Q : Int → Hp → Prop} (hd : decode cc pc = .ok (.invokevirtual idx, 3)) (hl : LK own idx y) (hm : MK y c2 nL2 ret2 1) (hi : MI y) (hC : vwCl[ci]?.map (fun q => q.1) = some y.cls) {rs : List Int} (ho : isO sh k ci rs) (hc : Ct (xV X) y c2 nL2 ret2 fr2 lo2 mc2 ms2 sh (vr (xV X) k :: [a1]) F sh2 3 Q) (hr : (fr2 + 1 ≤ fr ∧ 8 + (nL2 + 11) + lo2 ≤ lo) ∧ cs + mc2 ≤ mc ∧ ss + ms2 ≤ ms ∧ L.length = nL ∧ st.length ≤ 4 ∧ sh2.length = sh.length + mc2) (kk : ∀ x F', Q x F' → R X sh2 (cs + mc2) (ss + ms2) (pc + 3) L (vr (xV X) x :: st) F' Z) : R X sh cs ss pc L (a1 :: vr (xV X) k :: st) F Z := R_callV0 (As := [a1]) hX hd hl hm hi hC ho hc ⟨hr.1, hr.2.1, hr.2.2.1, rfl, hr.2.2.2.1, hr.2.2.2.2.1, hr.2.2.2.2.2⟩ kk
theorem R_v2v (hX : Ok X own cc nL ret fr lo mc ms) {y : MethodName} {idx nL2 fr2 lo2 mc2 ms2 ci : Nat} {c2 : ByteArray} {ret2 : Option FieldType} {sh2 : Shp} {a1 a2 : Value} {k : Int} {Q : Int → Hp → Prop} (hd : decode cc pc = .ok (.invokevirtual idx, 3)) (hl : LK own idx y) (hm : MK y c2 nL2 ret2 2) (hi : MI y) (hC : vwCl[ci]?.map (fun q => q.1) = some y.cls) {rs : List Int} (ho : isO sh k ci rs) (hc : Ct (xV X) y c2 nL2 ret2 fr2 lo2 mc2 ms2 sh (vr (xV X) k :: [a1, a2]) F sh2 0 Q) (hr : (fr2 + 1 ≤ fr ∧ 8 + (nL2 + 11) + lo2 ≤ lo) ∧ cs + mc2 ≤ mc ∧ ss + ms2 ≤ ms ∧ L.length = nL ∧ st.length ≤ 4 ∧ sh2.length = sh.length + mc2) (kk : ∀ x F', Q x F' → R X sh2 (cs + mc2) (ss + ms2) (pc + 3) L st F' Z) : R X sh cs ss pc L (a2 :: a1 :: vr (xV X) k :: st) F Z := R_callV0 (As := [a1, a2]) hX hd hl hm hi hC ho hc ⟨hr.1, hr.2.1, hr.2.2.1, rfl, hr.2.2.2.1, hr.2.2.2.2.1, hr.2.2.2.2.2⟩ kk
theorem R_v2i (hX : Ok X own cc nL ret fr lo mc ms) {y : MethodName} {idx nL2 fr2 lo2 mc2 ms2 ci : Nat} {c2 : ByteArray} {ret2 : Option FieldType} {sh2 : Shp} {a1 a2 : Value} {k : Int} {Q : Int → Hp → Prop} (hd : decode cc pc = .ok (.invokevirtual idx, 3)) (hl : LK own idx y) (hm : MK y c2 nL2 ret2 2) (hi : MI y) (hC : vwCl[ci]?.map (fun q => q.1) = some y.cls) {rs : List Int} (ho : isO sh k ci rs) (hc : Ct (xV X) y c2 nL2 ret2 fr2 lo2 mc2 ms2 sh (vr (xV X) k :: [a1, a2]) F sh2 1 Q) (hr : (fr2 + 1 ≤ fr ∧ 8 + (nL2 + 11) + lo2 ≤ lo) ∧ cs + mc2 ≤ mc ∧ ss + ms2 ≤ ms ∧ L.length = nL ∧ st.length ≤ 4 ∧ sh2.length = sh.length + mc2) (kk : ∀ x F', Q x F' → R X sh2 (cs + mc2) (ss + ms2) (pc + 3) L (vi x :: st) F' Z) : R X sh cs ss pc L (a2 :: a1 :: vr (xV X) k :: st) F Z := R_callV0 (As := [a1, a2]) hX hd hl hm hi hC ho hc ⟨hr.1, hr.2.1, hr.2.2.1, rfl, hr.2.2.2.1, hr.2.2.2.2.1, hr.2.2.2.2.2⟩ kk
theorem R_v3v (hX : Ok X own cc nL ret fr lo mc ms) {y : MethodName} {idx nL2 fr2 lo2 mc2 ms2 ci : Nat} {c2 : ByteArray} {ret2 : Option FieldType} {sh2 : Shp} {a1 a2 a3 : Value} {k : Int} {Q : Int → Hp → Prop} (hd : decode cc pc = .ok (.invokevirtual idx, 3)) (hl : LK own idx y) (hm : MK y c2 nL2 ret2 3) (hi : MI y) (hC : vwCl[ci]?.map (fun q => q.1) = some y.cls) {rs : List Int} (ho : isO sh k ci rs) (hc : Ct (xV X) y c2 nL2 ret2 fr2 lo2 mc2 ms2 sh (vr (xV X) k :: [a1, a2, a3]) F sh2 0 Q) (hr : (fr2 + 1 ≤ fr ∧ 8 + (nL2 + 11) + lo2 ≤ lo) ∧ cs + mc2 ≤ mc ∧ ss + ms2 ≤ ms ∧ L.length = nL ∧ st.length ≤ 4 ∧ sh2.length = sh.length + mc2) (kk : ∀ x F', Q x F' → R X sh2 (cs + mc2) (ss + ms2) (pc + 3) L st F' Z) : R X sh cs ss pc L (a3 :: a2 :: a1 :: vr (xV X) k :: st) F Z := R_callV0 (As := [a1, a2, a3]) hX hd hl hm hi hC ho hc ⟨hr.1, hr.2.1, hr.2.2.1, rfl, hr.2.2.2.1, hr.2.2.2.2.1, hr.2.2.2.2.2⟩ kk
theorem R_v3i (hX : Ok X own cc nL ret fr lo mc ms) {y : MethodName} {idx nL2 fr2 lo2 mc2 ms2 ci : Nat} {c2 : ByteArray} {ret2 : Option FieldType} {sh2 : Shp} {a1 a2 a3 : Value} {k : Int} {Q : Int → Hp → Prop} (hd : decode cc pc = .ok (.invokevirtual idx, 3)) (hl : LK own idx y) (hm : MK y c2 nL2 ret2 3) (hi : MI y) (hC : vwCl[ci]?.map (fun q => q.1) = some y.cls) {rs : List Int} (ho : isO sh k ci rs) (hc : Ct (xV X) y c2 nL2 ret2 fr2 lo2 mc2 ms2 sh (vr (xV X) k :: [a1, a2, a3]) F sh2 1 Q) (hr : (fr2 + 1 ≤ fr ∧ 8 + (nL2 + 11) + lo2 ≤ lo) ∧ cs + mc2 ≤ mc ∧ ss + ms2 ≤ ms ∧ L.length = nL ∧ st.length ≤ 4 ∧ sh2.length = sh.length + mc2) (kk : ∀ x F', Q x F' → R X sh2 (cs + mc2) (ss + ms2) (pc + 3) L (vi x :: st) F' Z) : R X sh cs ss pc L (a3 :: a2 :: a1 :: vr (xV X) k :: st) F Z := R_callV0 (As := [a1, a2, a3]) hX hd hl hm hi hC ho hc ⟨hr.1, hr.2.1, hr.2.2.1, rfl, hr.2.2.2.1, hr.2.2.2.2.1, hr.2.2.2.2.2⟩ kk
theorem R_v4v (hX : Ok X own cc nL ret fr lo mc ms) {y : MethodName} {idx nL2 fr2 lo2 mc2 ms2 ci : Nat} {c2 : ByteArray} {ret2 : Option FieldType} {sh2 : Shp} {a1 a2 a3 a4 : Value} {k : Int} {Q : Int → Hp → Prop} (hd : decode cc pc = .ok (.invokevirtual idx, 3)) (hl : LK own idx y) (hm : MK y c2 nL2 ret2 4) (hi : MI y) (hC : vwCl[ci]?.map (fun q => q.1) = some y.cls) {rs : List Int} (ho : isO sh k ci rs) (hc : Ct (xV X) y c2 nL2 ret2 fr2 lo2 mc2 ms2 sh (vr (xV X) k :: [a1, a2, a3, a4]) F sh2 0 Q) (hr : (fr2 + 1 ≤ fr ∧ 8 + (nL2 + 11) + lo2 ≤ lo) ∧ cs + mc2 ≤ mc ∧ ss + ms2 ≤ ms ∧ L.length = nL ∧ st.length ≤ 4 ∧ sh2.length = sh.length + mc2) (kk : ∀ x F', Q x F' → R X sh2 (cs + mc2) (ss + ms2) (pc + 3) L st F' Z) : R X sh cs ss pc L (a4 :: a3 :: a2 :: a1 :: vr (xV X) k :: st) F Z := R_callV0 (As := [a1, a2, a3, a4]) hX hd hl hm hi hC ho hc ⟨hr.1, hr.2.1, hr.2.2.1, rfl, hr.2.2.2.1, hr.2.2.2.2.1, hr.2.2.2.2.2⟩ kk
theorem R_v5i (hX : Ok X own cc nL ret fr lo mc ms) {y : MethodName} {idx nL2 fr2 lo2 mc2 ms2 ci : Nat} {c2 : ByteArray} {ret2 : Option FieldType} {sh2 : Shp} {a1 a2 a3 a4 a5 : Value} {k : Int} {Q : Int → Hp → Prop} (hd : decode cc pc = .ok (.invokevirtual idx, 3)) (hl : LK own idx y) (hm : MK y c2 nL2 ret2 5) (hi : MI y) (hC : vwCl[ci]?.map (fun q => q.1) = some y.cls) {rs : List Int} (ho : isO sh k ci rs) (hc : Ct (xV X) y c2 nL2 ret2 fr2 lo2 mc2 ms2 sh (vr (xV X) k :: [a1, a2, a3, a4, a5]) F sh2 1 Q) (hr : (fr2 + 1 ≤ fr ∧ 8 + (nL2 + 11) + lo2 ≤ lo) ∧ cs + mc2 ≤ mc ∧ ss + ms2 ≤ ms ∧ L.length = nL ∧ st.length ≤ 4 ∧ sh2.length = sh.length + mc2) (kk : ∀ x F', Q x F' → R X sh2 (cs + mc2) (ss + ms2) (pc + 3) L (vi x :: st) F' Z) : R X sh cs ss pc L (a5 :: a4 :: a3 :: a2 :: a1 :: vr (xV X) k :: st) F Z := R_callV0 (As := [a1, a2, a3, a4, a5]) hX hd hl hm hi hC ho hc ⟨hr.1, hr.2.1, hr.2.2.1, rfl, hr.2.2.2.1, hr.2.2.2.2.1, hr.2.2.2.2.2⟩ kk
end RN
end
section
/-- the cells behind the constructors -/
def SH (T : Shp) : Shp := .inl (11, [1, 3, 22, -1, 40, 64, 88, 112]) :: .inl (9, [2]) :: .inr (.byte, 900) :: .inl (5, [-1, -1, -1, 21]) :: .inl (7, [-1, 5, 6, 7, 8, 9, 10, 11, 12, 13, 14, 15, 16]) :: .inr (.long, 12) :: .inr (.int, 12) :: .inr (.int, 12) :: .inr (.int, 12) :: .inr (.int, 12) :: .inr (.int, 12) :: .inr (.int, 12) :: .inr (.int, 12) :: .inr (.int, 12) :: .inr (.int, 12) :: .inr (.boolean, 12) :: .inl (1, [-1, 17, 18, 19, 20]) :: .inr (.int, 12) :: .inr (.int, 12) :: .inr (.int, 12) :: .inr (.int, 12) :: .inl (6, []) :: .inl (10, []) :: .inl (7, [-1, 24, 25, 26, 27, 28, 29, 30, 31, 32, 33, 34, 35]) :: .inr (.long, 12) :: .inr (.int, 12) :: .inr (.int, 12) :: .inr (.int, 12) :: .inr (.int, 12) :: .inr (.int, 12) :: .inr (.int, 12) :: .inr (.int, 12) :: .inr (.int, 12) :: .inr (.int, 12) :: .inr (.boolean, 12) :: .inl (1, [-1, 36, 37, 38, 39]) :: .inr (.int, 12) :: .inr (.int, 12) :: .inr (.int, 12) :: .inr (.int, 12) :: .inl (8, [-1, -1, 41, 42, 43, 44, 48, 53, 59]) :: .inr (.int, 12) :: .inr (.int, 12) :: .inr (.int, 12) :: .inl (0, [45, 46, 47]) :: .inr (.int, 12) :: .inr (.int, 12) :: .inr (.int, 12) :: .inl (4, [49, 50, 51, 52]) :: .inr (.int, 12) :: .inr (.int, 192) :: .inr (.int, 192) :: .inr (.int, 192) :: .inl (2, [54, 55, 56, 57, 58]) :: .inr (.int, 12) :: .inr (.int, 12) :: .inr (.int, 12) :: .inr (.int, 12) :: .inr (.int, 12) :: .inl (3, [-1, 60, 61, 62, 63]) :: .inr (.int, 24) :: .inr (.int, 24) :: .inr (.int, 24) :: .inr (.int, 24) :: .inl (8, [-1, -1, 65, 66, 67, 68, 72, 77, 83]) :: .inr (.int, 12) :: .inr (.int, 12) :: .inr (.int, 12) :: .inl (0, [69, 70, 71]) :: .inr (.int, 12) :: .inr (.int, 12) :: .inr (.int, 12) :: .inl (4, [73, 74, 75, 76]) :: .inr (.int, 12) :: .inr (.int, 192) :: .inr (.int, 192) :: .inr (.int, 192) :: .inl (2, [78, 79, 80, 81, 82]) :: .inr (.int, 12) :: .inr (.int, 12) :: .inr (.int, 12) :: .inr (.int, 12) :: .inr (.int, 12) :: .inl (3, [-1, 84, 85, 86, 87]) :: .inr (.int, 24) :: .inr (.int, 24) :: .inr (.int, 24) :: .inr (.int, 24) :: .inl (8, [-1, -1, 89, 90, 91, 92, 96, 101, 107]) :: .inr (.int, 12) :: .inr (.int, 12) :: .inr (.int, 12) :: .inl (0, [93, 94, 95]) :: .inr (.int, 12) :: .inr (.int, 12) :: .inr (.int, 12) :: .inl (4, [97, 98, 99, 100]) :: .inr (.int, 12) :: .inr (.int, 192) :: .inr (.int, 192) :: .inr (.int, 192) :: .inl (2, [102, 103, 104, 105, 106]) :: .inr (.int, 12) :: .inr (.int, 12) :: .inr (.int, 12) :: .inr (.int, 12) :: .inr (.int, 12) :: .inl (3, [-1, 108, 109, 110, 111]) :: .inr (.int, 24) :: .inr (.int, 24) :: .inr (.int, 24) :: .inr (.int, 24) :: .inl (8, [-1, -1, 113, 114, 115, 116, 120, 125, 131]) :: .inr (.int, 12) :: .inr (.int, 12) :: .inr (.int, 12) :: .inl (0, [117, 118, 119]) :: .inr (.int, 12) :: .inr (.int, 12) :: .inr (.int, 12) :: .inl (4, [121, 122, 123, 124]) :: .inr (.int, 12) :: .inr (.int, 192) :: .inr (.int, 192) :: .inr (.int, 192) :: .inl (2, [126, 127, 128, 129, 130]) :: .inr (.int, 12) :: .inr (.int, 12) :: .inr (.int, 12) :: .inr (.int, 12) :: .inr (.int, 12) :: .inl (3, [-1, 132, 133, 134, 135]) :: .inr (.int, 24) :: .inr (.int, 24) :: .inr (.int, 24) :: .inr (.int, 24) :: T
set_option maxRecDepth 100000 in
theorem SH_len {T : Shp} : (SH T).length = 136 + T.length := by
  unfold SH
  simp only [List.length_cons]
  omega
theorem o_0 {T : Shp} : isO (SH T) 0 11 [1, 3, 22, -1, 40, 64, 88, 112] := ⟨by decide, rfl⟩
theorem o_1 {T : Shp} : isO (SH T) 1 9 [2] := ⟨by decide, rfl⟩
theorem a_2 {T : Shp} : isA (SH T) 2 .byte 900 := ⟨by decide, rfl, by decide⟩
theorem o_3 {T : Shp} : isO (SH T) 3 5 [-1, -1, -1, 21] := ⟨by decide, rfl⟩
theorem o_4 {T : Shp} : isO (SH T) 4 7 [-1, 5, 6, 7, 8, 9, 10, 11, 12, 13, 14, 15, 16] := ⟨by decide, rfl⟩
theorem a_5 {T : Shp} : isA (SH T) 5 .long 12 := ⟨by decide, rfl, by decide⟩
theorem a_6 {T : Shp} : isA (SH T) 6 .int 12 := ⟨by decide, rfl, by decide⟩
theorem a_7 {T : Shp} : isA (SH T) 7 .int 12 := ⟨by decide, rfl, by decide⟩
theorem a_8 {T : Shp} : isA (SH T) 8 .int 12 := ⟨by decide, rfl, by decide⟩
theorem a_9 {T : Shp} : isA (SH T) 9 .int 12 := ⟨by decide, rfl, by decide⟩
theorem a_10 {T : Shp} : isA (SH T) 10 .int 12 := ⟨by decide, rfl, by decide⟩
theorem a_11 {T : Shp} : isA (SH T) 11 .int 12 := ⟨by decide, rfl, by decide⟩
theorem a_12 {T : Shp} : isA (SH T) 12 .int 12 := ⟨by decide, rfl, by decide⟩
theorem a_13 {T : Shp} : isA (SH T) 13 .int 12 := ⟨by decide, rfl, by decide⟩
theorem a_14 {T : Shp} : isA (SH T) 14 .int 12 := ⟨by decide, rfl, by decide⟩
theorem a_15 {T : Shp} : isA (SH T) 15 .boolean 12 := ⟨by decide, rfl, by decide⟩
theorem o_16 {T : Shp} : isO (SH T) 16 1 [-1, 17, 18, 19, 20] := ⟨by decide, rfl⟩
theorem a_17 {T : Shp} : isA (SH T) 17 .int 12 := ⟨by decide, rfl, by decide⟩
theorem a_18 {T : Shp} : isA (SH T) 18 .int 12 := ⟨by decide, rfl, by decide⟩
theorem a_19 {T : Shp} : isA (SH T) 19 .int 12 := ⟨by decide, rfl, by decide⟩
theorem a_20 {T : Shp} : isA (SH T) 20 .int 12 := ⟨by decide, rfl, by decide⟩
theorem o_21 {T : Shp} : isO (SH T) 21 6 [] := ⟨by decide, rfl⟩
theorem o_22 {T : Shp} : isO (SH T) 22 10 [] := ⟨by decide, rfl⟩
theorem o_23 {T : Shp} : isO (SH T) 23 7 [-1, 24, 25, 26, 27, 28, 29, 30, 31, 32, 33, 34, 35] := ⟨by decide, rfl⟩
theorem a_24 {T : Shp} : isA (SH T) 24 .long 12 := ⟨by decide, rfl, by decide⟩
theorem a_25 {T : Shp} : isA (SH T) 25 .int 12 := ⟨by decide, rfl, by decide⟩
theorem a_26 {T : Shp} : isA (SH T) 26 .int 12 := ⟨by decide, rfl, by decide⟩
theorem a_27 {T : Shp} : isA (SH T) 27 .int 12 := ⟨by decide, rfl, by decide⟩
theorem a_28 {T : Shp} : isA (SH T) 28 .int 12 := ⟨by decide, rfl, by decide⟩
theorem a_29 {T : Shp} : isA (SH T) 29 .int 12 := ⟨by decide, rfl, by decide⟩
theorem a_30 {T : Shp} : isA (SH T) 30 .int 12 := ⟨by decide, rfl, by decide⟩
theorem a_31 {T : Shp} : isA (SH T) 31 .int 12 := ⟨by decide, rfl, by decide⟩
theorem a_32 {T : Shp} : isA (SH T) 32 .int 12 := ⟨by decide, rfl, by decide⟩
theorem a_33 {T : Shp} : isA (SH T) 33 .int 12 := ⟨by decide, rfl, by decide⟩
theorem a_34 {T : Shp} : isA (SH T) 34 .boolean 12 := ⟨by decide, rfl, by decide⟩
theorem o_35 {T : Shp} : isO (SH T) 35 1 [-1, 36, 37, 38, 39] := ⟨by decide, rfl⟩
theorem a_36 {T : Shp} : isA (SH T) 36 .int 12 := ⟨by decide, rfl, by decide⟩
theorem a_37 {T : Shp} : isA (SH T) 37 .int 12 := ⟨by decide, rfl, by decide⟩
theorem a_38 {T : Shp} : isA (SH T) 38 .int 12 := ⟨by decide, rfl, by decide⟩
theorem a_39 {T : Shp} : isA (SH T) 39 .int 12 := ⟨by decide, rfl, by decide⟩
theorem o_40 {T : Shp} : isO (SH T) 40 8 [-1, -1, 41, 42, 43, 44, 48, 53, 59] := ⟨by decide, rfl⟩
theorem a_41 {T : Shp} : isA (SH T) 41 .int 12 := ⟨by decide, rfl, by decide⟩
theorem a_42 {T : Shp} : isA (SH T) 42 .int 12 := ⟨by decide, rfl, by decide⟩
theorem a_43 {T : Shp} : isA (SH T) 43 .int 12 := ⟨by decide, rfl, by decide⟩
theorem o_44 {T : Shp} : isO (SH T) 44 0 [45, 46, 47] := ⟨by decide, rfl⟩
theorem a_45 {T : Shp} : isA (SH T) 45 .int 12 := ⟨by decide, rfl, by decide⟩
theorem a_46 {T : Shp} : isA (SH T) 46 .int 12 := ⟨by decide, rfl, by decide⟩
theorem a_47 {T : Shp} : isA (SH T) 47 .int 12 := ⟨by decide, rfl, by decide⟩
theorem o_48 {T : Shp} : isO (SH T) 48 4 [49, 50, 51, 52] := ⟨by decide, rfl⟩
theorem a_49 {T : Shp} : isA (SH T) 49 .int 12 := ⟨by decide, rfl, by decide⟩
theorem a_50 {T : Shp} : isA (SH T) 50 .int 192 := ⟨by decide, rfl, by decide⟩
theorem a_51 {T : Shp} : isA (SH T) 51 .int 192 := ⟨by decide, rfl, by decide⟩
theorem a_52 {T : Shp} : isA (SH T) 52 .int 192 := ⟨by decide, rfl, by decide⟩
theorem o_53 {T : Shp} : isO (SH T) 53 2 [54, 55, 56, 57, 58] := ⟨by decide, rfl⟩
theorem a_54 {T : Shp} : isA (SH T) 54 .int 12 := ⟨by decide, rfl, by decide⟩
theorem a_55 {T : Shp} : isA (SH T) 55 .int 12 := ⟨by decide, rfl, by decide⟩
theorem a_56 {T : Shp} : isA (SH T) 56 .int 12 := ⟨by decide, rfl, by decide⟩
theorem a_57 {T : Shp} : isA (SH T) 57 .int 12 := ⟨by decide, rfl, by decide⟩
theorem a_58 {T : Shp} : isA (SH T) 58 .int 12 := ⟨by decide, rfl, by decide⟩
theorem o_59 {T : Shp} : isO (SH T) 59 3 [-1, 60, 61, 62, 63] := ⟨by decide, rfl⟩
theorem a_60 {T : Shp} : isA (SH T) 60 .int 24 := ⟨by decide, rfl, by decide⟩
theorem a_61 {T : Shp} : isA (SH T) 61 .int 24 := ⟨by decide, rfl, by decide⟩
theorem a_62 {T : Shp} : isA (SH T) 62 .int 24 := ⟨by decide, rfl, by decide⟩
theorem a_63 {T : Shp} : isA (SH T) 63 .int 24 := ⟨by decide, rfl, by decide⟩
theorem o_64 {T : Shp} : isO (SH T) 64 8 [-1, -1, 65, 66, 67, 68, 72, 77, 83] := ⟨by decide, rfl⟩
theorem a_65 {T : Shp} : isA (SH T) 65 .int 12 := ⟨by decide, rfl, by decide⟩
theorem a_66 {T : Shp} : isA (SH T) 66 .int 12 := ⟨by decide, rfl, by decide⟩
theorem a_67 {T : Shp} : isA (SH T) 67 .int 12 := ⟨by decide, rfl, by decide⟩
theorem o_68 {T : Shp} : isO (SH T) 68 0 [69, 70, 71] := ⟨by decide, rfl⟩
theorem a_69 {T : Shp} : isA (SH T) 69 .int 12 := ⟨by decide, rfl, by decide⟩
theorem a_70 {T : Shp} : isA (SH T) 70 .int 12 := ⟨by decide, rfl, by decide⟩
theorem a_71 {T : Shp} : isA (SH T) 71 .int 12 := ⟨by decide, rfl, by decide⟩
theorem o_72 {T : Shp} : isO (SH T) 72 4 [73, 74, 75, 76] := ⟨by decide, rfl⟩
theorem a_73 {T : Shp} : isA (SH T) 73 .int 12 := ⟨by decide, rfl, by decide⟩
theorem a_74 {T : Shp} : isA (SH T) 74 .int 192 := ⟨by decide, rfl, by decide⟩
theorem a_75 {T : Shp} : isA (SH T) 75 .int 192 := ⟨by decide, rfl, by decide⟩
theorem a_76 {T : Shp} : isA (SH T) 76 .int 192 := ⟨by decide, rfl, by decide⟩
theorem o_77 {T : Shp} : isO (SH T) 77 2 [78, 79, 80, 81, 82] := ⟨by decide, rfl⟩
theorem a_78 {T : Shp} : isA (SH T) 78 .int 12 := ⟨by decide, rfl, by decide⟩
theorem a_79 {T : Shp} : isA (SH T) 79 .int 12 := ⟨by decide, rfl, by decide⟩
theorem a_80 {T : Shp} : isA (SH T) 80 .int 12 := ⟨by decide, rfl, by decide⟩
theorem a_81 {T : Shp} : isA (SH T) 81 .int 12 := ⟨by decide, rfl, by decide⟩
theorem a_82 {T : Shp} : isA (SH T) 82 .int 12 := ⟨by decide, rfl, by decide⟩
theorem o_83 {T : Shp} : isO (SH T) 83 3 [-1, 84, 85, 86, 87] := ⟨by decide, rfl⟩
theorem a_84 {T : Shp} : isA (SH T) 84 .int 24 := ⟨by decide, rfl, by decide⟩
theorem a_85 {T : Shp} : isA (SH T) 85 .int 24 := ⟨by decide, rfl, by decide⟩
theorem a_86 {T : Shp} : isA (SH T) 86 .int 24 := ⟨by decide, rfl, by decide⟩
theorem a_87 {T : Shp} : isA (SH T) 87 .int 24 := ⟨by decide, rfl, by decide⟩
theorem o_88 {T : Shp} : isO (SH T) 88 8 [-1, -1, 89, 90, 91, 92, 96, 101, 107] := ⟨by decide, rfl⟩
theorem a_89 {T : Shp} : isA (SH T) 89 .int 12 := ⟨by decide, rfl, by decide⟩
theorem a_90 {T : Shp} : isA (SH T) 90 .int 12 := ⟨by decide, rfl, by decide⟩
theorem a_91 {T : Shp} : isA (SH T) 91 .int 12 := ⟨by decide, rfl, by decide⟩
theorem o_92 {T : Shp} : isO (SH T) 92 0 [93, 94, 95] := ⟨by decide, rfl⟩
theorem a_93 {T : Shp} : isA (SH T) 93 .int 12 := ⟨by decide, rfl, by decide⟩
theorem a_94 {T : Shp} : isA (SH T) 94 .int 12 := ⟨by decide, rfl, by decide⟩
theorem a_95 {T : Shp} : isA (SH T) 95 .int 12 := ⟨by decide, rfl, by decide⟩
theorem o_96 {T : Shp} : isO (SH T) 96 4 [97, 98, 99, 100] := ⟨by decide, rfl⟩
theorem a_97 {T : Shp} : isA (SH T) 97 .int 12 := ⟨by decide, rfl, by decide⟩
theorem a_98 {T : Shp} : isA (SH T) 98 .int 192 := ⟨by decide, rfl, by decide⟩
theorem a_99 {T : Shp} : isA (SH T) 99 .int 192 := ⟨by decide, rfl, by decide⟩
theorem a_100 {T : Shp} : isA (SH T) 100 .int 192 := ⟨by decide, rfl, by decide⟩
theorem o_101 {T : Shp} : isO (SH T) 101 2 [102, 103, 104, 105, 106] := ⟨by decide, rfl⟩
theorem a_102 {T : Shp} : isA (SH T) 102 .int 12 := ⟨by decide, rfl, by decide⟩
theorem a_103 {T : Shp} : isA (SH T) 103 .int 12 := ⟨by decide, rfl, by decide⟩
theorem a_104 {T : Shp} : isA (SH T) 104 .int 12 := ⟨by decide, rfl, by decide⟩
theorem a_105 {T : Shp} : isA (SH T) 105 .int 12 := ⟨by decide, rfl, by decide⟩
theorem a_106 {T : Shp} : isA (SH T) 106 .int 12 := ⟨by decide, rfl, by decide⟩
theorem o_107 {T : Shp} : isO (SH T) 107 3 [-1, 108, 109, 110, 111] := ⟨by decide, rfl⟩
theorem a_108 {T : Shp} : isA (SH T) 108 .int 24 := ⟨by decide, rfl, by decide⟩
theorem a_109 {T : Shp} : isA (SH T) 109 .int 24 := ⟨by decide, rfl, by decide⟩
theorem a_110 {T : Shp} : isA (SH T) 110 .int 24 := ⟨by decide, rfl, by decide⟩
theorem a_111 {T : Shp} : isA (SH T) 111 .int 24 := ⟨by decide, rfl, by decide⟩
theorem o_112 {T : Shp} : isO (SH T) 112 8 [-1, -1, 113, 114, 115, 116, 120, 125, 131] := ⟨by decide, rfl⟩
theorem a_113 {T : Shp} : isA (SH T) 113 .int 12 := ⟨by decide, rfl, by decide⟩
theorem a_114 {T : Shp} : isA (SH T) 114 .int 12 := ⟨by decide, rfl, by decide⟩
theorem a_115 {T : Shp} : isA (SH T) 115 .int 12 := ⟨by decide, rfl, by decide⟩
theorem o_116 {T : Shp} : isO (SH T) 116 0 [117, 118, 119] := ⟨by decide, rfl⟩
theorem a_117 {T : Shp} : isA (SH T) 117 .int 12 := ⟨by decide, rfl, by decide⟩
theorem a_118 {T : Shp} : isA (SH T) 118 .int 12 := ⟨by decide, rfl, by decide⟩
theorem a_119 {T : Shp} : isA (SH T) 119 .int 12 := ⟨by decide, rfl, by decide⟩
theorem o_120 {T : Shp} : isO (SH T) 120 4 [121, 122, 123, 124] := ⟨by decide, rfl⟩
theorem a_121 {T : Shp} : isA (SH T) 121 .int 12 := ⟨by decide, rfl, by decide⟩
theorem a_122 {T : Shp} : isA (SH T) 122 .int 192 := ⟨by decide, rfl, by decide⟩
theorem a_123 {T : Shp} : isA (SH T) 123 .int 192 := ⟨by decide, rfl, by decide⟩
theorem a_124 {T : Shp} : isA (SH T) 124 .int 192 := ⟨by decide, rfl, by decide⟩
theorem o_125 {T : Shp} : isO (SH T) 125 2 [126, 127, 128, 129, 130] := ⟨by decide, rfl⟩
theorem a_126 {T : Shp} : isA (SH T) 126 .int 12 := ⟨by decide, rfl, by decide⟩
theorem a_127 {T : Shp} : isA (SH T) 127 .int 12 := ⟨by decide, rfl, by decide⟩
theorem a_128 {T : Shp} : isA (SH T) 128 .int 12 := ⟨by decide, rfl, by decide⟩
theorem a_129 {T : Shp} : isA (SH T) 129 .int 12 := ⟨by decide, rfl, by decide⟩
theorem a_130 {T : Shp} : isA (SH T) 130 .int 12 := ⟨by decide, rfl, by decide⟩
theorem o_131 {T : Shp} : isO (SH T) 131 3 [-1, 132, 133, 134, 135] := ⟨by decide, rfl⟩
theorem a_132 {T : Shp} : isA (SH T) 132 .int 24 := ⟨by decide, rfl, by decide⟩
theorem a_133 {T : Shp} : isA (SH T) 133 .int 24 := ⟨by decide, rfl, by decide⟩
theorem a_134 {T : Shp} : isA (SH T) 134 .int 24 := ⟨by decide, rfl, by decide⟩
theorem a_135 {T : Shp} : isA (SH T) 135 .int 24 := ⟨by decide, rfl, by decide⟩
abbrev isSt (b : Int) : Prop := b = 40 ∨ b = 64 ∨ b = 88 ∨ b = 112
abbrev isSu (u : Int) : Prop := u = 4 ∨ u = 23
theorem so_0 {T : Shp} {b : Int} (h : isSt b) : isO (SH T) (b) 8 [-1, -1, b + 1, b + 2, b + 3, b + 4, b + 8, b + 13, b + 19] := by
  rcases h with rfl | rfl | rfl | rfl <;> exact ⟨by decide, rfl⟩
theorem sa_1 {T : Shp} {b : Int} (h : isSt b) : isA (SH T) (b + 1) .int 12 := by
  rcases h with rfl | rfl | rfl | rfl <;> exact ⟨by decide, rfl, by decide⟩
theorem sa_2 {T : Shp} {b : Int} (h : isSt b) : isA (SH T) (b + 2) .int 12 := by
  rcases h with rfl | rfl | rfl | rfl <;> exact ⟨by decide, rfl, by decide⟩
theorem sa_3 {T : Shp} {b : Int} (h : isSt b) : isA (SH T) (b + 3) .int 12 := by
  rcases h with rfl | rfl | rfl | rfl <;> exact ⟨by decide, rfl, by decide⟩
theorem so_4 {T : Shp} {b : Int} (h : isSt b) : isO (SH T) (b + 4) 0 [b + 5, b + 6, b + 7] := by
  rcases h with rfl | rfl | rfl | rfl <;> exact ⟨by decide, rfl⟩
theorem sa_5 {T : Shp} {b : Int} (h : isSt b) : isA (SH T) (b + 5) .int 12 := by
  rcases h with rfl | rfl | rfl | rfl <;> exact ⟨by decide, rfl, by decide⟩
theorem sa_6 {T : Shp} {b : Int} (h : isSt b) : isA (SH T) (b + 6) .int 12 := by
  rcases h with rfl | rfl | rfl | rfl <;> exact ⟨by decide, rfl, by decide⟩
theorem sa_7 {T : Shp} {b : Int} (h : isSt b) : isA (SH T) (b + 7) .int 12 := by
  rcases h with rfl | rfl | rfl | rfl <;> exact ⟨by decide, rfl, by decide⟩
theorem so_8 {T : Shp} {b : Int} (h : isSt b) : isO (SH T) (b + 8) 4 [b + 9, b + 10, b + 11, b + 12] := by
  rcases h with rfl | rfl | rfl | rfl <;> exact ⟨by decide, rfl⟩
theorem sa_9 {T : Shp} {b : Int} (h : isSt b) : isA (SH T) (b + 9) .int 12 := by
  rcases h with rfl | rfl | rfl | rfl <;> exact ⟨by decide, rfl, by decide⟩
theorem sa_10 {T : Shp} {b : Int} (h : isSt b) : isA (SH T) (b + 10) .int 192 := by
  rcases h with rfl | rfl | rfl | rfl <;> exact ⟨by decide, rfl, by decide⟩
theorem sa_11 {T : Shp} {b : Int} (h : isSt b) : isA (SH T) (b + 11) .int 192 := by
  rcases h with rfl | rfl | rfl | rfl <;> exact ⟨by decide, rfl, by decide⟩
theorem sa_12 {T : Shp} {b : Int} (h : isSt b) : isA (SH T) (b + 12) .int 192 := by
  rcases h with rfl | rfl | rfl | rfl <;> exact ⟨by decide, rfl, by decide⟩
theorem so_13 {T : Shp} {b : Int} (h : isSt b) : isO (SH T) (b + 13) 2 [b + 14, b + 15, b + 16, b + 17, b + 18] := by
  rcases h with rfl | rfl | rfl | rfl <;> exact ⟨by decide, rfl⟩
theorem sa_14 {T : Shp} {b : Int} (h : isSt b) : isA (SH T) (b + 14) .int 12 := by
  rcases h with rfl | rfl | rfl | rfl <;> exact ⟨by decide, rfl, by decide⟩
theorem sa_15 {T : Shp} {b : Int} (h : isSt b) : isA (SH T) (b + 15) .int 12 := by
  rcases h with rfl | rfl | rfl | rfl <;> exact ⟨by decide, rfl, by decide⟩
theorem sa_16 {T : Shp} {b : Int} (h : isSt b) : isA (SH T) (b + 16) .int 12 := by
  rcases h with rfl | rfl | rfl | rfl <;> exact ⟨by decide, rfl, by decide⟩
theorem sa_17 {T : Shp} {b : Int} (h : isSt b) : isA (SH T) (b + 17) .int 12 := by
  rcases h with rfl | rfl | rfl | rfl <;> exact ⟨by decide, rfl, by decide⟩
theorem sa_18 {T : Shp} {b : Int} (h : isSt b) : isA (SH T) (b + 18) .int 12 := by
  rcases h with rfl | rfl | rfl | rfl <;> exact ⟨by decide, rfl, by decide⟩
theorem so_19 {T : Shp} {b : Int} (h : isSt b) : isO (SH T) (b + 19) 3 [-1, b + 20, b + 21, b + 22, b + 23] := by
  rcases h with rfl | rfl | rfl | rfl <;> exact ⟨by decide, rfl⟩
theorem sa_20 {T : Shp} {b : Int} (h : isSt b) : isA (SH T) (b + 20) .int 24 := by
  rcases h with rfl | rfl | rfl | rfl <;> exact ⟨by decide, rfl, by decide⟩
theorem sa_21 {T : Shp} {b : Int} (h : isSt b) : isA (SH T) (b + 21) .int 24 := by
  rcases h with rfl | rfl | rfl | rfl <;> exact ⟨by decide, rfl, by decide⟩
theorem sa_22 {T : Shp} {b : Int} (h : isSt b) : isA (SH T) (b + 22) .int 24 := by
  rcases h with rfl | rfl | rfl | rfl <;> exact ⟨by decide, rfl, by decide⟩
theorem sa_23 {T : Shp} {b : Int} (h : isSt b) : isA (SH T) (b + 23) .int 24 := by
  rcases h with rfl | rfl | rfl | rfl <;> exact ⟨by decide, rfl, by decide⟩
theorem to_0 {T : Shp} {u : Int} (h : isSu u) : isO (SH T) (u) 7 [-1, u + 1, u + 2, u + 3, u + 4, u + 5, u + 6, u + 7, u + 8, u + 9, u + 10, u + 11, u + 12] := by
  rcases h with rfl | rfl <;> exact ⟨by decide, rfl⟩
theorem ta_1 {T : Shp} {u : Int} (h : isSu u) : isA (SH T) (u + 1) .long 12 := by
  rcases h with rfl | rfl <;> exact ⟨by decide, rfl, by decide⟩
theorem ta_2 {T : Shp} {u : Int} (h : isSu u) : isA (SH T) (u + 2) .int 12 := by
  rcases h with rfl | rfl <;> exact ⟨by decide, rfl, by decide⟩
theorem ta_3 {T : Shp} {u : Int} (h : isSu u) : isA (SH T) (u + 3) .int 12 := by
  rcases h with rfl | rfl <;> exact ⟨by decide, rfl, by decide⟩
theorem ta_4 {T : Shp} {u : Int} (h : isSu u) : isA (SH T) (u + 4) .int 12 := by
  rcases h with rfl | rfl <;> exact ⟨by decide, rfl, by decide⟩
theorem ta_5 {T : Shp} {u : Int} (h : isSu u) : isA (SH T) (u + 5) .int 12 := by
  rcases h with rfl | rfl <;> exact ⟨by decide, rfl, by decide⟩
theorem ta_6 {T : Shp} {u : Int} (h : isSu u) : isA (SH T) (u + 6) .int 12 := by
  rcases h with rfl | rfl <;> exact ⟨by decide, rfl, by decide⟩
theorem ta_7 {T : Shp} {u : Int} (h : isSu u) : isA (SH T) (u + 7) .int 12 := by
  rcases h with rfl | rfl <;> exact ⟨by decide, rfl, by decide⟩
theorem ta_8 {T : Shp} {u : Int} (h : isSu u) : isA (SH T) (u + 8) .int 12 := by
  rcases h with rfl | rfl <;> exact ⟨by decide, rfl, by decide⟩
theorem ta_9 {T : Shp} {u : Int} (h : isSu u) : isA (SH T) (u + 9) .int 12 := by
  rcases h with rfl | rfl <;> exact ⟨by decide, rfl, by decide⟩
theorem ta_10 {T : Shp} {u : Int} (h : isSu u) : isA (SH T) (u + 10) .int 12 := by
  rcases h with rfl | rfl <;> exact ⟨by decide, rfl, by decide⟩
theorem ta_11 {T : Shp} {u : Int} (h : isSu u) : isA (SH T) (u + 11) .boolean 12 := by
  rcases h with rfl | rfl <;> exact ⟨by decide, rfl, by decide⟩
theorem to_12 {T : Shp} {u : Int} (h : isSu u) : isO (SH T) (u + 12) 1 [-1, u + 13, u + 14, u + 15, u + 16] := by
  rcases h with rfl | rfl <;> exact ⟨by decide, rfl⟩
theorem ta_13 {T : Shp} {u : Int} (h : isSu u) : isA (SH T) (u + 13) .int 12 := by
  rcases h with rfl | rfl <;> exact ⟨by decide, rfl, by decide⟩
theorem ta_14 {T : Shp} {u : Int} (h : isSu u) : isA (SH T) (u + 14) .int 12 := by
  rcases h with rfl | rfl <;> exact ⟨by decide, rfl, by decide⟩
theorem ta_15 {T : Shp} {u : Int} (h : isSu u) : isA (SH T) (u + 15) .int 12 := by
  rcases h with rfl | rfl <;> exact ⟨by decide, rfl, by decide⟩
theorem ta_16 {T : Shp} {u : Int} (h : isSu u) : isA (SH T) (u + 16) .int 12 := by
  rcases h with rfl | rfl <;> exact ⟨by decide, rfl, by decide⟩
section RQ
variable {X : KX} {sh : Shp} {cs ss pc : Nat} {L : List (Option Value)} {st : List Value} {F : Hp} {Z : State → Prop} {own : String} {cc : ByteArray} {nL : Nat} {ret : Option FieldType} {fr lo mc ms : Nat}
theorem R_getoE (hX : Ok X own cc nL ret fr lo mc ms) {idx ci : Nat} {j k v : Int} {fin : Bool} {n : String} (hd : decode cc pc = .ok (.getfield idx, 3)) (hf : FLk own idx ci j (.object n) fin) {rs : List Int} (ho : isO sh k ci rs) (hz0 : rs.getD j.toNat (-1) = -1) (he : F k j = v) (kk : R X sh cs ss (pc + 3) L (vr (xV X) v :: st) F Z) : R X sh cs ss pc L (vr (xV X) k :: st) F Z := R_geto hX hd hf ho hz0 (by rw [he]; exact kk)

theorem R_drop_0 {a : Option Value} {T : List (Option Value)} (k : R X sh cs ss pc (none :: T) st F Z) : R X sh cs ss pc (a :: T) st F Z := R.drop (none :: T) (by simp only [List.length_cons]) (fun i v h => by
  rcases Nat.lt_trichotomy i 0 with q | q | q
  · rcases i with _ <;> first | exact h | omega
  · subst q; cases h
  · obtain ⟨j, rfl⟩ : ∃ j, i = j + 1 := ⟨i - 1, by omega⟩
    exact h) k
theorem R_drop_1 {a0 : Option Value} {a : Option Value} {T : List (Option Value)} (k : R X sh cs ss pc (a0 :: none :: T) st F Z) : R X sh cs ss pc (a0 :: a :: T) st F Z := R.drop (a0 :: none :: T) (by simp only [List.length_cons]) (fun i v h => by
  rcases Nat.lt_trichotomy i 1 with q | q | q
  · rcases i with _ | _ <;> first | exact h | omega
  · subst q; cases h
  · obtain ⟨j, rfl⟩ : ∃ j, i = j + 2 := ⟨i - 2, by omega⟩
    exact h) k
theorem R_drop_2 {a0 a1 : Option Value} {a : Option Value} {T : List (Option Value)} (k : R X sh cs ss pc (a0 :: a1 :: none :: T) st F Z) : R X sh cs ss pc (a0 :: a1 :: a :: T) st F Z := R.drop (a0 :: a1 :: none :: T) (by simp only [List.length_cons]) (fun i v h => by
  rcases Nat.lt_trichotomy i 2 with q | q | q
  · rcases i with _ | _ | _ <;> first | exact h | omega
  · subst q; cases h
  · obtain ⟨j, rfl⟩ : ∃ j, i = j + 3 := ⟨i - 3, by omega⟩
    exact h) k
theorem R_drop_3 {a0 a1 a2 : Option Value} {a : Option Value} {T : List (Option Value)} (k : R X sh cs ss pc (a0 :: a1 :: a2 :: none :: T) st F Z) : R X sh cs ss pc (a0 :: a1 :: a2 :: a :: T) st F Z := R.drop (a0 :: a1 :: a2 :: none :: T) (by simp only [List.length_cons]) (fun i v h => by
  rcases Nat.lt_trichotomy i 3 with q | q | q
  · rcases i with _ | _ | _ | _ <;> first | exact h | omega
  · subst q; cases h
  · obtain ⟨j, rfl⟩ : ∃ j, i = j + 4 := ⟨i - 4, by omega⟩
    exact h) k
theorem R_drop_4 {a0 a1 a2 a3 : Option Value} {a : Option Value} {T : List (Option Value)} (k : R X sh cs ss pc (a0 :: a1 :: a2 :: a3 :: none :: T) st F Z) : R X sh cs ss pc (a0 :: a1 :: a2 :: a3 :: a :: T) st F Z := R.drop (a0 :: a1 :: a2 :: a3 :: none :: T) (by simp only [List.length_cons]) (fun i v h => by
  rcases Nat.lt_trichotomy i 4 with q | q | q
  · rcases i with _ | _ | _ | _ | _ <;> first | exact h | omega
  · subst q; cases h
  · obtain ⟨j, rfl⟩ : ∃ j, i = j + 5 := ⟨i - 5, by omega⟩
    exact h) k
theorem R_drop_5 {a0 a1 a2 a3 a4 : Option Value} {a : Option Value} {T : List (Option Value)} (k : R X sh cs ss pc (a0 :: a1 :: a2 :: a3 :: a4 :: none :: T) st F Z) : R X sh cs ss pc (a0 :: a1 :: a2 :: a3 :: a4 :: a :: T) st F Z := R.drop (a0 :: a1 :: a2 :: a3 :: a4 :: none :: T) (by simp only [List.length_cons]) (fun i v h => by
  rcases Nat.lt_trichotomy i 5 with q | q | q
  · rcases i with _ | _ | _ | _ | _ | _ <;> first | exact h | omega
  · subst q; cases h
  · obtain ⟨j, rfl⟩ : ∃ j, i = j + 6 := ⟨i - 6, by omega⟩
    exact h) k
theorem R_drop_6 {a0 a1 a2 a3 a4 a5 : Option Value} {a : Option Value} {T : List (Option Value)} (k : R X sh cs ss pc (a0 :: a1 :: a2 :: a3 :: a4 :: a5 :: none :: T) st F Z) : R X sh cs ss pc (a0 :: a1 :: a2 :: a3 :: a4 :: a5 :: a :: T) st F Z := R.drop (a0 :: a1 :: a2 :: a3 :: a4 :: a5 :: none :: T) (by simp only [List.length_cons]) (fun i v h => by
  rcases Nat.lt_trichotomy i 6 with q | q | q
  · rcases i with _ | _ | _ | _ | _ | _ | _ <;> first | exact h | omega
  · subst q; cases h
  · obtain ⟨j, rfl⟩ : ∃ j, i = j + 7 := ⟨i - 7, by omega⟩
    exact h) k
theorem R_drop_7 {a0 a1 a2 a3 a4 a5 a6 : Option Value} {a : Option Value} {T : List (Option Value)} (k : R X sh cs ss pc (a0 :: a1 :: a2 :: a3 :: a4 :: a5 :: a6 :: none :: T) st F Z) : R X sh cs ss pc (a0 :: a1 :: a2 :: a3 :: a4 :: a5 :: a6 :: a :: T) st F Z := R.drop (a0 :: a1 :: a2 :: a3 :: a4 :: a5 :: a6 :: none :: T) (by simp only [List.length_cons]) (fun i v h => by
  rcases Nat.lt_trichotomy i 7 with q | q | q
  · rcases i with _ | _ | _ | _ | _ | _ | _ | _ <;> first | exact h | omega
  · subst q; cases h
  · obtain ⟨j, rfl⟩ : ∃ j, i = j + 8 := ⟨i - 8, by omega⟩
    exact h) k
theorem R_drop_8 {a0 a1 a2 a3 a4 a5 a6 a7 : Option Value} {a : Option Value} {T : List (Option Value)} (k : R X sh cs ss pc (a0 :: a1 :: a2 :: a3 :: a4 :: a5 :: a6 :: a7 :: none :: T) st F Z) : R X sh cs ss pc (a0 :: a1 :: a2 :: a3 :: a4 :: a5 :: a6 :: a7 :: a :: T) st F Z := R.drop (a0 :: a1 :: a2 :: a3 :: a4 :: a5 :: a6 :: a7 :: none :: T) (by simp only [List.length_cons]) (fun i v h => by
  rcases Nat.lt_trichotomy i 8 with q | q | q
  · rcases i with _ | _ | _ | _ | _ | _ | _ | _ | _ <;> first | exact h | omega
  · subst q; cases h
  · obtain ⟨j, rfl⟩ : ∃ j, i = j + 9 := ⟨i - 9, by omega⟩
    exact h) k
theorem R_drop_9 {a0 a1 a2 a3 a4 a5 a6 a7 a8 : Option Value} {a : Option Value} {T : List (Option Value)} (k : R X sh cs ss pc (a0 :: a1 :: a2 :: a3 :: a4 :: a5 :: a6 :: a7 :: a8 :: none :: T) st F Z) : R X sh cs ss pc (a0 :: a1 :: a2 :: a3 :: a4 :: a5 :: a6 :: a7 :: a8 :: a :: T) st F Z := R.drop (a0 :: a1 :: a2 :: a3 :: a4 :: a5 :: a6 :: a7 :: a8 :: none :: T) (by simp only [List.length_cons]) (fun i v h => by
  rcases Nat.lt_trichotomy i 9 with q | q | q
  · rcases i with _ | _ | _ | _ | _ | _ | _ | _ | _ | _ <;> first | exact h | omega
  · subst q; cases h
  · obtain ⟨j, rfl⟩ : ∃ j, i = j + 10 := ⟨i - 10, by omega⟩
    exact h) k
theorem R_drop_10 {a0 a1 a2 a3 a4 a5 a6 a7 a8 a9 : Option Value} {a : Option Value} {T : List (Option Value)} (k : R X sh cs ss pc (a0 :: a1 :: a2 :: a3 :: a4 :: a5 :: a6 :: a7 :: a8 :: a9 :: none :: T) st F Z) : R X sh cs ss pc (a0 :: a1 :: a2 :: a3 :: a4 :: a5 :: a6 :: a7 :: a8 :: a9 :: a :: T) st F Z := R.drop (a0 :: a1 :: a2 :: a3 :: a4 :: a5 :: a6 :: a7 :: a8 :: a9 :: none :: T) (by simp only [List.length_cons]) (fun i v h => by
  rcases Nat.lt_trichotomy i 10 with q | q | q
  · rcases i with _ | _ | _ | _ | _ | _ | _ | _ | _ | _ | _ <;> first | exact h | omega
  · subst q; cases h
  · obtain ⟨j, rfl⟩ : ∃ j, i = j + 11 := ⟨i - 11, by omega⟩
    exact h) k
theorem R_drop_11 {a0 a1 a2 a3 a4 a5 a6 a7 a8 a9 a10 : Option Value} {a : Option Value} {T : List (Option Value)} (k : R X sh cs ss pc (a0 :: a1 :: a2 :: a3 :: a4 :: a5 :: a6 :: a7 :: a8 :: a9 :: a10 :: none :: T) st F Z) : R X sh cs ss pc (a0 :: a1 :: a2 :: a3 :: a4 :: a5 :: a6 :: a7 :: a8 :: a9 :: a10 :: a :: T) st F Z := R.drop (a0 :: a1 :: a2 :: a3 :: a4 :: a5 :: a6 :: a7 :: a8 :: a9 :: a10 :: none :: T) (by simp only [List.length_cons]) (fun i v h => by
  rcases Nat.lt_trichotomy i 11 with q | q | q
  · rcases i with _ | _ | _ | _ | _ | _ | _ | _ | _ | _ | _ | _ <;> first | exact h | omega
  · subst q; cases h
  · obtain ⟨j, rfl⟩ : ∃ j, i = j + 12 := ⟨i - 12, by omega⟩
    exact h) k
theorem R_drop_12 {a0 a1 a2 a3 a4 a5 a6 a7 a8 a9 a10 a11 : Option Value} {a : Option Value} {T : List (Option Value)} (k : R X sh cs ss pc (a0 :: a1 :: a2 :: a3 :: a4 :: a5 :: a6 :: a7 :: a8 :: a9 :: a10 :: a11 :: none :: T) st F Z) : R X sh cs ss pc (a0 :: a1 :: a2 :: a3 :: a4 :: a5 :: a6 :: a7 :: a8 :: a9 :: a10 :: a11 :: a :: T) st F Z := R.drop (a0 :: a1 :: a2 :: a3 :: a4 :: a5 :: a6 :: a7 :: a8 :: a9 :: a10 :: a11 :: none :: T) (by simp only [List.length_cons]) (fun i v h => by
  rcases Nat.lt_trichotomy i 12 with q | q | q
  · rcases i with _ | _ | _ | _ | _ | _ | _ | _ | _ | _ | _ | _ | _ <;> first | exact h | omega
  · subst q; cases h
  · obtain ⟨j, rfl⟩ : ∃ j, i = j + 13 := ⟨i - 13, by omega⟩
    exact h) k
end RQ
end
section
theorem tb {i : Nat} {w : Cond} (h : (tables_1[i]?).filter goodWord = some w) : w ∈ gwt := by
  obtain ⟨h1, h2⟩ := Option.filter_eq_some_iff.mp h
  exact List.mem_filter.mpr ⟨List.mem_append_right _ (List.mem_append_right _ (List.mem_of_getElem? h1)), h2⟩
theorem tbs {ws : List Cond} (is : List Nat) (h : ws = is.filterMap (fun i => (tables_1[i]?).filter goodWord)) : ∀ w ∈ ws, w ∈ gwt := by
  intro w hw
  rw [h] at hw
  obtain ⟨i, -, hi⟩ := List.mem_filterMap.mp hw
  exact tb hi
theorem nb {i : Nat} {w : Cond} (h : (tables_1[i]?).filter isNest = some w) : w ∈ nst := by
  obtain ⟨h1, h2⟩ := Option.filter_eq_some_iff.mp h
  exact List.mem_filter.mpr ⟨List.mem_of_getElem? h1, h2⟩
theorem pb {i : Nat} {w : Cond} (h : ((k2_sels lw_privs)[i]?).filter goodWord = some w) : w ∈ gwt := by
  obtain ⟨h1, h2⟩ := Option.filter_eq_some_iff.mp h
  exact List.mem_filter.mpr ⟨List.mem_append_right _ (List.mem_append_left _ (List.mem_of_getElem? h1)), h2⟩
theorem xb {i : Nat} {w : Cond} (h : (xsel[i]?).filter goodWord = some w) : w ∈ gwt := by
  obtain ⟨h1, h2⟩ := Option.filter_eq_some_iff.mp h
  exact List.mem_filter.mpr ⟨List.mem_append_left _ (List.mem_of_getElem? h1), h2⟩

set_option maxRecDepth 100000 in
theorem cf_0 : CF 0 RX0 TX0 3 := ⟨rfl, rfl, tbs [281, 283, 285] (by decide +kernel), nmX0, fun k hk => tyX0_ok k hk⟩
set_option maxRecDepth 100000 in
theorem cf_1 : CF 1 RX1 TX1 5 := ⟨rfl, rfl, tbs [85, 87, 89, 91, 93] (by decide +kernel), nmX1, fun k hk => tyX1_ok k hk⟩
set_option maxRecDepth 100000 in
theorem cf_2 : CF 2 RX2 TX2 5 := ⟨rfl, rfl, tbs [332, 334, 336, 338, 340] (by decide +kernel), nmX2, fun k hk => tyX2_ok k hk⟩
set_option maxRecDepth 100000 in
theorem cf_3 : CF 3 RX3 TX3 5 := ⟨rfl, rfl, tbs [360, 362, 364, 366, 368] (by decide +kernel), nmX3, fun k hk => tyX3_ok k hk⟩
set_option maxRecDepth 100000 in
theorem cf_4 : CF 4 RX4 TX4 5 := ⟨rfl, rfl, tbs [303, 305, 307, 309, 311] (by decide +kernel), nmX4, fun k hk => tyX4_ok k hk⟩
set_option maxRecDepth 100000 in
theorem cf_5 : CF 5 RX5 TX5 11 := ⟨rfl, rfl, tbs [220, 222, 224, 226, 228, 230, 232, 234, 236, 238, 240] (by decide +kernel), nmX5, fun k hk => tyX5_ok k hk⟩
set_option maxRecDepth 100000 in
theorem cf_6 : CF 6 RX6 TX6 6 := ⟨rfl, rfl, tbs [193, 195, 197, 199, 201, 203] (by decide +kernel), nmX6, fun k hk => tyX6_ok k hk⟩
set_option maxRecDepth 100000 in
theorem cf_7 : CF 7 RX7 TX7 15 := ⟨rfl, rfl, tbs [145, 147, 149, 151, 153, 155, 157, 159, 161, 163, 165, 167, 169, 171, 173] (by decide +kernel), nmX7, fun k hk => tyX7_ok k hk⟩
set_option maxRecDepth 100000 in
theorem cf_8 : CF 8 RX8 TX8 9 := ⟨rfl, rfl, tbs [388, 390, 392, 394, 396, 398, 400, 402, 404] (by decide +kernel), nmX8, fun k hk => tyX8_ok k hk⟩
set_option maxRecDepth 100000 in
theorem cf_9 : CF 9 RX9 TX9 2 := ⟨rfl, rfl, tbs [49, 51] (by decide +kernel), nmX9, fun k hk => tyX9_ok k hk⟩
set_option maxRecDepth 100000 in
theorem cf_10 : CF 10 RX10 TX10 4 := ⟨rfl, rfl, tbs [249, 251, 253, 255] (by decide +kernel), nmX10, fun k hk => tyX10_ok k hk⟩
set_option maxRecDepth 100000 in
theorem cf_11 : CF 11 RX11 TX11 8 := ⟨rfl, rfl, tbs [415, 417, 419, 421, 423, 425, 427, 429] (by decide +kernel), nmX11, fun k hk => tyX11_ok k hk⟩
set_option maxRecDepth 100000 in
theorem cf_12 : CF 12 RX12 TX12 25 := ⟨rfl, rfl, tbs [773, 775, 777, 779, 781, 783, 785, 787, 789, 791, 793, 795, 797, 799, 801, 803, 805, 807, 809, 811, 813, 815, 817, 819, 821] (by decide +kernel), nmX12, fun k hk => tyX12_ok k hk⟩
set_option maxRecDepth 100000 in
theorem cf_13 : CF 13 RJ0 TJ0 4 := ⟨rfl, rfl, tbs [1150, 1152, 1154, 1156] (by decide +kernel), nmJ0, fun k hk => tyJ0_ok k hk⟩
set_option maxRecDepth 100000 in
theorem cf_14 : CF 14 RJ4 TJ4 4 := ⟨rfl, rfl, tbs [926, 928, 930, 932] (by decide +kernel), nmJ4, fun k hk => tyJ4_ok k hk⟩
set_option maxRecDepth 100000 in
theorem cf_15 : CF 15 RJx4a65c TJx4a65c 3 := ⟨rfl, rfl, tbs [663, 659, 661] (by decide +kernel), nmJx4a65c, fun k hk => tyJx4a65c_ok k hk⟩
theorem fl_X9_9 : FLk RX9 9 9 0 (.array .byte) true := ⟨by decide, rfl, _, _, _, "RateLimiter$Text", cf_9, by decide, tb (i := 45) (by decide +kernel), rfl, Or.inl rfl⟩
theorem fl_X11_53 : FLk RX11 53 9 1 .int false := ⟨by decide, rfl, _, _, _, "RateLimiter$Text", cf_9, by decide, tb (i := 46) (by decide +kernel), rfl, Or.inl rfl⟩
theorem fl_X9_15 : FLk RX9 15 9 1 .int false := ⟨by decide, rfl, _, _, _, "RateLimiter$Text", cf_9, by decide, tb (i := 47) (by decide +kernel), rfl, Or.inl rfl⟩
theorem fl_X6_31 : FLk RX6 31 9 1 .int false := ⟨by decide, rfl, _, _, _, "RateLimiter$Text", cf_9, by decide, tb (i := 48) (by decide +kernel), rfl, Or.inl rfl⟩
theorem fl_X1_24 : FLk RX1 24 1 0 .int false := ⟨by decide, rfl, _, _, _, "RateLimiter$Changes", cf_1, by decide, tb (i := 73) (by decide +kernel), rfl, Or.inl rfl⟩
theorem fl_X7_64 : FLk RX7 64 1 0 .int false := ⟨by decide, rfl, _, _, _, "RateLimiter$Changes", cf_1, by decide, tb (i := 74) (by decide +kernel), rfl, Or.inl rfl⟩
theorem fl_X5_112 : FLk RX5 112 1 0 .int false := ⟨by decide, rfl, _, _, _, "RateLimiter$Changes", cf_1, by decide, tb (i := 75) (by decide +kernel), rfl, Or.inl rfl⟩
theorem fl_X8_169 : FLk RX8 169 1 0 .int false := ⟨by decide, rfl, _, _, _, "RateLimiter$Changes", cf_1, by decide, tb (i := 76) (by decide +kernel), rfl, Or.inl rfl⟩
theorem fl_X1_9 : FLk RX1 9 1 1 (.array .int) true := ⟨by decide, rfl, _, _, _, "RateLimiter$Changes", cf_1, by decide, tb (i := 77) (by decide +kernel), rfl, Or.inl rfl⟩
theorem fl_X8_172 : FLk RX8 172 1 1 (.array .int) true := ⟨by decide, rfl, _, _, _, "RateLimiter$Changes", cf_1, by decide, tb (i := 78) (by decide +kernel), rfl, Or.inl rfl⟩
theorem fl_X1_15 : FLk RX1 15 1 2 (.array .int) true := ⟨by decide, rfl, _, _, _, "RateLimiter$Changes", cf_1, by decide, tb (i := 79) (by decide +kernel), rfl, Or.inl rfl⟩
theorem fl_X8_174 : FLk RX8 174 1 2 (.array .int) true := ⟨by decide, rfl, _, _, _, "RateLimiter$Changes", cf_1, by decide, tb (i := 80) (by decide +kernel), rfl, Or.inl rfl⟩
theorem fl_X1_18 : FLk RX1 18 1 3 (.array .int) true := ⟨by decide, rfl, _, _, _, "RateLimiter$Changes", cf_1, by decide, tb (i := 81) (by decide +kernel), rfl, Or.inl rfl⟩
theorem fl_X8_177 : FLk RX8 177 1 3 (.array .int) true := ⟨by decide, rfl, _, _, _, "RateLimiter$Changes", cf_1, by decide, tb (i := 82) (by decide +kernel), rfl, Or.inl rfl⟩
theorem fl_X1_21 : FLk RX1 21 1 4 (.array .int) true := ⟨by decide, rfl, _, _, _, "RateLimiter$Changes", cf_1, by decide, tb (i := 83) (by decide +kernel), rfl, Or.inl rfl⟩
theorem fl_X8_184 : FLk RX8 184 1 4 (.array .int) true := ⟨by decide, rfl, _, _, _, "RateLimiter$Changes", cf_1, by decide, tb (i := 84) (by decide +kernel), rfl, Or.inl rfl⟩
theorem fl_X7_61 : FLk RX7 61 7 0 .int false := ⟨by decide, rfl, _, _, _, "RateLimiter$Setup", cf_7, by decide, tb (i := 99) (by decide +kernel), rfl, Or.inl rfl⟩
theorem fl_X11_79 : FLk RX11 79 7 0 .int false := ⟨by decide, rfl, _, _, _, "RateLimiter$Setup", cf_7, by decide, tb (i := 100) (by decide +kernel), rfl, Or.inl rfl⟩
theorem fl_X8_85 : FLk RX8 85 7 0 .int false := ⟨by decide, rfl, _, _, _, "RateLimiter$Setup", cf_7, by decide, tb (i := 101) (by decide +kernel), rfl, Or.inl rfl⟩
theorem fl_X5_102 : FLk RX5 102 7 0 .int false := ⟨by decide, rfl, _, _, _, "RateLimiter$Setup", cf_7, by decide, tb (i := 102) (by decide +kernel), rfl, Or.inl rfl⟩
theorem fl_X7_9 : FLk RX7 9 7 1 (.array .long) true := ⟨by decide, rfl, _, _, _, "RateLimiter$Setup", cf_7, by decide, tb (i := 103) (by decide +kernel), rfl, Or.inl rfl⟩
theorem fl_X11_89 : FLk RX11 89 7 1 (.array .long) true := ⟨by decide, rfl, _, _, _, "RateLimiter$Setup", cf_7, by decide, tb (i := 104) (by decide +kernel), rfl, Or.inl rfl⟩
theorem fl_X7_15 : FLk RX7 15 7 2 (.array .int) true := ⟨by decide, rfl, _, _, _, "RateLimiter$Setup", cf_7, by decide, tb (i := 105) (by decide +kernel), rfl, Or.inl rfl⟩
theorem fl_X8_88 : FLk RX8 88 7 2 (.array .int) true := ⟨by decide, rfl, _, _, _, "RateLimiter$Setup", cf_7, by decide, tb (i := 106) (by decide +kernel), rfl, Or.inl rfl⟩
theorem fl_X0_50 : FLk RX0 50 7 2 (.array .int) true := ⟨by decide, rfl, _, _, _, "RateLimiter$Setup", cf_7, by decide, tb (i := 107) (by decide +kernel), rfl, Or.inl rfl⟩
theorem fl_X11_97 : FLk RX11 97 7 2 (.array .int) true := ⟨by decide, rfl, _, _, _, "RateLimiter$Setup", cf_7, by decide, tb (i := 108) (by decide +kernel), rfl, Or.inl rfl⟩
theorem fl_X7_19 : FLk RX7 19 7 3 (.array .int) true := ⟨by decide, rfl, _, _, _, "RateLimiter$Setup", cf_7, by decide, tb (i := 109) (by decide +kernel), rfl, Or.inl rfl⟩
theorem fl_X11_108 : FLk RX11 108 7 3 (.array .int) true := ⟨by decide, rfl, _, _, _, "RateLimiter$Setup", cf_7, by decide, tb (i := 110) (by decide +kernel), rfl, Or.inl rfl⟩
theorem fl_X7_22 : FLk RX7 22 7 4 (.array .int) true := ⟨by decide, rfl, _, _, _, "RateLimiter$Setup", cf_7, by decide, tb (i := 111) (by decide +kernel), rfl, Or.inl rfl⟩
theorem fl_X7_25 : FLk RX7 25 7 5 (.array .int) true := ⟨by decide, rfl, _, _, _, "RateLimiter$Setup", cf_7, by decide, tb (i := 112) (by decide +kernel), rfl, Or.inl rfl⟩
theorem fl_X8_53 : FLk RX8 53 7 5 (.array .int) true := ⟨by decide, rfl, _, _, _, "RateLimiter$Setup", cf_7, by decide, tb (i := 113) (by decide +kernel), rfl, Or.inl rfl⟩
theorem fl_X5_160 : FLk RX5 160 7 5 (.array .int) true := ⟨by decide, rfl, _, _, _, "RateLimiter$Setup", cf_7, by decide, tb (i := 114) (by decide +kernel), rfl, Or.inl rfl⟩
theorem fl_X7_28 : FLk RX7 28 7 6 (.array .int) true := ⟨by decide, rfl, _, _, _, "RateLimiter$Setup", cf_7, by decide, tb (i := 115) (by decide +kernel), rfl, Or.inl rfl⟩
theorem fl_X8_60 : FLk RX8 60 7 6 (.array .int) true := ⟨by decide, rfl, _, _, _, "RateLimiter$Setup", cf_7, by decide, tb (i := 116) (by decide +kernel), rfl, Or.inl rfl⟩
theorem fl_X5_156 : FLk RX5 156 7 6 (.array .int) true := ⟨by decide, rfl, _, _, _, "RateLimiter$Setup", cf_7, by decide, tb (i := 117) (by decide +kernel), rfl, Or.inl rfl⟩
theorem fl_X7_31 : FLk RX7 31 7 7 (.array .int) true := ⟨by decide, rfl, _, _, _, "RateLimiter$Setup", cf_7, by decide, tb (i := 118) (by decide +kernel), rfl, Or.inl rfl⟩
theorem fl_X0_21 : FLk RX0 21 7 7 (.array .int) true := ⟨by decide, rfl, _, _, _, "RateLimiter$Setup", cf_7, by decide, tb (i := 119) (by decide +kernel), rfl, Or.inl rfl⟩
theorem fl_X8_123 : FLk RX8 123 7 7 (.array .int) true := ⟨by decide, rfl, _, _, _, "RateLimiter$Setup", cf_7, by decide, tb (i := 120) (by decide +kernel), rfl, Or.inl rfl⟩
theorem fl_X11_117 : FLk RX11 117 7 7 (.array .int) true := ⟨by decide, rfl, _, _, _, "RateLimiter$Setup", cf_7, by decide, tb (i := 121) (by decide +kernel), rfl, Or.inl rfl⟩
theorem fl_X7_34 : FLk RX7 34 7 8 (.array .int) true := ⟨by decide, rfl, _, _, _, "RateLimiter$Setup", cf_7, by decide, tb (i := 122) (by decide +kernel), rfl, Or.inl rfl⟩
theorem fl_X0_40 : FLk RX0 40 7 8 (.array .int) true := ⟨by decide, rfl, _, _, _, "RateLimiter$Setup", cf_7, by decide, tb (i := 123) (by decide +kernel), rfl, Or.inl rfl⟩
theorem fl_X8_142 : FLk RX8 142 7 8 (.array .int) true := ⟨by decide, rfl, _, _, _, "RateLimiter$Setup", cf_7, by decide, tb (i := 124) (by decide +kernel), rfl, Or.inl rfl⟩
theorem fl_X11_120 : FLk RX11 120 7 8 (.array .int) true := ⟨by decide, rfl, _, _, _, "RateLimiter$Setup", cf_7, by decide, tb (i := 125) (by decide +kernel), rfl, Or.inl rfl⟩
theorem fl_X7_37 : FLk RX7 37 7 9 (.array .int) true := ⟨by decide, rfl, _, _, _, "RateLimiter$Setup", cf_7, by decide, tb (i := 126) (by decide +kernel), rfl, Or.inl rfl⟩
theorem fl_X8_61 : FLk RX8 61 7 9 (.array .int) true := ⟨by decide, rfl, _, _, _, "RateLimiter$Setup", cf_7, by decide, tb (i := 127) (by decide +kernel), rfl, Or.inl rfl⟩
theorem fl_X7_40 : FLk RX7 40 7 10 (.array .int) true := ⟨by decide, rfl, _, _, _, "RateLimiter$Setup", cf_7, by decide, tb (i := 128) (by decide +kernel), rfl, Or.inl rfl⟩
theorem fl_X11_126 : FLk RX11 126 7 10 (.array .int) true := ⟨by decide, rfl, _, _, _, "RateLimiter$Setup", cf_7, by decide, tb (i := 129) (by decide +kernel), rfl, Or.inl rfl⟩
theorem fl_X8_231 : FLk RX8 231 7 10 (.array .int) true := ⟨by decide, rfl, _, _, _, "RateLimiter$Setup", cf_7, by decide, tb (i := 130) (by decide +kernel), rfl, Or.inl rfl⟩
theorem fl_X7_43 : FLk RX7 43 7 11 (.array .boolean) true := ⟨by decide, rfl, _, _, _, "RateLimiter$Setup", cf_7, by decide, tb (i := 131) (by decide +kernel), rfl, Or.inl rfl⟩
theorem fl_X0_53 : FLk RX0 53 7 11 (.array .boolean) true := ⟨by decide, rfl, _, _, _, "RateLimiter$Setup", cf_7, by decide, tb (i := 132) (by decide +kernel), rfl, Or.inl rfl⟩
theorem fl_X8_145 : FLk RX8 145 7 11 (.array .boolean) true := ⟨by decide, rfl, _, _, _, "RateLimiter$Setup", cf_7, by decide, tb (i := 133) (by decide +kernel), rfl, Or.inl rfl⟩
theorem fl_X5_152 : FLk RX5 152 7 11 (.array .boolean) true := ⟨by decide, rfl, _, _, _, "RateLimiter$Setup", cf_7, by decide, tb (i := 134) (by decide +kernel), rfl, Or.inl rfl⟩
theorem fl_X11_129 : FLk RX11 129 7 11 (.array .boolean) true := ⟨by decide, rfl, _, _, _, "RateLimiter$Setup", cf_7, by decide, tb (i := 135) (by decide +kernel), rfl, Or.inl rfl⟩
theorem fl_X7_50 : FLk RX7 50 7 12 (.object "RateLimiter$Changes") true := ⟨by decide, rfl, _, _, _, "RateLimiter$Setup", cf_7, by decide, tb (i := 136) (by decide +kernel), rfl, Or.inl rfl⟩
theorem fl_X5_108 : FLk RX5 108 7 12 (.object "RateLimiter$Changes") true := ⟨by decide, rfl, _, _, _, "RateLimiter$Setup", cf_7, by decide, tb (i := 137) (by decide +kernel), rfl, Or.inl rfl⟩
theorem fl_X8_165 : FLk RX8 165 7 12 (.object "RateLimiter$Changes") true := ⟨by decide, rfl, _, _, _, "RateLimiter$Setup", cf_7, by decide, tb (i := 138) (by decide +kernel), rfl, Or.inl rfl⟩
theorem fl_X7_54 : FLk RX7 54 7 13 .int false := ⟨by decide, rfl, _, _, _, "RateLimiter$Setup", cf_7, by decide, tb (i := 139) (by decide +kernel), rfl, Or.inl rfl⟩
theorem fl_X8_204 : FLk RX8 204 7 13 .int false := ⟨by decide, rfl, _, _, _, "RateLimiter$Setup", cf_7, by decide, tb (i := 140) (by decide +kernel), rfl, Or.inl rfl⟩
theorem fl_X5_178 : FLk RX5 178 7 13 .int false := ⟨by decide, rfl, _, _, _, "RateLimiter$Setup", cf_7, by decide, tb (i := 141) (by decide +kernel), rfl, Or.inl rfl⟩
theorem fl_X7_58 : FLk RX7 58 7 14 .int false := ⟨by decide, rfl, _, _, _, "RateLimiter$Setup", cf_7, by decide, tb (i := 142) (by decide +kernel), rfl, Or.inl rfl⟩
theorem fl_X5_105 : FLk RX5 105 7 14 .int false := ⟨by decide, rfl, _, _, _, "RateLimiter$Setup", cf_7, by decide, tb (i := 143) (by decide +kernel), rfl, Or.inl rfl⟩
theorem fl_X8_187 : FLk RX8 187 7 14 .int false := ⟨by decide, rfl, _, _, _, "RateLimiter$Setup", cf_7, by decide, tb (i := 144) (by decide +kernel), rfl, Or.inl rfl⟩
theorem fl_X6_9 : FLk RX6 9 6 0 .int false := ⟨by decide, rfl, _, _, _, "RateLimiter$Scanner", cf_6, by decide, tb (i := 182) (by decide +kernel), rfl, Or.inl rfl⟩
theorem fl_X5_36 : FLk RX5 36 6 1 .int false := ⟨by decide, rfl, _, _, _, "RateLimiter$Scanner", cf_6, by decide, tb (i := 183) (by decide +kernel), rfl, Or.inl rfl⟩
theorem fl_X6_34 : FLk RX6 34 6 1 .int false := ⟨by decide, rfl, _, _, _, "RateLimiter$Scanner", cf_6, by decide, tb (i := 184) (by decide +kernel), rfl, Or.inl rfl⟩
theorem fl_X5_49 : FLk RX5 49 6 2 .int false := ⟨by decide, rfl, _, _, _, "RateLimiter$Scanner", cf_6, by decide, tb (i := 185) (by decide +kernel), rfl, Or.inl rfl⟩
theorem fl_X6_19 : FLk RX6 19 6 2 .int false := ⟨by decide, rfl, _, _, _, "RateLimiter$Scanner", cf_6, by decide, tb (i := 186) (by decide +kernel), rfl, Or.inl rfl⟩
theorem fl_X6_50 : FLk RX6 50 6 3 .long false := ⟨by decide, rfl, _, _, _, "RateLimiter$Scanner", cf_6, by decide, tb (i := 187) (by decide +kernel), rfl, Or.inl rfl⟩
theorem fl_X5_121 : FLk RX5 121 6 3 .long false := ⟨by decide, rfl, _, _, _, "RateLimiter$Scanner", cf_6, by decide, tb (i := 188) (by decide +kernel), rfl, Or.inl rfl⟩
theorem fl_X6_22 : FLk RX6 22 6 4 .int false := ⟨by decide, rfl, _, _, _, "RateLimiter$Scanner", cf_6, by decide, tb (i := 189) (by decide +kernel), rfl, Or.inl rfl⟩
theorem fl_X5_99 : FLk RX5 99 6 4 .int false := ⟨by decide, rfl, _, _, _, "RateLimiter$Scanner", cf_6, by decide, tb (i := 190) (by decide +kernel), rfl, Or.inl rfl⟩
theorem fl_X6_62 : FLk RX6 62 6 5 .int false := ⟨by decide, rfl, _, _, _, "RateLimiter$Scanner", cf_6, by decide, tb (i := 191) (by decide +kernel), rfl, Or.inl rfl⟩
theorem fl_X5_171 : FLk RX5 171 6 5 .int false := ⟨by decide, rfl, _, _, _, "RateLimiter$Scanner", cf_6, by decide, tb (i := 192) (by decide +kernel), rfl, Or.inl rfl⟩
theorem fl_X5_46 : FLk RX5 46 5 0 .int false := ⟨by decide, rfl, _, _, _, "RateLimiter$Reader", cf_5, by decide, tb (i := 206) (by decide +kernel), rfl, Or.inl rfl⟩
theorem fl_X11_65 : FLk RX11 65 5 0 .int false := ⟨by decide, rfl, _, _, _, "RateLimiter$Reader", cf_5, by decide, tb (i := 207) (by decide +kernel), rfl, Or.inl rfl⟩
theorem fl_X5_9 : FLk RX5 9 5 1 .int false := ⟨by decide, rfl, _, _, _, "RateLimiter$Reader", cf_5, by decide, tb (i := 208) (by decide +kernel), rfl, Or.inl rfl⟩
theorem fl_X11_82 : FLk RX11 82 5 1 .int false := ⟨by decide, rfl, _, _, _, "RateLimiter$Reader", cf_5, by decide, tb (i := 209) (by decide +kernel), rfl, Or.inl rfl⟩
theorem fl_X5_18 : FLk RX5 18 5 2 (.object "RateLimiter$Setup") false := ⟨by decide, rfl, _, _, _, "RateLimiter$Reader", cf_5, by decide, tb (i := 210) (by decide +kernel), rfl, Or.inl rfl⟩
theorem fl_X11_68 : FLk RX11 68 5 2 (.object "RateLimiter$Setup") false := ⟨by decide, rfl, _, _, _, "RateLimiter$Reader", cf_5, by decide, tb (i := 211) (by decide +kernel), rfl, Or.inl rfl⟩
theorem fl_X5_25 : FLk RX5 25 5 3 (.object "RateLimiter$Scanner") true := ⟨by decide, rfl, _, _, _, "RateLimiter$Reader", cf_5, by decide, tb (i := 212) (by decide +kernel), rfl, Or.inl rfl⟩
theorem fl_X5_39 : FLk RX5 39 5 4 .int false := ⟨by decide, rfl, _, _, _, "RateLimiter$Reader", cf_5, by decide, tb (i := 213) (by decide +kernel), rfl, Or.inl rfl⟩
theorem fl_X5_56 : FLk RX5 56 5 5 .boolean false := ⟨by decide, rfl, _, _, _, "RateLimiter$Reader", cf_5, by decide, tb (i := 214) (by decide +kernel), rfl, Or.inl rfl⟩
theorem fl_X5_129 : FLk RX5 129 5 6 .long false := ⟨by decide, rfl, _, _, _, "RateLimiter$Reader", cf_5, by decide, tb (i := 215) (by decide +kernel), rfl, Or.inl rfl⟩
theorem fl_X5_139 : FLk RX5 139 5 7 .int false := ⟨by decide, rfl, _, _, _, "RateLimiter$Reader", cf_5, by decide, tb (i := 216) (by decide +kernel), rfl, Or.inl rfl⟩
theorem fl_X5_145 : FLk RX5 145 5 8 .int false := ⟨by decide, rfl, _, _, _, "RateLimiter$Reader", cf_5, by decide, tb (i := 217) (by decide +kernel), rfl, Or.inl rfl⟩
theorem fl_X5_184 : FLk RX5 184 5 9 .int false := ⟨by decide, rfl, _, _, _, "RateLimiter$Reader", cf_5, by decide, tb (i := 218) (by decide +kernel), rfl, Or.inl rfl⟩
theorem fl_X5_187 : FLk RX5 187 5 10 .int false := ⟨by decide, rfl, _, _, _, "RateLimiter$Reader", cf_5, by decide, tb (i := 219) (by decide +kernel), rfl, Or.inl rfl⟩
theorem fl_X0_9 : FLk RX0 9 0 0 (.array .int) true := ⟨by decide, rfl, _, _, _, "RateLimiter$Accounts", cf_0, by decide, tb (i := 272) (by decide +kernel), rfl, Or.inl rfl⟩
theorem fl_X8_136 : FLk RX8 136 0 0 (.array .int) true := ⟨by decide, rfl, _, _, _, "RateLimiter$Accounts", cf_0, by decide, tb (i := 273) (by decide +kernel), rfl, Or.inl rfl⟩
theorem fl_X11_147 : FLk RX11 147 0 0 (.array .int) true := ⟨by decide, rfl, _, _, _, "RateLimiter$Accounts", cf_0, by decide, tb (i := 274) (by decide +kernel), rfl, Or.inl rfl⟩
theorem fl_X0_15 : FLk RX0 15 0 1 (.array .int) true := ⟨by decide, rfl, _, _, _, "RateLimiter$Accounts", cf_0, by decide, tb (i := 275) (by decide +kernel), rfl, Or.inl rfl⟩
theorem fl_X8_139 : FLk RX8 139 0 1 (.array .int) true := ⟨by decide, rfl, _, _, _, "RateLimiter$Accounts", cf_0, by decide, tb (i := 276) (by decide +kernel), rfl, Or.inl rfl⟩
theorem fl_X11_152 : FLk RX11 152 0 1 (.array .int) true := ⟨by decide, rfl, _, _, _, "RateLimiter$Accounts", cf_0, by decide, tb (i := 277) (by decide +kernel), rfl, Or.inl rfl⟩
theorem fl_X0_18 : FLk RX0 18 0 2 (.array .int) true := ⟨by decide, rfl, _, _, _, "RateLimiter$Accounts", cf_0, by decide, tb (i := 278) (by decide +kernel), rfl, Or.inl rfl⟩
theorem fl_X8_126 : FLk RX8 126 0 2 (.array .int) true := ⟨by decide, rfl, _, _, _, "RateLimiter$Accounts", cf_0, by decide, tb (i := 279) (by decide +kernel), rfl, Or.inl rfl⟩
theorem fl_X11_155 : FLk RX11 155 0 2 (.array .int) true := ⟨by decide, rfl, _, _, _, "RateLimiter$Accounts", cf_0, by decide, tb (i := 280) (by decide +kernel), rfl, Or.inl rfl⟩
theorem fl_X4_9 : FLk RX4 9 4 0 (.array .int) true := ⟨by decide, rfl, _, _, _, "RateLimiter$Queues", cf_4, by decide, tb (i := 294) (by decide +kernel), rfl, Or.inl rfl⟩
theorem fl_X8_198 : FLk RX8 198 4 0 (.array .int) true := ⟨by decide, rfl, _, _, _, "RateLimiter$Queues", cf_4, by decide, tb (i := 295) (by decide +kernel), rfl, Or.inl rfl⟩
theorem fl_X11_193 : FLk RX11 193 4 0 (.array .int) true := ⟨by decide, rfl, _, _, _, "RateLimiter$Queues", cf_4, by decide, tb (i := 296) (by decide +kernel), rfl, Or.inl rfl⟩
theorem fl_X4_15 : FLk RX4 15 4 1 (.array .int) true := ⟨by decide, rfl, _, _, _, "RateLimiter$Queues", cf_4, by decide, tb (i := 297) (by decide +kernel), rfl, Or.inl rfl⟩
theorem fl_X4_18 : FLk RX4 18 4 2 (.array .int) true := ⟨by decide, rfl, _, _, _, "RateLimiter$Queues", cf_4, by decide, tb (i := 298) (by decide +kernel), rfl, Or.inl rfl⟩
theorem fl_X8_210 : FLk RX8 210 4 2 (.array .int) true := ⟨by decide, rfl, _, _, _, "RateLimiter$Queues", cf_4, by decide, tb (i := 299) (by decide +kernel), rfl, Or.inl rfl⟩
theorem fl_X4_21 : FLk RX4 21 4 3 (.array .int) true := ⟨by decide, rfl, _, _, _, "RateLimiter$Queues", cf_4, by decide, tb (i := 300) (by decide +kernel), rfl, Or.inl rfl⟩
theorem fl_X8_201 : FLk RX8 201 4 3 (.array .int) true := ⟨by decide, rfl, _, _, _, "RateLimiter$Queues", cf_4, by decide, tb (i := 301) (by decide +kernel), rfl, Or.inl rfl⟩
theorem fl_X4_28 : FLk RX4 28 4 4 .int false := ⟨by decide, rfl, _, _, _, "RateLimiter$Queues", cf_4, by decide, tb (i := 302) (by decide +kernel), rfl, Or.inl rfl⟩
theorem fl_X2_9 : FLk RX2 9 2 0 (.array .int) true := ⟨by decide, rfl, _, _, _, "RateLimiter$Counts", cf_2, by decide, tb (i := 320) (by decide +kernel), rfl, Or.inl rfl⟩
theorem fl_X8_237 : FLk RX8 237 2 0 (.array .int) true := ⟨by decide, rfl, _, _, _, "RateLimiter$Counts", cf_2, by decide, tb (i := 321) (by decide +kernel), rfl, Or.inl rfl⟩
theorem fl_X11_243 : FLk RX11 243 2 0 (.array .int) true := ⟨by decide, rfl, _, _, _, "RateLimiter$Counts", cf_2, by decide, tb (i := 322) (by decide +kernel), rfl, Or.inl rfl⟩
theorem fl_X2_15 : FLk RX2 15 2 1 (.array .int) true := ⟨by decide, rfl, _, _, _, "RateLimiter$Counts", cf_2, by decide, tb (i := 323) (by decide +kernel), rfl, Or.inl rfl⟩
theorem fl_X11_230 : FLk RX11 230 2 1 (.array .int) true := ⟨by decide, rfl, _, _, _, "RateLimiter$Counts", cf_2, by decide, tb (i := 324) (by decide +kernel), rfl, Or.inl rfl⟩
theorem fl_X2_18 : FLk RX2 18 2 2 (.array .int) true := ⟨by decide, rfl, _, _, _, "RateLimiter$Counts", cf_2, by decide, tb (i := 325) (by decide +kernel), rfl, Or.inl rfl⟩
theorem fl_X11_246 : FLk RX11 246 2 2 (.array .int) true := ⟨by decide, rfl, _, _, _, "RateLimiter$Counts", cf_2, by decide, tb (i := 326) (by decide +kernel), rfl, Or.inl rfl⟩
theorem fl_X2_21 : FLk RX2 21 2 3 (.array .int) true := ⟨by decide, rfl, _, _, _, "RateLimiter$Counts", cf_2, by decide, tb (i := 327) (by decide +kernel), rfl, Or.inl rfl⟩
theorem fl_X11_249 : FLk RX11 249 2 3 (.array .int) true := ⟨by decide, rfl, _, _, _, "RateLimiter$Counts", cf_2, by decide, tb (i := 328) (by decide +kernel), rfl, Or.inl rfl⟩
theorem fl_X2_24 : FLk RX2 24 2 4 (.array .int) true := ⟨by decide, rfl, _, _, _, "RateLimiter$Counts", cf_2, by decide, tb (i := 329) (by decide +kernel), rfl, Or.inl rfl⟩
theorem fl_X8_116 : FLk RX8 116 2 4 (.array .int) true := ⟨by decide, rfl, _, _, _, "RateLimiter$Counts", cf_2, by decide, tb (i := 330) (by decide +kernel), rfl, Or.inl rfl⟩
theorem fl_X11_252 : FLk RX11 252 2 4 (.array .int) true := ⟨by decide, rfl, _, _, _, "RateLimiter$Counts", cf_2, by decide, tb (i := 331) (by decide +kernel), rfl, Or.inl rfl⟩
theorem fl_X8_69 : FLk RX8 69 3 0 .int false := ⟨by decide, rfl, _, _, _, "RateLimiter$Log", cf_3, by decide, tb (i := 349) (by decide +kernel), rfl, Or.inl rfl⟩
theorem fl_X3_24 : FLk RX3 24 3 0 .int false := ⟨by decide, rfl, _, _, _, "RateLimiter$Log", cf_3, by decide, tb (i := 350) (by decide +kernel), rfl, Or.inl rfl⟩
theorem fl_X11_275 : FLk RX11 275 3 0 .int false := ⟨by decide, rfl, _, _, _, "RateLimiter$Log", cf_3, by decide, tb (i := 351) (by decide +kernel), rfl, Or.inl rfl⟩
theorem fl_X3_9 : FLk RX3 9 3 1 (.array .int) true := ⟨by decide, rfl, _, _, _, "RateLimiter$Log", cf_3, by decide, tb (i := 352) (by decide +kernel), rfl, Or.inl rfl⟩
theorem fl_X11_281 : FLk RX11 281 3 1 (.array .int) true := ⟨by decide, rfl, _, _, _, "RateLimiter$Log", cf_3, by decide, tb (i := 353) (by decide +kernel), rfl, Or.inl rfl⟩
theorem fl_X3_15 : FLk RX3 15 3 2 (.array .int) true := ⟨by decide, rfl, _, _, _, "RateLimiter$Log", cf_3, by decide, tb (i := 354) (by decide +kernel), rfl, Or.inl rfl⟩
theorem fl_X11_284 : FLk RX11 284 3 2 (.array .int) true := ⟨by decide, rfl, _, _, _, "RateLimiter$Log", cf_3, by decide, tb (i := 355) (by decide +kernel), rfl, Or.inl rfl⟩
theorem fl_X3_18 : FLk RX3 18 3 3 (.array .int) true := ⟨by decide, rfl, _, _, _, "RateLimiter$Log", cf_3, by decide, tb (i := 356) (by decide +kernel), rfl, Or.inl rfl⟩
theorem fl_X11_285 : FLk RX11 285 3 3 (.array .int) true := ⟨by decide, rfl, _, _, _, "RateLimiter$Log", cf_3, by decide, tb (i := 357) (by decide +kernel), rfl, Or.inl rfl⟩
theorem fl_X3_21 : FLk RX3 21 3 4 (.array .int) true := ⟨by decide, rfl, _, _, _, "RateLimiter$Log", cf_3, by decide, tb (i := 358) (by decide +kernel), rfl, Or.inl rfl⟩
theorem fl_X11_288 : FLk RX11 288 3 4 (.array .int) true := ⟨by decide, rfl, _, _, _, "RateLimiter$Log", cf_3, by decide, tb (i := 359) (by decide +kernel), rfl, Or.inl rfl⟩
theorem fl_X11_75 : FLk RX11 75 8 0 .boolean false := ⟨by decide, rfl, _, _, _, "RateLimiter$State", cf_8, by decide, tb (i := 371) (by decide +kernel), rfl, Or.inl rfl⟩
theorem fl_X8_49 : FLk RX8 49 8 1 .int false := ⟨by decide, rfl, _, _, _, "RateLimiter$State", cf_8, by decide, tb (i := 372) (by decide +kernel), rfl, Or.inl rfl⟩
theorem fl_X11_140 : FLk RX11 140 8 1 .int false := ⟨by decide, rfl, _, _, _, "RateLimiter$State", cf_8, by decide, tb (i := 373) (by decide +kernel), rfl, Or.inl rfl⟩
theorem fl_X8_9 : FLk RX8 9 8 2 (.array .int) true := ⟨by decide, rfl, _, _, _, "RateLimiter$State", cf_8, by decide, tb (i := 374) (by decide +kernel), rfl, Or.inl rfl⟩
theorem fl_X11_111 : FLk RX11 111 8 2 (.array .int) true := ⟨by decide, rfl, _, _, _, "RateLimiter$State", cf_8, by decide, tb (i := 375) (by decide +kernel), rfl, Or.inl rfl⟩
theorem fl_X8_15 : FLk RX8 15 8 3 (.array .int) true := ⟨by decide, rfl, _, _, _, "RateLimiter$State", cf_8, by decide, tb (i := 376) (by decide +kernel), rfl, Or.inl rfl⟩
theorem fl_X11_114 : FLk RX11 114 8 3 (.array .int) true := ⟨by decide, rfl, _, _, _, "RateLimiter$State", cf_8, by decide, tb (i := 377) (by decide +kernel), rfl, Or.inl rfl⟩
theorem fl_X8_18 : FLk RX8 18 8 4 (.array .int) true := ⟨by decide, rfl, _, _, _, "RateLimiter$State", cf_8, by decide, tb (i := 378) (by decide +kernel), rfl, Or.inl rfl⟩
theorem fl_X11_123 : FLk RX11 123 8 4 (.array .int) true := ⟨by decide, rfl, _, _, _, "RateLimiter$State", cf_8, by decide, tb (i := 379) (by decide +kernel), rfl, Or.inl rfl⟩
theorem fl_X8_24 : FLk RX8 24 8 5 (.object "RateLimiter$Accounts") true := ⟨by decide, rfl, _, _, _, "RateLimiter$State", cf_8, by decide, tb (i := 380) (by decide +kernel), rfl, Or.inl rfl⟩
theorem fl_X11_143 : FLk RX11 143 8 5 (.object "RateLimiter$Accounts") true := ⟨by decide, rfl, _, _, _, "RateLimiter$State", cf_8, by decide, tb (i := 381) (by decide +kernel), rfl, Or.inl rfl⟩
theorem fl_X8_31 : FLk RX8 31 8 6 (.object "RateLimiter$Queues") true := ⟨by decide, rfl, _, _, _, "RateLimiter$State", cf_8, by decide, tb (i := 382) (by decide +kernel), rfl, Or.inl rfl⟩
theorem fl_X11_189 : FLk RX11 189 8 6 (.object "RateLimiter$Queues") true := ⟨by decide, rfl, _, _, _, "RateLimiter$State", cf_8, by decide, tb (i := 383) (by decide +kernel), rfl, Or.inl rfl⟩
theorem fl_X8_38 : FLk RX8 38 8 7 (.object "RateLimiter$Counts") true := ⟨by decide, rfl, _, _, _, "RateLimiter$State", cf_8, by decide, tb (i := 384) (by decide +kernel), rfl, Or.inl rfl⟩
theorem fl_X11_226 : FLk RX11 226 8 7 (.object "RateLimiter$Counts") true := ⟨by decide, rfl, _, _, _, "RateLimiter$State", cf_8, by decide, tb (i := 385) (by decide +kernel), rfl, Or.inl rfl⟩
theorem fl_X8_45 : FLk RX8 45 8 8 (.object "RateLimiter$Log") true := ⟨by decide, rfl, _, _, _, "RateLimiter$State", cf_8, by decide, tb (i := 386) (by decide +kernel), rfl, Or.inl rfl⟩
theorem fl_X11_266 : FLk RX11 266 8 8 (.object "RateLimiter$Log") true := ⟨by decide, rfl, _, _, _, "RateLimiter$State", cf_8, by decide, tb (i := 387) (by decide +kernel), rfl, Or.inl rfl⟩
theorem fl_X11_10 : FLk RX11 10 11 0 (.object "RateLimiter$Text") true := ⟨by decide, rfl, _, _, _, "RateLimiter", cf_11, by decide, tb (i := 407) (by decide +kernel), rfl, Or.inl rfl⟩
theorem fl_X11_19 : FLk RX11 19 11 1 (.object "RateLimiter$Reader") true := ⟨by decide, rfl, _, _, _, "RateLimiter", cf_11, by decide, tb (i := 408) (by decide +kernel), rfl, Or.inl rfl⟩
theorem fl_X11_26 : FLk RX11 26 11 2 (.object "RateLimiter$Writer") true := ⟨by decide, rfl, _, _, _, "RateLimiter", cf_11, by decide, tb (i := 409) (by decide +kernel), rfl, Or.inl rfl⟩
theorem fl_X11_33 : FLk RX11 33 11 3 (.object "RateLimiter$Setup") false := ⟨by decide, rfl, _, _, _, "RateLimiter", cf_11, by decide, tb (i := 410) (by decide +kernel), rfl, Or.inl rfl⟩
theorem fl_X11_40 : FLk RX11 40 11 4 (.object "RateLimiter$State") true := ⟨by decide, rfl, _, _, _, "RateLimiter", cf_11, by decide, tb (i := 411) (by decide +kernel), rfl, Or.inl rfl⟩
theorem fl_X11_44 : FLk RX11 44 11 5 (.object "RateLimiter$State") true := ⟨by decide, rfl, _, _, _, "RateLimiter", cf_11, by decide, tb (i := 412) (by decide +kernel), rfl, Or.inl rfl⟩
theorem fl_X11_47 : FLk RX11 47 11 6 (.object "RateLimiter$State") true := ⟨by decide, rfl, _, _, _, "RateLimiter", cf_11, by decide, tb (i := 413) (by decide +kernel), rfl, Or.inl rfl⟩
theorem fl_X11_50 : FLk RX11 50 11 7 (.object "RateLimiter$State") true := ⟨by decide, rfl, _, _, _, "RateLimiter", cf_11, by decide, tb (i := 414) (by decide +kernel), rfl, Or.inl rfl⟩
theorem fl_Jx4a65c_9 : FLk RJx4a65c 9 15 1 (.array (.object "java/lang/Object")) false := ⟨by decide, rfl, _, _, _, "java/util/ArrayList", cf_15, by decide, tb (i := 654) (by decide +kernel), rfl, Or.inl rfl⟩
theorem fl_Jx4a65c_48 : FLk RJx4a65c 48 15 2 .int false := ⟨by decide, rfl, _, _, _, "java/util/ArrayList", cf_15, by decide, tb (i := 655) (by decide +kernel), rfl, Or.inl rfl⟩
theorem fl_Jx4a65c_63 : FLk RJx4a65c 63 15 0 .int false := ⟨by decide, rfl, _, _, _, "java/util/ArrayList", cf_15, by decide, tb (i := 657) (by decide +kernel), rfl, Or.inr (tb (i := 658) (by decide +kernel))⟩
theorem fl_X12_72 : FLk RX12 72 12 0 .int true := ⟨by decide, rfl, _, _, _, "RateLimiterLaw$Tree", cf_12, by decide, tb (i := 730) (by decide +kernel), rfl, Or.inl rfl⟩
theorem fl_X12_76 : FLk RX12 76 12 1 .int true := ⟨by decide, rfl, _, _, _, "RateLimiterLaw$Tree", cf_12, by decide, tb (i := 732) (by decide +kernel), rfl, Or.inl rfl⟩
theorem fl_X12_79 : FLk RX12 79 12 2 .int true := ⟨by decide, rfl, _, _, _, "RateLimiterLaw$Tree", cf_12, by decide, tb (i := 733) (by decide +kernel), rfl, Or.inl rfl⟩
theorem fl_X12_7 : FLk RX12 7 12 3 (.array .int) true := ⟨by decide, rfl, _, _, _, "RateLimiterLaw$Tree", cf_12, by decide, tb (i := 734) (by decide +kernel), rfl, Or.inl rfl⟩
theorem fl_X12_13 : FLk RX12 13 12 4 (.array .int) true := ⟨by decide, rfl, _, _, _, "RateLimiterLaw$Tree", cf_12, by decide, tb (i := 736) (by decide +kernel), rfl, Or.inl rfl⟩
theorem fl_X12_16 : FLk RX12 16 12 5 (.array .int) true := ⟨by decide, rfl, _, _, _, "RateLimiterLaw$Tree", cf_12, by decide, tb (i := 738) (by decide +kernel), rfl, Or.inl rfl⟩
theorem fl_X12_19 : FLk RX12 19 12 6 (.array .int) true := ⟨by decide, rfl, _, _, _, "RateLimiterLaw$Tree", cf_12, by decide, tb (i := 740) (by decide +kernel), rfl, Or.inl rfl⟩
theorem fl_X12_22 : FLk RX12 22 12 7 (.array .int) true := ⟨by decide, rfl, _, _, _, "RateLimiterLaw$Tree", cf_12, by decide, tb (i := 742) (by decide +kernel), rfl, Or.inl rfl⟩
theorem fl_X12_25 : FLk RX12 25 12 8 (.array .int) true := ⟨by decide, rfl, _, _, _, "RateLimiterLaw$Tree", cf_12, by decide, tb (i := 744) (by decide +kernel), rfl, Or.inl rfl⟩
theorem fl_X12_28 : FLk RX12 28 12 9 (.array .int) true := ⟨by decide, rfl, _, _, _, "RateLimiterLaw$Tree", cf_12, by decide, tb (i := 746) (by decide +kernel), rfl, Or.inl rfl⟩
theorem fl_X12_31 : FLk RX12 31 12 10 (.array .boolean) true := ⟨by decide, rfl, _, _, _, "RateLimiterLaw$Tree", cf_12, by decide, tb (i := 748) (by decide +kernel), rfl, Or.inl rfl⟩
theorem fl_X12_35 : FLk RX12 35 12 11 (.array .int) true := ⟨by decide, rfl, _, _, _, "RateLimiterLaw$Tree", cf_12, by decide, tb (i := 750) (by decide +kernel), rfl, Or.inl rfl⟩
theorem fl_X12_38 : FLk RX12 38 12 12 (.array .int) true := ⟨by decide, rfl, _, _, _, "RateLimiterLaw$Tree", cf_12, by decide, tb (i := 752) (by decide +kernel), rfl, Or.inl rfl⟩
theorem fl_X12_41 : FLk RX12 41 12 13 (.array .int) true := ⟨by decide, rfl, _, _, _, "RateLimiterLaw$Tree", cf_12, by decide, tb (i := 754) (by decide +kernel), rfl, Or.inl rfl⟩
theorem fl_X12_44 : FLk RX12 44 12 14 (.array .int) true := ⟨by decide, rfl, _, _, _, "RateLimiterLaw$Tree", cf_12, by decide, tb (i := 756) (by decide +kernel), rfl, Or.inl rfl⟩
theorem fl_X12_47 : FLk RX12 47 12 15 (.array .int) true := ⟨by decide, rfl, _, _, _, "RateLimiterLaw$Tree", cf_12, by decide, tb (i := 758) (by decide +kernel), rfl, Or.inl rfl⟩
theorem fl_X12_50 : FLk RX12 50 12 16 (.array .int) true := ⟨by decide, rfl, _, _, _, "RateLimiterLaw$Tree", cf_12, by decide, tb (i := 760) (by decide +kernel), rfl, Or.inl rfl⟩
theorem fl_X12_53 : FLk RX12 53 12 17 (.array .int) true := ⟨by decide, rfl, _, _, _, "RateLimiterLaw$Tree", cf_12, by decide, tb (i := 762) (by decide +kernel), rfl, Or.inl rfl⟩
theorem fl_X12_56 : FLk RX12 56 12 18 (.array .int) true := ⟨by decide, rfl, _, _, _, "RateLimiterLaw$Tree", cf_12, by decide, tb (i := 764) (by decide +kernel), rfl, Or.inl rfl⟩
theorem fl_X12_62 : FLk RX12 62 12 19 (.object "java/util/ArrayList") true := ⟨by decide, rfl, _, _, _, "RateLimiterLaw$Tree", cf_12, by decide, tb (i := 766) (by decide +kernel), rfl, Or.inl rfl⟩
theorem fl_X12_123 : FLk RX12 123 12 20 .int false := ⟨by decide, rfl, _, _, _, "RateLimiterLaw$Tree", cf_12, by decide, tb (i := 769) (by decide +kernel), rfl, Or.inl rfl⟩
theorem fl_X12_82 : FLk RX12 82 12 22 .int false := ⟨by decide, rfl, _, _, _, "RateLimiterLaw$Tree", cf_12, by decide, tb (i := 770) (by decide +kernel), rfl, Or.inl rfl⟩
theorem fl_X12_85 : FLk RX12 85 12 23 .int false := ⟨by decide, rfl, _, _, _, "RateLimiterLaw$Tree", cf_12, by decide, tb (i := 771) (by decide +kernel), rfl, Or.inl rfl⟩
theorem fl_X12_88 : FLk RX12 88 12 24 .int false := ⟨by decide, rfl, _, _, _, "RateLimiterLaw$Tree", cf_12, by decide, tb (i := 772) (by decide +kernel), rfl, Or.inl rfl⟩
theorem fl_J5_15 : FLk RJ5 15 14 0 (.array .byte) false := ⟨by decide, rfl, _, _, _, "java/lang/AbstractStringBuilder", cf_14, by decide, tb (i := 922) (by decide +kernel), rfl, Or.inl rfl⟩
theorem fl_J5_22 : FLk RJ5 22 14 1 .byte false := ⟨by decide, rfl, _, _, _, "java/lang/AbstractStringBuilder", cf_14, by decide, tb (i := 923) (by decide +kernel), rfl, Or.inl rfl⟩
theorem fl_J0_1048 : FLk RJ0 1048 14 2 .boolean false := ⟨by decide, rfl, _, _, _, "java/lang/AbstractStringBuilder", cf_14, by decide, tb (i := 924) (by decide +kernel), rfl, Or.inl rfl⟩
theorem fl_J5_79 : FLk RJ5 79 14 3 .int false := ⟨by decide, rfl, _, _, _, "java/lang/AbstractStringBuilder", cf_14, by decide, tb (i := 925) (by decide +kernel), rfl, Or.inl rfl⟩
theorem fl_J0_9 : FLk RJ0 9 13 0 (.array .byte) true := ⟨by decide, rfl, _, _, _, "java/lang/String", cf_13, by decide, tb (i := 1148) (by decide +kernel), rfl, Or.inl rfl⟩
theorem fl_J0_15 : FLk RJ0 15 13 1 .byte true := ⟨by decide, rfl, _, _, _, "java/lang/String", cf_13, by decide, tb (i := 1149) (by decide +kernel), rfl, Or.inl rfl⟩
theorem mk_X11_init : MK yX11_init cX11_init 1 none 0 := ⟨tb (i := 35) (by decide +kernel), tb (i := 1) (by decide +kernel), by decide +kernel⟩
theorem mc_X11_init : MC yX11_init := ⟨tb (i := 34) (by decide +kernel), rfl⟩
theorem mk_X9_init : MK yX9_init cX9_init 1 none 0 := ⟨tb (i := 43) (by decide +kernel), tb (i := 2) (by decide +kernel), by decide +kernel⟩
theorem mc_X9_init : MC yX9_init := ⟨tb (i := 42) (by decide +kernel), rfl⟩
theorem mk_X5_init : MK yX5_init cX5_init 1 none 0 := ⟨tb (i := 59) (by decide +kernel), tb (i := 3) (by decide +kernel), by decide +kernel⟩
theorem mc_X5_init : MC yX5_init := ⟨tb (i := 58) (by decide +kernel), rfl⟩
theorem mk_X7_init : MK yX7_init cX7_init 1 none 0 := ⟨tb (i := 65) (by decide +kernel), tb (i := 4) (by decide +kernel), by decide +kernel⟩
theorem mc_X7_init : MC yX7_init := ⟨tb (i := 64) (by decide +kernel), rfl⟩
theorem mk_X1_init : MK yX1_init cX1_init 1 none 0 := ⟨tb (i := 71) (by decide +kernel), tb (i := 5) (by decide +kernel), by decide +kernel⟩
theorem mc_X1_init : MC yX1_init := ⟨tb (i := 70) (by decide +kernel), rfl⟩
theorem mk_X6_init : MK yX6_init cX6_init 1 none 0 := ⟨tb (i := 180) (by decide +kernel), tb (i := 6) (by decide +kernel), by decide +kernel⟩
theorem mc_X6_init : MC yX6_init := ⟨tb (i := 179) (by decide +kernel), rfl⟩
theorem mk_X10_init : MK yX10_init cX10_init 1 none 0 := ⟨tb (i := 247) (by decide +kernel), tb (i := 7) (by decide +kernel), by decide +kernel⟩
theorem mc_X10_init : MC yX10_init := ⟨tb (i := 246) (by decide +kernel), rfl⟩
theorem mk_X8_init : MK yX8_init cX8_init 1 none 0 := ⟨tb (i := 264) (by decide +kernel), tb (i := 8) (by decide +kernel), by decide +kernel⟩
theorem mc_X8_init : MC yX8_init := ⟨tb (i := 263) (by decide +kernel), rfl⟩
theorem mk_X0_init : MK yX0_init cX0_init 1 none 0 := ⟨tb (i := 270) (by decide +kernel), tb (i := 9) (by decide +kernel), by decide +kernel⟩
theorem mc_X0_init : MC yX0_init := ⟨tb (i := 269) (by decide +kernel), rfl⟩
theorem mk_X4_init : MK yX4_init cX4_init 1 none 0 := ⟨tb (i := 292) (by decide +kernel), tb (i := 10) (by decide +kernel), by decide +kernel⟩
theorem mc_X4_init : MC yX4_init := ⟨tb (i := 291) (by decide +kernel), rfl⟩
theorem mk_X2_init : MK yX2_init cX2_init 1 none 0 := ⟨tb (i := 318) (by decide +kernel), tb (i := 11) (by decide +kernel), by decide +kernel⟩
theorem mc_X2_init : MC yX2_init := ⟨tb (i := 317) (by decide +kernel), rfl⟩
theorem mk_X3_init : MK yX3_init cX3_init 1 none 0 := ⟨tb (i := 347) (by decide +kernel), tb (i := 12) (by decide +kernel), by decide +kernel⟩
theorem mc_X3_init : MC yX3_init := ⟨tb (i := 346) (by decide +kernel), rfl⟩
theorem mk_X11_nodeCount : MK yX11_nodeCount cX11_nodeCount 1 (some .int) 0 := ⟨tb (i := 435) (by decide +kernel), tb (i := 1) (by decide +kernel), by decide +kernel⟩
theorem mi_X11_nodeCount : MI yX11_nodeCount := ⟨tb (i := 433) (by decide +kernel), tb (i := 434) (by decide +kernel)⟩
theorem mk_X11_isLeaf : MK yX11_isLeaf cX11_isLeaf 2 (some .boolean) 1 := ⟨tb (i := 439) (by decide +kernel), tb (i := 1) (by decide +kernel), by decide +kernel⟩
theorem mi_X11_isLeaf : MI yX11_isLeaf := ⟨tb (i := 437) (by decide +kernel), tb (i := 438) (by decide +kernel)⟩
theorem mk_X7_hasLeaf : MK yX7_hasLeaf cX7_hasLeaf 2 (some .boolean) 1 := ⟨tb (i := 443) (by decide +kernel), tb (i := 4) (by decide +kernel), by decide +kernel⟩
theorem mi_X7_hasLeaf : MI yX7_hasLeaf := ⟨tb (i := 441) (by decide +kernel), tb (i := 442) (by decide +kernel)⟩
theorem mk_X7_hasNode : MK yX7_hasNode cX7_hasNode 2 (some .boolean) 1 := ⟨tb (i := 447) (by decide +kernel), tb (i := 4) (by decide +kernel), by decide +kernel⟩
theorem mi_X7_hasNode : MI yX7_hasNode := ⟨tb (i := 445) (by decide +kernel), tb (i := 446) (by decide +kernel)⟩
theorem mk_X11_time : MK yX11_time cX11_time 1 (some .int) 0 := ⟨tb (i := 451) (by decide +kernel), tb (i := 1) (by decide +kernel), by decide +kernel⟩
theorem mi_X11_time : MI yX11_time := ⟨tb (i := 449) (by decide +kernel), tb (i := 450) (by decide +kernel)⟩
theorem mk_X11_tokens : MK yX11_tokens cX11_tokens 2 (some .int) 1 := ⟨tb (i := 455) (by decide +kernel), tb (i := 1) (by decide +kernel), by decide +kernel⟩
theorem mi_X11_tokens : MI yX11_tokens := ⟨tb (i := 453) (by decide +kernel), tb (i := 454) (by decide +kernel)⟩
theorem mk_X11_lender : MK yX11_lender cX11_lender 3 (some .int) 2 := ⟨tb (i := 460) (by decide +kernel), tb (i := 1) (by decide +kernel), by decide +kernel⟩
theorem mi_X11_lender : MI yX11_lender := ⟨tb (i := 458) (by decide +kernel), tb (i := 459) (by decide +kernel)⟩
theorem mk_X11_isRequest : MK yX11_isRequest cX11_isRequest 3 (some .boolean) 2 := ⟨tb (i := 464) (by decide +kernel), tb (i := 1) (by decide +kernel), by decide +kernel⟩
theorem mi_X11_isRequest : MI yX11_isRequest := ⟨tb (i := 463) (by decide +kernel), pb (i := 0) (by decide +kernel)⟩
theorem mk_X0_findLender : MK yX0_findLender cX0_findLender 8 (some .int) 3 := ⟨tb (i := 468) (by decide +kernel), tb (i := 9) (by decide +kernel), by decide +kernel⟩
theorem mi_X0_findLender : MI yX0_findLender := ⟨tb (i := 466) (by decide +kernel), tb (i := 467) (by decide +kernel)⟩
theorem mk_X11_acquire : MK yX11_acquire cX11_acquire 4 (some .int) 2 := ⟨tb (i := 473) (by decide +kernel), tb (i := 1) (by decide +kernel), by decide +kernel⟩
theorem mi_X11_acquire : MI yX11_acquire := ⟨tb (i := 471) (by decide +kernel), tb (i := 472) (by decide +kernel)⟩
theorem mk_X8_send : MK yX8_send cX8_send 5 none 4 := ⟨tb (i := 477) (by decide +kernel), tb (i := 8) (by decide +kernel), by decide +kernel⟩
theorem mi_X8_send : MI yX8_send := ⟨tb (i := 475) (by decide +kernel), tb (i := 476) (by decide +kernel)⟩
theorem mk_X0_pay : MK yX0_pay cX0_pay 9 none 4 := ⟨tb (i := 482) (by decide +kernel), tb (i := 9) (by decide +kernel), by decide +kernel⟩
theorem mi_X0_pay : MI yX0_pay := ⟨tb (i := 480) (by decide +kernel), tb (i := 481) (by decide +kernel)⟩
theorem mk_J9_min_7cf53 : MK yJ9_min_7cf53 cJ9_min_7cf53 2 (some .int) 2 := ⟨tb (i := 485) (by decide +kernel), tb (i := 13) (by decide +kernel), by decide +kernel⟩
theorem ms_J9_min_7cf53 : MS yJ9_min_7cf53 := tb (i := 484) (by decide +kernel)
theorem mk_X2_countSent : MK yX2_countSent cX2_countSent 4 none 3 := ⟨tb (i := 489) (by decide +kernel), tb (i := 11) (by decide +kernel), by decide +kernel⟩
theorem mi_X2_countSent : MI yX2_countSent := ⟨tb (i := 487) (by decide +kernel), tb (i := 488) (by decide +kernel)⟩
theorem mk_X3_add : MK yX3_add cX3_add 5 none 4 := ⟨tb (i := 493) (by decide +kernel), tb (i := 12) (by decide +kernel), by decide +kernel⟩
theorem mi_X3_add : MI yX3_add := ⟨tb (i := 491) (by decide +kernel), tb (i := 492) (by decide +kernel)⟩
theorem mk_X3_putFirst : MK yX3_putFirst cX3_putFirst 2 none 2 := ⟨tb (i := 496) (by decide +kernel), tb (i := 12) (by decide +kernel), by decide +kernel⟩
theorem ms_X3_putFirst : MS yX3_putFirst := tb (i := 495) (by decide +kernel)
theorem mk_X7_distance : MK yX7_distance cX7_distance 3 (some .int) 2 := ⟨tb (i := 504) (by decide +kernel), tb (i := 4) (by decide +kernel), by decide +kernel⟩
theorem mi_X7_distance : MI yX7_distance := ⟨tb (i := 502) (by decide +kernel), tb (i := 503) (by decide +kernel)⟩
theorem mk_X11_nextLeaf : MK yX11_nextLeaf cX11_nextLeaf 1 (some .int) 0 := ⟨tb (i := 508) (by decide +kernel), tb (i := 1) (by decide +kernel), by decide +kernel⟩
theorem mi_X11_nextLeaf : MI yX11_nextLeaf := ⟨tb (i := 506) (by decide +kernel), tb (i := 507) (by decide +kernel)⟩
theorem mk_X8_chooseLeaf : MK yX8_chooseLeaf cX8_chooseLeaf 7 (some .int) 1 := ⟨tb (i := 512) (by decide +kernel), tb (i := 8) (by decide +kernel), by decide +kernel⟩
theorem mi_X8_chooseLeaf : MI yX8_chooseLeaf := ⟨tb (i := 510) (by decide +kernel), tb (i := 511) (by decide +kernel)⟩
theorem mk_X8_frontDistance : MK yX8_frontDistance cX8_frontDistance 3 (some .int) 2 := ⟨tb (i := 516) (by decide +kernel), tb (i := 8) (by decide +kernel), by decide +kernel⟩
theorem mi_X8_frontDistance : MI yX8_frontDistance := ⟨tb (i := 515) (by decide +kernel), pb (i := 1) (by decide +kernel)⟩
theorem mk_X8_precedes : MK yX8_precedes cX8_precedes 4 (some .boolean) 3 := ⟨tb (i := 522) (by decide +kernel), tb (i := 8) (by decide +kernel), by decide +kernel⟩
theorem mi_X8_precedes : MI yX8_precedes := ⟨tb (i := 521) (by decide +kernel), pb (i := 2) (by decide +kernel)⟩
theorem mk_X8_compareServed : MK yX8_compareServed cX8_compareServed 7 (some .int) 2 := ⟨tb (i := 526) (by decide +kernel), tb (i := 8) (by decide +kernel), by decide +kernel⟩
theorem mi_X8_compareServed : MI yX8_compareServed := ⟨tb (i := 524) (by decide +kernel), tb (i := 525) (by decide +kernel)⟩
theorem mk_J13_compare_74951 : MK yJ13_compare_74951 cJ13_compare_74951 4 (some .int) 2 := ⟨tb (i := 529) (by decide +kernel), tb (i := 16) (by decide +kernel), by decide +kernel⟩
theorem ms_J13_compare_74951 : MS yJ13_compare_74951 := tb (i := 528) (by decide +kernel)
theorem mk_X11_advance : MK yX11_advance cX11_advance 2 (some .int) 1 := ⟨tb (i := 533) (by decide +kernel), tb (i := 1) (by decide +kernel), by decide +kernel⟩
theorem mi_X11_advance : MI yX11_advance := ⟨tb (i := 531) (by decide +kernel), tb (i := 532) (by decide +kernel)⟩
theorem mk_X11_canAdvance : MK yX11_canAdvance cX11_canAdvance 2 (some .boolean) 1 := ⟨tb (i := 537) (by decide +kernel), tb (i := 1) (by decide +kernel), by decide +kernel⟩
theorem mi_X11_canAdvance : MI yX11_canAdvance := ⟨tb (i := 536) (by decide +kernel), pb (i := 3) (by decide +kernel)⟩
theorem mk_X8_makeTicks : MK yX8_makeTicks cX8_makeTicks 5 (some .int) 2 := ⟨tb (i := 541) (by decide +kernel), tb (i := 8) (by decide +kernel), by decide +kernel⟩
theorem mi_X8_makeTicks : MI yX8_makeTicks := ⟨tb (i := 539) (by decide +kernel), tb (i := 540) (by decide +kernel)⟩
theorem mk_X8_makeTick : MK yX8_makeTick cX8_makeTick 3 (some .int) 1 := ⟨tb (i := 545) (by decide +kernel), tb (i := 8) (by decide +kernel), by decide +kernel⟩
theorem mi_X8_makeTick : MI yX8_makeTick := ⟨tb (i := 543) (by decide +kernel), tb (i := 544) (by decide +kernel)⟩
theorem mk_X8_makeChanges : MK yX8_makeChanges cX8_makeChanges 4 none 1 := ⟨tb (i := 549) (by decide +kernel), tb (i := 8) (by decide +kernel), by decide +kernel⟩
theorem mi_X8_makeChanges : MI yX8_makeChanges := ⟨tb (i := 548) (by decide +kernel), pb (i := 4) (by decide +kernel)⟩
theorem mk_X8_row : MK yX8_row cX8_row 2 (some (.array .int)) 1 := ⟨tb (i := 553) (by decide +kernel), tb (i := 8) (by decide +kernel), by decide +kernel⟩
theorem mi_X8_row : MI yX8_row := ⟨tb (i := 551) (by decide +kernel), tb (i := 552) (by decide +kernel)⟩
theorem mk_X0_refill : MK yX0_refill cX0_refill 7 none 4 := ⟨tb (i := 557) (by decide +kernel), tb (i := 9) (by decide +kernel), by decide +kernel⟩
theorem mi_X0_refill : MI yX0_refill := ⟨tb (i := 555) (by decide +kernel), tb (i := 556) (by decide +kernel)⟩
theorem mk_J9_max_7cf53 : MK yJ9_max_7cf53 cJ9_max_7cf53 2 (some .int) 2 := ⟨tb (i := 560) (by decide +kernel), tb (i := 13) (by decide +kernel), by decide +kernel⟩
theorem ms_J9_max_7cf53 : MS yJ9_max_7cf53 := tb (i := 559) (by decide +kernel)
theorem mk_X8_dropOld : MK yX8_dropOld cX8_dropOld 4 none 1 := ⟨tb (i := 564) (by decide +kernel), tb (i := 8) (by decide +kernel), by decide +kernel⟩
theorem mi_X8_dropOld : MI yX8_dropOld := ⟨tb (i := 563) (by decide +kernel), pb (i := 5) (by decide +kernel)⟩
theorem mk_X8_isFrontOld : MK yX8_isFrontOld cX8_isFrontOld 3 (some .boolean) 2 := ⟨tb (i := 568) (by decide +kernel), tb (i := 8) (by decide +kernel), by decide +kernel⟩
theorem mi_X8_isFrontOld : MI yX8_isFrontOld := ⟨tb (i := 567) (by decide +kernel), pb (i := 6) (by decide +kernel)⟩
theorem mk_X4_removeFront : MK yX4_removeFront cX4_removeFront 2 none 1 := ⟨tb (i := 572) (by decide +kernel), tb (i := 10) (by decide +kernel), by decide +kernel⟩
theorem mi_X4_removeFront : MI yX4_removeFront := ⟨tb (i := 570) (by decide +kernel), tb (i := 571) (by decide +kernel)⟩
theorem mk_X4_moveUp : MK yX4_moveUp cX4_moveUp 4 none 2 := ⟨tb (i := 576) (by decide +kernel), tb (i := 10) (by decide +kernel), by decide +kernel⟩
theorem mi_X4_moveUp : MI yX4_moveUp := ⟨tb (i := 575) (by decide +kernel), pb (i := 7) (by decide +kernel)⟩
theorem mk_X8_dispatch : MK yX8_dispatch cX8_dispatch 5 (some .int) 1 := ⟨tb (i := 581) (by decide +kernel), tb (i := 8) (by decide +kernel), by decide +kernel⟩
theorem mi_X8_dispatch : MI yX8_dispatch := ⟨tb (i := 580) (by decide +kernel), pb (i := 8) (by decide +kernel)⟩
theorem mk_X11_fairness : MK yX11_fairness cX11_fairness 10 (some .int) 0 := ⟨tb (i := 587) (by decide +kernel), tb (i := 1) (by decide +kernel), by decide +kernel⟩
theorem mi_X11_fairness : MI yX11_fairness := ⟨tb (i := 585) (by decide +kernel), tb (i := 586) (by decide +kernel)⟩
theorem mk_X11_quotient : MK yX11_quotient cX11_quotient 4 (some .long) 2 := ⟨tb (i := 591) (by decide +kernel), tb (i := 1) (by decide +kernel), by decide +kernel⟩
theorem ms_X11_quotient : MS yX11_quotient := tb (i := 590) (by decide +kernel)
theorem mk_X11_mostServed : MK yX11_mostServed cX11_mostServed 3 (some .int) 0 := ⟨tb (i := 596) (by decide +kernel), tb (i := 1) (by decide +kernel), by decide +kernel⟩
theorem mi_X11_mostServed : MI yX11_mostServed := ⟨tb (i := 594) (by decide +kernel), tb (i := 595) (by decide +kernel)⟩
theorem mk_X11_loggedLeaf : MK yX11_loggedLeaf cX11_loggedLeaf 3 (some .int) 1 := ⟨tb (i := 601) (by decide +kernel), tb (i := 1) (by decide +kernel), by decide +kernel⟩
theorem mi_X11_loggedLeaf : MI yX11_loggedLeaf := ⟨tb (i := 599) (by decide +kernel), tb (i := 600) (by decide +kernel)⟩
theorem mk_X11_logEntry : MK yX11_logEntry cX11_logEntry 2 (some .int) 1 := ⟨tb (i := 605) (by decide +kernel), tb (i := 1) (by decide +kernel), by decide +kernel⟩
theorem mi_X11_logEntry : MI yX11_logEntry := ⟨tb (i := 604) (by decide +kernel), pb (i := 9) (by decide +kernel)⟩
theorem mk_X11_loggedCost : MK yX11_loggedCost cX11_loggedCost 3 (some .int) 1 := ⟨tb (i := 609) (by decide +kernel), tb (i := 1) (by decide +kernel), by decide +kernel⟩
theorem mi_X11_loggedCost : MI yX11_loggedCost := ⟨tb (i := 607) (by decide +kernel), tb (i := 608) (by decide +kernel)⟩
theorem mk_X11_loggedLender : MK yX11_loggedLender cX11_loggedLender 3 (some .int) 1 := ⟨tb (i := 613) (by decide +kernel), tb (i := 1) (by decide +kernel), by decide +kernel⟩
theorem mi_X11_loggedLender : MI yX11_loggedLender := ⟨tb (i := 611) (by decide +kernel), tb (i := 612) (by decide +kernel)⟩
theorem mk_X11_loggedTime : MK yX11_loggedTime cX11_loggedTime 3 (some .int) 1 := ⟨tb (i := 617) (by decide +kernel), tb (i := 1) (by decide +kernel), by decide +kernel⟩
theorem mi_X11_loggedTime : MI yX11_loggedTime := ⟨tb (i := 615) (by decide +kernel), tb (i := 616) (by decide +kernel)⟩
theorem mk_X11_setRate : MK yX11_setRate cX11_setRate 3 (some .int) 2 := ⟨tb (i := 621) (by decide +kernel), tb (i := 1) (by decide +kernel), by decide +kernel⟩
theorem mi_X11_setRate : MI yX11_setRate := ⟨tb (i := 619) (by decide +kernel), tb (i := 620) (by decide +kernel)⟩
theorem mk_X11_change : MK yX11_change cX11_change 6 (some .int) 3 := ⟨tb (i := 625) (by decide +kernel), tb (i := 1) (by decide +kernel), by decide +kernel⟩
theorem mi_X11_change : MI yX11_change := ⟨tb (i := 624) (by decide +kernel), pb (i := 10) (by decide +kernel)⟩
theorem mk_X11_isInRange : MK yX11_isInRange cX11_isInRange 2 (some .boolean) 2 := ⟨tb (i := 628) (by decide +kernel), tb (i := 1) (by decide +kernel), by decide +kernel⟩
theorem ms_X11_isInRange : MS yX11_isInRange := tb (i := 627) (by decide +kernel)
theorem mk_X12_init : MK yX12_init cX12_init 3 none 1 := ⟨tb (i := 638) (by decide +kernel), tb (i := 17) (by decide +kernel), by decide +kernel⟩
theorem mc_X12_init : MC yX12_init := ⟨tb (i := 637) (by decide +kernel), rfl⟩
theorem mk_Jx4a65c_init_da8c8 : MK yJx4a65c_init_da8c8 cJx4a65c_init_da8c8 1 none 0 := ⟨tb (i := 644) (by decide +kernel), tb (i := 20) (by decide +kernel), by decide +kernel⟩
theorem mc_Jx4a65c_init_da8c8 : MC yJx4a65c_init_da8c8 := ⟨tb (i := 643) (by decide +kernel), rfl⟩
theorem mk_Jxc12de_init_da8c8 : MK yJxc12de_init_da8c8 cJxc12de_init_da8c8 1 none 0 := ⟨tb (i := 647) (by decide +kernel), tb (i := 19) (by decide +kernel), by decide +kernel⟩
theorem mc_Jxc12de_init_da8c8 : MC yJxc12de_init_da8c8 := ⟨tb (i := 646) (by decide +kernel), rfl⟩
theorem mk_Jxa1e45_init_da8c8 : MK yJxa1e45_init_da8c8 cJxa1e45_init_da8c8 1 none 0 := ⟨tb (i := 650) (by decide +kernel), tb (i := 18) (by decide +kernel), by decide +kernel⟩
theorem mc_Jxa1e45_init_da8c8 : MC yJxa1e45_init_da8c8 := ⟨tb (i := 649) (by decide +kernel), rfl⟩
theorem mk_L_draw : MK yL_draw cL_draw 2 (some .int) 2 := ⟨tb (i := 668) (by decide +kernel), tb (i := 0) (by decide +kernel), by decide +kernel⟩
theorem ms_L_draw : MS yL_draw := tb (i := 667) (by decide +kernel)
theorem mk_L_mixed : MK yL_mixed cL_mixed 1 (some .int) 1 := ⟨tb (i := 671) (by decide +kernel), tb (i := 0) (by decide +kernel), by decide +kernel⟩
theorem ms_L_mixed : MS yL_mixed := tb (i := 670) (by decide +kernel)
theorem mk_Jx4a65c_add_9ea2d : MK yJx4a65c_add_9ea2d cJx4a65c_add_9ea2d 2 (some .boolean) 1 := ⟨tb (i := 676) (by decide +kernel), tb (i := 20) (by decide +kernel), by decide +kernel⟩
theorem mi_Jx4a65c_add_9ea2d : MI yJx4a65c_add_9ea2d := ⟨tb (i := 674) (by decide +kernel), tb (i := 675) (by decide +kernel)⟩
theorem mk_Jx4a65c_add_72be8 : MK yJx4a65c_add_72be8 cJx4a65c_add_72be8 4 none 3 := ⟨tb (i := 680) (by decide +kernel), tb (i := 20) (by decide +kernel), by decide +kernel⟩
theorem mi_Jx4a65c_add_72be8 : MI yJx4a65c_add_72be8 := ⟨tb (i := 679) (by decide +kernel), pb (i := 11) (by decide +kernel)⟩
theorem mk_Jx4a65c_grow_d5877 : MK yJx4a65c_grow_d5877 cJx4a65c_grow_d5877 1 (some (.array (.object "java/lang/Object"))) 0 := ⟨tb (i := 684) (by decide +kernel), tb (i := 20) (by decide +kernel), by decide +kernel⟩
theorem mi_Jx4a65c_grow_d5877 : MI yJx4a65c_grow_d5877 := ⟨tb (i := 683) (by decide +kernel), pb (i := 12) (by decide +kernel)⟩
theorem mk_Jx4a65c_grow_92f84 : MK yJx4a65c_grow_92f84 cJx4a65c_grow_92f84 4 (some (.array (.object "java/lang/Object"))) 1 := ⟨tb (i := 688) (by decide +kernel), tb (i := 20) (by decide +kernel), by decide +kernel⟩
theorem mi_Jx4a65c_grow_92f84 : MI yJx4a65c_grow_92f84 := ⟨tb (i := 687) (by decide +kernel), pb (i := 13) (by decide +kernel)⟩
theorem mk_J8_newLength_cabcc : MK yJ8_newLength_cabcc cJ8_newLength_cabcc 4 (some .int) 3 := ⟨tb (i := 691) (by decide +kernel), tb (i := 21) (by decide +kernel), by decide +kernel⟩
theorem ms_J8_newLength_cabcc : MS yJ8_newLength_cabcc := tb (i := 690) (by decide +kernel)
theorem mk_J8_hugeLength_7cf53 : MK yJ8_hugeLength_7cf53 cJ8_hugeLength_7cf53 3 (some .int) 2 := ⟨tb (i := 696) (by decide +kernel), tb (i := 21) (by decide +kernel), by decide +kernel⟩
theorem ms_J8_hugeLength_7cf53 : MS yJ8_hugeLength_7cf53 := tb (i := 695) (by decide +kernel)
theorem mk_J7_copyOf_1904c : MK yJ7_copyOf_1904c cJ7_copyOf_1904c 2 (some (.array (.object "java/lang/Object"))) 2 := ⟨tb (i := 699) (by decide +kernel), tb (i := 22) (by decide +kernel), by decide +kernel⟩
theorem ms_J7_copyOf_1904c : MS yJ7_copyOf_1904c := tb (i := 698) (by decide +kernel)
theorem mk_J7_copyOf_6403c : MK yJ7_copyOf_6403c cJ7_copyOf_6403c 4 (some (.array (.object "java/lang/Object"))) 3 := ⟨tb (i := 722) (by decide +kernel), tb (i := 22) (by decide +kernel), by decide +kernel⟩
theorem ms_J7_copyOf_6403c : MS yJ7_copyOf_6403c := tb (i := 721) (by decide +kernel)
theorem mk_X12_steps : MK yX12_steps cX12_steps 3 (some .int) 2 := ⟨tb (i := 827) (by decide +kernel), tb (i := 17) (by decide +kernel), by decide +kernel⟩
theorem mi_X12_steps : MI yX12_steps := ⟨tb (i := 825) (by decide +kernel), tb (i := 826) (by decide +kernel)⟩
theorem mk_X12_lender : MK yX12_lender cX12_lender 4 (some .int) 2 := ⟨tb (i := 832) (by decide +kernel), tb (i := 17) (by decide +kernel), by decide +kernel⟩
theorem mi_X12_lender : MI yX12_lender := ⟨tb (i := 830) (by decide +kernel), tb (i := 831) (by decide +kernel)⟩
theorem mk_X12_send : MK yX12_send cX12_send 6 none 2 := ⟨tb (i := 836) (by decide +kernel), tb (i := 17) (by decide +kernel), by decide +kernel⟩
theorem mi_X12_send : MI yX12_send := ⟨tb (i := 834) (by decide +kernel), tb (i := 835) (by decide +kernel)⟩
theorem mk_X12_tick : MK yX12_tick cX12_tick 3 (some .int) 0 := ⟨tb (i := 843) (by decide +kernel), tb (i := 17) (by decide +kernel), by decide +kernel⟩
theorem mi_X12_tick : MI yX12_tick := ⟨tb (i := 841) (by decide +kernel), tb (i := 842) (by decide +kernel)⟩
theorem mk_X12_refill : MK yX12_refill cX12_refill 3 none 0 := ⟨tb (i := 847) (by decide +kernel), tb (i := 17) (by decide +kernel), by decide +kernel⟩
theorem mi_X12_refill : MI yX12_refill := ⟨tb (i := 845) (by decide +kernel), tb (i := 846) (by decide +kernel)⟩
theorem mk_Jx4a65c_get_915e3 : MK yJx4a65c_get_915e3 cJx4a65c_get_915e3 2 (some (.object "java/lang/Object")) 1 := ⟨tb (i := 851) (by decide +kernel), tb (i := 20) (by decide +kernel), by decide +kernel⟩
theorem mi_Jx4a65c_get_915e3 : MI yJx4a65c_get_915e3 := ⟨tb (i := 849) (by decide +kernel), tb (i := 850) (by decide +kernel)⟩
theorem mk_J15_checkIndex_7cf53 : MK yJ15_checkIndex_7cf53 cJ15_checkIndex_7cf53 2 (some .int) 2 := ⟨tb (i := 854) (by decide +kernel), tb (i := 30) (by decide +kernel), by decide +kernel⟩
theorem ms_J15_checkIndex_7cf53 : MS yJ15_checkIndex_7cf53 := tb (i := 853) (by decide +kernel)
theorem mk_J3_checkIndex_8e157 : MK yJ3_checkIndex_8e157 cJ3_checkIndex_8e157 3 (some .int) 3 := ⟨tb (i := 857) (by decide +kernel), tb (i := 27) (by decide +kernel), by decide +kernel⟩
theorem ms_J3_checkIndex_8e157 : MS yJ3_checkIndex_8e157 := tb (i := 856) (by decide +kernel)
theorem mk_Jx4a65c_elementData_915e3 : MK yJx4a65c_elementData_915e3 cJx4a65c_elementData_915e3 2 (some (.object "java/lang/Object")) 1 := ⟨tb (i := 861) (by decide +kernel), tb (i := 20) (by decide +kernel), by decide +kernel⟩
theorem mi_Jx4a65c_elementData_915e3 : MI yJx4a65c_elementData_915e3 := ⟨tb (i := 859) (by decide +kernel), tb (i := 860) (by decide +kernel)⟩
theorem mk_Jx4a65c_isEmpty_aae02 : MK yJx4a65c_isEmpty_aae02 cJx4a65c_isEmpty_aae02 1 (some .boolean) 0 := ⟨tb (i := 865) (by decide +kernel), tb (i := 20) (by decide +kernel), by decide +kernel⟩
theorem mi_Jx4a65c_isEmpty_aae02 : MI yJx4a65c_isEmpty_aae02 := ⟨tb (i := 863) (by decide +kernel), tb (i := 864) (by decide +kernel)⟩
theorem mk_Jx4a65c_remove_915e3 : MK yJx4a65c_remove_915e3 cJx4a65c_remove_915e3 4 (some (.object "java/lang/Object")) 1 := ⟨tb (i := 870) (by decide +kernel), tb (i := 20) (by decide +kernel), by decide +kernel⟩
theorem mi_Jx4a65c_remove_915e3 : MI yJx4a65c_remove_915e3 := ⟨tb (i := 868) (by decide +kernel), tb (i := 869) (by decide +kernel)⟩
theorem mk_Jx4a65c_fastRemove_b59b0 : MK yJx4a65c_fastRemove_b59b0 cJx4a65c_fastRemove_b59b0 4 none 2 := ⟨tb (i := 874) (by decide +kernel), tb (i := 20) (by decide +kernel), by decide +kernel⟩
theorem mi_Jx4a65c_fastRemove_b59b0 : MI yJx4a65c_fastRemove_b59b0 := ⟨tb (i := 873) (by decide +kernel), pb (i := 14) (by decide +kernel)⟩
theorem mk_X12_first : MK yX12_first cX12_first 3 (some .int) 0 := ⟨tb (i := 879) (by decide +kernel), tb (i := 17) (by decide +kernel), by decide +kernel⟩
theorem mi_X12_first : MI yX12_first := ⟨tb (i := 877) (by decide +kernel), tb (i := 878) (by decide +kernel)⟩
theorem mk_X12_isAhead : MK yX12_isAhead cX12_isAhead 4 (some .boolean) 2 := ⟨tb (i := 883) (by decide +kernel), tb (i := 17) (by decide +kernel), by decide +kernel⟩
theorem mi_X12_isAhead : MI yX12_isAhead := ⟨tb (i := 882) (by decide +kernel), pb (i := 15) (by decide +kernel)⟩
theorem mk_X12_anyLeaf : MK yX12_anyLeaf cX12_anyLeaf 3 (some .int) 1 := ⟨tb (i := 888) (by decide +kernel), tb (i := 17) (by decide +kernel), by decide +kernel⟩
theorem mi_X12_anyLeaf : MI yX12_anyLeaf := ⟨tb (i := 886) (by decide +kernel), tb (i := 887) (by decide +kernel)⟩
theorem mk_X12_isLeaf : MK yX12_isLeaf cX12_isLeaf 3 (some .boolean) 1 := ⟨tb (i := 892) (by decide +kernel), tb (i := 17) (by decide +kernel), by decide +kernel⟩
theorem mi_X12_isLeaf : MI yX12_isLeaf := ⟨tb (i := 890) (by decide +kernel), tb (i := 891) (by decide +kernel)⟩
theorem mk_L_cell : MK yL_cell cL_cell 2 (some .int) 2 := ⟨tb (i := 895) (by decide +kernel), tb (i := 0) (by decide +kernel), by decide +kernel⟩
theorem ms_L_cell : MS yL_cell := tb (i := 894) (by decide +kernel)
theorem mk_L_stands : MK yL_stands cL_stands 2 (some .boolean) 2 := ⟨tb (i := 899) (by decide +kernel), tb (i := 0) (by decide +kernel), by decide +kernel⟩
theorem ms_L_stands : MS yL_stands := tb (i := 898) (by decide +kernel)
theorem mk_X12_text : MK yX12_text cX12_text 3 (some (.object "java/lang/String")) 0 := ⟨tb (i := 903) (by decide +kernel), tb (i := 17) (by decide +kernel), by decide +kernel⟩
theorem mi_X12_text : MI yX12_text := ⟨tb (i := 901) (by decide +kernel), tb (i := 902) (by decide +kernel)⟩
theorem mk_J4_init_da8c8 : MK yJ4_init_da8c8 cJ4_init_da8c8 1 none 0 := ⟨tb (i := 908) (by decide +kernel), tb (i := 24) (by decide +kernel), by decide +kernel⟩
theorem mc_J4_init_da8c8 : MC yJ4_init_da8c8 := ⟨tb (i := 907) (by decide +kernel), rfl⟩
theorem mk_J5_init_d00df : MK yJ5_init_d00df cJ5_init_d00df 2 none 1 := ⟨tb (i := 911) (by decide +kernel), tb (i := 23) (by decide +kernel), by decide +kernel⟩
theorem mc_J5_init_d00df : MC yJ5_init_d00df := ⟨tb (i := 910) (by decide +kernel), rfl⟩
theorem mk_J2_newBytesFor_77867 : MK yJ2_newBytesFor_77867 cJ2_newBytesFor_77867 1 (some (.array .byte)) 1 := ⟨tb (i := 917) (by decide +kernel), tb (i := 26) (by decide +kernel), by decide +kernel⟩
theorem ms_J2_newBytesFor_77867 : MS yJ2_newBytesFor_77867 := tb (i := 916) (by decide +kernel)
theorem mk_J2_newBytesLength_0f7a4 : MK yJ2_newBytesLength_0f7a4 cJ2_newBytesLength_0f7a4 1 (some .int) 1 := ⟨tb (i := 920) (by decide +kernel), tb (i := 26) (by decide +kernel), by decide +kernel⟩
theorem ms_J2_newBytesLength_0f7a4 : MS yJ2_newBytesLength_0f7a4 := tb (i := 919) (by decide +kernel)
theorem mk_J4_append_15ec4 : MK yJ4_append_15ec4 cJ4_append_15ec4 2 (some (.object "java/lang/StringBuilder")) 1 := ⟨tb (i := 939) (by decide +kernel), tb (i := 24) (by decide +kernel), by decide +kernel⟩
theorem mi_J4_append_15ec4 : MI yJ4_append_15ec4 := ⟨tb (i := 937) (by decide +kernel), tb (i := 938) (by decide +kernel)⟩
theorem mk_J5_append_cf1ce : MK yJ5_append_cf1ce cJ5_append_cf1ce 3 (some (.object "java/lang/AbstractStringBuilder")) 1 := ⟨tb (i := 942) (by decide +kernel), tb (i := 23) (by decide +kernel), by decide +kernel⟩
theorem mk_J5_appendNull_278bc : MK yJ5_appendNull_278bc cJ5_appendNull_278bc 3 (some (.object "java/lang/AbstractStringBuilder")) 0 := ⟨tb (i := 946) (by decide +kernel), tb (i := 23) (by decide +kernel), by decide +kernel⟩
theorem mk_J5_ensureCapacityInternal_d00df : MK yJ5_ensureCapacityInternal_d00df cJ5_ensureCapacityInternal_d00df 3 none 1 := ⟨tb (i := 950) (by decide +kernel), tb (i := 23) (by decide +kernel), by decide +kernel⟩
theorem mk_J5_newCapacity_0f7a4 : MK yJ5_newCapacity_0f7a4 cJ5_newCapacity_0f7a4 6 (some .int) 1 := ⟨tb (i := 954) (by decide +kernel), tb (i := 23) (by decide +kernel), by decide +kernel⟩
theorem mk_J7_copyOf_9075b : MK yJ7_copyOf_9075b cJ7_copyOf_9075b 3 (some (.array .byte)) 2 := ⟨tb (i := 959) (by decide +kernel), tb (i := 22) (by decide +kernel), by decide +kernel⟩
theorem ms_J7_copyOf_9075b : MS yJ7_copyOf_9075b := tb (i := 958) (by decide +kernel)
theorem mk_J5_isLatin1_aae02 : MK yJ5_isLatin1_aae02 cJ5_isLatin1_aae02 1 (some .boolean) 0 := ⟨tb (i := 971) (by decide +kernel), tb (i := 23) (by decide +kernel), by decide +kernel⟩
theorem mk_J2_putCharsAt_cd4e5 : MK yJ2_putCharsAt_cd4e5 cJ2_putCharsAt_cd4e5 7 (some .int) 6 := ⟨tb (i := 974) (by decide +kernel), tb (i := 26) (by decide +kernel), by decide +kernel⟩
theorem ms_J2_putCharsAt_cd4e5 : MS yJ2_putCharsAt_cd4e5 := tb (i := 973) (by decide +kernel)
theorem mk_J2_checkBoundsBeginEnd_d044e : MK yJ2_checkBoundsBeginEnd_d044e cJ2_checkBoundsBeginEnd_d044e 3 none 3 := ⟨tb (i := 977) (by decide +kernel), tb (i := 26) (by decide +kernel), by decide +kernel⟩
theorem ms_J2_checkBoundsBeginEnd_d044e : MS yJ2_checkBoundsBeginEnd_d044e := tb (i := 976) (by decide +kernel)
theorem mk_J2_length_9d52b : MK yJ2_length_9d52b cJ2_length_9d52b 1 (some .int) 1 := ⟨tb (i := 980) (by decide +kernel), tb (i := 26) (by decide +kernel), by decide +kernel⟩
theorem ms_J2_length_9d52b : MS yJ2_length_9d52b := tb (i := 979) (by decide +kernel)
theorem mk_J0_checkBoundsBeginEnd_23922 : MK yJ0_checkBoundsBeginEnd_23922 cJ0_checkBoundsBeginEnd_23922 3 none 3 := ⟨tb (i := 983) (by decide +kernel), tb (i := 25) (by decide +kernel), by decide +kernel⟩
theorem ms_J0_checkBoundsBeginEnd_23922 : MS yJ0_checkBoundsBeginEnd_23922 := tb (i := 982) (by decide +kernel)
theorem mk_J3_checkFromToIndex_8c36e : MK yJ3_checkFromToIndex_8c36e cJ3_checkFromToIndex_8c36e 4 (some .int) 4 := ⟨tb (i := 988) (by decide +kernel), tb (i := 27) (by decide +kernel), by decide +kernel⟩
theorem ms_J3_checkFromToIndex_8c36e : MS yJ3_checkFromToIndex_8c36e := tb (i := 987) (by decide +kernel)
theorem mk_J2_putChar_b72d1 : MK yJ2_putChar_b72d1 cJ2_putChar_b72d1 3 none 3 := ⟨tb (i := 991) (by decide +kernel), tb (i := 26) (by decide +kernel), by decide +kernel⟩
theorem ms_J2_putChar_b72d1 : MS yJ2_putChar_b72d1 := tb (i := 990) (by decide +kernel)
theorem mk_J0_length_8abf5 : MK yJ0_length_8abf5 cJ0_length_8abf5 1 (some .int) 0 := ⟨tb (i := 1001) (by decide +kernel), tb (i := 25) (by decide +kernel), by decide +kernel⟩
theorem mi_J0_length_8abf5 : MI yJ0_length_8abf5 := ⟨tb (i := 999) (by decide +kernel), tb (i := 1000) (by decide +kernel)⟩
theorem mk_J0_coder_7d493 : MK yJ0_coder_7d493 cJ0_coder_7d493 1 (some .byte) 0 := ⟨tb (i := 1005) (by decide +kernel), tb (i := 25) (by decide +kernel), by decide +kernel⟩
theorem mi_J0_coder_7d493 : MI yJ0_coder_7d493 := ⟨tb (i := 1003) (by decide +kernel), tb (i := 1004) (by decide +kernel)⟩
theorem mk_J5_putStringAt_47b60 : MK yJ5_putStringAt_47b60 cJ5_putStringAt_47b60 3 none 2 := ⟨tb (i := 1010) (by decide +kernel), tb (i := 23) (by decide +kernel), by decide +kernel⟩
theorem mk_J5_inflateIfNeededFor_a7421 : MK yJ5_inflateIfNeededFor_a7421 cJ5_inflateIfNeededFor_a7421 2 none 1 := ⟨tb (i := 1014) (by decide +kernel), tb (i := 23) (by decide +kernel), by decide +kernel⟩
theorem mk_J5_inflate_da8c8 : MK yJ5_inflate_da8c8 cJ5_inflate_da8c8 2 none 0 := ⟨tb (i := 1019) (by decide +kernel), tb (i := 23) (by decide +kernel), by decide +kernel⟩
theorem mk_J1_inflate_0e8fd : MK yJ1_inflate_0e8fd cJ1_inflate_0e8fd 5 none 5 := ⟨tb (i := 1022) (by decide +kernel), tb (i := 28) (by decide +kernel), by decide +kernel⟩
theorem ms_J1_inflate_0e8fd : MS yJ1_inflate_0e8fd := tb (i := 1021) (by decide +kernel)
theorem mk_J2_inflate_0e8fd : MK yJ2_inflate_0e8fd cJ2_inflate_0e8fd 6 none 5 := ⟨tb (i := 1025) (by decide +kernel), tb (i := 26) (by decide +kernel), by decide +kernel⟩
theorem ms_J2_inflate_0e8fd : MS yJ2_inflate_0e8fd := tb (i := 1024) (by decide +kernel)
theorem mk_J2_checkBoundsOffCount_d044e : MK yJ2_checkBoundsOffCount_d044e cJ2_checkBoundsOffCount_d044e 3 none 3 := ⟨tb (i := 1028) (by decide +kernel), tb (i := 26) (by decide +kernel), by decide +kernel⟩
theorem ms_J2_checkBoundsOffCount_d044e : MS yJ2_checkBoundsOffCount_d044e := tb (i := 1027) (by decide +kernel)
theorem mk_J0_checkBoundsOffCount_cabcc : MK yJ0_checkBoundsOffCount_cabcc cJ0_checkBoundsOffCount_cabcc 3 (some .int) 3 := ⟨tb (i := 1031) (by decide +kernel), tb (i := 25) (by decide +kernel), by decide +kernel⟩
theorem ms_J0_checkBoundsOffCount_cabcc : MS yJ0_checkBoundsOffCount_cabcc := tb (i := 1030) (by decide +kernel)
theorem mk_J3_checkFromIndexSize_8c36e : MK yJ3_checkFromIndexSize_8c36e cJ3_checkFromIndexSize_8c36e 4 (some .int) 4 := ⟨tb (i := 1034) (by decide +kernel), tb (i := 27) (by decide +kernel), by decide +kernel⟩
theorem ms_J3_checkFromIndexSize_8c36e : MS yJ3_checkFromIndexSize_8c36e := tb (i := 1033) (by decide +kernel)
theorem mk_J0_getBytes_840e7 : MK yJ0_getBytes_840e7 cJ0_getBytes_840e7 4 none 3 := ⟨tb (i := 1038) (by decide +kernel), tb (i := 25) (by decide +kernel), by decide +kernel⟩
theorem mi_J0_getBytes_840e7 : MI yJ0_getBytes_840e7 := ⟨tb (i := 1036) (by decide +kernel), tb (i := 1037) (by decide +kernel)⟩
theorem mk_J4_append_cf468 : MK yJ4_append_cf468 cJ4_append_cf468 2 (some (.object "java/lang/StringBuilder")) 1 := ⟨tb (i := 1044) (by decide +kernel), tb (i := 24) (by decide +kernel), by decide +kernel⟩
theorem mi_J4_append_cf468 : MI yJ4_append_cf468 := ⟨tb (i := 1042) (by decide +kernel), tb (i := 1043) (by decide +kernel)⟩
theorem mk_J5_append_3fe6f : MK yJ5_append_3fe6f cJ5_append_3fe6f 2 (some (.object "java/lang/AbstractStringBuilder")) 1 := ⟨tb (i := 1047) (by decide +kernel), tb (i := 23) (by decide +kernel), by decide +kernel⟩
theorem mk_J1_canEncode_fc78d : MK yJ1_canEncode_fc78d cJ1_canEncode_fc78d 1 (some .boolean) 1 := ⟨tb (i := 1050) (by decide +kernel), tb (i := 28) (by decide +kernel), by decide +kernel⟩
theorem ms_J1_canEncode_fc78d : MS yJ1_canEncode_fc78d := tb (i := 1049) (by decide +kernel)
theorem mk_J2_putCharSB_b72d1 : MK yJ2_putCharSB_b72d1 cJ2_putCharSB_b72d1 3 none 3 := ⟨tb (i := 1053) (by decide +kernel), tb (i := 26) (by decide +kernel), by decide +kernel⟩
theorem ms_J2_putCharSB_b72d1 : MS yJ2_putCharSB_b72d1 := tb (i := 1052) (by decide +kernel)
theorem mk_J2_checkIndex_2214a : MK yJ2_checkIndex_2214a cJ2_checkIndex_2214a 2 none 2 := ⟨tb (i := 1056) (by decide +kernel), tb (i := 26) (by decide +kernel), by decide +kernel⟩
theorem ms_J2_checkIndex_2214a : MS yJ2_checkIndex_2214a := tb (i := 1055) (by decide +kernel)
theorem mk_J0_checkIndex_df160 : MK yJ0_checkIndex_df160 cJ0_checkIndex_df160 2 none 2 := ⟨tb (i := 1059) (by decide +kernel), tb (i := 25) (by decide +kernel), by decide +kernel⟩
theorem ms_J0_checkIndex_df160 : MS yJ0_checkIndex_df160 := tb (i := 1058) (by decide +kernel)
theorem mk_J4_append_bf812 : MK yJ4_append_bf812 cJ4_append_bf812 2 (some (.object "java/lang/StringBuilder")) 1 := ⟨tb (i := 1066) (by decide +kernel), tb (i := 24) (by decide +kernel), by decide +kernel⟩
theorem mi_J4_append_bf812 : MI yJ4_append_bf812 := ⟨tb (i := 1064) (by decide +kernel), tb (i := 1065) (by decide +kernel)⟩
theorem mk_J5_append_c97b9 : MK yJ5_append_c97b9 cJ5_append_c97b9 4 (some (.object "java/lang/AbstractStringBuilder")) 1 := ⟨tb (i := 1069) (by decide +kernel), tb (i := 23) (by decide +kernel), by decide +kernel⟩
theorem mk_J6_stringSize_0f7a4 : MK yJ6_stringSize_0f7a4 cJ6_stringSize_0f7a4 4 (some .int) 1 := ⟨tb (i := 1072) (by decide +kernel), tb (i := 29) (by decide +kernel), by decide +kernel⟩
theorem ms_J6_stringSize_0f7a4 : MS yJ6_stringSize_0f7a4 := tb (i := 1071) (by decide +kernel)
theorem mk_J6_getChars_ba4f3 : MK yJ6_getChars_ba4f3 cJ6_getChars_ba4f3 7 (some .int) 3 := ⟨tb (i := 1075) (by decide +kernel), tb (i := 29) (by decide +kernel), by decide +kernel⟩
theorem ms_J6_getChars_ba4f3 : MS yJ6_getChars_ba4f3 := tb (i := 1074) (by decide +kernel)
theorem mk_J2_getChars_46870 : MK yJ2_getChars_46870 cJ2_getChars_46870 5 (some .int) 4 := ⟨tb (i := 1082) (by decide +kernel), tb (i := 26) (by decide +kernel), by decide +kernel⟩
theorem ms_J2_getChars_46870 : MS yJ2_getChars_46870 := tb (i := 1081) (by decide +kernel)
theorem mk_J2_getChars_ba4f3 : MK yJ2_getChars_ba4f3 cJ2_getChars_ba4f3 7 (some .int) 3 := ⟨tb (i := 1085) (by decide +kernel), tb (i := 26) (by decide +kernel), by decide +kernel⟩
theorem ms_J2_getChars_ba4f3 : MS yJ2_getChars_ba4f3 := tb (i := 1084) (by decide +kernel)
theorem mk_J4_toString_0e30d : MK yJ4_toString_0e30d cJ4_toString_0e30d 1 (some (.object "java/lang/String")) 0 := ⟨tb (i := 1102) (by decide +kernel), tb (i := 24) (by decide +kernel), by decide +kernel⟩
theorem mi_J4_toString_0e30d : MI yJ4_toString_0e30d := ⟨tb (i := 1100) (by decide +kernel), tb (i := 1101) (by decide +kernel)⟩
theorem mk_J0_init_81219 : MK yJ0_init_81219 cJ0_init_81219 2 none 1 := ⟨tb (i := 1107) (by decide +kernel), tb (i := 25) (by decide +kernel), by decide +kernel⟩
theorem mc_J0_init_81219 : MC yJ0_init_81219 := ⟨tb (i := 1106) (by decide +kernel), rfl⟩
theorem mk_J0_init_db425 : MK yJ0_init_db425 cJ0_init_db425 5 none 2 := ⟨tb (i := 1110) (by decide +kernel), tb (i := 25) (by decide +kernel), by decide +kernel⟩
theorem mc_J0_init_db425 : MC yJ0_init_db425 := ⟨tb (i := 1109) (by decide +kernel), rfl⟩
theorem mk_J5_getValue_6d5f1 : MK yJ5_getValue_6d5f1 cJ5_getValue_6d5f1 1 (some (.array .byte)) 0 := ⟨tb (i := 1116) (by decide +kernel), tb (i := 23) (by decide +kernel), by decide +kernel⟩
theorem mk_J4_length_8abf5 : MK yJ4_length_8abf5 cJ4_length_8abf5 1 (some .int) 0 := ⟨tb (i := 1122) (by decide +kernel), tb (i := 24) (by decide +kernel), by decide +kernel⟩
theorem mk_J5_length_8abf5 : MK yJ5_length_8abf5 cJ5_length_8abf5 1 (some .int) 0 := ⟨tb (i := 1124) (by decide +kernel), tb (i := 23) (by decide +kernel), by decide +kernel⟩
theorem mk_J7_copyOfRange_39247 : MK yJ7_copyOfRange_39247 cJ7_copyOfRange_39247 3 (some (.array .byte)) 3 := ⟨tb (i := 1128) (by decide +kernel), tb (i := 22) (by decide +kernel), by decide +kernel⟩
theorem ms_J7_copyOfRange_39247 : MS yJ7_copyOfRange_39247 := tb (i := 1127) (by decide +kernel)
theorem mk_J7_copyOfRangeByte_39247 : MK yJ7_copyOfRangeByte_39247 cJ7_copyOfRangeByte_39247 5 (some (.array .byte)) 3 := ⟨tb (i := 1131) (by decide +kernel), tb (i := 22) (by decide +kernel), by decide +kernel⟩
theorem ms_J7_copyOfRangeByte_39247 : MS yJ7_copyOfRangeByte_39247 := tb (i := 1130) (by decide +kernel)
theorem mk_J7_checkLength_df160 : MK yJ7_checkLength_df160 cJ7_checkLength_df160 2 none 2 := ⟨tb (i := 1134) (by decide +kernel), tb (i := 22) (by decide +kernel), by decide +kernel⟩
theorem ms_J7_checkLength_df160 : MS yJ7_checkLength_df160 := tb (i := 1133) (by decide +kernel)
theorem mk_J2_compress_39247 : MK yJ2_compress_39247 cJ2_compress_39247 6 (some (.array .byte)) 3 := ⟨tb (i := 1137) (by decide +kernel), tb (i := 26) (by decide +kernel), by decide +kernel⟩
theorem ms_J2_compress_39247 : MS yJ2_compress_39247 := tb (i := 1136) (by decide +kernel)
theorem mk_J2_compress_5af95 : MK yJ2_compress_5af95 cJ2_compress_5af95 7 (some .int) 5 := ⟨tb (i := 1140) (by decide +kernel), tb (i := 26) (by decide +kernel), by decide +kernel⟩
theorem ms_J2_compress_5af95 : MS yJ2_compress_5af95 := tb (i := 1139) (by decide +kernel)
theorem mk_J2_getChar_3b067 : MK yJ2_getChar_3b067 cJ2_getChar_3b067 2 (some .char) 2 := ⟨tb (i := 1143) (by decide +kernel), tb (i := 26) (by decide +kernel), by decide +kernel⟩
theorem ms_J2_getChar_3b067 : MS yJ2_getChar_3b067 := tb (i := 1142) (by decide +kernel)
theorem mk_J2_coderFromArrayLen_85cad : MK yJ2_coderFromArrayLen_85cad cJ2_coderFromArrayLen_85cad 2 (some .byte) 2 := ⟨tb (i := 1147) (by decide +kernel), tb (i := 26) (by decide +kernel), by decide +kernel⟩
theorem ms_J2_coderFromArrayLen_85cad : MS yJ2_coderFromArrayLen_85cad := tb (i := 1146) (by decide +kernel)
theorem mk_L_fill : MK yL_fill cL_fill 5 (some .boolean) 2 := ⟨tb (i := 1161) (by decide +kernel), tb (i := 0) (by decide +kernel), by decide +kernel⟩
theorem ms_L_fill : MS yL_fill := tb (i := 1160) (by decide +kernel)
theorem mk_J0_charAt_5068e : MK yJ0_charAt_5068e cJ0_charAt_5068e 2 (some .char) 1 := ⟨tb (i := 1166) (by decide +kernel), tb (i := 25) (by decide +kernel), by decide +kernel⟩
theorem mi_J0_charAt_5068e : MI yJ0_charAt_5068e := ⟨tb (i := 1164) (by decide +kernel), tb (i := 1165) (by decide +kernel)⟩
theorem mk_J0_isLatin1_aae02 : MK yJ0_isLatin1_aae02 cJ0_isLatin1_aae02 1 (some .boolean) 0 := ⟨tb (i := 1170) (by decide +kernel), tb (i := 25) (by decide +kernel), by decide +kernel⟩
theorem mi_J0_isLatin1_aae02 : MI yJ0_isLatin1_aae02 := ⟨tb (i := 1168) (by decide +kernel), tb (i := 1169) (by decide +kernel)⟩
theorem mk_J1_charAt_3b067 : MK yJ1_charAt_3b067 cJ1_charAt_3b067 2 (some .char) 2 := ⟨tb (i := 1173) (by decide +kernel), tb (i := 28) (by decide +kernel), by decide +kernel⟩
theorem ms_J1_charAt_3b067 : MS yJ1_charAt_3b067 := tb (i := 1172) (by decide +kernel)
theorem mk_J2_charAt_3b067 : MK yJ2_charAt_3b067 cJ2_charAt_3b067 2 (some .char) 2 := ⟨tb (i := 1177) (by decide +kernel), tb (i := 26) (by decide +kernel), by decide +kernel⟩
theorem ms_J2_charAt_3b067 : MS yJ2_charAt_3b067 := tb (i := 1176) (by decide +kernel)
theorem mk_X11_feed : MK yX11_feed cX11_feed 6 (some .int) 5 := ⟨tb (i := 1181) (by decide +kernel), tb (i := 1) (by decide +kernel), by decide +kernel⟩
theorem mi_X11_feed : MI yX11_feed := ⟨tb (i := 1179) (by decide +kernel), tb (i := 1180) (by decide +kernel)⟩
theorem mk_X9_append : MK yX9_append cX9_append 3 none 1 := ⟨tb (i := 1185) (by decide +kernel), tb (i := 2) (by decide +kernel), by decide +kernel⟩
theorem mi_X9_append : MI yX9_append := ⟨tb (i := 1183) (by decide +kernel), tb (i := 1184) (by decide +kernel)⟩
theorem mk_X11_truncate : MK yX11_truncate cX11_truncate 2 (some .int) 1 := ⟨tb (i := 1189) (by decide +kernel), tb (i := 1) (by decide +kernel), by decide +kernel⟩
theorem mi_X11_truncate : MI yX11_truncate := ⟨tb (i := 1187) (by decide +kernel), tb (i := 1188) (by decide +kernel)⟩
theorem mk_X11_load : MK yX11_load cX11_load 2 (some .int) 0 := ⟨tb (i := 1193) (by decide +kernel), tb (i := 1) (by decide +kernel), by decide +kernel⟩
theorem mi_X11_load : MI yX11_load := ⟨tb (i := 1191) (by decide +kernel), tb (i := 1192) (by decide +kernel)⟩
theorem mk_X5_read : MK yX5_read cX5_read 3 none 1 := ⟨tb (i := 1197) (by decide +kernel), tb (i := 3) (by decide +kernel), by decide +kernel⟩
theorem mi_X5_read : MI yX5_read := ⟨tb (i := 1195) (by decide +kernel), tb (i := 1196) (by decide +kernel)⟩
theorem mk_X5_begin : MK yX5_begin cX5_begin 1 none 0 := ⟨tb (i := 1201) (by decide +kernel), tb (i := 3) (by decide +kernel), by decide +kernel⟩
theorem mi_X5_begin : MI yX5_begin := ⟨tb (i := 1200) (by decide +kernel), pb (i := 16) (by decide +kernel)⟩
theorem mk_X7_clear : MK yX7_clear cX7_clear 1 none 0 := ⟨tb (i := 1205) (by decide +kernel), tb (i := 4) (by decide +kernel), by decide +kernel⟩
theorem mi_X7_clear : MI yX7_clear := ⟨tb (i := 1203) (by decide +kernel), tb (i := 1204) (by decide +kernel)⟩
theorem mk_X6_begin : MK yX6_begin cX6_begin 1 none 0 := ⟨tb (i := 1209) (by decide +kernel), tb (i := 6) (by decide +kernel), by decide +kernel⟩
theorem mi_X6_begin : MI yX6_begin := ⟨tb (i := 1207) (by decide +kernel), tb (i := 1208) (by decide +kernel)⟩
theorem mk_X6_scan : MK yX6_scan cX6_scan 3 none 1 := ⟨tb (i := 1213) (by decide +kernel), tb (i := 6) (by decide +kernel), by decide +kernel⟩
theorem mi_X6_scan : MI yX6_scan := ⟨tb (i := 1211) (by decide +kernel), tb (i := 1212) (by decide +kernel)⟩
theorem mk_X6_skipSpaces : MK yX6_skipSpaces cX6_skipSpaces 2 none 1 := ⟨tb (i := 1217) (by decide +kernel), tb (i := 6) (by decide +kernel), by decide +kernel⟩
theorem mi_X6_skipSpaces : MI yX6_skipSpaces := ⟨tb (i := 1216) (by decide +kernel), pb (i := 17) (by decide +kernel)⟩
theorem mk_X9_byteAt : MK yX9_byteAt cX9_byteAt 2 (some .int) 1 := ⟨tb (i := 1221) (by decide +kernel), tb (i := 2) (by decide +kernel), by decide +kernel⟩
theorem mi_X9_byteAt : MI yX9_byteAt := ⟨tb (i := 1219) (by decide +kernel), tb (i := 1220) (by decide +kernel)⟩
theorem mk_X6_isLetter : MK yX6_isLetter cX6_isLetter 1 (some .boolean) 1 := ⟨tb (i := 1224) (by decide +kernel), tb (i := 6) (by decide +kernel), by decide +kernel⟩
theorem ms_X6_isLetter : MS yX6_isLetter := tb (i := 1223) (by decide +kernel)
theorem mk_X6_scanWord : MK yX6_scanWord cX6_scanWord 2 none 1 := ⟨tb (i := 1228) (by decide +kernel), tb (i := 6) (by decide +kernel), by decide +kernel⟩
theorem mi_X6_scanWord : MI yX6_scanWord := ⟨tb (i := 1227) (by decide +kernel), pb (i := 18) (by decide +kernel)⟩
theorem mk_X11_withLetter : MK yX11_withLetter cX11_withLetter 4 (some .long) 3 := ⟨tb (i := 1231) (by decide +kernel), tb (i := 1) (by decide +kernel), by decide +kernel⟩
theorem ms_X11_withLetter : MS yX11_withLetter := tb (i := 1230) (by decide +kernel)
theorem mk_X11_keywordOf : MK yX11_keywordOf cX11_keywordOf 7 (some .int) 1 := ⟨tb (i := 1234) (by decide +kernel), tb (i := 1) (by decide +kernel), by decide +kernel⟩
theorem ms_X11_keywordOf : MS yX11_keywordOf := tb (i := 1233) (by decide +kernel)
theorem mk_X11_keywordText : MK yX11_keywordText cX11_keywordText 1 (some (.object "java/lang/String")) 1 := ⟨tb (i := 1237) (by decide +kernel), tb (i := 1) (by decide +kernel), by decide +kernel⟩
theorem ms_X11_keywordText : MS yX11_keywordText := tb (i := 1236) (by decide +kernel)
theorem mk_X6_isDigit : MK yX6_isDigit cX6_isDigit 1 (some .boolean) 1 := ⟨tb (i := 1256) (by decide +kernel), tb (i := 6) (by decide +kernel), by decide +kernel⟩
theorem ms_X6_isDigit : MS yX6_isDigit := tb (i := 1255) (by decide +kernel)
theorem mk_X6_scanNumber : MK yX6_scanNumber cX6_scanNumber 2 none 1 := ⟨tb (i := 1260) (by decide +kernel), tb (i := 6) (by decide +kernel), by decide +kernel⟩
theorem mi_X6_scanNumber : MI yX6_scanNumber := ⟨tb (i := 1259) (by decide +kernel), pb (i := 19) (by decide +kernel)⟩
theorem mk_X5_take : MK yX5_take cX5_take 1 (some .int) 0 := ⟨tb (i := 1264) (by decide +kernel), tb (i := 3) (by decide +kernel), by decide +kernel⟩
theorem mi_X5_take : MI yX5_take := ⟨tb (i := 1263) (by decide +kernel), pb (i := 20) (by decide +kernel)⟩
theorem mk_X5_takeStatement : MK yX5_takeStatement cX5_takeStatement 1 (some .int) 0 := ⟨tb (i := 1268) (by decide +kernel), tb (i := 3) (by decide +kernel), by decide +kernel⟩
theorem mi_X5_takeStatement : MI yX5_takeStatement := ⟨tb (i := 1267) (by decide +kernel), pb (i := 21) (by decide +kernel)⟩
theorem mk_X5_takeNodeName : MK yX5_takeNodeName cX5_takeNodeName 1 (some .int) 0 := ⟨tb (i := 1272) (by decide +kernel), tb (i := 3) (by decide +kernel), by decide +kernel⟩
theorem mi_X5_takeNodeName : MI yX5_takeNodeName := ⟨tb (i := 1271) (by decide +kernel), pb (i := 22) (by decide +kernel)⟩
end
section
theorem mk_X5_isName : MK yX5_isName cX5_isName 1 (some .boolean) 0 := ⟨tb (i := 1276) (by decide +kernel), tb (i := 3) (by decide +kernel), by decide +kernel⟩
theorem mi_X5_isName : MI yX5_isName := ⟨tb (i := 1275) (by decide +kernel), pb (i := 23) (by decide +kernel)⟩
theorem mk_X7_findNode : MK yX7_findNode cX7_findNode 4 (some .int) 1 := ⟨tb (i := 1280) (by decide +kernel), tb (i := 4) (by decide +kernel), by decide +kernel⟩
theorem mi_X7_findNode : MI yX7_findNode := ⟨tb (i := 1278) (by decide +kernel), tb (i := 1279) (by decide +kernel)⟩
theorem mk_X5_addNode : MK yX5_addNode cX5_addNode 2 none 1 := ⟨tb (i := 1284) (by decide +kernel), tb (i := 3) (by decide +kernel), by decide +kernel⟩
theorem mi_X5_addNode : MI yX5_addNode := ⟨tb (i := 1283) (by decide +kernel), pb (i := 24) (by decide +kernel)⟩
theorem mk_X7_addNode : MK yX7_addNode cX7_addNode 6 none 2 := ⟨tb (i := 1288) (by decide +kernel), tb (i := 4) (by decide +kernel), by decide +kernel⟩
theorem mi_X7_addNode : MI yX7_addNode := ⟨tb (i := 1286) (by decide +kernel), tb (i := 1287) (by decide +kernel)⟩
theorem mk_X7_row : MK yX7_row cX7_row 2 (some (.array .int)) 1 := ⟨tb (i := 1292) (by decide +kernel), tb (i := 4) (by decide +kernel), by decide +kernel⟩
theorem mi_X7_row : MI yX7_row := ⟨tb (i := 1290) (by decide +kernel), tb (i := 1291) (by decide +kernel)⟩
theorem mk_X5_takeIn : MK yX5_takeIn cX5_takeIn 1 (some .int) 0 := ⟨tb (i := 1298) (by decide +kernel), tb (i := 3) (by decide +kernel), by decide +kernel⟩
theorem mi_X5_takeIn : MI yX5_takeIn := ⟨tb (i := 1297) (by decide +kernel), pb (i := 25) (by decide +kernel)⟩
theorem mk_X5_takeParentName : MK yX5_takeParentName cX5_takeParentName 2 (some .int) 0 := ⟨tb (i := 1302) (by decide +kernel), tb (i := 3) (by decide +kernel), by decide +kernel⟩
theorem mi_X5_takeParentName : MI yX5_takeParentName := ⟨tb (i := 1301) (by decide +kernel), pb (i := 26) (by decide +kernel)⟩
theorem mk_X5_takeSetting : MK yX5_takeSetting cX5_takeSetting 2 (some .int) 0 := ⟨tb (i := 1306) (by decide +kernel), tb (i := 3) (by decide +kernel), by decide +kernel⟩
theorem mi_X5_takeSetting : MI yX5_takeSetting := ⟨tb (i := 1305) (by decide +kernel), pb (i := 27) (by decide +kernel)⟩
theorem mk_X5_finishNode : MK yX5_finishNode cX5_finishNode 2 none 0 := ⟨tb (i := 1310) (by decide +kernel), tb (i := 3) (by decide +kernel), by decide +kernel⟩
theorem mi_X5_finishNode : MI yX5_finishNode := ⟨tb (i := 1309) (by decide +kernel), pb (i := 28) (by decide +kernel)⟩
theorem mk_X5_takeSettingValue : MK yX5_takeSettingValue cX5_takeSettingValue 3 (some .int) 0 := ⟨tb (i := 1315) (by decide +kernel), tb (i := 3) (by decide +kernel), by decide +kernel⟩
theorem mi_X5_takeSettingValue : MI yX5_takeSettingValue := ⟨tb (i := 1314) (by decide +kernel), pb (i := 29) (by decide +kernel)⟩
theorem mk_X5_numberFault : MK yX5_numberFault cX5_numberFault 2 (some .int) 1 := ⟨tb (i := 1319) (by decide +kernel), tb (i := 3) (by decide +kernel), by decide +kernel⟩
theorem mi_X5_numberFault : MI yX5_numberFault := ⟨tb (i := 1318) (by decide +kernel), pb (i := 30) (by decide +kernel)⟩
theorem mk_X5_takeLimit : MK yX5_takeLimit cX5_takeLimit 1 (some .int) 0 := ⟨tb (i := 1325) (by decide +kernel), tb (i := 3) (by decide +kernel), by decide +kernel⟩
theorem mi_X5_takeLimit : MI yX5_takeLimit := ⟨tb (i := 1324) (by decide +kernel), pb (i := 31) (by decide +kernel)⟩
theorem mk_X5_numberFault_ : MK yX5_numberFault_ cX5_numberFault_ 3 (some .int) 2 := ⟨tb (i := 1329) (by decide +kernel), tb (i := 3) (by decide +kernel), by decide +kernel⟩
theorem mi_X5_numberFault_ : MI yX5_numberFault_ := ⟨tb (i := 1328) (by decide +kernel), pb (i := 32) (by decide +kernel)⟩
theorem mk_X5_takeAge : MK yX5_takeAge cX5_takeAge 1 (some .int) 0 := ⟨tb (i := 1333) (by decide +kernel), tb (i := 3) (by decide +kernel), by decide +kernel⟩
theorem mi_X5_takeAge : MI yX5_takeAge := ⟨tb (i := 1332) (by decide +kernel), pb (i := 33) (by decide +kernel)⟩
theorem mk_X5_takeChangeTime : MK yX5_takeChangeTime cX5_takeChangeTime 1 (some .int) 0 := ⟨tb (i := 1337) (by decide +kernel), tb (i := 3) (by decide +kernel), by decide +kernel⟩
theorem mi_X5_takeChangeTime : MI yX5_takeChangeTime := ⟨tb (i := 1336) (by decide +kernel), pb (i := 34) (by decide +kernel)⟩
theorem mk_X5_takeChangeName : MK yX5_takeChangeName cX5_takeChangeName 1 (some .int) 0 := ⟨tb (i := 1341) (by decide +kernel), tb (i := 3) (by decide +kernel), by decide +kernel⟩
theorem mi_X5_takeChangeName : MI yX5_takeChangeName := ⟨tb (i := 1340) (by decide +kernel), pb (i := 35) (by decide +kernel)⟩
theorem mk_X5_takeChangeSetting : MK yX5_takeChangeSetting cX5_takeChangeSetting 1 (some .int) 0 := ⟨tb (i := 1345) (by decide +kernel), tb (i := 3) (by decide +kernel), by decide +kernel⟩
theorem mi_X5_takeChangeSetting : MI yX5_takeChangeSetting := ⟨tb (i := 1344) (by decide +kernel), pb (i := 36) (by decide +kernel)⟩
theorem mk_X5_takeChangeValue : MK yX5_takeChangeValue cX5_takeChangeValue 2 (some .int) 0 := ⟨tb (i := 1349) (by decide +kernel), tb (i := 3) (by decide +kernel), by decide +kernel⟩
theorem mi_X5_takeChangeValue : MI yX5_takeChangeValue := ⟨tb (i := 1348) (by decide +kernel), pb (i := 37) (by decide +kernel)⟩
theorem mk_X1_add : MK yX1_add cX1_add 5 none 4 := ⟨tb (i := 1353) (by decide +kernel), tb (i := 5) (by decide +kernel), by decide +kernel⟩
theorem mi_X1_add : MI yX1_add := ⟨tb (i := 1351) (by decide +kernel), tb (i := 1352) (by decide +kernel)⟩
theorem mk_X5_takeStatementEnd : MK yX5_takeStatementEnd cX5_takeStatementEnd 1 (some .int) 0 := ⟨tb (i := 1357) (by decide +kernel), tb (i := 3) (by decide +kernel), by decide +kernel⟩
theorem mi_X5_takeStatementEnd : MI yX5_takeStatementEnd := ⟨tb (i := 1356) (by decide +kernel), pb (i := 38) (by decide +kernel)⟩
theorem mk_X8_begin : MK yX8_begin cX8_begin 2 none 1 := ⟨tb (i := 1361) (by decide +kernel), tb (i := 8) (by decide +kernel), by decide +kernel⟩
theorem mi_X8_begin : MI yX8_begin := ⟨tb (i := 1359) (by decide +kernel), tb (i := 1360) (by decide +kernel)⟩
theorem mk_X11_copyRow : MK yX11_copyRow cX11_copyRow 2 none 2 := ⟨tb (i := 1364) (by decide +kernel), tb (i := 1) (by decide +kernel), by decide +kernel⟩
theorem ms_X11_copyRow : MS yX11_copyRow := tb (i := 1363) (by decide +kernel)
theorem mk_X0_begin : MK yX0_begin cX0_begin 2 none 1 := ⟨tb (i := 1370) (by decide +kernel), tb (i := 9) (by decide +kernel), by decide +kernel⟩
theorem mi_X0_begin : MI yX0_begin := ⟨tb (i := 1368) (by decide +kernel), tb (i := 1369) (by decide +kernel)⟩
theorem mk_X11_clearRow : MK yX11_clearRow cX11_clearRow 2 none 1 := ⟨tb (i := 1374) (by decide +kernel), tb (i := 1) (by decide +kernel), by decide +kernel⟩
theorem ms_X11_clearRow : MS yX11_clearRow := tb (i := 1373) (by decide +kernel)
theorem mk_X4_begin : MK yX4_begin cX4_begin 1 none 0 := ⟨tb (i := 1378) (by decide +kernel), tb (i := 10) (by decide +kernel), by decide +kernel⟩
theorem mi_X4_begin : MI yX4_begin := ⟨tb (i := 1376) (by decide +kernel), tb (i := 1377) (by decide +kernel)⟩
theorem mk_X2_begin : MK yX2_begin cX2_begin 1 none 0 := ⟨tb (i := 1383) (by decide +kernel), tb (i := 11) (by decide +kernel), by decide +kernel⟩
theorem mi_X2_begin : MI yX2_begin := ⟨tb (i := 1381) (by decide +kernel), tb (i := 1382) (by decide +kernel)⟩
theorem mk_X11_faultCode : MK yX11_faultCode cX11_faultCode 1 (some .int) 0 := ⟨tb (i := 1388) (by decide +kernel), tb (i := 1) (by decide +kernel), by decide +kernel⟩
theorem mi_X11_faultCode : MI yX11_faultCode := ⟨tb (i := 1386) (by decide +kernel), tb (i := 1387) (by decide +kernel)⟩
theorem mk_X11_faultPosition : MK yX11_faultPosition cX11_faultPosition 1 (some .int) 0 := ⟨tb (i := 1392) (by decide +kernel), tb (i := 1) (by decide +kernel), by decide +kernel⟩
theorem mi_X11_faultPosition : MI yX11_faultPosition := ⟨tb (i := 1390) (by decide +kernel), tb (i := 1391) (by decide +kernel)⟩
theorem mk_L_same : MK yL_same cL_same 4 (some .boolean) 2 := ⟨tb (i := 1395) (by decide +kernel), tb (i := 0) (by decide +kernel), by decide +kernel⟩
theorem ms_L_same : MS yL_same := tb (i := 1394) (by decide +kernel)
theorem mk_X11_credit : MK yX11_credit cX11_credit 2 (some .int) 1 := ⟨tb (i := 1400) (by decide +kernel), tb (i := 1) (by decide +kernel), by decide +kernel⟩
theorem mi_X11_credit : MI yX11_credit := ⟨tb (i := 1398) (by decide +kernel), tb (i := 1399) (by decide +kernel)⟩
theorem mk_X11_headroom : MK yX11_headroom cX11_headroom 2 (some .int) 1 := ⟨tb (i := 1404) (by decide +kernel), tb (i := 1) (by decide +kernel), by decide +kernel⟩
theorem mi_X11_headroom : MI yX11_headroom := ⟨tb (i := 1402) (by decide +kernel), tb (i := 1403) (by decide +kernel)⟩
theorem mk_X11_lentCost : MK yX11_lentCost cX11_lentCost 2 (some .int) 1 := ⟨tb (i := 1408) (by decide +kernel), tb (i := 1) (by decide +kernel), by decide +kernel⟩
theorem mi_X11_lentCost : MI yX11_lentCost := ⟨tb (i := 1406) (by decide +kernel), tb (i := 1407) (by decide +kernel)⟩
theorem mk_X11_sentCost : MK yX11_sentCost cX11_sentCost 2 (some .int) 1 := ⟨tb (i := 1413) (by decide +kernel), tb (i := 1) (by decide +kernel), by decide +kernel⟩
theorem mi_X11_sentCost : MI yX11_sentCost := ⟨tb (i := 1411) (by decide +kernel), tb (i := 1412) (by decide +kernel)⟩
theorem mk_X11_queueLength : MK yX11_queueLength cX11_queueLength 2 (some .int) 1 := ⟨tb (i := 1417) (by decide +kernel), tb (i := 1) (by decide +kernel), by decide +kernel⟩
theorem mi_X11_queueLength : MI yX11_queueLength := ⟨tb (i := 1415) (by decide +kernel), tb (i := 1416) (by decide +kernel)⟩
theorem mk_X11_sentCount : MK yX11_sentCount cX11_sentCount 2 (some .int) 1 := ⟨tb (i := 1421) (by decide +kernel), tb (i := 1) (by decide +kernel), by decide +kernel⟩
theorem mi_X11_sentCount : MI yX11_sentCount := ⟨tb (i := 1419) (by decide +kernel), tb (i := 1420) (by decide +kernel)⟩
theorem mk_X11_borrowedCost : MK yX11_borrowedCost cX11_borrowedCost 2 (some .int) 1 := ⟨tb (i := 1425) (by decide +kernel), tb (i := 1) (by decide +kernel), by decide +kernel⟩
theorem mi_X11_borrowedCost : MI yX11_borrowedCost := ⟨tb (i := 1423) (by decide +kernel), tb (i := 1424) (by decide +kernel)⟩
theorem mk_X11_droppedCount : MK yX11_droppedCount cX11_droppedCount 2 (some .int) 1 := ⟨tb (i := 1429) (by decide +kernel), tb (i := 1) (by decide +kernel), by decide +kernel⟩
theorem mi_X11_droppedCount : MI yX11_droppedCount := ⟨tb (i := 1427) (by decide +kernel), tb (i := 1428) (by decide +kernel)⟩
theorem mk_Jx4a65c_size_8abf5 : MK yJx4a65c_size_8abf5 cJx4a65c_size_8abf5 1 (some .int) 0 := ⟨tb (i := 1435) (by decide +kernel), tb (i := 20) (by decide +kernel), by decide +kernel⟩
theorem mi_Jx4a65c_size_8abf5 : MI yJx4a65c_size_8abf5 := ⟨tb (i := 1433) (by decide +kernel), tb (i := 1434) (by decide +kernel)⟩
theorem mk_L_tree : MK yL_tree cL_tree 8 (some .boolean) 2 := ⟨tb (i := 1438) (by decide +kernel), tb (i := 0) (by decide +kernel), by decide +kernel⟩
theorem ms_L_tree : MS yL_tree := tb (i := 1437) (by decide +kernel)
theorem mk_X11_parent : MK yX11_parent cX11_parent 2 (some .int) 1 := ⟨tb (i := 1442) (by decide +kernel), tb (i := 1) (by decide +kernel), by decide +kernel⟩
theorem mi_X11_parent : MI yX11_parent := ⟨tb (i := 1440) (by decide +kernel), tb (i := 1441) (by decide +kernel)⟩
theorem mk_X11_child : MK yX11_child cX11_child 3 (some .int) 2 := ⟨tb (i := 1446) (by decide +kernel), tb (i := 1) (by decide +kernel), by decide +kernel⟩
theorem mi_X11_child : MI yX11_child := ⟨tb (i := 1444) (by decide +kernel), tb (i := 1445) (by decide +kernel)⟩
theorem mk_X7_childOf : MK yX7_childOf cX7_childOf 5 (some .int) 2 := ⟨tb (i := 1450) (by decide +kernel), tb (i := 4) (by decide +kernel), by decide +kernel⟩
theorem mi_X7_childOf : MI yX7_childOf := ⟨tb (i := 1448) (by decide +kernel), tb (i := 1449) (by decide +kernel)⟩
theorem mk_X11_depth : MK yX11_depth cX11_depth 2 (some .int) 1 := ⟨tb (i := 1455) (by decide +kernel), tb (i := 1) (by decide +kernel), by decide +kernel⟩
theorem mi_X11_depth : MI yX11_depth := ⟨tb (i := 1453) (by decide +kernel), tb (i := 1454) (by decide +kernel)⟩
theorem mk_X11_rate : MK yX11_rate cX11_rate 2 (some .int) 1 := ⟨tb (i := 1459) (by decide +kernel), tb (i := 1) (by decide +kernel), by decide +kernel⟩
theorem mi_X11_rate : MI yX11_rate := ⟨tb (i := 1457) (by decide +kernel), tb (i := 1458) (by decide +kernel)⟩
theorem mk_X11_ceiling : MK yX11_ceiling cX11_ceiling 2 (some .int) 1 := ⟨tb (i := 1463) (by decide +kernel), tb (i := 1) (by decide +kernel), by decide +kernel⟩
theorem mi_X11_ceiling : MI yX11_ceiling := ⟨tb (i := 1461) (by decide +kernel), tb (i := 1462) (by decide +kernel)⟩
theorem mk_X11_burst : MK yX11_burst cX11_burst 2 (some .int) 1 := ⟨tb (i := 1467) (by decide +kernel), tb (i := 1) (by decide +kernel), by decide +kernel⟩
theorem mi_X11_burst : MI yX11_burst := ⟨tb (i := 1465) (by decide +kernel), tb (i := 1466) (by decide +kernel)⟩
theorem mk_X11_creditLimit : MK yX11_creditLimit cX11_creditLimit 2 (some .int) 1 := ⟨tb (i := 1471) (by decide +kernel), tb (i := 1) (by decide +kernel), by decide +kernel⟩
theorem mi_X11_creditLimit : MI yX11_creditLimit := ⟨tb (i := 1469) (by decide +kernel), tb (i := 1470) (by decide +kernel)⟩
theorem mk_X11_weight : MK yX11_weight cX11_weight 2 (some .int) 1 := ⟨tb (i := 1475) (by decide +kernel), tb (i := 1) (by decide +kernel), by decide +kernel⟩
theorem mi_X11_weight : MI yX11_weight := ⟨tb (i := 1473) (by decide +kernel), tb (i := 1474) (by decide +kernel)⟩
theorem mk_X11_priority : MK yX11_priority cX11_priority 2 (some .int) 1 := ⟨tb (i := 1479) (by decide +kernel), tb (i := 1) (by decide +kernel), by decide +kernel⟩
theorem mi_X11_priority : MI yX11_priority := ⟨tb (i := 1477) (by decide +kernel), tb (i := 1478) (by decide +kernel)⟩
theorem mk_X11_mayBorrow : MK yX11_mayBorrow cX11_mayBorrow 2 (some .boolean) 1 := ⟨tb (i := 1483) (by decide +kernel), tb (i := 1) (by decide +kernel), by decide +kernel⟩
theorem mi_X11_mayBorrow : MI yX11_mayBorrow := ⟨tb (i := 1481) (by decide +kernel), tb (i := 1482) (by decide +kernel)⟩
theorem mk_X11_isOversubscribed : MK yX11_isOversubscribed cX11_isOversubscribed 2 (some .boolean) 1 := ⟨tb (i := 1487) (by decide +kernel), tb (i := 1) (by decide +kernel), by decide +kernel⟩
theorem mi_X11_isOversubscribed : MI yX11_isOversubscribed := ⟨tb (i := 1485) (by decide +kernel), tb (i := 1486) (by decide +kernel)⟩
theorem mk_X8_childrenRate : MK yX8_childrenRate cX8_childrenRate 5 (some .int) 2 := ⟨tb (i := 1491) (by decide +kernel), tb (i := 8) (by decide +kernel), by decide +kernel⟩
theorem mi_X8_childrenRate : MI yX8_childrenRate := ⟨tb (i := 1489) (by decide +kernel), tb (i := 1490) (by decide +kernel)⟩
theorem mk_X11_pathCeiling : MK yX11_pathCeiling cX11_pathCeiling 2 (some .int) 1 := ⟨tb (i := 1495) (by decide +kernel), tb (i := 1) (by decide +kernel), by decide +kernel⟩
theorem mi_X11_pathCeiling : MI yX11_pathCeiling := ⟨tb (i := 1493) (by decide +kernel), tb (i := 1494) (by decide +kernel)⟩
theorem mk_X8_leastCeiling : MK yX8_leastCeiling cX8_leastCeiling 6 (some .int) 2 := ⟨tb (i := 1499) (by decide +kernel), tb (i := 8) (by decide +kernel), by decide +kernel⟩
theorem mi_X8_leastCeiling : MI yX8_leastCeiling := ⟨tb (i := 1497) (by decide +kernel), tb (i := 1498) (by decide +kernel)⟩
theorem mk_X11_nameLetter : MK yX11_nameLetter cX11_nameLetter 3 (some .int) 2 := ⟨tb (i := 1504) (by decide +kernel), tb (i := 1) (by decide +kernel), by decide +kernel⟩
theorem mi_X11_nameLetter : MI yX11_nameLetter := ⟨tb (i := 1502) (by decide +kernel), tb (i := 1503) (by decide +kernel)⟩
theorem mk_X11_letterOf : MK yX11_letterOf cX11_letterOf 3 (some .int) 2 := ⟨tb (i := 1507) (by decide +kernel), tb (i := 1) (by decide +kernel), by decide +kernel⟩
theorem ms_X11_letterOf : MS yX11_letterOf := tb (i := 1506) (by decide +kernel)
theorem mk_L_asked : MK yL_asked cL_asked 12 (some .boolean) 4 := ⟨tb (i := 1510) (by decide +kernel), tb (i := 0) (by decide +kernel), by decide +kernel⟩
theorem ms_L_asked : MS yL_asked := tb (i := 1509) (by decide +kernel)
theorem mk_X11_blockingNode : MK yX11_blockingNode cX11_blockingNode 3 (some .int) 2 := ⟨tb (i := 1514) (by decide +kernel), tb (i := 1) (by decide +kernel), by decide +kernel⟩
theorem mi_X11_blockingNode : MI yX11_blockingNode := ⟨tb (i := 1512) (by decide +kernel), tb (i := 1513) (by decide +kernel)⟩
theorem mk_X0_findBlocking : MK yX0_findBlocking cX0_findBlocking 6 (some .int) 3 := ⟨tb (i := 1518) (by decide +kernel), tb (i := 9) (by decide +kernel), by decide +kernel⟩
theorem mi_X0_findBlocking : MI yX0_findBlocking := ⟨tb (i := 1516) (by decide +kernel), tb (i := 1517) (by decide +kernel)⟩
theorem mk_X11_greatestCost : MK yX11_greatestCost cX11_greatestCost 3 (some .int) 1 := ⟨tb (i := 1522) (by decide +kernel), tb (i := 1) (by decide +kernel), by decide +kernel⟩
theorem mi_X11_greatestCost : MI yX11_greatestCost := ⟨tb (i := 1520) (by decide +kernel), tb (i := 1521) (by decide +kernel)⟩
theorem mk_X11_refusal : MK yX11_refusal cX11_refusal 3 (some .int) 2 := ⟨tb (i := 1526) (by decide +kernel), tb (i := 1) (by decide +kernel), by decide +kernel⟩
theorem mi_X11_refusal : MI yX11_refusal := ⟨tb (i := 1524) (by decide +kernel), tb (i := 1525) (by decide +kernel)⟩
theorem mk_X11_waitTime : MK yX11_waitTime cX11_waitTime 3 (some .int) 2 := ⟨tb (i := 1537) (by decide +kernel), tb (i := 1) (by decide +kernel), by decide +kernel⟩
theorem mi_X11_waitTime : MI yX11_waitTime := ⟨tb (i := 1535) (by decide +kernel), tb (i := 1536) (by decide +kernel)⟩
theorem mk_X8_ticksUntilLender : MK yX8_ticksUntilLender cX8_ticksUntilLender 13 (some .int) 3 := ⟨tb (i := 1541) (by decide +kernel), tb (i := 8) (by decide +kernel), by decide +kernel⟩
theorem mi_X8_ticksUntilLender : MI yX8_ticksUntilLender := ⟨tb (i := 1539) (by decide +kernel), tb (i := 1540) (by decide +kernel)⟩
theorem mk_X8_ticksUntil : MK yX8_ticksUntil cX8_ticksUntil 4 (some .int) 4 := ⟨tb (i := 1544) (by decide +kernel), tb (i := 8) (by decide +kernel), by decide +kernel⟩
theorem ms_X8_ticksUntil : MS yX8_ticksUntil := tb (i := 1543) (by decide +kernel)
theorem mk_L_back : MK yL_back cL_back 4 none 2 := ⟨tb (i := 1548) (by decide +kernel), tb (i := 0) (by decide +kernel), by decide +kernel⟩
theorem ms_L_back : MS yL_back := tb (i := 1547) (by decide +kernel)
theorem mk_X11_repeats : MK yX11_repeats cX11_repeats 3 (some .int) 2 := ⟨tb (i := 1553) (by decide +kernel), tb (i := 1) (by decide +kernel), by decide +kernel⟩
theorem mi_X11_repeats : MI yX11_repeats := ⟨tb (i := 1551) (by decide +kernel), tb (i := 1552) (by decide +kernel)⟩
theorem mk_X0_copyFrom : MK yX0_copyFrom cX0_copyFrom 2 none 1 := ⟨tb (i := 1557) (by decide +kernel), tb (i := 9) (by decide +kernel), by decide +kernel⟩
theorem mi_X0_copyFrom : MI yX0_copyFrom := ⟨tb (i := 1555) (by decide +kernel), tb (i := 1556) (by decide +kernel)⟩
theorem mk_X0_payOften : MK yX0_payOften cX0_payOften 6 (some .int) 3 := ⟨tb (i := 1561) (by decide +kernel), tb (i := 9) (by decide +kernel), by decide +kernel⟩
theorem mi_X0_payOften : MI yX0_payOften := ⟨tb (i := 1559) (by decide +kernel), tb (i := 1560) (by decide +kernel)⟩
theorem li_L_135 : LK RL 135 yX11_init := tb (i := 33) (by decide +kernel)
theorem li_X11_9 : LN RX11 9 yX9_init "RateLimiter" := nb (i := 41) (by decide +kernel)
theorem li_X11_18 : LN RX11 18 yX5_init "RateLimiter" := nb (i := 57) (by decide +kernel)
theorem li_X5_17 : LN RX5 17 yX7_init "RateLimiter" := nb (i := 63) (by decide +kernel)
theorem li_X7_49 : LN RX7 49 yX1_init "RateLimiter" := nb (i := 69) (by decide +kernel)
theorem li_X5_24 : LN RX5 24 yX6_init "RateLimiter" := nb (i := 178) (by decide +kernel)
theorem li_X11_25 : LN RX11 25 yX10_init "RateLimiter" := nb (i := 245) (by decide +kernel)
theorem li_X11_32 : LN RX11 32 yX7_init "RateLimiter" := nb (i := 259) (by decide +kernel)
theorem li_X11_39 : LN RX11 39 yX8_init "RateLimiter" := nb (i := 262) (by decide +kernel)
theorem li_X8_23 : LN RX8 23 yX0_init "RateLimiter" := nb (i := 268) (by decide +kernel)
theorem li_X8_30 : LN RX8 30 yX4_init "RateLimiter" := nb (i := 290) (by decide +kernel)
theorem li_X8_37 : LN RX8 37 yX2_init "RateLimiter" := nb (i := 316) (by decide +kernel)
theorem li_X8_44 : LN RX8 44 yX3_init "RateLimiter" := nb (i := 345) (by decide +kernel)
theorem li_L_136 : LK RL 136 yX11_nodeCount := tb (i := 432) (by decide +kernel)
theorem li_L_100 : LK RL 100 yX11_isLeaf := tb (i := 436) (by decide +kernel)
theorem li_X11_105 : LK RX11 105 yX7_hasLeaf := tb (i := 440) (by decide +kernel)
theorem li_X7_67 : LK RX7 67 yX7_hasNode := tb (i := 444) (by decide +kernel)
theorem li_L_56 : LK RL 56 yX11_time := tb (i := 448) (by decide +kernel)
theorem li_L_67 : LK RL 67 yX11_tokens := tb (i := 452) (by decide +kernel)
theorem li_X11_85 : LK RX11 85 yX7_hasNode := tb (i := 456) (by decide +kernel)
theorem li_L_139 : LK RL 139 yX11_lender := tb (i := 457) (by decide +kernel)
theorem li_X11_158 : LK RX11 158 yX11_isRequest := tb (i := 461) (by decide +kernel)
theorem li_X11_162 : LK RX11 162 yX0_findLender := tb (i := 465) (by decide +kernel)
theorem li_X0_46 : LK RX0 46 yX7_hasNode := tb (i := 469) (by decide +kernel)
theorem li_L_143 : LK RL 143 yX11_acquire := tb (i := 470) (by decide +kernel)
theorem li_X11_166 : LK RX11 166 yX8_send := tb (i := 474) (by decide +kernel)
theorem li_X8_91 : LK RX8 91 yX7_hasNode := tb (i := 478) (by decide +kernel)
theorem li_X8_101 : LK RX8 101 yX0_pay := tb (i := 479) (by decide +kernel)
theorem li_X0_43 : LK RX0 43 yJ9_min_7cf53 := tb (i := 483) (by decide +kernel)
theorem li_X8_105 : LK RX8 105 yX2_countSent := tb (i := 486) (by decide +kernel)
theorem li_X8_109 : LK RX8 109 yX3_add := tb (i := 490) (by decide +kernel)
theorem li_X3_32 : LK RX3 32 yX3_putFirst := tb (i := 494) (by decide +kernel)
theorem li_X3_36 : LK RX3 36 yJ9_min_7cf53 := tb (i := 500) (by decide +kernel)
theorem li_X11_170 : LK RX11 170 yX7_distance := tb (i := 501) (by decide +kernel)
theorem li_L_61 : LK RL 61 yX11_nextLeaf := tb (i := 505) (by decide +kernel)
theorem li_X11_197 : LK RX11 197 yX8_chooseLeaf := tb (i := 509) (by decide +kernel)
theorem li_X8_220 : LK RX8 220 yX8_frontDistance := tb (i := 513) (by decide +kernel)
theorem li_X8_213 : LK RX8 213 yX0_findLender := tb (i := 517) (by decide +kernel)
theorem li_X8_228 : LK RX8 228 yX7_distance := tb (i := 518) (by decide +kernel)
theorem li_X8_224 : LK RX8 224 yX8_precedes := tb (i := 519) (by decide +kernel)
theorem li_X8_234 : LK RX8 234 yX8_compareServed := tb (i := 523) (by decide +kernel)
theorem li_X8_240 : LK RX8 240 yJ13_compare_74951 := tb (i := 527) (by decide +kernel)
theorem li_L_146 : LK RL 146 yX11_advance := tb (i := 530) (by decide +kernel)
theorem li_X11_217 : LK RX11 217 yX11_canAdvance := tb (i := 534) (by decide +kernel)
theorem li_X11_220 : LK RX11 220 yX8_makeTicks := tb (i := 538) (by decide +kernel)
theorem li_X8_149 : LK RX8 149 yX8_makeTick := tb (i := 542) (by decide +kernel)
theorem li_X8_153 : LK RX8 153 yX8_makeChanges := tb (i := 546) (by decide +kernel)
theorem li_X8_180 : LK RX8 180 yX8_row := tb (i := 550) (by decide +kernel)
theorem li_X8_156 : LK RX8 156 yX0_refill := tb (i := 554) (by decide +kernel)
theorem li_X0_34 : LK RX0 34 yJ9_max_7cf53 := tb (i := 558) (by decide +kernel)
theorem li_X8_159 : LK RX8 159 yX8_dropOld := tb (i := 561) (by decide +kernel)
theorem li_X8_190 : LK RX8 190 yX8_isFrontOld := tb (i := 565) (by decide +kernel)
theorem li_X8_194 : LK RX8 194 yX4_removeFront := tb (i := 569) (by decide +kernel)
theorem li_X4_36 : LK RX4 36 yX4_moveUp := tb (i := 573) (by decide +kernel)
theorem li_X8_162 : LK RX8 162 yX8_dispatch := tb (i := 578) (by decide +kernel)
theorem li_X8_207 : LK RX8 207 yX8_chooseLeaf := tb (i := 582) (by decide +kernel)
theorem li_X8_217 : LK RX8 217 yX8_send := tb (i := 583) (by decide +kernel)
theorem li_L_152 : LK RL 152 yX11_fairness := tb (i := 584) (by decide +kernel)
theorem li_X11_257 : LK RX11 257 yX11_quotient := tb (i := 589) (by decide +kernel)
theorem li_L_149 : LK RL 149 yX11_mostServed := tb (i := 593) (by decide +kernel)
theorem li_X11_263 : LK RX11 263 yX8_compareServed := tb (i := 597) (by decide +kernel)
theorem li_L_194 : LK RL 194 yX11_loggedLeaf := tb (i := 598) (by decide +kernel)
theorem li_X11_278 : LK RX11 278 yX11_logEntry := tb (i := 602) (by decide +kernel)
theorem li_L_197 : LK RL 197 yX11_loggedCost := tb (i := 606) (by decide +kernel)
theorem li_L_200 : LK RL 200 yX11_loggedLender := tb (i := 610) (by decide +kernel)
theorem li_L_203 : LK RL 203 yX11_loggedTime := tb (i := 614) (by decide +kernel)
theorem li_L_155 : LK RL 155 yX11_setRate := tb (i := 618) (by decide +kernel)
theorem li_X11_301 : LK RX11 301 yX11_change := tb (i := 622) (by decide +kernel)
theorem li_X11_309 : LK RX11 309 yX11_isInRange := tb (i := 626) (by decide +kernel)
theorem li_X11_312 : LK RX11 312 yX8_row := tb (i := 633) (by decide +kernel)
theorem li_L_162 : LK RL 162 yX12_init := tb (i := 636) (by decide +kernel)
theorem li_X12_61 : LK RX12 61 yJx4a65c_init_da8c8 := tb (i := 642) (by decide +kernel)
theorem li_Jx4a65c_1 : LK RJx4a65c 1 yJxc12de_init_da8c8 := tb (i := 645) (by decide +kernel)
theorem li_Jxc12de_1 : LK RJxc12de 1 yJxa1e45_init_da8c8 := tb (i := 648) (by decide +kernel)
theorem li_X12_66 : LN RX12 66 yL_draw "RateLimiterLaw" := nb (i := 666) (by decide +kernel)
theorem li_L_8 : LK RL 8 yL_mixed := tb (i := 669) (by decide +kernel)
theorem li_X12_91 : LK RX12 91 yJx4a65c_add_9ea2d := tb (i := 673) (by decide +kernel)
theorem li_Jx4a65c_131 : LK RJx4a65c 131 yJx4a65c_add_72be8 := tb (i := 677) (by decide +kernel)
theorem li_Jx4a65c_129 : LK RJx4a65c 129 yJx4a65c_grow_d5877 := tb (i := 681) (by decide +kernel)
theorem li_Jx4a65c_69 : LK RJx4a65c 69 yJx4a65c_grow_92f84 := tb (i := 685) (by decide +kernel)
theorem li_Jx4a65c_73 : LK RJx4a65c 73 yJ8_newLength_cabcc := tb (i := 689) (by decide +kernel)
theorem li_J8_194 : LK RJ8 194 yJ9_max_7cf53 := tb (i := 692) (by decide +kernel)
theorem li_J8_201 : LK RJ8 201 yJ8_hugeLength_7cf53 := tb (i := 694) (by decide +kernel)
theorem li_Jx4a65c_66 : LK RJx4a65c 66 yJ7_copyOf_1904c := tb (i := 697) (by decide +kernel)
theorem li_J7_300 : LK RJ7 300 yJ7_copyOf_6403c := tb (i := 720) (by decide +kernel)
theorem li_J7_304 : LK RJ7 304 yJ9_min_7cf53 := tb (i := 726) (by decide +kernel)
theorem li_Jx4a65c_79 : LK RJx4a65c 79 yJ9_max_7cf53 := tb (i := 728) (by decide +kernel)
theorem li_L_187 : LK RL 187 yX12_steps := tb (i := 824) (by decide +kernel)
theorem li_X12_95 : LK RX12 95 yX12_steps := tb (i := 828) (by decide +kernel)
theorem li_L_186 : LK RL 186 yX12_lender := tb (i := 829) (by decide +kernel)
theorem li_L_190 : LK RL 190 yX12_send := tb (i := 833) (by decide +kernel)
theorem li_X12_99 : LK RX12 99 yX12_lender := tb (i := 837) (by decide +kernel)
theorem li_X12_102 : LK RX12 102 yJ9_min_7cf53 := tb (i := 838) (by decide +kernel)
theorem li_X12_107 : LK RX12 107 yJ9_max_7cf53 := tb (i := 839) (by decide +kernel)
theorem li_L_206 : LK RL 206 yX12_tick := tb (i := 840) (by decide +kernel)
theorem li_X12_126 : LK RX12 126 yX12_refill := tb (i := 844) (by decide +kernel)
theorem li_X12_110 : LK RX12 110 yJx4a65c_get_915e3 := tb (i := 848) (by decide +kernel)
theorem li_Jx4a65c_118 : LK RJx4a65c 118 yJ15_checkIndex_7cf53 := tb (i := 852) (by decide +kernel)
theorem li_J15_105 : LK RJ15 105 yJ3_checkIndex_8e157 := tb (i := 855) (by decide +kernel)
theorem li_Jx4a65c_123 : LK RJx4a65c 123 yJx4a65c_elementData_915e3 := tb (i := 858) (by decide +kernel)
theorem li_X12_114 : LK RX12 114 yJx4a65c_isEmpty_aae02 := tb (i := 862) (by decide +kernel)
theorem li_X12_129 : LK RX12 129 yJx4a65c_remove_915e3 := tb (i := 867) (by decide +kernel)
theorem li_Jx4a65c_144 : LK RJx4a65c 144 yJx4a65c_fastRemove_b59b0 := tb (i := 871) (by decide +kernel)
theorem li_X12_132 : LK RX12 132 yX12_first := tb (i := 876) (by decide +kernel)
theorem li_X12_119 : LK RX12 119 yX12_isAhead := tb (i := 880) (by decide +kernel)
theorem li_X12_136 : LK RX12 136 yX12_send := tb (i := 884) (by decide +kernel)
theorem li_L_175 : LK RL 175 yX12_anyLeaf := tb (i := 885) (by decide +kernel)
theorem li_X12_191 : LK RX12 191 yX12_isLeaf := tb (i := 889) (by decide +kernel)
theorem li_L_158 : LK RL 158 yL_cell := tb (i := 893) (by decide +kernel)
theorem li_L_179 : LK RL 179 yL_draw := tb (i := 896) (by decide +kernel)
theorem li_L_165 : LK RL 165 yL_stands := tb (i := 897) (by decide +kernel)
theorem li_L_33 : LK RL 33 yX12_text := tb (i := 900) (by decide +kernel)
theorem li_X12_148 : LK RX12 148 yJ4_init_da8c8 := tb (i := 906) (by decide +kernel)
theorem li_J4_1 : LK RJ4 1 yJ5_init_d00df := tb (i := 909) (by decide +kernel)
theorem li_J5_26 : LK RJ5 26 yJ2_newBytesFor_77867 := tb (i := 915) (by decide +kernel)
theorem li_J2_11 : LK RJ2 11 yJ2_newBytesLength_0f7a4 := tb (i := 918) (by decide +kernel)
theorem li_X12_151 : LK RX12 151 yJ4_append_15ec4 := tb (i := 936) (by decide +kernel)
theorem li_J4_29 : LK RJ4 29 yJ5_append_cf1ce := tb (i := 940) (by decide +kernel)
theorem li_J5_204 : LK RJ5 204 yJ5_appendNull_278bc := tb (i := 943) (by decide +kernel)
theorem li_J5_100 : LK RJ5 100 yJ5_ensureCapacityInternal_d00df := tb (i := 947) (by decide +kernel)
theorem li_J5_104 : LK RJ5 104 yJ5_newCapacity_0f7a4 := tb (i := 951) (by decide +kernel)
theorem li_J5_114 : LK RJ5 114 yJ8_newLength_cabcc := tb (i := 955) (by decide +kernel)
theorem li_J5_108 : LK RJ5 108 yJ7_copyOf_9075b := tb (i := 957) (by decide +kernel)
theorem li_J5_83 : LK RJ5 83 yJ5_isLatin1_aae02 := tb (i := 967) (by decide +kernel)
theorem li_J5_226 : LK RJ5 226 yJ2_putCharsAt_cd4e5 := tb (i := 972) (by decide +kernel)
theorem li_J2_96 : LK RJ2 96 yJ2_checkBoundsBeginEnd_d044e := tb (i := 975) (by decide +kernel)
theorem li_J2_48 : LK RJ2 48 yJ2_length_9d52b := tb (i := 978) (by decide +kernel)
theorem li_J2_241 : LK RJ2 241 yJ0_checkBoundsBeginEnd_23922 := tb (i := 981) (by decide +kernel)
theorem li_J0_1062 : LK RJ0 1062 yJ3_checkFromToIndex_8c36e := tb (i := 986) (by decide +kernel)
theorem li_J2_111 : LK RJ2 111 yJ2_putChar_b72d1 := tb (i := 989) (by decide +kernel)
theorem li_J5_32 : LK RJ5 32 yJ0_length_8abf5 := tb (i := 998) (by decide +kernel)
theorem li_J0_335 : LK RJ0 335 yJ0_coder_7d493 := tb (i := 1002) (by decide +kernel)
theorem li_J5_208 : LK RJ5 208 yJ5_putStringAt_47b60 := tb (i := 1007) (by decide +kernel)
theorem li_J5_397 : LK RJ5 397 yJ5_inflateIfNeededFor_a7421 := tb (i := 1011) (by decide +kernel)
theorem li_J5_40 : LK RJ5 40 yJ0_coder_7d493 := tb (i := 1015) (by decide +kernel)
theorem li_J5_195 : LK RJ5 195 yJ5_inflate_da8c8 := tb (i := 1016) (by decide +kernel)
theorem li_J5_125 : LK RJ5 125 yJ1_inflate_0e8fd := tb (i := 1020) (by decide +kernel)
theorem li_J1_240 : LK RJ1 240 yJ2_inflate_0e8fd := tb (i := 1023) (by decide +kernel)
theorem li_J2_173 : LK RJ2 173 yJ2_checkBoundsOffCount_d044e := tb (i := 1026) (by decide +kernel)
theorem li_J2_419 : LK RJ2 419 yJ0_checkBoundsOffCount_cabcc := tb (i := 1029) (by decide +kernel)
theorem li_J0_1065 : LK RJ0 1065 yJ3_checkFromIndexSize_8c36e := tb (i := 1032) (by decide +kernel)
theorem li_J5_399 : LK RJ5 399 yJ0_getBytes_840e7 := tb (i := 1035) (by decide +kernel)
theorem li_J0_106 : LK RJ0 106 yJ1_inflate_0e8fd := tb (i := 1040) (by decide +kernel)
theorem li_X12_155 : LK RX12 155 yJ4_append_cf468 := tb (i := 1041) (by decide +kernel)
theorem li_J4_50 : LK RJ4 50 yJ5_append_3fe6f := tb (i := 1045) (by decide +kernel)
theorem li_J5_191 : LK RJ5 191 yJ1_canEncode_fc78d := tb (i := 1048) (by decide +kernel)
theorem li_J5_197 : LK RJ5 197 yJ2_putCharSB_b72d1 := tb (i := 1051) (by decide +kernel)
theorem li_J2_67 : LK RJ2 67 yJ2_checkIndex_2214a := tb (i := 1054) (by decide +kernel)
theorem li_J2_414 : LK RJ2 414 yJ0_checkIndex_df160 := tb (i := 1057) (by decide +kernel)
theorem li_J0_1059 : LK RJ0 1059 yJ3_checkIndex_8e157 := tb (i := 1060) (by decide +kernel)
theorem li_X12_162 : LK RX12 162 yJ4_append_bf812 := tb (i := 1063) (by decide +kernel)
theorem li_J4_53 : LK RJ4 53 yJ5_append_c97b9 := tb (i := 1067) (by decide +kernel)
theorem li_J5_245 : LK RJ5 245 yJ6_stringSize_0f7a4 := tb (i := 1070) (by decide +kernel)
theorem li_J5_248 : LK RJ5 248 yJ6_getChars_ba4f3 := tb (i := 1073) (by decide +kernel)
theorem li_J5_251 : LK RJ5 251 yJ2_getChars_46870 := tb (i := 1080) (by decide +kernel)
theorem li_J2_393 : LK RJ2 393 yJ2_getChars_ba4f3 := tb (i := 1083) (by decide +kernel)
theorem li_X12_187 : LK RX12 187 yJ4_toString_0e30d := tb (i := 1099) (by decide +kernel)
theorem li_J4_137 : LK RJ4 137 yJ0_init_81219 := tb (i := 1105) (by decide +kernel)
theorem li_J0_489 : LK RJ0 489 yJ0_init_db425 := tb (i := 1108) (by decide +kernel)
theorem li_J0_552 : LK RJ0 552 yJ5_getValue_6d5f1 := tb (i := 1112) (by decide +kernel)
theorem li_J0_549 : LK RJ0 549 yJ5_length_8abf5 := tb (i := 1117) (by decide +kernel)
theorem li_J4_343 : LK RJ4 343 yJ5_length_8abf5 := tb (i := 1123) (by decide +kernel)
theorem li_J0_1047 : LK RJ0 1047 yJ5_isLatin1_aae02 := tb (i := 1125) (by decide +kernel)
theorem li_J0_54 : LK RJ0 54 yJ7_copyOfRange_39247 := tb (i := 1126) (by decide +kernel)
theorem li_J7_339 : LK RJ7 339 yJ7_copyOfRangeByte_39247 := tb (i := 1129) (by decide +kernel)
theorem li_J7_343 : LK RJ7 343 yJ7_checkLength_df160 := tb (i := 1132) (by decide +kernel)
theorem li_J0_1051 : LK RJ0 1051 yJ2_compress_39247 := tb (i := 1135) (by decide +kernel)
theorem li_J2_123 : LK RJ2 123 yJ2_compress_5af95 := tb (i := 1138) (by decide +kernel)
theorem li_J2_71 : LK RJ2 71 yJ2_getChar_3b067 := tb (i := 1141) (by decide +kernel)
theorem li_J2_126 : LK RJ2 126 yJ7_copyOfRange_39247 := tb (i := 1144) (by decide +kernel)
theorem li_J0_47 : LK RJ0 47 yJ2_coderFromArrayLen_85cad := tb (i := 1145) (by decide +kernel)
theorem li_L_39 : LK RL 39 yL_fill := tb (i := 1159) (by decide +kernel)
theorem li_L_14 : LK RL 14 yJ0_length_8abf5 := tb (i := 1162) (by decide +kernel)
theorem li_L_20 : LK RL 20 yJ0_charAt_5068e := tb (i := 1163) (by decide +kernel)
theorem li_J0_492 : LK RJ0 492 yJ0_isLatin1_aae02 := tb (i := 1167) (by decide +kernel)
theorem li_J0_495 : LK RJ0 495 yJ1_charAt_3b067 := tb (i := 1171) (by decide +kernel)
theorem li_J1_9 : LK RJ1 9 yJ0_checkIndex_df160 := tb (i := 1174) (by decide +kernel)
theorem li_J0_498 : LK RJ0 498 yJ2_charAt_3b067 := tb (i := 1175) (by decide +kernel)
theorem li_L_24 : LK RL 24 yX11_feed := tb (i := 1178) (by decide +kernel)
theorem li_X11_57 : LK RX11 57 yX9_append := tb (i := 1182) (by decide +kernel)
theorem li_L_30 : LK RL 30 yX11_truncate := tb (i := 1186) (by decide +kernel)
theorem li_L_43 : LK RL 43 yX11_load := tb (i := 1190) (by decide +kernel)
theorem li_X11_61 : LK RX11 61 yX5_read := tb (i := 1194) (by decide +kernel)
theorem li_X5_29 : LK RX5 29 yX5_begin := tb (i := 1198) (by decide +kernel)
theorem li_X5_52 : LK RX5 52 yX7_clear := tb (i := 1202) (by decide +kernel)
theorem li_X5_55 : LK RX5 55 yX6_begin := tb (i := 1206) (by decide +kernel)
theorem li_X5_32 : LK RX5 32 yX6_scan := tb (i := 1210) (by decide +kernel)
theorem li_X6_15 : LK RX6 15 yX6_skipSpaces := tb (i := 1214) (by decide +kernel)
theorem li_X6_25 : LK RX6 25 yX9_byteAt := tb (i := 1218) (by decide +kernel)
theorem li_X6_37 : LK RX6 37 yX6_isLetter := tb (i := 1222) (by decide +kernel)
theorem li_X6_41 : LK RX6 41 yX6_scanWord := tb (i := 1225) (by decide +kernel)
theorem li_X6_54 : LN RX6 54 yX11_withLetter "RateLimiter" := nb (i := 1229) (by decide +kernel)
theorem li_X6_58 : LN RX6 58 yX11_keywordOf "RateLimiter" := nb (i := 1232) (by decide +kernel)
theorem li_X11_347 : LK RX11 347 yX11_keywordText := tb (i := 1235) (by decide +kernel)
theorem li_X11_351 : LK RX11 351 yJ0_length_8abf5 := tb (i := 1251) (by decide +kernel)
theorem li_X11_356 : LK RX11 356 yJ0_charAt_5068e := tb (i := 1252) (by decide +kernel)
theorem li_X11_360 : LK RX11 360 yX11_withLetter := tb (i := 1253) (by decide +kernel)
theorem li_X6_44 : LK RX6 44 yX6_isDigit := tb (i := 1254) (by decide +kernel)
theorem li_X6_47 : LK RX6 47 yX6_scanNumber := tb (i := 1257) (by decide +kernel)
theorem li_X5_42 : LK RX5 42 yX5_take := tb (i := 1261) (by decide +kernel)
theorem li_X5_60 : LK RX5 60 yX5_takeStatement := tb (i := 1265) (by decide +kernel)
theorem li_X5_63 : LK RX5 63 yX5_takeNodeName := tb (i := 1269) (by decide +kernel)
theorem li_X5_117 : LK RX5 117 yX5_isName := tb (i := 1273) (by decide +kernel)
theorem li_X5_125 : LK RX5 125 yX7_findNode := tb (i := 1277) (by decide +kernel)
theorem li_X5_132 : LK RX5 132 yX5_addNode := tb (i := 1281) (by decide +kernel)
theorem li_X5_136 : LK RX5 136 yX7_addNode := tb (i := 1285) (by decide +kernel)
theorem li_X7_71 : LK RX7 71 yX7_row := tb (i := 1289) (by decide +kernel)
theorem li_X5_66 : LK RX5 66 yX5_takeIn := tb (i := 1295) (by decide +kernel)
theorem li_X5_69 : LK RX5 69 yX5_takeParentName := tb (i := 1299) (by decide +kernel)
theorem li_X5_72 : LK RX5 72 yX5_takeSetting := tb (i := 1303) (by decide +kernel)
theorem li_X5_142 : LK RX5 142 yX5_finishNode := tb (i := 1307) (by decide +kernel)
theorem li_X5_148 : LK RX5 148 yX7_hasNode := tb (i := 1311) (by decide +kernel)
theorem li_X5_75 : LK RX5 75 yX5_takeSettingValue := tb (i := 1312) (by decide +kernel)
theorem li_X5_163 : LK RX5 163 yX5_numberFault := tb (i := 1316) (by decide +kernel)
theorem li_X5_174 : LN RX5 174 yX11_isInRange "RateLimiter" := nb (i := 1320) (by decide +kernel)
theorem li_X5_167 : LK RX5 167 yX7_row := tb (i := 1321) (by decide +kernel)
theorem li_X5_78 : LK RX5 78 yX5_takeLimit := tb (i := 1322) (by decide +kernel)
theorem li_X5_181 : LK RX5 181 yX5_numberFault_ := tb (i := 1326) (by decide +kernel)
theorem li_X5_81 : LK RX5 81 yX5_takeAge := tb (i := 1330) (by decide +kernel)
theorem li_X5_84 : LK RX5 84 yX5_takeChangeTime := tb (i := 1334) (by decide +kernel)
theorem li_X5_87 : LK RX5 87 yX5_takeChangeName := tb (i := 1338) (by decide +kernel)
theorem li_X5_90 : LK RX5 90 yX5_takeChangeSetting := tb (i := 1342) (by decide +kernel)
theorem li_X5_93 : LK RX5 93 yX5_takeChangeValue := tb (i := 1346) (by decide +kernel)
theorem li_X5_190 : LK RX5 190 yX1_add := tb (i := 1350) (by decide +kernel)
theorem li_X5_96 : LK RX5 96 yX5_takeStatementEnd := tb (i := 1354) (by decide +kernel)
theorem li_X11_71 : LK RX11 71 yX8_begin := tb (i := 1358) (by decide +kernel)
theorem li_X8_56 : LN RX8 56 yX11_copyRow "RateLimiter" := nb (i := 1362) (by decide +kernel)
theorem li_X11_235 : LK RX11 235 yJ9_min_7cf53 := tb (i := 1365) (by decide +kernel)
theorem li_X8_62 : LK RX8 62 yX0_begin := tb (i := 1367) (by decide +kernel)
theorem li_X0_26 : LN RX0 26 yX11_copyRow "RateLimiter" := nb (i := 1371) (by decide +kernel)
theorem li_X0_30 : LN RX0 30 yX11_clearRow "RateLimiter" := nb (i := 1372) (by decide +kernel)
theorem li_X8_66 : LK RX8 66 yX4_begin := tb (i := 1375) (by decide +kernel)
theorem li_X4_24 : LN RX4 24 yX11_clearRow "RateLimiter" := nb (i := 1379) (by decide +kernel)
theorem li_X8_68 : LK RX8 68 yX2_begin := tb (i := 1380) (by decide +kernel)
theorem li_X2_27 : LN RX2 27 yX11_clearRow "RateLimiter" := nb (i := 1384) (by decide +kernel)
theorem li_L_50 : LK RL 50 yX11_faultCode := tb (i := 1385) (by decide +kernel)
theorem li_L_53 : LK RL 53 yX11_faultPosition := tb (i := 1389) (by decide +kernel)
theorem li_L_172 : LK RL 172 yL_same := tb (i := 1393) (by decide +kernel)
theorem li_L_64 : LK RL 64 yX12_first := tb (i := 1396) (by decide +kernel)
theorem li_L_73 : LK RL 73 yX11_credit := tb (i := 1397) (by decide +kernel)
theorem li_L_78 : LK RL 78 yX11_headroom := tb (i := 1401) (by decide +kernel)
theorem li_L_84 : LK RL 84 yX11_lentCost := tb (i := 1405) (by decide +kernel)
theorem li_L_90 : LK RL 90 yX12_isLeaf := tb (i := 1409) (by decide +kernel)
theorem li_L_94 : LK RL 94 yX11_sentCost := tb (i := 1410) (by decide +kernel)
theorem li_L_97 : LK RL 97 yX11_queueLength := tb (i := 1414) (by decide +kernel)
theorem li_L_104 : LK RL 104 yX11_sentCount := tb (i := 1418) (by decide +kernel)
theorem li_L_110 : LK RL 110 yX11_borrowedCost := tb (i := 1422) (by decide +kernel)
theorem li_L_116 : LK RL 116 yX11_droppedCount := tb (i := 1426) (by decide +kernel)
theorem li_L_126 : LK RL 126 yJx4a65c_get_915e3 := tb (i := 1430) (by decide +kernel)
theorem li_L_132 : LK RL 132 yJx4a65c_size_8abf5 := tb (i := 1432) (by decide +kernel)
theorem li_L_169 : LK RL 169 yL_tree := tb (i := 1436) (by decide +kernel)
theorem li_L_209 : LK RL 209 yX11_parent := tb (i := 1439) (by decide +kernel)
theorem li_L_217 : LK RL 217 yX11_child := tb (i := 1443) (by decide +kernel)
theorem li_X11_101 : LK RX11 101 yX7_childOf := tb (i := 1447) (by decide +kernel)
theorem li_L_223 : LK RL 223 yJ9_min_7cf53 := tb (i := 1451) (by decide +kernel)
theorem li_L_228 : LK RL 228 yX11_depth := tb (i := 1452) (by decide +kernel)
theorem li_L_231 : LK RL 231 yX11_rate := tb (i := 1456) (by decide +kernel)
theorem li_L_233 : LK RL 233 yX11_ceiling := tb (i := 1460) (by decide +kernel)
theorem li_L_235 : LK RL 235 yX11_burst := tb (i := 1464) (by decide +kernel)
theorem li_L_240 : LK RL 240 yX11_creditLimit := tb (i := 1468) (by decide +kernel)
theorem li_L_246 : LK RL 246 yX11_weight := tb (i := 1472) (by decide +kernel)
theorem li_L_251 : LK RL 251 yX11_priority := tb (i := 1476) (by decide +kernel)
theorem li_L_256 : LK RL 256 yX11_mayBorrow := tb (i := 1480) (by decide +kernel)
theorem li_L_263 : LK RL 263 yX11_isOversubscribed := tb (i := 1484) (by decide +kernel)
theorem li_X11_133 : LK RX11 133 yX8_childrenRate := tb (i := 1488) (by decide +kernel)
theorem li_L_266 : LK RL 266 yX11_pathCeiling := tb (i := 1492) (by decide +kernel)
theorem li_X11_137 : LK RX11 137 yX8_leastCeiling := tb (i := 1496) (by decide +kernel)
theorem li_X8_95 : LK RX8 95 yJ9_min_7cf53 := tb (i := 1500) (by decide +kernel)
theorem li_L_269 : LK RL 269 yX11_nameLetter := tb (i := 1501) (by decide +kernel)
theorem li_X11_93 : LK RX11 93 yX11_letterOf := tb (i := 1505) (by decide +kernel)
theorem li_L_182 : LK RL 182 yL_asked := tb (i := 1508) (by decide +kernel)
theorem li_L_272 : LK RL 272 yX11_blockingNode := tb (i := 1511) (by decide +kernel)
theorem li_X11_186 : LK RX11 186 yX0_findBlocking := tb (i := 1515) (by decide +kernel)
theorem li_L_275 : LK RL 275 yX11_greatestCost := tb (i := 1519) (by decide +kernel)
theorem li_L_278 : LK RL 278 yX11_refusal := tb (i := 1523) (by decide +kernel)
theorem li_L_286 : LK RL 286 yX12_refill := tb (i := 1533) (by decide +kernel)
theorem li_L_289 : LK RL 289 yX11_waitTime := tb (i := 1534) (by decide +kernel)
theorem li_X11_176 : LK RX11 176 yX8_ticksUntilLender := tb (i := 1538) (by decide +kernel)
theorem li_X8_129 : LK RX8 129 yX8_ticksUntil := tb (i := 1542) (by decide +kernel)
theorem li_X8_133 : LK RX8 133 yJ9_max_7cf53 := tb (i := 1545) (by decide +kernel)
theorem li_L_292 : LK RL 292 yL_back := tb (i := 1546) (by decide +kernel)
theorem li_L_296 : LK RL 296 yX11_repeats := tb (i := 1550) (by decide +kernel)
theorem li_X11_179 : LK RX11 179 yX0_copyFrom := tb (i := 1554) (by decide +kernel)
theorem li_X11_183 : LK RX11 183 yX0_payOften := tb (i := 1558) (by decide +kernel)
theorem li_X0_57 : LK RX0 57 yX0_findLender := tb (i := 1562) (by decide +kernel)
theorem li_X0_61 : LK RX0 61 yX0_pay := tb (i := 1563) (by decide +kernel)
theorem in_RateLimiterLaw : Cond.initialized "RateLimiterLaw" ∈ gwt := tb (i := 0) (by decide +kernel)
theorem in_RateLimiter : Cond.initialized "RateLimiter" ∈ gwt := tb (i := 1) (by decide +kernel)
theorem in_RateLimiter_Text : Cond.initialized "RateLimiter$Text" ∈ gwt := tb (i := 2) (by decide +kernel)
theorem in_RateLimiter_Reader : Cond.initialized "RateLimiter$Reader" ∈ gwt := tb (i := 3) (by decide +kernel)
theorem in_RateLimiter_Setup : Cond.initialized "RateLimiter$Setup" ∈ gwt := tb (i := 4) (by decide +kernel)
theorem in_RateLimiter_Changes : Cond.initialized "RateLimiter$Changes" ∈ gwt := tb (i := 5) (by decide +kernel)
theorem in_RateLimiter_Scanner : Cond.initialized "RateLimiter$Scanner" ∈ gwt := tb (i := 6) (by decide +kernel)
theorem in_RateLimiter_Writer : Cond.initialized "RateLimiter$Writer" ∈ gwt := tb (i := 7) (by decide +kernel)
theorem in_RateLimiter_State : Cond.initialized "RateLimiter$State" ∈ gwt := tb (i := 8) (by decide +kernel)
theorem in_RateLimiter_Accounts : Cond.initialized "RateLimiter$Accounts" ∈ gwt := tb (i := 9) (by decide +kernel)
theorem in_RateLimiter_Queues : Cond.initialized "RateLimiter$Queues" ∈ gwt := tb (i := 10) (by decide +kernel)
theorem in_RateLimiter_Counts : Cond.initialized "RateLimiter$Counts" ∈ gwt := tb (i := 11) (by decide +kernel)
theorem in_RateLimiter_Log : Cond.initialized "RateLimiter$Log" ∈ gwt := tb (i := 12) (by decide +kernel)
theorem in_java_lang_Math : Cond.initialized "java/lang/Math" ∈ gwt := tb (i := 13) (by decide +kernel)
theorem in_java_lang_System : Cond.initialized "java/lang/System" ∈ gwt := tb (i := 14) (by decide +kernel)
theorem in_java_lang_Number : Cond.initialized "java/lang/Number" ∈ gwt := tb (i := 15) (by decide +kernel)
theorem in_java_lang_Long : Cond.initialized "java/lang/Long" ∈ gwt := tb (i := 16) (by decide +kernel)
theorem in_RateLimiterLaw_Tree : Cond.initialized "RateLimiterLaw$Tree" ∈ gwt := tb (i := 17) (by decide +kernel)
theorem in_java_util_AbstractCollection : Cond.initialized "java/util/AbstractCollection" ∈ gwt := tb (i := 18) (by decide +kernel)
theorem in_java_util_AbstractList : Cond.initialized "java/util/AbstractList" ∈ gwt := tb (i := 19) (by decide +kernel)
theorem in_java_util_ArrayList : Cond.initialized "java/util/ArrayList" ∈ gwt := tb (i := 20) (by decide +kernel)
theorem in_jdk_internal_util_ArraysSupport : Cond.initialized "jdk/internal/util/ArraysSupport" ∈ gwt := tb (i := 21) (by decide +kernel)
theorem in_java_util_Arrays : Cond.initialized "java/util/Arrays" ∈ gwt := tb (i := 22) (by decide +kernel)
theorem in_java_lang_AbstractStringBuilder : Cond.initialized "java/lang/AbstractStringBuilder" ∈ gwt := tb (i := 23) (by decide +kernel)
theorem in_java_lang_StringBuilder : Cond.initialized "java/lang/StringBuilder" ∈ gwt := tb (i := 24) (by decide +kernel)
theorem in_java_lang_String : Cond.initialized "java/lang/String" ∈ gwt := tb (i := 25) (by decide +kernel)
theorem in_java_lang_StringUTF16 : Cond.initialized "java/lang/StringUTF16" ∈ gwt := tb (i := 26) (by decide +kernel)
theorem in_jdk_internal_util_Preconditions : Cond.initialized "jdk/internal/util/Preconditions" ∈ gwt := tb (i := 27) (by decide +kernel)
theorem in_java_lang_StringLatin1 : Cond.initialized "java/lang/StringLatin1" ∈ gwt := tb (i := 28) (by decide +kernel)
theorem in_java_lang_Integer : Cond.initialized "java/lang/Integer" ∈ gwt := tb (i := 29) (by decide +kernel)
theorem in_java_util_Objects : Cond.initialized "java/util/Objects" ∈ gwt := tb (i := 30) (by decide +kernel)
theorem cl_L_25 : Cond.classLink RL 25 RX11 ∈ gwt := tb (i := 31) (by decide +kernel)
theorem is_X11 : Cond.instantiable RX11 8 ∈ gwt := tb (i := 32) (by decide +kernel)
theorem cl_X11_7 : Cond.classLink RX11 7 RX9 ∈ gwt := tb (i := 39) (by decide +kernel)
theorem is_X9 : Cond.instantiable RX9 2 ∈ gwt := tb (i := 40) (by decide +kernel)
theorem ac_byte : Cond.arrayClass .byte ∈ gwt := tb (i := 54) (by decide +kernel)
theorem cl_X11_16 : Cond.classLink RX11 16 RX5 ∈ gwt := tb (i := 55) (by decide +kernel)
theorem is_X5 : Cond.instantiable RX5 11 ∈ gwt := tb (i := 56) (by decide +kernel)
theorem cl_X5_15 : Cond.classLink RX5 15 RX7 ∈ gwt := tb (i := 61) (by decide +kernel)
theorem is_X7 : Cond.instantiable RX7 15 ∈ gwt := tb (i := 62) (by decide +kernel)
theorem cl_X7_47 : Cond.classLink RX7 47 RX1 ∈ gwt := tb (i := 67) (by decide +kernel)
theorem is_X1 : Cond.instantiable RX1 5 ∈ gwt := tb (i := 68) (by decide +kernel)
theorem ac_long : Cond.arrayClass .long ∈ gwt := tb (i := 96) (by decide +kernel)
theorem ac_int : Cond.arrayClass .int ∈ gwt := tb (i := 97) (by decide +kernel)
theorem ac_boolean : Cond.arrayClass .boolean ∈ gwt := tb (i := 98) (by decide +kernel)
theorem cl_X5_22 : Cond.classLink RX5 22 RX6 ∈ gwt := tb (i := 176) (by decide +kernel)
theorem is_X6 : Cond.instantiable RX6 6 ∈ gwt := tb (i := 177) (by decide +kernel)
theorem cl_X11_23 : Cond.classLink RX11 23 RX10 ∈ gwt := tb (i := 243) (by decide +kernel)
theorem is_X10 : Cond.instantiable RX10 4 ∈ gwt := tb (i := 244) (by decide +kernel)
theorem cl_X11_30 : Cond.classLink RX11 30 RX7 ∈ gwt := tb (i := 258) (by decide +kernel)
theorem cl_X11_37 : Cond.classLink RX11 37 RX8 ∈ gwt := tb (i := 260) (by decide +kernel)
theorem is_X8 : Cond.instantiable RX8 9 ∈ gwt := tb (i := 261) (by decide +kernel)
theorem cl_X8_21 : Cond.classLink RX8 21 RX0 ∈ gwt := tb (i := 266) (by decide +kernel)
theorem is_X0 : Cond.instantiable RX0 3 ∈ gwt := tb (i := 267) (by decide +kernel)
theorem cl_X8_28 : Cond.classLink RX8 28 RX4 ∈ gwt := tb (i := 288) (by decide +kernel)
theorem is_X4 : Cond.instantiable RX4 5 ∈ gwt := tb (i := 289) (by decide +kernel)
theorem cl_X8_35 : Cond.classLink RX8 35 RX2 ∈ gwt := tb (i := 314) (by decide +kernel)
theorem is_X2 : Cond.instantiable RX2 5 ∈ gwt := tb (i := 315) (by decide +kernel)
theorem cl_X8_42 : Cond.classLink RX8 42 RX3 ∈ gwt := tb (i := 343) (by decide +kernel)
theorem is_X3 : Cond.instantiable RX3 5 ∈ gwt := tb (i := 344) (by decide +kernel)
theorem k2_X11_255 : Cond.constantLong RX11 255 (10) ∈ gwt := tb (i := 588) (by decide +kernel)
theorem k2_X11_261 : Cond.constantLong RX11 261 (1000) ∈ gwt := tb (i := 592) (by decide +kernel)
theorem cl_L_34 : Cond.classLink RL 34 RX12 ∈ gwt := tb (i := 634) (by decide +kernel)
theorem is_X12 : Cond.instantiable RX12 25 ∈ gwt := tb (i := 635) (by decide +kernel)
theorem cl_X12_59 : Cond.classLink RX12 59 RJx4a65c ∈ gwt := tb (i := 640) (by decide +kernel)
theorem is_Jx4a65c : Cond.instantiable RJx4a65c 3 ∈ gwt := tb (i := 641) (by decide +kernel)
theorem k1_L_7 : Cond.constant RL 7 (1103515245) ∈ gwt := tb (i := 672) (by decide +kernel)
theorem k1_J8_200 : Cond.constant RJ8 200 (2147483639) ∈ gwt := tb (i := 693) (by decide +kernel)
theorem cl_J7_110 : Cond.classLink RJ7 110 "[Ljava/lang/Object;" ∈ gwt := tb (i := 723) (by decide +kernel)
theorem cl_J7_2 : Cond.classLink RJ7 2 "java/lang/Object" ∈ gwt := tb (i := 725) (by decide +kernel)
theorem cl_Jx4a65c_7 : Cond.classLink RJx4a65c 7 "java/lang/Object" ∈ gwt := tb (i := 729) (by decide +kernel)
theorem cl_X12_118 : Cond.classLink RX12 118 "[I" ∈ gwt := tb (i := 866) (by decide +kernel)
theorem cl_X12_146 : Cond.classLink RX12 146 RJ4 ∈ gwt := tb (i := 904) (by decide +kernel)
theorem is_J4 : Cond.instantiable RJ4 4 ∈ gwt := tb (i := 905) (by decide +kernel)
theorem k1_J2_20 : Cond.constant RJ2 20 (1073741823) ∈ gwt := tb (i := 921) (by decide +kernel)
theorem k1_J5_39 : Cond.constant RJ5 39 (2147483647) ∈ gwt := tb (i := 956) (by decide +kernel)
theorem cl_J7_311 : Cond.classLink RJ7 311 "[B" ∈ gwt := tb (i := 966) (by decide +kernel)
theorem cl_J4_18 : Cond.classLink RJ4 18 RJ0 ∈ gwt := tb (i := 1103) (by decide +kernel)
theorem is_J0 : Cond.instantiable RJ0 4 ∈ gwt := tb (i := 1104) (by decide +kernel)
theorem cl_L_127 : Cond.classLink RL 127 RJx4a65c ∈ gwt := tb (i := 1431) (by decide +kernel)
theorem cl_L_281 : Cond.classLink RL 281 "[I" ∈ gwt := tb (i := 1527) (by decide +kernel)
theorem oi_X11_1 : Cond.methodLink RX11 1 objectInit ∈ gwt := tb (i := 36) (by decide +kernel)
theorem oi_X9_3 : Cond.methodLink RX9 3 objectInit ∈ gwt := tb (i := 44) (by decide +kernel)
theorem oi_X5_3 : Cond.methodLink RX5 3 objectInit ∈ gwt := tb (i := 60) (by decide +kernel)
theorem oi_X7_3 : Cond.methodLink RX7 3 objectInit ∈ gwt := tb (i := 66) (by decide +kernel)
theorem oi_X1_3 : Cond.methodLink RX1 3 objectInit ∈ gwt := tb (i := 72) (by decide +kernel)
theorem oi_X6_3 : Cond.methodLink RX6 3 objectInit ∈ gwt := tb (i := 181) (by decide +kernel)
theorem oi_X10_3 : Cond.methodLink RX10 3 objectInit ∈ gwt := tb (i := 248) (by decide +kernel)
theorem oi_X8_3 : Cond.methodLink RX8 3 objectInit ∈ gwt := tb (i := 265) (by decide +kernel)
theorem oi_X0_3 : Cond.methodLink RX0 3 objectInit ∈ gwt := tb (i := 271) (by decide +kernel)
theorem oi_X4_3 : Cond.methodLink RX4 3 objectInit ∈ gwt := tb (i := 293) (by decide +kernel)
theorem oi_X2_3 : Cond.methodLink RX2 3 objectInit ∈ gwt := tb (i := 319) (by decide +kernel)
theorem oi_X3_3 : Cond.methodLink RX3 3 objectInit ∈ gwt := tb (i := 348) (by decide +kernel)
theorem mm_X0_43 : Cond.methodLink RX0 43 Lib.Math.min.name ∈ gwt := tb (i := 483) (by decide +kernel)
theorem ay_X3_42 : Cond.methodLink RX3 42 arraycopyName ∈ gwt := tb (i := 497) (by decide +kernel)
theorem mm_X3_36 : Cond.methodLink RX3 36 Lib.Math.min.name ∈ gwt := tb (i := 500) (by decide +kernel)
theorem mm_X0_34 : Cond.methodLink RX0 34 Lib.Math.max.name ∈ gwt := tb (i := 558) (by decide +kernel)
theorem ay_X4_40 : Cond.methodLink RX4 40 arraycopyName ∈ gwt := tb (i := 577) (by decide +kernel)
theorem oi_X12_1 : Cond.methodLink RX12 1 objectInit ∈ gwt := tb (i := 639) (by decide +kernel)
theorem oi_Jxa1e45_1 : Cond.methodLink RJxa1e45 1 objectInit ∈ gwt := tb (i := 651) (by decide +kernel)
theorem mm_J8_194 : Cond.methodLink RJ8 194 Lib.Math.max.name ∈ gwt := tb (i := 692) (by decide +kernel)
theorem mm_J7_304 : Cond.methodLink RJ7 304 Lib.Math.min.name ∈ gwt := tb (i := 726) (by decide +kernel)
theorem ay_J7_150 : Cond.methodLink RJ7 150 arraycopyName ∈ gwt := tb (i := 727) (by decide +kernel)
theorem mm_Jx4a65c_79 : Cond.methodLink RJx4a65c 79 Lib.Math.max.name ∈ gwt := tb (i := 728) (by decide +kernel)
theorem mm_X12_102 : Cond.methodLink RX12 102 Lib.Math.min.name ∈ gwt := tb (i := 838) (by decide +kernel)
theorem mm_X12_107 : Cond.methodLink RX12 107 Lib.Math.max.name ∈ gwt := tb (i := 839) (by decide +kernel)
theorem ay_Jx4a65c_112 : Cond.methodLink RJx4a65c 112 arraycopyName ∈ gwt := tb (i := 875) (by decide +kernel)
theorem oi_J5_3 : Cond.methodLink RJ5 3 objectInit ∈ gwt := tb (i := 912) (by decide +kernel)
theorem ay_J0_212 : Cond.methodLink RJ0 212 arraycopyName ∈ gwt := tb (i := 1039) (by decide +kernel)
theorem oi_J0_1 : Cond.methodLink RJ0 1 objectInit ∈ gwt := tb (i := 1111) (by decide +kernel)
theorem mm_X11_235 : Cond.methodLink RX11 235 Lib.Math.min.name ∈ gwt := tb (i := 1365) (by decide +kernel)
theorem ay_X11_322 : Cond.methodLink RX11 322 arraycopyName ∈ gwt := tb (i := 1366) (by decide +kernel)
theorem mm_L_223 : Cond.methodLink RL 223 Lib.Math.min.name ∈ gwt := tb (i := 1451) (by decide +kernel)
theorem mm_X8_95 : Cond.methodLink RX8 95 Lib.Math.min.name ∈ gwt := tb (i := 1500) (by decide +kernel)
theorem mm_X8_133 : Cond.methodLink RX8 133 Lib.Math.max.name ∈ gwt := tb (i := 1545) (by decide +kernel)
theorem ay_L_299 : Cond.methodLink RL 299 arraycopyName ∈ gwt := tb (i := 1549) (by decide +kernel)
theorem mm_s_min : Cond.static Lib.Math.min.name ∈ gwt := tb (i := 484) (by decide +kernel)
theorem mm_c_min : Cond.code Lib.Math.min.name Lib.Math.min.code 2 (some .int) ∈ gwt := tb (i := 485) (by decide +kernel)
theorem mm_s_max : Cond.static Lib.Math.max.name ∈ gwt := tb (i := 559) (by decide +kernel)
theorem mm_c_max : Cond.code Lib.Math.max.name Lib.Math.max.code 2 (some .int) ∈ gwt := tb (i := 560) (by decide +kernel)
theorem ay_s : Cond.static arraycopyName ∈ gwt := tb (i := 498) (by decide +kernel)
theorem ay_n : Cond.native arraycopyName ∈ gwt := tb (i := 499) (by decide +kernel)
theorem oi_i : Cond.instanceMethod objectInit ∈ gwt := tb (i := 37) (by decide +kernel)
theorem oi_c : Cond.code objectInit ⟨#[0xb1]⟩ 1 none ∈ gwt := tb (i := 38) (by decide +kernel)
theorem gs_LEAST : Cond.fieldLink RX11 316 "RateLimiter" "LEAST" "[I" ∈ gwt := tb (i := 629) (by decide +kernel)
theorem gs_GREATEST : Cond.fieldLink RX11 319 "RateLimiter" "GREATEST" "[I" ∈ gwt := tb (i := 631) (by decide +kernel)
theorem gs_DEFAULTS : Cond.fieldLinkNest RX7 75 "RateLimiter" "DEFAULTS" "[I" "RateLimiter" ∈ nst := nb (i := 1293) (by decide +kernel)
end
section
theorem fn_L_46 : FLN RL 46 12 0 .int true := ⟨by decide, rfl, _, _, _, "RateLimiterLaw", cf_12, by decide, nb (i := 731) (by decide +kernel), rfl⟩
theorem fn_L_212 : FLN RL 212 12 3 (.array .int) true := ⟨by decide, rfl, _, _, _, "RateLimiterLaw", cf_12, by decide, nb (i := 735) (by decide +kernel), rfl⟩
theorem fn_L_214 : FLN RL 214 12 4 (.array .int) true := ⟨by decide, rfl, _, _, _, "RateLimiterLaw", cf_12, by decide, nb (i := 737) (by decide +kernel), rfl⟩
theorem fn_L_220 : FLN RL 220 12 5 (.array .int) true := ⟨by decide, rfl, _, _, _, "RateLimiterLaw", cf_12, by decide, nb (i := 739) (by decide +kernel), rfl⟩
theorem fn_L_238 : FLN RL 238 12 6 (.array .int) true := ⟨by decide, rfl, _, _, _, "RateLimiterLaw", cf_12, by decide, nb (i := 741) (by decide +kernel), rfl⟩
theorem fn_L_243 : FLN RL 243 12 7 (.array .int) true := ⟨by decide, rfl, _, _, _, "RateLimiterLaw", cf_12, by decide, nb (i := 743) (by decide +kernel), rfl⟩
theorem fn_L_249 : FLN RL 249 12 8 (.array .int) true := ⟨by decide, rfl, _, _, _, "RateLimiterLaw", cf_12, by decide, nb (i := 745) (by decide +kernel), rfl⟩
theorem fn_L_254 : FLN RL 254 12 9 (.array .int) true := ⟨by decide, rfl, _, _, _, "RateLimiterLaw", cf_12, by decide, nb (i := 747) (by decide +kernel), rfl⟩
theorem fn_L_259 : FLN RL 259 12 10 (.array .boolean) true := ⟨by decide, rfl, _, _, _, "RateLimiterLaw", cf_12, by decide, nb (i := 749) (by decide +kernel), rfl⟩
theorem fn_L_70 : FLN RL 70 12 11 (.array .int) true := ⟨by decide, rfl, _, _, _, "RateLimiterLaw", cf_12, by decide, nb (i := 751) (by decide +kernel), rfl⟩
theorem fn_L_76 : FLN RL 76 12 12 (.array .int) true := ⟨by decide, rfl, _, _, _, "RateLimiterLaw", cf_12, by decide, nb (i := 753) (by decide +kernel), rfl⟩
theorem fn_L_81 : FLN RL 81 12 13 (.array .int) true := ⟨by decide, rfl, _, _, _, "RateLimiterLaw", cf_12, by decide, nb (i := 755) (by decide +kernel), rfl⟩
theorem fn_L_101 : FLN RL 101 12 14 (.array .int) true := ⟨by decide, rfl, _, _, _, "RateLimiterLaw", cf_12, by decide, nb (i := 757) (by decide +kernel), rfl⟩
theorem fn_L_107 : FLN RL 107 12 15 (.array .int) true := ⟨by decide, rfl, _, _, _, "RateLimiterLaw", cf_12, by decide, nb (i := 759) (by decide +kernel), rfl⟩
theorem fn_L_113 : FLN RL 113 12 16 (.array .int) true := ⟨by decide, rfl, _, _, _, "RateLimiterLaw", cf_12, by decide, nb (i := 761) (by decide +kernel), rfl⟩
theorem fn_L_87 : FLN RL 87 12 17 (.array .int) true := ⟨by decide, rfl, _, _, _, "RateLimiterLaw", cf_12, by decide, nb (i := 763) (by decide +kernel), rfl⟩
theorem fn_L_119 : FLN RL 119 12 18 (.array .int) true := ⟨by decide, rfl, _, _, _, "RateLimiterLaw", cf_12, by decide, nb (i := 765) (by decide +kernel), rfl⟩
theorem fn_L_122 : FLN RL 122 12 19 (.object "java/util/ArrayList") true := ⟨by decide, rfl, _, _, _, "RateLimiterLaw", cf_12, by decide, nb (i := 767) (by decide +kernel), rfl⟩
theorem fn_L_59 : FLN RL 59 12 20 .int false := ⟨by decide, rfl, _, _, _, "RateLimiterLaw", cf_12, by decide, nb (i := 768) (by decide +kernel), rfl⟩
theorem mv_J5_append_cf1ce : MV RJ4 yJ5_append_cf1ce := ⟨tb (i := 941) (by decide +kernel), tb (i := 934) (by decide +kernel), tb (i := 1564) (by decide +kernel), by decide⟩
theorem mv_J5_appendNull_278bc : MV RJ4 yJ5_appendNull_278bc := ⟨tb (i := 945) (by decide +kernel), tb (i := 934) (by decide +kernel), tb (i := 1565) (by decide +kernel), by decide⟩
theorem mu_J5_ensureCapacityInternal_d00df : MU RJ4 yJ5_ensureCapacityInternal_d00df yJ5_ensureCapacityInternal_d00df := ⟨tb (i := 949) (by decide +kernel), xb (i := 0) (by decide +kernel), tb (i := 1566) (by decide +kernel), tb (i := 949) (by decide +kernel), prog_17_method_9_code, 3, none, tb (i := 950) (by decide +kernel)⟩
theorem mv_J5_ensureCapacityInternal_d00df : MV RJ4 yJ5_ensureCapacityInternal_d00df := ⟨tb (i := 949) (by decide +kernel), tb (i := 934) (by decide +kernel), tb (i := 1566) (by decide +kernel), by decide⟩
theorem mu_J5_newCapacity_0f7a4 : MU RJ4 yJ5_newCapacity_0f7a4 yJ5_newCapacity_0f7a4 := ⟨tb (i := 953) (by decide +kernel), xb (i := 1) (by decide +kernel), tb (i := 1567) (by decide +kernel), tb (i := 953) (by decide +kernel), prog_17_method_10_code, 6, (some .int), tb (i := 954) (by decide +kernel)⟩
theorem mv_J5_newCapacity_0f7a4 : MV RJ4 yJ5_newCapacity_0f7a4 := ⟨tb (i := 953) (by decide +kernel), tb (i := 934) (by decide +kernel), tb (i := 1567) (by decide +kernel), by decide⟩
theorem mu_J5_isLatin1_aae02 : MU RJ4 yJ5_isLatin1_aae02 yJ5_isLatin1_aae02 := ⟨tb (i := 968) (by decide +kernel), tb (i := 970) (by decide +kernel), tb (i := 969) (by decide +kernel), tb (i := 968) (by decide +kernel), prog_17_method_68_code, 1, (some .boolean), tb (i := 971) (by decide +kernel)⟩
theorem mv_J5_isLatin1_aae02 : MV RJ4 yJ5_isLatin1_aae02 := ⟨tb (i := 968) (by decide +kernel), tb (i := 934) (by decide +kernel), tb (i := 969) (by decide +kernel), by decide⟩
theorem mu_J5_putStringAt_47b60 : MU RJ4 yJ5_putStringAt_47b60 yJ5_putStringAt_47b60 := ⟨tb (i := 1009) (by decide +kernel), xb (i := 2) (by decide +kernel), tb (i := 1568) (by decide +kernel), tb (i := 1009) (by decide +kernel), prog_17_method_73_code, 3, none, tb (i := 1010) (by decide +kernel)⟩
theorem mv_J5_putStringAt_47b60 : MV RJ4 yJ5_putStringAt_47b60 := ⟨tb (i := 1009) (by decide +kernel), tb (i := 934) (by decide +kernel), tb (i := 1568) (by decide +kernel), by decide⟩
theorem mu_J5_inflateIfNeededFor_a7421 : MU RJ4 yJ5_inflateIfNeededFor_a7421 yJ5_inflateIfNeededFor_a7421 := ⟨tb (i := 1013) (by decide +kernel), xb (i := 3) (by decide +kernel), tb (i := 1569) (by decide +kernel), tb (i := 1013) (by decide +kernel), prog_17_method_71_code, 2, none, tb (i := 1014) (by decide +kernel)⟩
theorem mv_J5_inflateIfNeededFor_a7421 : MV RJ4 yJ5_inflateIfNeededFor_a7421 := ⟨tb (i := 1013) (by decide +kernel), tb (i := 934) (by decide +kernel), tb (i := 1569) (by decide +kernel), by decide⟩
theorem mv_J5_inflate_da8c8 : MV RJ4 yJ5_inflate_da8c8 := ⟨tb (i := 1018) (by decide +kernel), tb (i := 934) (by decide +kernel), tb (i := 1570) (by decide +kernel), by decide⟩
theorem mv_J5_append_3fe6f : MV RJ4 yJ5_append_3fe6f := ⟨tb (i := 1046) (by decide +kernel), tb (i := 934) (by decide +kernel), tb (i := 1571) (by decide +kernel), by decide⟩
theorem mv_J5_append_c97b9 : MV RJ4 yJ5_append_c97b9 := ⟨tb (i := 1068) (by decide +kernel), tb (i := 934) (by decide +kernel), tb (i := 1572) (by decide +kernel), by decide⟩
theorem mu_J5_getValue_6d5f1 : MU RJ4 yJ5_getValue_6d5f1 yJ5_getValue_6d5f1 := ⟨tb (i := 1113) (by decide +kernel), tb (i := 1115) (by decide +kernel), tb (i := 1114) (by decide +kernel), tb (i := 1113) (by decide +kernel), prog_17_method_64_code, 1, (some (.array .byte)), tb (i := 1116) (by decide +kernel)⟩
theorem mv_J5_getValue_6d5f1 : MV RJ4 yJ5_getValue_6d5f1 := ⟨tb (i := 1113) (by decide +kernel), tb (i := 934) (by decide +kernel), tb (i := 1114) (by decide +kernel), by decide⟩
theorem mu_J5_length_8abf5 : MU RJ4 yJ5_length_8abf5 yJ4_length_8abf5 := ⟨tb (i := 1121) (by decide +kernel), tb (i := 1120) (by decide +kernel), tb (i := 1119) (by decide +kernel), tb (i := 1118) (by decide +kernel), prog_17_method_6_code, 1, (some .int), tb (i := 1124) (by decide +kernel)⟩
theorem mv_J5_length_8abf5 : MV RJ4 yJ5_length_8abf5 := ⟨tb (i := 1118) (by decide +kernel), tb (i := 934) (by decide +kernel), tb (i := 1119) (by decide +kernel), by decide⟩
theorem ob_n : Cond.native ⟨"java/lang/Object", "clone", "()Ljava/lang/Object;"⟩ ∈ gwt := tb (i := 962) (by decide +kernel)
theorem ob_i : Cond.instanceMethod ⟨"java/lang/Object", "clone", "()Ljava/lang/Object;"⟩ ∈ gwt := tb (i := 963) (by decide +kernel)
theorem ob_sI : Cond.sameMethod "[I" "java/lang/Object" "clone" "()Ljava/lang/Object;" ∈ gwt := tb (i := 1530) (by decide +kernel)
theorem ob_lI : Cond.selects "[I" ⟨"[I", "clone", "()Ljava/lang/Object;"⟩ ⟨"java/lang/Object", "clone", "()Ljava/lang/Object;"⟩ ∈ gwt := tb (i := 1531) (by decide +kernel)
theorem ob_cI : Cond.castable "[I" "java/lang/Cloneable" ∈ nst := nb (i := 1532) (by decide +kernel)
theorem ob_sB : Cond.sameMethod "[B" "java/lang/Object" "clone" "()Ljava/lang/Object;" ∈ gwt := tb (i := 961) (by decide +kernel)
theorem ob_lB : Cond.selects "[B" ⟨"[B", "clone", "()Ljava/lang/Object;"⟩ ⟨"java/lang/Object", "clone", "()Ljava/lang/Object;"⟩ ∈ gwt := tb (i := 964) (by decide +kernel)
theorem ob_cB : Cond.castable "[B" "java/lang/Cloneable" ∈ nst := nb (i := 965) (by decide +kernel)
theorem oc_J7_310 : Cond.methodLink RJ7 310 ⟨"[B", "clone", "()Ljava/lang/Object;"⟩ ∈ gwt := tb (i := 960) (by decide +kernel)
theorem oc_L_282 : Cond.methodLink RL 282 ⟨"[I", "clone", "()Ljava/lang/Object;"⟩ ∈ gwt := tb (i := 1529) (by decide +kernel)
theorem gx_Jx4a65c_39 : Cond.fieldLink RJx4a65c 39 "java/util/ArrayList" "DEFAULTCAPACITY_EMPTY_ELEMENTDATA" "[Ljava/lang/Object;" ∈ gwt := tb (i := 652) (by decide +kernel)
theorem gx_J5_18 : Cond.fieldLink RJ5 18 "java/lang/String" "COMPACT_STRINGS" "Z" ∈ gwt := tb (i := 913) (by decide +kernel)
theorem gx_J0_1053 : Cond.fieldLink RJ0 1053 "jdk/internal/util/Preconditions" "SIOOBE_FORMATTER" "Ljava/util/function/BiFunction;" ∈ gwt := tb (i := 984) (by decide +kernel)
theorem gx_J0_38 : Cond.fieldLink RJ0 38 "java/lang/String" "COMPACT_STRINGS" "Z" ∈ gwt := tb (i := 1006) (by decide +kernel)
theorem gx_J6_83 : Cond.fieldLink RJ6 83 "java/lang/Integer" "DigitOnes" "[B" ∈ gwt := tb (i := 1076) (by decide +kernel)
theorem gx_J6_87 : Cond.fieldLink RJ6 87 "java/lang/Integer" "DigitTens" "[B" ∈ gwt := tb (i := 1078) (by decide +kernel)
theorem gx_J2_403 : Cond.fieldLink RJ2 403 "java/lang/Integer" "DigitOnes" "[B" ∈ gwt := tb (i := 1086) (by decide +kernel)
theorem gx_J2_407 : Cond.fieldLink RJ2 407 "java/lang/Integer" "DigitTens" "[B" ∈ gwt := tb (i := 1087) (by decide +kernel)
theorem ca_list : Cond.castable "java/util/ArrayList" "java/lang/Object" ∈ nst := nb (i := 1586) (by decide +kernel)
end
section
theorem zz_end : True := trivial
end
