section
/-- a private method of a class that the tables say can be made, by its rows of tables_1 -/
def lw_okq (q : MethodName × Nat) : Prop := (q.1.cls ≠ "java/lang/invoke/MethodHandle" ∧ q.1.cls ≠ "java/lang/invoke/VarHandle") ∧ Cond.instantiable q.1.cls q.2 ∈ tables_1 ∧ Cond.privateMethod q.1 ∈ tables_1 ∧ Cond.instanceMethod q.1 ∈ tables_1
theorem lw_p0 : lw_okq (⟨"RateLimiter", "isRequest", "(II)Z"⟩, 8) := ⟨⟨by decide +kernel, by decide +kernel⟩, List.mem_of_getElem? (i := 32) (by decide +kernel), List.mem_of_getElem? (i := 462) (by decide +kernel), List.mem_of_getElem? (i := 463) (by decide +kernel)⟩
theorem lw_p1 : lw_okq (⟨"RateLimiter$State", "frontDistance", "(LRateLimiter$Setup;I)I"⟩, 9) := ⟨⟨by decide +kernel, by decide +kernel⟩, List.mem_of_getElem? (i := 261) (by decide +kernel), List.mem_of_getElem? (i := 514) (by decide +kernel), List.mem_of_getElem? (i := 515) (by decide +kernel)⟩
theorem lw_p2 : lw_okq (⟨"RateLimiter$State", "precedes", "(LRateLimiter$Setup;II)Z"⟩, 9) := ⟨⟨by decide +kernel, by decide +kernel⟩, List.mem_of_getElem? (i := 261) (by decide +kernel), List.mem_of_getElem? (i := 520) (by decide +kernel), List.mem_of_getElem? (i := 521) (by decide +kernel)⟩
theorem lw_p3 : lw_okq (⟨"RateLimiter", "canAdvance", "(I)Z"⟩, 8) := ⟨⟨by decide +kernel, by decide +kernel⟩, List.mem_of_getElem? (i := 32) (by decide +kernel), List.mem_of_getElem? (i := 535) (by decide +kernel), List.mem_of_getElem? (i := 536) (by decide +kernel)⟩
theorem lw_p4 : lw_okq (⟨"RateLimiter$State", "makeChanges", "(LRateLimiter$Setup;)V"⟩, 9) := ⟨⟨by decide +kernel, by decide +kernel⟩, List.mem_of_getElem? (i := 261) (by decide +kernel), List.mem_of_getElem? (i := 547) (by decide +kernel), List.mem_of_getElem? (i := 548) (by decide +kernel)⟩
theorem lw_p5 : lw_okq (⟨"RateLimiter$State", "dropOld", "(LRateLimiter$Setup;)V"⟩, 9) := ⟨⟨by decide +kernel, by decide +kernel⟩, List.mem_of_getElem? (i := 261) (by decide +kernel), List.mem_of_getElem? (i := 562) (by decide +kernel), List.mem_of_getElem? (i := 563) (by decide +kernel)⟩
theorem lw_p6 : lw_okq (⟨"RateLimiter$State", "isFrontOld", "(II)Z"⟩, 9) := ⟨⟨by decide +kernel, by decide +kernel⟩, List.mem_of_getElem? (i := 261) (by decide +kernel), List.mem_of_getElem? (i := 566) (by decide +kernel), List.mem_of_getElem? (i := 567) (by decide +kernel)⟩
theorem lw_p7 : lw_okq (⟨"RateLimiter$Queues", "moveUp", "([II)V"⟩, 5) := ⟨⟨by decide +kernel, by decide +kernel⟩, List.mem_of_getElem? (i := 289) (by decide +kernel), List.mem_of_getElem? (i := 574) (by decide +kernel), List.mem_of_getElem? (i := 575) (by decide +kernel)⟩
theorem lw_p8 : lw_okq (⟨"RateLimiter$State", "dispatch", "(LRateLimiter$Setup;)I"⟩, 9) := ⟨⟨by decide +kernel, by decide +kernel⟩, List.mem_of_getElem? (i := 261) (by decide +kernel), List.mem_of_getElem? (i := 579) (by decide +kernel), List.mem_of_getElem? (i := 580) (by decide +kernel)⟩
theorem lw_p9 : lw_okq (⟨"RateLimiter", "logEntry", "(I)I"⟩, 8) := ⟨⟨by decide +kernel, by decide +kernel⟩, List.mem_of_getElem? (i := 32) (by decide +kernel), List.mem_of_getElem? (i := 603) (by decide +kernel), List.mem_of_getElem? (i := 604) (by decide +kernel)⟩
theorem lw_p10 : lw_okq (⟨"RateLimiter", "change", "(III)I"⟩, 8) := ⟨⟨by decide +kernel, by decide +kernel⟩, List.mem_of_getElem? (i := 32) (by decide +kernel), List.mem_of_getElem? (i := 623) (by decide +kernel), List.mem_of_getElem? (i := 624) (by decide +kernel)⟩
theorem lw_p11 : lw_okq (⟨"java/util/ArrayList", "add", "(Ljava/lang/Object;[Ljava/lang/Object;I)V"⟩, 3) := ⟨⟨by decide +kernel, by decide +kernel⟩, List.mem_of_getElem? (i := 641) (by decide +kernel), List.mem_of_getElem? (i := 678) (by decide +kernel), List.mem_of_getElem? (i := 679) (by decide +kernel)⟩
theorem lw_p12 : lw_okq (⟨"java/util/ArrayList", "grow", "()[Ljava/lang/Object;"⟩, 3) := ⟨⟨by decide +kernel, by decide +kernel⟩, List.mem_of_getElem? (i := 641) (by decide +kernel), List.mem_of_getElem? (i := 682) (by decide +kernel), List.mem_of_getElem? (i := 683) (by decide +kernel)⟩
theorem lw_p13 : lw_okq (⟨"java/util/ArrayList", "grow", "(I)[Ljava/lang/Object;"⟩, 3) := ⟨⟨by decide +kernel, by decide +kernel⟩, List.mem_of_getElem? (i := 641) (by decide +kernel), List.mem_of_getElem? (i := 686) (by decide +kernel), List.mem_of_getElem? (i := 687) (by decide +kernel)⟩
theorem lw_p14 : lw_okq (⟨"java/util/ArrayList", "fastRemove", "([Ljava/lang/Object;I)V"⟩, 3) := ⟨⟨by decide +kernel, by decide +kernel⟩, List.mem_of_getElem? (i := 641) (by decide +kernel), List.mem_of_getElem? (i := 872) (by decide +kernel), List.mem_of_getElem? (i := 873) (by decide +kernel)⟩
theorem lw_p15 : lw_okq (⟨"RateLimiterLaw$Tree", "isAhead", "(II)Z"⟩, 25) := ⟨⟨by decide +kernel, by decide +kernel⟩, List.mem_of_getElem? (i := 635) (by decide +kernel), List.mem_of_getElem? (i := 881) (by decide +kernel), List.mem_of_getElem? (i := 882) (by decide +kernel)⟩
def lw_privs_1 : List (MethodName × Nat) := [(⟨"RateLimiter", "isRequest", "(II)Z"⟩, 8), (⟨"RateLimiter$State", "frontDistance", "(LRateLimiter$Setup;I)I"⟩, 9), (⟨"RateLimiter$State", "precedes", "(LRateLimiter$Setup;II)Z"⟩, 9), (⟨"RateLimiter", "canAdvance", "(I)Z"⟩, 8), (⟨"RateLimiter$State", "makeChanges", "(LRateLimiter$Setup;)V"⟩, 9), (⟨"RateLimiter$State", "dropOld", "(LRateLimiter$Setup;)V"⟩, 9), (⟨"RateLimiter$State", "isFrontOld", "(II)Z"⟩, 9), (⟨"RateLimiter$Queues", "moveUp", "([II)V"⟩, 5), (⟨"RateLimiter$State", "dispatch", "(LRateLimiter$Setup;)I"⟩, 9), (⟨"RateLimiter", "logEntry", "(I)I"⟩, 8), (⟨"RateLimiter", "change", "(III)I"⟩, 8), (⟨"java/util/ArrayList", "add", "(Ljava/lang/Object;[Ljava/lang/Object;I)V"⟩, 3), (⟨"java/util/ArrayList", "grow", "()[Ljava/lang/Object;"⟩, 3), (⟨"java/util/ArrayList", "grow", "(I)[Ljava/lang/Object;"⟩, 3), (⟨"java/util/ArrayList", "fastRemove", "([Ljava/lang/Object;I)V"⟩, 3), (⟨"RateLimiterLaw$Tree", "isAhead", "(II)Z"⟩, 25)]
theorem lw_r1 : ∀ q ∈ lw_privs_1, lw_okq q := List.forall_mem_cons.mpr ⟨lw_p0, List.forall_mem_cons.mpr ⟨lw_p1, List.forall_mem_cons.mpr ⟨lw_p2, List.forall_mem_cons.mpr ⟨lw_p3, List.forall_mem_cons.mpr ⟨lw_p4, List.forall_mem_cons.mpr ⟨lw_p5, List.forall_mem_cons.mpr ⟨lw_p6, List.forall_mem_cons.mpr ⟨lw_p7, List.forall_mem_cons.mpr ⟨lw_p8, List.forall_mem_cons.mpr ⟨lw_p9, List.forall_mem_cons.mpr ⟨lw_p10, List.forall_mem_cons.mpr ⟨lw_p11, List.forall_mem_cons.mpr ⟨lw_p12, List.forall_mem_cons.mpr ⟨lw_p13, List.forall_mem_cons.mpr ⟨lw_p14, List.forall_mem_cons.mpr ⟨lw_p15, fun _ h => absurd h List.not_mem_nil⟩⟩⟩⟩⟩⟩⟩⟩⟩⟩⟩⟩⟩⟩⟩⟩
theorem lw_p16 : lw_okq (⟨"RateLimiter$Reader", "begin", "()V"⟩, 11) := ⟨⟨by decide +kernel, by decide +kernel⟩, List.mem_of_getElem? (i := 56) (by decide +kernel), List.mem_of_getElem? (i := 1199) (by decide +kernel), List.mem_of_getElem? (i := 1200) (by decide +kernel)⟩
theorem lw_p17 : lw_okq (⟨"RateLimiter$Scanner", "skipSpaces", "(LRateLimiter$Text;)V"⟩, 6) := ⟨⟨by decide +kernel, by decide +kernel⟩, List.mem_of_getElem? (i := 177) (by decide +kernel), List.mem_of_getElem? (i := 1215) (by decide +kernel), List.mem_of_getElem? (i := 1216) (by decide +kernel)⟩
theorem lw_p18 : lw_okq (⟨"RateLimiter$Scanner", "scanWord", "(LRateLimiter$Text;)V"⟩, 6) := ⟨⟨by decide +kernel, by decide +kernel⟩, List.mem_of_getElem? (i := 177) (by decide +kernel), List.mem_of_getElem? (i := 1226) (by decide +kernel), List.mem_of_getElem? (i := 1227) (by decide +kernel)⟩
theorem lw_p19 : lw_okq (⟨"RateLimiter$Scanner", "scanNumber", "(LRateLimiter$Text;)V"⟩, 6) := ⟨⟨by decide +kernel, by decide +kernel⟩, List.mem_of_getElem? (i := 177) (by decide +kernel), List.mem_of_getElem? (i := 1258) (by decide +kernel), List.mem_of_getElem? (i := 1259) (by decide +kernel)⟩
theorem lw_p20 : lw_okq (⟨"RateLimiter$Reader", "take", "()I"⟩, 11) := ⟨⟨by decide +kernel, by decide +kernel⟩, List.mem_of_getElem? (i := 56) (by decide +kernel), List.mem_of_getElem? (i := 1262) (by decide +kernel), List.mem_of_getElem? (i := 1263) (by decide +kernel)⟩
theorem lw_p21 : lw_okq (⟨"RateLimiter$Reader", "takeStatement", "()I"⟩, 11) := ⟨⟨by decide +kernel, by decide +kernel⟩, List.mem_of_getElem? (i := 56) (by decide +kernel), List.mem_of_getElem? (i := 1266) (by decide +kernel), List.mem_of_getElem? (i := 1267) (by decide +kernel)⟩
theorem lw_p22 : lw_okq (⟨"RateLimiter$Reader", "takeNodeName", "()I"⟩, 11) := ⟨⟨by decide +kernel, by decide +kernel⟩, List.mem_of_getElem? (i := 56) (by decide +kernel), List.mem_of_getElem? (i := 1270) (by decide +kernel), List.mem_of_getElem? (i := 1271) (by decide +kernel)⟩
theorem lw_p23 : lw_okq (⟨"RateLimiter$Reader", "isName", "()Z"⟩, 11) := ⟨⟨by decide +kernel, by decide +kernel⟩, List.mem_of_getElem? (i := 56) (by decide +kernel), List.mem_of_getElem? (i := 1274) (by decide +kernel), List.mem_of_getElem? (i := 1275) (by decide +kernel)⟩
theorem lw_p24 : lw_okq (⟨"RateLimiter$Reader", "addNode", "(I)V"⟩, 11) := ⟨⟨by decide +kernel, by decide +kernel⟩, List.mem_of_getElem? (i := 56) (by decide +kernel), List.mem_of_getElem? (i := 1282) (by decide +kernel), List.mem_of_getElem? (i := 1283) (by decide +kernel)⟩
theorem lw_p25 : lw_okq (⟨"RateLimiter$Reader", "takeIn", "()I"⟩, 11) := ⟨⟨by decide +kernel, by decide +kernel⟩, List.mem_of_getElem? (i := 56) (by decide +kernel), List.mem_of_getElem? (i := 1296) (by decide +kernel), List.mem_of_getElem? (i := 1297) (by decide +kernel)⟩
theorem lw_p26 : lw_okq (⟨"RateLimiter$Reader", "takeParentName", "()I"⟩, 11) := ⟨⟨by decide +kernel, by decide +kernel⟩, List.mem_of_getElem? (i := 56) (by decide +kernel), List.mem_of_getElem? (i := 1300) (by decide +kernel), List.mem_of_getElem? (i := 1301) (by decide +kernel)⟩
theorem lw_p27 : lw_okq (⟨"RateLimiter$Reader", "takeSetting", "()I"⟩, 11) := ⟨⟨by decide +kernel, by decide +kernel⟩, List.mem_of_getElem? (i := 56) (by decide +kernel), List.mem_of_getElem? (i := 1304) (by decide +kernel), List.mem_of_getElem? (i := 1305) (by decide +kernel)⟩
theorem lw_p28 : lw_okq (⟨"RateLimiter$Reader", "finishNode", "()V"⟩, 11) := ⟨⟨by decide +kernel, by decide +kernel⟩, List.mem_of_getElem? (i := 56) (by decide +kernel), List.mem_of_getElem? (i := 1308) (by decide +kernel), List.mem_of_getElem? (i := 1309) (by decide +kernel)⟩
theorem lw_p29 : lw_okq (⟨"RateLimiter$Reader", "takeSettingValue", "()I"⟩, 11) := ⟨⟨by decide +kernel, by decide +kernel⟩, List.mem_of_getElem? (i := 56) (by decide +kernel), List.mem_of_getElem? (i := 1313) (by decide +kernel), List.mem_of_getElem? (i := 1314) (by decide +kernel)⟩
theorem lw_p30 : lw_okq (⟨"RateLimiter$Reader", "numberFault", "(I)I"⟩, 11) := ⟨⟨by decide +kernel, by decide +kernel⟩, List.mem_of_getElem? (i := 56) (by decide +kernel), List.mem_of_getElem? (i := 1317) (by decide +kernel), List.mem_of_getElem? (i := 1318) (by decide +kernel)⟩
theorem lw_p31 : lw_okq (⟨"RateLimiter$Reader", "takeLimit", "()I"⟩, 11) := ⟨⟨by decide +kernel, by decide +kernel⟩, List.mem_of_getElem? (i := 56) (by decide +kernel), List.mem_of_getElem? (i := 1323) (by decide +kernel), List.mem_of_getElem? (i := 1324) (by decide +kernel)⟩
def lw_privs_2 : List (MethodName × Nat) := [(⟨"RateLimiter$Reader", "begin", "()V"⟩, 11), (⟨"RateLimiter$Scanner", "skipSpaces", "(LRateLimiter$Text;)V"⟩, 6), (⟨"RateLimiter$Scanner", "scanWord", "(LRateLimiter$Text;)V"⟩, 6), (⟨"RateLimiter$Scanner", "scanNumber", "(LRateLimiter$Text;)V"⟩, 6), (⟨"RateLimiter$Reader", "take", "()I"⟩, 11), (⟨"RateLimiter$Reader", "takeStatement", "()I"⟩, 11), (⟨"RateLimiter$Reader", "takeNodeName", "()I"⟩, 11), (⟨"RateLimiter$Reader", "isName", "()Z"⟩, 11), (⟨"RateLimiter$Reader", "addNode", "(I)V"⟩, 11), (⟨"RateLimiter$Reader", "takeIn", "()I"⟩, 11), (⟨"RateLimiter$Reader", "takeParentName", "()I"⟩, 11), (⟨"RateLimiter$Reader", "takeSetting", "()I"⟩, 11), (⟨"RateLimiter$Reader", "finishNode", "()V"⟩, 11), (⟨"RateLimiter$Reader", "takeSettingValue", "()I"⟩, 11), (⟨"RateLimiter$Reader", "numberFault", "(I)I"⟩, 11), (⟨"RateLimiter$Reader", "takeLimit", "()I"⟩, 11)]
theorem lw_r2 : ∀ q ∈ lw_privs_2, lw_okq q := List.forall_mem_cons.mpr ⟨lw_p16, List.forall_mem_cons.mpr ⟨lw_p17, List.forall_mem_cons.mpr ⟨lw_p18, List.forall_mem_cons.mpr ⟨lw_p19, List.forall_mem_cons.mpr ⟨lw_p20, List.forall_mem_cons.mpr ⟨lw_p21, List.forall_mem_cons.mpr ⟨lw_p22, List.forall_mem_cons.mpr ⟨lw_p23, List.forall_mem_cons.mpr ⟨lw_p24, List.forall_mem_cons.mpr ⟨lw_p25, List.forall_mem_cons.mpr ⟨lw_p26, List.forall_mem_cons.mpr ⟨lw_p27, List.forall_mem_cons.mpr ⟨lw_p28, List.forall_mem_cons.mpr ⟨lw_p29, List.forall_mem_cons.mpr ⟨lw_p30, List.forall_mem_cons.mpr ⟨lw_p31, fun _ h => absurd h List.not_mem_nil⟩⟩⟩⟩⟩⟩⟩⟩⟩⟩⟩⟩⟩⟩⟩⟩
theorem lw_p32 : lw_okq (⟨"RateLimiter$Reader", "numberFault", "(II)I"⟩, 11) := ⟨⟨by decide +kernel, by decide +kernel⟩, List.mem_of_getElem? (i := 56) (by decide +kernel), List.mem_of_getElem? (i := 1327) (by decide +kernel), List.mem_of_getElem? (i := 1328) (by decide +kernel)⟩
theorem lw_p33 : lw_okq (⟨"RateLimiter$Reader", "takeAge", "()I"⟩, 11) := ⟨⟨by decide +kernel, by decide +kernel⟩, List.mem_of_getElem? (i := 56) (by decide +kernel), List.mem_of_getElem? (i := 1331) (by decide +kernel), List.mem_of_getElem? (i := 1332) (by decide +kernel)⟩
theorem lw_p34 : lw_okq (⟨"RateLimiter$Reader", "takeChangeTime", "()I"⟩, 11) := ⟨⟨by decide +kernel, by decide +kernel⟩, List.mem_of_getElem? (i := 56) (by decide +kernel), List.mem_of_getElem? (i := 1335) (by decide +kernel), List.mem_of_getElem? (i := 1336) (by decide +kernel)⟩
theorem lw_p35 : lw_okq (⟨"RateLimiter$Reader", "takeChangeName", "()I"⟩, 11) := ⟨⟨by decide +kernel, by decide +kernel⟩, List.mem_of_getElem? (i := 56) (by decide +kernel), List.mem_of_getElem? (i := 1339) (by decide +kernel), List.mem_of_getElem? (i := 1340) (by decide +kernel)⟩
theorem lw_p36 : lw_okq (⟨"RateLimiter$Reader", "takeChangeSetting", "()I"⟩, 11) := ⟨⟨by decide +kernel, by decide +kernel⟩, List.mem_of_getElem? (i := 56) (by decide +kernel), List.mem_of_getElem? (i := 1343) (by decide +kernel), List.mem_of_getElem? (i := 1344) (by decide +kernel)⟩
theorem lw_p37 : lw_okq (⟨"RateLimiter$Reader", "takeChangeValue", "()I"⟩, 11) := ⟨⟨by decide +kernel, by decide +kernel⟩, List.mem_of_getElem? (i := 56) (by decide +kernel), List.mem_of_getElem? (i := 1347) (by decide +kernel), List.mem_of_getElem? (i := 1348) (by decide +kernel)⟩
theorem lw_p38 : lw_okq (⟨"RateLimiter$Reader", "takeStatementEnd", "()I"⟩, 11) := ⟨⟨by decide +kernel, by decide +kernel⟩, List.mem_of_getElem? (i := 56) (by decide +kernel), List.mem_of_getElem? (i := 1355) (by decide +kernel), List.mem_of_getElem? (i := 1356) (by decide +kernel)⟩
def lw_privs_3 : List (MethodName × Nat) := [(⟨"RateLimiter$Reader", "numberFault", "(II)I"⟩, 11), (⟨"RateLimiter$Reader", "takeAge", "()I"⟩, 11), (⟨"RateLimiter$Reader", "takeChangeTime", "()I"⟩, 11), (⟨"RateLimiter$Reader", "takeChangeName", "()I"⟩, 11), (⟨"RateLimiter$Reader", "takeChangeSetting", "()I"⟩, 11), (⟨"RateLimiter$Reader", "takeChangeValue", "()I"⟩, 11), (⟨"RateLimiter$Reader", "takeStatementEnd", "()I"⟩, 11)]
theorem lw_r3 : ∀ q ∈ lw_privs_3, lw_okq q := List.forall_mem_cons.mpr ⟨lw_p32, List.forall_mem_cons.mpr ⟨lw_p33, List.forall_mem_cons.mpr ⟨lw_p34, List.forall_mem_cons.mpr ⟨lw_p35, List.forall_mem_cons.mpr ⟨lw_p36, List.forall_mem_cons.mpr ⟨lw_p37, List.forall_mem_cons.mpr ⟨lw_p38, fun _ h => absurd h List.not_mem_nil⟩⟩⟩⟩⟩⟩⟩
def lw_privs : List (MethodName × Nat) := lw_privs_1 ++ (lw_privs_2 ++ (lw_privs_3))
def lw_tbl : List Cond := k2_sels lw_privs ++ tables_1
theorem lw_privs_ok : ∀ q ∈ lw_privs, lw_okq q := by
  show ∀ q ∈ lw_privs_1 ++ (lw_privs_2 ++ (lw_privs_3)), lw_okq q
  exact List.forall_mem_append.mpr ⟨lw_r1, List.forall_mem_append.mpr ⟨lw_r2, lw_r3⟩⟩
end
section
def RX0 : String := "RateLimiter$Accounts"
def TX0 : u_T := fun k => match k with
  | 0 => ("RateLimiter$Accounts", "tokens", "[I", true)
  | 1 => ("RateLimiter$Accounts", "credit", "[I", true)
  | _ => ("RateLimiter$Accounts", "headroom", "[I", true)
def tyX0 : Nat → FieldType := fun k => match k with
  | 0 => .array .int
  | 1 => .array .int
  | _ => .array .int
abbrev wsX00 : List Cond := u_ws RX0 TX0 3
theorem nmX0 : ∀ a, a < 3 → ∀ b, b < 3 → a ≠ b → (TX0 a).2.1 ≠ (TX0 b).2.1 := by decide +kernel
theorem tyX0_ok : ∀ k, k < 3 → parseFieldDescriptor (TX0 k).2.2.1 = some (tyX0 k) := by decide +kernel
abbrev cX0_init : ByteArray := prog_2_method_1_code
def yX0_init : MethodName := ⟨RX0, "<init>", "()V"⟩
abbrev cX0_begin : ByteArray := prog_2_method_2_code
def yX0_begin : MethodName := ⟨RX0, "begin", "(LRateLimiter$Setup;)V"⟩
abbrev cX0_copyFrom : ByteArray := prog_2_method_3_code
def yX0_copyFrom : MethodName := ⟨RX0, "copyFrom", "(LRateLimiter$Accounts;)V"⟩
abbrev cX0_refill : ByteArray := prog_2_method_4_code
def yX0_refill : MethodName := ⟨RX0, "refill", "(LRateLimiter$Setup;III)V"⟩
abbrev cX0_findBlocking : ByteArray := prog_2_method_5_code
def yX0_findBlocking : MethodName := ⟨RX0, "findBlocking", "(LRateLimiter$Setup;II)I"⟩
abbrev cX0_findLender : ByteArray := prog_2_method_6_code
def yX0_findLender : MethodName := ⟨RX0, "findLender", "(LRateLimiter$Setup;II)I"⟩
abbrev cX0_pay : ByteArray := prog_2_method_7_code
def yX0_pay : MethodName := ⟨RX0, "pay", "(LRateLimiter$Setup;III)V"⟩
abbrev cX0_payOften : ByteArray := prog_2_method_8_code
def yX0_payOften : MethodName := ⟨RX0, "payOften", "(LRateLimiter$Setup;II)I"⟩
def RX1 : String := "RateLimiter$Changes"
def TX1 : u_T := fun k => match k with
  | 0 => ("RateLimiter$Changes", "count", "I", false)
  | 1 => ("RateLimiter$Changes", "time", "[I", true)
  | 2 => ("RateLimiter$Changes", "node", "[I", true)
  | 3 => ("RateLimiter$Changes", "setting", "[I", true)
  | _ => ("RateLimiter$Changes", "value", "[I", true)
def tyX1 : Nat → FieldType := fun k => match k with
  | 0 => .int
  | 1 => .array .int
  | 2 => .array .int
  | 3 => .array .int
  | _ => .array .int
abbrev wsX10 : List Cond := u_ws RX1 TX1 5
theorem nmX1 : ∀ a, a < 5 → ∀ b, b < 5 → a ≠ b → (TX1 a).2.1 ≠ (TX1 b).2.1 := by decide +kernel
theorem tyX1_ok : ∀ k, k < 5 → parseFieldDescriptor (TX1 k).2.2.1 = some (tyX1 k) := by decide +kernel
abbrev cX1_init : ByteArray := prog_3_method_1_code
def yX1_init : MethodName := ⟨RX1, "<init>", "()V"⟩
abbrev cX1_add : ByteArray := prog_3_method_2_code
def yX1_add : MethodName := ⟨RX1, "add", "(IIII)V"⟩
def RX2 : String := "RateLimiter$Counts"
def TX2 : u_T := fun k => match k with
  | 0 => ("RateLimiter$Counts", "sentCost", "[I", true)
  | 1 => ("RateLimiter$Counts", "sentCount", "[I", true)
  | 2 => ("RateLimiter$Counts", "borrowedCost", "[I", true)
  | 3 => ("RateLimiter$Counts", "lentCost", "[I", true)
  | _ => ("RateLimiter$Counts", "droppedCount", "[I", true)
def tyX2 : Nat → FieldType := fun k => match k with
  | 0 => .array .int
  | 1 => .array .int
  | 2 => .array .int
  | 3 => .array .int
  | _ => .array .int
abbrev wsX20 : List Cond := u_ws RX2 TX2 5
theorem nmX2 : ∀ a, a < 5 → ∀ b, b < 5 → a ≠ b → (TX2 a).2.1 ≠ (TX2 b).2.1 := by decide +kernel
theorem tyX2_ok : ∀ k, k < 5 → parseFieldDescriptor (TX2 k).2.2.1 = some (tyX2 k) := by decide +kernel
abbrev cX2_init : ByteArray := prog_4_method_1_code
def yX2_init : MethodName := ⟨RX2, "<init>", "()V"⟩
abbrev cX2_begin : ByteArray := prog_4_method_2_code
def yX2_begin : MethodName := ⟨RX2, "begin", "()V"⟩
abbrev cX2_countSent : ByteArray := prog_4_method_4_code
def yX2_countSent : MethodName := ⟨RX2, "countSent", "(III)V"⟩
def RX3 : String := "RateLimiter$Log"
def TX3 : u_T := fun k => match k with
  | 0 => ("RateLimiter$Log", "count", "I", false)
  | 1 => ("RateLimiter$Log", "leaf", "[I", true)
  | 2 => ("RateLimiter$Log", "cost", "[I", true)
  | 3 => ("RateLimiter$Log", "lender", "[I", true)
  | _ => ("RateLimiter$Log", "time", "[I", true)
def tyX3 : Nat → FieldType := fun k => match k with
  | 0 => .int
  | 1 => .array .int
  | 2 => .array .int
  | 3 => .array .int
  | _ => .array .int
abbrev wsX30 : List Cond := u_ws RX3 TX3 5
theorem nmX3 : ∀ a, a < 5 → ∀ b, b < 5 → a ≠ b → (TX3 a).2.1 ≠ (TX3 b).2.1 := by decide +kernel
theorem tyX3_ok : ∀ k, k < 5 → parseFieldDescriptor (TX3 k).2.2.1 = some (tyX3 k) := by decide +kernel
abbrev cX3_init : ByteArray := prog_5_method_1_code
def yX3_init : MethodName := ⟨RX3, "<init>", "()V"⟩
abbrev cX3_add : ByteArray := prog_5_method_3_code
def yX3_add : MethodName := ⟨RX3, "add", "(IIII)V"⟩
abbrev cX3_putFirst : ByteArray := prog_5_method_4_code
def yX3_putFirst : MethodName := ⟨RX3, "putFirst", "([II)V"⟩
def RX4 : String := "RateLimiter$Queues"
def TX4 : u_T := fun k => match k with
  | 0 => ("RateLimiter$Queues", "length", "[I", true)
  | 1 => ("RateLimiter$Queues", "number", "[I", true)
  | 2 => ("RateLimiter$Queues", "cost", "[I", true)
  | 3 => ("RateLimiter$Queues", "since", "[I", true)
  | _ => ("RateLimiter$Queues", "nextNumber", "I", false)
def tyX4 : Nat → FieldType := fun k => match k with
  | 0 => .array .int
  | 1 => .array .int
  | 2 => .array .int
  | 3 => .array .int
  | _ => .int
abbrev wsX40 : List Cond := u_ws RX4 TX4 5
theorem nmX4 : ∀ a, a < 5 → ∀ b, b < 5 → a ≠ b → (TX4 a).2.1 ≠ (TX4 b).2.1 := by decide +kernel
theorem tyX4_ok : ∀ k, k < 5 → parseFieldDescriptor (TX4 k).2.2.1 = some (tyX4 k) := by decide +kernel
abbrev cX4_init : ByteArray := prog_6_method_1_code
def yX4_init : MethodName := ⟨RX4, "<init>", "()V"⟩
abbrev cX4_begin : ByteArray := prog_6_method_2_code
def yX4_begin : MethodName := ⟨RX4, "begin", "()V"⟩
abbrev cX4_removeFront : ByteArray := prog_6_method_6_code
def yX4_removeFront : MethodName := ⟨RX4, "removeFront", "(I)V"⟩
abbrev cX4_moveUp : ByteArray := prog_6_method_7_code
def yX4_moveUp : MethodName := ⟨RX4, "moveUp", "([II)V"⟩
def RX5 : String := "RateLimiter$Reader"
def TX5 : u_T := fun k => match k with
  | 0 => ("RateLimiter$Reader", "faultCode", "I", false)
  | 1 => ("RateLimiter$Reader", "faultPosition", "I", false)
  | 2 => ("RateLimiter$Reader", "draft", "LRateLimiter$Setup;", false)
  | 3 => ("RateLimiter$Reader", "token", "LRateLimiter$Scanner;", true)
  | 4 => ("RateLimiter$Reader", "expected", "I", false)
  | 5 => ("RateLimiter$Reader", "limitGiven", "Z", false)
  | 6 => ("RateLimiter$Reader", "nodeName", "J", false)
  | 7 => ("RateLimiter$Reader", "settingsGiven", "I", false)
  | 8 => ("RateLimiter$Reader", "setting", "I", false)
  | 9 => ("RateLimiter$Reader", "changeTime", "I", false)
  | _ => ("RateLimiter$Reader", "changeNode", "I", false)
def tyX5 : Nat → FieldType := fun k => match k with
  | 0 => .int
  | 1 => .int
  | 2 => .object "RateLimiter$Setup"
  | 3 => .object "RateLimiter$Scanner"
  | 4 => .int
  | 5 => .boolean
  | 6 => .long
  | 7 => .int
  | 8 => .int
  | 9 => .int
  | _ => .int
abbrev wsX50 : List Cond := u_ws RX5 TX5 11
theorem nmX5 : ∀ a, a < 11 → ∀ b, b < 11 → a ≠ b → (TX5 a).2.1 ≠ (TX5 b).2.1 := by decide +kernel
theorem tyX5_ok : ∀ k, k < 11 → parseFieldDescriptor (TX5 k).2.2.1 = some (tyX5 k) := by decide +kernel
abbrev cX5_init : ByteArray := prog_7_method_1_code
def yX5_init : MethodName := ⟨RX5, "<init>", "()V"⟩
abbrev cX5_read : ByteArray := prog_7_method_2_code
def yX5_read : MethodName := ⟨RX5, "read", "(LRateLimiter$Text;)V"⟩
abbrev cX5_begin : ByteArray := prog_7_method_3_code
def yX5_begin : MethodName := ⟨RX5, "begin", "()V"⟩
abbrev cX5_take : ByteArray := prog_7_method_4_code
def yX5_take : MethodName := ⟨RX5, "take", "()I"⟩
abbrev cX5_takeStatement : ByteArray := prog_7_method_5_code
def yX5_takeStatement : MethodName := ⟨RX5, "takeStatement", "()I"⟩
abbrev cX5_isName : ByteArray := prog_7_method_6_code
def yX5_isName : MethodName := ⟨RX5, "isName", "()Z"⟩
abbrev cX5_takeNodeName : ByteArray := prog_7_method_7_code
def yX5_takeNodeName : MethodName := ⟨RX5, "takeNodeName", "()I"⟩
abbrev cX5_takeIn : ByteArray := prog_7_method_8_code
def yX5_takeIn : MethodName := ⟨RX5, "takeIn", "()I"⟩
abbrev cX5_takeParentName : ByteArray := prog_7_method_9_code
def yX5_takeParentName : MethodName := ⟨RX5, "takeParentName", "()I"⟩
abbrev cX5_addNode : ByteArray := prog_7_method_10_code
def yX5_addNode : MethodName := ⟨RX5, "addNode", "(I)V"⟩
abbrev cX5_takeSetting : ByteArray := prog_7_method_11_code
def yX5_takeSetting : MethodName := ⟨RX5, "takeSetting", "()I"⟩
abbrev cX5_finishNode : ByteArray := prog_7_method_12_code
def yX5_finishNode : MethodName := ⟨RX5, "finishNode", "()V"⟩
abbrev cX5_takeSettingValue : ByteArray := prog_7_method_13_code
def yX5_takeSettingValue : MethodName := ⟨RX5, "takeSettingValue", "()I"⟩
abbrev cX5_numberFault : ByteArray := prog_7_method_14_code
def yX5_numberFault : MethodName := ⟨RX5, "numberFault", "(I)I"⟩
abbrev cX5_numberFault_ : ByteArray := prog_7_method_15_code
def yX5_numberFault_ : MethodName := ⟨RX5, "numberFault", "(II)I"⟩
abbrev cX5_takeLimit : ByteArray := prog_7_method_16_code
def yX5_takeLimit : MethodName := ⟨RX5, "takeLimit", "()I"⟩
abbrev cX5_takeAge : ByteArray := prog_7_method_17_code
def yX5_takeAge : MethodName := ⟨RX5, "takeAge", "()I"⟩
abbrev cX5_takeChangeTime : ByteArray := prog_7_method_18_code
def yX5_takeChangeTime : MethodName := ⟨RX5, "takeChangeTime", "()I"⟩
abbrev cX5_takeChangeName : ByteArray := prog_7_method_19_code
def yX5_takeChangeName : MethodName := ⟨RX5, "takeChangeName", "()I"⟩
abbrev cX5_takeChangeSetting : ByteArray := prog_7_method_20_code
def yX5_takeChangeSetting : MethodName := ⟨RX5, "takeChangeSetting", "()I"⟩
abbrev cX5_takeChangeValue : ByteArray := prog_7_method_21_code
def yX5_takeChangeValue : MethodName := ⟨RX5, "takeChangeValue", "()I"⟩
abbrev cX5_takeStatementEnd : ByteArray := prog_7_method_22_code
def yX5_takeStatementEnd : MethodName := ⟨RX5, "takeStatementEnd", "()I"⟩
def RX6 : String := "RateLimiter$Scanner"
def TX6 : u_T := fun k => match k with
  | 0 => ("RateLimiter$Scanner", "next", "I", false)
  | 1 => ("RateLimiter$Scanner", "kind", "I", false)
  | 2 => ("RateLimiter$Scanner", "start", "I", false)
  | 3 => ("RateLimiter$Scanner", "word", "J", false)
  | 4 => ("RateLimiter$Scanner", "keyword", "I", false)
  | _ => ("RateLimiter$Scanner", "number", "I", false)
def tyX6 : Nat → FieldType := fun k => match k with
  | 0 => .int
  | 1 => .int
  | 2 => .int
  | 3 => .long
  | 4 => .int
  | _ => .int
abbrev wsX60 : List Cond := u_ws RX6 TX6 6
theorem nmX6 : ∀ a, a < 6 → ∀ b, b < 6 → a ≠ b → (TX6 a).2.1 ≠ (TX6 b).2.1 := by decide +kernel
theorem tyX6_ok : ∀ k, k < 6 → parseFieldDescriptor (TX6 k).2.2.1 = some (tyX6 k) := by decide +kernel
abbrev cX6_init : ByteArray := prog_8_method_1_code
def yX6_init : MethodName := ⟨RX6, "<init>", "()V"⟩
abbrev cX6_begin : ByteArray := prog_8_method_2_code
def yX6_begin : MethodName := ⟨RX6, "begin", "()V"⟩
abbrev cX6_scan : ByteArray := prog_8_method_3_code
def yX6_scan : MethodName := ⟨RX6, "scan", "(LRateLimiter$Text;)V"⟩
abbrev cX6_skipSpaces : ByteArray := prog_8_method_4_code
def yX6_skipSpaces : MethodName := ⟨RX6, "skipSpaces", "(LRateLimiter$Text;)V"⟩
abbrev cX6_scanWord : ByteArray := prog_8_method_5_code
def yX6_scanWord : MethodName := ⟨RX6, "scanWord", "(LRateLimiter$Text;)V"⟩
abbrev cX6_scanNumber : ByteArray := prog_8_method_6_code
def yX6_scanNumber : MethodName := ⟨RX6, "scanNumber", "(LRateLimiter$Text;)V"⟩
abbrev cX6_isLetter : ByteArray := prog_8_method_7_code
def yX6_isLetter : MethodName := ⟨RX6, "isLetter", "(I)Z"⟩
abbrev cX6_isDigit : ByteArray := prog_8_method_8_code
def yX6_isDigit : MethodName := ⟨RX6, "isDigit", "(I)Z"⟩
def RX7 : String := "RateLimiter$Setup"
def TX7 : u_T := fun k => match k with
  | 0 => ("RateLimiter$Setup", "nodeCount", "I", false)
  | 1 => ("RateLimiter$Setup", "name", "[J", true)
  | 2 => ("RateLimiter$Setup", "parent", "[I", true)
  | 3 => ("RateLimiter$Setup", "depth", "[I", true)
  | 4 => ("RateLimiter$Setup", "childCount", "[I", true)
  | 5 => ("RateLimiter$Setup", "rate", "[I", true)
  | 6 => ("RateLimiter$Setup", "ceiling", "[I", true)
  | 7 => ("RateLimiter$Setup", "burst", "[I", true)
  | 8 => ("RateLimiter$Setup", "creditLimit", "[I", true)
  | 9 => ("RateLimiter$Setup", "weight", "[I", true)
  | 10 => ("RateLimiter$Setup", "priority", "[I", true)
  | 11 => ("RateLimiter$Setup", "alone", "[Z", true)
  | 12 => ("RateLimiter$Setup", "changes", "LRateLimiter$Changes;", true)
  | 13 => ("RateLimiter$Setup", "limit", "I", false)
  | _ => ("RateLimiter$Setup", "greatestAge", "I", false)
def tyX7 : Nat → FieldType := fun k => match k with
  | 0 => .int
  | 1 => .array .long
  | 2 => .array .int
  | 3 => .array .int
  | 4 => .array .int
  | 5 => .array .int
  | 6 => .array .int
  | 7 => .array .int
  | 8 => .array .int
  | 9 => .array .int
  | 10 => .array .int
  | 11 => .array .boolean
  | 12 => .object "RateLimiter$Changes"
  | 13 => .int
  | _ => .int
abbrev wsX70 : List Cond := u_ws RX7 TX7 15
theorem nmX7 : ∀ a, a < 15 → ∀ b, b < 15 → a ≠ b → (TX7 a).2.1 ≠ (TX7 b).2.1 := by decide +kernel
theorem tyX7_ok : ∀ k, k < 15 → parseFieldDescriptor (TX7 k).2.2.1 = some (tyX7 k) := by decide +kernel
abbrev cX7_init : ByteArray := prog_9_method_1_code
def yX7_init : MethodName := ⟨RX7, "<init>", "()V"⟩
abbrev cX7_clear : ByteArray := prog_9_method_2_code
def yX7_clear : MethodName := ⟨RX7, "clear", "()V"⟩
abbrev cX7_hasNode : ByteArray := prog_9_method_3_code
def yX7_hasNode : MethodName := ⟨RX7, "hasNode", "(I)Z"⟩
abbrev cX7_hasLeaf : ByteArray := prog_9_method_4_code
def yX7_hasLeaf : MethodName := ⟨RX7, "hasLeaf", "(I)Z"⟩
abbrev cX7_findNode : ByteArray := prog_9_method_5_code
def yX7_findNode : MethodName := ⟨RX7, "findNode", "(J)I"⟩
abbrev cX7_addNode : ByteArray := prog_9_method_6_code
def yX7_addNode : MethodName := ⟨RX7, "addNode", "(JI)V"⟩
abbrev cX7_row : ByteArray := prog_9_method_7_code
def yX7_row : MethodName := ⟨RX7, "row", "(I)[I"⟩
abbrev cX7_childOf : ByteArray := prog_9_method_8_code
def yX7_childOf : MethodName := ⟨RX7, "childOf", "(II)I"⟩
abbrev cX7_distance : ByteArray := prog_9_method_9_code
def yX7_distance : MethodName := ⟨RX7, "distance", "(II)I"⟩
def RX8 : String := "RateLimiter$State"
def TX8 : u_T := fun k => match k with
  | 0 => ("RateLimiter$State", "isStored", "Z", false)
  | 1 => ("RateLimiter$State", "time", "I", false)
  | 2 => ("RateLimiter$State", "rate", "[I", true)
  | 3 => ("RateLimiter$State", "ceiling", "[I", true)
  | 4 => ("RateLimiter$State", "weight", "[I", true)
  | 5 => ("RateLimiter$State", "accounts", "LRateLimiter$Accounts;", true)
  | 6 => ("RateLimiter$State", "queues", "LRateLimiter$Queues;", true)
  | 7 => ("RateLimiter$State", "counts", "LRateLimiter$Counts;", true)
  | _ => ("RateLimiter$State", "log", "LRateLimiter$Log;", true)
def tyX8 : Nat → FieldType := fun k => match k with
  | 0 => .boolean
  | 1 => .int
  | 2 => .array .int
  | 3 => .array .int
  | 4 => .array .int
  | 5 => .object "RateLimiter$Accounts"
  | 6 => .object "RateLimiter$Queues"
  | 7 => .object "RateLimiter$Counts"
  | _ => .object "RateLimiter$Log"
abbrev wsX80 : List Cond := u_ws RX8 TX8 9
theorem nmX8 : ∀ a, a < 9 → ∀ b, b < 9 → a ≠ b → (TX8 a).2.1 ≠ (TX8 b).2.1 := by decide +kernel
theorem tyX8_ok : ∀ k, k < 9 → parseFieldDescriptor (TX8 k).2.2.1 = some (tyX8 k) := by decide +kernel
abbrev cX8_init : ByteArray := prog_10_method_1_code
def yX8_init : MethodName := ⟨RX8, "<init>", "()V"⟩
abbrev cX8_begin : ByteArray := prog_10_method_2_code
def yX8_begin : MethodName := ⟨RX8, "begin", "(LRateLimiter$Setup;)V"⟩
abbrev cX8_row : ByteArray := prog_10_method_4_code
def yX8_row : MethodName := ⟨RX8, "row", "(I)[I"⟩
abbrev cX8_childrenRate : ByteArray := prog_10_method_5_code
def yX8_childrenRate : MethodName := ⟨RX8, "childrenRate", "(LRateLimiter$Setup;I)I"⟩
abbrev cX8_leastCeiling : ByteArray := prog_10_method_6_code
def yX8_leastCeiling : MethodName := ⟨RX8, "leastCeiling", "(LRateLimiter$Setup;I)I"⟩
abbrev cX8_send : ByteArray := prog_10_method_7_code
def yX8_send : MethodName := ⟨RX8, "send", "(LRateLimiter$Setup;III)V"⟩
abbrev cX8_ticksUntilLender : ByteArray := prog_10_method_9_code
def yX8_ticksUntilLender : MethodName := ⟨RX8, "ticksUntilLender", "(LRateLimiter$Setup;II)I"⟩
abbrev cX8_ticksUntil : ByteArray := prog_10_method_10_code
def yX8_ticksUntil : MethodName := ⟨RX8, "ticksUntil", "(IIII)I"⟩
abbrev cX8_makeTicks : ByteArray := prog_10_method_11_code
def yX8_makeTicks : MethodName := ⟨RX8, "makeTicks", "(LRateLimiter$Setup;I)I"⟩
abbrev cX8_makeTick : ByteArray := prog_10_method_12_code
def yX8_makeTick : MethodName := ⟨RX8, "makeTick", "(LRateLimiter$Setup;)I"⟩
abbrev cX8_makeChanges : ByteArray := prog_10_method_13_code
def yX8_makeChanges : MethodName := ⟨RX8, "makeChanges", "(LRateLimiter$Setup;)V"⟩
abbrev cX8_dropOld : ByteArray := prog_10_method_14_code
def yX8_dropOld : MethodName := ⟨RX8, "dropOld", "(LRateLimiter$Setup;)V"⟩
abbrev cX8_isFrontOld : ByteArray := prog_10_method_15_code
def yX8_isFrontOld : MethodName := ⟨RX8, "isFrontOld", "(II)Z"⟩
abbrev cX8_dispatch : ByteArray := prog_10_method_16_code
def yX8_dispatch : MethodName := ⟨RX8, "dispatch", "(LRateLimiter$Setup;)I"⟩
abbrev cX8_chooseLeaf : ByteArray := prog_10_method_17_code
def yX8_chooseLeaf : MethodName := ⟨RX8, "chooseLeaf", "(LRateLimiter$Setup;)I"⟩
abbrev cX8_frontDistance : ByteArray := prog_10_method_18_code
def yX8_frontDistance : MethodName := ⟨RX8, "frontDistance", "(LRateLimiter$Setup;I)I"⟩
abbrev cX8_precedes : ByteArray := prog_10_method_19_code
def yX8_precedes : MethodName := ⟨RX8, "precedes", "(LRateLimiter$Setup;II)Z"⟩
abbrev cX8_compareServed : ByteArray := prog_10_method_20_code
def yX8_compareServed : MethodName := ⟨RX8, "compareServed", "(II)I"⟩
def RX9 : String := "RateLimiter$Text"
def TX9 : u_T := fun k => match k with
  | 0 => ("RateLimiter$Text", "bytes", "[B", true)
  | _ => ("RateLimiter$Text", "length", "I", false)
def tyX9 : Nat → FieldType := fun k => match k with
  | 0 => .array .byte
  | _ => .int
abbrev wsX90 : List Cond := u_ws RX9 TX9 2
theorem nmX9 : ∀ a, a < 2 → ∀ b, b < 2 → a ≠ b → (TX9 a).2.1 ≠ (TX9 b).2.1 := by decide +kernel
theorem tyX9_ok : ∀ k, k < 2 → parseFieldDescriptor (TX9 k).2.2.1 = some (tyX9 k) := by decide +kernel
abbrev cX9_init : ByteArray := prog_11_method_1_code
def yX9_init : MethodName := ⟨RX9, "<init>", "()V"⟩
abbrev cX9_append : ByteArray := prog_11_method_2_code
def yX9_append : MethodName := ⟨RX9, "append", "(I)V"⟩
abbrev cX9_byteAt : ByteArray := prog_11_method_3_code
def yX9_byteAt : MethodName := ⟨RX9, "byteAt", "(I)I"⟩
def RX10 : String := "RateLimiter$Writer"
def TX10 : u_T := fun k => match k with
  | 0 => ("RateLimiter$Writer", "length", "I", false)
  | 1 => ("RateLimiter$Writer", "found", "I", false)
  | 2 => ("RateLimiter$Writer", "wanted", "I", false)
  | _ => ("RateLimiter$Writer", "needsSpace", "Z", false)
def tyX10 : Nat → FieldType := fun k => match k with
  | 0 => .int
  | 1 => .int
  | 2 => .int
  | _ => .boolean
abbrev wsX100 : List Cond := u_ws RX10 TX10 4
theorem nmX10 : ∀ a, a < 4 → ∀ b, b < 4 → a ≠ b → (TX10 a).2.1 ≠ (TX10 b).2.1 := by decide +kernel
theorem tyX10_ok : ∀ k, k < 4 → parseFieldDescriptor (TX10 k).2.2.1 = some (tyX10 k) := by decide +kernel
abbrev cX10_init : ByteArray := prog_12_method_1_code
def yX10_init : MethodName := ⟨RX10, "<init>", "()V"⟩
def RX11 : String := "RateLimiter"
def TX11 : u_T := fun k => match k with
  | 0 => ("RateLimiter", "text", "LRateLimiter$Text;", true)
  | 1 => ("RateLimiter", "reader", "LRateLimiter$Reader;", true)
  | 2 => ("RateLimiter", "writer", "LRateLimiter$Writer;", true)
  | 3 => ("RateLimiter", "setup", "LRateLimiter$Setup;", false)
  | 4 => ("RateLimiter", "state", "LRateLimiter$State;", true)
  | 5 => ("RateLimiter", "thought", "LRateLimiter$State;", true)
  | 6 => ("RateLimiter", "firstSnapshot", "LRateLimiter$State;", true)
  | _ => ("RateLimiter", "secondSnapshot", "LRateLimiter$State;", true)
def tyX11 : Nat → FieldType := fun k => match k with
  | 0 => .object "RateLimiter$Text"
  | 1 => .object "RateLimiter$Reader"
  | 2 => .object "RateLimiter$Writer"
  | 3 => .object "RateLimiter$Setup"
  | 4 => .object "RateLimiter$State"
  | 5 => .object "RateLimiter$State"
  | 6 => .object "RateLimiter$State"
  | _ => .object "RateLimiter$State"
abbrev wsX110 : List Cond := u_ws RX11 TX11 8
theorem nmX11 : ∀ a, a < 8 → ∀ b, b < 8 → a ≠ b → (TX11 a).2.1 ≠ (TX11 b).2.1 := by decide +kernel
theorem tyX11_ok : ∀ k, k < 8 → parseFieldDescriptor (TX11 k).2.2.1 = some (tyX11 k) := by decide +kernel
abbrev cX11_init : ByteArray := prog_1_method_1_code
def yX11_init : MethodName := ⟨RX11, "<init>", "()V"⟩
abbrev cX11_feed : ByteArray := prog_1_method_2_code
def yX11_feed : MethodName := ⟨RX11, "feed", "(IIIII)I"⟩
abbrev cX11_truncate : ByteArray := prog_1_method_3_code
def yX11_truncate : MethodName := ⟨RX11, "truncate", "(I)I"⟩
abbrev cX11_load : ByteArray := prog_1_method_4_code
def yX11_load : MethodName := ⟨RX11, "load", "()I"⟩
abbrev cX11_faultCode : ByteArray := prog_1_method_5_code
def yX11_faultCode : MethodName := ⟨RX11, "faultCode", "()I"⟩
abbrev cX11_faultPosition : ByteArray := prog_1_method_6_code
def yX11_faultPosition : MethodName := ⟨RX11, "faultPosition", "()I"⟩
abbrev cX11_nodeCount : ByteArray := prog_1_method_7_code
def yX11_nodeCount : MethodName := ⟨RX11, "nodeCount", "()I"⟩
abbrev cX11_nameLetter : ByteArray := prog_1_method_8_code
def yX11_nameLetter : MethodName := ⟨RX11, "nameLetter", "(II)I"⟩
abbrev cX11_parent : ByteArray := prog_1_method_9_code
def yX11_parent : MethodName := ⟨RX11, "parent", "(I)I"⟩
abbrev cX11_child : ByteArray := prog_1_method_10_code
def yX11_child : MethodName := ⟨RX11, "child", "(II)I"⟩
abbrev cX11_isLeaf : ByteArray := prog_1_method_11_code
def yX11_isLeaf : MethodName := ⟨RX11, "isLeaf", "(I)Z"⟩
abbrev cX11_depth : ByteArray := prog_1_method_12_code
def yX11_depth : MethodName := ⟨RX11, "depth", "(I)I"⟩
abbrev cX11_rate : ByteArray := prog_1_method_13_code
def yX11_rate : MethodName := ⟨RX11, "rate", "(I)I"⟩
abbrev cX11_ceiling : ByteArray := prog_1_method_14_code
def yX11_ceiling : MethodName := ⟨RX11, "ceiling", "(I)I"⟩
abbrev cX11_burst : ByteArray := prog_1_method_15_code
def yX11_burst : MethodName := ⟨RX11, "burst", "(I)I"⟩
abbrev cX11_creditLimit : ByteArray := prog_1_method_16_code
def yX11_creditLimit : MethodName := ⟨RX11, "creditLimit", "(I)I"⟩
abbrev cX11_weight : ByteArray := prog_1_method_17_code
def yX11_weight : MethodName := ⟨RX11, "weight", "(I)I"⟩
abbrev cX11_priority : ByteArray := prog_1_method_18_code
def yX11_priority : MethodName := ⟨RX11, "priority", "(I)I"⟩
abbrev cX11_mayBorrow : ByteArray := prog_1_method_19_code
def yX11_mayBorrow : MethodName := ⟨RX11, "mayBorrow", "(I)Z"⟩
abbrev cX11_isOversubscribed : ByteArray := prog_1_method_20_code
def yX11_isOversubscribed : MethodName := ⟨RX11, "isOversubscribed", "(I)Z"⟩
abbrev cX11_pathCeiling : ByteArray := prog_1_method_21_code
def yX11_pathCeiling : MethodName := ⟨RX11, "pathCeiling", "(I)I"⟩
abbrev cX11_time : ByteArray := prog_1_method_22_code
def yX11_time : MethodName := ⟨RX11, "time", "()I"⟩
abbrev cX11_tokens : ByteArray := prog_1_method_23_code
def yX11_tokens : MethodName := ⟨RX11, "tokens", "(I)I"⟩
abbrev cX11_credit : ByteArray := prog_1_method_24_code
def yX11_credit : MethodName := ⟨RX11, "credit", "(I)I"⟩
abbrev cX11_headroom : ByteArray := prog_1_method_25_code
def yX11_headroom : MethodName := ⟨RX11, "headroom", "(I)I"⟩
abbrev cX11_lender : ByteArray := prog_1_method_26_code
def yX11_lender : MethodName := ⟨RX11, "lender", "(II)I"⟩
abbrev cX11_greatestCost : ByteArray := prog_1_method_27_code
def yX11_greatestCost : MethodName := ⟨RX11, "greatestCost", "(I)I"⟩
abbrev cX11_acquire : ByteArray := prog_1_method_28_code
def yX11_acquire : MethodName := ⟨RX11, "acquire", "(II)I"⟩
abbrev cX11_waitTime : ByteArray := prog_1_method_30_code
def yX11_waitTime : MethodName := ⟨RX11, "waitTime", "(II)I"⟩
abbrev cX11_repeats : ByteArray := prog_1_method_31_code
def yX11_repeats : MethodName := ⟨RX11, "repeats", "(II)I"⟩
abbrev cX11_refusal : ByteArray := prog_1_method_32_code
def yX11_refusal : MethodName := ⟨RX11, "refusal", "(II)I"⟩
abbrev cX11_blockingNode : ByteArray := prog_1_method_33_code
def yX11_blockingNode : MethodName := ⟨RX11, "blockingNode", "(II)I"⟩
abbrev cX11_queueLength : ByteArray := prog_1_method_34_code
def yX11_queueLength : MethodName := ⟨RX11, "queueLength", "(I)I"⟩
abbrev cX11_nextLeaf : ByteArray := prog_1_method_35_code
def yX11_nextLeaf : MethodName := ⟨RX11, "nextLeaf", "()I"⟩
abbrev cX11_advance : ByteArray := prog_1_method_40_code
def yX11_advance : MethodName := ⟨RX11, "advance", "(I)I"⟩
abbrev cX11_sentCost : ByteArray := prog_1_method_43_code
def yX11_sentCost : MethodName := ⟨RX11, "sentCost", "(I)I"⟩
abbrev cX11_sentCount : ByteArray := prog_1_method_44_code
def yX11_sentCount : MethodName := ⟨RX11, "sentCount", "(I)I"⟩
abbrev cX11_borrowedCost : ByteArray := prog_1_method_45_code
def yX11_borrowedCost : MethodName := ⟨RX11, "borrowedCost", "(I)I"⟩
abbrev cX11_lentCost : ByteArray := prog_1_method_46_code
def yX11_lentCost : MethodName := ⟨RX11, "lentCost", "(I)I"⟩
abbrev cX11_droppedCount : ByteArray := prog_1_method_47_code
def yX11_droppedCount : MethodName := ⟨RX11, "droppedCount", "(I)I"⟩
abbrev cX11_fairness : ByteArray := prog_1_method_48_code
def yX11_fairness : MethodName := ⟨RX11, "fairness", "()I"⟩
abbrev cX11_mostServed : ByteArray := prog_1_method_50_code
def yX11_mostServed : MethodName := ⟨RX11, "mostServed", "()I"⟩
abbrev cX11_loggedLeaf : ByteArray := prog_1_method_53_code
def yX11_loggedLeaf : MethodName := ⟨RX11, "loggedLeaf", "(I)I"⟩
abbrev cX11_loggedCost : ByteArray := prog_1_method_54_code
def yX11_loggedCost : MethodName := ⟨RX11, "loggedCost", "(I)I"⟩
abbrev cX11_loggedLender : ByteArray := prog_1_method_55_code
def yX11_loggedLender : MethodName := ⟨RX11, "loggedLender", "(I)I"⟩
abbrev cX11_loggedTime : ByteArray := prog_1_method_56_code
def yX11_loggedTime : MethodName := ⟨RX11, "loggedTime", "(I)I"⟩
abbrev cX11_setRate : ByteArray := prog_1_method_60_code
def yX11_setRate : MethodName := ⟨RX11, "setRate", "(II)I"⟩
abbrev cX11_isRequest : ByteArray := prog_1_method_66_code
def yX11_isRequest : MethodName := ⟨RX11, "isRequest", "(II)Z"⟩
abbrev cX11_canAdvance : ByteArray := prog_1_method_67_code
def yX11_canAdvance : MethodName := ⟨RX11, "canAdvance", "(I)Z"⟩
abbrev cX11_logEntry : ByteArray := prog_1_method_69_code
def yX11_logEntry : MethodName := ⟨RX11, "logEntry", "(I)I"⟩
abbrev cX11_change : ByteArray := prog_1_method_70_code
def yX11_change : MethodName := ⟨RX11, "change", "(III)I"⟩
abbrev cX11_isInRange : ByteArray := prog_1_method_72_code
def yX11_isInRange : MethodName := ⟨RX11, "isInRange", "(II)Z"⟩
abbrev cX11_quotient : ByteArray := prog_1_method_73_code
def yX11_quotient : MethodName := ⟨RX11, "quotient", "(JJ)J"⟩
abbrev cX11_copyRow : ByteArray := prog_1_method_74_code
def yX11_copyRow : MethodName := ⟨RX11, "copyRow", "([I[I)V"⟩
abbrev cX11_clearRow : ByteArray := prog_1_method_75_code
def yX11_clearRow : MethodName := ⟨RX11, "clearRow", "([I)V"⟩
abbrev cX11_keywordText : ByteArray := prog_1_method_76_code
def yX11_keywordText : MethodName := ⟨RX11, "keywordText", "(I)Ljava/lang/String;"⟩
abbrev cX11_withLetter : ByteArray := prog_1_method_77_code
def yX11_withLetter : MethodName := ⟨RX11, "withLetter", "(JII)J"⟩
abbrev cX11_letterOf : ByteArray := prog_1_method_78_code
def yX11_letterOf : MethodName := ⟨RX11, "letterOf", "(JI)I"⟩
abbrev cX11_keywordOf : ByteArray := prog_1_method_79_code
def yX11_keywordOf : MethodName := ⟨RX11, "keywordOf", "(J)I"⟩
def RX12 : String := "RateLimiterLaw$Tree"
def TX12 : u_T := fun k => match k with
  | 0 => ("RateLimiterLaw$Tree", "n", "I", true)
  | 1 => ("RateLimiterLaw$Tree", "limit", "I", true)
  | 2 => ("RateLimiterLaw$Tree", "age", "I", true)
  | 3 => ("RateLimiterLaw$Tree", "parent", "[I", true)
  | 4 => ("RateLimiterLaw$Tree", "rate", "[I", true)
  | 5 => ("RateLimiterLaw$Tree", "ceiling", "[I", true)
  | 6 => ("RateLimiterLaw$Tree", "burst", "[I", true)
  | 7 => ("RateLimiterLaw$Tree", "credits", "[I", true)
  | 8 => ("RateLimiterLaw$Tree", "weight", "[I", true)
  | 9 => ("RateLimiterLaw$Tree", "priority", "[I", true)
  | 10 => ("RateLimiterLaw$Tree", "alone", "[Z", true)
  | 11 => ("RateLimiterLaw$Tree", "tokens", "[I", true)
  | 12 => ("RateLimiterLaw$Tree", "credit", "[I", true)
  | 13 => ("RateLimiterLaw$Tree", "head", "[I", true)
  | 14 => ("RateLimiterLaw$Tree", "sent", "[I", true)
  | 15 => ("RateLimiterLaw$Tree", "count", "[I", true)
  | 16 => ("RateLimiterLaw$Tree", "borrowed", "[I", true)
  | 17 => ("RateLimiterLaw$Tree", "lent", "[I", true)
  | 18 => ("RateLimiterLaw$Tree", "dropped", "[I", true)
  | 19 => ("RateLimiterLaw$Tree", "queues", "Ljava/util/ArrayList;", true)
  | 20 => ("RateLimiterLaw$Tree", "time", "I", false)
  | 21 => ("RateLimiterLaw$Tree", "next", "I", false)
  | 22 => ("RateLimiterLaw$Tree", "timed", "I", false)
  | 23 => ("RateLimiterLaw$Tree", "whose", "I", false)
  | _ => ("RateLimiterLaw$Tree", "becomes", "I", false)
def tyX12 : Nat → FieldType := fun k => match k with
  | 0 => .int
  | 1 => .int
  | 2 => .int
  | 3 => .array .int
  | 4 => .array .int
  | 5 => .array .int
  | 6 => .array .int
  | 7 => .array .int
  | 8 => .array .int
  | 9 => .array .int
  | 10 => .array .boolean
  | 11 => .array .int
  | 12 => .array .int
  | 13 => .array .int
  | 14 => .array .int
  | 15 => .array .int
  | 16 => .array .int
  | 17 => .array .int
  | 18 => .array .int
  | 19 => .object "java/util/ArrayList"
  | 20 => .int
  | 21 => .int
  | 22 => .int
  | 23 => .int
  | _ => .int
abbrev wsX120 : List Cond := u_ws RX12 TX12 25
theorem nmX12 : ∀ a, a < 25 → ∀ b, b < 25 → a ≠ b → (TX12 a).2.1 ≠ (TX12 b).2.1 := by decide +kernel
theorem tyX12_ok : ∀ k, k < 25 → parseFieldDescriptor (TX12 k).2.2.1 = some (tyX12 k) := by decide +kernel
abbrev cX12_init : ByteArray := prog_14_method_1_code
def yX12_init : MethodName := ⟨RX12, "<init>", "([I)V"⟩
abbrev cX12_isLeaf : ByteArray := prog_14_method_2_code
def yX12_isLeaf : MethodName := ⟨RX12, "isLeaf", "(I)Z"⟩
abbrev cX12_steps : ByteArray := prog_14_method_3_code
def yX12_steps : MethodName := ⟨RX12, "steps", "(II)I"⟩
abbrev cX12_lender : ByteArray := prog_14_method_4_code
def yX12_lender : MethodName := ⟨RX12, "lender", "(II)I"⟩
abbrev cX12_send : ByteArray := prog_14_method_5_code
def yX12_send : MethodName := ⟨RX12, "send", "(II)V"⟩
abbrev cX12_refill : ByteArray := prog_14_method_6_code
def yX12_refill : MethodName := ⟨RX12, "refill", "()V"⟩
abbrev cX12_first : ByteArray := prog_14_method_7_code
def yX12_first : MethodName := ⟨RX12, "first", "()I"⟩
abbrev cX12_isAhead : ByteArray := prog_14_method_8_code
def yX12_isAhead : MethodName := ⟨RX12, "isAhead", "(II)Z"⟩
abbrev cX12_tick : ByteArray := prog_14_method_9_code
def yX12_tick : MethodName := ⟨RX12, "tick", "()I"⟩
abbrev cX12_text : ByteArray := prog_14_method_11_code
def yX12_text : MethodName := ⟨RX12, "text", "()Ljava/lang/String;"⟩
abbrev cX12_anyLeaf : ByteArray := prog_14_method_12_code
def yX12_anyLeaf : MethodName := ⟨RX12, "anyLeaf", "([I)I"⟩
def RX13 : String := "RateLimiterModel"
def TX13 : u_T := fun k => match k with
  | _ => ("", "", "", false)
def tyX13 : Nat → FieldType := fun k => match k with
  | _ => .int
abbrev wsX130 : List Cond := u_ws RX13 TX13 0
theorem nmX13 : ∀ a, a < 0 → ∀ b, b < 0 → a ≠ b → (TX13 a).2.1 ≠ (TX13 b).2.1 := by decide +kernel
theorem tyX13_ok : ∀ k, k < 0 → parseFieldDescriptor (TX13 k).2.2.1 = some (tyX13 k) := by decide +kernel
def RJx145de : String := "java/io/Serializable"
def TJx145de : u_T := fun k => match k with
  | _ => ("", "", "", false)
def tyJx145de : Nat → FieldType := fun k => match k with
  | _ => .int
abbrev wsJx145de0 : List Cond := u_ws RJx145de TJx145de 0
theorem nmJx145de : ∀ a, a < 0 → ∀ b, b < 0 → a ≠ b → (TJx145de a).2.1 ≠ (TJx145de b).2.1 := by decide +kernel
theorem tyJx145de_ok : ∀ k, k < 0 → parseFieldDescriptor (TJx145de k).2.2.1 = some (tyJx145de k) := by decide +kernel
def RJ5 : String := "java/lang/AbstractStringBuilder"
def TJ5 : u_T := fun k => match k with
  | _ => ("", "", "", false)
def tyJ5 : Nat → FieldType := fun k => match k with
  | _ => .int
abbrev wsJ50 : List Cond := u_ws RJ5 TJ5 0
theorem nmJ5 : ∀ a, a < 0 → ∀ b, b < 0 → a ≠ b → (TJ5 a).2.1 ≠ (TJ5 b).2.1 := by decide +kernel
theorem tyJ5_ok : ∀ k, k < 0 → parseFieldDescriptor (TJ5 k).2.2.1 = some (tyJ5 k) := by decide +kernel
abbrev cJ5_init_d00df : ByteArray := prog_17_method_2_code
def yJ5_init_d00df : MethodName := ⟨RJ5, "<init>", "(I)V"⟩
abbrev cJ5_length_8abf5 : ByteArray := prog_17_method_6_code
def yJ5_length_8abf5 : MethodName := ⟨RJ5, "length", "()I"⟩
abbrev cJ5_ensureCapacityInternal_d00df : ByteArray := prog_17_method_9_code
def yJ5_ensureCapacityInternal_d00df : MethodName := ⟨RJ5, "ensureCapacityInternal", "(I)V"⟩
abbrev cJ5_newCapacity_0f7a4 : ByteArray := prog_17_method_10_code
def yJ5_newCapacity_0f7a4 : MethodName := ⟨RJ5, "newCapacity", "(I)I"⟩
abbrev cJ5_inflate_da8c8 : ByteArray := prog_17_method_11_code
def yJ5_inflate_da8c8 : MethodName := ⟨RJ5, "inflate", "()V"⟩
abbrev cJ5_append_cf1ce : ByteArray := prog_17_method_22_code
def yJ5_append_cf1ce : MethodName := ⟨RJ5, "append", "(Ljava/lang/String;)Ljava/lang/AbstractStringBuilder;"⟩
abbrev cJ5_appendNull_278bc : ByteArray := prog_17_method_26_code
def yJ5_appendNull_278bc : MethodName := ⟨RJ5, "appendNull", "()Ljava/lang/AbstractStringBuilder;"⟩
abbrev cJ5_append_3fe6f : ByteArray := prog_17_method_31_code
def yJ5_append_3fe6f : MethodName := ⟨RJ5, "append", "(C)Ljava/lang/AbstractStringBuilder;"⟩
abbrev cJ5_append_c97b9 : ByteArray := prog_17_method_32_code
def yJ5_append_c97b9 : MethodName := ⟨RJ5, "append", "(I)Ljava/lang/AbstractStringBuilder;"⟩
abbrev cJ5_getValue_6d5f1 : ByteArray := prog_17_method_64_code
def yJ5_getValue_6d5f1 : MethodName := ⟨RJ5, "getValue", "()[B"⟩
abbrev cJ5_isLatin1_aae02 : ByteArray := prog_17_method_68_code
def yJ5_isLatin1_aae02 : MethodName := ⟨RJ5, "isLatin1", "()Z"⟩
abbrev cJ5_inflateIfNeededFor_a7421 : ByteArray := prog_17_method_71_code
def yJ5_inflateIfNeededFor_a7421 : MethodName := ⟨RJ5, "inflateIfNeededFor", "(Ljava/lang/String;)V"⟩
abbrev cJ5_putStringAt_47b60 : ByteArray := prog_17_method_73_code
def yJ5_putStringAt_47b60 : MethodName := ⟨RJ5, "putStringAt", "(ILjava/lang/String;)V"⟩
def RJx2cfe8 : String := "java/lang/Appendable"
def TJx2cfe8 : u_T := fun k => match k with
  | _ => ("", "", "", false)
def tyJx2cfe8 : Nat → FieldType := fun k => match k with
  | _ => .int
abbrev wsJx2cfe80 : List Cond := u_ws RJx2cfe8 TJx2cfe8 0
theorem nmJx2cfe8 : ∀ a, a < 0 → ∀ b, b < 0 → a ≠ b → (TJx2cfe8 a).2.1 ≠ (TJx2cfe8 b).2.1 := by decide +kernel
theorem tyJx2cfe8_ok : ∀ k, k < 0 → parseFieldDescriptor (TJx2cfe8 k).2.2.1 = some (tyJx2cfe8 k) := by decide +kernel
def RJx9f9b0 : String := "java/lang/CharSequence"
def TJx9f9b0 : u_T := fun k => match k with
  | _ => ("", "", "", false)
def tyJx9f9b0 : Nat → FieldType := fun k => match k with
  | _ => .int
abbrev wsJx9f9b00 : List Cond := u_ws RJx9f9b0 TJx9f9b0 0
theorem nmJx9f9b0 : ∀ a, a < 0 → ∀ b, b < 0 → a ≠ b → (TJx9f9b0 a).2.1 ≠ (TJx9f9b0 b).2.1 := by decide +kernel
theorem tyJx9f9b0_ok : ∀ k, k < 0 → parseFieldDescriptor (TJx9f9b0 k).2.2.1 = some (tyJx9f9b0 k) := by decide +kernel
def RJx8e188 : String := "java/lang/Cloneable"
def TJx8e188 : u_T := fun k => match k with
  | _ => ("", "", "", false)
def tyJx8e188 : Nat → FieldType := fun k => match k with
  | _ => .int
abbrev wsJx8e1880 : List Cond := u_ws RJx8e188 TJx8e188 0
theorem nmJx8e188 : ∀ a, a < 0 → ∀ b, b < 0 → a ≠ b → (TJx8e188 a).2.1 ≠ (TJx8e188 b).2.1 := by decide +kernel
theorem tyJx8e188_ok : ∀ k, k < 0 → parseFieldDescriptor (TJx8e188 k).2.2.1 = some (tyJx8e188 k) := by decide +kernel
def RJxb160c : String := "java/lang/Comparable"
def TJxb160c : u_T := fun k => match k with
  | _ => ("", "", "", false)
def tyJxb160c : Nat → FieldType := fun k => match k with
  | _ => .int
abbrev wsJxb160c0 : List Cond := u_ws RJxb160c TJxb160c 0
theorem nmJxb160c : ∀ a, a < 0 → ∀ b, b < 0 → a ≠ b → (TJxb160c a).2.1 ≠ (TJxb160c b).2.1 := by decide +kernel
theorem tyJxb160c_ok : ∀ k, k < 0 → parseFieldDescriptor (TJxb160c k).2.2.1 = some (tyJxb160c k) := by decide +kernel
def RJ6 : String := "java/lang/Integer"
def TJ6 : u_T := fun k => match k with
  | _ => ("", "", "", false)
def tyJ6 : Nat → FieldType := fun k => match k with
  | _ => .int
abbrev wsJ60 : List Cond := u_ws RJ6 TJ6 0
theorem nmJ6 : ∀ a, a < 0 → ∀ b, b < 0 → a ≠ b → (TJ6 a).2.1 ≠ (TJ6 b).2.1 := by decide +kernel
theorem tyJ6_ok : ∀ k, k < 0 → parseFieldDescriptor (TJ6 k).2.2.1 = some (tyJ6 k) := by decide +kernel
abbrev cJ6_getChars_ba4f3 : ByteArray := prog_22_method_12_code
def yJ6_getChars_ba4f3 : MethodName := ⟨RJ6, "getChars", "(II[B)I"⟩
abbrev cJ6_stringSize_0f7a4 : ByteArray := prog_22_method_13_code
def yJ6_stringSize_0f7a4 : MethodName := ⟨RJ6, "stringSize", "(I)I"⟩
def RJxab1ab : String := "java/lang/Iterable"
def TJxab1ab : u_T := fun k => match k with
  | _ => ("", "", "", false)
def tyJxab1ab : Nat → FieldType := fun k => match k with
  | _ => .int
abbrev wsJxab1ab0 : List Cond := u_ws RJxab1ab TJxab1ab 0
theorem nmJxab1ab : ∀ a, a < 0 → ∀ b, b < 0 → a ≠ b → (TJxab1ab a).2.1 ≠ (TJxab1ab b).2.1 := by decide +kernel
theorem tyJxab1ab_ok : ∀ k, k < 0 → parseFieldDescriptor (TJxab1ab k).2.2.1 = some (tyJxab1ab k) := by decide +kernel
def RJ13 : String := "java/lang/Long"
def TJ13 : u_T := fun k => match k with
  | _ => ("", "", "", false)
def tyJ13 : Nat → FieldType := fun k => match k with
  | _ => .int
abbrev wsJ130 : List Cond := u_ws RJ13 TJ13 0
theorem nmJ13 : ∀ a, a < 0 → ∀ b, b < 0 → a ≠ b → (TJ13 a).2.1 ≠ (TJ13 b).2.1 := by decide +kernel
theorem tyJ13_ok : ∀ k, k < 0 → parseFieldDescriptor (TJ13 k).2.2.1 = some (tyJ13 k) := by decide +kernel
abbrev cJ13_compare_74951 : ByteArray := prog_24_method_42_code
def yJ13_compare_74951 : MethodName := ⟨RJ13, "compare", "(JJ)I"⟩
def RJ9 : String := "java/lang/Math"
def TJ9 : u_T := fun k => match k with
  | _ => ("", "", "", false)
def tyJ9 : Nat → FieldType := fun k => match k with
  | _ => .int
abbrev wsJ90 : List Cond := u_ws RJ9 TJ9 0
theorem nmJ9 : ∀ a, a < 0 → ∀ b, b < 0 → a ≠ b → (TJ9 a).2.1 ≠ (TJ9 b).2.1 := by decide +kernel
theorem tyJ9_ok : ∀ k, k < 0 → parseFieldDescriptor (TJ9 k).2.2.1 = some (tyJ9 k) := by decide +kernel
abbrev cJ9_max_7cf53 : ByteArray := prog_25_method_65_code
def yJ9_max_7cf53 : MethodName := ⟨RJ9, "max", "(II)I"⟩
abbrev cJ9_min_7cf53 : ByteArray := prog_25_method_69_code
def yJ9_min_7cf53 : MethodName := ⟨RJ9, "min", "(II)I"⟩
def RJxd2413 : String := "java/lang/Number"
def TJxd2413 : u_T := fun k => match k with
  | _ => ("", "", "", false)
def tyJxd2413 : Nat → FieldType := fun k => match k with
  | _ => .int
abbrev wsJxd24130 : List Cond := u_ws RJxd2413 TJxd2413 0
theorem nmJxd2413 : ∀ a, a < 0 → ∀ b, b < 0 → a ≠ b → (TJxd2413 a).2.1 ≠ (TJxd2413 b).2.1 := by decide +kernel
theorem tyJxd2413_ok : ∀ k, k < 0 → parseFieldDescriptor (TJxd2413 k).2.2.1 = some (tyJxd2413 k) := by decide +kernel
def RJ0 : String := "java/lang/String"
def TJ0 : u_T := fun k => match k with
  | 0 => ("java/lang/String", "value", "[B", true)
  | 1 => ("java/lang/String", "coder", "B", true)
  | 2 => ("java/lang/String", "hash", "I", false)
  | _ => ("java/lang/String", "hashIsZero", "Z", false)
def tyJ0 : Nat → FieldType := fun k => match k with
  | 0 => .array .byte
  | 1 => .byte
  | 2 => .int
  | _ => .boolean
abbrev wsJ00 : List Cond := u_ws RJ0 TJ0 4
theorem nmJ0 : ∀ a, a < 4 → ∀ b, b < 4 → a ≠ b → (TJ0 a).2.1 ≠ (TJ0 b).2.1 := by decide +kernel
theorem tyJ0_ok : ∀ k, k < 4 → parseFieldDescriptor (TJ0 k).2.2.1 = some (tyJ0 k) := by decide +kernel
abbrev cJ0_init_81219 : ByteArray := prog_27_method_53_code
def yJ0_init_81219 : MethodName := ⟨RJ0, "<init>", "(Ljava/lang/StringBuilder;)V"⟩
abbrev cJ0_length_8abf5 : ByteArray := prog_27_method_54_code
def yJ0_length_8abf5 : MethodName := ⟨RJ0, "length", "()I"⟩
abbrev cJ0_charAt_5068e : ByteArray := prog_27_method_56_code
def yJ0_charAt_5068e : MethodName := ⟨RJ0, "charAt", "(I)C"⟩
abbrev cJ0_getBytes_840e7 : ByteArray := prog_27_method_147_code
def yJ0_getBytes_840e7 : MethodName := ⟨RJ0, "getBytes", "([BIB)V"⟩
abbrev cJ0_init_db425 : ByteArray := prog_27_method_150_code
def yJ0_init_db425 : MethodName := ⟨RJ0, "<init>", "(Ljava/lang/AbstractStringBuilder;Ljava/lang/Void;)V"⟩
abbrev cJ0_coder_7d493 : ByteArray := prog_27_method_152_code
def yJ0_coder_7d493 : MethodName := ⟨RJ0, "coder", "()B"⟩
abbrev cJ0_isLatin1_aae02 : ByteArray := prog_27_method_154_code
def yJ0_isLatin1_aae02 : MethodName := ⟨RJ0, "isLatin1", "()Z"⟩
abbrev cJ0_checkIndex_df160 : ByteArray := prog_27_method_155_code
def yJ0_checkIndex_df160 : MethodName := ⟨RJ0, "checkIndex", "(II)V"⟩
abbrev cJ0_checkBoundsOffCount_cabcc : ByteArray := prog_27_method_157_code
def yJ0_checkBoundsOffCount_cabcc : MethodName := ⟨RJ0, "checkBoundsOffCount", "(III)I"⟩
abbrev cJ0_checkBoundsBeginEnd_23922 : ByteArray := prog_27_method_158_code
def yJ0_checkBoundsBeginEnd_23922 : MethodName := ⟨RJ0, "checkBoundsBeginEnd", "(III)V"⟩
def RJ4 : String := "java/lang/StringBuilder"
def TJ4 : u_T := fun k => match k with
  | 0 => ("java/lang/AbstractStringBuilder", "value", "[B", false)
  | 1 => ("java/lang/AbstractStringBuilder", "coder", "B", false)
  | 2 => ("java/lang/AbstractStringBuilder", "maybeLatin1", "Z", false)
  | _ => ("java/lang/AbstractStringBuilder", "count", "I", false)
def tyJ4 : Nat → FieldType := fun k => match k with
  | 0 => .array .byte
  | 1 => .byte
  | 2 => .boolean
  | _ => .int
abbrev wsJ40 : List Cond := u_ws RJ4 TJ4 4
theorem nmJ4 : ∀ a, a < 4 → ∀ b, b < 4 → a ≠ b → (TJ4 a).2.1 ≠ (TJ4 b).2.1 := by decide +kernel
theorem tyJ4_ok : ∀ k, k < 4 → parseFieldDescriptor (TJ4 k).2.2.1 = some (tyJ4 k) := by decide +kernel
abbrev cJ4_init_da8c8 : ByteArray := prog_28_method_1_code
def yJ4_init_da8c8 : MethodName := ⟨RJ4, "<init>", "()V"⟩
abbrev cJ4_append_15ec4 : ByteArray := prog_28_method_7_code
def yJ4_append_15ec4 : MethodName := ⟨RJ4, "append", "(Ljava/lang/String;)Ljava/lang/StringBuilder;"⟩
abbrev cJ4_append_cf468 : ByteArray := prog_28_method_14_code
def yJ4_append_cf468 : MethodName := ⟨RJ4, "append", "(C)Ljava/lang/StringBuilder;"⟩
abbrev cJ4_append_bf812 : ByteArray := prog_28_method_15_code
def yJ4_append_bf812 : MethodName := ⟨RJ4, "append", "(I)Ljava/lang/StringBuilder;"⟩
abbrev cJ4_toString_0e30d : ByteArray := prog_28_method_42_code
def yJ4_toString_0e30d : MethodName := ⟨RJ4, "toString", "()Ljava/lang/String;"⟩
abbrev cJ4_length_8abf5 : ByteArray := prog_28_method_93_code
def yJ4_length_8abf5 : MethodName := ⟨RJ4, "length", "()I"⟩
def RJ1 : String := "java/lang/StringLatin1"
def TJ1 : u_T := fun k => match k with
  | _ => ("", "", "", false)
def tyJ1 : Nat → FieldType := fun k => match k with
  | _ => .int
abbrev wsJ10 : List Cond := u_ws RJ1 TJ1 0
theorem nmJ1 : ∀ a, a < 0 → ∀ b, b < 0 → a ≠ b → (TJ1 a).2.1 ≠ (TJ1 b).2.1 := by decide +kernel
theorem tyJ1_ok : ∀ k, k < 0 → parseFieldDescriptor (TJ1 k).2.2.1 = some (tyJ1 k) := by decide +kernel
abbrev cJ1_charAt_3b067 : ByteArray := prog_29_method_2_code
def yJ1_charAt_3b067 : MethodName := ⟨RJ1, "charAt", "([BI)C"⟩
abbrev cJ1_canEncode_fc78d : ByteArray := prog_29_method_3_code
def yJ1_canEncode_fc78d : MethodName := ⟨RJ1, "canEncode", "(C)Z"⟩
abbrev cJ1_inflate_0e8fd : ByteArray := prog_29_method_50_code
def yJ1_inflate_0e8fd : MethodName := ⟨RJ1, "inflate", "([BI[BII)V"⟩
def RJ2 : String := "java/lang/StringUTF16"
def TJ2 : u_T := fun k => match k with
  | _ => ("", "", "", false)
def tyJ2 : Nat → FieldType := fun k => match k with
  | _ => .int
abbrev wsJ20 : List Cond := u_ws RJ2 TJ2 0
theorem nmJ2 : ∀ a, a < 0 → ∀ b, b < 0 → a ≠ b → (TJ2 a).2.1 ≠ (TJ2 b).2.1 := by decide +kernel
theorem tyJ2_ok : ∀ k, k < 0 → parseFieldDescriptor (TJ2 k).2.2.1 = some (tyJ2 k) := by decide +kernel
abbrev cJ2_newBytesFor_77867 : ByteArray := prog_30_method_2_code
def yJ2_newBytesFor_77867 : MethodName := ⟨RJ2, "newBytesFor", "(I)[B"⟩
abbrev cJ2_newBytesLength_0f7a4 : ByteArray := prog_30_method_3_code
def yJ2_newBytesLength_0f7a4 : MethodName := ⟨RJ2, "newBytesLength", "(I)I"⟩
abbrev cJ2_putChar_b72d1 : ByteArray := prog_30_method_4_code
def yJ2_putChar_b72d1 : MethodName := ⟨RJ2, "putChar", "([BII)V"⟩
abbrev cJ2_getChar_3b067 : ByteArray := prog_30_method_5_code
def yJ2_getChar_3b067 : MethodName := ⟨RJ2, "getChar", "([BI)C"⟩
abbrev cJ2_length_9d52b : ByteArray := prog_30_method_6_code
def yJ2_length_9d52b : MethodName := ⟨RJ2, "length", "([B)I"⟩
abbrev cJ2_coderFromArrayLen_85cad : ByteArray := prog_30_method_15_code
def yJ2_coderFromArrayLen_85cad : MethodName := ⟨RJ2, "coderFromArrayLen", "([BI)B"⟩
abbrev cJ2_compress_39247 : ByteArray := prog_30_method_17_code
def yJ2_compress_39247 : MethodName := ⟨RJ2, "compress", "([BII)[B"⟩
abbrev cJ2_compress_5af95 : ByteArray := prog_30_method_22_code
def yJ2_compress_5af95 : MethodName := ⟨RJ2, "compress", "([BI[BII)I"⟩
abbrev cJ2_putCharSB_b72d1 : ByteArray := prog_30_method_71_code
def yJ2_putCharSB_b72d1 : MethodName := ⟨RJ2, "putCharSB", "([BII)V"⟩
abbrev cJ2_getChars_46870 : ByteArray := prog_30_method_77_code
def yJ2_getChars_46870 : MethodName := ⟨RJ2, "getChars", "(III[B)I"⟩
abbrev cJ2_putCharsAt_cd4e5 : ByteArray := prog_30_method_81_code
def yJ2_putCharsAt_cd4e5 : MethodName := ⟨RJ2, "putCharsAt", "([BICCCC)I"⟩
abbrev cJ2_charAt_3b067 : ByteArray := prog_30_method_83_code
def yJ2_charAt_3b067 : MethodName := ⟨RJ2, "charAt", "([BI)C"⟩
abbrev cJ2_inflate_0e8fd : ByteArray := prog_30_method_86_code
def yJ2_inflate_0e8fd : MethodName := ⟨RJ2, "inflate", "([BI[BII)V"⟩
abbrev cJ2_getChars_ba4f3 : ByteArray := prog_30_method_89_code
def yJ2_getChars_ba4f3 : MethodName := ⟨RJ2, "getChars", "(II[B)I"⟩
abbrev cJ2_checkIndex_2214a : ByteArray := prog_30_method_91_code
def yJ2_checkIndex_2214a : MethodName := ⟨RJ2, "checkIndex", "(I[B)V"⟩
abbrev cJ2_checkBoundsBeginEnd_d044e : ByteArray := prog_30_method_93_code
def yJ2_checkBoundsBeginEnd_d044e : MethodName := ⟨RJ2, "checkBoundsBeginEnd", "(II[B)V"⟩
abbrev cJ2_checkBoundsOffCount_d044e : ByteArray := prog_30_method_94_code
def yJ2_checkBoundsOffCount_d044e : MethodName := ⟨RJ2, "checkBoundsOffCount", "(II[B)V"⟩
def RJ10 : String := "java/lang/System"
def TJ10 : u_T := fun k => match k with
  | _ => ("", "", "", false)
def tyJ10 : Nat → FieldType := fun k => match k with
  | _ => .int
abbrev wsJ100 : List Cond := u_ws RJ10 TJ10 0
theorem nmJ10 : ∀ a, a < 0 → ∀ b, b < 0 → a ≠ b → (TJ10 a).2.1 ≠ (TJ10 b).2.1 := by decide +kernel
theorem tyJ10_ok : ∀ k, k < 0 → parseFieldDescriptor (TJ10 k).2.2.1 = some (tyJ10 k) := by decide +kernel
def RJxfd54e : String := "java/lang/constant/Constable"
def TJxfd54e : u_T := fun k => match k with
  | _ => ("", "", "", false)
def tyJxfd54e : Nat → FieldType := fun k => match k with
  | _ => .int
abbrev wsJxfd54e0 : List Cond := u_ws RJxfd54e TJxfd54e 0
theorem nmJxfd54e : ∀ a, a < 0 → ∀ b, b < 0 → a ≠ b → (TJxfd54e a).2.1 ≠ (TJxfd54e b).2.1 := by decide +kernel
theorem tyJxfd54e_ok : ∀ k, k < 0 → parseFieldDescriptor (TJxfd54e k).2.2.1 = some (tyJxfd54e k) := by decide +kernel
def RJx3cf43 : String := "java/lang/constant/ConstantDesc"
def TJx3cf43 : u_T := fun k => match k with
  | _ => ("", "", "", false)
def tyJx3cf43 : Nat → FieldType := fun k => match k with
  | _ => .int
abbrev wsJx3cf430 : List Cond := u_ws RJx3cf43 TJx3cf43 0
theorem nmJx3cf43 : ∀ a, a < 0 → ∀ b, b < 0 → a ≠ b → (TJx3cf43 a).2.1 ≠ (TJx3cf43 b).2.1 := by decide +kernel
theorem tyJx3cf43_ok : ∀ k, k < 0 → parseFieldDescriptor (TJx3cf43 k).2.2.1 = some (tyJx3cf43 k) := by decide +kernel
def RJxa1e45 : String := "java/util/AbstractCollection"
def TJxa1e45 : u_T := fun k => match k with
  | _ => ("", "", "", false)
def tyJxa1e45 : Nat → FieldType := fun k => match k with
  | _ => .int
abbrev wsJxa1e450 : List Cond := u_ws RJxa1e45 TJxa1e45 0
theorem nmJxa1e45 : ∀ a, a < 0 → ∀ b, b < 0 → a ≠ b → (TJxa1e45 a).2.1 ≠ (TJxa1e45 b).2.1 := by decide +kernel
theorem tyJxa1e45_ok : ∀ k, k < 0 → parseFieldDescriptor (TJxa1e45 k).2.2.1 = some (tyJxa1e45 k) := by decide +kernel
abbrev cJxa1e45_init_da8c8 : ByteArray := prog_34_method_1_code
def yJxa1e45_init_da8c8 : MethodName := ⟨RJxa1e45, "<init>", "()V"⟩
def RJxc12de : String := "java/util/AbstractList"
def TJxc12de : u_T := fun k => match k with
  | _ => ("", "", "", false)
def tyJxc12de : Nat → FieldType := fun k => match k with
  | _ => .int
abbrev wsJxc12de0 : List Cond := u_ws RJxc12de TJxc12de 0
theorem nmJxc12de : ∀ a, a < 0 → ∀ b, b < 0 → a ≠ b → (TJxc12de a).2.1 ≠ (TJxc12de b).2.1 := by decide +kernel
theorem tyJxc12de_ok : ∀ k, k < 0 → parseFieldDescriptor (TJxc12de k).2.2.1 = some (tyJxc12de k) := by decide +kernel
abbrev cJxc12de_init_da8c8 : ByteArray := prog_35_method_1_code
def yJxc12de_init_da8c8 : MethodName := ⟨RJxc12de, "<init>", "()V"⟩
def RJx4a65c : String := "java/util/ArrayList"
def TJx4a65c : u_T := fun k => match k with
  | 0 => ("java/util/AbstractList", "modCount", "I", false)
  | 1 => ("java/util/ArrayList", "elementData", "[Ljava/lang/Object;", false)
  | _ => ("java/util/ArrayList", "size", "I", false)
def tyJx4a65c : Nat → FieldType := fun k => match k with
  | 0 => .int
  | 1 => .array (.object "java/lang/Object")
  | _ => .int
abbrev wsJx4a65c0 : List Cond := u_ws RJx4a65c TJx4a65c 3
theorem nmJx4a65c : ∀ a, a < 3 → ∀ b, b < 3 → a ≠ b → (TJx4a65c a).2.1 ≠ (TJx4a65c b).2.1 := by decide +kernel
theorem tyJx4a65c_ok : ∀ k, k < 3 → parseFieldDescriptor (TJx4a65c k).2.2.1 = some (tyJx4a65c k) := by decide +kernel
abbrev cJx4a65c_init_da8c8 : ByteArray := prog_36_method_2_code
def yJx4a65c_init_da8c8 : MethodName := ⟨RJx4a65c, "<init>", "()V"⟩
abbrev cJx4a65c_grow_92f84 : ByteArray := prog_36_method_6_code
def yJx4a65c_grow_92f84 : MethodName := ⟨RJx4a65c, "grow", "(I)[Ljava/lang/Object;"⟩
abbrev cJx4a65c_grow_d5877 : ByteArray := prog_36_method_7_code
def yJx4a65c_grow_d5877 : MethodName := ⟨RJx4a65c, "grow", "()[Ljava/lang/Object;"⟩
abbrev cJx4a65c_size_8abf5 : ByteArray := prog_36_method_8_code
def yJx4a65c_size_8abf5 : MethodName := ⟨RJx4a65c, "size", "()I"⟩
abbrev cJx4a65c_isEmpty_aae02 : ByteArray := prog_36_method_9_code
def yJx4a65c_isEmpty_aae02 : MethodName := ⟨RJx4a65c, "isEmpty", "()Z"⟩
abbrev cJx4a65c_elementData_915e3 : ByteArray := prog_36_method_18_code
def yJx4a65c_elementData_915e3 : MethodName := ⟨RJx4a65c, "elementData", "(I)Ljava/lang/Object;"⟩
abbrev cJx4a65c_get_915e3 : ByteArray := prog_36_method_20_code
def yJx4a65c_get_915e3 : MethodName := ⟨RJx4a65c, "get", "(I)Ljava/lang/Object;"⟩
abbrev cJx4a65c_add_72be8 : ByteArray := prog_36_method_24_code
def yJx4a65c_add_72be8 : MethodName := ⟨RJx4a65c, "add", "(Ljava/lang/Object;[Ljava/lang/Object;I)V"⟩
abbrev cJx4a65c_add_9ea2d : ByteArray := prog_36_method_25_code
def yJx4a65c_add_9ea2d : MethodName := ⟨RJx4a65c, "add", "(Ljava/lang/Object;)Z"⟩
abbrev cJx4a65c_remove_915e3 : ByteArray := prog_36_method_29_code
def yJx4a65c_remove_915e3 : MethodName := ⟨RJx4a65c, "remove", "(I)Ljava/lang/Object;"⟩
abbrev cJx4a65c_fastRemove_b59b0 : ByteArray := prog_36_method_39_code
def yJx4a65c_fastRemove_b59b0 : MethodName := ⟨RJx4a65c, "fastRemove", "([Ljava/lang/Object;I)V"⟩
def RJ7 : String := "java/util/Arrays"
def TJ7 : u_T := fun k => match k with
  | _ => ("", "", "", false)
def tyJ7 : Nat → FieldType := fun k => match k with
  | _ => .int
abbrev wsJ70 : List Cond := u_ws RJ7 TJ7 0
theorem nmJ7 : ∀ a, a < 0 → ∀ b, b < 0 → a ≠ b → (TJ7 a).2.1 ≠ (TJ7 b).2.1 := by decide +kernel
theorem tyJ7_ok : ∀ k, k < 0 → parseFieldDescriptor (TJ7 k).2.2.1 = some (tyJ7 k) := by decide +kernel
abbrev cJ7_copyOf_1904c : ByteArray := prog_37_method_119_code
def yJ7_copyOf_1904c : MethodName := ⟨RJ7, "copyOf", "([Ljava/lang/Object;I)[Ljava/lang/Object;"⟩
abbrev cJ7_copyOf_6403c : ByteArray := prog_37_method_120_code
def yJ7_copyOf_6403c : MethodName := ⟨RJ7, "copyOf", "([Ljava/lang/Object;ILjava/lang/Class;)[Ljava/lang/Object;"⟩
abbrev cJ7_copyOf_9075b : ByteArray := prog_37_method_121_code
def yJ7_copyOf_9075b : MethodName := ⟨RJ7, "copyOf", "([BI)[B"⟩
abbrev cJ7_checkLength_df160 : ByteArray := prog_37_method_131_code
def yJ7_checkLength_df160 : MethodName := ⟨RJ7, "checkLength", "(II)V"⟩
abbrev cJ7_copyOfRange_39247 : ByteArray := prog_37_method_132_code
def yJ7_copyOfRange_39247 : MethodName := ⟨RJ7, "copyOfRange", "([BII)[B"⟩
abbrev cJ7_copyOfRangeByte_39247 : ByteArray := prog_37_method_133_code
def yJ7_copyOfRangeByte_39247 : MethodName := ⟨RJ7, "copyOfRangeByte", "([BII)[B"⟩
def RJx5ef63 : String := "java/util/Collection"
def TJx5ef63 : u_T := fun k => match k with
  | _ => ("", "", "", false)
def tyJx5ef63 : Nat → FieldType := fun k => match k with
  | _ => .int
abbrev wsJx5ef630 : List Cond := u_ws RJx5ef63 TJx5ef63 0
theorem nmJx5ef63 : ∀ a, a < 0 → ∀ b, b < 0 → a ≠ b → (TJx5ef63 a).2.1 ≠ (TJx5ef63 b).2.1 := by decide +kernel
theorem tyJx5ef63_ok : ∀ k, k < 0 → parseFieldDescriptor (TJx5ef63 k).2.2.1 = some (tyJx5ef63 k) := by decide +kernel
def RJxbd725 : String := "java/util/List"
def TJxbd725 : u_T := fun k => match k with
  | _ => ("", "", "", false)
def tyJxbd725 : Nat → FieldType := fun k => match k with
  | _ => .int
abbrev wsJxbd7250 : List Cond := u_ws RJxbd725 TJxbd725 0
theorem nmJxbd725 : ∀ a, a < 0 → ∀ b, b < 0 → a ≠ b → (TJxbd725 a).2.1 ≠ (TJxbd725 b).2.1 := by decide +kernel
theorem tyJxbd725_ok : ∀ k, k < 0 → parseFieldDescriptor (TJxbd725 k).2.2.1 = some (tyJxbd725 k) := by decide +kernel
def RJ15 : String := "java/util/Objects"
def TJ15 : u_T := fun k => match k with
  | _ => ("", "", "", false)
def tyJ15 : Nat → FieldType := fun k => match k with
  | _ => .int
abbrev wsJ150 : List Cond := u_ws RJ15 TJ15 0
theorem nmJ15 : ∀ a, a < 0 → ∀ b, b < 0 → a ≠ b → (TJ15 a).2.1 ≠ (TJ15 b).2.1 := by decide +kernel
theorem tyJ15_ok : ∀ k, k < 0 → parseFieldDescriptor (TJ15 k).2.2.1 = some (tyJ15 k) := by decide +kernel
abbrev cJ15_checkIndex_7cf53 : ByteArray := prog_40_method_17_code
def yJ15_checkIndex_7cf53 : MethodName := ⟨RJ15, "checkIndex", "(II)I"⟩
def RJxf0a74 : String := "java/util/RandomAccess"
def TJxf0a74 : u_T := fun k => match k with
  | _ => ("", "", "", false)
def tyJxf0a74 : Nat → FieldType := fun k => match k with
  | _ => .int
abbrev wsJxf0a740 : List Cond := u_ws RJxf0a74 TJxf0a74 0
theorem nmJxf0a74 : ∀ a, a < 0 → ∀ b, b < 0 → a ≠ b → (TJxf0a74 a).2.1 ≠ (TJxf0a74 b).2.1 := by decide +kernel
theorem tyJxf0a74_ok : ∀ k, k < 0 → parseFieldDescriptor (TJxf0a74 k).2.2.1 = some (tyJxf0a74 k) := by decide +kernel
def RJxa66e6 : String := "java/util/SequencedCollection"
def TJxa66e6 : u_T := fun k => match k with
  | _ => ("", "", "", false)
def tyJxa66e6 : Nat → FieldType := fun k => match k with
  | _ => .int
abbrev wsJxa66e60 : List Cond := u_ws RJxa66e6 TJxa66e6 0
theorem nmJxa66e6 : ∀ a, a < 0 → ∀ b, b < 0 → a ≠ b → (TJxa66e6 a).2.1 ≠ (TJxa66e6 b).2.1 := by decide +kernel
theorem tyJxa66e6_ok : ∀ k, k < 0 → parseFieldDescriptor (TJxa66e6 k).2.2.1 = some (tyJxa66e6 k) := by decide +kernel
def RJ8 : String := "jdk/internal/util/ArraysSupport"
def TJ8 : u_T := fun k => match k with
  | _ => ("", "", "", false)
def tyJ8 : Nat → FieldType := fun k => match k with
  | _ => .int
abbrev wsJ80 : List Cond := u_ws RJ8 TJ8 0
theorem nmJ8 : ∀ a, a < 0 → ∀ b, b < 0 → a ≠ b → (TJ8 a).2.1 ≠ (TJ8 b).2.1 := by decide +kernel
theorem tyJ8_ok : ∀ k, k < 0 → parseFieldDescriptor (TJ8 k).2.2.1 = some (tyJ8 k) := by decide +kernel
abbrev cJ8_newLength_cabcc : ByteArray := prog_43_method_27_code
def yJ8_newLength_cabcc : MethodName := ⟨RJ8, "newLength", "(III)I"⟩
abbrev cJ8_hugeLength_7cf53 : ByteArray := prog_43_method_28_code
def yJ8_hugeLength_7cf53 : MethodName := ⟨RJ8, "hugeLength", "(II)I"⟩
def RJ3 : String := "jdk/internal/util/Preconditions"
def TJ3 : u_T := fun k => match k with
  | _ => ("", "", "", false)
def tyJ3 : Nat → FieldType := fun k => match k with
  | _ => .int
abbrev wsJ30 : List Cond := u_ws RJ3 TJ3 0
theorem nmJ3 : ∀ a, a < 0 → ∀ b, b < 0 → a ≠ b → (TJ3 a).2.1 ≠ (TJ3 b).2.1 := by decide +kernel
theorem tyJ3_ok : ∀ k, k < 0 → parseFieldDescriptor (TJ3 k).2.2.1 = some (tyJ3 k) := by decide +kernel
abbrev cJ3_checkIndex_8e157 : ByteArray := prog_44_method_11_code
def yJ3_checkIndex_8e157 : MethodName := ⟨RJ3, "checkIndex", "(IILjava/util/function/BiFunction;)I"⟩
abbrev cJ3_checkFromToIndex_8c36e : ByteArray := prog_44_method_12_code
def yJ3_checkFromToIndex_8c36e : MethodName := ⟨RJ3, "checkFromToIndex", "(IIILjava/util/function/BiFunction;)I"⟩
abbrev cJ3_checkFromIndexSize_8c36e : ByteArray := prog_44_method_13_code
def yJ3_checkFromIndexSize_8c36e : MethodName := ⟨RJ3, "checkFromIndexSize", "(IIILjava/util/function/BiFunction;)I"⟩
def RL : String := "RateLimiterLaw"
abbrev cL_cell : ByteArray := method_2_code
def yL_cell : MethodName := ⟨RL, "cell", "([II)I"⟩
abbrev cL_mixed : ByteArray := method_3_code
def yL_mixed : MethodName := ⟨RL, "mixed", "(I)I"⟩
abbrev cL_draw : ByteArray := method_4_code
def yL_draw : MethodName := ⟨RL, "draw", "([II)I"⟩
abbrev cL_fill : ByteArray := method_5_code
def yL_fill : MethodName := ⟨RL, "fill", "(LRateLimiter;Ljava/lang/String;)Z"⟩
abbrev cL_stands : ByteArray := method_6_code
def yL_stands : MethodName := ⟨RL, "stands", "(LRateLimiter;LRateLimiterLaw$Tree;)Z"⟩
abbrev cL_same : ByteArray := method_7_code
def yL_same : MethodName := ⟨RL, "same", "(LRateLimiter;LRateLimiterLaw$Tree;)Z"⟩
abbrev cL_law : ByteArray := code
def yL_law : MethodName := ⟨RL, "law", "([I)Z"⟩
abbrev cL_tree : ByteArray := method_9_code
def yL_tree : MethodName := ⟨RL, "tree", "(LRateLimiter;LRateLimiterLaw$Tree;)Z"⟩
abbrev cL_asked : ByteArray := method_10_code
def yL_asked : MethodName := ⟨RL, "asked", "(LRateLimiter;LRateLimiterLaw$Tree;II)Z"⟩
abbrev cL_back : ByteArray := method_11_code
def yL_back : MethodName := ⟨RL, "back", "(LRateLimiterLaw$Tree;[[I)V"⟩
abbrev vwCl : List vw_C := [(RX0, TX0, 3), (RX1, TX1, 5), (RX2, TX2, 5), (RX3, TX3, 5), (RX4, TX4, 5), (RX5, TX5, 11), (RX6, TX6, 6), (RX7, TX7, 15), (RX8, TX8, 9), (RX9, TX9, 2), (RX10, TX10, 4), (RX11, TX11, 8), (RX12, TX12, 25), (RJ0, TJ0, 4), (RJ4, TJ4, 4), (RJx4a65c, TJx4a65c, 3)]
end
section
theorem dX0_init_0 : decode cX0_init 0 = .ok (.aload_n 0, 1) := by decide +kernel
theorem dX0_init_1 : decode cX0_init 1 = .ok (.invokespecial 3, 3) := by decide +kernel
theorem dX0_init_4 : decode cX0_init 4 = .ok (.aload_n 0, 1) := by decide +kernel
theorem dX0_init_5 : decode cX0_init 5 = .ok (.bipush 12, 2) := by decide +kernel
theorem dX0_init_7 : decode cX0_init 7 = .ok (.newarray .int, 2) := by decide +kernel
theorem dX0_init_9 : decode cX0_init 9 = .ok (.putfield 9, 3) := by decide +kernel
theorem dX0_init_12 : decode cX0_init 12 = .ok (.aload_n 0, 1) := by decide +kernel
theorem dX0_init_13 : decode cX0_init 13 = .ok (.bipush 12, 2) := by decide +kernel
theorem dX0_init_15 : decode cX0_init 15 = .ok (.newarray .int, 2) := by decide +kernel
theorem dX0_init_17 : decode cX0_init 17 = .ok (.putfield 15, 3) := by decide +kernel
theorem dX0_init_20 : decode cX0_init 20 = .ok (.aload_n 0, 1) := by decide +kernel
theorem dX0_init_21 : decode cX0_init 21 = .ok (.bipush 12, 2) := by decide +kernel
theorem dX0_init_23 : decode cX0_init 23 = .ok (.newarray .int, 2) := by decide +kernel
theorem dX0_init_25 : decode cX0_init 25 = .ok (.putfield 18, 3) := by decide +kernel
theorem dX0_init_28 : decode cX0_init 28 = .ok (.return_, 1) := by decide +kernel
theorem dX0_begin_0 : decode cX0_begin 0 = .ok (.aload_n 1, 1) := by decide +kernel
theorem dX0_begin_1 : decode cX0_begin 1 = .ok (.getfield 21, 3) := by decide +kernel
theorem dX0_begin_4 : decode cX0_begin 4 = .ok (.aload_n 0, 1) := by decide +kernel
theorem dX0_begin_5 : decode cX0_begin 5 = .ok (.getfield 9, 3) := by decide +kernel
theorem dX0_begin_8 : decode cX0_begin 8 = .ok (.invokestatic 26, 3) := by decide +kernel
theorem dX0_begin_11 : decode cX0_begin 11 = .ok (.aload_n 1, 1) := by decide +kernel
theorem dX0_begin_12 : decode cX0_begin 12 = .ok (.getfield 21, 3) := by decide +kernel
theorem dX0_begin_15 : decode cX0_begin 15 = .ok (.aload_n 0, 1) := by decide +kernel
theorem dX0_begin_16 : decode cX0_begin 16 = .ok (.getfield 18, 3) := by decide +kernel
theorem dX0_begin_19 : decode cX0_begin 19 = .ok (.invokestatic 26, 3) := by decide +kernel
theorem dX0_begin_22 : decode cX0_begin 22 = .ok (.aload_n 0, 1) := by decide +kernel
theorem dX0_begin_23 : decode cX0_begin 23 = .ok (.getfield 15, 3) := by decide +kernel
theorem dX0_begin_26 : decode cX0_begin 26 = .ok (.invokestatic 30, 3) := by decide +kernel
theorem dX0_begin_29 : decode cX0_begin 29 = .ok (.return_, 1) := by decide +kernel
theorem dX0_copyFrom_0 : decode cX0_copyFrom 0 = .ok (.aload_n 1, 1) := by decide +kernel
theorem dX0_copyFrom_1 : decode cX0_copyFrom 1 = .ok (.getfield 9, 3) := by decide +kernel
theorem dX0_copyFrom_4 : decode cX0_copyFrom 4 = .ok (.aload_n 0, 1) := by decide +kernel
theorem dX0_copyFrom_5 : decode cX0_copyFrom 5 = .ok (.getfield 9, 3) := by decide +kernel
theorem dX0_copyFrom_8 : decode cX0_copyFrom 8 = .ok (.invokestatic 26, 3) := by decide +kernel
theorem dX0_copyFrom_11 : decode cX0_copyFrom 11 = .ok (.aload_n 1, 1) := by decide +kernel
theorem dX0_copyFrom_12 : decode cX0_copyFrom 12 = .ok (.getfield 15, 3) := by decide +kernel
theorem dX0_copyFrom_15 : decode cX0_copyFrom 15 = .ok (.aload_n 0, 1) := by decide +kernel
theorem dX0_copyFrom_16 : decode cX0_copyFrom 16 = .ok (.getfield 15, 3) := by decide +kernel
theorem dX0_copyFrom_19 : decode cX0_copyFrom 19 = .ok (.invokestatic 26, 3) := by decide +kernel
theorem dX0_copyFrom_22 : decode cX0_copyFrom 22 = .ok (.aload_n 1, 1) := by decide +kernel
theorem dX0_copyFrom_23 : decode cX0_copyFrom 23 = .ok (.getfield 18, 3) := by decide +kernel
theorem dX0_copyFrom_26 : decode cX0_copyFrom 26 = .ok (.aload_n 0, 1) := by decide +kernel
theorem dX0_copyFrom_27 : decode cX0_copyFrom 27 = .ok (.getfield 18, 3) := by decide +kernel
theorem dX0_copyFrom_30 : decode cX0_copyFrom 30 = .ok (.invokestatic 26, 3) := by decide +kernel
theorem dX0_copyFrom_33 : decode cX0_copyFrom 33 = .ok (.return_, 1) := by decide +kernel
theorem dX0_refill_0 : decode cX0_refill 0 = .ok (.aload_n 0, 1) := by decide +kernel
theorem dX0_refill_1 : decode cX0_refill 1 = .ok (.getfield 9, 3) := by decide +kernel
theorem dX0_refill_4 : decode cX0_refill 4 = .ok (.iload_n 2, 1) := by decide +kernel
theorem dX0_refill_5 : decode cX0_refill 5 = .ok (.iaload, 1) := by decide +kernel
theorem dX0_refill_6 : decode cX0_refill 6 = .ok (.iload_n 3, 1) := by decide +kernel
theorem dX0_refill_7 : decode cX0_refill 7 = .ok (.iadd, 1) := by decide +kernel
theorem dX0_refill_8 : decode cX0_refill 8 = .ok (.istore 5, 2) := by decide +kernel
theorem dX0_refill_10 : decode cX0_refill 10 = .ok (.iconst 0, 1) := by decide +kernel
theorem dX0_refill_11 : decode cX0_refill 11 = .ok (.iload 5, 2) := by decide +kernel
theorem dX0_refill_13 : decode cX0_refill 13 = .ok (.aload_n 1, 1) := by decide +kernel
theorem dX0_refill_14 : decode cX0_refill 14 = .ok (.getfield 21, 3) := by decide +kernel
theorem dX0_refill_17 : decode cX0_refill 17 = .ok (.iload_n 2, 1) := by decide +kernel
theorem dX0_refill_18 : decode cX0_refill 18 = .ok (.iaload, 1) := by decide +kernel
theorem dX0_refill_19 : decode cX0_refill 19 = .ok (.isub, 1) := by decide +kernel
theorem dX0_refill_20 : decode cX0_refill 20 = .ok (.invokestatic 34, 3) := by decide +kernel
theorem dX0_refill_23 : decode cX0_refill 23 = .ok (.istore 6, 2) := by decide +kernel
theorem dX0_refill_25 : decode cX0_refill 25 = .ok (.aload_n 0, 1) := by decide +kernel
theorem dX0_refill_26 : decode cX0_refill 26 = .ok (.getfield 9, 3) := by decide +kernel
theorem dX0_refill_29 : decode cX0_refill 29 = .ok (.iload_n 2, 1) := by decide +kernel
theorem dX0_refill_30 : decode cX0_refill 30 = .ok (.iload 5, 2) := by decide +kernel
theorem dX0_refill_32 : decode cX0_refill 32 = .ok (.iload 6, 2) := by decide +kernel
theorem dX0_refill_34 : decode cX0_refill 34 = .ok (.isub, 1) := by decide +kernel
theorem dX0_refill_35 : decode cX0_refill 35 = .ok (.iastore, 1) := by decide +kernel
theorem dX0_refill_36 : decode cX0_refill 36 = .ok (.aload_n 0, 1) := by decide +kernel
theorem dX0_refill_37 : decode cX0_refill 37 = .ok (.getfield 15, 3) := by decide +kernel
theorem dX0_refill_40 : decode cX0_refill 40 = .ok (.iload_n 2, 1) := by decide +kernel
theorem dX0_refill_41 : decode cX0_refill 41 = .ok (.aload_n 1, 1) := by decide +kernel
theorem dX0_refill_42 : decode cX0_refill 42 = .ok (.getfield 40, 3) := by decide +kernel
theorem dX0_refill_45 : decode cX0_refill 45 = .ok (.iload_n 2, 1) := by decide +kernel
theorem dX0_refill_46 : decode cX0_refill 46 = .ok (.iaload, 1) := by decide +kernel
theorem dX0_refill_47 : decode cX0_refill 47 = .ok (.aload_n 0, 1) := by decide +kernel
theorem dX0_refill_48 : decode cX0_refill 48 = .ok (.getfield 15, 3) := by decide +kernel
theorem dX0_refill_51 : decode cX0_refill 51 = .ok (.iload_n 2, 1) := by decide +kernel
theorem dX0_refill_52 : decode cX0_refill 52 = .ok (.iaload, 1) := by decide +kernel
theorem dX0_refill_53 : decode cX0_refill 53 = .ok (.iload 6, 2) := by decide +kernel
theorem dX0_refill_55 : decode cX0_refill 55 = .ok (.iadd, 1) := by decide +kernel
theorem dX0_refill_56 : decode cX0_refill 56 = .ok (.invokestatic 43, 3) := by decide +kernel
theorem dX0_refill_59 : decode cX0_refill 59 = .ok (.iastore, 1) := by decide +kernel
theorem dX0_refill_60 : decode cX0_refill 60 = .ok (.aload_n 0, 1) := by decide +kernel
theorem dX0_refill_61 : decode cX0_refill 61 = .ok (.getfield 18, 3) := by decide +kernel
theorem dX0_refill_64 : decode cX0_refill 64 = .ok (.iload_n 2, 1) := by decide +kernel
theorem dX0_refill_65 : decode cX0_refill 65 = .ok (.aload_n 1, 1) := by decide +kernel
theorem dX0_refill_66 : decode cX0_refill 66 = .ok (.getfield 21, 3) := by decide +kernel
theorem dX0_refill_69 : decode cX0_refill 69 = .ok (.iload_n 2, 1) := by decide +kernel
theorem dX0_refill_70 : decode cX0_refill 70 = .ok (.iaload, 1) := by decide +kernel
theorem dX0_refill_71 : decode cX0_refill 71 = .ok (.aload_n 0, 1) := by decide +kernel
theorem dX0_refill_72 : decode cX0_refill 72 = .ok (.getfield 18, 3) := by decide +kernel
theorem dX0_refill_75 : decode cX0_refill 75 = .ok (.iload_n 2, 1) := by decide +kernel
theorem dX0_refill_76 : decode cX0_refill 76 = .ok (.iaload, 1) := by decide +kernel
theorem dX0_refill_77 : decode cX0_refill 77 = .ok (.iload 4, 2) := by decide +kernel
theorem dX0_refill_79 : decode cX0_refill 79 = .ok (.iadd, 1) := by decide +kernel
theorem dX0_refill_80 : decode cX0_refill 80 = .ok (.invokestatic 43, 3) := by decide +kernel
theorem dX0_refill_83 : decode cX0_refill 83 = .ok (.iastore, 1) := by decide +kernel
theorem dX0_refill_84 : decode cX0_refill 84 = .ok (.return_, 1) := by decide +kernel
theorem dX0_findBlocking_0 : decode cX0_findBlocking 0 = .ok (.iload_n 2, 1) := by decide +kernel
theorem dX0_findBlocking_1 : decode cX0_findBlocking 1 = .ok (.istore 4, 2) := by decide +kernel
theorem dX0_findBlocking_3 : decode cX0_findBlocking 3 = .ok (.iconst 0, 1) := by decide +kernel
theorem dX0_findBlocking_4 : decode cX0_findBlocking 4 = .ok (.istore 5, 2) := by decide +kernel
theorem dX0_findBlocking_6 : decode cX0_findBlocking 6 = .ok (.iload 5, 2) := by decide +kernel
theorem dX0_findBlocking_8 : decode cX0_findBlocking 8 = .ok (.bipush 12, 2) := by decide +kernel
theorem dX0_findBlocking_10 : decode cX0_findBlocking 10 = .ok (.if_icmp .ge 41, 3) := by decide +kernel
theorem dX0_findBlocking_13 : decode cX0_findBlocking 13 = .ok (.aload_n 1, 1) := by decide +kernel
theorem dX0_findBlocking_14 : decode cX0_findBlocking 14 = .ok (.iload 4, 2) := by decide +kernel
theorem dX0_findBlocking_16 : decode cX0_findBlocking 16 = .ok (.invokevirtual 46, 3) := by decide +kernel
theorem dX0_findBlocking_19 : decode cX0_findBlocking 19 = .ok (.ifCond .eq 32, 3) := by decide +kernel
theorem dX0_findBlocking_22 : decode cX0_findBlocking 22 = .ok (.aload_n 0, 1) := by decide +kernel
theorem dX0_findBlocking_23 : decode cX0_findBlocking 23 = .ok (.getfield 18, 3) := by decide +kernel
theorem dX0_findBlocking_26 : decode cX0_findBlocking 26 = .ok (.iload 4, 2) := by decide +kernel
theorem dX0_findBlocking_28 : decode cX0_findBlocking 28 = .ok (.iaload, 1) := by decide +kernel
theorem dX0_findBlocking_29 : decode cX0_findBlocking 29 = .ok (.iload_n 3, 1) := by decide +kernel
theorem dX0_findBlocking_30 : decode cX0_findBlocking 30 = .ok (.if_icmp .ge 6, 3) := by decide +kernel
theorem dX0_findBlocking_33 : decode cX0_findBlocking 33 = .ok (.iload 4, 2) := by decide +kernel
theorem dX0_findBlocking_35 : decode cX0_findBlocking 35 = .ok (.ireturn, 1) := by decide +kernel
theorem dX0_findBlocking_36 : decode cX0_findBlocking 36 = .ok (.aload_n 1, 1) := by decide +kernel
theorem dX0_findBlocking_37 : decode cX0_findBlocking 37 = .ok (.getfield 50, 3) := by decide +kernel
theorem dX0_findBlocking_40 : decode cX0_findBlocking 40 = .ok (.iload 4, 2) := by decide +kernel
theorem dX0_findBlocking_42 : decode cX0_findBlocking 42 = .ok (.iaload, 1) := by decide +kernel
theorem dX0_findBlocking_43 : decode cX0_findBlocking 43 = .ok (.istore 4, 2) := by decide +kernel
theorem dX0_findBlocking_45 : decode cX0_findBlocking 45 = .ok (.iinc 5 1, 3) := by decide +kernel
theorem dX0_findBlocking_48 : decode cX0_findBlocking 48 = .ok (.goto (-42), 3) := by decide +kernel
theorem dX0_findBlocking_51 : decode cX0_findBlocking 51 = .ok (.bipush (-2), 2) := by decide +kernel
theorem dX0_findBlocking_53 : decode cX0_findBlocking 53 = .ok (.ireturn, 1) := by decide +kernel
theorem dX0_findLender_0 : decode cX0_findLender 0 = .ok (.bipush (-2), 2) := by decide +kernel
theorem dX0_findLender_2 : decode cX0_findLender 2 = .ok (.istore 4, 2) := by decide +kernel
theorem dX0_findLender_4 : decode cX0_findLender 4 = .ok (.iconst 1, 1) := by decide +kernel
theorem dX0_findLender_5 : decode cX0_findLender 5 = .ok (.istore 5, 2) := by decide +kernel
theorem dX0_findLender_7 : decode cX0_findLender 7 = .ok (.iload_n 2, 1) := by decide +kernel
theorem dX0_findLender_8 : decode cX0_findLender 8 = .ok (.istore 6, 2) := by decide +kernel
theorem dX0_findLender_10 : decode cX0_findLender 10 = .ok (.iconst 0, 1) := by decide +kernel
theorem dX0_findLender_11 : decode cX0_findLender 11 = .ok (.istore 7, 2) := by decide +kernel
theorem dX0_findLender_13 : decode cX0_findLender 13 = .ok (.iload 7, 2) := by decide +kernel
theorem dX0_findLender_15 : decode cX0_findLender 15 = .ok (.bipush 12, 2) := by decide +kernel
theorem dX0_findLender_17 : decode cX0_findLender 17 = .ok (.if_icmp .ge 98, 3) := by decide +kernel
theorem dX0_findLender_20 : decode cX0_findLender 20 = .ok (.aload_n 1, 1) := by decide +kernel
theorem dX0_findLender_21 : decode cX0_findLender 21 = .ok (.iload 6, 2) := by decide +kernel
theorem dX0_findLender_23 : decode cX0_findLender 23 = .ok (.invokevirtual 46, 3) := by decide +kernel
theorem dX0_findLender_26 : decode cX0_findLender 26 = .ok (.ifCond .eq 89, 3) := by decide +kernel
theorem dX0_findLender_29 : decode cX0_findLender 29 = .ok (.aload_n 0, 1) := by decide +kernel
theorem dX0_findLender_30 : decode cX0_findLender 30 = .ok (.getfield 18, 3) := by decide +kernel
theorem dX0_findLender_33 : decode cX0_findLender 33 = .ok (.iload 6, 2) := by decide +kernel
theorem dX0_findLender_35 : decode cX0_findLender 35 = .ok (.iaload, 1) := by decide +kernel
theorem dX0_findLender_36 : decode cX0_findLender 36 = .ok (.iload_n 3, 1) := by decide +kernel
theorem dX0_findLender_37 : decode cX0_findLender 37 = .ok (.if_icmp .ge 6, 3) := by decide +kernel
theorem dX0_findLender_40 : decode cX0_findLender 40 = .ok (.bipush (-2), 2) := by decide +kernel
theorem dX0_findLender_42 : decode cX0_findLender 42 = .ok (.ireturn, 1) := by decide +kernel
theorem dX0_findLender_43 : decode cX0_findLender 43 = .ok (.iload 5, 2) := by decide +kernel
theorem dX0_findLender_45 : decode cX0_findLender 45 = .ok (.ifCond .eq 26, 3) := by decide +kernel
theorem dX0_findLender_48 : decode cX0_findLender 48 = .ok (.aload_n 0, 1) := by decide +kernel
theorem dX0_findLender_49 : decode cX0_findLender 49 = .ok (.getfield 9, 3) := by decide +kernel
theorem dX0_findLender_52 : decode cX0_findLender 52 = .ok (.iload 6, 2) := by decide +kernel
theorem dX0_findLender_54 : decode cX0_findLender 54 = .ok (.iaload, 1) := by decide +kernel
theorem dX0_findLender_55 : decode cX0_findLender 55 = .ok (.aload_n 0, 1) := by decide +kernel
theorem dX0_findLender_56 : decode cX0_findLender 56 = .ok (.getfield 15, 3) := by decide +kernel
theorem dX0_findLender_59 : decode cX0_findLender 59 = .ok (.iload 6, 2) := by decide +kernel
theorem dX0_findLender_61 : decode cX0_findLender 61 = .ok (.iaload, 1) := by decide +kernel
theorem dX0_findLender_62 : decode cX0_findLender 62 = .ok (.iadd, 1) := by decide +kernel
theorem dX0_findLender_63 : decode cX0_findLender 63 = .ok (.iload_n 3, 1) := by decide +kernel
theorem dX0_findLender_64 : decode cX0_findLender 64 = .ok (.if_icmp .lt 7, 3) := by decide +kernel
theorem dX0_findLender_67 : decode cX0_findLender 67 = .ok (.iload 6, 2) := by decide +kernel
theorem dX0_findLender_69 : decode cX0_findLender 69 = .ok (.istore 4, 2) := by decide +kernel
theorem dX0_findLender_71 : decode cX0_findLender 71 = .ok (.iload 5, 2) := by decide +kernel
theorem dX0_findLender_73 : decode cX0_findLender 73 = .ok (.ifCond .eq 24, 3) := by decide +kernel
theorem dX0_findLender_76 : decode cX0_findLender 76 = .ok (.iload 4, 2) := by decide +kernel
theorem dX0_findLender_78 : decode cX0_findLender 78 = .ok (.bipush (-2), 2) := by decide +kernel
theorem dX0_findLender_80 : decode cX0_findLender 80 = .ok (.if_icmp .ne 17, 3) := by decide +kernel
theorem dX0_findLender_83 : decode cX0_findLender 83 = .ok (.aload_n 1, 1) := by decide +kernel
theorem dX0_findLender_84 : decode cX0_findLender 84 = .ok (.getfield 53, 3) := by decide +kernel
theorem dX0_findLender_87 : decode cX0_findLender 87 = .ok (.iload 6, 2) := by decide +kernel
theorem dX0_findLender_89 : decode cX0_findLender 89 = .ok (.baload, 1) := by decide +kernel
theorem dX0_findLender_90 : decode cX0_findLender 90 = .ok (.ifCond .ne 7, 3) := by decide +kernel
theorem dX0_findLender_93 : decode cX0_findLender 93 = .ok (.iconst 1, 1) := by decide +kernel
theorem dX0_findLender_94 : decode cX0_findLender 94 = .ok (.goto 4, 3) := by decide +kernel
theorem dX0_findLender_97 : decode cX0_findLender 97 = .ok (.iconst 0, 1) := by decide +kernel
theorem dX0_findLender_98 : decode cX0_findLender 98 = .ok (.istore 5, 2) := by decide +kernel
theorem dX0_findLender_100 : decode cX0_findLender 100 = .ok (.aload_n 1, 1) := by decide +kernel
theorem dX0_findLender_101 : decode cX0_findLender 101 = .ok (.getfield 50, 3) := by decide +kernel
theorem dX0_findLender_104 : decode cX0_findLender 104 = .ok (.iload 6, 2) := by decide +kernel
theorem dX0_findLender_106 : decode cX0_findLender 106 = .ok (.iaload, 1) := by decide +kernel
theorem dX0_findLender_107 : decode cX0_findLender 107 = .ok (.istore 6, 2) := by decide +kernel
theorem dX0_findLender_109 : decode cX0_findLender 109 = .ok (.iinc 7 1, 3) := by decide +kernel
theorem dX0_findLender_112 : decode cX0_findLender 112 = .ok (.goto (-99), 3) := by decide +kernel
theorem dX0_findLender_115 : decode cX0_findLender 115 = .ok (.iload 4, 2) := by decide +kernel
theorem dX0_findLender_117 : decode cX0_findLender 117 = .ok (.ireturn, 1) := by decide +kernel
theorem dX0_pay_0 : decode cX0_pay 0 = .ok (.iconst 0, 1) := by decide +kernel
theorem dX0_pay_1 : decode cX0_pay 1 = .ok (.istore 5, 2) := by decide +kernel
theorem dX0_pay_3 : decode cX0_pay 3 = .ok (.iload_n 2, 1) := by decide +kernel
theorem dX0_pay_4 : decode cX0_pay 4 = .ok (.istore 6, 2) := by decide +kernel
theorem dX0_pay_6 : decode cX0_pay 6 = .ok (.iconst 0, 1) := by decide +kernel
theorem dX0_pay_7 : decode cX0_pay 7 = .ok (.istore 7, 2) := by decide +kernel
theorem dX0_pay_9 : decode cX0_pay 9 = .ok (.iload 7, 2) := by decide +kernel
theorem dX0_pay_11 : decode cX0_pay 11 = .ok (.bipush 12, 2) := by decide +kernel
theorem dX0_pay_13 : decode cX0_pay 13 = .ok (.if_icmp .ge 103, 3) := by decide +kernel
theorem dX0_pay_16 : decode cX0_pay 16 = .ok (.aload_n 1, 1) := by decide +kernel
theorem dX0_pay_17 : decode cX0_pay 17 = .ok (.iload 6, 2) := by decide +kernel
theorem dX0_pay_19 : decode cX0_pay 19 = .ok (.invokevirtual 46, 3) := by decide +kernel
theorem dX0_pay_22 : decode cX0_pay 22 = .ok (.ifCond .eq 94, 3) := by decide +kernel
theorem dX0_pay_25 : decode cX0_pay 25 = .ok (.aload_n 0, 1) := by decide +kernel
theorem dX0_pay_26 : decode cX0_pay 26 = .ok (.getfield 18, 3) := by decide +kernel
theorem dX0_pay_29 : decode cX0_pay 29 = .ok (.iload 6, 2) := by decide +kernel
theorem dX0_pay_31 : decode cX0_pay 31 = .ok (.dup2, 1) := by decide +kernel
theorem dX0_pay_32 : decode cX0_pay 32 = .ok (.iaload, 1) := by decide +kernel
theorem dX0_pay_33 : decode cX0_pay 33 = .ok (.iload 4, 2) := by decide +kernel
theorem dX0_pay_35 : decode cX0_pay 35 = .ok (.isub, 1) := by decide +kernel
theorem dX0_pay_36 : decode cX0_pay 36 = .ok (.iastore, 1) := by decide +kernel
theorem dX0_pay_37 : decode cX0_pay 37 = .ok (.iload 5, 2) := by decide +kernel
theorem dX0_pay_39 : decode cX0_pay 39 = .ok (.ifCond .ne 9, 3) := by decide +kernel
theorem dX0_pay_42 : decode cX0_pay 42 = .ok (.iload 6, 2) := by decide +kernel
theorem dX0_pay_44 : decode cX0_pay 44 = .ok (.iload_n 3, 1) := by decide +kernel
theorem dX0_pay_45 : decode cX0_pay 45 = .ok (.if_icmp .ne 56, 3) := by decide +kernel
theorem dX0_pay_48 : decode cX0_pay 48 = .ok (.aload_n 0, 1) := by decide +kernel
theorem dX0_pay_49 : decode cX0_pay 49 = .ok (.getfield 9, 3) := by decide +kernel
theorem dX0_pay_52 : decode cX0_pay 52 = .ok (.iload 6, 2) := by decide +kernel
theorem dX0_pay_54 : decode cX0_pay 54 = .ok (.iaload, 1) := by decide +kernel
theorem dX0_pay_55 : decode cX0_pay 55 = .ok (.iload 4, 2) := by decide +kernel
theorem dX0_pay_57 : decode cX0_pay 57 = .ok (.invokestatic 43, 3) := by decide +kernel
theorem dX0_pay_60 : decode cX0_pay 60 = .ok (.istore 8, 2) := by decide +kernel
theorem dX0_pay_62 : decode cX0_pay 62 = .ok (.aload_n 0, 1) := by decide +kernel
theorem dX0_pay_63 : decode cX0_pay 63 = .ok (.getfield 9, 3) := by decide +kernel
theorem dX0_pay_66 : decode cX0_pay 66 = .ok (.iload 6, 2) := by decide +kernel
theorem dX0_pay_68 : decode cX0_pay 68 = .ok (.dup2, 1) := by decide +kernel
theorem dX0_pay_69 : decode cX0_pay 69 = .ok (.iaload, 1) := by decide +kernel
theorem dX0_pay_70 : decode cX0_pay 70 = .ok (.iload 8, 2) := by decide +kernel
theorem dX0_pay_72 : decode cX0_pay 72 = .ok (.isub, 1) := by decide +kernel
theorem dX0_pay_73 : decode cX0_pay 73 = .ok (.iastore, 1) := by decide +kernel
theorem dX0_pay_74 : decode cX0_pay 74 = .ok (.aload_n 0, 1) := by decide +kernel
theorem dX0_pay_75 : decode cX0_pay 75 = .ok (.getfield 15, 3) := by decide +kernel
theorem dX0_pay_78 : decode cX0_pay 78 = .ok (.iload 6, 2) := by decide +kernel
theorem dX0_pay_80 : decode cX0_pay 80 = .ok (.dup2, 1) := by decide +kernel
theorem dX0_pay_81 : decode cX0_pay 81 = .ok (.iaload, 1) := by decide +kernel
theorem dX0_pay_82 : decode cX0_pay 82 = .ok (.iload 5, 2) := by decide +kernel
theorem dX0_pay_84 : decode cX0_pay 84 = .ok (.ifCond .eq 7, 3) := by decide +kernel
theorem dX0_pay_87 : decode cX0_pay 87 = .ok (.iconst 0, 1) := by decide +kernel
theorem dX0_pay_88 : decode cX0_pay 88 = .ok (.goto 8, 3) := by decide +kernel
theorem dX0_pay_91 : decode cX0_pay 91 = .ok (.iload 4, 2) := by decide +kernel
theorem dX0_pay_93 : decode cX0_pay 93 = .ok (.iload 8, 2) := by decide +kernel
theorem dX0_pay_95 : decode cX0_pay 95 = .ok (.isub, 1) := by decide +kernel
theorem dX0_pay_96 : decode cX0_pay 96 = .ok (.isub, 1) := by decide +kernel
theorem dX0_pay_97 : decode cX0_pay 97 = .ok (.iastore, 1) := by decide +kernel
theorem dX0_pay_98 : decode cX0_pay 98 = .ok (.iconst 1, 1) := by decide +kernel
theorem dX0_pay_99 : decode cX0_pay 99 = .ok (.istore 5, 2) := by decide +kernel
theorem dX0_pay_101 : decode cX0_pay 101 = .ok (.aload_n 1, 1) := by decide +kernel
theorem dX0_pay_102 : decode cX0_pay 102 = .ok (.getfield 50, 3) := by decide +kernel
theorem dX0_pay_105 : decode cX0_pay 105 = .ok (.iload 6, 2) := by decide +kernel
theorem dX0_pay_107 : decode cX0_pay 107 = .ok (.iaload, 1) := by decide +kernel
theorem dX0_pay_108 : decode cX0_pay 108 = .ok (.istore 6, 2) := by decide +kernel
theorem dX0_pay_110 : decode cX0_pay 110 = .ok (.iinc 7 1, 3) := by decide +kernel
theorem dX0_pay_113 : decode cX0_pay 113 = .ok (.goto (-104), 3) := by decide +kernel
theorem dX0_pay_116 : decode cX0_pay 116 = .ok (.return_, 1) := by decide +kernel
theorem dX0_payOften_0 : decode cX0_payOften 0 = .ok (.iconst 0, 1) := by decide +kernel
theorem dX0_payOften_1 : decode cX0_payOften 1 = .ok (.istore 4, 2) := by decide +kernel
theorem dX0_payOften_3 : decode cX0_payOften 3 = .ok (.iload 4, 2) := by decide +kernel
theorem dX0_payOften_5 : decode cX0_payOften 5 = .ok (.sipush 999, 3) := by decide +kernel
theorem dX0_payOften_8 : decode cX0_payOften 8 = .ok (.if_icmp .ge 37, 3) := by decide +kernel
theorem dX0_payOften_11 : decode cX0_payOften 11 = .ok (.aload_n 0, 1) := by decide +kernel
theorem dX0_payOften_12 : decode cX0_payOften 12 = .ok (.aload_n 1, 1) := by decide +kernel
theorem dX0_payOften_13 : decode cX0_payOften 13 = .ok (.iload_n 2, 1) := by decide +kernel
theorem dX0_payOften_14 : decode cX0_payOften 14 = .ok (.iload_n 3, 1) := by decide +kernel
theorem dX0_payOften_15 : decode cX0_payOften 15 = .ok (.invokevirtual 57, 3) := by decide +kernel
theorem dX0_payOften_18 : decode cX0_payOften 18 = .ok (.istore 5, 2) := by decide +kernel
theorem dX0_payOften_20 : decode cX0_payOften 20 = .ok (.iload 5, 2) := by decide +kernel
theorem dX0_payOften_22 : decode cX0_payOften 22 = .ok (.bipush (-2), 2) := by decide +kernel
theorem dX0_payOften_24 : decode cX0_payOften 24 = .ok (.if_icmp .ne 6, 3) := by decide +kernel
theorem dX0_payOften_27 : decode cX0_payOften 27 = .ok (.iload 4, 2) := by decide +kernel
theorem dX0_payOften_29 : decode cX0_payOften 29 = .ok (.ireturn, 1) := by decide +kernel
theorem dX0_payOften_30 : decode cX0_payOften 30 = .ok (.aload_n 0, 1) := by decide +kernel
theorem dX0_payOften_31 : decode cX0_payOften 31 = .ok (.aload_n 1, 1) := by decide +kernel
theorem dX0_payOften_32 : decode cX0_payOften 32 = .ok (.iload_n 2, 1) := by decide +kernel
theorem dX0_payOften_33 : decode cX0_payOften 33 = .ok (.iload 5, 2) := by decide +kernel
theorem dX0_payOften_35 : decode cX0_payOften 35 = .ok (.iload_n 3, 1) := by decide +kernel
theorem dX0_payOften_36 : decode cX0_payOften 36 = .ok (.invokevirtual 61, 3) := by decide +kernel
theorem dX0_payOften_39 : decode cX0_payOften 39 = .ok (.iinc 4 1, 3) := by decide +kernel
theorem dX0_payOften_42 : decode cX0_payOften 42 = .ok (.goto (-39), 3) := by decide +kernel
theorem dX0_payOften_45 : decode cX0_payOften 45 = .ok (.sipush 999, 3) := by decide +kernel
theorem dX0_payOften_48 : decode cX0_payOften 48 = .ok (.ireturn, 1) := by decide +kernel
theorem dX1_init_0 : decode cX1_init 0 = .ok (.aload_n 0, 1) := by decide +kernel
theorem dX1_init_1 : decode cX1_init 1 = .ok (.invokespecial 3, 3) := by decide +kernel
theorem dX1_init_4 : decode cX1_init 4 = .ok (.aload_n 0, 1) := by decide +kernel
theorem dX1_init_5 : decode cX1_init 5 = .ok (.bipush 12, 2) := by decide +kernel
theorem dX1_init_7 : decode cX1_init 7 = .ok (.newarray .int, 2) := by decide +kernel
theorem dX1_init_9 : decode cX1_init 9 = .ok (.putfield 9, 3) := by decide +kernel
theorem dX1_init_12 : decode cX1_init 12 = .ok (.aload_n 0, 1) := by decide +kernel
theorem dX1_init_13 : decode cX1_init 13 = .ok (.bipush 12, 2) := by decide +kernel
theorem dX1_init_15 : decode cX1_init 15 = .ok (.newarray .int, 2) := by decide +kernel
theorem dX1_init_17 : decode cX1_init 17 = .ok (.putfield 15, 3) := by decide +kernel
theorem dX1_init_20 : decode cX1_init 20 = .ok (.aload_n 0, 1) := by decide +kernel
theorem dX1_init_21 : decode cX1_init 21 = .ok (.bipush 12, 2) := by decide +kernel
theorem dX1_init_23 : decode cX1_init 23 = .ok (.newarray .int, 2) := by decide +kernel
theorem dX1_init_25 : decode cX1_init 25 = .ok (.putfield 18, 3) := by decide +kernel
theorem dX1_init_28 : decode cX1_init 28 = .ok (.aload_n 0, 1) := by decide +kernel
theorem dX1_init_29 : decode cX1_init 29 = .ok (.bipush 12, 2) := by decide +kernel
theorem dX1_init_31 : decode cX1_init 31 = .ok (.newarray .int, 2) := by decide +kernel
theorem dX1_init_33 : decode cX1_init 33 = .ok (.putfield 21, 3) := by decide +kernel
theorem dX1_init_36 : decode cX1_init 36 = .ok (.return_, 1) := by decide +kernel
theorem dX1_add_0 : decode cX1_add 0 = .ok (.aload_n 0, 1) := by decide +kernel
theorem dX1_add_1 : decode cX1_add 1 = .ok (.getfield 24, 3) := by decide +kernel
theorem dX1_add_4 : decode cX1_add 4 = .ok (.bipush 12, 2) := by decide +kernel
theorem dX1_add_6 : decode cX1_add 6 = .ok (.if_icmp .lt 4, 3) := by decide +kernel
theorem dX1_add_9 : decode cX1_add 9 = .ok (.return_, 1) := by decide +kernel
theorem dX1_add_10 : decode cX1_add 10 = .ok (.aload_n 0, 1) := by decide +kernel
theorem dX1_add_11 : decode cX1_add 11 = .ok (.getfield 9, 3) := by decide +kernel
theorem dX1_add_14 : decode cX1_add 14 = .ok (.aload_n 0, 1) := by decide +kernel
theorem dX1_add_15 : decode cX1_add 15 = .ok (.getfield 24, 3) := by decide +kernel
theorem dX1_add_18 : decode cX1_add 18 = .ok (.iload_n 1, 1) := by decide +kernel
theorem dX1_add_19 : decode cX1_add 19 = .ok (.iastore, 1) := by decide +kernel
theorem dX1_add_20 : decode cX1_add 20 = .ok (.aload_n 0, 1) := by decide +kernel
theorem dX1_add_21 : decode cX1_add 21 = .ok (.getfield 15, 3) := by decide +kernel
theorem dX1_add_24 : decode cX1_add 24 = .ok (.aload_n 0, 1) := by decide +kernel
theorem dX1_add_25 : decode cX1_add 25 = .ok (.getfield 24, 3) := by decide +kernel
theorem dX1_add_28 : decode cX1_add 28 = .ok (.iload_n 2, 1) := by decide +kernel
theorem dX1_add_29 : decode cX1_add 29 = .ok (.iastore, 1) := by decide +kernel
theorem dX1_add_30 : decode cX1_add 30 = .ok (.aload_n 0, 1) := by decide +kernel
theorem dX1_add_31 : decode cX1_add 31 = .ok (.getfield 18, 3) := by decide +kernel
theorem dX1_add_34 : decode cX1_add 34 = .ok (.aload_n 0, 1) := by decide +kernel
theorem dX1_add_35 : decode cX1_add 35 = .ok (.getfield 24, 3) := by decide +kernel
theorem dX1_add_38 : decode cX1_add 38 = .ok (.iload_n 3, 1) := by decide +kernel
theorem dX1_add_39 : decode cX1_add 39 = .ok (.iastore, 1) := by decide +kernel
theorem dX1_add_40 : decode cX1_add 40 = .ok (.aload_n 0, 1) := by decide +kernel
theorem dX1_add_41 : decode cX1_add 41 = .ok (.getfield 21, 3) := by decide +kernel
theorem dX1_add_44 : decode cX1_add 44 = .ok (.aload_n 0, 1) := by decide +kernel
theorem dX1_add_45 : decode cX1_add 45 = .ok (.getfield 24, 3) := by decide +kernel
theorem dX1_add_48 : decode cX1_add 48 = .ok (.iload 4, 2) := by decide +kernel
theorem dX1_add_50 : decode cX1_add 50 = .ok (.iastore, 1) := by decide +kernel
theorem dX1_add_51 : decode cX1_add 51 = .ok (.aload_n 0, 1) := by decide +kernel
theorem dX1_add_52 : decode cX1_add 52 = .ok (.dup, 1) := by decide +kernel
theorem dX1_add_53 : decode cX1_add 53 = .ok (.getfield 24, 3) := by decide +kernel
theorem dX1_add_56 : decode cX1_add 56 = .ok (.iconst 1, 1) := by decide +kernel
theorem dX1_add_57 : decode cX1_add 57 = .ok (.iadd, 1) := by decide +kernel
theorem dX1_add_58 : decode cX1_add 58 = .ok (.putfield 24, 3) := by decide +kernel
theorem dX1_add_61 : decode cX1_add 61 = .ok (.return_, 1) := by decide +kernel
theorem dX2_init_0 : decode cX2_init 0 = .ok (.aload_n 0, 1) := by decide +kernel
theorem dX2_init_1 : decode cX2_init 1 = .ok (.invokespecial 3, 3) := by decide +kernel
theorem dX2_init_4 : decode cX2_init 4 = .ok (.aload_n 0, 1) := by decide +kernel
theorem dX2_init_5 : decode cX2_init 5 = .ok (.bipush 12, 2) := by decide +kernel
theorem dX2_init_7 : decode cX2_init 7 = .ok (.newarray .int, 2) := by decide +kernel
theorem dX2_init_9 : decode cX2_init 9 = .ok (.putfield 9, 3) := by decide +kernel
theorem dX2_init_12 : decode cX2_init 12 = .ok (.aload_n 0, 1) := by decide +kernel
theorem dX2_init_13 : decode cX2_init 13 = .ok (.bipush 12, 2) := by decide +kernel
theorem dX2_init_15 : decode cX2_init 15 = .ok (.newarray .int, 2) := by decide +kernel
theorem dX2_init_17 : decode cX2_init 17 = .ok (.putfield 15, 3) := by decide +kernel
theorem dX2_init_20 : decode cX2_init 20 = .ok (.aload_n 0, 1) := by decide +kernel
theorem dX2_init_21 : decode cX2_init 21 = .ok (.bipush 12, 2) := by decide +kernel
theorem dX2_init_23 : decode cX2_init 23 = .ok (.newarray .int, 2) := by decide +kernel
theorem dX2_init_25 : decode cX2_init 25 = .ok (.putfield 18, 3) := by decide +kernel
theorem dX2_init_28 : decode cX2_init 28 = .ok (.aload_n 0, 1) := by decide +kernel
theorem dX2_init_29 : decode cX2_init 29 = .ok (.bipush 12, 2) := by decide +kernel
theorem dX2_init_31 : decode cX2_init 31 = .ok (.newarray .int, 2) := by decide +kernel
theorem dX2_init_33 : decode cX2_init 33 = .ok (.putfield 21, 3) := by decide +kernel
theorem dX2_init_36 : decode cX2_init 36 = .ok (.aload_n 0, 1) := by decide +kernel
theorem dX2_init_37 : decode cX2_init 37 = .ok (.bipush 12, 2) := by decide +kernel
theorem dX2_init_39 : decode cX2_init 39 = .ok (.newarray .int, 2) := by decide +kernel
theorem dX2_init_41 : decode cX2_init 41 = .ok (.putfield 24, 3) := by decide +kernel
theorem dX2_init_44 : decode cX2_init 44 = .ok (.return_, 1) := by decide +kernel
theorem dX2_begin_0 : decode cX2_begin 0 = .ok (.aload_n 0, 1) := by decide +kernel
theorem dX2_begin_1 : decode cX2_begin 1 = .ok (.getfield 9, 3) := by decide +kernel
theorem dX2_begin_4 : decode cX2_begin 4 = .ok (.invokestatic 27, 3) := by decide +kernel
theorem dX2_begin_7 : decode cX2_begin 7 = .ok (.aload_n 0, 1) := by decide +kernel
theorem dX2_begin_8 : decode cX2_begin 8 = .ok (.getfield 15, 3) := by decide +kernel
theorem dX2_begin_11 : decode cX2_begin 11 = .ok (.invokestatic 27, 3) := by decide +kernel
theorem dX2_begin_14 : decode cX2_begin 14 = .ok (.aload_n 0, 1) := by decide +kernel
theorem dX2_begin_15 : decode cX2_begin 15 = .ok (.getfield 18, 3) := by decide +kernel
theorem dX2_begin_18 : decode cX2_begin 18 = .ok (.invokestatic 27, 3) := by decide +kernel
theorem dX2_begin_21 : decode cX2_begin 21 = .ok (.aload_n 0, 1) := by decide +kernel
theorem dX2_begin_22 : decode cX2_begin 22 = .ok (.getfield 21, 3) := by decide +kernel
theorem dX2_begin_25 : decode cX2_begin 25 = .ok (.invokestatic 27, 3) := by decide +kernel
theorem dX2_begin_28 : decode cX2_begin 28 = .ok (.aload_n 0, 1) := by decide +kernel
theorem dX2_begin_29 : decode cX2_begin 29 = .ok (.getfield 24, 3) := by decide +kernel
theorem dX2_begin_32 : decode cX2_begin 32 = .ok (.invokestatic 27, 3) := by decide +kernel
theorem dX2_begin_35 : decode cX2_begin 35 = .ok (.return_, 1) := by decide +kernel
theorem dX2_countSent_0 : decode cX2_countSent 0 = .ok (.aload_n 0, 1) := by decide +kernel
theorem dX2_countSent_1 : decode cX2_countSent 1 = .ok (.getfield 9, 3) := by decide +kernel
theorem dX2_countSent_4 : decode cX2_countSent 4 = .ok (.iload_n 1, 1) := by decide +kernel
theorem dX2_countSent_5 : decode cX2_countSent 5 = .ok (.dup2, 1) := by decide +kernel
theorem dX2_countSent_6 : decode cX2_countSent 6 = .ok (.iaload, 1) := by decide +kernel
theorem dX2_countSent_7 : decode cX2_countSent 7 = .ok (.iload_n 3, 1) := by decide +kernel
theorem dX2_countSent_8 : decode cX2_countSent 8 = .ok (.iadd, 1) := by decide +kernel
theorem dX2_countSent_9 : decode cX2_countSent 9 = .ok (.iastore, 1) := by decide +kernel
theorem dX2_countSent_10 : decode cX2_countSent 10 = .ok (.aload_n 0, 1) := by decide +kernel
theorem dX2_countSent_11 : decode cX2_countSent 11 = .ok (.getfield 15, 3) := by decide +kernel
theorem dX2_countSent_14 : decode cX2_countSent 14 = .ok (.iload_n 1, 1) := by decide +kernel
theorem dX2_countSent_15 : decode cX2_countSent 15 = .ok (.dup2, 1) := by decide +kernel
theorem dX2_countSent_16 : decode cX2_countSent 16 = .ok (.iaload, 1) := by decide +kernel
theorem dX2_countSent_17 : decode cX2_countSent 17 = .ok (.iconst 1, 1) := by decide +kernel
theorem dX2_countSent_18 : decode cX2_countSent 18 = .ok (.iadd, 1) := by decide +kernel
theorem dX2_countSent_19 : decode cX2_countSent 19 = .ok (.iastore, 1) := by decide +kernel
theorem dX2_countSent_20 : decode cX2_countSent 20 = .ok (.iload_n 2, 1) := by decide +kernel
theorem dX2_countSent_21 : decode cX2_countSent 21 = .ok (.iload_n 1, 1) := by decide +kernel
theorem dX2_countSent_22 : decode cX2_countSent 22 = .ok (.if_icmp .eq 23, 3) := by decide +kernel
theorem dX2_countSent_25 : decode cX2_countSent 25 = .ok (.aload_n 0, 1) := by decide +kernel
theorem dX2_countSent_26 : decode cX2_countSent 26 = .ok (.getfield 18, 3) := by decide +kernel
theorem dX2_countSent_29 : decode cX2_countSent 29 = .ok (.iload_n 1, 1) := by decide +kernel
theorem dX2_countSent_30 : decode cX2_countSent 30 = .ok (.dup2, 1) := by decide +kernel
theorem dX2_countSent_31 : decode cX2_countSent 31 = .ok (.iaload, 1) := by decide +kernel
theorem dX2_countSent_32 : decode cX2_countSent 32 = .ok (.iload_n 3, 1) := by decide +kernel
theorem dX2_countSent_33 : decode cX2_countSent 33 = .ok (.iadd, 1) := by decide +kernel
theorem dX2_countSent_34 : decode cX2_countSent 34 = .ok (.iastore, 1) := by decide +kernel
theorem dX2_countSent_35 : decode cX2_countSent 35 = .ok (.aload_n 0, 1) := by decide +kernel
theorem dX2_countSent_36 : decode cX2_countSent 36 = .ok (.getfield 21, 3) := by decide +kernel
theorem dX2_countSent_39 : decode cX2_countSent 39 = .ok (.iload_n 2, 1) := by decide +kernel
theorem dX2_countSent_40 : decode cX2_countSent 40 = .ok (.dup2, 1) := by decide +kernel
theorem dX2_countSent_41 : decode cX2_countSent 41 = .ok (.iaload, 1) := by decide +kernel
theorem dX2_countSent_42 : decode cX2_countSent 42 = .ok (.iload_n 3, 1) := by decide +kernel
theorem dX2_countSent_43 : decode cX2_countSent 43 = .ok (.iadd, 1) := by decide +kernel
theorem dX2_countSent_44 : decode cX2_countSent 44 = .ok (.iastore, 1) := by decide +kernel
theorem dX2_countSent_45 : decode cX2_countSent 45 = .ok (.return_, 1) := by decide +kernel
theorem dX3_init_0 : decode cX3_init 0 = .ok (.aload_n 0, 1) := by decide +kernel
theorem dX3_init_1 : decode cX3_init 1 = .ok (.invokespecial 3, 3) := by decide +kernel
theorem dX3_init_4 : decode cX3_init 4 = .ok (.aload_n 0, 1) := by decide +kernel
theorem dX3_init_5 : decode cX3_init 5 = .ok (.bipush 24, 2) := by decide +kernel
theorem dX3_init_7 : decode cX3_init 7 = .ok (.newarray .int, 2) := by decide +kernel
theorem dX3_init_9 : decode cX3_init 9 = .ok (.putfield 9, 3) := by decide +kernel
theorem dX3_init_12 : decode cX3_init 12 = .ok (.aload_n 0, 1) := by decide +kernel
theorem dX3_init_13 : decode cX3_init 13 = .ok (.bipush 24, 2) := by decide +kernel
theorem dX3_init_15 : decode cX3_init 15 = .ok (.newarray .int, 2) := by decide +kernel
theorem dX3_init_17 : decode cX3_init 17 = .ok (.putfield 15, 3) := by decide +kernel
theorem dX3_init_20 : decode cX3_init 20 = .ok (.aload_n 0, 1) := by decide +kernel
theorem dX3_init_21 : decode cX3_init 21 = .ok (.bipush 24, 2) := by decide +kernel
theorem dX3_init_23 : decode cX3_init 23 = .ok (.newarray .int, 2) := by decide +kernel
theorem dX3_init_25 : decode cX3_init 25 = .ok (.putfield 18, 3) := by decide +kernel
theorem dX3_init_28 : decode cX3_init 28 = .ok (.aload_n 0, 1) := by decide +kernel
theorem dX3_init_29 : decode cX3_init 29 = .ok (.bipush 24, 2) := by decide +kernel
theorem dX3_init_31 : decode cX3_init 31 = .ok (.newarray .int, 2) := by decide +kernel
theorem dX3_init_33 : decode cX3_init 33 = .ok (.putfield 21, 3) := by decide +kernel
theorem dX3_init_36 : decode cX3_init 36 = .ok (.return_, 1) := by decide +kernel
theorem dX3_add_0 : decode cX3_add 0 = .ok (.aload_n 0, 1) := by decide +kernel
theorem dX3_add_1 : decode cX3_add 1 = .ok (.getfield 9, 3) := by decide +kernel
theorem dX3_add_4 : decode cX3_add 4 = .ok (.iload_n 1, 1) := by decide +kernel
theorem dX3_add_5 : decode cX3_add 5 = .ok (.invokestatic 32, 3) := by decide +kernel
theorem dX3_add_8 : decode cX3_add 8 = .ok (.aload_n 0, 1) := by decide +kernel
theorem dX3_add_9 : decode cX3_add 9 = .ok (.getfield 15, 3) := by decide +kernel
theorem dX3_add_12 : decode cX3_add 12 = .ok (.iload_n 2, 1) := by decide +kernel
theorem dX3_add_13 : decode cX3_add 13 = .ok (.invokestatic 32, 3) := by decide +kernel
theorem dX3_add_16 : decode cX3_add 16 = .ok (.aload_n 0, 1) := by decide +kernel
theorem dX3_add_17 : decode cX3_add 17 = .ok (.getfield 18, 3) := by decide +kernel
theorem dX3_add_20 : decode cX3_add 20 = .ok (.iload_n 3, 1) := by decide +kernel
theorem dX3_add_21 : decode cX3_add 21 = .ok (.invokestatic 32, 3) := by decide +kernel
theorem dX3_add_24 : decode cX3_add 24 = .ok (.aload_n 0, 1) := by decide +kernel
theorem dX3_add_25 : decode cX3_add 25 = .ok (.getfield 21, 3) := by decide +kernel
theorem dX3_add_28 : decode cX3_add 28 = .ok (.iload 4, 2) := by decide +kernel
theorem dX3_add_30 : decode cX3_add 30 = .ok (.invokestatic 32, 3) := by decide +kernel
theorem dX3_add_33 : decode cX3_add 33 = .ok (.aload_n 0, 1) := by decide +kernel
theorem dX3_add_34 : decode cX3_add 34 = .ok (.bipush 24, 2) := by decide +kernel
theorem dX3_add_36 : decode cX3_add 36 = .ok (.aload_n 0, 1) := by decide +kernel
theorem dX3_add_37 : decode cX3_add 37 = .ok (.getfield 24, 3) := by decide +kernel
theorem dX3_add_40 : decode cX3_add 40 = .ok (.iconst 1, 1) := by decide +kernel
theorem dX3_add_41 : decode cX3_add 41 = .ok (.iadd, 1) := by decide +kernel
theorem dX3_add_42 : decode cX3_add 42 = .ok (.invokestatic 36, 3) := by decide +kernel
theorem dX3_add_45 : decode cX3_add 45 = .ok (.putfield 24, 3) := by decide +kernel
theorem dX3_add_48 : decode cX3_add 48 = .ok (.return_, 1) := by decide +kernel
theorem dX3_putFirst_0 : decode cX3_putFirst 0 = .ok (.aload_n 0, 1) := by decide +kernel
theorem dX3_putFirst_1 : decode cX3_putFirst 1 = .ok (.iconst 0, 1) := by decide +kernel
theorem dX3_putFirst_2 : decode cX3_putFirst 2 = .ok (.aload_n 0, 1) := by decide +kernel
theorem dX3_putFirst_3 : decode cX3_putFirst 3 = .ok (.iconst 1, 1) := by decide +kernel
theorem dX3_putFirst_4 : decode cX3_putFirst 4 = .ok (.bipush 23, 2) := by decide +kernel
theorem dX3_putFirst_6 : decode cX3_putFirst 6 = .ok (.invokestatic 42, 3) := by decide +kernel
theorem dX3_putFirst_9 : decode cX3_putFirst 9 = .ok (.aload_n 0, 1) := by decide +kernel
theorem dX3_putFirst_10 : decode cX3_putFirst 10 = .ok (.iconst 0, 1) := by decide +kernel
theorem dX3_putFirst_11 : decode cX3_putFirst 11 = .ok (.iload_n 1, 1) := by decide +kernel
theorem dX3_putFirst_12 : decode cX3_putFirst 12 = .ok (.iastore, 1) := by decide +kernel
theorem dX3_putFirst_13 : decode cX3_putFirst 13 = .ok (.return_, 1) := by decide +kernel
theorem dX4_init_0 : decode cX4_init 0 = .ok (.aload_n 0, 1) := by decide +kernel
theorem dX4_init_1 : decode cX4_init 1 = .ok (.invokespecial 3, 3) := by decide +kernel
theorem dX4_init_4 : decode cX4_init 4 = .ok (.aload_n 0, 1) := by decide +kernel
theorem dX4_init_5 : decode cX4_init 5 = .ok (.bipush 12, 2) := by decide +kernel
theorem dX4_init_7 : decode cX4_init 7 = .ok (.newarray .int, 2) := by decide +kernel
theorem dX4_init_9 : decode cX4_init 9 = .ok (.putfield 9, 3) := by decide +kernel
theorem dX4_init_12 : decode cX4_init 12 = .ok (.aload_n 0, 1) := by decide +kernel
theorem dX4_init_13 : decode cX4_init 13 = .ok (.sipush 192, 3) := by decide +kernel
theorem dX4_init_16 : decode cX4_init 16 = .ok (.newarray .int, 2) := by decide +kernel
theorem dX4_init_18 : decode cX4_init 18 = .ok (.putfield 15, 3) := by decide +kernel
theorem dX4_init_21 : decode cX4_init 21 = .ok (.aload_n 0, 1) := by decide +kernel
theorem dX4_init_22 : decode cX4_init 22 = .ok (.sipush 192, 3) := by decide +kernel
theorem dX4_init_25 : decode cX4_init 25 = .ok (.newarray .int, 2) := by decide +kernel
theorem dX4_init_27 : decode cX4_init 27 = .ok (.putfield 18, 3) := by decide +kernel
theorem dX4_init_30 : decode cX4_init 30 = .ok (.aload_n 0, 1) := by decide +kernel
theorem dX4_init_31 : decode cX4_init 31 = .ok (.sipush 192, 3) := by decide +kernel
theorem dX4_init_34 : decode cX4_init 34 = .ok (.newarray .int, 2) := by decide +kernel
theorem dX4_init_36 : decode cX4_init 36 = .ok (.putfield 21, 3) := by decide +kernel
theorem dX4_init_39 : decode cX4_init 39 = .ok (.return_, 1) := by decide +kernel
theorem dX4_begin_0 : decode cX4_begin 0 = .ok (.aload_n 0, 1) := by decide +kernel
theorem dX4_begin_1 : decode cX4_begin 1 = .ok (.getfield 9, 3) := by decide +kernel
theorem dX4_begin_4 : decode cX4_begin 4 = .ok (.invokestatic 24, 3) := by decide +kernel
theorem dX4_begin_7 : decode cX4_begin 7 = .ok (.aload_n 0, 1) := by decide +kernel
theorem dX4_begin_8 : decode cX4_begin 8 = .ok (.iconst 0, 1) := by decide +kernel
theorem dX4_begin_9 : decode cX4_begin 9 = .ok (.putfield 28, 3) := by decide +kernel
theorem dX4_begin_12 : decode cX4_begin 12 = .ok (.return_, 1) := by decide +kernel
theorem dX4_removeFront_0 : decode cX4_removeFront 0 = .ok (.aload_n 0, 1) := by decide +kernel
theorem dX4_removeFront_1 : decode cX4_removeFront 1 = .ok (.getfield 9, 3) := by decide +kernel
theorem dX4_removeFront_4 : decode cX4_removeFront 4 = .ok (.iload_n 1, 1) := by decide +kernel
theorem dX4_removeFront_5 : decode cX4_removeFront 5 = .ok (.iaload, 1) := by decide +kernel
theorem dX4_removeFront_6 : decode cX4_removeFront 6 = .ok (.iconst 1, 1) := by decide +kernel
theorem dX4_removeFront_7 : decode cX4_removeFront 7 = .ok (.if_icmp .ge 4, 3) := by decide +kernel
theorem dX4_removeFront_10 : decode cX4_removeFront 10 = .ok (.return_, 1) := by decide +kernel
theorem dX4_removeFront_11 : decode cX4_removeFront 11 = .ok (.aload_n 0, 1) := by decide +kernel
theorem dX4_removeFront_12 : decode cX4_removeFront 12 = .ok (.getfield 9, 3) := by decide +kernel
theorem dX4_removeFront_15 : decode cX4_removeFront 15 = .ok (.iload_n 1, 1) := by decide +kernel
theorem dX4_removeFront_16 : decode cX4_removeFront 16 = .ok (.dup2, 1) := by decide +kernel
theorem dX4_removeFront_17 : decode cX4_removeFront 17 = .ok (.iaload, 1) := by decide +kernel
theorem dX4_removeFront_18 : decode cX4_removeFront 18 = .ok (.iconst 1, 1) := by decide +kernel
theorem dX4_removeFront_19 : decode cX4_removeFront 19 = .ok (.isub, 1) := by decide +kernel
theorem dX4_removeFront_20 : decode cX4_removeFront 20 = .ok (.iastore, 1) := by decide +kernel
theorem dX4_removeFront_21 : decode cX4_removeFront 21 = .ok (.aload_n 0, 1) := by decide +kernel
theorem dX4_removeFront_22 : decode cX4_removeFront 22 = .ok (.aload_n 0, 1) := by decide +kernel
theorem dX4_removeFront_23 : decode cX4_removeFront 23 = .ok (.getfield 15, 3) := by decide +kernel
theorem dX4_removeFront_26 : decode cX4_removeFront 26 = .ok (.iload_n 1, 1) := by decide +kernel
theorem dX4_removeFront_27 : decode cX4_removeFront 27 = .ok (.invokevirtual 36, 3) := by decide +kernel
theorem dX4_removeFront_30 : decode cX4_removeFront 30 = .ok (.aload_n 0, 1) := by decide +kernel
theorem dX4_removeFront_31 : decode cX4_removeFront 31 = .ok (.aload_n 0, 1) := by decide +kernel
theorem dX4_removeFront_32 : decode cX4_removeFront 32 = .ok (.getfield 18, 3) := by decide +kernel
theorem dX4_removeFront_35 : decode cX4_removeFront 35 = .ok (.iload_n 1, 1) := by decide +kernel
theorem dX4_removeFront_36 : decode cX4_removeFront 36 = .ok (.invokevirtual 36, 3) := by decide +kernel
theorem dX4_removeFront_39 : decode cX4_removeFront 39 = .ok (.aload_n 0, 1) := by decide +kernel
theorem dX4_removeFront_40 : decode cX4_removeFront 40 = .ok (.aload_n 0, 1) := by decide +kernel
theorem dX4_removeFront_41 : decode cX4_removeFront 41 = .ok (.getfield 21, 3) := by decide +kernel
theorem dX4_removeFront_44 : decode cX4_removeFront 44 = .ok (.iload_n 1, 1) := by decide +kernel
theorem dX4_removeFront_45 : decode cX4_removeFront 45 = .ok (.invokevirtual 36, 3) := by decide +kernel
theorem dX4_removeFront_48 : decode cX4_removeFront 48 = .ok (.return_, 1) := by decide +kernel
theorem dX4_moveUp_0 : decode cX4_moveUp 0 = .ok (.iload_n 2, 1) := by decide +kernel
theorem dX4_moveUp_1 : decode cX4_moveUp 1 = .ok (.bipush 16, 2) := by decide +kernel
theorem dX4_moveUp_3 : decode cX4_moveUp 3 = .ok (.imul, 1) := by decide +kernel
theorem dX4_moveUp_4 : decode cX4_moveUp 4 = .ok (.istore_n 3, 1) := by decide +kernel
theorem dX4_moveUp_5 : decode cX4_moveUp 5 = .ok (.aload_n 1, 1) := by decide +kernel
theorem dX4_moveUp_6 : decode cX4_moveUp 6 = .ok (.iload_n 3, 1) := by decide +kernel
theorem dX4_moveUp_7 : decode cX4_moveUp 7 = .ok (.iconst 1, 1) := by decide +kernel
theorem dX4_moveUp_8 : decode cX4_moveUp 8 = .ok (.iadd, 1) := by decide +kernel
theorem dX4_moveUp_9 : decode cX4_moveUp 9 = .ok (.aload_n 1, 1) := by decide +kernel
theorem dX4_moveUp_10 : decode cX4_moveUp 10 = .ok (.iload_n 3, 1) := by decide +kernel
theorem dX4_moveUp_11 : decode cX4_moveUp 11 = .ok (.bipush 15, 2) := by decide +kernel
theorem dX4_moveUp_13 : decode cX4_moveUp 13 = .ok (.invokestatic 40, 3) := by decide +kernel
theorem dX4_moveUp_16 : decode cX4_moveUp 16 = .ok (.return_, 1) := by decide +kernel
theorem dX5_init_0 : decode cX5_init 0 = .ok (.aload_n 0, 1) := by decide +kernel
theorem dX5_init_1 : decode cX5_init 1 = .ok (.invokespecial 3, 3) := by decide +kernel
theorem dX5_init_4 : decode cX5_init 4 = .ok (.aload_n 0, 1) := by decide +kernel
theorem dX5_init_5 : decode cX5_init 5 = .ok (.bipush (-2), 2) := by decide +kernel
theorem dX5_init_7 : decode cX5_init 7 = .ok (.putfield 9, 3) := by decide +kernel
theorem dX5_init_10 : decode cX5_init 10 = .ok (.aload_n 0, 1) := by decide +kernel
theorem dX5_init_11 : decode cX5_init 11 = .ok (.new 15, 3) := by decide +kernel
theorem dX5_init_14 : decode cX5_init 14 = .ok (.dup, 1) := by decide +kernel
theorem dX5_init_15 : decode cX5_init 15 = .ok (.invokespecial 17, 3) := by decide +kernel
theorem dX5_init_18 : decode cX5_init 18 = .ok (.putfield 18, 3) := by decide +kernel
theorem dX5_init_21 : decode cX5_init 21 = .ok (.aload_n 0, 1) := by decide +kernel
theorem dX5_init_22 : decode cX5_init 22 = .ok (.new 22, 3) := by decide +kernel
theorem dX5_init_25 : decode cX5_init 25 = .ok (.dup, 1) := by decide +kernel
theorem dX5_init_26 : decode cX5_init 26 = .ok (.invokespecial 24, 3) := by decide +kernel
theorem dX5_init_29 : decode cX5_init 29 = .ok (.putfield 25, 3) := by decide +kernel
theorem dX5_init_32 : decode cX5_init 32 = .ok (.return_, 1) := by decide +kernel
theorem dX5_read_0 : decode cX5_read 0 = .ok (.aload_n 0, 1) := by decide +kernel
theorem dX5_read_1 : decode cX5_read 1 = .ok (.invokevirtual 29, 3) := by decide +kernel
theorem dX5_read_4 : decode cX5_read 4 = .ok (.iconst 0, 1) := by decide +kernel
theorem dX5_read_5 : decode cX5_read 5 = .ok (.istore_n 2, 1) := by decide +kernel
theorem dX5_read_6 : decode cX5_read 6 = .ok (.iload_n 2, 1) := by decide +kernel
theorem dX5_read_7 : decode cX5_read 7 = .ok (.sipush 900, 3) := by decide +kernel
theorem dX5_read_10 : decode cX5_read 10 = .ok (.if_icmp .gt 62, 3) := by decide +kernel
theorem dX5_read_13 : decode cX5_read 13 = .ok (.aload_n 0, 1) := by decide +kernel
theorem dX5_read_14 : decode cX5_read 14 = .ok (.getfield 25, 3) := by decide +kernel
theorem dX5_read_17 : decode cX5_read 17 = .ok (.aload_n 1, 1) := by decide +kernel
theorem dX5_read_18 : decode cX5_read 18 = .ok (.invokevirtual 32, 3) := by decide +kernel
theorem dX5_read_21 : decode cX5_read 21 = .ok (.aload_n 0, 1) := by decide +kernel
theorem dX5_read_22 : decode cX5_read 22 = .ok (.getfield 25, 3) := by decide +kernel
theorem dX5_read_25 : decode cX5_read 25 = .ok (.getfield 36, 3) := by decide +kernel
theorem dX5_read_28 : decode cX5_read 28 = .ok (.ifCond .ne 11, 3) := by decide +kernel
theorem dX5_read_31 : decode cX5_read 31 = .ok (.aload_n 0, 1) := by decide +kernel
theorem dX5_read_32 : decode cX5_read 32 = .ok (.getfield 39, 3) := by decide +kernel
theorem dX5_read_35 : decode cX5_read 35 = .ok (.ifCond .ne 4, 3) := by decide +kernel
theorem dX5_read_38 : decode cX5_read 38 = .ok (.return_, 1) := by decide +kernel
theorem dX5_read_39 : decode cX5_read 39 = .ok (.aload_n 0, 1) := by decide +kernel
theorem dX5_read_40 : decode cX5_read 40 = .ok (.aload_n 0, 1) := by decide +kernel
theorem dX5_read_41 : decode cX5_read 41 = .ok (.invokevirtual 42, 3) := by decide +kernel
theorem dX5_read_44 : decode cX5_read 44 = .ok (.putfield 46, 3) := by decide +kernel
theorem dX5_read_47 : decode cX5_read 47 = .ok (.aload_n 0, 1) := by decide +kernel
theorem dX5_read_48 : decode cX5_read 48 = .ok (.getfield 46, 3) := by decide +kernel
theorem dX5_read_51 : decode cX5_read 51 = .ok (.ifCond .eq 15, 3) := by decide +kernel
theorem dX5_read_54 : decode cX5_read 54 = .ok (.aload_n 0, 1) := by decide +kernel
theorem dX5_read_55 : decode cX5_read 55 = .ok (.aload_n 0, 1) := by decide +kernel
theorem dX5_read_56 : decode cX5_read 56 = .ok (.getfield 25, 3) := by decide +kernel
theorem dX5_read_59 : decode cX5_read 59 = .ok (.getfield 49, 3) := by decide +kernel
theorem dX5_read_62 : decode cX5_read 62 = .ok (.putfield 9, 3) := by decide +kernel
theorem dX5_read_65 : decode cX5_read 65 = .ok (.return_, 1) := by decide +kernel
theorem dX5_read_66 : decode cX5_read 66 = .ok (.iinc 2 1, 3) := by decide +kernel
theorem dX5_read_69 : decode cX5_read 69 = .ok (.goto (-63), 3) := by decide +kernel
theorem dX5_read_72 : decode cX5_read 72 = .ok (.return_, 1) := by decide +kernel
theorem dX5_begin_0 : decode cX5_begin 0 = .ok (.aload_n 0, 1) := by decide +kernel
theorem dX5_begin_1 : decode cX5_begin 1 = .ok (.iconst 0, 1) := by decide +kernel
theorem dX5_begin_2 : decode cX5_begin 2 = .ok (.putfield 46, 3) := by decide +kernel
theorem dX5_begin_5 : decode cX5_begin 5 = .ok (.aload_n 0, 1) := by decide +kernel
theorem dX5_begin_6 : decode cX5_begin 6 = .ok (.bipush (-2), 2) := by decide +kernel
theorem dX5_begin_8 : decode cX5_begin 8 = .ok (.putfield 9, 3) := by decide +kernel
theorem dX5_begin_11 : decode cX5_begin 11 = .ok (.aload_n 0, 1) := by decide +kernel
theorem dX5_begin_12 : decode cX5_begin 12 = .ok (.getfield 18, 3) := by decide +kernel
theorem dX5_begin_15 : decode cX5_begin 15 = .ok (.invokevirtual 52, 3) := by decide +kernel
theorem dX5_begin_18 : decode cX5_begin 18 = .ok (.aload_n 0, 1) := by decide +kernel
theorem dX5_begin_19 : decode cX5_begin 19 = .ok (.getfield 25, 3) := by decide +kernel
theorem dX5_begin_22 : decode cX5_begin 22 = .ok (.invokevirtual 55, 3) := by decide +kernel
theorem dX5_begin_25 : decode cX5_begin 25 = .ok (.aload_n 0, 1) := by decide +kernel
theorem dX5_begin_26 : decode cX5_begin 26 = .ok (.iconst 0, 1) := by decide +kernel
theorem dX5_begin_27 : decode cX5_begin 27 = .ok (.putfield 39, 3) := by decide +kernel
theorem dX5_begin_30 : decode cX5_begin 30 = .ok (.aload_n 0, 1) := by decide +kernel
theorem dX5_begin_31 : decode cX5_begin 31 = .ok (.iconst 0, 1) := by decide +kernel
theorem dX5_begin_32 : decode cX5_begin 32 = .ok (.putfield 56, 3) := by decide +kernel
theorem dX5_begin_35 : decode cX5_begin 35 = .ok (.return_, 1) := by decide +kernel
theorem dX5_take_0 : decode cX5_take 0 = .ok (.aload_n 0, 1) := by decide +kernel
theorem dX5_take_1 : decode cX5_take 1 = .ok (.getfield 39, 3) := by decide +kernel
theorem dX5_take_4 : decode cX5_take 4 = .ok (.tableswitch 124 0 11 #[64, 69, 74, 79, 84, 89, 94, 99, 104, 109, 114, 119], 64) := by decide +kernel
theorem dX5_take_68 : decode cX5_take 68 = .ok (.aload_n 0, 1) := by decide +kernel
theorem dX5_take_69 : decode cX5_take 69 = .ok (.invokevirtual 60, 3) := by decide +kernel
theorem dX5_take_72 : decode cX5_take 72 = .ok (.ireturn, 1) := by decide +kernel
theorem dX5_take_73 : decode cX5_take 73 = .ok (.aload_n 0, 1) := by decide +kernel
theorem dX5_take_74 : decode cX5_take 74 = .ok (.invokevirtual 63, 3) := by decide +kernel
theorem dX5_take_77 : decode cX5_take 77 = .ok (.ireturn, 1) := by decide +kernel
theorem dX5_take_78 : decode cX5_take 78 = .ok (.aload_n 0, 1) := by decide +kernel
theorem dX5_take_79 : decode cX5_take 79 = .ok (.invokevirtual 66, 3) := by decide +kernel
theorem dX5_take_82 : decode cX5_take 82 = .ok (.ireturn, 1) := by decide +kernel
theorem dX5_take_83 : decode cX5_take 83 = .ok (.aload_n 0, 1) := by decide +kernel
theorem dX5_take_84 : decode cX5_take 84 = .ok (.invokevirtual 69, 3) := by decide +kernel
theorem dX5_take_87 : decode cX5_take 87 = .ok (.ireturn, 1) := by decide +kernel
theorem dX5_take_88 : decode cX5_take 88 = .ok (.aload_n 0, 1) := by decide +kernel
theorem dX5_take_89 : decode cX5_take 89 = .ok (.invokevirtual 72, 3) := by decide +kernel
theorem dX5_take_92 : decode cX5_take 92 = .ok (.ireturn, 1) := by decide +kernel
theorem dX5_take_93 : decode cX5_take 93 = .ok (.aload_n 0, 1) := by decide +kernel
theorem dX5_take_94 : decode cX5_take 94 = .ok (.invokevirtual 75, 3) := by decide +kernel
theorem dX5_take_97 : decode cX5_take 97 = .ok (.ireturn, 1) := by decide +kernel
theorem dX5_take_98 : decode cX5_take 98 = .ok (.aload_n 0, 1) := by decide +kernel
theorem dX5_take_99 : decode cX5_take 99 = .ok (.invokevirtual 78, 3) := by decide +kernel
theorem dX5_take_102 : decode cX5_take 102 = .ok (.ireturn, 1) := by decide +kernel
theorem dX5_take_103 : decode cX5_take 103 = .ok (.aload_n 0, 1) := by decide +kernel
theorem dX5_take_104 : decode cX5_take 104 = .ok (.invokevirtual 81, 3) := by decide +kernel
theorem dX5_take_107 : decode cX5_take 107 = .ok (.ireturn, 1) := by decide +kernel
theorem dX5_take_108 : decode cX5_take 108 = .ok (.aload_n 0, 1) := by decide +kernel
theorem dX5_take_109 : decode cX5_take 109 = .ok (.invokevirtual 84, 3) := by decide +kernel
theorem dX5_take_112 : decode cX5_take 112 = .ok (.ireturn, 1) := by decide +kernel
theorem dX5_take_113 : decode cX5_take 113 = .ok (.aload_n 0, 1) := by decide +kernel
theorem dX5_take_114 : decode cX5_take 114 = .ok (.invokevirtual 87, 3) := by decide +kernel
theorem dX5_take_117 : decode cX5_take 117 = .ok (.ireturn, 1) := by decide +kernel
theorem dX5_take_118 : decode cX5_take 118 = .ok (.aload_n 0, 1) := by decide +kernel
theorem dX5_take_119 : decode cX5_take 119 = .ok (.invokevirtual 90, 3) := by decide +kernel
theorem dX5_take_122 : decode cX5_take 122 = .ok (.ireturn, 1) := by decide +kernel
theorem dX5_take_123 : decode cX5_take 123 = .ok (.aload_n 0, 1) := by decide +kernel
theorem dX5_take_124 : decode cX5_take 124 = .ok (.invokevirtual 93, 3) := by decide +kernel
theorem dX5_take_127 : decode cX5_take 127 = .ok (.ireturn, 1) := by decide +kernel
theorem dX5_take_128 : decode cX5_take 128 = .ok (.aload_n 0, 1) := by decide +kernel
theorem dX5_take_129 : decode cX5_take 129 = .ok (.invokevirtual 96, 3) := by decide +kernel
theorem dX5_take_132 : decode cX5_take 132 = .ok (.ireturn, 1) := by decide +kernel
theorem dX5_takeStatement_0 : decode cX5_takeStatement 0 = .ok (.aload_n 0, 1) := by decide +kernel
theorem dX5_takeStatement_1 : decode cX5_takeStatement 1 = .ok (.getfield 25, 3) := by decide +kernel
theorem dX5_takeStatement_4 : decode cX5_takeStatement 4 = .ok (.getfield 99, 3) := by decide +kernel
theorem dX5_takeStatement_7 : decode cX5_takeStatement 7 = .ok (.tableswitch 125 7 11 #[33, 125, 56, 75, 98], 33) := by decide +kernel
theorem dX5_takeStatement_40 : decode cX5_takeStatement 40 = .ok (.aload_n 0, 1) := by decide +kernel
theorem dX5_takeStatement_41 : decode cX5_takeStatement 41 = .ok (.iconst 1, 1) := by decide +kernel
theorem dX5_takeStatement_42 : decode cX5_takeStatement 42 = .ok (.putfield 39, 3) := by decide +kernel
theorem dX5_takeStatement_45 : decode cX5_takeStatement 45 = .ok (.aload_n 0, 1) := by decide +kernel
theorem dX5_takeStatement_46 : decode cX5_takeStatement 46 = .ok (.getfield 18, 3) := by decide +kernel
theorem dX5_takeStatement_49 : decode cX5_takeStatement 49 = .ok (.getfield 102, 3) := by decide +kernel
theorem dX5_takeStatement_52 : decode cX5_takeStatement 52 = .ok (.bipush 12, 2) := by decide +kernel
theorem dX5_takeStatement_54 : decode cX5_takeStatement 54 = .ok (.if_icmp .ne 7, 3) := by decide +kernel
theorem dX5_takeStatement_57 : decode cX5_takeStatement 57 = .ok (.iconst 5, 1) := by decide +kernel
theorem dX5_takeStatement_58 : decode cX5_takeStatement 58 = .ok (.goto 4, 3) := by decide +kernel
theorem dX5_takeStatement_61 : decode cX5_takeStatement 61 = .ok (.iconst 0, 1) := by decide +kernel
theorem dX5_takeStatement_62 : decode cX5_takeStatement 62 = .ok (.ireturn, 1) := by decide +kernel
theorem dX5_takeStatement_63 : decode cX5_takeStatement 63 = .ok (.aload_n 0, 1) := by decide +kernel
theorem dX5_takeStatement_64 : decode cX5_takeStatement 64 = .ok (.bipush 6, 2) := by decide +kernel
theorem dX5_takeStatement_66 : decode cX5_takeStatement 66 = .ok (.putfield 39, 3) := by decide +kernel
theorem dX5_takeStatement_69 : decode cX5_takeStatement 69 = .ok (.aload_n 0, 1) := by decide +kernel
theorem dX5_takeStatement_70 : decode cX5_takeStatement 70 = .ok (.getfield 56, 3) := by decide +kernel
theorem dX5_takeStatement_73 : decode cX5_takeStatement 73 = .ok (.ifCond .eq 7, 3) := by decide +kernel
theorem dX5_takeStatement_76 : decode cX5_takeStatement 76 = .ok (.iconst 4, 1) := by decide +kernel
theorem dX5_takeStatement_77 : decode cX5_takeStatement 77 = .ok (.goto 4, 3) := by decide +kernel
theorem dX5_takeStatement_80 : decode cX5_takeStatement 80 = .ok (.iconst 0, 1) := by decide +kernel
theorem dX5_takeStatement_81 : decode cX5_takeStatement 81 = .ok (.ireturn, 1) := by decide +kernel
theorem dX5_takeStatement_82 : decode cX5_takeStatement 82 = .ok (.aload_n 0, 1) := by decide +kernel
theorem dX5_takeStatement_83 : decode cX5_takeStatement 83 = .ok (.bipush 7, 2) := by decide +kernel
theorem dX5_takeStatement_85 : decode cX5_takeStatement 85 = .ok (.putfield 39, 3) := by decide +kernel
theorem dX5_takeStatement_88 : decode cX5_takeStatement 88 = .ok (.aload_n 0, 1) := by decide +kernel
theorem dX5_takeStatement_89 : decode cX5_takeStatement 89 = .ok (.getfield 18, 3) := by decide +kernel
theorem dX5_takeStatement_92 : decode cX5_takeStatement 92 = .ok (.getfield 105, 3) := by decide +kernel
theorem dX5_takeStatement_95 : decode cX5_takeStatement 95 = .ok (.iconst (-1), 1) := by decide +kernel
theorem dX5_takeStatement_96 : decode cX5_takeStatement 96 = .ok (.if_icmp .eq 7, 3) := by decide +kernel
theorem dX5_takeStatement_99 : decode cX5_takeStatement 99 = .ok (.iconst 4, 1) := by decide +kernel
theorem dX5_takeStatement_100 : decode cX5_takeStatement 100 = .ok (.goto 4, 3) := by decide +kernel
theorem dX5_takeStatement_103 : decode cX5_takeStatement 103 = .ok (.iconst 0, 1) := by decide +kernel
theorem dX5_takeStatement_104 : decode cX5_takeStatement 104 = .ok (.ireturn, 1) := by decide +kernel
theorem dX5_takeStatement_105 : decode cX5_takeStatement 105 = .ok (.aload_n 0, 1) := by decide +kernel
theorem dX5_takeStatement_106 : decode cX5_takeStatement 106 = .ok (.bipush 8, 2) := by decide +kernel
theorem dX5_takeStatement_108 : decode cX5_takeStatement 108 = .ok (.putfield 39, 3) := by decide +kernel
theorem dX5_takeStatement_111 : decode cX5_takeStatement 111 = .ok (.aload_n 0, 1) := by decide +kernel
theorem dX5_takeStatement_112 : decode cX5_takeStatement 112 = .ok (.getfield 18, 3) := by decide +kernel
theorem dX5_takeStatement_115 : decode cX5_takeStatement 115 = .ok (.getfield 108, 3) := by decide +kernel
theorem dX5_takeStatement_118 : decode cX5_takeStatement 118 = .ok (.getfield 112, 3) := by decide +kernel
theorem dX5_takeStatement_121 : decode cX5_takeStatement 121 = .ok (.bipush 12, 2) := by decide +kernel
theorem dX5_takeStatement_123 : decode cX5_takeStatement 123 = .ok (.if_icmp .ne 7, 3) := by decide +kernel
theorem dX5_takeStatement_126 : decode cX5_takeStatement 126 = .ok (.iconst 5, 1) := by decide +kernel
theorem dX5_takeStatement_127 : decode cX5_takeStatement 127 = .ok (.goto 4, 3) := by decide +kernel
theorem dX5_takeStatement_130 : decode cX5_takeStatement 130 = .ok (.iconst 0, 1) := by decide +kernel
theorem dX5_takeStatement_131 : decode cX5_takeStatement 131 = .ok (.ireturn, 1) := by decide +kernel
theorem dX5_takeStatement_132 : decode cX5_takeStatement 132 = .ok (.iconst 1, 1) := by decide +kernel
theorem dX5_takeStatement_133 : decode cX5_takeStatement 133 = .ok (.ireturn, 1) := by decide +kernel
theorem dX5_isName_0 : decode cX5_isName 0 = .ok (.aload_n 0, 1) := by decide +kernel
theorem dX5_isName_1 : decode cX5_isName 1 = .ok (.getfield 25, 3) := by decide +kernel
theorem dX5_isName_4 : decode cX5_isName 4 = .ok (.getfield 36, 3) := by decide +kernel
theorem dX5_isName_7 : decode cX5_isName 7 = .ok (.iconst 1, 1) := by decide +kernel
theorem dX5_isName_8 : decode cX5_isName 8 = .ok (.if_icmp .ne 18, 3) := by decide +kernel
theorem dX5_isName_11 : decode cX5_isName 11 = .ok (.aload_n 0, 1) := by decide +kernel
theorem dX5_isName_12 : decode cX5_isName 12 = .ok (.getfield 25, 3) := by decide +kernel
theorem dX5_isName_15 : decode cX5_isName 15 = .ok (.getfield 99, 3) := by decide +kernel
theorem dX5_isName_18 : decode cX5_isName 18 = .ok (.iconst (-1), 1) := by decide +kernel
theorem dX5_isName_19 : decode cX5_isName 19 = .ok (.if_icmp .ne 7, 3) := by decide +kernel
theorem dX5_isName_22 : decode cX5_isName 22 = .ok (.iconst 1, 1) := by decide +kernel
theorem dX5_isName_23 : decode cX5_isName 23 = .ok (.goto 4, 3) := by decide +kernel
theorem dX5_isName_26 : decode cX5_isName 26 = .ok (.iconst 0, 1) := by decide +kernel
theorem dX5_isName_27 : decode cX5_isName 27 = .ok (.ireturn, 1) := by decide +kernel
theorem dX5_takeNodeName_0 : decode cX5_takeNodeName 0 = .ok (.aload_n 0, 1) := by decide +kernel
theorem dX5_takeNodeName_1 : decode cX5_takeNodeName 1 = .ok (.invokevirtual 117, 3) := by decide +kernel
theorem dX5_takeNodeName_4 : decode cX5_takeNodeName 4 = .ok (.ifCond .ne 5, 3) := by decide +kernel
theorem dX5_takeNodeName_7 : decode cX5_takeNodeName 7 = .ok (.iconst 1, 1) := by decide +kernel
theorem dX5_takeNodeName_8 : decode cX5_takeNodeName 8 = .ok (.ireturn, 1) := by decide +kernel
theorem dX5_takeNodeName_9 : decode cX5_takeNodeName 9 = .ok (.aload_n 0, 1) := by decide +kernel
theorem dX5_takeNodeName_10 : decode cX5_takeNodeName 10 = .ok (.getfield 18, 3) := by decide +kernel
theorem dX5_takeNodeName_13 : decode cX5_takeNodeName 13 = .ok (.aload_n 0, 1) := by decide +kernel
theorem dX5_takeNodeName_14 : decode cX5_takeNodeName 14 = .ok (.getfield 25, 3) := by decide +kernel
theorem dX5_takeNodeName_17 : decode cX5_takeNodeName 17 = .ok (.getfield 121, 3) := by decide +kernel
theorem dX5_takeNodeName_20 : decode cX5_takeNodeName 20 = .ok (.invokevirtual 125, 3) := by decide +kernel
theorem dX5_takeNodeName_23 : decode cX5_takeNodeName 23 = .ok (.bipush (-2), 2) := by decide +kernel
theorem dX5_takeNodeName_25 : decode cX5_takeNodeName 25 = .ok (.if_icmp .eq 5, 3) := by decide +kernel
theorem dX5_takeNodeName_28 : decode cX5_takeNodeName 28 = .ok (.iconst 3, 1) := by decide +kernel
theorem dX5_takeNodeName_29 : decode cX5_takeNodeName 29 = .ok (.ireturn, 1) := by decide +kernel
theorem dX5_takeNodeName_30 : decode cX5_takeNodeName 30 = .ok (.aload_n 0, 1) := by decide +kernel
theorem dX5_takeNodeName_31 : decode cX5_takeNodeName 31 = .ok (.aload_n 0, 1) := by decide +kernel
theorem dX5_takeNodeName_32 : decode cX5_takeNodeName 32 = .ok (.getfield 25, 3) := by decide +kernel
theorem dX5_takeNodeName_35 : decode cX5_takeNodeName 35 = .ok (.getfield 121, 3) := by decide +kernel
theorem dX5_takeNodeName_38 : decode cX5_takeNodeName 38 = .ok (.putfield 129, 3) := by decide +kernel
theorem dX5_takeNodeName_41 : decode cX5_takeNodeName 41 = .ok (.aload_n 0, 1) := by decide +kernel
theorem dX5_takeNodeName_42 : decode cX5_takeNodeName 42 = .ok (.getfield 18, 3) := by decide +kernel
theorem dX5_takeNodeName_45 : decode cX5_takeNodeName 45 = .ok (.getfield 102, 3) := by decide +kernel
theorem dX5_takeNodeName_48 : decode cX5_takeNodeName 48 = .ok (.ifCond .ne 12, 3) := by decide +kernel
theorem dX5_takeNodeName_51 : decode cX5_takeNodeName 51 = .ok (.aload_n 0, 1) := by decide +kernel
theorem dX5_takeNodeName_52 : decode cX5_takeNodeName 52 = .ok (.bipush (-2), 2) := by decide +kernel
theorem dX5_takeNodeName_54 : decode cX5_takeNodeName 54 = .ok (.invokevirtual 132, 3) := by decide +kernel
theorem dX5_takeNodeName_57 : decode cX5_takeNodeName 57 = .ok (.goto 8, 3) := by decide +kernel
theorem dX5_takeNodeName_60 : decode cX5_takeNodeName 60 = .ok (.aload_n 0, 1) := by decide +kernel
theorem dX5_takeNodeName_61 : decode cX5_takeNodeName 61 = .ok (.iconst 2, 1) := by decide +kernel
theorem dX5_takeNodeName_62 : decode cX5_takeNodeName 62 = .ok (.putfield 39, 3) := by decide +kernel
theorem dX5_takeNodeName_65 : decode cX5_takeNodeName 65 = .ok (.iconst 0, 1) := by decide +kernel
theorem dX5_takeNodeName_66 : decode cX5_takeNodeName 66 = .ok (.ireturn, 1) := by decide +kernel
theorem dX5_takeIn_0 : decode cX5_takeIn 0 = .ok (.aload_n 0, 1) := by decide +kernel
theorem dX5_takeIn_1 : decode cX5_takeIn 1 = .ok (.iconst 3, 1) := by decide +kernel
theorem dX5_takeIn_2 : decode cX5_takeIn 2 = .ok (.putfield 39, 3) := by decide +kernel
theorem dX5_takeIn_5 : decode cX5_takeIn 5 = .ok (.aload_n 0, 1) := by decide +kernel
theorem dX5_takeIn_6 : decode cX5_takeIn 6 = .ok (.getfield 25, 3) := by decide +kernel
theorem dX5_takeIn_9 : decode cX5_takeIn 9 = .ok (.getfield 99, 3) := by decide +kernel
theorem dX5_takeIn_12 : decode cX5_takeIn 12 = .ok (.bipush 8, 2) := by decide +kernel
theorem dX5_takeIn_14 : decode cX5_takeIn 14 = .ok (.if_icmp .ne 7, 3) := by decide +kernel
theorem dX5_takeIn_17 : decode cX5_takeIn 17 = .ok (.iconst 0, 1) := by decide +kernel
theorem dX5_takeIn_18 : decode cX5_takeIn 18 = .ok (.goto 4, 3) := by decide +kernel
theorem dX5_takeIn_21 : decode cX5_takeIn 21 = .ok (.iconst 1, 1) := by decide +kernel
theorem dX5_takeIn_22 : decode cX5_takeIn 22 = .ok (.ireturn, 1) := by decide +kernel
theorem dX5_takeParentName_0 : decode cX5_takeParentName 0 = .ok (.aload_n 0, 1) := by decide +kernel
theorem dX5_takeParentName_1 : decode cX5_takeParentName 1 = .ok (.invokevirtual 117, 3) := by decide +kernel
theorem dX5_takeParentName_4 : decode cX5_takeParentName 4 = .ok (.ifCond .ne 5, 3) := by decide +kernel
theorem dX5_takeParentName_7 : decode cX5_takeParentName 7 = .ok (.iconst 1, 1) := by decide +kernel
theorem dX5_takeParentName_8 : decode cX5_takeParentName 8 = .ok (.ireturn, 1) := by decide +kernel
theorem dX5_takeParentName_9 : decode cX5_takeParentName 9 = .ok (.aload_n 0, 1) := by decide +kernel
theorem dX5_takeParentName_10 : decode cX5_takeParentName 10 = .ok (.getfield 18, 3) := by decide +kernel
theorem dX5_takeParentName_13 : decode cX5_takeParentName 13 = .ok (.aload_n 0, 1) := by decide +kernel
theorem dX5_takeParentName_14 : decode cX5_takeParentName 14 = .ok (.getfield 25, 3) := by decide +kernel
theorem dX5_takeParentName_17 : decode cX5_takeParentName 17 = .ok (.getfield 121, 3) := by decide +kernel
theorem dX5_takeParentName_20 : decode cX5_takeParentName 20 = .ok (.invokevirtual 125, 3) := by decide +kernel
theorem dX5_takeParentName_23 : decode cX5_takeParentName 23 = .ok (.istore_n 1, 1) := by decide +kernel
theorem dX5_takeParentName_24 : decode cX5_takeParentName 24 = .ok (.iload_n 1, 1) := by decide +kernel
theorem dX5_takeParentName_25 : decode cX5_takeParentName 25 = .ok (.bipush (-2), 2) := by decide +kernel
theorem dX5_takeParentName_27 : decode cX5_takeParentName 27 = .ok (.if_icmp .ne 5, 3) := by decide +kernel
theorem dX5_takeParentName_30 : decode cX5_takeParentName 30 = .ok (.iconst 3, 1) := by decide +kernel
theorem dX5_takeParentName_31 : decode cX5_takeParentName 31 = .ok (.ireturn, 1) := by decide +kernel
theorem dX5_takeParentName_32 : decode cX5_takeParentName 32 = .ok (.aload_n 0, 1) := by decide +kernel
theorem dX5_takeParentName_33 : decode cX5_takeParentName 33 = .ok (.iload_n 1, 1) := by decide +kernel
theorem dX5_takeParentName_34 : decode cX5_takeParentName 34 = .ok (.invokevirtual 132, 3) := by decide +kernel
theorem dX5_takeParentName_37 : decode cX5_takeParentName 37 = .ok (.iconst 0, 1) := by decide +kernel
theorem dX5_takeParentName_38 : decode cX5_takeParentName 38 = .ok (.ireturn, 1) := by decide +kernel
theorem dX5_addNode_0 : decode cX5_addNode 0 = .ok (.aload_n 0, 1) := by decide +kernel
theorem dX5_addNode_1 : decode cX5_addNode 1 = .ok (.getfield 18, 3) := by decide +kernel
theorem dX5_addNode_4 : decode cX5_addNode 4 = .ok (.aload_n 0, 1) := by decide +kernel
theorem dX5_addNode_5 : decode cX5_addNode 5 = .ok (.getfield 129, 3) := by decide +kernel
theorem dX5_addNode_8 : decode cX5_addNode 8 = .ok (.iload_n 1, 1) := by decide +kernel
theorem dX5_addNode_9 : decode cX5_addNode 9 = .ok (.invokevirtual 136, 3) := by decide +kernel
theorem dX5_addNode_12 : decode cX5_addNode 12 = .ok (.aload_n 0, 1) := by decide +kernel
theorem dX5_addNode_13 : decode cX5_addNode 13 = .ok (.iconst 0, 1) := by decide +kernel
theorem dX5_addNode_14 : decode cX5_addNode 14 = .ok (.putfield 139, 3) := by decide +kernel
theorem dX5_addNode_17 : decode cX5_addNode 17 = .ok (.aload_n 0, 1) := by decide +kernel
theorem dX5_addNode_18 : decode cX5_addNode 18 = .ok (.iconst 4, 1) := by decide +kernel
theorem dX5_addNode_19 : decode cX5_addNode 19 = .ok (.putfield 39, 3) := by decide +kernel
theorem dX5_addNode_22 : decode cX5_addNode 22 = .ok (.return_, 1) := by decide +kernel
theorem dX5_takeSetting_0 : decode cX5_takeSetting 0 = .ok (.aload_n 0, 1) := by decide +kernel
theorem dX5_takeSetting_1 : decode cX5_takeSetting 1 = .ok (.getfield 25, 3) := by decide +kernel
theorem dX5_takeSetting_4 : decode cX5_takeSetting 4 = .ok (.getfield 36, 3) := by decide +kernel
theorem dX5_takeSetting_7 : decode cX5_takeSetting 7 = .ok (.iconst 3, 1) := by decide +kernel
theorem dX5_takeSetting_8 : decode cX5_takeSetting 8 = .ok (.if_icmp .ne 9, 3) := by decide +kernel
theorem dX5_takeSetting_11 : decode cX5_takeSetting 11 = .ok (.aload_n 0, 1) := by decide +kernel
theorem dX5_takeSetting_12 : decode cX5_takeSetting 12 = .ok (.invokevirtual 142, 3) := by decide +kernel
theorem dX5_takeSetting_15 : decode cX5_takeSetting 15 = .ok (.iconst 0, 1) := by decide +kernel
theorem dX5_takeSetting_16 : decode cX5_takeSetting 16 = .ok (.ireturn, 1) := by decide +kernel
theorem dX5_takeSetting_17 : decode cX5_takeSetting 17 = .ok (.aload_n 0, 1) := by decide +kernel
theorem dX5_takeSetting_18 : decode cX5_takeSetting 18 = .ok (.aload_n 0, 1) := by decide +kernel
theorem dX5_takeSetting_19 : decode cX5_takeSetting 19 = .ok (.getfield 25, 3) := by decide +kernel
theorem dX5_takeSetting_22 : decode cX5_takeSetting 22 = .ok (.getfield 99, 3) := by decide +kernel
theorem dX5_takeSetting_25 : decode cX5_takeSetting 25 = .ok (.putfield 145, 3) := by decide +kernel
theorem dX5_takeSetting_28 : decode cX5_takeSetting 28 = .ok (.aload_n 0, 1) := by decide +kernel
theorem dX5_takeSetting_29 : decode cX5_takeSetting 29 = .ok (.getfield 145, 3) := by decide +kernel
theorem dX5_takeSetting_32 : decode cX5_takeSetting 32 = .ok (.ifCond .lt 12, 3) := by decide +kernel
theorem dX5_takeSetting_35 : decode cX5_takeSetting 35 = .ok (.aload_n 0, 1) := by decide +kernel
theorem dX5_takeSetting_36 : decode cX5_takeSetting 36 = .ok (.getfield 145, 3) := by decide +kernel
theorem dX5_takeSetting_39 : decode cX5_takeSetting 39 = .ok (.bipush 6, 2) := by decide +kernel
theorem dX5_takeSetting_41 : decode cX5_takeSetting 41 = .ok (.if_icmp .le 5, 3) := by decide +kernel
theorem dX5_takeSetting_44 : decode cX5_takeSetting 44 = .ok (.iconst 1, 1) := by decide +kernel
theorem dX5_takeSetting_45 : decode cX5_takeSetting 45 = .ok (.ireturn, 1) := by decide +kernel
theorem dX5_takeSetting_46 : decode cX5_takeSetting 46 = .ok (.aload_n 0, 1) := by decide +kernel
theorem dX5_takeSetting_47 : decode cX5_takeSetting 47 = .ok (.getfield 139, 3) := by decide +kernel
theorem dX5_takeSetting_50 : decode cX5_takeSetting 50 = .ok (.aload_n 0, 1) := by decide +kernel
theorem dX5_takeSetting_51 : decode cX5_takeSetting 51 = .ok (.getfield 145, 3) := by decide +kernel
theorem dX5_takeSetting_54 : decode cX5_takeSetting 54 = .ok (.ishr, 1) := by decide +kernel
theorem dX5_takeSetting_55 : decode cX5_takeSetting 55 = .ok (.iconst 1, 1) := by decide +kernel
theorem dX5_takeSetting_56 : decode cX5_takeSetting 56 = .ok (.iand, 1) := by decide +kernel
theorem dX5_takeSetting_57 : decode cX5_takeSetting 57 = .ok (.iconst 1, 1) := by decide +kernel
theorem dX5_takeSetting_58 : decode cX5_takeSetting 58 = .ok (.if_icmp .ne 5, 3) := by decide +kernel
theorem dX5_takeSetting_61 : decode cX5_takeSetting 61 = .ok (.iconst 4, 1) := by decide +kernel
theorem dX5_takeSetting_62 : decode cX5_takeSetting 62 = .ok (.ireturn, 1) := by decide +kernel
theorem dX5_takeSetting_63 : decode cX5_takeSetting 63 = .ok (.aload_n 0, 1) := by decide +kernel
theorem dX5_takeSetting_64 : decode cX5_takeSetting 64 = .ok (.dup, 1) := by decide +kernel
theorem dX5_takeSetting_65 : decode cX5_takeSetting 65 = .ok (.getfield 139, 3) := by decide +kernel
theorem dX5_takeSetting_68 : decode cX5_takeSetting 68 = .ok (.iconst 1, 1) := by decide +kernel
theorem dX5_takeSetting_69 : decode cX5_takeSetting 69 = .ok (.aload_n 0, 1) := by decide +kernel
theorem dX5_takeSetting_70 : decode cX5_takeSetting 70 = .ok (.getfield 145, 3) := by decide +kernel
theorem dX5_takeSetting_73 : decode cX5_takeSetting 73 = .ok (.ishl, 1) := by decide +kernel
theorem dX5_takeSetting_74 : decode cX5_takeSetting 74 = .ok (.ior, 1) := by decide +kernel
theorem dX5_takeSetting_75 : decode cX5_takeSetting 75 = .ok (.putfield 139, 3) := by decide +kernel
theorem dX5_takeSetting_78 : decode cX5_takeSetting 78 = .ok (.aload_n 0, 1) := by decide +kernel
theorem dX5_takeSetting_79 : decode cX5_takeSetting 79 = .ok (.getfield 18, 3) := by decide +kernel
theorem dX5_takeSetting_82 : decode cX5_takeSetting 82 = .ok (.getfield 102, 3) := by decide +kernel
theorem dX5_takeSetting_85 : decode cX5_takeSetting 85 = .ok (.iconst 1, 1) := by decide +kernel
theorem dX5_takeSetting_86 : decode cX5_takeSetting 86 = .ok (.isub, 1) := by decide +kernel
theorem dX5_takeSetting_87 : decode cX5_takeSetting 87 = .ok (.istore_n 1, 1) := by decide +kernel
theorem dX5_takeSetting_88 : decode cX5_takeSetting 88 = .ok (.aload_n 0, 1) := by decide +kernel
theorem dX5_takeSetting_89 : decode cX5_takeSetting 89 = .ok (.getfield 145, 3) := by decide +kernel
theorem dX5_takeSetting_92 : decode cX5_takeSetting 92 = .ok (.bipush 6, 2) := by decide +kernel
theorem dX5_takeSetting_94 : decode cX5_takeSetting 94 = .ok (.if_icmp .eq 11, 3) := by decide +kernel
theorem dX5_takeSetting_97 : decode cX5_takeSetting 97 = .ok (.aload_n 0, 1) := by decide +kernel
theorem dX5_takeSetting_98 : decode cX5_takeSetting 98 = .ok (.iconst 5, 1) := by decide +kernel
theorem dX5_takeSetting_99 : decode cX5_takeSetting 99 = .ok (.putfield 39, 3) := by decide +kernel
theorem dX5_takeSetting_102 : decode cX5_takeSetting 102 = .ok (.goto 24, 3) := by decide +kernel
theorem dX5_takeSetting_105 : decode cX5_takeSetting 105 = .ok (.aload_n 0, 1) := by decide +kernel
theorem dX5_takeSetting_106 : decode cX5_takeSetting 106 = .ok (.getfield 18, 3) := by decide +kernel
theorem dX5_takeSetting_109 : decode cX5_takeSetting 109 = .ok (.iload_n 1, 1) := by decide +kernel
theorem dX5_takeSetting_110 : decode cX5_takeSetting 110 = .ok (.invokevirtual 148, 3) := by decide +kernel
theorem dX5_takeSetting_113 : decode cX5_takeSetting 113 = .ok (.ifCond .eq 13, 3) := by decide +kernel
theorem dX5_takeSetting_116 : decode cX5_takeSetting 116 = .ok (.aload_n 0, 1) := by decide +kernel
theorem dX5_takeSetting_117 : decode cX5_takeSetting 117 = .ok (.getfield 18, 3) := by decide +kernel
theorem dX5_takeSetting_120 : decode cX5_takeSetting 120 = .ok (.getfield 152, 3) := by decide +kernel
theorem dX5_takeSetting_123 : decode cX5_takeSetting 123 = .ok (.iload_n 1, 1) := by decide +kernel
theorem dX5_takeSetting_124 : decode cX5_takeSetting 124 = .ok (.iconst 1, 1) := by decide +kernel
theorem dX5_takeSetting_125 : decode cX5_takeSetting 125 = .ok (.bastore, 1) := by decide +kernel
theorem dX5_takeSetting_126 : decode cX5_takeSetting 126 = .ok (.iconst 0, 1) := by decide +kernel
theorem dX5_takeSetting_127 : decode cX5_takeSetting 127 = .ok (.ireturn, 1) := by decide +kernel
theorem dX5_finishNode_0 : decode cX5_finishNode 0 = .ok (.aload_n 0, 1) := by decide +kernel
theorem dX5_finishNode_1 : decode cX5_finishNode 1 = .ok (.getfield 18, 3) := by decide +kernel
theorem dX5_finishNode_4 : decode cX5_finishNode 4 = .ok (.getfield 102, 3) := by decide +kernel
theorem dX5_finishNode_7 : decode cX5_finishNode 7 = .ok (.iconst 1, 1) := by decide +kernel
theorem dX5_finishNode_8 : decode cX5_finishNode 8 = .ok (.isub, 1) := by decide +kernel
theorem dX5_finishNode_9 : decode cX5_finishNode 9 = .ok (.istore_n 1, 1) := by decide +kernel
theorem dX5_finishNode_10 : decode cX5_finishNode 10 = .ok (.aload_n 0, 1) := by decide +kernel
theorem dX5_finishNode_11 : decode cX5_finishNode 11 = .ok (.getfield 18, 3) := by decide +kernel
theorem dX5_finishNode_14 : decode cX5_finishNode 14 = .ok (.iload_n 1, 1) := by decide +kernel
theorem dX5_finishNode_15 : decode cX5_finishNode 15 = .ok (.invokevirtual 148, 3) := by decide +kernel
theorem dX5_finishNode_18 : decode cX5_finishNode 18 = .ok (.ifCond .eq 32, 3) := by decide +kernel
theorem dX5_finishNode_21 : decode cX5_finishNode 21 = .ok (.aload_n 0, 1) := by decide +kernel
theorem dX5_finishNode_22 : decode cX5_finishNode 22 = .ok (.getfield 139, 3) := by decide +kernel
theorem dX5_finishNode_25 : decode cX5_finishNode 25 = .ok (.iconst 1, 1) := by decide +kernel
theorem dX5_finishNode_26 : decode cX5_finishNode 26 = .ok (.ishr, 1) := by decide +kernel
theorem dX5_finishNode_27 : decode cX5_finishNode 27 = .ok (.iconst 1, 1) := by decide +kernel
theorem dX5_finishNode_28 : decode cX5_finishNode 28 = .ok (.iand, 1) := by decide +kernel
theorem dX5_finishNode_29 : decode cX5_finishNode 29 = .ok (.ifCond .ne 21, 3) := by decide +kernel
theorem dX5_finishNode_32 : decode cX5_finishNode 32 = .ok (.aload_n 0, 1) := by decide +kernel
theorem dX5_finishNode_33 : decode cX5_finishNode 33 = .ok (.getfield 18, 3) := by decide +kernel
theorem dX5_finishNode_36 : decode cX5_finishNode 36 = .ok (.getfield 156, 3) := by decide +kernel
theorem dX5_finishNode_39 : decode cX5_finishNode 39 = .ok (.iload_n 1, 1) := by decide +kernel
theorem dX5_finishNode_40 : decode cX5_finishNode 40 = .ok (.aload_n 0, 1) := by decide +kernel
theorem dX5_finishNode_41 : decode cX5_finishNode 41 = .ok (.getfield 18, 3) := by decide +kernel
theorem dX5_finishNode_44 : decode cX5_finishNode 44 = .ok (.getfield 160, 3) := by decide +kernel
theorem dX5_finishNode_47 : decode cX5_finishNode 47 = .ok (.iload_n 1, 1) := by decide +kernel
theorem dX5_finishNode_48 : decode cX5_finishNode 48 = .ok (.iaload, 1) := by decide +kernel
theorem dX5_finishNode_49 : decode cX5_finishNode 49 = .ok (.iastore, 1) := by decide +kernel
theorem dX5_finishNode_50 : decode cX5_finishNode 50 = .ok (.aload_n 0, 1) := by decide +kernel
theorem dX5_finishNode_51 : decode cX5_finishNode 51 = .ok (.iconst 0, 1) := by decide +kernel
theorem dX5_finishNode_52 : decode cX5_finishNode 52 = .ok (.putfield 39, 3) := by decide +kernel
theorem dX5_finishNode_55 : decode cX5_finishNode 55 = .ok (.return_, 1) := by decide +kernel
theorem dX5_takeSettingValue_0 : decode cX5_takeSettingValue 0 = .ok (.aload_n 0, 1) := by decide +kernel
theorem dX5_takeSettingValue_1 : decode cX5_takeSettingValue 1 = .ok (.aload_n 0, 1) := by decide +kernel
theorem dX5_takeSettingValue_2 : decode cX5_takeSettingValue 2 = .ok (.getfield 145, 3) := by decide +kernel
theorem dX5_takeSettingValue_5 : decode cX5_takeSettingValue 5 = .ok (.invokevirtual 163, 3) := by decide +kernel
theorem dX5_takeSettingValue_8 : decode cX5_takeSettingValue 8 = .ok (.istore_n 1, 1) := by decide +kernel
theorem dX5_takeSettingValue_9 : decode cX5_takeSettingValue 9 = .ok (.aload_n 0, 1) := by decide +kernel
theorem dX5_takeSettingValue_10 : decode cX5_takeSettingValue 10 = .ok (.getfield 18, 3) := by decide +kernel
theorem dX5_takeSettingValue_13 : decode cX5_takeSettingValue 13 = .ok (.getfield 102, 3) := by decide +kernel
theorem dX5_takeSettingValue_16 : decode cX5_takeSettingValue 16 = .ok (.iconst 1, 1) := by decide +kernel
theorem dX5_takeSettingValue_17 : decode cX5_takeSettingValue 17 = .ok (.isub, 1) := by decide +kernel
theorem dX5_takeSettingValue_18 : decode cX5_takeSettingValue 18 = .ok (.istore_n 2, 1) := by decide +kernel
theorem dX5_takeSettingValue_19 : decode cX5_takeSettingValue 19 = .ok (.iload_n 1, 1) := by decide +kernel
theorem dX5_takeSettingValue_20 : decode cX5_takeSettingValue 20 = .ok (.ifCond .ne 34, 3) := by decide +kernel
theorem dX5_takeSettingValue_23 : decode cX5_takeSettingValue 23 = .ok (.aload_n 0, 1) := by decide +kernel
theorem dX5_takeSettingValue_24 : decode cX5_takeSettingValue 24 = .ok (.getfield 18, 3) := by decide +kernel
theorem dX5_takeSettingValue_27 : decode cX5_takeSettingValue 27 = .ok (.iload_n 2, 1) := by decide +kernel
theorem dX5_takeSettingValue_28 : decode cX5_takeSettingValue 28 = .ok (.invokevirtual 148, 3) := by decide +kernel
theorem dX5_takeSettingValue_31 : decode cX5_takeSettingValue 31 = .ok (.ifCond .eq 23, 3) := by decide +kernel
theorem dX5_takeSettingValue_34 : decode cX5_takeSettingValue 34 = .ok (.aload_n 0, 1) := by decide +kernel
theorem dX5_takeSettingValue_35 : decode cX5_takeSettingValue 35 = .ok (.getfield 18, 3) := by decide +kernel
theorem dX5_takeSettingValue_38 : decode cX5_takeSettingValue 38 = .ok (.aload_n 0, 1) := by decide +kernel
theorem dX5_takeSettingValue_39 : decode cX5_takeSettingValue 39 = .ok (.getfield 145, 3) := by decide +kernel
theorem dX5_takeSettingValue_42 : decode cX5_takeSettingValue 42 = .ok (.invokevirtual 167, 3) := by decide +kernel
theorem dX5_takeSettingValue_45 : decode cX5_takeSettingValue 45 = .ok (.iload_n 2, 1) := by decide +kernel
theorem dX5_takeSettingValue_46 : decode cX5_takeSettingValue 46 = .ok (.aload_n 0, 1) := by decide +kernel
theorem dX5_takeSettingValue_47 : decode cX5_takeSettingValue 47 = .ok (.getfield 25, 3) := by decide +kernel
theorem dX5_takeSettingValue_50 : decode cX5_takeSettingValue 50 = .ok (.getfield 171, 3) := by decide +kernel
theorem dX5_takeSettingValue_53 : decode cX5_takeSettingValue 53 = .ok (.iastore, 1) := by decide +kernel
theorem dX5_takeSettingValue_54 : decode cX5_takeSettingValue 54 = .ok (.aload_n 0, 1) := by decide +kernel
theorem dX5_takeSettingValue_55 : decode cX5_takeSettingValue 55 = .ok (.iconst 4, 1) := by decide +kernel
theorem dX5_takeSettingValue_56 : decode cX5_takeSettingValue 56 = .ok (.putfield 39, 3) := by decide +kernel
theorem dX5_takeSettingValue_59 : decode cX5_takeSettingValue 59 = .ok (.iload_n 1, 1) := by decide +kernel
theorem dX5_takeSettingValue_60 : decode cX5_takeSettingValue 60 = .ok (.ireturn, 1) := by decide +kernel
theorem dX5_numberFault_0 : decode cX5_numberFault 0 = .ok (.aload_n 0, 1) := by decide +kernel
theorem dX5_numberFault_1 : decode cX5_numberFault 1 = .ok (.getfield 25, 3) := by decide +kernel
theorem dX5_numberFault_4 : decode cX5_numberFault 4 = .ok (.getfield 36, 3) := by decide +kernel
theorem dX5_numberFault_7 : decode cX5_numberFault 7 = .ok (.iconst 2, 1) := by decide +kernel
theorem dX5_numberFault_8 : decode cX5_numberFault 8 = .ok (.if_icmp .eq 5, 3) := by decide +kernel
theorem dX5_numberFault_11 : decode cX5_numberFault 11 = .ok (.iconst 1, 1) := by decide +kernel
theorem dX5_numberFault_12 : decode cX5_numberFault 12 = .ok (.ireturn, 1) := by decide +kernel
theorem dX5_numberFault_13 : decode cX5_numberFault 13 = .ok (.iload_n 1, 1) := by decide +kernel
theorem dX5_numberFault_14 : decode cX5_numberFault 14 = .ok (.aload_n 0, 1) := by decide +kernel
theorem dX5_numberFault_15 : decode cX5_numberFault 15 = .ok (.getfield 25, 3) := by decide +kernel
theorem dX5_numberFault_18 : decode cX5_numberFault 18 = .ok (.getfield 171, 3) := by decide +kernel
theorem dX5_numberFault_21 : decode cX5_numberFault 21 = .ok (.invokestatic 174, 3) := by decide +kernel
theorem dX5_numberFault_24 : decode cX5_numberFault 24 = .ok (.ifCond .eq 7, 3) := by decide +kernel
theorem dX5_numberFault_27 : decode cX5_numberFault 27 = .ok (.iconst 0, 1) := by decide +kernel
theorem dX5_numberFault_28 : decode cX5_numberFault 28 = .ok (.goto 4, 3) := by decide +kernel
theorem dX5_numberFault_31 : decode cX5_numberFault 31 = .ok (.iconst 2, 1) := by decide +kernel
theorem dX5_numberFault_32 : decode cX5_numberFault 32 = .ok (.ireturn, 1) := by decide +kernel
theorem dX5_numberFault__0 : decode cX5_numberFault_ 0 = .ok (.aload_n 0, 1) := by decide +kernel
theorem dX5_numberFault__1 : decode cX5_numberFault_ 1 = .ok (.getfield 25, 3) := by decide +kernel
theorem dX5_numberFault__4 : decode cX5_numberFault_ 4 = .ok (.getfield 36, 3) := by decide +kernel
theorem dX5_numberFault__7 : decode cX5_numberFault_ 7 = .ok (.iconst 2, 1) := by decide +kernel
theorem dX5_numberFault__8 : decode cX5_numberFault_ 8 = .ok (.if_icmp .eq 5, 3) := by decide +kernel
theorem dX5_numberFault__11 : decode cX5_numberFault_ 11 = .ok (.iconst 1, 1) := by decide +kernel
theorem dX5_numberFault__12 : decode cX5_numberFault_ 12 = .ok (.ireturn, 1) := by decide +kernel
theorem dX5_numberFault__13 : decode cX5_numberFault_ 13 = .ok (.aload_n 0, 1) := by decide +kernel
theorem dX5_numberFault__14 : decode cX5_numberFault_ 14 = .ok (.getfield 25, 3) := by decide +kernel
theorem dX5_numberFault__17 : decode cX5_numberFault_ 17 = .ok (.getfield 171, 3) := by decide +kernel
theorem dX5_numberFault__20 : decode cX5_numberFault_ 20 = .ok (.iload_n 1, 1) := by decide +kernel
theorem dX5_numberFault__21 : decode cX5_numberFault_ 21 = .ok (.if_icmp .lt 18, 3) := by decide +kernel
theorem dX5_numberFault__24 : decode cX5_numberFault_ 24 = .ok (.aload_n 0, 1) := by decide +kernel
theorem dX5_numberFault__25 : decode cX5_numberFault_ 25 = .ok (.getfield 25, 3) := by decide +kernel
theorem dX5_numberFault__28 : decode cX5_numberFault_ 28 = .ok (.getfield 171, 3) := by decide +kernel
theorem dX5_numberFault__31 : decode cX5_numberFault_ 31 = .ok (.iload_n 2, 1) := by decide +kernel
theorem dX5_numberFault__32 : decode cX5_numberFault_ 32 = .ok (.if_icmp .gt 7, 3) := by decide +kernel
theorem dX5_numberFault__35 : decode cX5_numberFault_ 35 = .ok (.iconst 0, 1) := by decide +kernel
theorem dX5_numberFault__36 : decode cX5_numberFault_ 36 = .ok (.goto 4, 3) := by decide +kernel
theorem dX5_numberFault__39 : decode cX5_numberFault_ 39 = .ok (.iconst 2, 1) := by decide +kernel
theorem dX5_numberFault__40 : decode cX5_numberFault_ 40 = .ok (.ireturn, 1) := by decide +kernel
theorem dX5_takeLimit_0 : decode cX5_takeLimit 0 = .ok (.aload_n 0, 1) := by decide +kernel
theorem dX5_takeLimit_1 : decode cX5_takeLimit 1 = .ok (.getfield 18, 3) := by decide +kernel
theorem dX5_takeLimit_4 : decode cX5_takeLimit 4 = .ok (.aload_n 0, 1) := by decide +kernel
theorem dX5_takeLimit_5 : decode cX5_takeLimit 5 = .ok (.getfield 25, 3) := by decide +kernel
theorem dX5_takeLimit_8 : decode cX5_takeLimit 8 = .ok (.getfield 171, 3) := by decide +kernel
theorem dX5_takeLimit_11 : decode cX5_takeLimit 11 = .ok (.putfield 178, 3) := by decide +kernel
theorem dX5_takeLimit_14 : decode cX5_takeLimit 14 = .ok (.aload_n 0, 1) := by decide +kernel
theorem dX5_takeLimit_15 : decode cX5_takeLimit 15 = .ok (.iconst 1, 1) := by decide +kernel
theorem dX5_takeLimit_16 : decode cX5_takeLimit 16 = .ok (.putfield 56, 3) := by decide +kernel
theorem dX5_takeLimit_19 : decode cX5_takeLimit 19 = .ok (.aload_n 0, 1) := by decide +kernel
theorem dX5_takeLimit_20 : decode cX5_takeLimit 20 = .ok (.bipush 12, 2) := by decide +kernel
theorem dX5_takeLimit_22 : decode cX5_takeLimit 22 = .ok (.putfield 39, 3) := by decide +kernel
theorem dX5_takeLimit_25 : decode cX5_takeLimit 25 = .ok (.aload_n 0, 1) := by decide +kernel
theorem dX5_takeLimit_26 : decode cX5_takeLimit 26 = .ok (.iconst 0, 1) := by decide +kernel
theorem dX5_takeLimit_27 : decode cX5_takeLimit 27 = .ok (.bipush 99, 2) := by decide +kernel
theorem dX5_takeLimit_29 : decode cX5_takeLimit 29 = .ok (.invokevirtual 181, 3) := by decide +kernel
end
section
theorem dX5_takeLimit_32 : decode cX5_takeLimit 32 = .ok (.ireturn, 1) := by decide +kernel
theorem dX5_takeAge_0 : decode cX5_takeAge 0 = .ok (.aload_n 0, 1) := by decide +kernel
theorem dX5_takeAge_1 : decode cX5_takeAge 1 = .ok (.getfield 18, 3) := by decide +kernel
theorem dX5_takeAge_4 : decode cX5_takeAge 4 = .ok (.aload_n 0, 1) := by decide +kernel
theorem dX5_takeAge_5 : decode cX5_takeAge 5 = .ok (.getfield 25, 3) := by decide +kernel
theorem dX5_takeAge_8 : decode cX5_takeAge 8 = .ok (.getfield 171, 3) := by decide +kernel
theorem dX5_takeAge_11 : decode cX5_takeAge 11 = .ok (.putfield 105, 3) := by decide +kernel
theorem dX5_takeAge_14 : decode cX5_takeAge 14 = .ok (.aload_n 0, 1) := by decide +kernel
theorem dX5_takeAge_15 : decode cX5_takeAge 15 = .ok (.bipush 12, 2) := by decide +kernel
theorem dX5_takeAge_17 : decode cX5_takeAge 17 = .ok (.putfield 39, 3) := by decide +kernel
theorem dX5_takeAge_20 : decode cX5_takeAge 20 = .ok (.aload_n 0, 1) := by decide +kernel
theorem dX5_takeAge_21 : decode cX5_takeAge 21 = .ok (.iconst 0, 1) := by decide +kernel
theorem dX5_takeAge_22 : decode cX5_takeAge 22 = .ok (.sipush 999, 3) := by decide +kernel
theorem dX5_takeAge_25 : decode cX5_takeAge 25 = .ok (.invokevirtual 181, 3) := by decide +kernel
theorem dX5_takeAge_28 : decode cX5_takeAge 28 = .ok (.ireturn, 1) := by decide +kernel
theorem dX5_takeChangeTime_0 : decode cX5_takeChangeTime 0 = .ok (.aload_n 0, 1) := by decide +kernel
theorem dX5_takeChangeTime_1 : decode cX5_takeChangeTime 1 = .ok (.aload_n 0, 1) := by decide +kernel
theorem dX5_takeChangeTime_2 : decode cX5_takeChangeTime 2 = .ok (.getfield 25, 3) := by decide +kernel
theorem dX5_takeChangeTime_5 : decode cX5_takeChangeTime 5 = .ok (.getfield 171, 3) := by decide +kernel
theorem dX5_takeChangeTime_8 : decode cX5_takeChangeTime 8 = .ok (.putfield 184, 3) := by decide +kernel
theorem dX5_takeChangeTime_11 : decode cX5_takeChangeTime 11 = .ok (.aload_n 0, 1) := by decide +kernel
theorem dX5_takeChangeTime_12 : decode cX5_takeChangeTime 12 = .ok (.bipush 9, 2) := by decide +kernel
theorem dX5_takeChangeTime_14 : decode cX5_takeChangeTime 14 = .ok (.putfield 39, 3) := by decide +kernel
theorem dX5_takeChangeTime_17 : decode cX5_takeChangeTime 17 = .ok (.aload_n 0, 1) := by decide +kernel
theorem dX5_takeChangeTime_18 : decode cX5_takeChangeTime 18 = .ok (.iconst 1, 1) := by decide +kernel
theorem dX5_takeChangeTime_19 : decode cX5_takeChangeTime 19 = .ok (.sipush 5000, 3) := by decide +kernel
theorem dX5_takeChangeTime_22 : decode cX5_takeChangeTime 22 = .ok (.invokevirtual 181, 3) := by decide +kernel
theorem dX5_takeChangeTime_25 : decode cX5_takeChangeTime 25 = .ok (.ireturn, 1) := by decide +kernel
theorem dX5_takeChangeName_0 : decode cX5_takeChangeName 0 = .ok (.aload_n 0, 1) := by decide +kernel
theorem dX5_takeChangeName_1 : decode cX5_takeChangeName 1 = .ok (.invokevirtual 117, 3) := by decide +kernel
theorem dX5_takeChangeName_4 : decode cX5_takeChangeName 4 = .ok (.ifCond .ne 5, 3) := by decide +kernel
theorem dX5_takeChangeName_7 : decode cX5_takeChangeName 7 = .ok (.iconst 1, 1) := by decide +kernel
theorem dX5_takeChangeName_8 : decode cX5_takeChangeName 8 = .ok (.ireturn, 1) := by decide +kernel
theorem dX5_takeChangeName_9 : decode cX5_takeChangeName 9 = .ok (.aload_n 0, 1) := by decide +kernel
theorem dX5_takeChangeName_10 : decode cX5_takeChangeName 10 = .ok (.aload_n 0, 1) := by decide +kernel
theorem dX5_takeChangeName_11 : decode cX5_takeChangeName 11 = .ok (.getfield 18, 3) := by decide +kernel
theorem dX5_takeChangeName_14 : decode cX5_takeChangeName 14 = .ok (.aload_n 0, 1) := by decide +kernel
theorem dX5_takeChangeName_15 : decode cX5_takeChangeName 15 = .ok (.getfield 25, 3) := by decide +kernel
theorem dX5_takeChangeName_18 : decode cX5_takeChangeName 18 = .ok (.getfield 121, 3) := by decide +kernel
theorem dX5_takeChangeName_21 : decode cX5_takeChangeName 21 = .ok (.invokevirtual 125, 3) := by decide +kernel
theorem dX5_takeChangeName_24 : decode cX5_takeChangeName 24 = .ok (.putfield 187, 3) := by decide +kernel
theorem dX5_takeChangeName_27 : decode cX5_takeChangeName 27 = .ok (.aload_n 0, 1) := by decide +kernel
theorem dX5_takeChangeName_28 : decode cX5_takeChangeName 28 = .ok (.bipush 10, 2) := by decide +kernel
theorem dX5_takeChangeName_30 : decode cX5_takeChangeName 30 = .ok (.putfield 39, 3) := by decide +kernel
theorem dX5_takeChangeName_33 : decode cX5_takeChangeName 33 = .ok (.aload_n 0, 1) := by decide +kernel
theorem dX5_takeChangeName_34 : decode cX5_takeChangeName 34 = .ok (.getfield 187, 3) := by decide +kernel
theorem dX5_takeChangeName_37 : decode cX5_takeChangeName 37 = .ok (.bipush (-2), 2) := by decide +kernel
theorem dX5_takeChangeName_39 : decode cX5_takeChangeName 39 = .ok (.if_icmp .ne 7, 3) := by decide +kernel
theorem dX5_takeChangeName_42 : decode cX5_takeChangeName 42 = .ok (.iconst 3, 1) := by decide +kernel
theorem dX5_takeChangeName_43 : decode cX5_takeChangeName 43 = .ok (.goto 4, 3) := by decide +kernel
theorem dX5_takeChangeName_46 : decode cX5_takeChangeName 46 = .ok (.iconst 0, 1) := by decide +kernel
theorem dX5_takeChangeName_47 : decode cX5_takeChangeName 47 = .ok (.ireturn, 1) := by decide +kernel
theorem dX5_takeChangeSetting_0 : decode cX5_takeChangeSetting 0 = .ok (.aload_n 0, 1) := by decide +kernel
theorem dX5_takeChangeSetting_1 : decode cX5_takeChangeSetting 1 = .ok (.aload_n 0, 1) := by decide +kernel
theorem dX5_takeChangeSetting_2 : decode cX5_takeChangeSetting 2 = .ok (.getfield 25, 3) := by decide +kernel
theorem dX5_takeChangeSetting_5 : decode cX5_takeChangeSetting 5 = .ok (.getfield 99, 3) := by decide +kernel
theorem dX5_takeChangeSetting_8 : decode cX5_takeChangeSetting 8 = .ok (.putfield 145, 3) := by decide +kernel
theorem dX5_takeChangeSetting_11 : decode cX5_takeChangeSetting 11 = .ok (.aload_n 0, 1) := by decide +kernel
theorem dX5_takeChangeSetting_12 : decode cX5_takeChangeSetting 12 = .ok (.bipush 11, 2) := by decide +kernel
theorem dX5_takeChangeSetting_14 : decode cX5_takeChangeSetting 14 = .ok (.putfield 39, 3) := by decide +kernel
theorem dX5_takeChangeSetting_17 : decode cX5_takeChangeSetting 17 = .ok (.aload_n 0, 1) := by decide +kernel
theorem dX5_takeChangeSetting_18 : decode cX5_takeChangeSetting 18 = .ok (.getfield 145, 3) := by decide +kernel
theorem dX5_takeChangeSetting_21 : decode cX5_takeChangeSetting 21 = .ok (.ifCond .eq 19, 3) := by decide +kernel
theorem dX5_takeChangeSetting_24 : decode cX5_takeChangeSetting 24 = .ok (.aload_n 0, 1) := by decide +kernel
theorem dX5_takeChangeSetting_25 : decode cX5_takeChangeSetting 25 = .ok (.getfield 145, 3) := by decide +kernel
theorem dX5_takeChangeSetting_28 : decode cX5_takeChangeSetting 28 = .ok (.iconst 1, 1) := by decide +kernel
theorem dX5_takeChangeSetting_29 : decode cX5_takeChangeSetting 29 = .ok (.if_icmp .eq 11, 3) := by decide +kernel
theorem dX5_takeChangeSetting_32 : decode cX5_takeChangeSetting 32 = .ok (.aload_n 0, 1) := by decide +kernel
theorem dX5_takeChangeSetting_33 : decode cX5_takeChangeSetting 33 = .ok (.getfield 145, 3) := by decide +kernel
theorem dX5_takeChangeSetting_36 : decode cX5_takeChangeSetting 36 = .ok (.iconst 4, 1) := by decide +kernel
theorem dX5_takeChangeSetting_37 : decode cX5_takeChangeSetting 37 = .ok (.if_icmp .ne 7, 3) := by decide +kernel
theorem dX5_takeChangeSetting_40 : decode cX5_takeChangeSetting 40 = .ok (.iconst 0, 1) := by decide +kernel
theorem dX5_takeChangeSetting_41 : decode cX5_takeChangeSetting 41 = .ok (.goto 4, 3) := by decide +kernel
theorem dX5_takeChangeSetting_44 : decode cX5_takeChangeSetting 44 = .ok (.iconst 1, 1) := by decide +kernel
theorem dX5_takeChangeSetting_45 : decode cX5_takeChangeSetting 45 = .ok (.ireturn, 1) := by decide +kernel
theorem dX5_takeChangeValue_0 : decode cX5_takeChangeValue 0 = .ok (.aload_n 0, 1) := by decide +kernel
theorem dX5_takeChangeValue_1 : decode cX5_takeChangeValue 1 = .ok (.aload_n 0, 1) := by decide +kernel
theorem dX5_takeChangeValue_2 : decode cX5_takeChangeValue 2 = .ok (.getfield 145, 3) := by decide +kernel
theorem dX5_takeChangeValue_5 : decode cX5_takeChangeValue 5 = .ok (.invokevirtual 163, 3) := by decide +kernel
theorem dX5_takeChangeValue_8 : decode cX5_takeChangeValue 8 = .ok (.istore_n 1, 1) := by decide +kernel
theorem dX5_takeChangeValue_9 : decode cX5_takeChangeValue 9 = .ok (.iload_n 1, 1) := by decide +kernel
theorem dX5_takeChangeValue_10 : decode cX5_takeChangeValue 10 = .ok (.ifCond .ne 32, 3) := by decide +kernel
theorem dX5_takeChangeValue_13 : decode cX5_takeChangeValue 13 = .ok (.aload_n 0, 1) := by decide +kernel
theorem dX5_takeChangeValue_14 : decode cX5_takeChangeValue 14 = .ok (.getfield 18, 3) := by decide +kernel
theorem dX5_takeChangeValue_17 : decode cX5_takeChangeValue 17 = .ok (.getfield 108, 3) := by decide +kernel
theorem dX5_takeChangeValue_20 : decode cX5_takeChangeValue 20 = .ok (.aload_n 0, 1) := by decide +kernel
theorem dX5_takeChangeValue_21 : decode cX5_takeChangeValue 21 = .ok (.getfield 184, 3) := by decide +kernel
theorem dX5_takeChangeValue_24 : decode cX5_takeChangeValue 24 = .ok (.aload_n 0, 1) := by decide +kernel
theorem dX5_takeChangeValue_25 : decode cX5_takeChangeValue 25 = .ok (.getfield 187, 3) := by decide +kernel
theorem dX5_takeChangeValue_28 : decode cX5_takeChangeValue 28 = .ok (.aload_n 0, 1) := by decide +kernel
theorem dX5_takeChangeValue_29 : decode cX5_takeChangeValue 29 = .ok (.getfield 145, 3) := by decide +kernel
theorem dX5_takeChangeValue_32 : decode cX5_takeChangeValue 32 = .ok (.aload_n 0, 1) := by decide +kernel
theorem dX5_takeChangeValue_33 : decode cX5_takeChangeValue 33 = .ok (.getfield 25, 3) := by decide +kernel
theorem dX5_takeChangeValue_36 : decode cX5_takeChangeValue 36 = .ok (.getfield 171, 3) := by decide +kernel
theorem dX5_takeChangeValue_39 : decode cX5_takeChangeValue 39 = .ok (.invokevirtual 190, 3) := by decide +kernel
theorem dX5_takeChangeValue_42 : decode cX5_takeChangeValue 42 = .ok (.aload_n 0, 1) := by decide +kernel
theorem dX5_takeChangeValue_43 : decode cX5_takeChangeValue 43 = .ok (.bipush 12, 2) := by decide +kernel
theorem dX5_takeChangeValue_45 : decode cX5_takeChangeValue 45 = .ok (.putfield 39, 3) := by decide +kernel
theorem dX5_takeChangeValue_48 : decode cX5_takeChangeValue 48 = .ok (.iload_n 1, 1) := by decide +kernel
theorem dX5_takeChangeValue_49 : decode cX5_takeChangeValue 49 = .ok (.ireturn, 1) := by decide +kernel
theorem dX5_takeStatementEnd_0 : decode cX5_takeStatementEnd 0 = .ok (.aload_n 0, 1) := by decide +kernel
theorem dX5_takeStatementEnd_1 : decode cX5_takeStatementEnd 1 = .ok (.iconst 0, 1) := by decide +kernel
theorem dX5_takeStatementEnd_2 : decode cX5_takeStatementEnd 2 = .ok (.putfield 39, 3) := by decide +kernel
theorem dX5_takeStatementEnd_5 : decode cX5_takeStatementEnd 5 = .ok (.aload_n 0, 1) := by decide +kernel
theorem dX5_takeStatementEnd_6 : decode cX5_takeStatementEnd 6 = .ok (.getfield 25, 3) := by decide +kernel
theorem dX5_takeStatementEnd_9 : decode cX5_takeStatementEnd 9 = .ok (.getfield 36, 3) := by decide +kernel
theorem dX5_takeStatementEnd_12 : decode cX5_takeStatementEnd 12 = .ok (.iconst 3, 1) := by decide +kernel
theorem dX5_takeStatementEnd_13 : decode cX5_takeStatementEnd 13 = .ok (.if_icmp .ne 7, 3) := by decide +kernel
theorem dX5_takeStatementEnd_16 : decode cX5_takeStatementEnd 16 = .ok (.iconst 0, 1) := by decide +kernel
theorem dX5_takeStatementEnd_17 : decode cX5_takeStatementEnd 17 = .ok (.goto 4, 3) := by decide +kernel
theorem dX5_takeStatementEnd_20 : decode cX5_takeStatementEnd 20 = .ok (.iconst 1, 1) := by decide +kernel
theorem dX5_takeStatementEnd_21 : decode cX5_takeStatementEnd 21 = .ok (.ireturn, 1) := by decide +kernel
theorem dX6_init_0 : decode cX6_init 0 = .ok (.aload_n 0, 1) := by decide +kernel
theorem dX6_init_1 : decode cX6_init 1 = .ok (.invokespecial 3, 3) := by decide +kernel
theorem dX6_init_4 : decode cX6_init 4 = .ok (.return_, 1) := by decide +kernel
theorem dX6_begin_0 : decode cX6_begin 0 = .ok (.aload_n 0, 1) := by decide +kernel
theorem dX6_begin_1 : decode cX6_begin 1 = .ok (.iconst 0, 1) := by decide +kernel
theorem dX6_begin_2 : decode cX6_begin 2 = .ok (.putfield 9, 3) := by decide +kernel
theorem dX6_begin_5 : decode cX6_begin 5 = .ok (.return_, 1) := by decide +kernel
theorem dX6_scan_0 : decode cX6_scan 0 = .ok (.aload_n 0, 1) := by decide +kernel
theorem dX6_scan_1 : decode cX6_scan 1 = .ok (.aload_n 1, 1) := by decide +kernel
theorem dX6_scan_2 : decode cX6_scan 2 = .ok (.invokevirtual 15, 3) := by decide +kernel
theorem dX6_scan_5 : decode cX6_scan 5 = .ok (.aload_n 0, 1) := by decide +kernel
theorem dX6_scan_6 : decode cX6_scan 6 = .ok (.aload_n 0, 1) := by decide +kernel
theorem dX6_scan_7 : decode cX6_scan 7 = .ok (.getfield 9, 3) := by decide +kernel
theorem dX6_scan_10 : decode cX6_scan 10 = .ok (.putfield 19, 3) := by decide +kernel
theorem dX6_scan_13 : decode cX6_scan 13 = .ok (.aload_n 0, 1) := by decide +kernel
theorem dX6_scan_14 : decode cX6_scan 14 = .ok (.iconst (-1), 1) := by decide +kernel
theorem dX6_scan_15 : decode cX6_scan 15 = .ok (.putfield 22, 3) := by decide +kernel
theorem dX6_scan_18 : decode cX6_scan 18 = .ok (.aload_n 1, 1) := by decide +kernel
theorem dX6_scan_19 : decode cX6_scan 19 = .ok (.aload_n 0, 1) := by decide +kernel
theorem dX6_scan_20 : decode cX6_scan 20 = .ok (.getfield 9, 3) := by decide +kernel
theorem dX6_scan_23 : decode cX6_scan 23 = .ok (.invokevirtual 25, 3) := by decide +kernel
theorem dX6_scan_26 : decode cX6_scan 26 = .ok (.istore_n 2, 1) := by decide +kernel
theorem dX6_scan_27 : decode cX6_scan 27 = .ok (.aload_n 0, 1) := by decide +kernel
theorem dX6_scan_28 : decode cX6_scan 28 = .ok (.getfield 9, 3) := by decide +kernel
theorem dX6_scan_31 : decode cX6_scan 31 = .ok (.aload_n 1, 1) := by decide +kernel
theorem dX6_scan_32 : decode cX6_scan 32 = .ok (.getfield 31, 3) := by decide +kernel
theorem dX6_scan_35 : decode cX6_scan 35 = .ok (.if_icmp .lt 11, 3) := by decide +kernel
theorem dX6_scan_38 : decode cX6_scan 38 = .ok (.aload_n 0, 1) := by decide +kernel
theorem dX6_scan_39 : decode cX6_scan 39 = .ok (.iconst 0, 1) := by decide +kernel
theorem dX6_scan_40 : decode cX6_scan 40 = .ok (.putfield 34, 3) := by decide +kernel
theorem dX6_scan_43 : decode cX6_scan 43 = .ok (.goto 58, 3) := by decide +kernel
theorem dX6_scan_46 : decode cX6_scan 46 = .ok (.iload_n 2, 1) := by decide +kernel
theorem dX6_scan_47 : decode cX6_scan 47 = .ok (.invokestatic 37, 3) := by decide +kernel
theorem dX6_scan_50 : decode cX6_scan 50 = .ok (.ifCond .eq 11, 3) := by decide +kernel
theorem dX6_scan_53 : decode cX6_scan 53 = .ok (.aload_n 0, 1) := by decide +kernel
theorem dX6_scan_54 : decode cX6_scan 54 = .ok (.aload_n 1, 1) := by decide +kernel
theorem dX6_scan_55 : decode cX6_scan 55 = .ok (.invokevirtual 41, 3) := by decide +kernel
theorem dX6_scan_58 : decode cX6_scan 58 = .ok (.goto 43, 3) := by decide +kernel
theorem dX6_scan_61 : decode cX6_scan 61 = .ok (.iload_n 2, 1) := by decide +kernel
theorem dX6_scan_62 : decode cX6_scan 62 = .ok (.invokestatic 44, 3) := by decide +kernel
theorem dX6_scan_65 : decode cX6_scan 65 = .ok (.ifCond .eq 11, 3) := by decide +kernel
theorem dX6_scan_68 : decode cX6_scan 68 = .ok (.aload_n 0, 1) := by decide +kernel
theorem dX6_scan_69 : decode cX6_scan 69 = .ok (.aload_n 1, 1) := by decide +kernel
theorem dX6_scan_70 : decode cX6_scan 70 = .ok (.invokevirtual 47, 3) := by decide +kernel
theorem dX6_scan_73 : decode cX6_scan 73 = .ok (.goto 28, 3) := by decide +kernel
theorem dX6_scan_76 : decode cX6_scan 76 = .ok (.aload_n 0, 1) := by decide +kernel
theorem dX6_scan_77 : decode cX6_scan 77 = .ok (.iload_n 2, 1) := by decide +kernel
theorem dX6_scan_78 : decode cX6_scan 78 = .ok (.bipush 59, 2) := by decide +kernel
theorem dX6_scan_80 : decode cX6_scan 80 = .ok (.if_icmp .ne 7, 3) := by decide +kernel
theorem dX6_scan_83 : decode cX6_scan 83 = .ok (.iconst 3, 1) := by decide +kernel
theorem dX6_scan_84 : decode cX6_scan 84 = .ok (.goto 4, 3) := by decide +kernel
theorem dX6_scan_87 : decode cX6_scan 87 = .ok (.iconst 4, 1) := by decide +kernel
theorem dX6_scan_88 : decode cX6_scan 88 = .ok (.putfield 34, 3) := by decide +kernel
theorem dX6_scan_91 : decode cX6_scan 91 = .ok (.aload_n 0, 1) := by decide +kernel
theorem dX6_scan_92 : decode cX6_scan 92 = .ok (.dup, 1) := by decide +kernel
theorem dX6_scan_93 : decode cX6_scan 93 = .ok (.getfield 9, 3) := by decide +kernel
theorem dX6_scan_96 : decode cX6_scan 96 = .ok (.iconst 1, 1) := by decide +kernel
theorem dX6_scan_97 : decode cX6_scan 97 = .ok (.iadd, 1) := by decide +kernel
theorem dX6_scan_98 : decode cX6_scan 98 = .ok (.putfield 9, 3) := by decide +kernel
theorem dX6_scan_101 : decode cX6_scan 101 = .ok (.return_, 1) := by decide +kernel
theorem dX6_skipSpaces_0 : decode cX6_skipSpaces 0 = .ok (.aload_n 0, 1) := by decide +kernel
theorem dX6_skipSpaces_1 : decode cX6_skipSpaces 1 = .ok (.getfield 9, 3) := by decide +kernel
theorem dX6_skipSpaces_4 : decode cX6_skipSpaces 4 = .ok (.aload_n 1, 1) := by decide +kernel
theorem dX6_skipSpaces_5 : decode cX6_skipSpaces 5 = .ok (.getfield 31, 3) := by decide +kernel
theorem dX6_skipSpaces_8 : decode cX6_skipSpaces 8 = .ok (.if_icmp .ge 42, 3) := by decide +kernel
theorem dX6_skipSpaces_11 : decode cX6_skipSpaces 11 = .ok (.aload_n 1, 1) := by decide +kernel
theorem dX6_skipSpaces_12 : decode cX6_skipSpaces 12 = .ok (.aload_n 0, 1) := by decide +kernel
theorem dX6_skipSpaces_13 : decode cX6_skipSpaces 13 = .ok (.getfield 9, 3) := by decide +kernel
theorem dX6_skipSpaces_16 : decode cX6_skipSpaces 16 = .ok (.invokevirtual 25, 3) := by decide +kernel
theorem dX6_skipSpaces_19 : decode cX6_skipSpaces 19 = .ok (.bipush 32, 2) := by decide +kernel
theorem dX6_skipSpaces_21 : decode cX6_skipSpaces 21 = .ok (.if_icmp .eq 16, 3) := by decide +kernel
theorem dX6_skipSpaces_24 : decode cX6_skipSpaces 24 = .ok (.aload_n 1, 1) := by decide +kernel
theorem dX6_skipSpaces_25 : decode cX6_skipSpaces 25 = .ok (.aload_n 0, 1) := by decide +kernel
theorem dX6_skipSpaces_26 : decode cX6_skipSpaces 26 = .ok (.getfield 9, 3) := by decide +kernel
theorem dX6_skipSpaces_29 : decode cX6_skipSpaces 29 = .ok (.invokevirtual 25, 3) := by decide +kernel
theorem dX6_skipSpaces_32 : decode cX6_skipSpaces 32 = .ok (.bipush 10, 2) := by decide +kernel
theorem dX6_skipSpaces_34 : decode cX6_skipSpaces 34 = .ok (.if_icmp .ne 16, 3) := by decide +kernel
theorem dX6_skipSpaces_37 : decode cX6_skipSpaces 37 = .ok (.aload_n 0, 1) := by decide +kernel
theorem dX6_skipSpaces_38 : decode cX6_skipSpaces 38 = .ok (.dup, 1) := by decide +kernel
theorem dX6_skipSpaces_39 : decode cX6_skipSpaces 39 = .ok (.getfield 9, 3) := by decide +kernel
theorem dX6_skipSpaces_42 : decode cX6_skipSpaces 42 = .ok (.iconst 1, 1) := by decide +kernel
theorem dX6_skipSpaces_43 : decode cX6_skipSpaces 43 = .ok (.iadd, 1) := by decide +kernel
theorem dX6_skipSpaces_44 : decode cX6_skipSpaces 44 = .ok (.putfield 9, 3) := by decide +kernel
theorem dX6_skipSpaces_47 : decode cX6_skipSpaces 47 = .ok (.goto (-47), 3) := by decide +kernel
theorem dX6_skipSpaces_50 : decode cX6_skipSpaces 50 = .ok (.return_, 1) := by decide +kernel
theorem dX6_scanWord_0 : decode cX6_scanWord 0 = .ok (.aload_n 0, 1) := by decide +kernel
theorem dX6_scanWord_1 : decode cX6_scanWord 1 = .ok (.lconst 0, 1) := by decide +kernel
theorem dX6_scanWord_2 : decode cX6_scanWord 2 = .ok (.putfield 50, 3) := by decide +kernel
theorem dX6_scanWord_5 : decode cX6_scanWord 5 = .ok (.aload_n 0, 1) := by decide +kernel
theorem dX6_scanWord_6 : decode cX6_scanWord 6 = .ok (.getfield 9, 3) := by decide +kernel
theorem dX6_scanWord_9 : decode cX6_scanWord 9 = .ok (.aload_n 1, 1) := by decide +kernel
theorem dX6_scanWord_10 : decode cX6_scanWord 10 = .ok (.getfield 31, 3) := by decide +kernel
theorem dX6_scanWord_13 : decode cX6_scanWord 13 = .ok (.if_icmp .ge 58, 3) := by decide +kernel
theorem dX6_scanWord_16 : decode cX6_scanWord 16 = .ok (.aload_n 1, 1) := by decide +kernel
theorem dX6_scanWord_17 : decode cX6_scanWord 17 = .ok (.aload_n 0, 1) := by decide +kernel
theorem dX6_scanWord_18 : decode cX6_scanWord 18 = .ok (.getfield 9, 3) := by decide +kernel
theorem dX6_scanWord_21 : decode cX6_scanWord 21 = .ok (.invokevirtual 25, 3) := by decide +kernel
theorem dX6_scanWord_24 : decode cX6_scanWord 24 = .ok (.invokestatic 37, 3) := by decide +kernel
theorem dX6_scanWord_27 : decode cX6_scanWord 27 = .ok (.ifCond .eq 44, 3) := by decide +kernel
theorem dX6_scanWord_30 : decode cX6_scanWord 30 = .ok (.aload_n 0, 1) := by decide +kernel
theorem dX6_scanWord_31 : decode cX6_scanWord 31 = .ok (.aload_n 0, 1) := by decide +kernel
theorem dX6_scanWord_32 : decode cX6_scanWord 32 = .ok (.getfield 50, 3) := by decide +kernel
theorem dX6_scanWord_35 : decode cX6_scanWord 35 = .ok (.aload_n 0, 1) := by decide +kernel
theorem dX6_scanWord_36 : decode cX6_scanWord 36 = .ok (.getfield 9, 3) := by decide +kernel
theorem dX6_scanWord_39 : decode cX6_scanWord 39 = .ok (.aload_n 0, 1) := by decide +kernel
theorem dX6_scanWord_40 : decode cX6_scanWord 40 = .ok (.getfield 19, 3) := by decide +kernel
theorem dX6_scanWord_43 : decode cX6_scanWord 43 = .ok (.isub, 1) := by decide +kernel
theorem dX6_scanWord_44 : decode cX6_scanWord 44 = .ok (.aload_n 1, 1) := by decide +kernel
theorem dX6_scanWord_45 : decode cX6_scanWord 45 = .ok (.aload_n 0, 1) := by decide +kernel
theorem dX6_scanWord_46 : decode cX6_scanWord 46 = .ok (.getfield 9, 3) := by decide +kernel
theorem dX6_scanWord_49 : decode cX6_scanWord 49 = .ok (.invokevirtual 25, 3) := by decide +kernel
theorem dX6_scanWord_52 : decode cX6_scanWord 52 = .ok (.invokestatic 54, 3) := by decide +kernel
theorem dX6_scanWord_55 : decode cX6_scanWord 55 = .ok (.putfield 50, 3) := by decide +kernel
theorem dX6_scanWord_58 : decode cX6_scanWord 58 = .ok (.aload_n 0, 1) := by decide +kernel
theorem dX6_scanWord_59 : decode cX6_scanWord 59 = .ok (.dup, 1) := by decide +kernel
theorem dX6_scanWord_60 : decode cX6_scanWord 60 = .ok (.getfield 9, 3) := by decide +kernel
theorem dX6_scanWord_63 : decode cX6_scanWord 63 = .ok (.iconst 1, 1) := by decide +kernel
theorem dX6_scanWord_64 : decode cX6_scanWord 64 = .ok (.iadd, 1) := by decide +kernel
theorem dX6_scanWord_65 : decode cX6_scanWord 65 = .ok (.putfield 9, 3) := by decide +kernel
theorem dX6_scanWord_68 : decode cX6_scanWord 68 = .ok (.goto (-63), 3) := by decide +kernel
theorem dX6_scanWord_71 : decode cX6_scanWord 71 = .ok (.aload_n 0, 1) := by decide +kernel
theorem dX6_scanWord_72 : decode cX6_scanWord 72 = .ok (.aload_n 0, 1) := by decide +kernel
theorem dX6_scanWord_73 : decode cX6_scanWord 73 = .ok (.getfield 9, 3) := by decide +kernel
theorem dX6_scanWord_76 : decode cX6_scanWord 76 = .ok (.aload_n 0, 1) := by decide +kernel
theorem dX6_scanWord_77 : decode cX6_scanWord 77 = .ok (.getfield 19, 3) := by decide +kernel
theorem dX6_scanWord_80 : decode cX6_scanWord 80 = .ok (.isub, 1) := by decide +kernel
theorem dX6_scanWord_81 : decode cX6_scanWord 81 = .ok (.bipush 8, 2) := by decide +kernel
theorem dX6_scanWord_83 : decode cX6_scanWord 83 = .ok (.if_icmp .gt 7, 3) := by decide +kernel
theorem dX6_scanWord_86 : decode cX6_scanWord 86 = .ok (.iconst 1, 1) := by decide +kernel
theorem dX6_scanWord_87 : decode cX6_scanWord 87 = .ok (.goto 4, 3) := by decide +kernel
theorem dX6_scanWord_90 : decode cX6_scanWord 90 = .ok (.iconst 4, 1) := by decide +kernel
theorem dX6_scanWord_91 : decode cX6_scanWord 91 = .ok (.putfield 34, 3) := by decide +kernel
theorem dX6_scanWord_94 : decode cX6_scanWord 94 = .ok (.aload_n 0, 1) := by decide +kernel
theorem dX6_scanWord_95 : decode cX6_scanWord 95 = .ok (.getfield 34, 3) := by decide +kernel
theorem dX6_scanWord_98 : decode cX6_scanWord 98 = .ok (.iconst 1, 1) := by decide +kernel
theorem dX6_scanWord_99 : decode cX6_scanWord 99 = .ok (.if_icmp .ne 14, 3) := by decide +kernel
theorem dX6_scanWord_102 : decode cX6_scanWord 102 = .ok (.aload_n 0, 1) := by decide +kernel
theorem dX6_scanWord_103 : decode cX6_scanWord 103 = .ok (.aload_n 0, 1) := by decide +kernel
theorem dX6_scanWord_104 : decode cX6_scanWord 104 = .ok (.getfield 50, 3) := by decide +kernel
theorem dX6_scanWord_107 : decode cX6_scanWord 107 = .ok (.invokestatic 58, 3) := by decide +kernel
theorem dX6_scanWord_110 : decode cX6_scanWord 110 = .ok (.putfield 22, 3) := by decide +kernel
theorem dX6_scanWord_113 : decode cX6_scanWord 113 = .ok (.return_, 1) := by decide +kernel
theorem dX6_scanNumber_0 : decode cX6_scanNumber 0 = .ok (.aload_n 0, 1) := by decide +kernel
theorem dX6_scanNumber_1 : decode cX6_scanNumber 1 = .ok (.iconst 0, 1) := by decide +kernel
theorem dX6_scanNumber_2 : decode cX6_scanNumber 2 = .ok (.putfield 62, 3) := by decide +kernel
theorem dX6_scanNumber_5 : decode cX6_scanNumber 5 = .ok (.aload_n 0, 1) := by decide +kernel
theorem dX6_scanNumber_6 : decode cX6_scanNumber 6 = .ok (.getfield 9, 3) := by decide +kernel
theorem dX6_scanNumber_9 : decode cX6_scanNumber 9 = .ok (.aload_n 1, 1) := by decide +kernel
theorem dX6_scanNumber_10 : decode cX6_scanNumber 10 = .ok (.getfield 31, 3) := by decide +kernel
theorem dX6_scanNumber_13 : decode cX6_scanNumber 13 = .ok (.if_icmp .ge 53, 3) := by decide +kernel
theorem dX6_scanNumber_16 : decode cX6_scanNumber 16 = .ok (.aload_n 1, 1) := by decide +kernel
theorem dX6_scanNumber_17 : decode cX6_scanNumber 17 = .ok (.aload_n 0, 1) := by decide +kernel
theorem dX6_scanNumber_18 : decode cX6_scanNumber 18 = .ok (.getfield 9, 3) := by decide +kernel
theorem dX6_scanNumber_21 : decode cX6_scanNumber 21 = .ok (.invokevirtual 25, 3) := by decide +kernel
theorem dX6_scanNumber_24 : decode cX6_scanNumber 24 = .ok (.invokestatic 44, 3) := by decide +kernel
theorem dX6_scanNumber_27 : decode cX6_scanNumber 27 = .ok (.ifCond .eq 39, 3) := by decide +kernel
theorem dX6_scanNumber_30 : decode cX6_scanNumber 30 = .ok (.aload_n 0, 1) := by decide +kernel
theorem dX6_scanNumber_31 : decode cX6_scanNumber 31 = .ok (.aload_n 0, 1) := by decide +kernel
theorem dX6_scanNumber_32 : decode cX6_scanNumber 32 = .ok (.getfield 62, 3) := by decide +kernel
theorem dX6_scanNumber_35 : decode cX6_scanNumber 35 = .ok (.bipush 10, 2) := by decide +kernel
theorem dX6_scanNumber_37 : decode cX6_scanNumber 37 = .ok (.imul, 1) := by decide +kernel
theorem dX6_scanNumber_38 : decode cX6_scanNumber 38 = .ok (.aload_n 1, 1) := by decide +kernel
theorem dX6_scanNumber_39 : decode cX6_scanNumber 39 = .ok (.aload_n 0, 1) := by decide +kernel
theorem dX6_scanNumber_40 : decode cX6_scanNumber 40 = .ok (.getfield 9, 3) := by decide +kernel
theorem dX6_scanNumber_43 : decode cX6_scanNumber 43 = .ok (.invokevirtual 25, 3) := by decide +kernel
theorem dX6_scanNumber_46 : decode cX6_scanNumber 46 = .ok (.bipush 48, 2) := by decide +kernel
theorem dX6_scanNumber_48 : decode cX6_scanNumber 48 = .ok (.isub, 1) := by decide +kernel
theorem dX6_scanNumber_49 : decode cX6_scanNumber 49 = .ok (.iadd, 1) := by decide +kernel
theorem dX6_scanNumber_50 : decode cX6_scanNumber 50 = .ok (.putfield 62, 3) := by decide +kernel
theorem dX6_scanNumber_53 : decode cX6_scanNumber 53 = .ok (.aload_n 0, 1) := by decide +kernel
theorem dX6_scanNumber_54 : decode cX6_scanNumber 54 = .ok (.dup, 1) := by decide +kernel
theorem dX6_scanNumber_55 : decode cX6_scanNumber 55 = .ok (.getfield 9, 3) := by decide +kernel
theorem dX6_scanNumber_58 : decode cX6_scanNumber 58 = .ok (.iconst 1, 1) := by decide +kernel
theorem dX6_scanNumber_59 : decode cX6_scanNumber 59 = .ok (.iadd, 1) := by decide +kernel
theorem dX6_scanNumber_60 : decode cX6_scanNumber 60 = .ok (.putfield 9, 3) := by decide +kernel
theorem dX6_scanNumber_63 : decode cX6_scanNumber 63 = .ok (.goto (-58), 3) := by decide +kernel
theorem dX6_scanNumber_66 : decode cX6_scanNumber 66 = .ok (.aload_n 0, 1) := by decide +kernel
theorem dX6_scanNumber_67 : decode cX6_scanNumber 67 = .ok (.aload_n 0, 1) := by decide +kernel
theorem dX6_scanNumber_68 : decode cX6_scanNumber 68 = .ok (.getfield 9, 3) := by decide +kernel
theorem dX6_scanNumber_71 : decode cX6_scanNumber 71 = .ok (.aload_n 0, 1) := by decide +kernel
theorem dX6_scanNumber_72 : decode cX6_scanNumber 72 = .ok (.getfield 19, 3) := by decide +kernel
theorem dX6_scanNumber_75 : decode cX6_scanNumber 75 = .ok (.isub, 1) := by decide +kernel
theorem dX6_scanNumber_76 : decode cX6_scanNumber 76 = .ok (.iconst 4, 1) := by decide +kernel
theorem dX6_scanNumber_77 : decode cX6_scanNumber 77 = .ok (.if_icmp .gt 7, 3) := by decide +kernel
theorem dX6_scanNumber_80 : decode cX6_scanNumber 80 = .ok (.iconst 2, 1) := by decide +kernel
theorem dX6_scanNumber_81 : decode cX6_scanNumber 81 = .ok (.goto 4, 3) := by decide +kernel
theorem dX6_scanNumber_84 : decode cX6_scanNumber 84 = .ok (.iconst 4, 1) := by decide +kernel
theorem dX6_scanNumber_85 : decode cX6_scanNumber 85 = .ok (.putfield 34, 3) := by decide +kernel
theorem dX6_scanNumber_88 : decode cX6_scanNumber 88 = .ok (.return_, 1) := by decide +kernel
theorem dX6_isLetter_0 : decode cX6_isLetter 0 = .ok (.iload_n 0, 1) := by decide +kernel
theorem dX6_isLetter_1 : decode cX6_isLetter 1 = .ok (.bipush 97, 2) := by decide +kernel
theorem dX6_isLetter_3 : decode cX6_isLetter 3 = .ok (.if_icmp .lt 13, 3) := by decide +kernel
theorem dX6_isLetter_6 : decode cX6_isLetter 6 = .ok (.iload_n 0, 1) := by decide +kernel
theorem dX6_isLetter_7 : decode cX6_isLetter 7 = .ok (.bipush 122, 2) := by decide +kernel
theorem dX6_isLetter_9 : decode cX6_isLetter 9 = .ok (.if_icmp .gt 7, 3) := by decide +kernel
theorem dX6_isLetter_12 : decode cX6_isLetter 12 = .ok (.iconst 1, 1) := by decide +kernel
theorem dX6_isLetter_13 : decode cX6_isLetter 13 = .ok (.goto 4, 3) := by decide +kernel
theorem dX6_isLetter_16 : decode cX6_isLetter 16 = .ok (.iconst 0, 1) := by decide +kernel
theorem dX6_isLetter_17 : decode cX6_isLetter 17 = .ok (.ireturn, 1) := by decide +kernel
theorem dX6_isDigit_0 : decode cX6_isDigit 0 = .ok (.iload_n 0, 1) := by decide +kernel
theorem dX6_isDigit_1 : decode cX6_isDigit 1 = .ok (.bipush 48, 2) := by decide +kernel
theorem dX6_isDigit_3 : decode cX6_isDigit 3 = .ok (.if_icmp .lt 13, 3) := by decide +kernel
theorem dX6_isDigit_6 : decode cX6_isDigit 6 = .ok (.iload_n 0, 1) := by decide +kernel
theorem dX6_isDigit_7 : decode cX6_isDigit 7 = .ok (.bipush 57, 2) := by decide +kernel
theorem dX6_isDigit_9 : decode cX6_isDigit 9 = .ok (.if_icmp .gt 7, 3) := by decide +kernel
theorem dX6_isDigit_12 : decode cX6_isDigit 12 = .ok (.iconst 1, 1) := by decide +kernel
theorem dX6_isDigit_13 : decode cX6_isDigit 13 = .ok (.goto 4, 3) := by decide +kernel
theorem dX6_isDigit_16 : decode cX6_isDigit 16 = .ok (.iconst 0, 1) := by decide +kernel
theorem dX6_isDigit_17 : decode cX6_isDigit 17 = .ok (.ireturn, 1) := by decide +kernel
theorem dX7_init_0 : decode cX7_init 0 = .ok (.aload_n 0, 1) := by decide +kernel
theorem dX7_init_1 : decode cX7_init 1 = .ok (.invokespecial 3, 3) := by decide +kernel
theorem dX7_init_4 : decode cX7_init 4 = .ok (.aload_n 0, 1) := by decide +kernel
theorem dX7_init_5 : decode cX7_init 5 = .ok (.bipush 12, 2) := by decide +kernel
theorem dX7_init_7 : decode cX7_init 7 = .ok (.newarray .long, 2) := by decide +kernel
theorem dX7_init_9 : decode cX7_init 9 = .ok (.putfield 9, 3) := by decide +kernel
theorem dX7_init_12 : decode cX7_init 12 = .ok (.aload_n 0, 1) := by decide +kernel
theorem dX7_init_13 : decode cX7_init 13 = .ok (.bipush 12, 2) := by decide +kernel
theorem dX7_init_15 : decode cX7_init 15 = .ok (.newarray .int, 2) := by decide +kernel
theorem dX7_init_17 : decode cX7_init 17 = .ok (.putfield 15, 3) := by decide +kernel
theorem dX7_init_20 : decode cX7_init 20 = .ok (.aload_n 0, 1) := by decide +kernel
theorem dX7_init_21 : decode cX7_init 21 = .ok (.bipush 12, 2) := by decide +kernel
theorem dX7_init_23 : decode cX7_init 23 = .ok (.newarray .int, 2) := by decide +kernel
theorem dX7_init_25 : decode cX7_init 25 = .ok (.putfield 19, 3) := by decide +kernel
theorem dX7_init_28 : decode cX7_init 28 = .ok (.aload_n 0, 1) := by decide +kernel
theorem dX7_init_29 : decode cX7_init 29 = .ok (.bipush 12, 2) := by decide +kernel
theorem dX7_init_31 : decode cX7_init 31 = .ok (.newarray .int, 2) := by decide +kernel
theorem dX7_init_33 : decode cX7_init 33 = .ok (.putfield 22, 3) := by decide +kernel
theorem dX7_init_36 : decode cX7_init 36 = .ok (.aload_n 0, 1) := by decide +kernel
theorem dX7_init_37 : decode cX7_init 37 = .ok (.bipush 12, 2) := by decide +kernel
theorem dX7_init_39 : decode cX7_init 39 = .ok (.newarray .int, 2) := by decide +kernel
theorem dX7_init_41 : decode cX7_init 41 = .ok (.putfield 25, 3) := by decide +kernel
theorem dX7_init_44 : decode cX7_init 44 = .ok (.aload_n 0, 1) := by decide +kernel
theorem dX7_init_45 : decode cX7_init 45 = .ok (.bipush 12, 2) := by decide +kernel
theorem dX7_init_47 : decode cX7_init 47 = .ok (.newarray .int, 2) := by decide +kernel
theorem dX7_init_49 : decode cX7_init 49 = .ok (.putfield 28, 3) := by decide +kernel
theorem dX7_init_52 : decode cX7_init 52 = .ok (.aload_n 0, 1) := by decide +kernel
theorem dX7_init_53 : decode cX7_init 53 = .ok (.bipush 12, 2) := by decide +kernel
theorem dX7_init_55 : decode cX7_init 55 = .ok (.newarray .int, 2) := by decide +kernel
theorem dX7_init_57 : decode cX7_init 57 = .ok (.putfield 31, 3) := by decide +kernel
theorem dX7_init_60 : decode cX7_init 60 = .ok (.aload_n 0, 1) := by decide +kernel
theorem dX7_init_61 : decode cX7_init 61 = .ok (.bipush 12, 2) := by decide +kernel
theorem dX7_init_63 : decode cX7_init 63 = .ok (.newarray .int, 2) := by decide +kernel
theorem dX7_init_65 : decode cX7_init 65 = .ok (.putfield 34, 3) := by decide +kernel
theorem dX7_init_68 : decode cX7_init 68 = .ok (.aload_n 0, 1) := by decide +kernel
theorem dX7_init_69 : decode cX7_init 69 = .ok (.bipush 12, 2) := by decide +kernel
theorem dX7_init_71 : decode cX7_init 71 = .ok (.newarray .int, 2) := by decide +kernel
theorem dX7_init_73 : decode cX7_init 73 = .ok (.putfield 37, 3) := by decide +kernel
theorem dX7_init_76 : decode cX7_init 76 = .ok (.aload_n 0, 1) := by decide +kernel
theorem dX7_init_77 : decode cX7_init 77 = .ok (.bipush 12, 2) := by decide +kernel
theorem dX7_init_79 : decode cX7_init 79 = .ok (.newarray .int, 2) := by decide +kernel
theorem dX7_init_81 : decode cX7_init 81 = .ok (.putfield 40, 3) := by decide +kernel
theorem dX7_init_84 : decode cX7_init 84 = .ok (.aload_n 0, 1) := by decide +kernel
theorem dX7_init_85 : decode cX7_init 85 = .ok (.bipush 12, 2) := by decide +kernel
theorem dX7_init_87 : decode cX7_init 87 = .ok (.newarray .boolean, 2) := by decide +kernel
theorem dX7_init_89 : decode cX7_init 89 = .ok (.putfield 43, 3) := by decide +kernel
theorem dX7_init_92 : decode cX7_init 92 = .ok (.aload_n 0, 1) := by decide +kernel
theorem dX7_init_93 : decode cX7_init 93 = .ok (.new 47, 3) := by decide +kernel
theorem dX7_init_96 : decode cX7_init 96 = .ok (.dup, 1) := by decide +kernel
theorem dX7_init_97 : decode cX7_init 97 = .ok (.invokespecial 49, 3) := by decide +kernel
theorem dX7_init_100 : decode cX7_init 100 = .ok (.putfield 50, 3) := by decide +kernel
theorem dX7_init_103 : decode cX7_init 103 = .ok (.aload_n 0, 1) := by decide +kernel
theorem dX7_init_104 : decode cX7_init 104 = .ok (.bipush 10, 2) := by decide +kernel
theorem dX7_init_106 : decode cX7_init 106 = .ok (.putfield 54, 3) := by decide +kernel
theorem dX7_init_109 : decode cX7_init 109 = .ok (.aload_n 0, 1) := by decide +kernel
theorem dX7_init_110 : decode cX7_init 110 = .ok (.iconst (-1), 1) := by decide +kernel
theorem dX7_init_111 : decode cX7_init 111 = .ok (.putfield 58, 3) := by decide +kernel
theorem dX7_init_114 : decode cX7_init 114 = .ok (.return_, 1) := by decide +kernel
theorem dX7_clear_0 : decode cX7_clear 0 = .ok (.aload_n 0, 1) := by decide +kernel
theorem dX7_clear_1 : decode cX7_clear 1 = .ok (.iconst 0, 1) := by decide +kernel
theorem dX7_clear_2 : decode cX7_clear 2 = .ok (.putfield 61, 3) := by decide +kernel
theorem dX7_clear_5 : decode cX7_clear 5 = .ok (.aload_n 0, 1) := by decide +kernel
theorem dX7_clear_6 : decode cX7_clear 6 = .ok (.getfield 50, 3) := by decide +kernel
theorem dX7_clear_9 : decode cX7_clear 9 = .ok (.iconst 0, 1) := by decide +kernel
theorem dX7_clear_10 : decode cX7_clear 10 = .ok (.putfield 64, 3) := by decide +kernel
theorem dX7_clear_13 : decode cX7_clear 13 = .ok (.aload_n 0, 1) := by decide +kernel
theorem dX7_clear_14 : decode cX7_clear 14 = .ok (.bipush 10, 2) := by decide +kernel
theorem dX7_clear_16 : decode cX7_clear 16 = .ok (.putfield 54, 3) := by decide +kernel
theorem dX7_clear_19 : decode cX7_clear 19 = .ok (.aload_n 0, 1) := by decide +kernel
theorem dX7_clear_20 : decode cX7_clear 20 = .ok (.iconst (-1), 1) := by decide +kernel
theorem dX7_clear_21 : decode cX7_clear 21 = .ok (.putfield 58, 3) := by decide +kernel
theorem dX7_clear_24 : decode cX7_clear 24 = .ok (.return_, 1) := by decide +kernel
theorem dX7_hasNode_0 : decode cX7_hasNode 0 = .ok (.iload_n 1, 1) := by decide +kernel
theorem dX7_hasNode_1 : decode cX7_hasNode 1 = .ok (.ifCond .lt 21, 3) := by decide +kernel
theorem dX7_hasNode_4 : decode cX7_hasNode 4 = .ok (.iload_n 1, 1) := by decide +kernel
theorem dX7_hasNode_5 : decode cX7_hasNode 5 = .ok (.aload_n 0, 1) := by decide +kernel
theorem dX7_hasNode_6 : decode cX7_hasNode 6 = .ok (.getfield 61, 3) := by decide +kernel
theorem dX7_hasNode_9 : decode cX7_hasNode 9 = .ok (.if_icmp .ge 13, 3) := by decide +kernel
theorem dX7_hasNode_12 : decode cX7_hasNode 12 = .ok (.iload_n 1, 1) := by decide +kernel
theorem dX7_hasNode_13 : decode cX7_hasNode 13 = .ok (.bipush 12, 2) := by decide +kernel
theorem dX7_hasNode_15 : decode cX7_hasNode 15 = .ok (.if_icmp .ge 7, 3) := by decide +kernel
theorem dX7_hasNode_18 : decode cX7_hasNode 18 = .ok (.iconst 1, 1) := by decide +kernel
theorem dX7_hasNode_19 : decode cX7_hasNode 19 = .ok (.goto 4, 3) := by decide +kernel
theorem dX7_hasNode_22 : decode cX7_hasNode 22 = .ok (.iconst 0, 1) := by decide +kernel
theorem dX7_hasNode_23 : decode cX7_hasNode 23 = .ok (.ireturn, 1) := by decide +kernel
theorem dX7_hasLeaf_0 : decode cX7_hasLeaf 0 = .ok (.aload_n 0, 1) := by decide +kernel
theorem dX7_hasLeaf_1 : decode cX7_hasLeaf 1 = .ok (.iload_n 1, 1) := by decide +kernel
theorem dX7_hasLeaf_2 : decode cX7_hasLeaf 2 = .ok (.invokevirtual 67, 3) := by decide +kernel
theorem dX7_hasLeaf_5 : decode cX7_hasLeaf 5 = .ok (.ifCond .eq 16, 3) := by decide +kernel
theorem dX7_hasLeaf_8 : decode cX7_hasLeaf 8 = .ok (.aload_n 0, 1) := by decide +kernel
theorem dX7_hasLeaf_9 : decode cX7_hasLeaf 9 = .ok (.getfield 22, 3) := by decide +kernel
theorem dX7_hasLeaf_12 : decode cX7_hasLeaf 12 = .ok (.iload_n 1, 1) := by decide +kernel
theorem dX7_hasLeaf_13 : decode cX7_hasLeaf 13 = .ok (.iaload, 1) := by decide +kernel
theorem dX7_hasLeaf_14 : decode cX7_hasLeaf 14 = .ok (.ifCond .ne 7, 3) := by decide +kernel
theorem dX7_hasLeaf_17 : decode cX7_hasLeaf 17 = .ok (.iconst 1, 1) := by decide +kernel
theorem dX7_hasLeaf_18 : decode cX7_hasLeaf 18 = .ok (.goto 4, 3) := by decide +kernel
theorem dX7_hasLeaf_21 : decode cX7_hasLeaf 21 = .ok (.iconst 0, 1) := by decide +kernel
theorem dX7_hasLeaf_22 : decode cX7_hasLeaf 22 = .ok (.ireturn, 1) := by decide +kernel
theorem dX7_findNode_0 : decode cX7_findNode 0 = .ok (.iconst 0, 1) := by decide +kernel
theorem dX7_findNode_1 : decode cX7_findNode 1 = .ok (.istore_n 3, 1) := by decide +kernel
theorem dX7_findNode_2 : decode cX7_findNode 2 = .ok (.iload_n 3, 1) := by decide +kernel
theorem dX7_findNode_3 : decode cX7_findNode 3 = .ok (.aload_n 0, 1) := by decide +kernel
theorem dX7_findNode_4 : decode cX7_findNode 4 = .ok (.getfield 61, 3) := by decide +kernel
theorem dX7_findNode_7 : decode cX7_findNode 7 = .ok (.if_icmp .ge 22, 3) := by decide +kernel
theorem dX7_findNode_10 : decode cX7_findNode 10 = .ok (.aload_n 0, 1) := by decide +kernel
theorem dX7_findNode_11 : decode cX7_findNode 11 = .ok (.getfield 9, 3) := by decide +kernel
theorem dX7_findNode_14 : decode cX7_findNode 14 = .ok (.iload_n 3, 1) := by decide +kernel
theorem dX7_findNode_15 : decode cX7_findNode 15 = .ok (.laload, 1) := by decide +kernel
theorem dX7_findNode_16 : decode cX7_findNode 16 = .ok (.lload_n 1, 1) := by decide +kernel
theorem dX7_findNode_17 : decode cX7_findNode 17 = .ok (.lcmp, 1) := by decide +kernel
theorem dX7_findNode_18 : decode cX7_findNode 18 = .ok (.ifCond .ne 5, 3) := by decide +kernel
theorem dX7_findNode_21 : decode cX7_findNode 21 = .ok (.iload_n 3, 1) := by decide +kernel
theorem dX7_findNode_22 : decode cX7_findNode 22 = .ok (.ireturn, 1) := by decide +kernel
theorem dX7_findNode_23 : decode cX7_findNode 23 = .ok (.iinc 3 1, 3) := by decide +kernel
theorem dX7_findNode_26 : decode cX7_findNode 26 = .ok (.goto (-24), 3) := by decide +kernel
theorem dX7_findNode_29 : decode cX7_findNode 29 = .ok (.bipush (-2), 2) := by decide +kernel
theorem dX7_findNode_31 : decode cX7_findNode 31 = .ok (.ireturn, 1) := by decide +kernel
theorem dX7_addNode_0 : decode cX7_addNode 0 = .ok (.aload_n 0, 1) := by decide +kernel
theorem dX7_addNode_1 : decode cX7_addNode 1 = .ok (.getfield 61, 3) := by decide +kernel
theorem dX7_addNode_4 : decode cX7_addNode 4 = .ok (.bipush 12, 2) := by decide +kernel
theorem dX7_addNode_6 : decode cX7_addNode 6 = .ok (.if_icmp .lt 4, 3) := by decide +kernel
theorem dX7_addNode_9 : decode cX7_addNode 9 = .ok (.return_, 1) := by decide +kernel
theorem dX7_addNode_10 : decode cX7_addNode 10 = .ok (.aload_n 0, 1) := by decide +kernel
theorem dX7_addNode_11 : decode cX7_addNode 11 = .ok (.getfield 61, 3) := by decide +kernel
theorem dX7_addNode_14 : decode cX7_addNode 14 = .ok (.istore 4, 2) := by decide +kernel
theorem dX7_addNode_16 : decode cX7_addNode 16 = .ok (.aload_n 0, 1) := by decide +kernel
theorem dX7_addNode_17 : decode cX7_addNode 17 = .ok (.dup, 1) := by decide +kernel
theorem dX7_addNode_18 : decode cX7_addNode 18 = .ok (.getfield 61, 3) := by decide +kernel
theorem dX7_addNode_21 : decode cX7_addNode 21 = .ok (.iconst 1, 1) := by decide +kernel
theorem dX7_addNode_22 : decode cX7_addNode 22 = .ok (.iadd, 1) := by decide +kernel
theorem dX7_addNode_23 : decode cX7_addNode 23 = .ok (.putfield 61, 3) := by decide +kernel
theorem dX7_addNode_26 : decode cX7_addNode 26 = .ok (.aload_n 0, 1) := by decide +kernel
theorem dX7_addNode_27 : decode cX7_addNode 27 = .ok (.getfield 9, 3) := by decide +kernel
theorem dX7_addNode_30 : decode cX7_addNode 30 = .ok (.iload 4, 2) := by decide +kernel
theorem dX7_addNode_32 : decode cX7_addNode 32 = .ok (.lload_n 1, 1) := by decide +kernel
theorem dX7_addNode_33 : decode cX7_addNode 33 = .ok (.lastore, 1) := by decide +kernel
theorem dX7_addNode_34 : decode cX7_addNode 34 = .ok (.aload_n 0, 1) := by decide +kernel
theorem dX7_addNode_35 : decode cX7_addNode 35 = .ok (.getfield 15, 3) := by decide +kernel
theorem dX7_addNode_38 : decode cX7_addNode 38 = .ok (.iload 4, 2) := by decide +kernel
theorem dX7_addNode_40 : decode cX7_addNode 40 = .ok (.iload_n 3, 1) := by decide +kernel
theorem dX7_addNode_41 : decode cX7_addNode 41 = .ok (.iastore, 1) := by decide +kernel
theorem dX7_addNode_42 : decode cX7_addNode 42 = .ok (.aload_n 0, 1) := by decide +kernel
theorem dX7_addNode_43 : decode cX7_addNode 43 = .ok (.getfield 19, 3) := by decide +kernel
theorem dX7_addNode_46 : decode cX7_addNode 46 = .ok (.iload 4, 2) := by decide +kernel
theorem dX7_addNode_48 : decode cX7_addNode 48 = .ok (.iconst 0, 1) := by decide +kernel
theorem dX7_addNode_49 : decode cX7_addNode 49 = .ok (.iastore, 1) := by decide +kernel
theorem dX7_addNode_50 : decode cX7_addNode 50 = .ok (.aload_n 0, 1) := by decide +kernel
theorem dX7_addNode_51 : decode cX7_addNode 51 = .ok (.getfield 22, 3) := by decide +kernel
theorem dX7_addNode_54 : decode cX7_addNode 54 = .ok (.iload 4, 2) := by decide +kernel
theorem dX7_addNode_56 : decode cX7_addNode 56 = .ok (.iconst 0, 1) := by decide +kernel
theorem dX7_addNode_57 : decode cX7_addNode 57 = .ok (.iastore, 1) := by decide +kernel
theorem dX7_addNode_58 : decode cX7_addNode 58 = .ok (.aload_n 0, 1) := by decide +kernel
theorem dX7_addNode_59 : decode cX7_addNode 59 = .ok (.getfield 43, 3) := by decide +kernel
theorem dX7_addNode_62 : decode cX7_addNode 62 = .ok (.iload 4, 2) := by decide +kernel
theorem dX7_addNode_64 : decode cX7_addNode 64 = .ok (.iconst 0, 1) := by decide +kernel
theorem dX7_addNode_65 : decode cX7_addNode 65 = .ok (.bastore, 1) := by decide +kernel
theorem dX7_addNode_66 : decode cX7_addNode 66 = .ok (.iconst 0, 1) := by decide +kernel
theorem dX7_addNode_67 : decode cX7_addNode 67 = .ok (.istore 5, 2) := by decide +kernel
theorem dX7_addNode_69 : decode cX7_addNode 69 = .ok (.iload 5, 2) := by decide +kernel
theorem dX7_addNode_71 : decode cX7_addNode 71 = .ok (.bipush 6, 2) := by decide +kernel
theorem dX7_addNode_73 : decode cX7_addNode 73 = .ok (.if_icmp .ge 24, 3) := by decide +kernel
theorem dX7_addNode_76 : decode cX7_addNode 76 = .ok (.aload_n 0, 1) := by decide +kernel
theorem dX7_addNode_77 : decode cX7_addNode 77 = .ok (.iload 5, 2) := by decide +kernel
theorem dX7_addNode_79 : decode cX7_addNode 79 = .ok (.invokevirtual 71, 3) := by decide +kernel
theorem dX7_addNode_82 : decode cX7_addNode 82 = .ok (.iload 4, 2) := by decide +kernel
theorem dX7_addNode_84 : decode cX7_addNode 84 = .ok (.getstatic 75, 3) := by decide +kernel
theorem dX7_addNode_87 : decode cX7_addNode 87 = .ok (.iload 5, 2) := by decide +kernel
theorem dX7_addNode_89 : decode cX7_addNode 89 = .ok (.iaload, 1) := by decide +kernel
theorem dX7_addNode_90 : decode cX7_addNode 90 = .ok (.iastore, 1) := by decide +kernel
theorem dX7_addNode_91 : decode cX7_addNode 91 = .ok (.iinc 5 1, 3) := by decide +kernel
theorem dX7_addNode_94 : decode cX7_addNode 94 = .ok (.goto (-25), 3) := by decide +kernel
theorem dX7_addNode_97 : decode cX7_addNode 97 = .ok (.iload_n 3, 1) := by decide +kernel
theorem dX7_addNode_98 : decode cX7_addNode 98 = .ok (.ifCond .lt 34, 3) := by decide +kernel
theorem dX7_addNode_101 : decode cX7_addNode 101 = .ok (.iload_n 3, 1) := by decide +kernel
theorem dX7_addNode_102 : decode cX7_addNode 102 = .ok (.iload 4, 2) := by decide +kernel
theorem dX7_addNode_104 : decode cX7_addNode 104 = .ok (.if_icmp .ge 28, 3) := by decide +kernel
theorem dX7_addNode_107 : decode cX7_addNode 107 = .ok (.aload_n 0, 1) := by decide +kernel
theorem dX7_addNode_108 : decode cX7_addNode 108 = .ok (.getfield 19, 3) := by decide +kernel
theorem dX7_addNode_111 : decode cX7_addNode 111 = .ok (.iload 4, 2) := by decide +kernel
theorem dX7_addNode_113 : decode cX7_addNode 113 = .ok (.aload_n 0, 1) := by decide +kernel
theorem dX7_addNode_114 : decode cX7_addNode 114 = .ok (.getfield 19, 3) := by decide +kernel
theorem dX7_addNode_117 : decode cX7_addNode 117 = .ok (.iload_n 3, 1) := by decide +kernel
theorem dX7_addNode_118 : decode cX7_addNode 118 = .ok (.iaload, 1) := by decide +kernel
theorem dX7_addNode_119 : decode cX7_addNode 119 = .ok (.iconst 1, 1) := by decide +kernel
theorem dX7_addNode_120 : decode cX7_addNode 120 = .ok (.iadd, 1) := by decide +kernel
theorem dX7_addNode_121 : decode cX7_addNode 121 = .ok (.iastore, 1) := by decide +kernel
theorem dX7_addNode_122 : decode cX7_addNode 122 = .ok (.aload_n 0, 1) := by decide +kernel
theorem dX7_addNode_123 : decode cX7_addNode 123 = .ok (.getfield 22, 3) := by decide +kernel
theorem dX7_addNode_126 : decode cX7_addNode 126 = .ok (.iload_n 3, 1) := by decide +kernel
theorem dX7_addNode_127 : decode cX7_addNode 127 = .ok (.dup2, 1) := by decide +kernel
theorem dX7_addNode_128 : decode cX7_addNode 128 = .ok (.iaload, 1) := by decide +kernel
theorem dX7_addNode_129 : decode cX7_addNode 129 = .ok (.iconst 1, 1) := by decide +kernel
theorem dX7_addNode_130 : decode cX7_addNode 130 = .ok (.iadd, 1) := by decide +kernel
theorem dX7_addNode_131 : decode cX7_addNode 131 = .ok (.iastore, 1) := by decide +kernel
theorem dX7_addNode_132 : decode cX7_addNode 132 = .ok (.return_, 1) := by decide +kernel
theorem dX7_row_0 : decode cX7_row 0 = .ok (.iload_n 1, 1) := by decide +kernel
theorem dX7_row_1 : decode cX7_row 1 = .ok (.tableswitch 60 0 4 #[35, 40, 45, 50, 55], 35) := by decide +kernel
theorem dX7_row_36 : decode cX7_row 36 = .ok (.aload_n 0, 1) := by decide +kernel
theorem dX7_row_37 : decode cX7_row 37 = .ok (.getfield 25, 3) := by decide +kernel
theorem dX7_row_40 : decode cX7_row 40 = .ok (.areturn, 1) := by decide +kernel
theorem dX7_row_41 : decode cX7_row 41 = .ok (.aload_n 0, 1) := by decide +kernel
theorem dX7_row_42 : decode cX7_row 42 = .ok (.getfield 28, 3) := by decide +kernel
theorem dX7_row_45 : decode cX7_row 45 = .ok (.areturn, 1) := by decide +kernel
theorem dX7_row_46 : decode cX7_row 46 = .ok (.aload_n 0, 1) := by decide +kernel
theorem dX7_row_47 : decode cX7_row 47 = .ok (.getfield 31, 3) := by decide +kernel
theorem dX7_row_50 : decode cX7_row 50 = .ok (.areturn, 1) := by decide +kernel
theorem dX7_row_51 : decode cX7_row 51 = .ok (.aload_n 0, 1) := by decide +kernel
theorem dX7_row_52 : decode cX7_row 52 = .ok (.getfield 34, 3) := by decide +kernel
theorem dX7_row_55 : decode cX7_row 55 = .ok (.areturn, 1) := by decide +kernel
theorem dX7_row_56 : decode cX7_row 56 = .ok (.aload_n 0, 1) := by decide +kernel
theorem dX7_row_57 : decode cX7_row 57 = .ok (.getfield 37, 3) := by decide +kernel
theorem dX7_row_60 : decode cX7_row 60 = .ok (.areturn, 1) := by decide +kernel
theorem dX7_row_61 : decode cX7_row 61 = .ok (.aload_n 0, 1) := by decide +kernel
theorem dX7_row_62 : decode cX7_row 62 = .ok (.getfield 40, 3) := by decide +kernel
theorem dX7_row_65 : decode cX7_row 65 = .ok (.areturn, 1) := by decide +kernel
theorem dX7_childOf_0 : decode cX7_childOf 0 = .ok (.iconst 0, 1) := by decide +kernel
theorem dX7_childOf_1 : decode cX7_childOf 1 = .ok (.istore_n 3, 1) := by decide +kernel
theorem dX7_childOf_2 : decode cX7_childOf 2 = .ok (.iload_n 1, 1) := by decide +kernel
theorem dX7_childOf_3 : decode cX7_childOf 3 = .ok (.iconst 1, 1) := by decide +kernel
theorem dX7_childOf_4 : decode cX7_childOf 4 = .ok (.iadd, 1) := by decide +kernel
theorem dX7_childOf_5 : decode cX7_childOf 5 = .ok (.istore 4, 2) := by decide +kernel
theorem dX7_childOf_7 : decode cX7_childOf 7 = .ok (.iload 4, 2) := by decide +kernel
theorem dX7_childOf_9 : decode cX7_childOf 9 = .ok (.aload_n 0, 1) := by decide +kernel
theorem dX7_childOf_10 : decode cX7_childOf 10 = .ok (.getfield 61, 3) := by decide +kernel
theorem dX7_childOf_13 : decode cX7_childOf 13 = .ok (.if_icmp .ge 31, 3) := by decide +kernel
theorem dX7_childOf_16 : decode cX7_childOf 16 = .ok (.aload_n 0, 1) := by decide +kernel
theorem dX7_childOf_17 : decode cX7_childOf 17 = .ok (.getfield 15, 3) := by decide +kernel
theorem dX7_childOf_20 : decode cX7_childOf 20 = .ok (.iload 4, 2) := by decide +kernel
theorem dX7_childOf_22 : decode cX7_childOf 22 = .ok (.iaload, 1) := by decide +kernel
theorem dX7_childOf_23 : decode cX7_childOf 23 = .ok (.iload_n 1, 1) := by decide +kernel
theorem dX7_childOf_24 : decode cX7_childOf 24 = .ok (.if_icmp .ne 14, 3) := by decide +kernel
theorem dX7_childOf_27 : decode cX7_childOf 27 = .ok (.iload_n 3, 1) := by decide +kernel
theorem dX7_childOf_28 : decode cX7_childOf 28 = .ok (.iload_n 2, 1) := by decide +kernel
theorem dX7_childOf_29 : decode cX7_childOf 29 = .ok (.if_icmp .ne 6, 3) := by decide +kernel
theorem dX7_childOf_32 : decode cX7_childOf 32 = .ok (.iload 4, 2) := by decide +kernel
theorem dX7_childOf_34 : decode cX7_childOf 34 = .ok (.ireturn, 1) := by decide +kernel
theorem dX7_childOf_35 : decode cX7_childOf 35 = .ok (.iinc 3 1, 3) := by decide +kernel
theorem dX7_childOf_38 : decode cX7_childOf 38 = .ok (.iinc 4 1, 3) := by decide +kernel
theorem dX7_childOf_41 : decode cX7_childOf 41 = .ok (.goto (-34), 3) := by decide +kernel
theorem dX7_childOf_44 : decode cX7_childOf 44 = .ok (.bipush (-2), 2) := by decide +kernel
theorem dX7_childOf_46 : decode cX7_childOf 46 = .ok (.ireturn, 1) := by decide +kernel
theorem dX7_distance_0 : decode cX7_distance 0 = .ok (.aload_n 0, 1) := by decide +kernel
theorem dX7_distance_1 : decode cX7_distance 1 = .ok (.iload_n 1, 1) := by decide +kernel
theorem dX7_distance_2 : decode cX7_distance 2 = .ok (.invokevirtual 67, 3) := by decide +kernel
theorem dX7_distance_5 : decode cX7_distance 5 = .ok (.ifCond .eq 27, 3) := by decide +kernel
theorem dX7_distance_8 : decode cX7_distance 8 = .ok (.aload_n 0, 1) := by decide +kernel
theorem dX7_distance_9 : decode cX7_distance 9 = .ok (.iload_n 2, 1) := by decide +kernel
theorem dX7_distance_10 : decode cX7_distance 10 = .ok (.invokevirtual 67, 3) := by decide +kernel
theorem dX7_distance_13 : decode cX7_distance 13 = .ok (.ifCond .eq 19, 3) := by decide +kernel
theorem dX7_distance_16 : decode cX7_distance 16 = .ok (.aload_n 0, 1) := by decide +kernel
theorem dX7_distance_17 : decode cX7_distance 17 = .ok (.getfield 19, 3) := by decide +kernel
theorem dX7_distance_20 : decode cX7_distance 20 = .ok (.iload_n 1, 1) := by decide +kernel
theorem dX7_distance_21 : decode cX7_distance 21 = .ok (.iaload, 1) := by decide +kernel
theorem dX7_distance_22 : decode cX7_distance 22 = .ok (.aload_n 0, 1) := by decide +kernel
theorem dX7_distance_23 : decode cX7_distance 23 = .ok (.getfield 19, 3) := by decide +kernel
theorem dX7_distance_26 : decode cX7_distance 26 = .ok (.iload_n 2, 1) := by decide +kernel
theorem dX7_distance_27 : decode cX7_distance 27 = .ok (.iaload, 1) := by decide +kernel
theorem dX7_distance_28 : decode cX7_distance 28 = .ok (.isub, 1) := by decide +kernel
theorem dX7_distance_29 : decode cX7_distance 29 = .ok (.goto 5, 3) := by decide +kernel
theorem dX7_distance_32 : decode cX7_distance 32 = .ok (.bipush (-2), 2) := by decide +kernel
theorem dX7_distance_34 : decode cX7_distance 34 = .ok (.ireturn, 1) := by decide +kernel
theorem dX8_init_0 : decode cX8_init 0 = .ok (.aload_n 0, 1) := by decide +kernel
theorem dX8_init_1 : decode cX8_init 1 = .ok (.invokespecial 3, 3) := by decide +kernel
theorem dX8_init_4 : decode cX8_init 4 = .ok (.aload_n 0, 1) := by decide +kernel
theorem dX8_init_5 : decode cX8_init 5 = .ok (.bipush 12, 2) := by decide +kernel
theorem dX8_init_7 : decode cX8_init 7 = .ok (.newarray .int, 2) := by decide +kernel
theorem dX8_init_9 : decode cX8_init 9 = .ok (.putfield 9, 3) := by decide +kernel
theorem dX8_init_12 : decode cX8_init 12 = .ok (.aload_n 0, 1) := by decide +kernel
theorem dX8_init_13 : decode cX8_init 13 = .ok (.bipush 12, 2) := by decide +kernel
theorem dX8_init_15 : decode cX8_init 15 = .ok (.newarray .int, 2) := by decide +kernel
theorem dX8_init_17 : decode cX8_init 17 = .ok (.putfield 15, 3) := by decide +kernel
theorem dX8_init_20 : decode cX8_init 20 = .ok (.aload_n 0, 1) := by decide +kernel
theorem dX8_init_21 : decode cX8_init 21 = .ok (.bipush 12, 2) := by decide +kernel
theorem dX8_init_23 : decode cX8_init 23 = .ok (.newarray .int, 2) := by decide +kernel
theorem dX8_init_25 : decode cX8_init 25 = .ok (.putfield 18, 3) := by decide +kernel
theorem dX8_init_28 : decode cX8_init 28 = .ok (.aload_n 0, 1) := by decide +kernel
theorem dX8_init_29 : decode cX8_init 29 = .ok (.new 21, 3) := by decide +kernel
theorem dX8_init_32 : decode cX8_init 32 = .ok (.dup, 1) := by decide +kernel
theorem dX8_init_33 : decode cX8_init 33 = .ok (.invokespecial 23, 3) := by decide +kernel
theorem dX8_init_36 : decode cX8_init 36 = .ok (.putfield 24, 3) := by decide +kernel
theorem dX8_init_39 : decode cX8_init 39 = .ok (.aload_n 0, 1) := by decide +kernel
theorem dX8_init_40 : decode cX8_init 40 = .ok (.new 28, 3) := by decide +kernel
theorem dX8_init_43 : decode cX8_init 43 = .ok (.dup, 1) := by decide +kernel
theorem dX8_init_44 : decode cX8_init 44 = .ok (.invokespecial 30, 3) := by decide +kernel
theorem dX8_init_47 : decode cX8_init 47 = .ok (.putfield 31, 3) := by decide +kernel
theorem dX8_init_50 : decode cX8_init 50 = .ok (.aload_n 0, 1) := by decide +kernel
theorem dX8_init_51 : decode cX8_init 51 = .ok (.new 35, 3) := by decide +kernel
theorem dX8_init_54 : decode cX8_init 54 = .ok (.dup, 1) := by decide +kernel
theorem dX8_init_55 : decode cX8_init 55 = .ok (.invokespecial 37, 3) := by decide +kernel
theorem dX8_init_58 : decode cX8_init 58 = .ok (.putfield 38, 3) := by decide +kernel
theorem dX8_init_61 : decode cX8_init 61 = .ok (.aload_n 0, 1) := by decide +kernel
theorem dX8_init_62 : decode cX8_init 62 = .ok (.new 42, 3) := by decide +kernel
theorem dX8_init_65 : decode cX8_init 65 = .ok (.dup, 1) := by decide +kernel
theorem dX8_init_66 : decode cX8_init 66 = .ok (.invokespecial 44, 3) := by decide +kernel
theorem dX8_init_69 : decode cX8_init 69 = .ok (.putfield 45, 3) := by decide +kernel
theorem dX8_init_72 : decode cX8_init 72 = .ok (.return_, 1) := by decide +kernel
theorem dX8_begin_0 : decode cX8_begin 0 = .ok (.aload_n 0, 1) := by decide +kernel
theorem dX8_begin_1 : decode cX8_begin 1 = .ok (.iconst 0, 1) := by decide +kernel
theorem dX8_begin_2 : decode cX8_begin 2 = .ok (.putfield 49, 3) := by decide +kernel
theorem dX8_begin_5 : decode cX8_begin 5 = .ok (.aload_n 1, 1) := by decide +kernel
theorem dX8_begin_6 : decode cX8_begin 6 = .ok (.getfield 53, 3) := by decide +kernel
theorem dX8_begin_9 : decode cX8_begin 9 = .ok (.aload_n 0, 1) := by decide +kernel
theorem dX8_begin_10 : decode cX8_begin 10 = .ok (.getfield 9, 3) := by decide +kernel
theorem dX8_begin_13 : decode cX8_begin 13 = .ok (.invokestatic 56, 3) := by decide +kernel
theorem dX8_begin_16 : decode cX8_begin 16 = .ok (.aload_n 1, 1) := by decide +kernel
theorem dX8_begin_17 : decode cX8_begin 17 = .ok (.getfield 60, 3) := by decide +kernel
theorem dX8_begin_20 : decode cX8_begin 20 = .ok (.aload_n 0, 1) := by decide +kernel
theorem dX8_begin_21 : decode cX8_begin 21 = .ok (.getfield 15, 3) := by decide +kernel
theorem dX8_begin_24 : decode cX8_begin 24 = .ok (.invokestatic 56, 3) := by decide +kernel
theorem dX8_begin_27 : decode cX8_begin 27 = .ok (.aload_n 1, 1) := by decide +kernel
theorem dX8_begin_28 : decode cX8_begin 28 = .ok (.getfield 61, 3) := by decide +kernel
theorem dX8_begin_31 : decode cX8_begin 31 = .ok (.aload_n 0, 1) := by decide +kernel
theorem dX8_begin_32 : decode cX8_begin 32 = .ok (.getfield 18, 3) := by decide +kernel
theorem dX8_begin_35 : decode cX8_begin 35 = .ok (.invokestatic 56, 3) := by decide +kernel
theorem dX8_begin_38 : decode cX8_begin 38 = .ok (.aload_n 0, 1) := by decide +kernel
theorem dX8_begin_39 : decode cX8_begin 39 = .ok (.getfield 24, 3) := by decide +kernel
theorem dX8_begin_42 : decode cX8_begin 42 = .ok (.aload_n 1, 1) := by decide +kernel
theorem dX8_begin_43 : decode cX8_begin 43 = .ok (.invokevirtual 62, 3) := by decide +kernel
theorem dX8_begin_46 : decode cX8_begin 46 = .ok (.aload_n 0, 1) := by decide +kernel
theorem dX8_begin_47 : decode cX8_begin 47 = .ok (.getfield 31, 3) := by decide +kernel
theorem dX8_begin_50 : decode cX8_begin 50 = .ok (.invokevirtual 66, 3) := by decide +kernel
theorem dX8_begin_53 : decode cX8_begin 53 = .ok (.aload_n 0, 1) := by decide +kernel
theorem dX8_begin_54 : decode cX8_begin 54 = .ok (.getfield 38, 3) := by decide +kernel
theorem dX8_begin_57 : decode cX8_begin 57 = .ok (.invokevirtual 68, 3) := by decide +kernel
theorem dX8_begin_60 : decode cX8_begin 60 = .ok (.aload_n 0, 1) := by decide +kernel
theorem dX8_begin_61 : decode cX8_begin 61 = .ok (.getfield 45, 3) := by decide +kernel
theorem dX8_begin_64 : decode cX8_begin 64 = .ok (.iconst 0, 1) := by decide +kernel
theorem dX8_begin_65 : decode cX8_begin 65 = .ok (.putfield 69, 3) := by decide +kernel
theorem dX8_begin_68 : decode cX8_begin 68 = .ok (.return_, 1) := by decide +kernel
theorem dX8_row_0 : decode cX8_row 0 = .ok (.iload_n 1, 1) := by decide +kernel
theorem dX8_row_1 : decode cX8_row 1 = .ok (.lookupswitch 37 #[(0, 27), (1, 32)], 27) := by decide +kernel
theorem dX8_row_28 : decode cX8_row 28 = .ok (.aload_n 0, 1) := by decide +kernel
theorem dX8_row_29 : decode cX8_row 29 = .ok (.getfield 9, 3) := by decide +kernel
theorem dX8_row_32 : decode cX8_row 32 = .ok (.areturn, 1) := by decide +kernel
theorem dX8_row_33 : decode cX8_row 33 = .ok (.aload_n 0, 1) := by decide +kernel
theorem dX8_row_34 : decode cX8_row 34 = .ok (.getfield 15, 3) := by decide +kernel
theorem dX8_row_37 : decode cX8_row 37 = .ok (.areturn, 1) := by decide +kernel
theorem dX8_row_38 : decode cX8_row 38 = .ok (.aload_n 0, 1) := by decide +kernel
theorem dX8_row_39 : decode cX8_row 39 = .ok (.getfield 18, 3) := by decide +kernel
theorem dX8_row_42 : decode cX8_row 42 = .ok (.areturn, 1) := by decide +kernel
theorem dX8_childrenRate_0 : decode cX8_childrenRate 0 = .ok (.iconst 0, 1) := by decide +kernel
theorem dX8_childrenRate_1 : decode cX8_childrenRate 1 = .ok (.istore_n 3, 1) := by decide +kernel
theorem dX8_childrenRate_2 : decode cX8_childrenRate 2 = .ok (.iload_n 2, 1) := by decide +kernel
theorem dX8_childrenRate_3 : decode cX8_childrenRate 3 = .ok (.iconst 1, 1) := by decide +kernel
theorem dX8_childrenRate_4 : decode cX8_childrenRate 4 = .ok (.iadd, 1) := by decide +kernel
theorem dX8_childrenRate_5 : decode cX8_childrenRate 5 = .ok (.istore 4, 2) := by decide +kernel
theorem dX8_childrenRate_7 : decode cX8_childrenRate 7 = .ok (.iload 4, 2) := by decide +kernel
theorem dX8_childrenRate_9 : decode cX8_childrenRate 9 = .ok (.aload_n 1, 1) := by decide +kernel
theorem dX8_childrenRate_10 : decode cX8_childrenRate 10 = .ok (.getfield 85, 3) := by decide +kernel
theorem dX8_childrenRate_13 : decode cX8_childrenRate 13 = .ok (.if_icmp .ge 30, 3) := by decide +kernel
theorem dX8_childrenRate_16 : decode cX8_childrenRate 16 = .ok (.aload_n 1, 1) := by decide +kernel
theorem dX8_childrenRate_17 : decode cX8_childrenRate 17 = .ok (.getfield 88, 3) := by decide +kernel
theorem dX8_childrenRate_20 : decode cX8_childrenRate 20 = .ok (.iload 4, 2) := by decide +kernel
theorem dX8_childrenRate_22 : decode cX8_childrenRate 22 = .ok (.iaload, 1) := by decide +kernel
theorem dX8_childrenRate_23 : decode cX8_childrenRate 23 = .ok (.iload_n 2, 1) := by decide +kernel
theorem dX8_childrenRate_24 : decode cX8_childrenRate 24 = .ok (.if_icmp .ne 13, 3) := by decide +kernel
theorem dX8_childrenRate_27 : decode cX8_childrenRate 27 = .ok (.iload_n 3, 1) := by decide +kernel
theorem dX8_childrenRate_28 : decode cX8_childrenRate 28 = .ok (.aload_n 0, 1) := by decide +kernel
theorem dX8_childrenRate_29 : decode cX8_childrenRate 29 = .ok (.getfield 9, 3) := by decide +kernel
theorem dX8_childrenRate_32 : decode cX8_childrenRate 32 = .ok (.iload 4, 2) := by decide +kernel
theorem dX8_childrenRate_34 : decode cX8_childrenRate 34 = .ok (.iaload, 1) := by decide +kernel
theorem dX8_childrenRate_35 : decode cX8_childrenRate 35 = .ok (.iadd, 1) := by decide +kernel
theorem dX8_childrenRate_36 : decode cX8_childrenRate 36 = .ok (.istore_n 3, 1) := by decide +kernel
theorem dX8_childrenRate_37 : decode cX8_childrenRate 37 = .ok (.iinc 4 1, 3) := by decide +kernel
theorem dX8_childrenRate_40 : decode cX8_childrenRate 40 = .ok (.goto (-33), 3) := by decide +kernel
theorem dX8_childrenRate_43 : decode cX8_childrenRate 43 = .ok (.iload_n 3, 1) := by decide +kernel
theorem dX8_childrenRate_44 : decode cX8_childrenRate 44 = .ok (.ireturn, 1) := by decide +kernel
theorem dX8_leastCeiling_0 : decode cX8_leastCeiling 0 = .ok (.sipush 999, 3) := by decide +kernel
theorem dX8_leastCeiling_3 : decode cX8_leastCeiling 3 = .ok (.istore_n 3, 1) := by decide +kernel
theorem dX8_leastCeiling_4 : decode cX8_leastCeiling 4 = .ok (.iload_n 2, 1) := by decide +kernel
theorem dX8_leastCeiling_5 : decode cX8_leastCeiling 5 = .ok (.istore 4, 2) := by decide +kernel
theorem dX8_leastCeiling_7 : decode cX8_leastCeiling 7 = .ok (.iconst 0, 1) := by decide +kernel
theorem dX8_leastCeiling_8 : decode cX8_leastCeiling 8 = .ok (.istore 5, 2) := by decide +kernel
theorem dX8_leastCeiling_10 : decode cX8_leastCeiling 10 = .ok (.iload 5, 2) := by decide +kernel
theorem dX8_leastCeiling_12 : decode cX8_leastCeiling 12 = .ok (.bipush 12, 2) := by decide +kernel
theorem dX8_leastCeiling_14 : decode cX8_leastCeiling 14 = .ok (.if_icmp .ge 39, 3) := by decide +kernel
theorem dX8_leastCeiling_17 : decode cX8_leastCeiling 17 = .ok (.aload_n 1, 1) := by decide +kernel
theorem dX8_leastCeiling_18 : decode cX8_leastCeiling 18 = .ok (.iload 4, 2) := by decide +kernel
theorem dX8_leastCeiling_20 : decode cX8_leastCeiling 20 = .ok (.invokevirtual 91, 3) := by decide +kernel
theorem dX8_leastCeiling_23 : decode cX8_leastCeiling 23 = .ok (.ifCond .eq 30, 3) := by decide +kernel
theorem dX8_leastCeiling_26 : decode cX8_leastCeiling 26 = .ok (.iload_n 3, 1) := by decide +kernel
theorem dX8_leastCeiling_27 : decode cX8_leastCeiling 27 = .ok (.aload_n 0, 1) := by decide +kernel
theorem dX8_leastCeiling_28 : decode cX8_leastCeiling 28 = .ok (.getfield 15, 3) := by decide +kernel
theorem dX8_leastCeiling_31 : decode cX8_leastCeiling 31 = .ok (.iload 4, 2) := by decide +kernel
theorem dX8_leastCeiling_33 : decode cX8_leastCeiling 33 = .ok (.iaload, 1) := by decide +kernel
theorem dX8_leastCeiling_34 : decode cX8_leastCeiling 34 = .ok (.invokestatic 95, 3) := by decide +kernel
theorem dX8_leastCeiling_37 : decode cX8_leastCeiling 37 = .ok (.istore_n 3, 1) := by decide +kernel
theorem dX8_leastCeiling_38 : decode cX8_leastCeiling 38 = .ok (.aload_n 1, 1) := by decide +kernel
theorem dX8_leastCeiling_39 : decode cX8_leastCeiling 39 = .ok (.getfield 88, 3) := by decide +kernel
theorem dX8_leastCeiling_42 : decode cX8_leastCeiling 42 = .ok (.iload 4, 2) := by decide +kernel
theorem dX8_leastCeiling_44 : decode cX8_leastCeiling 44 = .ok (.iaload, 1) := by decide +kernel
theorem dX8_leastCeiling_45 : decode cX8_leastCeiling 45 = .ok (.istore 4, 2) := by decide +kernel
theorem dX8_leastCeiling_47 : decode cX8_leastCeiling 47 = .ok (.iinc 5 1, 3) := by decide +kernel
theorem dX8_leastCeiling_50 : decode cX8_leastCeiling 50 = .ok (.goto (-40), 3) := by decide +kernel
theorem dX8_leastCeiling_53 : decode cX8_leastCeiling 53 = .ok (.iload_n 3, 1) := by decide +kernel
theorem dX8_leastCeiling_54 : decode cX8_leastCeiling 54 = .ok (.ireturn, 1) := by decide +kernel
theorem dX8_send_0 : decode cX8_send 0 = .ok (.aload_n 1, 1) := by decide +kernel
theorem dX8_send_1 : decode cX8_send 1 = .ok (.iload_n 2, 1) := by decide +kernel
theorem dX8_send_2 : decode cX8_send 2 = .ok (.invokevirtual 91, 3) := by decide +kernel
theorem dX8_send_5 : decode cX8_send 5 = .ok (.ifCond .eq 11, 3) := by decide +kernel
theorem dX8_send_8 : decode cX8_send 8 = .ok (.aload_n 1, 1) := by decide +kernel
theorem dX8_send_9 : decode cX8_send 9 = .ok (.iload_n 3, 1) := by decide +kernel
theorem dX8_send_10 : decode cX8_send 10 = .ok (.invokevirtual 91, 3) := by decide +kernel
theorem dX8_send_13 : decode cX8_send 13 = .ok (.ifCond .ne 4, 3) := by decide +kernel
theorem dX8_send_16 : decode cX8_send 16 = .ok (.return_, 1) := by decide +kernel
theorem dX8_send_17 : decode cX8_send 17 = .ok (.aload_n 0, 1) := by decide +kernel
theorem dX8_send_18 : decode cX8_send 18 = .ok (.getfield 24, 3) := by decide +kernel
theorem dX8_send_21 : decode cX8_send 21 = .ok (.aload_n 1, 1) := by decide +kernel
theorem dX8_send_22 : decode cX8_send 22 = .ok (.iload_n 2, 1) := by decide +kernel
theorem dX8_send_23 : decode cX8_send 23 = .ok (.iload_n 3, 1) := by decide +kernel
theorem dX8_send_24 : decode cX8_send 24 = .ok (.iload 4, 2) := by decide +kernel
theorem dX8_send_26 : decode cX8_send 26 = .ok (.invokevirtual 101, 3) := by decide +kernel
theorem dX8_send_29 : decode cX8_send 29 = .ok (.aload_n 0, 1) := by decide +kernel
theorem dX8_send_30 : decode cX8_send 30 = .ok (.getfield 38, 3) := by decide +kernel
theorem dX8_send_33 : decode cX8_send 33 = .ok (.iload_n 2, 1) := by decide +kernel
theorem dX8_send_34 : decode cX8_send 34 = .ok (.iload_n 3, 1) := by decide +kernel
theorem dX8_send_35 : decode cX8_send 35 = .ok (.iload 4, 2) := by decide +kernel
theorem dX8_send_37 : decode cX8_send 37 = .ok (.invokevirtual 105, 3) := by decide +kernel
theorem dX8_send_40 : decode cX8_send 40 = .ok (.aload_n 0, 1) := by decide +kernel
theorem dX8_send_41 : decode cX8_send 41 = .ok (.getfield 45, 3) := by decide +kernel
theorem dX8_send_44 : decode cX8_send 44 = .ok (.iload_n 2, 1) := by decide +kernel
theorem dX8_send_45 : decode cX8_send 45 = .ok (.iload 4, 2) := by decide +kernel
theorem dX8_send_47 : decode cX8_send 47 = .ok (.iload_n 3, 1) := by decide +kernel
theorem dX8_send_48 : decode cX8_send 48 = .ok (.aload_n 0, 1) := by decide +kernel
theorem dX8_send_49 : decode cX8_send 49 = .ok (.getfield 49, 3) := by decide +kernel
theorem dX8_send_52 : decode cX8_send 52 = .ok (.invokevirtual 109, 3) := by decide +kernel
theorem dX8_send_55 : decode cX8_send 55 = .ok (.return_, 1) := by decide +kernel
theorem dX8_ticksUntilLender_0 : decode cX8_ticksUntilLender 0 = .ok (.iconst 0, 1) := by decide +kernel
theorem dX8_ticksUntilLender_1 : decode cX8_ticksUntilLender 1 = .ok (.istore 4, 2) := by decide +kernel
theorem dX8_ticksUntilLender_3 : decode cX8_ticksUntilLender 3 = .ok (.sipush 1001, 3) := by decide +kernel
theorem dX8_ticksUntilLender_6 : decode cX8_ticksUntilLender 6 = .ok (.istore 5, 2) := by decide +kernel
theorem dX8_ticksUntilLender_8 : decode cX8_ticksUntilLender 8 = .ok (.iconst 1, 1) := by decide +kernel
theorem dX8_ticksUntilLender_9 : decode cX8_ticksUntilLender 9 = .ok (.istore 6, 2) := by decide +kernel
theorem dX8_ticksUntilLender_11 : decode cX8_ticksUntilLender 11 = .ok (.iload_n 2, 1) := by decide +kernel
theorem dX8_ticksUntilLender_12 : decode cX8_ticksUntilLender 12 = .ok (.istore 7, 2) := by decide +kernel
theorem dX8_ticksUntilLender_14 : decode cX8_ticksUntilLender 14 = .ok (.iconst 0, 1) := by decide +kernel
theorem dX8_ticksUntilLender_15 : decode cX8_ticksUntilLender 15 = .ok (.istore 8, 2) := by decide +kernel
theorem dX8_ticksUntilLender_17 : decode cX8_ticksUntilLender 17 = .ok (.iload 8, 2) := by decide +kernel
theorem dX8_ticksUntilLender_19 : decode cX8_ticksUntilLender 19 = .ok (.bipush 12, 2) := by decide +kernel
theorem dX8_ticksUntilLender_21 : decode cX8_ticksUntilLender 21 = .ok (.if_icmp .ge 149, 3) := by decide +kernel
theorem dX8_ticksUntilLender_24 : decode cX8_ticksUntilLender 24 = .ok (.aload_n 1, 1) := by decide +kernel
theorem dX8_ticksUntilLender_25 : decode cX8_ticksUntilLender 25 = .ok (.iload 7, 2) := by decide +kernel
theorem dX8_ticksUntilLender_27 : decode cX8_ticksUntilLender 27 = .ok (.invokevirtual 91, 3) := by decide +kernel
theorem dX8_ticksUntilLender_30 : decode cX8_ticksUntilLender 30 = .ok (.ifCond .eq 140, 3) := by decide +kernel
theorem dX8_ticksUntilLender_33 : decode cX8_ticksUntilLender 33 = .ok (.aload_n 1, 1) := by decide +kernel
theorem dX8_ticksUntilLender_34 : decode cX8_ticksUntilLender 34 = .ok (.getfield 123, 3) := by decide +kernel
theorem dX8_ticksUntilLender_37 : decode cX8_ticksUntilLender 37 = .ok (.iload 7, 2) := by decide +kernel
theorem dX8_ticksUntilLender_39 : decode cX8_ticksUntilLender 39 = .ok (.iaload, 1) := by decide +kernel
theorem dX8_ticksUntilLender_40 : decode cX8_ticksUntilLender 40 = .ok (.istore 9, 2) := by decide +kernel
theorem dX8_ticksUntilLender_42 : decode cX8_ticksUntilLender 42 = .ok (.iload_n 3, 1) := by decide +kernel
theorem dX8_ticksUntilLender_43 : decode cX8_ticksUntilLender 43 = .ok (.aload_n 0, 1) := by decide +kernel
theorem dX8_ticksUntilLender_44 : decode cX8_ticksUntilLender 44 = .ok (.getfield 24, 3) := by decide +kernel
theorem dX8_ticksUntilLender_47 : decode cX8_ticksUntilLender 47 = .ok (.getfield 126, 3) := by decide +kernel
theorem dX8_ticksUntilLender_50 : decode cX8_ticksUntilLender 50 = .ok (.iload 7, 2) := by decide +kernel
theorem dX8_ticksUntilLender_52 : decode cX8_ticksUntilLender 52 = .ok (.iaload, 1) := by decide +kernel
theorem dX8_ticksUntilLender_53 : decode cX8_ticksUntilLender 53 = .ok (.aload_n 0, 1) := by decide +kernel
theorem dX8_ticksUntilLender_54 : decode cX8_ticksUntilLender 54 = .ok (.getfield 15, 3) := by decide +kernel
theorem dX8_ticksUntilLender_57 : decode cX8_ticksUntilLender 57 = .ok (.iload 7, 2) := by decide +kernel
theorem dX8_ticksUntilLender_59 : decode cX8_ticksUntilLender 59 = .ok (.iaload, 1) := by decide +kernel
theorem dX8_ticksUntilLender_60 : decode cX8_ticksUntilLender 60 = .ok (.iload 9, 2) := by decide +kernel
theorem dX8_ticksUntilLender_62 : decode cX8_ticksUntilLender 62 = .ok (.invokestatic 129, 3) := by decide +kernel
theorem dX8_ticksUntilLender_65 : decode cX8_ticksUntilLender 65 = .ok (.istore 10, 2) := by decide +kernel
theorem dX8_ticksUntilLender_67 : decode cX8_ticksUntilLender 67 = .ok (.iload 4, 2) := by decide +kernel
theorem dX8_ticksUntilLender_69 : decode cX8_ticksUntilLender 69 = .ok (.iload 10, 2) := by decide +kernel
theorem dX8_ticksUntilLender_71 : decode cX8_ticksUntilLender 71 = .ok (.invokestatic 133, 3) := by decide +kernel
theorem dX8_ticksUntilLender_74 : decode cX8_ticksUntilLender 74 = .ok (.istore 4, 2) := by decide +kernel
theorem dX8_ticksUntilLender_76 : decode cX8_ticksUntilLender 76 = .ok (.iload 6, 2) := by decide +kernel
theorem dX8_ticksUntilLender_78 : decode cX8_ticksUntilLender 78 = .ok (.ifCond .eq 77, 3) := by decide +kernel
theorem dX8_ticksUntilLender_81 : decode cX8_ticksUntilLender 81 = .ok (.aload_n 0, 1) := by decide +kernel
theorem dX8_ticksUntilLender_82 : decode cX8_ticksUntilLender 82 = .ok (.getfield 24, 3) := by decide +kernel
theorem dX8_ticksUntilLender_85 : decode cX8_ticksUntilLender 85 = .ok (.getfield 136, 3) := by decide +kernel
theorem dX8_ticksUntilLender_88 : decode cX8_ticksUntilLender 88 = .ok (.iload 7, 2) := by decide +kernel
theorem dX8_ticksUntilLender_90 : decode cX8_ticksUntilLender 90 = .ok (.iaload, 1) := by decide +kernel
theorem dX8_ticksUntilLender_91 : decode cX8_ticksUntilLender 91 = .ok (.aload_n 0, 1) := by decide +kernel
theorem dX8_ticksUntilLender_92 : decode cX8_ticksUntilLender 92 = .ok (.getfield 24, 3) := by decide +kernel
theorem dX8_ticksUntilLender_95 : decode cX8_ticksUntilLender 95 = .ok (.getfield 139, 3) := by decide +kernel
theorem dX8_ticksUntilLender_98 : decode cX8_ticksUntilLender 98 = .ok (.iload 7, 2) := by decide +kernel
theorem dX8_ticksUntilLender_100 : decode cX8_ticksUntilLender 100 = .ok (.iaload, 1) := by decide +kernel
theorem dX8_ticksUntilLender_101 : decode cX8_ticksUntilLender 101 = .ok (.iadd, 1) := by decide +kernel
theorem dX8_ticksUntilLender_102 : decode cX8_ticksUntilLender 102 = .ok (.istore 11, 2) := by decide +kernel
theorem dX8_ticksUntilLender_104 : decode cX8_ticksUntilLender 104 = .ok (.iload_n 3, 1) := by decide +kernel
theorem dX8_ticksUntilLender_105 : decode cX8_ticksUntilLender 105 = .ok (.iload 11, 2) := by decide +kernel
theorem dX8_ticksUntilLender_107 : decode cX8_ticksUntilLender 107 = .ok (.aload_n 0, 1) := by decide +kernel
theorem dX8_ticksUntilLender_108 : decode cX8_ticksUntilLender 108 = .ok (.getfield 9, 3) := by decide +kernel
theorem dX8_ticksUntilLender_111 : decode cX8_ticksUntilLender 111 = .ok (.iload 7, 2) := by decide +kernel
theorem dX8_ticksUntilLender_113 : decode cX8_ticksUntilLender 113 = .ok (.iaload, 1) := by decide +kernel
theorem dX8_ticksUntilLender_114 : decode cX8_ticksUntilLender 114 = .ok (.iload 9, 2) := by decide +kernel
theorem dX8_ticksUntilLender_116 : decode cX8_ticksUntilLender 116 = .ok (.aload_n 1, 1) := by decide +kernel
theorem dX8_ticksUntilLender_117 : decode cX8_ticksUntilLender 117 = .ok (.getfield 142, 3) := by decide +kernel
theorem dX8_ticksUntilLender_120 : decode cX8_ticksUntilLender 120 = .ok (.iload 7, 2) := by decide +kernel
theorem dX8_ticksUntilLender_122 : decode cX8_ticksUntilLender 122 = .ok (.iaload, 1) := by decide +kernel
theorem dX8_ticksUntilLender_123 : decode cX8_ticksUntilLender 123 = .ok (.iadd, 1) := by decide +kernel
theorem dX8_ticksUntilLender_124 : decode cX8_ticksUntilLender 124 = .ok (.invokestatic 129, 3) := by decide +kernel
theorem dX8_ticksUntilLender_127 : decode cX8_ticksUntilLender 127 = .ok (.istore 12, 2) := by decide +kernel
theorem dX8_ticksUntilLender_129 : decode cX8_ticksUntilLender 129 = .ok (.iload 5, 2) := by decide +kernel
theorem dX8_ticksUntilLender_131 : decode cX8_ticksUntilLender 131 = .ok (.iload 12, 2) := by decide +kernel
theorem dX8_ticksUntilLender_133 : decode cX8_ticksUntilLender 133 = .ok (.invokestatic 95, 3) := by decide +kernel
theorem dX8_ticksUntilLender_136 : decode cX8_ticksUntilLender 136 = .ok (.istore 5, 2) := by decide +kernel
theorem dX8_ticksUntilLender_138 : decode cX8_ticksUntilLender 138 = .ok (.aload_n 1, 1) := by decide +kernel
theorem dX8_ticksUntilLender_139 : decode cX8_ticksUntilLender 139 = .ok (.getfield 145, 3) := by decide +kernel
theorem dX8_ticksUntilLender_142 : decode cX8_ticksUntilLender 142 = .ok (.iload 7, 2) := by decide +kernel
theorem dX8_ticksUntilLender_144 : decode cX8_ticksUntilLender 144 = .ok (.baload, 1) := by decide +kernel
theorem dX8_ticksUntilLender_145 : decode cX8_ticksUntilLender 145 = .ok (.ifCond .ne 7, 3) := by decide +kernel
theorem dX8_ticksUntilLender_148 : decode cX8_ticksUntilLender 148 = .ok (.iconst 1, 1) := by decide +kernel
theorem dX8_ticksUntilLender_149 : decode cX8_ticksUntilLender 149 = .ok (.goto 4, 3) := by decide +kernel
theorem dX8_ticksUntilLender_152 : decode cX8_ticksUntilLender 152 = .ok (.iconst 0, 1) := by decide +kernel
theorem dX8_ticksUntilLender_153 : decode cX8_ticksUntilLender 153 = .ok (.istore 6, 2) := by decide +kernel
theorem dX8_ticksUntilLender_155 : decode cX8_ticksUntilLender 155 = .ok (.aload_n 1, 1) := by decide +kernel
theorem dX8_ticksUntilLender_156 : decode cX8_ticksUntilLender 156 = .ok (.getfield 88, 3) := by decide +kernel
theorem dX8_ticksUntilLender_159 : decode cX8_ticksUntilLender 159 = .ok (.iload 7, 2) := by decide +kernel
theorem dX8_ticksUntilLender_161 : decode cX8_ticksUntilLender 161 = .ok (.iaload, 1) := by decide +kernel
theorem dX8_ticksUntilLender_162 : decode cX8_ticksUntilLender 162 = .ok (.istore 7, 2) := by decide +kernel
theorem dX8_ticksUntilLender_164 : decode cX8_ticksUntilLender 164 = .ok (.iinc 8 1, 3) := by decide +kernel
theorem dX8_ticksUntilLender_167 : decode cX8_ticksUntilLender 167 = .ok (.goto (-150), 3) := by decide +kernel
theorem dX8_ticksUntilLender_170 : decode cX8_ticksUntilLender 170 = .ok (.iload 4, 2) := by decide +kernel
theorem dX8_ticksUntilLender_172 : decode cX8_ticksUntilLender 172 = .ok (.iload 5, 2) := by decide +kernel
theorem dX8_ticksUntilLender_174 : decode cX8_ticksUntilLender 174 = .ok (.invokestatic 133, 3) := by decide +kernel
theorem dX8_ticksUntilLender_177 : decode cX8_ticksUntilLender 177 = .ok (.istore 8, 2) := by decide +kernel
theorem dX8_ticksUntilLender_179 : decode cX8_ticksUntilLender 179 = .ok (.iload 8, 2) := by decide +kernel
theorem dX8_ticksUntilLender_181 : decode cX8_ticksUntilLender 181 = .ok (.sipush 1000, 3) := by decide +kernel
theorem dX8_ticksUntilLender_184 : decode cX8_ticksUntilLender 184 = .ok (.if_icmp .gt 8, 3) := by decide +kernel
theorem dX8_ticksUntilLender_187 : decode cX8_ticksUntilLender 187 = .ok (.iload 8, 2) := by decide +kernel
theorem dX8_ticksUntilLender_189 : decode cX8_ticksUntilLender 189 = .ok (.goto 5, 3) := by decide +kernel
theorem dX8_ticksUntilLender_192 : decode cX8_ticksUntilLender 192 = .ok (.bipush (-2), 2) := by decide +kernel
theorem dX8_ticksUntilLender_194 : decode cX8_ticksUntilLender 194 = .ok (.ireturn, 1) := by decide +kernel
theorem dX8_ticksUntil_0 : decode cX8_ticksUntil 0 = .ok (.iload_n 1, 1) := by decide +kernel
theorem dX8_ticksUntil_1 : decode cX8_ticksUntil 1 = .ok (.iload_n 0, 1) := by decide +kernel
theorem dX8_ticksUntil_2 : decode cX8_ticksUntil 2 = .ok (.if_icmp .lt 5, 3) := by decide +kernel
theorem dX8_ticksUntil_5 : decode cX8_ticksUntil 5 = .ok (.iconst 0, 1) := by decide +kernel
theorem dX8_ticksUntil_6 : decode cX8_ticksUntil 6 = .ok (.ireturn, 1) := by decide +kernel
theorem dX8_ticksUntil_7 : decode cX8_ticksUntil 7 = .ok (.iload_n 2, 1) := by decide +kernel
theorem dX8_ticksUntil_8 : decode cX8_ticksUntil 8 = .ok (.iconst 1, 1) := by decide +kernel
theorem dX8_ticksUntil_9 : decode cX8_ticksUntil 9 = .ok (.if_icmp .lt 8, 3) := by decide +kernel
theorem dX8_ticksUntil_12 : decode cX8_ticksUntil 12 = .ok (.iload_n 3, 1) := by decide +kernel
theorem dX8_ticksUntil_13 : decode cX8_ticksUntil 13 = .ok (.iload_n 0, 1) := by decide +kernel
theorem dX8_ticksUntil_14 : decode cX8_ticksUntil 14 = .ok (.if_icmp .ge 7, 3) := by decide +kernel
theorem dX8_ticksUntil_17 : decode cX8_ticksUntil 17 = .ok (.sipush 1001, 3) := by decide +kernel
theorem dX8_ticksUntil_20 : decode cX8_ticksUntil 20 = .ok (.ireturn, 1) := by decide +kernel
theorem dX8_ticksUntil_21 : decode cX8_ticksUntil 21 = .ok (.iload_n 0, 1) := by decide +kernel
theorem dX8_ticksUntil_22 : decode cX8_ticksUntil 22 = .ok (.iload_n 1, 1) := by decide +kernel
theorem dX8_ticksUntil_23 : decode cX8_ticksUntil 23 = .ok (.isub, 1) := by decide +kernel
theorem dX8_ticksUntil_24 : decode cX8_ticksUntil 24 = .ok (.iload_n 2, 1) := by decide +kernel
theorem dX8_ticksUntil_25 : decode cX8_ticksUntil 25 = .ok (.iadd, 1) := by decide +kernel
theorem dX8_ticksUntil_26 : decode cX8_ticksUntil 26 = .ok (.iconst 1, 1) := by decide +kernel
theorem dX8_ticksUntil_27 : decode cX8_ticksUntil 27 = .ok (.isub, 1) := by decide +kernel
theorem dX8_ticksUntil_28 : decode cX8_ticksUntil 28 = .ok (.iload_n 2, 1) := by decide +kernel
theorem dX8_ticksUntil_29 : decode cX8_ticksUntil 29 = .ok (.idiv, 1) := by decide +kernel
theorem dX8_ticksUntil_30 : decode cX8_ticksUntil 30 = .ok (.ireturn, 1) := by decide +kernel
theorem dX8_makeTicks_0 : decode cX8_makeTicks 0 = .ok (.iconst 0, 1) := by decide +kernel
theorem dX8_makeTicks_1 : decode cX8_makeTicks 1 = .ok (.istore_n 3, 1) := by decide +kernel
theorem dX8_makeTicks_2 : decode cX8_makeTicks 2 = .ok (.iconst 0, 1) := by decide +kernel
theorem dX8_makeTicks_3 : decode cX8_makeTicks 3 = .ok (.istore 4, 2) := by decide +kernel
theorem dX8_makeTicks_5 : decode cX8_makeTicks 5 = .ok (.iload 4, 2) := by decide +kernel
theorem dX8_makeTicks_7 : decode cX8_makeTicks 7 = .ok (.iload_n 2, 1) := by decide +kernel
theorem dX8_makeTicks_8 : decode cX8_makeTicks 8 = .ok (.if_icmp .ge 17, 3) := by decide +kernel
theorem dX8_makeTicks_11 : decode cX8_makeTicks 11 = .ok (.iload_n 3, 1) := by decide +kernel
theorem dX8_makeTicks_12 : decode cX8_makeTicks 12 = .ok (.aload_n 0, 1) := by decide +kernel
theorem dX8_makeTicks_13 : decode cX8_makeTicks 13 = .ok (.aload_n 1, 1) := by decide +kernel
theorem dX8_makeTicks_14 : decode cX8_makeTicks 14 = .ok (.invokevirtual 149, 3) := by decide +kernel
theorem dX8_makeTicks_17 : decode cX8_makeTicks 17 = .ok (.iadd, 1) := by decide +kernel
theorem dX8_makeTicks_18 : decode cX8_makeTicks 18 = .ok (.istore_n 3, 1) := by decide +kernel
theorem dX8_makeTicks_19 : decode cX8_makeTicks 19 = .ok (.iinc 4 1, 3) := by decide +kernel
theorem dX8_makeTicks_22 : decode cX8_makeTicks 22 = .ok (.goto (-17), 3) := by decide +kernel
theorem dX8_makeTicks_25 : decode cX8_makeTicks 25 = .ok (.iload_n 3, 1) := by decide +kernel
theorem dX8_makeTicks_26 : decode cX8_makeTicks 26 = .ok (.ireturn, 1) := by decide +kernel
theorem dX8_makeTick_0 : decode cX8_makeTick 0 = .ok (.aload_n 0, 1) := by decide +kernel
theorem dX8_makeTick_1 : decode cX8_makeTick 1 = .ok (.dup, 1) := by decide +kernel
theorem dX8_makeTick_2 : decode cX8_makeTick 2 = .ok (.getfield 49, 3) := by decide +kernel
theorem dX8_makeTick_5 : decode cX8_makeTick 5 = .ok (.iconst 1, 1) := by decide +kernel
theorem dX8_makeTick_6 : decode cX8_makeTick 6 = .ok (.iadd, 1) := by decide +kernel
theorem dX8_makeTick_7 : decode cX8_makeTick 7 = .ok (.putfield 49, 3) := by decide +kernel
theorem dX8_makeTick_10 : decode cX8_makeTick 10 = .ok (.aload_n 0, 1) := by decide +kernel
theorem dX8_makeTick_11 : decode cX8_makeTick 11 = .ok (.aload_n 1, 1) := by decide +kernel
theorem dX8_makeTick_12 : decode cX8_makeTick 12 = .ok (.invokevirtual 153, 3) := by decide +kernel
theorem dX8_makeTick_15 : decode cX8_makeTick 15 = .ok (.iconst 0, 1) := by decide +kernel
theorem dX8_makeTick_16 : decode cX8_makeTick 16 = .ok (.istore_n 2, 1) := by decide +kernel
theorem dX8_makeTick_17 : decode cX8_makeTick 17 = .ok (.iload_n 2, 1) := by decide +kernel
theorem dX8_makeTick_18 : decode cX8_makeTick 18 = .ok (.aload_n 1, 1) := by decide +kernel
theorem dX8_makeTick_19 : decode cX8_makeTick 19 = .ok (.getfield 85, 3) := by decide +kernel
theorem dX8_makeTick_22 : decode cX8_makeTick 22 = .ok (.if_icmp .ge 30, 3) := by decide +kernel
theorem dX8_makeTick_25 : decode cX8_makeTick 25 = .ok (.aload_n 0, 1) := by decide +kernel
theorem dX8_makeTick_26 : decode cX8_makeTick 26 = .ok (.getfield 24, 3) := by decide +kernel
theorem dX8_makeTick_29 : decode cX8_makeTick 29 = .ok (.aload_n 1, 1) := by decide +kernel
theorem dX8_makeTick_30 : decode cX8_makeTick 30 = .ok (.iload_n 2, 1) := by decide +kernel
theorem dX8_makeTick_31 : decode cX8_makeTick 31 = .ok (.aload_n 0, 1) := by decide +kernel
theorem dX8_makeTick_32 : decode cX8_makeTick 32 = .ok (.getfield 9, 3) := by decide +kernel
theorem dX8_makeTick_35 : decode cX8_makeTick 35 = .ok (.iload_n 2, 1) := by decide +kernel
theorem dX8_makeTick_36 : decode cX8_makeTick 36 = .ok (.iaload, 1) := by decide +kernel
theorem dX8_makeTick_37 : decode cX8_makeTick 37 = .ok (.aload_n 0, 1) := by decide +kernel
theorem dX8_makeTick_38 : decode cX8_makeTick 38 = .ok (.getfield 15, 3) := by decide +kernel
theorem dX8_makeTick_41 : decode cX8_makeTick 41 = .ok (.iload_n 2, 1) := by decide +kernel
theorem dX8_makeTick_42 : decode cX8_makeTick 42 = .ok (.iaload, 1) := by decide +kernel
theorem dX8_makeTick_43 : decode cX8_makeTick 43 = .ok (.invokevirtual 156, 3) := by decide +kernel
theorem dX8_makeTick_46 : decode cX8_makeTick 46 = .ok (.iinc 2 1, 3) := by decide +kernel
theorem dX8_makeTick_49 : decode cX8_makeTick 49 = .ok (.goto (-32), 3) := by decide +kernel
theorem dX8_makeTick_52 : decode cX8_makeTick 52 = .ok (.aload_n 0, 1) := by decide +kernel
theorem dX8_makeTick_53 : decode cX8_makeTick 53 = .ok (.aload_n 1, 1) := by decide +kernel
theorem dX8_makeTick_54 : decode cX8_makeTick 54 = .ok (.invokevirtual 159, 3) := by decide +kernel
theorem dX8_makeTick_57 : decode cX8_makeTick 57 = .ok (.aload_n 0, 1) := by decide +kernel
theorem dX8_makeTick_58 : decode cX8_makeTick 58 = .ok (.aload_n 1, 1) := by decide +kernel
theorem dX8_makeTick_59 : decode cX8_makeTick 59 = .ok (.invokevirtual 162, 3) := by decide +kernel
theorem dX8_makeTick_62 : decode cX8_makeTick 62 = .ok (.ireturn, 1) := by decide +kernel
theorem dX8_makeChanges_0 : decode cX8_makeChanges 0 = .ok (.aload_n 1, 1) := by decide +kernel
theorem dX8_makeChanges_1 : decode cX8_makeChanges 1 = .ok (.getfield 165, 3) := by decide +kernel
theorem dX8_makeChanges_4 : decode cX8_makeChanges 4 = .ok (.astore_n 2, 1) := by decide +kernel
theorem dX8_makeChanges_5 : decode cX8_makeChanges 5 = .ok (.iconst 0, 1) := by decide +kernel
theorem dX8_makeChanges_6 : decode cX8_makeChanges 6 = .ok (.istore_n 3, 1) := by decide +kernel
theorem dX8_makeChanges_7 : decode cX8_makeChanges 7 = .ok (.iload_n 3, 1) := by decide +kernel
theorem dX8_makeChanges_8 : decode cX8_makeChanges 8 = .ok (.aload_n 2, 1) := by decide +kernel
theorem dX8_makeChanges_9 : decode cX8_makeChanges 9 = .ok (.getfield 169, 3) := by decide +kernel
theorem dX8_makeChanges_12 : decode cX8_makeChanges 12 = .ok (.if_icmp .ge 58, 3) := by decide +kernel
theorem dX8_makeChanges_15 : decode cX8_makeChanges 15 = .ok (.aload_n 2, 1) := by decide +kernel
theorem dX8_makeChanges_16 : decode cX8_makeChanges 16 = .ok (.getfield 172, 3) := by decide +kernel
theorem dX8_makeChanges_19 : decode cX8_makeChanges 19 = .ok (.iload_n 3, 1) := by decide +kernel
theorem dX8_makeChanges_20 : decode cX8_makeChanges 20 = .ok (.iaload, 1) := by decide +kernel
theorem dX8_makeChanges_21 : decode cX8_makeChanges 21 = .ok (.aload_n 0, 1) := by decide +kernel
theorem dX8_makeChanges_22 : decode cX8_makeChanges 22 = .ok (.getfield 49, 3) := by decide +kernel
theorem dX8_makeChanges_25 : decode cX8_makeChanges 25 = .ok (.if_icmp .ne 39, 3) := by decide +kernel
theorem dX8_makeChanges_28 : decode cX8_makeChanges 28 = .ok (.aload_n 1, 1) := by decide +kernel
theorem dX8_makeChanges_29 : decode cX8_makeChanges 29 = .ok (.aload_n 2, 1) := by decide +kernel
theorem dX8_makeChanges_30 : decode cX8_makeChanges 30 = .ok (.getfield 174, 3) := by decide +kernel
theorem dX8_makeChanges_33 : decode cX8_makeChanges 33 = .ok (.iload_n 3, 1) := by decide +kernel
theorem dX8_makeChanges_34 : decode cX8_makeChanges 34 = .ok (.iaload, 1) := by decide +kernel
theorem dX8_makeChanges_35 : decode cX8_makeChanges 35 = .ok (.invokevirtual 91, 3) := by decide +kernel
theorem dX8_makeChanges_38 : decode cX8_makeChanges 38 = .ok (.ifCond .eq 26, 3) := by decide +kernel
theorem dX8_makeChanges_41 : decode cX8_makeChanges 41 = .ok (.aload_n 0, 1) := by decide +kernel
theorem dX8_makeChanges_42 : decode cX8_makeChanges 42 = .ok (.aload_n 2, 1) := by decide +kernel
theorem dX8_makeChanges_43 : decode cX8_makeChanges 43 = .ok (.getfield 177, 3) := by decide +kernel
theorem dX8_makeChanges_46 : decode cX8_makeChanges 46 = .ok (.iload_n 3, 1) := by decide +kernel
theorem dX8_makeChanges_47 : decode cX8_makeChanges 47 = .ok (.iaload, 1) := by decide +kernel
theorem dX8_makeChanges_48 : decode cX8_makeChanges 48 = .ok (.invokevirtual 180, 3) := by decide +kernel
theorem dX8_makeChanges_51 : decode cX8_makeChanges 51 = .ok (.aload_n 2, 1) := by decide +kernel
theorem dX8_makeChanges_52 : decode cX8_makeChanges 52 = .ok (.getfield 174, 3) := by decide +kernel
theorem dX8_makeChanges_55 : decode cX8_makeChanges 55 = .ok (.iload_n 3, 1) := by decide +kernel
theorem dX8_makeChanges_56 : decode cX8_makeChanges 56 = .ok (.iaload, 1) := by decide +kernel
theorem dX8_makeChanges_57 : decode cX8_makeChanges 57 = .ok (.aload_n 2, 1) := by decide +kernel
theorem dX8_makeChanges_58 : decode cX8_makeChanges 58 = .ok (.getfield 184, 3) := by decide +kernel
theorem dX8_makeChanges_61 : decode cX8_makeChanges 61 = .ok (.iload_n 3, 1) := by decide +kernel
theorem dX8_makeChanges_62 : decode cX8_makeChanges 62 = .ok (.iaload, 1) := by decide +kernel
theorem dX8_makeChanges_63 : decode cX8_makeChanges 63 = .ok (.iastore, 1) := by decide +kernel
theorem dX8_makeChanges_64 : decode cX8_makeChanges 64 = .ok (.iinc 3 1, 3) := by decide +kernel
theorem dX8_makeChanges_67 : decode cX8_makeChanges 67 = .ok (.goto (-60), 3) := by decide +kernel
theorem dX8_makeChanges_70 : decode cX8_makeChanges 70 = .ok (.return_, 1) := by decide +kernel
theorem dX8_dropOld_0 : decode cX8_dropOld 0 = .ok (.aload_n 1, 1) := by decide +kernel
theorem dX8_dropOld_1 : decode cX8_dropOld 1 = .ok (.getfield 187, 3) := by decide +kernel
theorem dX8_dropOld_4 : decode cX8_dropOld 4 = .ok (.iconst (-1), 1) := by decide +kernel
theorem dX8_dropOld_5 : decode cX8_dropOld 5 = .ok (.if_icmp .ne 4, 3) := by decide +kernel
theorem dX8_dropOld_8 : decode cX8_dropOld 8 = .ok (.return_, 1) := by decide +kernel
theorem dX8_dropOld_9 : decode cX8_dropOld 9 = .ok (.iconst 0, 1) := by decide +kernel
theorem dX8_dropOld_10 : decode cX8_dropOld 10 = .ok (.istore_n 2, 1) := by decide +kernel
theorem dX8_dropOld_11 : decode cX8_dropOld 11 = .ok (.iload_n 2, 1) := by decide +kernel
theorem dX8_dropOld_12 : decode cX8_dropOld 12 = .ok (.aload_n 1, 1) := by decide +kernel
theorem dX8_dropOld_13 : decode cX8_dropOld 13 = .ok (.getfield 85, 3) := by decide +kernel
theorem dX8_dropOld_16 : decode cX8_dropOld 16 = .ok (.if_icmp .ge 56, 3) := by decide +kernel
theorem dX8_dropOld_19 : decode cX8_dropOld 19 = .ok (.iconst 0, 1) := by decide +kernel
theorem dX8_dropOld_20 : decode cX8_dropOld 20 = .ok (.istore_n 3, 1) := by decide +kernel
theorem dX8_dropOld_21 : decode cX8_dropOld 21 = .ok (.iload_n 3, 1) := by decide +kernel
theorem dX8_dropOld_22 : decode cX8_dropOld 22 = .ok (.bipush 16, 2) := by decide +kernel
theorem dX8_dropOld_24 : decode cX8_dropOld 24 = .ok (.if_icmp .ge 42, 3) := by decide +kernel
theorem dX8_dropOld_27 : decode cX8_dropOld 27 = .ok (.aload_n 0, 1) := by decide +kernel
theorem dX8_dropOld_28 : decode cX8_dropOld 28 = .ok (.iload_n 2, 1) := by decide +kernel
end
section
theorem dX8_dropOld_29 : decode cX8_dropOld 29 = .ok (.aload_n 1, 1) := by decide +kernel
theorem dX8_dropOld_30 : decode cX8_dropOld 30 = .ok (.getfield 187, 3) := by decide +kernel
theorem dX8_dropOld_33 : decode cX8_dropOld 33 = .ok (.invokevirtual 190, 3) := by decide +kernel
theorem dX8_dropOld_36 : decode cX8_dropOld 36 = .ok (.ifCond .eq 30, 3) := by decide +kernel
theorem dX8_dropOld_39 : decode cX8_dropOld 39 = .ok (.aload_n 0, 1) := by decide +kernel
theorem dX8_dropOld_40 : decode cX8_dropOld 40 = .ok (.getfield 31, 3) := by decide +kernel
theorem dX8_dropOld_43 : decode cX8_dropOld 43 = .ok (.iload_n 2, 1) := by decide +kernel
theorem dX8_dropOld_44 : decode cX8_dropOld 44 = .ok (.invokevirtual 194, 3) := by decide +kernel
theorem dX8_dropOld_47 : decode cX8_dropOld 47 = .ok (.aload_n 0, 1) := by decide +kernel
theorem dX8_dropOld_48 : decode cX8_dropOld 48 = .ok (.getfield 38, 3) := by decide +kernel
theorem dX8_dropOld_51 : decode cX8_dropOld 51 = .ok (.getfield 116, 3) := by decide +kernel
theorem dX8_dropOld_54 : decode cX8_dropOld 54 = .ok (.iload_n 2, 1) := by decide +kernel
theorem dX8_dropOld_55 : decode cX8_dropOld 55 = .ok (.dup2, 1) := by decide +kernel
theorem dX8_dropOld_56 : decode cX8_dropOld 56 = .ok (.iaload, 1) := by decide +kernel
theorem dX8_dropOld_57 : decode cX8_dropOld 57 = .ok (.iconst 1, 1) := by decide +kernel
theorem dX8_dropOld_58 : decode cX8_dropOld 58 = .ok (.iadd, 1) := by decide +kernel
theorem dX8_dropOld_59 : decode cX8_dropOld 59 = .ok (.iastore, 1) := by decide +kernel
theorem dX8_dropOld_60 : decode cX8_dropOld 60 = .ok (.iinc 3 1, 3) := by decide +kernel
theorem dX8_dropOld_63 : decode cX8_dropOld 63 = .ok (.goto (-42), 3) := by decide +kernel
theorem dX8_dropOld_66 : decode cX8_dropOld 66 = .ok (.iinc 2 1, 3) := by decide +kernel
theorem dX8_dropOld_69 : decode cX8_dropOld 69 = .ok (.goto (-58), 3) := by decide +kernel
theorem dX8_dropOld_72 : decode cX8_dropOld 72 = .ok (.return_, 1) := by decide +kernel
theorem dX8_isFrontOld_0 : decode cX8_isFrontOld 0 = .ok (.aload_n 0, 1) := by decide +kernel
theorem dX8_isFrontOld_1 : decode cX8_isFrontOld 1 = .ok (.getfield 31, 3) := by decide +kernel
theorem dX8_isFrontOld_4 : decode cX8_isFrontOld 4 = .ok (.getfield 198, 3) := by decide +kernel
theorem dX8_isFrontOld_7 : decode cX8_isFrontOld 7 = .ok (.iload_n 1, 1) := by decide +kernel
theorem dX8_isFrontOld_8 : decode cX8_isFrontOld 8 = .ok (.iaload, 1) := by decide +kernel
theorem dX8_isFrontOld_9 : decode cX8_isFrontOld 9 = .ok (.ifCond .le 28, 3) := by decide +kernel
theorem dX8_isFrontOld_12 : decode cX8_isFrontOld 12 = .ok (.aload_n 0, 1) := by decide +kernel
theorem dX8_isFrontOld_13 : decode cX8_isFrontOld 13 = .ok (.getfield 49, 3) := by decide +kernel
theorem dX8_isFrontOld_16 : decode cX8_isFrontOld 16 = .ok (.aload_n 0, 1) := by decide +kernel
theorem dX8_isFrontOld_17 : decode cX8_isFrontOld 17 = .ok (.getfield 31, 3) := by decide +kernel
theorem dX8_isFrontOld_20 : decode cX8_isFrontOld 20 = .ok (.getfield 201, 3) := by decide +kernel
theorem dX8_isFrontOld_23 : decode cX8_isFrontOld 23 = .ok (.iload_n 1, 1) := by decide +kernel
theorem dX8_isFrontOld_24 : decode cX8_isFrontOld 24 = .ok (.bipush 16, 2) := by decide +kernel
theorem dX8_isFrontOld_26 : decode cX8_isFrontOld 26 = .ok (.imul, 1) := by decide +kernel
theorem dX8_isFrontOld_27 : decode cX8_isFrontOld 27 = .ok (.iaload, 1) := by decide +kernel
theorem dX8_isFrontOld_28 : decode cX8_isFrontOld 28 = .ok (.isub, 1) := by decide +kernel
theorem dX8_isFrontOld_29 : decode cX8_isFrontOld 29 = .ok (.iload_n 2, 1) := by decide +kernel
theorem dX8_isFrontOld_30 : decode cX8_isFrontOld 30 = .ok (.if_icmp .le 7, 3) := by decide +kernel
theorem dX8_isFrontOld_33 : decode cX8_isFrontOld 33 = .ok (.iconst 1, 1) := by decide +kernel
theorem dX8_isFrontOld_34 : decode cX8_isFrontOld 34 = .ok (.goto 4, 3) := by decide +kernel
theorem dX8_isFrontOld_37 : decode cX8_isFrontOld 37 = .ok (.iconst 0, 1) := by decide +kernel
theorem dX8_isFrontOld_38 : decode cX8_isFrontOld 38 = .ok (.ireturn, 1) := by decide +kernel
theorem dX8_dispatch_0 : decode cX8_dispatch 0 = .ok (.iconst 0, 1) := by decide +kernel
theorem dX8_dispatch_1 : decode cX8_dispatch 1 = .ok (.istore_n 2, 1) := by decide +kernel
theorem dX8_dispatch_2 : decode cX8_dispatch 2 = .ok (.iload_n 2, 1) := by decide +kernel
theorem dX8_dispatch_3 : decode cX8_dispatch 3 = .ok (.aload_n 1, 1) := by decide +kernel
theorem dX8_dispatch_4 : decode cX8_dispatch 4 = .ok (.getfield 204, 3) := by decide +kernel
theorem dX8_dispatch_7 : decode cX8_dispatch 7 = .ok (.if_icmp .ge 64, 3) := by decide +kernel
theorem dX8_dispatch_10 : decode cX8_dispatch 10 = .ok (.aload_n 0, 1) := by decide +kernel
theorem dX8_dispatch_11 : decode cX8_dispatch 11 = .ok (.aload_n 1, 1) := by decide +kernel
theorem dX8_dispatch_12 : decode cX8_dispatch 12 = .ok (.invokevirtual 207, 3) := by decide +kernel
theorem dX8_dispatch_15 : decode cX8_dispatch 15 = .ok (.istore_n 3, 1) := by decide +kernel
theorem dX8_dispatch_16 : decode cX8_dispatch 16 = .ok (.iload_n 3, 1) := by decide +kernel
theorem dX8_dispatch_17 : decode cX8_dispatch 17 = .ok (.bipush (-2), 2) := by decide +kernel
theorem dX8_dispatch_19 : decode cX8_dispatch 19 = .ok (.if_icmp .ne 5, 3) := by decide +kernel
theorem dX8_dispatch_22 : decode cX8_dispatch 22 = .ok (.iload_n 2, 1) := by decide +kernel
theorem dX8_dispatch_23 : decode cX8_dispatch 23 = .ok (.ireturn, 1) := by decide +kernel
theorem dX8_dispatch_24 : decode cX8_dispatch 24 = .ok (.aload_n 0, 1) := by decide +kernel
theorem dX8_dispatch_25 : decode cX8_dispatch 25 = .ok (.getfield 31, 3) := by decide +kernel
theorem dX8_dispatch_28 : decode cX8_dispatch 28 = .ok (.getfield 210, 3) := by decide +kernel
theorem dX8_dispatch_31 : decode cX8_dispatch 31 = .ok (.iload_n 3, 1) := by decide +kernel
theorem dX8_dispatch_32 : decode cX8_dispatch 32 = .ok (.bipush 16, 2) := by decide +kernel
theorem dX8_dispatch_34 : decode cX8_dispatch 34 = .ok (.imul, 1) := by decide +kernel
theorem dX8_dispatch_35 : decode cX8_dispatch 35 = .ok (.iaload, 1) := by decide +kernel
theorem dX8_dispatch_36 : decode cX8_dispatch 36 = .ok (.istore 4, 2) := by decide +kernel
theorem dX8_dispatch_38 : decode cX8_dispatch 38 = .ok (.aload_n 0, 1) := by decide +kernel
theorem dX8_dispatch_39 : decode cX8_dispatch 39 = .ok (.aload_n 1, 1) := by decide +kernel
theorem dX8_dispatch_40 : decode cX8_dispatch 40 = .ok (.iload_n 3, 1) := by decide +kernel
theorem dX8_dispatch_41 : decode cX8_dispatch 41 = .ok (.aload_n 0, 1) := by decide +kernel
theorem dX8_dispatch_42 : decode cX8_dispatch 42 = .ok (.getfield 24, 3) := by decide +kernel
theorem dX8_dispatch_45 : decode cX8_dispatch 45 = .ok (.aload_n 1, 1) := by decide +kernel
theorem dX8_dispatch_46 : decode cX8_dispatch 46 = .ok (.iload_n 3, 1) := by decide +kernel
theorem dX8_dispatch_47 : decode cX8_dispatch 47 = .ok (.iload 4, 2) := by decide +kernel
theorem dX8_dispatch_49 : decode cX8_dispatch 49 = .ok (.invokevirtual 213, 3) := by decide +kernel
theorem dX8_dispatch_52 : decode cX8_dispatch 52 = .ok (.iload 4, 2) := by decide +kernel
theorem dX8_dispatch_54 : decode cX8_dispatch 54 = .ok (.invokevirtual 217, 3) := by decide +kernel
theorem dX8_dispatch_57 : decode cX8_dispatch 57 = .ok (.aload_n 0, 1) := by decide +kernel
theorem dX8_dispatch_58 : decode cX8_dispatch 58 = .ok (.getfield 31, 3) := by decide +kernel
theorem dX8_dispatch_61 : decode cX8_dispatch 61 = .ok (.iload_n 3, 1) := by decide +kernel
theorem dX8_dispatch_62 : decode cX8_dispatch 62 = .ok (.invokevirtual 194, 3) := by decide +kernel
theorem dX8_dispatch_65 : decode cX8_dispatch 65 = .ok (.iinc 2 1, 3) := by decide +kernel
theorem dX8_dispatch_68 : decode cX8_dispatch 68 = .ok (.goto (-66), 3) := by decide +kernel
theorem dX8_dispatch_71 : decode cX8_dispatch 71 = .ok (.aload_n 1, 1) := by decide +kernel
theorem dX8_dispatch_72 : decode cX8_dispatch 72 = .ok (.getfield 204, 3) := by decide +kernel
theorem dX8_dispatch_75 : decode cX8_dispatch 75 = .ok (.ireturn, 1) := by decide +kernel
theorem dX8_chooseLeaf_0 : decode cX8_chooseLeaf 0 = .ok (.bipush (-2), 2) := by decide +kernel
theorem dX8_chooseLeaf_2 : decode cX8_chooseLeaf 2 = .ok (.istore_n 2, 1) := by decide +kernel
theorem dX8_chooseLeaf_3 : decode cX8_chooseLeaf 3 = .ok (.bipush (-2), 2) := by decide +kernel
theorem dX8_chooseLeaf_5 : decode cX8_chooseLeaf 5 = .ok (.istore_n 3, 1) := by decide +kernel
theorem dX8_chooseLeaf_6 : decode cX8_chooseLeaf 6 = .ok (.iconst 0, 1) := by decide +kernel
theorem dX8_chooseLeaf_7 : decode cX8_chooseLeaf 7 = .ok (.istore 4, 2) := by decide +kernel
theorem dX8_chooseLeaf_9 : decode cX8_chooseLeaf 9 = .ok (.iload 4, 2) := by decide +kernel
theorem dX8_chooseLeaf_11 : decode cX8_chooseLeaf 11 = .ok (.aload_n 1, 1) := by decide +kernel
theorem dX8_chooseLeaf_12 : decode cX8_chooseLeaf 12 = .ok (.getfield 85, 3) := by decide +kernel
theorem dX8_chooseLeaf_15 : decode cX8_chooseLeaf 15 = .ok (.if_icmp .ge 72, 3) := by decide +kernel
theorem dX8_chooseLeaf_18 : decode cX8_chooseLeaf 18 = .ok (.aload_n 0, 1) := by decide +kernel
theorem dX8_chooseLeaf_19 : decode cX8_chooseLeaf 19 = .ok (.aload_n 1, 1) := by decide +kernel
theorem dX8_chooseLeaf_20 : decode cX8_chooseLeaf 20 = .ok (.iload 4, 2) := by decide +kernel
theorem dX8_chooseLeaf_22 : decode cX8_chooseLeaf 22 = .ok (.invokevirtual 220, 3) := by decide +kernel
theorem dX8_chooseLeaf_25 : decode cX8_chooseLeaf 25 = .ok (.istore 5, 2) := by decide +kernel
theorem dX8_chooseLeaf_27 : decode cX8_chooseLeaf 27 = .ok (.iload_n 2, 1) := by decide +kernel
theorem dX8_chooseLeaf_28 : decode cX8_chooseLeaf 28 = .ok (.bipush (-2), 2) := by decide +kernel
theorem dX8_chooseLeaf_30 : decode cX8_chooseLeaf 30 = .ok (.if_icmp .eq 9, 3) := by decide +kernel
theorem dX8_chooseLeaf_33 : decode cX8_chooseLeaf 33 = .ok (.iload 5, 2) := by decide +kernel
theorem dX8_chooseLeaf_35 : decode cX8_chooseLeaf 35 = .ok (.iload_n 3, 1) := by decide +kernel
theorem dX8_chooseLeaf_36 : decode cX8_chooseLeaf 36 = .ok (.if_icmp .ge 7, 3) := by decide +kernel
theorem dX8_chooseLeaf_39 : decode cX8_chooseLeaf 39 = .ok (.iconst 1, 1) := by decide +kernel
theorem dX8_chooseLeaf_40 : decode cX8_chooseLeaf 40 = .ok (.goto 4, 3) := by decide +kernel
theorem dX8_chooseLeaf_43 : decode cX8_chooseLeaf 43 = .ok (.iconst 0, 1) := by decide +kernel
theorem dX8_chooseLeaf_44 : decode cX8_chooseLeaf 44 = .ok (.istore 6, 2) := by decide +kernel
theorem dX8_chooseLeaf_46 : decode cX8_chooseLeaf 46 = .ok (.iload 5, 2) := by decide +kernel
theorem dX8_chooseLeaf_48 : decode cX8_chooseLeaf 48 = .ok (.bipush (-2), 2) := by decide +kernel
theorem dX8_chooseLeaf_50 : decode cX8_chooseLeaf 50 = .ok (.if_icmp .eq 31, 3) := by decide +kernel
theorem dX8_chooseLeaf_53 : decode cX8_chooseLeaf 53 = .ok (.iload 6, 2) := by decide +kernel
theorem dX8_chooseLeaf_55 : decode cX8_chooseLeaf 55 = .ok (.ifCond .ne 20, 3) := by decide +kernel
theorem dX8_chooseLeaf_58 : decode cX8_chooseLeaf 58 = .ok (.iload 5, 2) := by decide +kernel
theorem dX8_chooseLeaf_60 : decode cX8_chooseLeaf 60 = .ok (.iload_n 3, 1) := by decide +kernel
theorem dX8_chooseLeaf_61 : decode cX8_chooseLeaf 61 = .ok (.if_icmp .ne 20, 3) := by decide +kernel
theorem dX8_chooseLeaf_64 : decode cX8_chooseLeaf 64 = .ok (.aload_n 0, 1) := by decide +kernel
theorem dX8_chooseLeaf_65 : decode cX8_chooseLeaf 65 = .ok (.aload_n 1, 1) := by decide +kernel
theorem dX8_chooseLeaf_66 : decode cX8_chooseLeaf 66 = .ok (.iload 4, 2) := by decide +kernel
theorem dX8_chooseLeaf_68 : decode cX8_chooseLeaf 68 = .ok (.iload_n 2, 1) := by decide +kernel
theorem dX8_chooseLeaf_69 : decode cX8_chooseLeaf 69 = .ok (.invokevirtual 224, 3) := by decide +kernel
theorem dX8_chooseLeaf_72 : decode cX8_chooseLeaf 72 = .ok (.ifCond .eq 9, 3) := by decide +kernel
theorem dX8_chooseLeaf_75 : decode cX8_chooseLeaf 75 = .ok (.iload 4, 2) := by decide +kernel
theorem dX8_chooseLeaf_77 : decode cX8_chooseLeaf 77 = .ok (.istore_n 2, 1) := by decide +kernel
theorem dX8_chooseLeaf_78 : decode cX8_chooseLeaf 78 = .ok (.iload 5, 2) := by decide +kernel
theorem dX8_chooseLeaf_80 : decode cX8_chooseLeaf 80 = .ok (.istore_n 3, 1) := by decide +kernel
theorem dX8_chooseLeaf_81 : decode cX8_chooseLeaf 81 = .ok (.iinc 4 1, 3) := by decide +kernel
theorem dX8_chooseLeaf_84 : decode cX8_chooseLeaf 84 = .ok (.goto (-75), 3) := by decide +kernel
theorem dX8_chooseLeaf_87 : decode cX8_chooseLeaf 87 = .ok (.iload_n 2, 1) := by decide +kernel
theorem dX8_chooseLeaf_88 : decode cX8_chooseLeaf 88 = .ok (.ireturn, 1) := by decide +kernel
theorem dX8_frontDistance_0 : decode cX8_frontDistance 0 = .ok (.aload_n 0, 1) := by decide +kernel
theorem dX8_frontDistance_1 : decode cX8_frontDistance 1 = .ok (.getfield 31, 3) := by decide +kernel
theorem dX8_frontDistance_4 : decode cX8_frontDistance 4 = .ok (.getfield 198, 3) := by decide +kernel
theorem dX8_frontDistance_7 : decode cX8_frontDistance 7 = .ok (.iload_n 2, 1) := by decide +kernel
theorem dX8_frontDistance_8 : decode cX8_frontDistance 8 = .ok (.iaload, 1) := by decide +kernel
theorem dX8_frontDistance_9 : decode cX8_frontDistance 9 = .ok (.ifCond .ne 6, 3) := by decide +kernel
theorem dX8_frontDistance_12 : decode cX8_frontDistance 12 = .ok (.bipush (-2), 2) := by decide +kernel
theorem dX8_frontDistance_14 : decode cX8_frontDistance 14 = .ok (.ireturn, 1) := by decide +kernel
theorem dX8_frontDistance_15 : decode cX8_frontDistance 15 = .ok (.aload_n 1, 1) := by decide +kernel
theorem dX8_frontDistance_16 : decode cX8_frontDistance 16 = .ok (.iload_n 2, 1) := by decide +kernel
theorem dX8_frontDistance_17 : decode cX8_frontDistance 17 = .ok (.aload_n 0, 1) := by decide +kernel
theorem dX8_frontDistance_18 : decode cX8_frontDistance 18 = .ok (.getfield 24, 3) := by decide +kernel
theorem dX8_frontDistance_21 : decode cX8_frontDistance 21 = .ok (.aload_n 1, 1) := by decide +kernel
theorem dX8_frontDistance_22 : decode cX8_frontDistance 22 = .ok (.iload_n 2, 1) := by decide +kernel
theorem dX8_frontDistance_23 : decode cX8_frontDistance 23 = .ok (.aload_n 0, 1) := by decide +kernel
theorem dX8_frontDistance_24 : decode cX8_frontDistance 24 = .ok (.getfield 31, 3) := by decide +kernel
theorem dX8_frontDistance_27 : decode cX8_frontDistance 27 = .ok (.getfield 210, 3) := by decide +kernel
theorem dX8_frontDistance_30 : decode cX8_frontDistance 30 = .ok (.iload_n 2, 1) := by decide +kernel
theorem dX8_frontDistance_31 : decode cX8_frontDistance 31 = .ok (.bipush 16, 2) := by decide +kernel
theorem dX8_frontDistance_33 : decode cX8_frontDistance 33 = .ok (.imul, 1) := by decide +kernel
theorem dX8_frontDistance_34 : decode cX8_frontDistance 34 = .ok (.iaload, 1) := by decide +kernel
theorem dX8_frontDistance_35 : decode cX8_frontDistance 35 = .ok (.invokevirtual 213, 3) := by decide +kernel
theorem dX8_frontDistance_38 : decode cX8_frontDistance 38 = .ok (.invokevirtual 228, 3) := by decide +kernel
theorem dX8_frontDistance_41 : decode cX8_frontDistance 41 = .ok (.ireturn, 1) := by decide +kernel
theorem dX8_precedes_0 : decode cX8_precedes 0 = .ok (.aload_n 1, 1) := by decide +kernel
theorem dX8_precedes_1 : decode cX8_precedes 1 = .ok (.getfield 231, 3) := by decide +kernel
theorem dX8_precedes_4 : decode cX8_precedes 4 = .ok (.iload_n 2, 1) := by decide +kernel
theorem dX8_precedes_5 : decode cX8_precedes 5 = .ok (.iaload, 1) := by decide +kernel
theorem dX8_precedes_6 : decode cX8_precedes 6 = .ok (.aload_n 1, 1) := by decide +kernel
theorem dX8_precedes_7 : decode cX8_precedes 7 = .ok (.getfield 231, 3) := by decide +kernel
theorem dX8_precedes_10 : decode cX8_precedes 10 = .ok (.iload_n 3, 1) := by decide +kernel
theorem dX8_precedes_11 : decode cX8_precedes 11 = .ok (.iaload, 1) := by decide +kernel
theorem dX8_precedes_12 : decode cX8_precedes 12 = .ok (.if_icmp .eq 24, 3) := by decide +kernel
theorem dX8_precedes_15 : decode cX8_precedes 15 = .ok (.aload_n 1, 1) := by decide +kernel
theorem dX8_precedes_16 : decode cX8_precedes 16 = .ok (.getfield 231, 3) := by decide +kernel
theorem dX8_precedes_19 : decode cX8_precedes 19 = .ok (.iload_n 2, 1) := by decide +kernel
theorem dX8_precedes_20 : decode cX8_precedes 20 = .ok (.iaload, 1) := by decide +kernel
theorem dX8_precedes_21 : decode cX8_precedes 21 = .ok (.aload_n 1, 1) := by decide +kernel
theorem dX8_precedes_22 : decode cX8_precedes 22 = .ok (.getfield 231, 3) := by decide +kernel
theorem dX8_precedes_25 : decode cX8_precedes 25 = .ok (.iload_n 3, 1) := by decide +kernel
theorem dX8_precedes_26 : decode cX8_precedes 26 = .ok (.iaload, 1) := by decide +kernel
theorem dX8_precedes_27 : decode cX8_precedes 27 = .ok (.if_icmp .ge 7, 3) := by decide +kernel
theorem dX8_precedes_30 : decode cX8_precedes 30 = .ok (.iconst 1, 1) := by decide +kernel
theorem dX8_precedes_31 : decode cX8_precedes 31 = .ok (.goto 4, 3) := by decide +kernel
theorem dX8_precedes_34 : decode cX8_precedes 34 = .ok (.iconst 0, 1) := by decide +kernel
theorem dX8_precedes_35 : decode cX8_precedes 35 = .ok (.ireturn, 1) := by decide +kernel
theorem dX8_precedes_36 : decode cX8_precedes 36 = .ok (.aload_n 0, 1) := by decide +kernel
theorem dX8_precedes_37 : decode cX8_precedes 37 = .ok (.iload_n 2, 1) := by decide +kernel
theorem dX8_precedes_38 : decode cX8_precedes 38 = .ok (.iload_n 3, 1) := by decide +kernel
theorem dX8_precedes_39 : decode cX8_precedes 39 = .ok (.invokevirtual 234, 3) := by decide +kernel
theorem dX8_precedes_42 : decode cX8_precedes 42 = .ok (.ifCond .ge 7, 3) := by decide +kernel
theorem dX8_precedes_45 : decode cX8_precedes 45 = .ok (.iconst 1, 1) := by decide +kernel
theorem dX8_precedes_46 : decode cX8_precedes 46 = .ok (.goto 4, 3) := by decide +kernel
theorem dX8_precedes_49 : decode cX8_precedes 49 = .ok (.iconst 0, 1) := by decide +kernel
theorem dX8_precedes_50 : decode cX8_precedes 50 = .ok (.ireturn, 1) := by decide +kernel
theorem dX8_compareServed_0 : decode cX8_compareServed 0 = .ok (.aload_n 0, 1) := by decide +kernel
theorem dX8_compareServed_1 : decode cX8_compareServed 1 = .ok (.getfield 38, 3) := by decide +kernel
theorem dX8_compareServed_4 : decode cX8_compareServed 4 = .ok (.getfield 237, 3) := by decide +kernel
theorem dX8_compareServed_7 : decode cX8_compareServed 7 = .ok (.iload_n 1, 1) := by decide +kernel
theorem dX8_compareServed_8 : decode cX8_compareServed 8 = .ok (.iaload, 1) := by decide +kernel
theorem dX8_compareServed_9 : decode cX8_compareServed 9 = .ok (.i2l, 1) := by decide +kernel
theorem dX8_compareServed_10 : decode cX8_compareServed 10 = .ok (.aload_n 0, 1) := by decide +kernel
theorem dX8_compareServed_11 : decode cX8_compareServed 11 = .ok (.getfield 18, 3) := by decide +kernel
theorem dX8_compareServed_14 : decode cX8_compareServed 14 = .ok (.iload_n 2, 1) := by decide +kernel
theorem dX8_compareServed_15 : decode cX8_compareServed 15 = .ok (.iaload, 1) := by decide +kernel
theorem dX8_compareServed_16 : decode cX8_compareServed 16 = .ok (.i2l, 1) := by decide +kernel
theorem dX8_compareServed_17 : decode cX8_compareServed 17 = .ok (.lmul, 1) := by decide +kernel
theorem dX8_compareServed_18 : decode cX8_compareServed 18 = .ok (.lstore_n 3, 1) := by decide +kernel
theorem dX8_compareServed_19 : decode cX8_compareServed 19 = .ok (.aload_n 0, 1) := by decide +kernel
theorem dX8_compareServed_20 : decode cX8_compareServed 20 = .ok (.getfield 38, 3) := by decide +kernel
theorem dX8_compareServed_23 : decode cX8_compareServed 23 = .ok (.getfield 237, 3) := by decide +kernel
theorem dX8_compareServed_26 : decode cX8_compareServed 26 = .ok (.iload_n 2, 1) := by decide +kernel
theorem dX8_compareServed_27 : decode cX8_compareServed 27 = .ok (.iaload, 1) := by decide +kernel
theorem dX8_compareServed_28 : decode cX8_compareServed 28 = .ok (.i2l, 1) := by decide +kernel
theorem dX8_compareServed_29 : decode cX8_compareServed 29 = .ok (.aload_n 0, 1) := by decide +kernel
theorem dX8_compareServed_30 : decode cX8_compareServed 30 = .ok (.getfield 18, 3) := by decide +kernel
theorem dX8_compareServed_33 : decode cX8_compareServed 33 = .ok (.iload_n 1, 1) := by decide +kernel
theorem dX8_compareServed_34 : decode cX8_compareServed 34 = .ok (.iaload, 1) := by decide +kernel
theorem dX8_compareServed_35 : decode cX8_compareServed 35 = .ok (.i2l, 1) := by decide +kernel
theorem dX8_compareServed_36 : decode cX8_compareServed 36 = .ok (.lmul, 1) := by decide +kernel
theorem dX8_compareServed_37 : decode cX8_compareServed 37 = .ok (.lstore 5, 2) := by decide +kernel
theorem dX8_compareServed_39 : decode cX8_compareServed 39 = .ok (.lload_n 3, 1) := by decide +kernel
theorem dX8_compareServed_40 : decode cX8_compareServed 40 = .ok (.lload 5, 2) := by decide +kernel
theorem dX8_compareServed_42 : decode cX8_compareServed 42 = .ok (.invokestatic 240, 3) := by decide +kernel
theorem dX8_compareServed_45 : decode cX8_compareServed 45 = .ok (.ireturn, 1) := by decide +kernel
theorem dX9_init_0 : decode cX9_init 0 = .ok (.aload_n 0, 1) := by decide +kernel
theorem dX9_init_1 : decode cX9_init 1 = .ok (.invokespecial 3, 3) := by decide +kernel
theorem dX9_init_4 : decode cX9_init 4 = .ok (.aload_n 0, 1) := by decide +kernel
theorem dX9_init_5 : decode cX9_init 5 = .ok (.sipush 900, 3) := by decide +kernel
theorem dX9_init_8 : decode cX9_init 8 = .ok (.newarray .byte, 2) := by decide +kernel
theorem dX9_init_10 : decode cX9_init 10 = .ok (.putfield 9, 3) := by decide +kernel
theorem dX9_init_13 : decode cX9_init 13 = .ok (.return_, 1) := by decide +kernel
theorem dX9_append_0 : decode cX9_append 0 = .ok (.bipush 24, 2) := by decide +kernel
theorem dX9_append_2 : decode cX9_append 2 = .ok (.istore_n 2, 1) := by decide +kernel
theorem dX9_append_3 : decode cX9_append 3 = .ok (.iload_n 2, 1) := by decide +kernel
theorem dX9_append_4 : decode cX9_append 4 = .ok (.ifCond .lt 51, 3) := by decide +kernel
theorem dX9_append_7 : decode cX9_append 7 = .ok (.aload_n 0, 1) := by decide +kernel
theorem dX9_append_8 : decode cX9_append 8 = .ok (.getfield 15, 3) := by decide +kernel
theorem dX9_append_11 : decode cX9_append 11 = .ok (.ifCond .lt 38, 3) := by decide +kernel
theorem dX9_append_14 : decode cX9_append 14 = .ok (.aload_n 0, 1) := by decide +kernel
theorem dX9_append_15 : decode cX9_append 15 = .ok (.getfield 15, 3) := by decide +kernel
theorem dX9_append_18 : decode cX9_append 18 = .ok (.aload_n 0, 1) := by decide +kernel
theorem dX9_append_19 : decode cX9_append 19 = .ok (.getfield 9, 3) := by decide +kernel
theorem dX9_append_22 : decode cX9_append 22 = .ok (.arraylength, 1) := by decide +kernel
theorem dX9_append_23 : decode cX9_append 23 = .ok (.if_icmp .ge 26, 3) := by decide +kernel
theorem dX9_append_26 : decode cX9_append 26 = .ok (.aload_n 0, 1) := by decide +kernel
theorem dX9_append_27 : decode cX9_append 27 = .ok (.getfield 9, 3) := by decide +kernel
theorem dX9_append_30 : decode cX9_append 30 = .ok (.aload_n 0, 1) := by decide +kernel
theorem dX9_append_31 : decode cX9_append 31 = .ok (.getfield 15, 3) := by decide +kernel
theorem dX9_append_34 : decode cX9_append 34 = .ok (.iload_n 1, 1) := by decide +kernel
theorem dX9_append_35 : decode cX9_append 35 = .ok (.iload_n 2, 1) := by decide +kernel
theorem dX9_append_36 : decode cX9_append 36 = .ok (.ishr, 1) := by decide +kernel
theorem dX9_append_37 : decode cX9_append 37 = .ok (.i2b, 1) := by decide +kernel
theorem dX9_append_38 : decode cX9_append 38 = .ok (.bastore, 1) := by decide +kernel
theorem dX9_append_39 : decode cX9_append 39 = .ok (.aload_n 0, 1) := by decide +kernel
theorem dX9_append_40 : decode cX9_append 40 = .ok (.dup, 1) := by decide +kernel
theorem dX9_append_41 : decode cX9_append 41 = .ok (.getfield 15, 3) := by decide +kernel
theorem dX9_append_44 : decode cX9_append 44 = .ok (.iconst 1, 1) := by decide +kernel
theorem dX9_append_45 : decode cX9_append 45 = .ok (.iadd, 1) := by decide +kernel
theorem dX9_append_46 : decode cX9_append 46 = .ok (.putfield 15, 3) := by decide +kernel
theorem dX9_append_49 : decode cX9_append 49 = .ok (.iinc 2 (-8), 3) := by decide +kernel
theorem dX9_append_52 : decode cX9_append 52 = .ok (.goto (-49), 3) := by decide +kernel
theorem dX9_append_55 : decode cX9_append 55 = .ok (.return_, 1) := by decide +kernel
theorem dX9_byteAt_0 : decode cX9_byteAt 0 = .ok (.iload_n 1, 1) := by decide +kernel
theorem dX9_byteAt_1 : decode cX9_byteAt 1 = .ok (.ifCond .lt 29, 3) := by decide +kernel
theorem dX9_byteAt_4 : decode cX9_byteAt 4 = .ok (.iload_n 1, 1) := by decide +kernel
theorem dX9_byteAt_5 : decode cX9_byteAt 5 = .ok (.aload_n 0, 1) := by decide +kernel
theorem dX9_byteAt_6 : decode cX9_byteAt 6 = .ok (.getfield 15, 3) := by decide +kernel
theorem dX9_byteAt_9 : decode cX9_byteAt 9 = .ok (.if_icmp .ge 21, 3) := by decide +kernel
theorem dX9_byteAt_12 : decode cX9_byteAt 12 = .ok (.iload_n 1, 1) := by decide +kernel
theorem dX9_byteAt_13 : decode cX9_byteAt 13 = .ok (.aload_n 0, 1) := by decide +kernel
theorem dX9_byteAt_14 : decode cX9_byteAt 14 = .ok (.getfield 9, 3) := by decide +kernel
theorem dX9_byteAt_17 : decode cX9_byteAt 17 = .ok (.arraylength, 1) := by decide +kernel
theorem dX9_byteAt_18 : decode cX9_byteAt 18 = .ok (.if_icmp .ge 12, 3) := by decide +kernel
theorem dX9_byteAt_21 : decode cX9_byteAt 21 = .ok (.aload_n 0, 1) := by decide +kernel
theorem dX9_byteAt_22 : decode cX9_byteAt 22 = .ok (.getfield 9, 3) := by decide +kernel
theorem dX9_byteAt_25 : decode cX9_byteAt 25 = .ok (.iload_n 1, 1) := by decide +kernel
theorem dX9_byteAt_26 : decode cX9_byteAt 26 = .ok (.baload, 1) := by decide +kernel
theorem dX9_byteAt_27 : decode cX9_byteAt 27 = .ok (.goto 4, 3) := by decide +kernel
theorem dX9_byteAt_30 : decode cX9_byteAt 30 = .ok (.iconst 0, 1) := by decide +kernel
theorem dX9_byteAt_31 : decode cX9_byteAt 31 = .ok (.ireturn, 1) := by decide +kernel
theorem dX10_init_0 : decode cX10_init 0 = .ok (.aload_n 0, 1) := by decide +kernel
theorem dX10_init_1 : decode cX10_init 1 = .ok (.invokespecial 3, 3) := by decide +kernel
theorem dX10_init_4 : decode cX10_init 4 = .ok (.return_, 1) := by decide +kernel
theorem dX11_init_0 : decode cX11_init 0 = .ok (.aload_n 0, 1) := by decide +kernel
theorem dX11_init_1 : decode cX11_init 1 = .ok (.invokespecial 1, 3) := by decide +kernel
theorem dX11_init_4 : decode cX11_init 4 = .ok (.aload_n 0, 1) := by decide +kernel
theorem dX11_init_5 : decode cX11_init 5 = .ok (.new 7, 3) := by decide +kernel
theorem dX11_init_8 : decode cX11_init 8 = .ok (.dup, 1) := by decide +kernel
theorem dX11_init_9 : decode cX11_init 9 = .ok (.invokespecial 9, 3) := by decide +kernel
theorem dX11_init_12 : decode cX11_init 12 = .ok (.putfield 10, 3) := by decide +kernel
theorem dX11_init_15 : decode cX11_init 15 = .ok (.aload_n 0, 1) := by decide +kernel
theorem dX11_init_16 : decode cX11_init 16 = .ok (.new 16, 3) := by decide +kernel
theorem dX11_init_19 : decode cX11_init 19 = .ok (.dup, 1) := by decide +kernel
theorem dX11_init_20 : decode cX11_init 20 = .ok (.invokespecial 18, 3) := by decide +kernel
theorem dX11_init_23 : decode cX11_init 23 = .ok (.putfield 19, 3) := by decide +kernel
theorem dX11_init_26 : decode cX11_init 26 = .ok (.aload_n 0, 1) := by decide +kernel
theorem dX11_init_27 : decode cX11_init 27 = .ok (.new 23, 3) := by decide +kernel
theorem dX11_init_30 : decode cX11_init 30 = .ok (.dup, 1) := by decide +kernel
theorem dX11_init_31 : decode cX11_init 31 = .ok (.invokespecial 25, 3) := by decide +kernel
theorem dX11_init_34 : decode cX11_init 34 = .ok (.putfield 26, 3) := by decide +kernel
theorem dX11_init_37 : decode cX11_init 37 = .ok (.aload_n 0, 1) := by decide +kernel
theorem dX11_init_38 : decode cX11_init 38 = .ok (.new 30, 3) := by decide +kernel
theorem dX11_init_41 : decode cX11_init 41 = .ok (.dup, 1) := by decide +kernel
theorem dX11_init_42 : decode cX11_init 42 = .ok (.invokespecial 32, 3) := by decide +kernel
theorem dX11_init_45 : decode cX11_init 45 = .ok (.putfield 33, 3) := by decide +kernel
theorem dX11_init_48 : decode cX11_init 48 = .ok (.aload_n 0, 1) := by decide +kernel
theorem dX11_init_49 : decode cX11_init 49 = .ok (.new 37, 3) := by decide +kernel
theorem dX11_init_52 : decode cX11_init 52 = .ok (.dup, 1) := by decide +kernel
theorem dX11_init_53 : decode cX11_init 53 = .ok (.invokespecial 39, 3) := by decide +kernel
theorem dX11_init_56 : decode cX11_init 56 = .ok (.putfield 40, 3) := by decide +kernel
theorem dX11_init_59 : decode cX11_init 59 = .ok (.aload_n 0, 1) := by decide +kernel
theorem dX11_init_60 : decode cX11_init 60 = .ok (.new 37, 3) := by decide +kernel
theorem dX11_init_63 : decode cX11_init 63 = .ok (.dup, 1) := by decide +kernel
theorem dX11_init_64 : decode cX11_init 64 = .ok (.invokespecial 39, 3) := by decide +kernel
theorem dX11_init_67 : decode cX11_init 67 = .ok (.putfield 44, 3) := by decide +kernel
theorem dX11_init_70 : decode cX11_init 70 = .ok (.aload_n 0, 1) := by decide +kernel
theorem dX11_init_71 : decode cX11_init 71 = .ok (.new 37, 3) := by decide +kernel
theorem dX11_init_74 : decode cX11_init 74 = .ok (.dup, 1) := by decide +kernel
theorem dX11_init_75 : decode cX11_init 75 = .ok (.invokespecial 39, 3) := by decide +kernel
theorem dX11_init_78 : decode cX11_init 78 = .ok (.putfield 47, 3) := by decide +kernel
theorem dX11_init_81 : decode cX11_init 81 = .ok (.aload_n 0, 1) := by decide +kernel
theorem dX11_init_82 : decode cX11_init 82 = .ok (.new 37, 3) := by decide +kernel
theorem dX11_init_85 : decode cX11_init 85 = .ok (.dup, 1) := by decide +kernel
theorem dX11_init_86 : decode cX11_init 86 = .ok (.invokespecial 39, 3) := by decide +kernel
theorem dX11_init_89 : decode cX11_init 89 = .ok (.putfield 50, 3) := by decide +kernel
theorem dX11_init_92 : decode cX11_init 92 = .ok (.return_, 1) := by decide +kernel
theorem dX11_feed_0 : decode cX11_feed 0 = .ok (.aload_n 0, 1) := by decide +kernel
theorem dX11_feed_1 : decode cX11_feed 1 = .ok (.getfield 10, 3) := by decide +kernel
theorem dX11_feed_4 : decode cX11_feed 4 = .ok (.getfield 53, 3) := by decide +kernel
theorem dX11_feed_7 : decode cX11_feed 7 = .ok (.bipush 20, 2) := by decide +kernel
theorem dX11_feed_9 : decode cX11_feed 9 = .ok (.iadd, 1) := by decide +kernel
theorem dX11_feed_10 : decode cX11_feed 10 = .ok (.sipush 900, 3) := by decide +kernel
theorem dX11_feed_13 : decode cX11_feed 13 = .ok (.if_icmp .le 5, 3) := by decide +kernel
theorem dX11_feed_16 : decode cX11_feed 16 = .ok (.iconst (-1), 1) := by decide +kernel
theorem dX11_feed_17 : decode cX11_feed 17 = .ok (.ireturn, 1) := by decide +kernel
theorem dX11_feed_18 : decode cX11_feed 18 = .ok (.aload_n 0, 1) := by decide +kernel
theorem dX11_feed_19 : decode cX11_feed 19 = .ok (.getfield 10, 3) := by decide +kernel
theorem dX11_feed_22 : decode cX11_feed 22 = .ok (.iload_n 1, 1) := by decide +kernel
theorem dX11_feed_23 : decode cX11_feed 23 = .ok (.invokevirtual 57, 3) := by decide +kernel
theorem dX11_feed_26 : decode cX11_feed 26 = .ok (.aload_n 0, 1) := by decide +kernel
theorem dX11_feed_27 : decode cX11_feed 27 = .ok (.getfield 10, 3) := by decide +kernel
theorem dX11_feed_30 : decode cX11_feed 30 = .ok (.iload_n 2, 1) := by decide +kernel
theorem dX11_feed_31 : decode cX11_feed 31 = .ok (.invokevirtual 57, 3) := by decide +kernel
theorem dX11_feed_34 : decode cX11_feed 34 = .ok (.aload_n 0, 1) := by decide +kernel
theorem dX11_feed_35 : decode cX11_feed 35 = .ok (.getfield 10, 3) := by decide +kernel
theorem dX11_feed_38 : decode cX11_feed 38 = .ok (.iload_n 3, 1) := by decide +kernel
theorem dX11_feed_39 : decode cX11_feed 39 = .ok (.invokevirtual 57, 3) := by decide +kernel
theorem dX11_feed_42 : decode cX11_feed 42 = .ok (.aload_n 0, 1) := by decide +kernel
theorem dX11_feed_43 : decode cX11_feed 43 = .ok (.getfield 10, 3) := by decide +kernel
theorem dX11_feed_46 : decode cX11_feed 46 = .ok (.iload 4, 2) := by decide +kernel
theorem dX11_feed_48 : decode cX11_feed 48 = .ok (.invokevirtual 57, 3) := by decide +kernel
theorem dX11_feed_51 : decode cX11_feed 51 = .ok (.aload_n 0, 1) := by decide +kernel
theorem dX11_feed_52 : decode cX11_feed 52 = .ok (.getfield 10, 3) := by decide +kernel
theorem dX11_feed_55 : decode cX11_feed 55 = .ok (.iload 5, 2) := by decide +kernel
theorem dX11_feed_57 : decode cX11_feed 57 = .ok (.invokevirtual 57, 3) := by decide +kernel
theorem dX11_feed_60 : decode cX11_feed 60 = .ok (.aload_n 0, 1) := by decide +kernel
theorem dX11_feed_61 : decode cX11_feed 61 = .ok (.getfield 10, 3) := by decide +kernel
theorem dX11_feed_64 : decode cX11_feed 64 = .ok (.getfield 53, 3) := by decide +kernel
theorem dX11_feed_67 : decode cX11_feed 67 = .ok (.ireturn, 1) := by decide +kernel
theorem dX11_truncate_0 : decode cX11_truncate 0 = .ok (.iload_n 1, 1) := by decide +kernel
theorem dX11_truncate_1 : decode cX11_truncate 1 = .ok (.ifCond .lt 14, 3) := by decide +kernel
theorem dX11_truncate_4 : decode cX11_truncate 4 = .ok (.iload_n 1, 1) := by decide +kernel
theorem dX11_truncate_5 : decode cX11_truncate 5 = .ok (.aload_n 0, 1) := by decide +kernel
theorem dX11_truncate_6 : decode cX11_truncate 6 = .ok (.getfield 10, 3) := by decide +kernel
theorem dX11_truncate_9 : decode cX11_truncate 9 = .ok (.getfield 53, 3) := by decide +kernel
theorem dX11_truncate_12 : decode cX11_truncate 12 = .ok (.if_icmp .le 5, 3) := by decide +kernel
theorem dX11_truncate_15 : decode cX11_truncate 15 = .ok (.iconst (-1), 1) := by decide +kernel
theorem dX11_truncate_16 : decode cX11_truncate 16 = .ok (.ireturn, 1) := by decide +kernel
theorem dX11_truncate_17 : decode cX11_truncate 17 = .ok (.aload_n 0, 1) := by decide +kernel
theorem dX11_truncate_18 : decode cX11_truncate 18 = .ok (.getfield 10, 3) := by decide +kernel
theorem dX11_truncate_21 : decode cX11_truncate 21 = .ok (.iload_n 1, 1) := by decide +kernel
theorem dX11_truncate_22 : decode cX11_truncate 22 = .ok (.putfield 53, 3) := by decide +kernel
theorem dX11_truncate_25 : decode cX11_truncate 25 = .ok (.iload_n 1, 1) := by decide +kernel
theorem dX11_truncate_26 : decode cX11_truncate 26 = .ok (.ireturn, 1) := by decide +kernel
theorem dX11_load_0 : decode cX11_load 0 = .ok (.aload_n 0, 1) := by decide +kernel
theorem dX11_load_1 : decode cX11_load 1 = .ok (.getfield 19, 3) := by decide +kernel
theorem dX11_load_4 : decode cX11_load 4 = .ok (.aload_n 0, 1) := by decide +kernel
theorem dX11_load_5 : decode cX11_load 5 = .ok (.getfield 10, 3) := by decide +kernel
theorem dX11_load_8 : decode cX11_load 8 = .ok (.invokevirtual 61, 3) := by decide +kernel
theorem dX11_load_11 : decode cX11_load 11 = .ok (.aload_n 0, 1) := by decide +kernel
theorem dX11_load_12 : decode cX11_load 12 = .ok (.getfield 10, 3) := by decide +kernel
theorem dX11_load_15 : decode cX11_load 15 = .ok (.iconst 0, 1) := by decide +kernel
theorem dX11_load_16 : decode cX11_load 16 = .ok (.putfield 53, 3) := by decide +kernel
theorem dX11_load_19 : decode cX11_load 19 = .ok (.aload_n 0, 1) := by decide +kernel
theorem dX11_load_20 : decode cX11_load 20 = .ok (.getfield 19, 3) := by decide +kernel
theorem dX11_load_23 : decode cX11_load 23 = .ok (.getfield 65, 3) := by decide +kernel
theorem dX11_load_26 : decode cX11_load 26 = .ok (.ifCond .eq 5, 3) := by decide +kernel
theorem dX11_load_29 : decode cX11_load 29 = .ok (.iconst (-1), 1) := by decide +kernel
theorem dX11_load_30 : decode cX11_load 30 = .ok (.ireturn, 1) := by decide +kernel
theorem dX11_load_31 : decode cX11_load 31 = .ok (.aload_n 0, 1) := by decide +kernel
theorem dX11_load_32 : decode cX11_load 32 = .ok (.getfield 33, 3) := by decide +kernel
theorem dX11_load_35 : decode cX11_load 35 = .ok (.astore_n 1, 1) := by decide +kernel
theorem dX11_load_36 : decode cX11_load 36 = .ok (.aload_n 0, 1) := by decide +kernel
theorem dX11_load_37 : decode cX11_load 37 = .ok (.aload_n 0, 1) := by decide +kernel
theorem dX11_load_38 : decode cX11_load 38 = .ok (.getfield 19, 3) := by decide +kernel
theorem dX11_load_41 : decode cX11_load 41 = .ok (.getfield 68, 3) := by decide +kernel
theorem dX11_load_44 : decode cX11_load 44 = .ok (.putfield 33, 3) := by decide +kernel
theorem dX11_load_47 : decode cX11_load 47 = .ok (.aload_n 0, 1) := by decide +kernel
theorem dX11_load_48 : decode cX11_load 48 = .ok (.getfield 19, 3) := by decide +kernel
theorem dX11_load_51 : decode cX11_load 51 = .ok (.aload_n 1, 1) := by decide +kernel
theorem dX11_load_52 : decode cX11_load 52 = .ok (.putfield 68, 3) := by decide +kernel
theorem dX11_load_55 : decode cX11_load 55 = .ok (.aload_n 0, 1) := by decide +kernel
theorem dX11_load_56 : decode cX11_load 56 = .ok (.getfield 40, 3) := by decide +kernel
theorem dX11_load_59 : decode cX11_load 59 = .ok (.aload_n 0, 1) := by decide +kernel
theorem dX11_load_60 : decode cX11_load 60 = .ok (.getfield 33, 3) := by decide +kernel
theorem dX11_load_63 : decode cX11_load 63 = .ok (.invokevirtual 71, 3) := by decide +kernel
theorem dX11_load_66 : decode cX11_load 66 = .ok (.aload_n 0, 1) := by decide +kernel
theorem dX11_load_67 : decode cX11_load 67 = .ok (.getfield 47, 3) := by decide +kernel
theorem dX11_load_70 : decode cX11_load 70 = .ok (.iconst 0, 1) := by decide +kernel
theorem dX11_load_71 : decode cX11_load 71 = .ok (.putfield 75, 3) := by decide +kernel
theorem dX11_load_74 : decode cX11_load 74 = .ok (.aload_n 0, 1) := by decide +kernel
theorem dX11_load_75 : decode cX11_load 75 = .ok (.getfield 50, 3) := by decide +kernel
theorem dX11_load_78 : decode cX11_load 78 = .ok (.iconst 0, 1) := by decide +kernel
theorem dX11_load_79 : decode cX11_load 79 = .ok (.putfield 75, 3) := by decide +kernel
theorem dX11_load_82 : decode cX11_load 82 = .ok (.aload_n 0, 1) := by decide +kernel
theorem dX11_load_83 : decode cX11_load 83 = .ok (.getfield 33, 3) := by decide +kernel
theorem dX11_load_86 : decode cX11_load 86 = .ok (.getfield 79, 3) := by decide +kernel
theorem dX11_load_89 : decode cX11_load 89 = .ok (.ireturn, 1) := by decide +kernel
theorem dX11_faultCode_0 : decode cX11_faultCode 0 = .ok (.aload_n 0, 1) := by decide +kernel
theorem dX11_faultCode_1 : decode cX11_faultCode 1 = .ok (.getfield 19, 3) := by decide +kernel
theorem dX11_faultCode_4 : decode cX11_faultCode 4 = .ok (.getfield 65, 3) := by decide +kernel
theorem dX11_faultCode_7 : decode cX11_faultCode 7 = .ok (.ireturn, 1) := by decide +kernel
theorem dX11_faultPosition_0 : decode cX11_faultPosition 0 = .ok (.aload_n 0, 1) := by decide +kernel
theorem dX11_faultPosition_1 : decode cX11_faultPosition 1 = .ok (.getfield 19, 3) := by decide +kernel
theorem dX11_faultPosition_4 : decode cX11_faultPosition 4 = .ok (.getfield 82, 3) := by decide +kernel
theorem dX11_faultPosition_7 : decode cX11_faultPosition 7 = .ok (.ireturn, 1) := by decide +kernel
theorem dX11_nodeCount_0 : decode cX11_nodeCount 0 = .ok (.aload_n 0, 1) := by decide +kernel
theorem dX11_nodeCount_1 : decode cX11_nodeCount 1 = .ok (.getfield 33, 3) := by decide +kernel
theorem dX11_nodeCount_4 : decode cX11_nodeCount 4 = .ok (.getfield 79, 3) := by decide +kernel
theorem dX11_nodeCount_7 : decode cX11_nodeCount 7 = .ok (.ireturn, 1) := by decide +kernel
theorem dX11_nameLetter_0 : decode cX11_nameLetter 0 = .ok (.aload_n 0, 1) := by decide +kernel
theorem dX11_nameLetter_1 : decode cX11_nameLetter 1 = .ok (.getfield 33, 3) := by decide +kernel
theorem dX11_nameLetter_4 : decode cX11_nameLetter 4 = .ok (.iload_n 1, 1) := by decide +kernel
theorem dX11_nameLetter_5 : decode cX11_nameLetter 5 = .ok (.invokevirtual 85, 3) := by decide +kernel
theorem dX11_nameLetter_8 : decode cX11_nameLetter 8 = .ok (.ifCond .eq 23, 3) := by decide +kernel
theorem dX11_nameLetter_11 : decode cX11_nameLetter 11 = .ok (.iload_n 2, 1) := by decide +kernel
theorem dX11_nameLetter_12 : decode cX11_nameLetter 12 = .ok (.ifCond .lt 19, 3) := by decide +kernel
theorem dX11_nameLetter_15 : decode cX11_nameLetter 15 = .ok (.aload_n 0, 1) := by decide +kernel
theorem dX11_nameLetter_16 : decode cX11_nameLetter 16 = .ok (.getfield 33, 3) := by decide +kernel
theorem dX11_nameLetter_19 : decode cX11_nameLetter 19 = .ok (.getfield 89, 3) := by decide +kernel
theorem dX11_nameLetter_22 : decode cX11_nameLetter 22 = .ok (.iload_n 1, 1) := by decide +kernel
theorem dX11_nameLetter_23 : decode cX11_nameLetter 23 = .ok (.laload, 1) := by decide +kernel
theorem dX11_nameLetter_24 : decode cX11_nameLetter 24 = .ok (.iload_n 2, 1) := by decide +kernel
theorem dX11_nameLetter_25 : decode cX11_nameLetter 25 = .ok (.invokestatic 93, 3) := by decide +kernel
theorem dX11_nameLetter_28 : decode cX11_nameLetter 28 = .ok (.goto 4, 3) := by decide +kernel
theorem dX11_nameLetter_31 : decode cX11_nameLetter 31 = .ok (.iconst (-1), 1) := by decide +kernel
theorem dX11_nameLetter_32 : decode cX11_nameLetter 32 = .ok (.ireturn, 1) := by decide +kernel
theorem dX11_parent_0 : decode cX11_parent 0 = .ok (.aload_n 0, 1) := by decide +kernel
theorem dX11_parent_1 : decode cX11_parent 1 = .ok (.getfield 33, 3) := by decide +kernel
theorem dX11_parent_4 : decode cX11_parent 4 = .ok (.iload_n 1, 1) := by decide +kernel
theorem dX11_parent_5 : decode cX11_parent 5 = .ok (.invokevirtual 85, 3) := by decide +kernel
theorem dX11_parent_8 : decode cX11_parent 8 = .ok (.ifCond .eq 15, 3) := by decide +kernel
theorem dX11_parent_11 : decode cX11_parent 11 = .ok (.aload_n 0, 1) := by decide +kernel
theorem dX11_parent_12 : decode cX11_parent 12 = .ok (.getfield 33, 3) := by decide +kernel
theorem dX11_parent_15 : decode cX11_parent 15 = .ok (.getfield 97, 3) := by decide +kernel
theorem dX11_parent_18 : decode cX11_parent 18 = .ok (.iload_n 1, 1) := by decide +kernel
theorem dX11_parent_19 : decode cX11_parent 19 = .ok (.iaload, 1) := by decide +kernel
theorem dX11_parent_20 : decode cX11_parent 20 = .ok (.goto 4, 3) := by decide +kernel
theorem dX11_parent_23 : decode cX11_parent 23 = .ok (.iconst (-1), 1) := by decide +kernel
theorem dX11_parent_24 : decode cX11_parent 24 = .ok (.ireturn, 1) := by decide +kernel
theorem dX11_child_0 : decode cX11_child 0 = .ok (.aload_n 0, 1) := by decide +kernel
theorem dX11_child_1 : decode cX11_child 1 = .ok (.getfield 33, 3) := by decide +kernel
theorem dX11_child_4 : decode cX11_child 4 = .ok (.iload_n 1, 1) := by decide +kernel
theorem dX11_child_5 : decode cX11_child 5 = .ok (.invokevirtual 85, 3) := by decide +kernel
theorem dX11_child_8 : decode cX11_child 8 = .ok (.ifCond .eq 19, 3) := by decide +kernel
theorem dX11_child_11 : decode cX11_child 11 = .ok (.iload_n 2, 1) := by decide +kernel
theorem dX11_child_12 : decode cX11_child 12 = .ok (.ifCond .lt 15, 3) := by decide +kernel
theorem dX11_child_15 : decode cX11_child 15 = .ok (.aload_n 0, 1) := by decide +kernel
theorem dX11_child_16 : decode cX11_child 16 = .ok (.getfield 33, 3) := by decide +kernel
theorem dX11_child_19 : decode cX11_child 19 = .ok (.iload_n 1, 1) := by decide +kernel
theorem dX11_child_20 : decode cX11_child 20 = .ok (.iload_n 2, 1) := by decide +kernel
theorem dX11_child_21 : decode cX11_child 21 = .ok (.invokevirtual 101, 3) := by decide +kernel
theorem dX11_child_24 : decode cX11_child 24 = .ok (.goto 4, 3) := by decide +kernel
theorem dX11_child_27 : decode cX11_child 27 = .ok (.iconst (-1), 1) := by decide +kernel
theorem dX11_child_28 : decode cX11_child 28 = .ok (.ireturn, 1) := by decide +kernel
theorem dX11_isLeaf_0 : decode cX11_isLeaf 0 = .ok (.aload_n 0, 1) := by decide +kernel
theorem dX11_isLeaf_1 : decode cX11_isLeaf 1 = .ok (.getfield 33, 3) := by decide +kernel
theorem dX11_isLeaf_4 : decode cX11_isLeaf 4 = .ok (.iload_n 1, 1) := by decide +kernel
theorem dX11_isLeaf_5 : decode cX11_isLeaf 5 = .ok (.invokevirtual 105, 3) := by decide +kernel
theorem dX11_isLeaf_8 : decode cX11_isLeaf 8 = .ok (.ireturn, 1) := by decide +kernel
theorem dX11_depth_0 : decode cX11_depth 0 = .ok (.aload_n 0, 1) := by decide +kernel
theorem dX11_depth_1 : decode cX11_depth 1 = .ok (.getfield 33, 3) := by decide +kernel
theorem dX11_depth_4 : decode cX11_depth 4 = .ok (.iload_n 1, 1) := by decide +kernel
theorem dX11_depth_5 : decode cX11_depth 5 = .ok (.invokevirtual 85, 3) := by decide +kernel
theorem dX11_depth_8 : decode cX11_depth 8 = .ok (.ifCond .eq 15, 3) := by decide +kernel
theorem dX11_depth_11 : decode cX11_depth 11 = .ok (.aload_n 0, 1) := by decide +kernel
theorem dX11_depth_12 : decode cX11_depth 12 = .ok (.getfield 33, 3) := by decide +kernel
theorem dX11_depth_15 : decode cX11_depth 15 = .ok (.getfield 108, 3) := by decide +kernel
theorem dX11_depth_18 : decode cX11_depth 18 = .ok (.iload_n 1, 1) := by decide +kernel
theorem dX11_depth_19 : decode cX11_depth 19 = .ok (.iaload, 1) := by decide +kernel
theorem dX11_depth_20 : decode cX11_depth 20 = .ok (.goto 4, 3) := by decide +kernel
theorem dX11_depth_23 : decode cX11_depth 23 = .ok (.iconst (-1), 1) := by decide +kernel
theorem dX11_depth_24 : decode cX11_depth 24 = .ok (.ireturn, 1) := by decide +kernel
theorem dX11_rate_0 : decode cX11_rate 0 = .ok (.aload_n 0, 1) := by decide +kernel
theorem dX11_rate_1 : decode cX11_rate 1 = .ok (.getfield 33, 3) := by decide +kernel
theorem dX11_rate_4 : decode cX11_rate 4 = .ok (.iload_n 1, 1) := by decide +kernel
theorem dX11_rate_5 : decode cX11_rate 5 = .ok (.invokevirtual 85, 3) := by decide +kernel
theorem dX11_rate_8 : decode cX11_rate 8 = .ok (.ifCond .eq 15, 3) := by decide +kernel
theorem dX11_rate_11 : decode cX11_rate 11 = .ok (.aload_n 0, 1) := by decide +kernel
theorem dX11_rate_12 : decode cX11_rate 12 = .ok (.getfield 40, 3) := by decide +kernel
theorem dX11_rate_15 : decode cX11_rate 15 = .ok (.getfield 111, 3) := by decide +kernel
theorem dX11_rate_18 : decode cX11_rate 18 = .ok (.iload_n 1, 1) := by decide +kernel
theorem dX11_rate_19 : decode cX11_rate 19 = .ok (.iaload, 1) := by decide +kernel
theorem dX11_rate_20 : decode cX11_rate 20 = .ok (.goto 4, 3) := by decide +kernel
theorem dX11_rate_23 : decode cX11_rate 23 = .ok (.iconst (-1), 1) := by decide +kernel
theorem dX11_rate_24 : decode cX11_rate 24 = .ok (.ireturn, 1) := by decide +kernel
theorem dX11_ceiling_0 : decode cX11_ceiling 0 = .ok (.aload_n 0, 1) := by decide +kernel
theorem dX11_ceiling_1 : decode cX11_ceiling 1 = .ok (.getfield 33, 3) := by decide +kernel
theorem dX11_ceiling_4 : decode cX11_ceiling 4 = .ok (.iload_n 1, 1) := by decide +kernel
theorem dX11_ceiling_5 : decode cX11_ceiling 5 = .ok (.invokevirtual 85, 3) := by decide +kernel
theorem dX11_ceiling_8 : decode cX11_ceiling 8 = .ok (.ifCond .eq 15, 3) := by decide +kernel
theorem dX11_ceiling_11 : decode cX11_ceiling 11 = .ok (.aload_n 0, 1) := by decide +kernel
theorem dX11_ceiling_12 : decode cX11_ceiling 12 = .ok (.getfield 40, 3) := by decide +kernel
theorem dX11_ceiling_15 : decode cX11_ceiling 15 = .ok (.getfield 114, 3) := by decide +kernel
theorem dX11_ceiling_18 : decode cX11_ceiling 18 = .ok (.iload_n 1, 1) := by decide +kernel
theorem dX11_ceiling_19 : decode cX11_ceiling 19 = .ok (.iaload, 1) := by decide +kernel
theorem dX11_ceiling_20 : decode cX11_ceiling 20 = .ok (.goto 4, 3) := by decide +kernel
theorem dX11_ceiling_23 : decode cX11_ceiling 23 = .ok (.iconst (-1), 1) := by decide +kernel
theorem dX11_ceiling_24 : decode cX11_ceiling 24 = .ok (.ireturn, 1) := by decide +kernel
theorem dX11_burst_0 : decode cX11_burst 0 = .ok (.aload_n 0, 1) := by decide +kernel
theorem dX11_burst_1 : decode cX11_burst 1 = .ok (.getfield 33, 3) := by decide +kernel
theorem dX11_burst_4 : decode cX11_burst 4 = .ok (.iload_n 1, 1) := by decide +kernel
theorem dX11_burst_5 : decode cX11_burst 5 = .ok (.invokevirtual 85, 3) := by decide +kernel
theorem dX11_burst_8 : decode cX11_burst 8 = .ok (.ifCond .eq 15, 3) := by decide +kernel
theorem dX11_burst_11 : decode cX11_burst 11 = .ok (.aload_n 0, 1) := by decide +kernel
theorem dX11_burst_12 : decode cX11_burst 12 = .ok (.getfield 33, 3) := by decide +kernel
theorem dX11_burst_15 : decode cX11_burst 15 = .ok (.getfield 117, 3) := by decide +kernel
theorem dX11_burst_18 : decode cX11_burst 18 = .ok (.iload_n 1, 1) := by decide +kernel
theorem dX11_burst_19 : decode cX11_burst 19 = .ok (.iaload, 1) := by decide +kernel
theorem dX11_burst_20 : decode cX11_burst 20 = .ok (.goto 4, 3) := by decide +kernel
theorem dX11_burst_23 : decode cX11_burst 23 = .ok (.iconst (-1), 1) := by decide +kernel
theorem dX11_burst_24 : decode cX11_burst 24 = .ok (.ireturn, 1) := by decide +kernel
theorem dX11_creditLimit_0 : decode cX11_creditLimit 0 = .ok (.aload_n 0, 1) := by decide +kernel
theorem dX11_creditLimit_1 : decode cX11_creditLimit 1 = .ok (.getfield 33, 3) := by decide +kernel
theorem dX11_creditLimit_4 : decode cX11_creditLimit 4 = .ok (.iload_n 1, 1) := by decide +kernel
theorem dX11_creditLimit_5 : decode cX11_creditLimit 5 = .ok (.invokevirtual 85, 3) := by decide +kernel
theorem dX11_creditLimit_8 : decode cX11_creditLimit 8 = .ok (.ifCond .eq 15, 3) := by decide +kernel
theorem dX11_creditLimit_11 : decode cX11_creditLimit 11 = .ok (.aload_n 0, 1) := by decide +kernel
theorem dX11_creditLimit_12 : decode cX11_creditLimit 12 = .ok (.getfield 33, 3) := by decide +kernel
theorem dX11_creditLimit_15 : decode cX11_creditLimit 15 = .ok (.getfield 120, 3) := by decide +kernel
theorem dX11_creditLimit_18 : decode cX11_creditLimit 18 = .ok (.iload_n 1, 1) := by decide +kernel
theorem dX11_creditLimit_19 : decode cX11_creditLimit 19 = .ok (.iaload, 1) := by decide +kernel
theorem dX11_creditLimit_20 : decode cX11_creditLimit 20 = .ok (.goto 4, 3) := by decide +kernel
theorem dX11_creditLimit_23 : decode cX11_creditLimit 23 = .ok (.iconst (-1), 1) := by decide +kernel
theorem dX11_creditLimit_24 : decode cX11_creditLimit 24 = .ok (.ireturn, 1) := by decide +kernel
theorem dX11_weight_0 : decode cX11_weight 0 = .ok (.aload_n 0, 1) := by decide +kernel
theorem dX11_weight_1 : decode cX11_weight 1 = .ok (.getfield 33, 3) := by decide +kernel
theorem dX11_weight_4 : decode cX11_weight 4 = .ok (.iload_n 1, 1) := by decide +kernel
theorem dX11_weight_5 : decode cX11_weight 5 = .ok (.invokevirtual 85, 3) := by decide +kernel
theorem dX11_weight_8 : decode cX11_weight 8 = .ok (.ifCond .eq 15, 3) := by decide +kernel
theorem dX11_weight_11 : decode cX11_weight 11 = .ok (.aload_n 0, 1) := by decide +kernel
theorem dX11_weight_12 : decode cX11_weight 12 = .ok (.getfield 40, 3) := by decide +kernel
theorem dX11_weight_15 : decode cX11_weight 15 = .ok (.getfield 123, 3) := by decide +kernel
theorem dX11_weight_18 : decode cX11_weight 18 = .ok (.iload_n 1, 1) := by decide +kernel
theorem dX11_weight_19 : decode cX11_weight 19 = .ok (.iaload, 1) := by decide +kernel
theorem dX11_weight_20 : decode cX11_weight 20 = .ok (.goto 4, 3) := by decide +kernel
theorem dX11_weight_23 : decode cX11_weight 23 = .ok (.iconst (-1), 1) := by decide +kernel
theorem dX11_weight_24 : decode cX11_weight 24 = .ok (.ireturn, 1) := by decide +kernel
theorem dX11_priority_0 : decode cX11_priority 0 = .ok (.aload_n 0, 1) := by decide +kernel
theorem dX11_priority_1 : decode cX11_priority 1 = .ok (.getfield 33, 3) := by decide +kernel
theorem dX11_priority_4 : decode cX11_priority 4 = .ok (.iload_n 1, 1) := by decide +kernel
theorem dX11_priority_5 : decode cX11_priority 5 = .ok (.invokevirtual 85, 3) := by decide +kernel
theorem dX11_priority_8 : decode cX11_priority 8 = .ok (.ifCond .eq 15, 3) := by decide +kernel
theorem dX11_priority_11 : decode cX11_priority 11 = .ok (.aload_n 0, 1) := by decide +kernel
theorem dX11_priority_12 : decode cX11_priority 12 = .ok (.getfield 33, 3) := by decide +kernel
theorem dX11_priority_15 : decode cX11_priority 15 = .ok (.getfield 126, 3) := by decide +kernel
theorem dX11_priority_18 : decode cX11_priority 18 = .ok (.iload_n 1, 1) := by decide +kernel
theorem dX11_priority_19 : decode cX11_priority 19 = .ok (.iaload, 1) := by decide +kernel
theorem dX11_priority_20 : decode cX11_priority 20 = .ok (.goto 4, 3) := by decide +kernel
theorem dX11_priority_23 : decode cX11_priority 23 = .ok (.iconst (-1), 1) := by decide +kernel
theorem dX11_priority_24 : decode cX11_priority 24 = .ok (.ireturn, 1) := by decide +kernel
theorem dX11_mayBorrow_0 : decode cX11_mayBorrow 0 = .ok (.aload_n 0, 1) := by decide +kernel
theorem dX11_mayBorrow_1 : decode cX11_mayBorrow 1 = .ok (.getfield 33, 3) := by decide +kernel
theorem dX11_mayBorrow_4 : decode cX11_mayBorrow 4 = .ok (.iload_n 1, 1) := by decide +kernel
theorem dX11_mayBorrow_5 : decode cX11_mayBorrow 5 = .ok (.invokevirtual 85, 3) := by decide +kernel
theorem dX11_mayBorrow_8 : decode cX11_mayBorrow 8 = .ok (.ifCond .eq 19, 3) := by decide +kernel
theorem dX11_mayBorrow_11 : decode cX11_mayBorrow 11 = .ok (.aload_n 0, 1) := by decide +kernel
theorem dX11_mayBorrow_12 : decode cX11_mayBorrow 12 = .ok (.getfield 33, 3) := by decide +kernel
theorem dX11_mayBorrow_15 : decode cX11_mayBorrow 15 = .ok (.getfield 129, 3) := by decide +kernel
theorem dX11_mayBorrow_18 : decode cX11_mayBorrow 18 = .ok (.iload_n 1, 1) := by decide +kernel
theorem dX11_mayBorrow_19 : decode cX11_mayBorrow 19 = .ok (.baload, 1) := by decide +kernel
theorem dX11_mayBorrow_20 : decode cX11_mayBorrow 20 = .ok (.ifCond .ne 7, 3) := by decide +kernel
theorem dX11_mayBorrow_23 : decode cX11_mayBorrow 23 = .ok (.iconst 1, 1) := by decide +kernel
theorem dX11_mayBorrow_24 : decode cX11_mayBorrow 24 = .ok (.goto 4, 3) := by decide +kernel
theorem dX11_mayBorrow_27 : decode cX11_mayBorrow 27 = .ok (.iconst 0, 1) := by decide +kernel
theorem dX11_mayBorrow_28 : decode cX11_mayBorrow 28 = .ok (.ireturn, 1) := by decide +kernel
theorem dX11_isOversubscribed_0 : decode cX11_isOversubscribed 0 = .ok (.aload_n 0, 1) := by decide +kernel
theorem dX11_isOversubscribed_1 : decode cX11_isOversubscribed 1 = .ok (.getfield 33, 3) := by decide +kernel
theorem dX11_isOversubscribed_4 : decode cX11_isOversubscribed 4 = .ok (.iload_n 1, 1) := by decide +kernel
theorem dX11_isOversubscribed_5 : decode cX11_isOversubscribed 5 = .ok (.invokevirtual 85, 3) := by decide +kernel
theorem dX11_isOversubscribed_8 : decode cX11_isOversubscribed 8 = .ok (.ifCond .eq 31, 3) := by decide +kernel
theorem dX11_isOversubscribed_11 : decode cX11_isOversubscribed 11 = .ok (.aload_n 0, 1) := by decide +kernel
theorem dX11_isOversubscribed_12 : decode cX11_isOversubscribed 12 = .ok (.getfield 40, 3) := by decide +kernel
theorem dX11_isOversubscribed_15 : decode cX11_isOversubscribed 15 = .ok (.aload_n 0, 1) := by decide +kernel
theorem dX11_isOversubscribed_16 : decode cX11_isOversubscribed 16 = .ok (.getfield 33, 3) := by decide +kernel
theorem dX11_isOversubscribed_19 : decode cX11_isOversubscribed 19 = .ok (.iload_n 1, 1) := by decide +kernel
theorem dX11_isOversubscribed_20 : decode cX11_isOversubscribed 20 = .ok (.invokevirtual 133, 3) := by decide +kernel
theorem dX11_isOversubscribed_23 : decode cX11_isOversubscribed 23 = .ok (.aload_n 0, 1) := by decide +kernel
theorem dX11_isOversubscribed_24 : decode cX11_isOversubscribed 24 = .ok (.getfield 40, 3) := by decide +kernel
theorem dX11_isOversubscribed_27 : decode cX11_isOversubscribed 27 = .ok (.getfield 111, 3) := by decide +kernel
theorem dX11_isOversubscribed_30 : decode cX11_isOversubscribed 30 = .ok (.iload_n 1, 1) := by decide +kernel
theorem dX11_isOversubscribed_31 : decode cX11_isOversubscribed 31 = .ok (.iaload, 1) := by decide +kernel
theorem dX11_isOversubscribed_32 : decode cX11_isOversubscribed 32 = .ok (.if_icmp .le 7, 3) := by decide +kernel
theorem dX11_isOversubscribed_35 : decode cX11_isOversubscribed 35 = .ok (.iconst 1, 1) := by decide +kernel
theorem dX11_isOversubscribed_36 : decode cX11_isOversubscribed 36 = .ok (.goto 4, 3) := by decide +kernel
theorem dX11_isOversubscribed_39 : decode cX11_isOversubscribed 39 = .ok (.iconst 0, 1) := by decide +kernel
theorem dX11_isOversubscribed_40 : decode cX11_isOversubscribed 40 = .ok (.ireturn, 1) := by decide +kernel
theorem dX11_pathCeiling_0 : decode cX11_pathCeiling 0 = .ok (.aload_n 0, 1) := by decide +kernel
theorem dX11_pathCeiling_1 : decode cX11_pathCeiling 1 = .ok (.getfield 33, 3) := by decide +kernel
theorem dX11_pathCeiling_4 : decode cX11_pathCeiling 4 = .ok (.iload_n 1, 1) := by decide +kernel
theorem dX11_pathCeiling_5 : decode cX11_pathCeiling 5 = .ok (.invokevirtual 85, 3) := by decide +kernel
theorem dX11_pathCeiling_8 : decode cX11_pathCeiling 8 = .ok (.ifCond .eq 18, 3) := by decide +kernel
theorem dX11_pathCeiling_11 : decode cX11_pathCeiling 11 = .ok (.aload_n 0, 1) := by decide +kernel
theorem dX11_pathCeiling_12 : decode cX11_pathCeiling 12 = .ok (.getfield 40, 3) := by decide +kernel
theorem dX11_pathCeiling_15 : decode cX11_pathCeiling 15 = .ok (.aload_n 0, 1) := by decide +kernel
theorem dX11_pathCeiling_16 : decode cX11_pathCeiling 16 = .ok (.getfield 33, 3) := by decide +kernel
theorem dX11_pathCeiling_19 : decode cX11_pathCeiling 19 = .ok (.iload_n 1, 1) := by decide +kernel
theorem dX11_pathCeiling_20 : decode cX11_pathCeiling 20 = .ok (.invokevirtual 137, 3) := by decide +kernel
theorem dX11_pathCeiling_23 : decode cX11_pathCeiling 23 = .ok (.goto 4, 3) := by decide +kernel
theorem dX11_pathCeiling_26 : decode cX11_pathCeiling 26 = .ok (.iconst (-1), 1) := by decide +kernel
theorem dX11_pathCeiling_27 : decode cX11_pathCeiling 27 = .ok (.ireturn, 1) := by decide +kernel
theorem dX11_time_0 : decode cX11_time 0 = .ok (.aload_n 0, 1) := by decide +kernel
theorem dX11_time_1 : decode cX11_time 1 = .ok (.getfield 40, 3) := by decide +kernel
theorem dX11_time_4 : decode cX11_time 4 = .ok (.getfield 140, 3) := by decide +kernel
theorem dX11_time_7 : decode cX11_time 7 = .ok (.ireturn, 1) := by decide +kernel
theorem dX11_tokens_0 : decode cX11_tokens 0 = .ok (.aload_n 0, 1) := by decide +kernel
theorem dX11_tokens_1 : decode cX11_tokens 1 = .ok (.getfield 33, 3) := by decide +kernel
theorem dX11_tokens_4 : decode cX11_tokens 4 = .ok (.iload_n 1, 1) := by decide +kernel
theorem dX11_tokens_5 : decode cX11_tokens 5 = .ok (.invokevirtual 85, 3) := by decide +kernel
theorem dX11_tokens_8 : decode cX11_tokens 8 = .ok (.ifCond .eq 18, 3) := by decide +kernel
theorem dX11_tokens_11 : decode cX11_tokens 11 = .ok (.aload_n 0, 1) := by decide +kernel
theorem dX11_tokens_12 : decode cX11_tokens 12 = .ok (.getfield 40, 3) := by decide +kernel
theorem dX11_tokens_15 : decode cX11_tokens 15 = .ok (.getfield 143, 3) := by decide +kernel
theorem dX11_tokens_18 : decode cX11_tokens 18 = .ok (.getfield 147, 3) := by decide +kernel
theorem dX11_tokens_21 : decode cX11_tokens 21 = .ok (.iload_n 1, 1) := by decide +kernel
theorem dX11_tokens_22 : decode cX11_tokens 22 = .ok (.iaload, 1) := by decide +kernel
theorem dX11_tokens_23 : decode cX11_tokens 23 = .ok (.goto 4, 3) := by decide +kernel
theorem dX11_tokens_26 : decode cX11_tokens 26 = .ok (.iconst (-1), 1) := by decide +kernel
theorem dX11_tokens_27 : decode cX11_tokens 27 = .ok (.ireturn, 1) := by decide +kernel
theorem dX11_credit_0 : decode cX11_credit 0 = .ok (.aload_n 0, 1) := by decide +kernel
theorem dX11_credit_1 : decode cX11_credit 1 = .ok (.getfield 33, 3) := by decide +kernel
theorem dX11_credit_4 : decode cX11_credit 4 = .ok (.iload_n 1, 1) := by decide +kernel
theorem dX11_credit_5 : decode cX11_credit 5 = .ok (.invokevirtual 85, 3) := by decide +kernel
theorem dX11_credit_8 : decode cX11_credit 8 = .ok (.ifCond .eq 18, 3) := by decide +kernel
theorem dX11_credit_11 : decode cX11_credit 11 = .ok (.aload_n 0, 1) := by decide +kernel
theorem dX11_credit_12 : decode cX11_credit 12 = .ok (.getfield 40, 3) := by decide +kernel
theorem dX11_credit_15 : decode cX11_credit 15 = .ok (.getfield 143, 3) := by decide +kernel
theorem dX11_credit_18 : decode cX11_credit 18 = .ok (.getfield 152, 3) := by decide +kernel
theorem dX11_credit_21 : decode cX11_credit 21 = .ok (.iload_n 1, 1) := by decide +kernel
theorem dX11_credit_22 : decode cX11_credit 22 = .ok (.iaload, 1) := by decide +kernel
theorem dX11_credit_23 : decode cX11_credit 23 = .ok (.goto 4, 3) := by decide +kernel
theorem dX11_credit_26 : decode cX11_credit 26 = .ok (.iconst (-1), 1) := by decide +kernel
theorem dX11_credit_27 : decode cX11_credit 27 = .ok (.ireturn, 1) := by decide +kernel
theorem dX11_headroom_0 : decode cX11_headroom 0 = .ok (.aload_n 0, 1) := by decide +kernel
theorem dX11_headroom_1 : decode cX11_headroom 1 = .ok (.getfield 33, 3) := by decide +kernel
theorem dX11_headroom_4 : decode cX11_headroom 4 = .ok (.iload_n 1, 1) := by decide +kernel
theorem dX11_headroom_5 : decode cX11_headroom 5 = .ok (.invokevirtual 85, 3) := by decide +kernel
theorem dX11_headroom_8 : decode cX11_headroom 8 = .ok (.ifCond .eq 18, 3) := by decide +kernel
theorem dX11_headroom_11 : decode cX11_headroom 11 = .ok (.aload_n 0, 1) := by decide +kernel
theorem dX11_headroom_12 : decode cX11_headroom 12 = .ok (.getfield 40, 3) := by decide +kernel
theorem dX11_headroom_15 : decode cX11_headroom 15 = .ok (.getfield 143, 3) := by decide +kernel
theorem dX11_headroom_18 : decode cX11_headroom 18 = .ok (.getfield 155, 3) := by decide +kernel
theorem dX11_headroom_21 : decode cX11_headroom 21 = .ok (.iload_n 1, 1) := by decide +kernel
theorem dX11_headroom_22 : decode cX11_headroom 22 = .ok (.iaload, 1) := by decide +kernel
theorem dX11_headroom_23 : decode cX11_headroom 23 = .ok (.goto 4, 3) := by decide +kernel
theorem dX11_headroom_26 : decode cX11_headroom 26 = .ok (.iconst (-1), 1) := by decide +kernel
theorem dX11_headroom_27 : decode cX11_headroom 27 = .ok (.ireturn, 1) := by decide +kernel
theorem dX11_lender_0 : decode cX11_lender 0 = .ok (.aload_n 0, 1) := by decide +kernel
theorem dX11_lender_1 : decode cX11_lender 1 = .ok (.iload_n 1, 1) := by decide +kernel
theorem dX11_lender_2 : decode cX11_lender 2 = .ok (.iload_n 2, 1) := by decide +kernel
theorem dX11_lender_3 : decode cX11_lender 3 = .ok (.invokevirtual 158, 3) := by decide +kernel
theorem dX11_lender_6 : decode cX11_lender 6 = .ok (.ifCond .eq 22, 3) := by decide +kernel
theorem dX11_lender_9 : decode cX11_lender 9 = .ok (.aload_n 0, 1) := by decide +kernel
theorem dX11_lender_10 : decode cX11_lender 10 = .ok (.getfield 40, 3) := by decide +kernel
theorem dX11_lender_13 : decode cX11_lender 13 = .ok (.getfield 143, 3) := by decide +kernel
theorem dX11_lender_16 : decode cX11_lender 16 = .ok (.aload_n 0, 1) := by decide +kernel
theorem dX11_lender_17 : decode cX11_lender 17 = .ok (.getfield 33, 3) := by decide +kernel
theorem dX11_lender_20 : decode cX11_lender 20 = .ok (.iload_n 1, 1) := by decide +kernel
theorem dX11_lender_21 : decode cX11_lender 21 = .ok (.iload_n 2, 1) := by decide +kernel
theorem dX11_lender_22 : decode cX11_lender 22 = .ok (.invokevirtual 162, 3) := by decide +kernel
theorem dX11_lender_25 : decode cX11_lender 25 = .ok (.goto 4, 3) := by decide +kernel
theorem dX11_lender_28 : decode cX11_lender 28 = .ok (.iconst (-1), 1) := by decide +kernel
theorem dX11_lender_29 : decode cX11_lender 29 = .ok (.ireturn, 1) := by decide +kernel
theorem dX11_greatestCost_0 : decode cX11_greatestCost 0 = .ok (.aload_n 0, 1) := by decide +kernel
theorem dX11_greatestCost_1 : decode cX11_greatestCost 1 = .ok (.getfield 33, 3) := by decide +kernel
theorem dX11_greatestCost_4 : decode cX11_greatestCost 4 = .ok (.iload_n 1, 1) := by decide +kernel
theorem dX11_greatestCost_5 : decode cX11_greatestCost 5 = .ok (.invokevirtual 105, 3) := by decide +kernel
theorem dX11_greatestCost_8 : decode cX11_greatestCost 8 = .ok (.ifCond .ne 5, 3) := by decide +kernel
theorem dX11_greatestCost_11 : decode cX11_greatestCost 11 = .ok (.iconst (-1), 1) := by decide +kernel
theorem dX11_greatestCost_12 : decode cX11_greatestCost 12 = .ok (.ireturn, 1) := by decide +kernel
theorem dX11_greatestCost_13 : decode cX11_greatestCost 13 = .ok (.bipush 99, 2) := by decide +kernel
theorem dX11_greatestCost_15 : decode cX11_greatestCost 15 = .ok (.istore_n 2, 1) := by decide +kernel
theorem dX11_greatestCost_16 : decode cX11_greatestCost 16 = .ok (.iload_n 2, 1) := by decide +kernel
theorem dX11_greatestCost_17 : decode cX11_greatestCost 17 = .ok (.ifCond .le 32, 3) := by decide +kernel
theorem dX11_greatestCost_20 : decode cX11_greatestCost 20 = .ok (.aload_n 0, 1) := by decide +kernel
theorem dX11_greatestCost_21 : decode cX11_greatestCost 21 = .ok (.getfield 40, 3) := by decide +kernel
theorem dX11_greatestCost_24 : decode cX11_greatestCost 24 = .ok (.getfield 143, 3) := by decide +kernel
theorem dX11_greatestCost_27 : decode cX11_greatestCost 27 = .ok (.aload_n 0, 1) := by decide +kernel
theorem dX11_greatestCost_28 : decode cX11_greatestCost 28 = .ok (.getfield 33, 3) := by decide +kernel
theorem dX11_greatestCost_31 : decode cX11_greatestCost 31 = .ok (.iload_n 1, 1) := by decide +kernel
theorem dX11_greatestCost_32 : decode cX11_greatestCost 32 = .ok (.iload_n 2, 1) := by decide +kernel
theorem dX11_greatestCost_33 : decode cX11_greatestCost 33 = .ok (.invokevirtual 162, 3) := by decide +kernel
theorem dX11_greatestCost_36 : decode cX11_greatestCost 36 = .ok (.bipush (-2), 2) := by decide +kernel
theorem dX11_greatestCost_38 : decode cX11_greatestCost 38 = .ok (.if_icmp .eq 5, 3) := by decide +kernel
theorem dX11_greatestCost_41 : decode cX11_greatestCost 41 = .ok (.iload_n 2, 1) := by decide +kernel
theorem dX11_greatestCost_42 : decode cX11_greatestCost 42 = .ok (.ireturn, 1) := by decide +kernel
theorem dX11_greatestCost_43 : decode cX11_greatestCost 43 = .ok (.iinc 2 (-1), 3) := by decide +kernel
theorem dX11_greatestCost_46 : decode cX11_greatestCost 46 = .ok (.goto (-30), 3) := by decide +kernel
theorem dX11_greatestCost_49 : decode cX11_greatestCost 49 = .ok (.iconst 0, 1) := by decide +kernel
theorem dX11_greatestCost_50 : decode cX11_greatestCost 50 = .ok (.ireturn, 1) := by decide +kernel
theorem dX11_acquire_0 : decode cX11_acquire 0 = .ok (.aload_n 0, 1) := by decide +kernel
theorem dX11_acquire_1 : decode cX11_acquire 1 = .ok (.iload_n 1, 1) := by decide +kernel
theorem dX11_acquire_2 : decode cX11_acquire 2 = .ok (.iload_n 2, 1) := by decide +kernel
theorem dX11_acquire_3 : decode cX11_acquire 3 = .ok (.invokevirtual 158, 3) := by decide +kernel
theorem dX11_acquire_6 : decode cX11_acquire 6 = .ok (.ifCond .ne 5, 3) := by decide +kernel
theorem dX11_acquire_9 : decode cX11_acquire 9 = .ok (.iconst (-1), 1) := by decide +kernel
theorem dX11_acquire_10 : decode cX11_acquire 10 = .ok (.ireturn, 1) := by decide +kernel
theorem dX11_acquire_11 : decode cX11_acquire 11 = .ok (.aload_n 0, 1) := by decide +kernel
theorem dX11_acquire_12 : decode cX11_acquire 12 = .ok (.getfield 40, 3) := by decide +kernel
theorem dX11_acquire_15 : decode cX11_acquire 15 = .ok (.getfield 143, 3) := by decide +kernel
theorem dX11_acquire_18 : decode cX11_acquire 18 = .ok (.aload_n 0, 1) := by decide +kernel
theorem dX11_acquire_19 : decode cX11_acquire 19 = .ok (.getfield 33, 3) := by decide +kernel
theorem dX11_acquire_22 : decode cX11_acquire 22 = .ok (.iload_n 1, 1) := by decide +kernel
theorem dX11_acquire_23 : decode cX11_acquire 23 = .ok (.iload_n 2, 1) := by decide +kernel
theorem dX11_acquire_24 : decode cX11_acquire 24 = .ok (.invokevirtual 162, 3) := by decide +kernel
theorem dX11_acquire_27 : decode cX11_acquire 27 = .ok (.istore_n 3, 1) := by decide +kernel
theorem dX11_acquire_28 : decode cX11_acquire 28 = .ok (.iload_n 3, 1) := by decide +kernel
theorem dX11_acquire_29 : decode cX11_acquire 29 = .ok (.bipush (-2), 2) := by decide +kernel
theorem dX11_acquire_31 : decode cX11_acquire 31 = .ok (.if_icmp .ne 6, 3) := by decide +kernel
theorem dX11_acquire_34 : decode cX11_acquire 34 = .ok (.bipush (-2), 2) := by decide +kernel
theorem dX11_acquire_36 : decode cX11_acquire 36 = .ok (.ireturn, 1) := by decide +kernel
theorem dX11_acquire_37 : decode cX11_acquire 37 = .ok (.aload_n 0, 1) := by decide +kernel
theorem dX11_acquire_38 : decode cX11_acquire 38 = .ok (.getfield 40, 3) := by decide +kernel
theorem dX11_acquire_41 : decode cX11_acquire 41 = .ok (.aload_n 0, 1) := by decide +kernel
theorem dX11_acquire_42 : decode cX11_acquire 42 = .ok (.getfield 33, 3) := by decide +kernel
theorem dX11_acquire_45 : decode cX11_acquire 45 = .ok (.iload_n 1, 1) := by decide +kernel
theorem dX11_acquire_46 : decode cX11_acquire 46 = .ok (.iload_n 3, 1) := by decide +kernel
theorem dX11_acquire_47 : decode cX11_acquire 47 = .ok (.iload_n 2, 1) := by decide +kernel
theorem dX11_acquire_48 : decode cX11_acquire 48 = .ok (.invokevirtual 166, 3) := by decide +kernel
theorem dX11_acquire_51 : decode cX11_acquire 51 = .ok (.aload_n 0, 1) := by decide +kernel
theorem dX11_acquire_52 : decode cX11_acquire 52 = .ok (.getfield 33, 3) := by decide +kernel
theorem dX11_acquire_55 : decode cX11_acquire 55 = .ok (.iload_n 1, 1) := by decide +kernel
theorem dX11_acquire_56 : decode cX11_acquire 56 = .ok (.iload_n 3, 1) := by decide +kernel
theorem dX11_acquire_57 : decode cX11_acquire 57 = .ok (.invokevirtual 170, 3) := by decide +kernel
theorem dX11_acquire_60 : decode cX11_acquire 60 = .ok (.ireturn, 1) := by decide +kernel
theorem dX11_waitTime_0 : decode cX11_waitTime 0 = .ok (.aload_n 0, 1) := by decide +kernel
theorem dX11_waitTime_1 : decode cX11_waitTime 1 = .ok (.iload_n 1, 1) := by decide +kernel
theorem dX11_waitTime_2 : decode cX11_waitTime 2 = .ok (.iload_n 2, 1) := by decide +kernel
theorem dX11_waitTime_3 : decode cX11_waitTime 3 = .ok (.invokevirtual 158, 3) := by decide +kernel
theorem dX11_waitTime_6 : decode cX11_waitTime 6 = .ok (.ifCond .eq 19, 3) := by decide +kernel
theorem dX11_waitTime_9 : decode cX11_waitTime 9 = .ok (.aload_n 0, 1) := by decide +kernel
theorem dX11_waitTime_10 : decode cX11_waitTime 10 = .ok (.getfield 40, 3) := by decide +kernel
theorem dX11_waitTime_13 : decode cX11_waitTime 13 = .ok (.aload_n 0, 1) := by decide +kernel
theorem dX11_waitTime_14 : decode cX11_waitTime 14 = .ok (.getfield 33, 3) := by decide +kernel
theorem dX11_waitTime_17 : decode cX11_waitTime 17 = .ok (.iload_n 1, 1) := by decide +kernel
theorem dX11_waitTime_18 : decode cX11_waitTime 18 = .ok (.iload_n 2, 1) := by decide +kernel
theorem dX11_waitTime_19 : decode cX11_waitTime 19 = .ok (.invokevirtual 176, 3) := by decide +kernel
theorem dX11_waitTime_22 : decode cX11_waitTime 22 = .ok (.goto 4, 3) := by decide +kernel
theorem dX11_waitTime_25 : decode cX11_waitTime 25 = .ok (.iconst (-1), 1) := by decide +kernel
theorem dX11_waitTime_26 : decode cX11_waitTime 26 = .ok (.ireturn, 1) := by decide +kernel
theorem dX11_repeats_0 : decode cX11_repeats 0 = .ok (.aload_n 0, 1) := by decide +kernel
theorem dX11_repeats_1 : decode cX11_repeats 1 = .ok (.iload_n 1, 1) := by decide +kernel
theorem dX11_repeats_2 : decode cX11_repeats 2 = .ok (.iload_n 2, 1) := by decide +kernel
theorem dX11_repeats_3 : decode cX11_repeats 3 = .ok (.invokevirtual 158, 3) := by decide +kernel
theorem dX11_repeats_6 : decode cX11_repeats 6 = .ok (.ifCond .ne 5, 3) := by decide +kernel
theorem dX11_repeats_9 : decode cX11_repeats 9 = .ok (.iconst (-1), 1) := by decide +kernel
theorem dX11_repeats_10 : decode cX11_repeats 10 = .ok (.ireturn, 1) := by decide +kernel
theorem dX11_repeats_11 : decode cX11_repeats 11 = .ok (.aload_n 0, 1) := by decide +kernel
theorem dX11_repeats_12 : decode cX11_repeats 12 = .ok (.getfield 44, 3) := by decide +kernel
theorem dX11_repeats_15 : decode cX11_repeats 15 = .ok (.getfield 143, 3) := by decide +kernel
theorem dX11_repeats_18 : decode cX11_repeats 18 = .ok (.aload_n 0, 1) := by decide +kernel
theorem dX11_repeats_19 : decode cX11_repeats 19 = .ok (.getfield 40, 3) := by decide +kernel
theorem dX11_repeats_22 : decode cX11_repeats 22 = .ok (.getfield 143, 3) := by decide +kernel
theorem dX11_repeats_25 : decode cX11_repeats 25 = .ok (.invokevirtual 179, 3) := by decide +kernel
theorem dX11_repeats_28 : decode cX11_repeats 28 = .ok (.aload_n 0, 1) := by decide +kernel
theorem dX11_repeats_29 : decode cX11_repeats 29 = .ok (.getfield 44, 3) := by decide +kernel
theorem dX11_repeats_32 : decode cX11_repeats 32 = .ok (.getfield 143, 3) := by decide +kernel
theorem dX11_repeats_35 : decode cX11_repeats 35 = .ok (.aload_n 0, 1) := by decide +kernel
theorem dX11_repeats_36 : decode cX11_repeats 36 = .ok (.getfield 33, 3) := by decide +kernel
theorem dX11_repeats_39 : decode cX11_repeats 39 = .ok (.iload_n 1, 1) := by decide +kernel
theorem dX11_repeats_40 : decode cX11_repeats 40 = .ok (.iload_n 2, 1) := by decide +kernel
theorem dX11_repeats_41 : decode cX11_repeats 41 = .ok (.invokevirtual 183, 3) := by decide +kernel
theorem dX11_repeats_44 : decode cX11_repeats 44 = .ok (.ireturn, 1) := by decide +kernel
theorem dX11_refusal_0 : decode cX11_refusal 0 = .ok (.aload_n 0, 1) := by decide +kernel
theorem dX11_refusal_1 : decode cX11_refusal 1 = .ok (.iload_n 1, 1) := by decide +kernel
theorem dX11_refusal_2 : decode cX11_refusal 2 = .ok (.iload_n 2, 1) := by decide +kernel
theorem dX11_refusal_3 : decode cX11_refusal 3 = .ok (.invokevirtual 158, 3) := by decide +kernel
theorem dX11_refusal_6 : decode cX11_refusal 6 = .ok (.ifCond .ne 5, 3) := by decide +kernel
theorem dX11_refusal_9 : decode cX11_refusal 9 = .ok (.iconst (-1), 1) := by decide +kernel
theorem dX11_refusal_10 : decode cX11_refusal 10 = .ok (.ireturn, 1) := by decide +kernel
theorem dX11_refusal_11 : decode cX11_refusal 11 = .ok (.aload_n 0, 1) := by decide +kernel
theorem dX11_refusal_12 : decode cX11_refusal 12 = .ok (.getfield 40, 3) := by decide +kernel
theorem dX11_refusal_15 : decode cX11_refusal 15 = .ok (.getfield 143, 3) := by decide +kernel
theorem dX11_refusal_18 : decode cX11_refusal 18 = .ok (.aload_n 0, 1) := by decide +kernel
theorem dX11_refusal_19 : decode cX11_refusal 19 = .ok (.getfield 33, 3) := by decide +kernel
theorem dX11_refusal_22 : decode cX11_refusal 22 = .ok (.iload_n 1, 1) := by decide +kernel
theorem dX11_refusal_23 : decode cX11_refusal 23 = .ok (.iload_n 2, 1) := by decide +kernel
theorem dX11_refusal_24 : decode cX11_refusal 24 = .ok (.invokevirtual 186, 3) := by decide +kernel
theorem dX11_refusal_27 : decode cX11_refusal 27 = .ok (.bipush (-2), 2) := by decide +kernel
theorem dX11_refusal_29 : decode cX11_refusal 29 = .ok (.if_icmp .eq 5, 3) := by decide +kernel
theorem dX11_refusal_32 : decode cX11_refusal 32 = .ok (.iconst 1, 1) := by decide +kernel
theorem dX11_refusal_33 : decode cX11_refusal 33 = .ok (.ireturn, 1) := by decide +kernel
theorem dX11_refusal_34 : decode cX11_refusal 34 = .ok (.aload_n 0, 1) := by decide +kernel
theorem dX11_refusal_35 : decode cX11_refusal 35 = .ok (.getfield 40, 3) := by decide +kernel
theorem dX11_refusal_38 : decode cX11_refusal 38 = .ok (.getfield 143, 3) := by decide +kernel
theorem dX11_refusal_41 : decode cX11_refusal 41 = .ok (.aload_n 0, 1) := by decide +kernel
theorem dX11_refusal_42 : decode cX11_refusal 42 = .ok (.getfield 33, 3) := by decide +kernel
theorem dX11_refusal_45 : decode cX11_refusal 45 = .ok (.iload_n 1, 1) := by decide +kernel
theorem dX11_refusal_46 : decode cX11_refusal 46 = .ok (.iload_n 2, 1) := by decide +kernel
theorem dX11_refusal_47 : decode cX11_refusal 47 = .ok (.invokevirtual 162, 3) := by decide +kernel
theorem dX11_refusal_50 : decode cX11_refusal 50 = .ok (.bipush (-2), 2) := by decide +kernel
theorem dX11_refusal_52 : decode cX11_refusal 52 = .ok (.if_icmp .ne 7, 3) := by decide +kernel
theorem dX11_refusal_55 : decode cX11_refusal 55 = .ok (.iconst 2, 1) := by decide +kernel
theorem dX11_refusal_56 : decode cX11_refusal 56 = .ok (.goto 4, 3) := by decide +kernel
theorem dX11_refusal_59 : decode cX11_refusal 59 = .ok (.iconst 0, 1) := by decide +kernel
theorem dX11_refusal_60 : decode cX11_refusal 60 = .ok (.ireturn, 1) := by decide +kernel
theorem dX11_blockingNode_0 : decode cX11_blockingNode 0 = .ok (.aload_n 0, 1) := by decide +kernel
theorem dX11_blockingNode_1 : decode cX11_blockingNode 1 = .ok (.iload_n 1, 1) := by decide +kernel
theorem dX11_blockingNode_2 : decode cX11_blockingNode 2 = .ok (.iload_n 2, 1) := by decide +kernel
theorem dX11_blockingNode_3 : decode cX11_blockingNode 3 = .ok (.invokevirtual 158, 3) := by decide +kernel
theorem dX11_blockingNode_6 : decode cX11_blockingNode 6 = .ok (.ifCond .eq 22, 3) := by decide +kernel
theorem dX11_blockingNode_9 : decode cX11_blockingNode 9 = .ok (.aload_n 0, 1) := by decide +kernel
theorem dX11_blockingNode_10 : decode cX11_blockingNode 10 = .ok (.getfield 40, 3) := by decide +kernel
theorem dX11_blockingNode_13 : decode cX11_blockingNode 13 = .ok (.getfield 143, 3) := by decide +kernel
theorem dX11_blockingNode_16 : decode cX11_blockingNode 16 = .ok (.aload_n 0, 1) := by decide +kernel
theorem dX11_blockingNode_17 : decode cX11_blockingNode 17 = .ok (.getfield 33, 3) := by decide +kernel
theorem dX11_blockingNode_20 : decode cX11_blockingNode 20 = .ok (.iload_n 1, 1) := by decide +kernel
theorem dX11_blockingNode_21 : decode cX11_blockingNode 21 = .ok (.iload_n 2, 1) := by decide +kernel
theorem dX11_blockingNode_22 : decode cX11_blockingNode 22 = .ok (.invokevirtual 186, 3) := by decide +kernel
theorem dX11_blockingNode_25 : decode cX11_blockingNode 25 = .ok (.goto 4, 3) := by decide +kernel
theorem dX11_blockingNode_28 : decode cX11_blockingNode 28 = .ok (.iconst (-1), 1) := by decide +kernel
theorem dX11_blockingNode_29 : decode cX11_blockingNode 29 = .ok (.ireturn, 1) := by decide +kernel
theorem dX11_queueLength_0 : decode cX11_queueLength 0 = .ok (.aload_n 0, 1) := by decide +kernel
theorem dX11_queueLength_1 : decode cX11_queueLength 1 = .ok (.getfield 33, 3) := by decide +kernel
theorem dX11_queueLength_4 : decode cX11_queueLength 4 = .ok (.iload_n 1, 1) := by decide +kernel
theorem dX11_queueLength_5 : decode cX11_queueLength 5 = .ok (.invokevirtual 105, 3) := by decide +kernel
theorem dX11_queueLength_8 : decode cX11_queueLength 8 = .ok (.ifCond .eq 18, 3) := by decide +kernel
theorem dX11_queueLength_11 : decode cX11_queueLength 11 = .ok (.aload_n 0, 1) := by decide +kernel
theorem dX11_queueLength_12 : decode cX11_queueLength 12 = .ok (.getfield 40, 3) := by decide +kernel
theorem dX11_queueLength_15 : decode cX11_queueLength 15 = .ok (.getfield 189, 3) := by decide +kernel
theorem dX11_queueLength_18 : decode cX11_queueLength 18 = .ok (.getfield 193, 3) := by decide +kernel
theorem dX11_queueLength_21 : decode cX11_queueLength 21 = .ok (.iload_n 1, 1) := by decide +kernel
theorem dX11_queueLength_22 : decode cX11_queueLength 22 = .ok (.iaload, 1) := by decide +kernel
theorem dX11_queueLength_23 : decode cX11_queueLength 23 = .ok (.goto 4, 3) := by decide +kernel
theorem dX11_queueLength_26 : decode cX11_queueLength 26 = .ok (.iconst (-1), 1) := by decide +kernel
theorem dX11_queueLength_27 : decode cX11_queueLength 27 = .ok (.ireturn, 1) := by decide +kernel
theorem dX11_nextLeaf_0 : decode cX11_nextLeaf 0 = .ok (.aload_n 0, 1) := by decide +kernel
theorem dX11_nextLeaf_1 : decode cX11_nextLeaf 1 = .ok (.getfield 40, 3) := by decide +kernel
theorem dX11_nextLeaf_4 : decode cX11_nextLeaf 4 = .ok (.aload_n 0, 1) := by decide +kernel
theorem dX11_nextLeaf_5 : decode cX11_nextLeaf 5 = .ok (.getfield 33, 3) := by decide +kernel
theorem dX11_nextLeaf_8 : decode cX11_nextLeaf 8 = .ok (.invokevirtual 197, 3) := by decide +kernel
theorem dX11_nextLeaf_11 : decode cX11_nextLeaf 11 = .ok (.ireturn, 1) := by decide +kernel
theorem dX11_advance_0 : decode cX11_advance 0 = .ok (.aload_n 0, 1) := by decide +kernel
theorem dX11_advance_1 : decode cX11_advance 1 = .ok (.iload_n 1, 1) := by decide +kernel
theorem dX11_advance_2 : decode cX11_advance 2 = .ok (.invokevirtual 217, 3) := by decide +kernel
theorem dX11_advance_5 : decode cX11_advance 5 = .ok (.ifCond .eq 18, 3) := by decide +kernel
theorem dX11_advance_8 : decode cX11_advance 8 = .ok (.aload_n 0, 1) := by decide +kernel
theorem dX11_advance_9 : decode cX11_advance 9 = .ok (.getfield 40, 3) := by decide +kernel
theorem dX11_advance_12 : decode cX11_advance 12 = .ok (.aload_n 0, 1) := by decide +kernel
theorem dX11_advance_13 : decode cX11_advance 13 = .ok (.getfield 33, 3) := by decide +kernel
theorem dX11_advance_16 : decode cX11_advance 16 = .ok (.iload_n 1, 1) := by decide +kernel
theorem dX11_advance_17 : decode cX11_advance 17 = .ok (.invokevirtual 220, 3) := by decide +kernel
theorem dX11_advance_20 : decode cX11_advance 20 = .ok (.goto 4, 3) := by decide +kernel
theorem dX11_advance_23 : decode cX11_advance 23 = .ok (.iconst (-1), 1) := by decide +kernel
theorem dX11_advance_24 : decode cX11_advance 24 = .ok (.ireturn, 1) := by decide +kernel
theorem dX11_sentCost_0 : decode cX11_sentCost 0 = .ok (.aload_n 0, 1) := by decide +kernel
theorem dX11_sentCost_1 : decode cX11_sentCost 1 = .ok (.getfield 33, 3) := by decide +kernel
theorem dX11_sentCost_4 : decode cX11_sentCost 4 = .ok (.iload_n 1, 1) := by decide +kernel
theorem dX11_sentCost_5 : decode cX11_sentCost 5 = .ok (.invokevirtual 105, 3) := by decide +kernel
theorem dX11_sentCost_8 : decode cX11_sentCost 8 = .ok (.ifCond .eq 18, 3) := by decide +kernel
theorem dX11_sentCost_11 : decode cX11_sentCost 11 = .ok (.aload_n 0, 1) := by decide +kernel
theorem dX11_sentCost_12 : decode cX11_sentCost 12 = .ok (.getfield 40, 3) := by decide +kernel
theorem dX11_sentCost_15 : decode cX11_sentCost 15 = .ok (.getfield 226, 3) := by decide +kernel
theorem dX11_sentCost_18 : decode cX11_sentCost 18 = .ok (.getfield 243, 3) := by decide +kernel
theorem dX11_sentCost_21 : decode cX11_sentCost 21 = .ok (.iload_n 1, 1) := by decide +kernel
theorem dX11_sentCost_22 : decode cX11_sentCost 22 = .ok (.iaload, 1) := by decide +kernel
theorem dX11_sentCost_23 : decode cX11_sentCost 23 = .ok (.goto 4, 3) := by decide +kernel
theorem dX11_sentCost_26 : decode cX11_sentCost 26 = .ok (.iconst (-1), 1) := by decide +kernel
theorem dX11_sentCost_27 : decode cX11_sentCost 27 = .ok (.ireturn, 1) := by decide +kernel
theorem dX11_sentCount_0 : decode cX11_sentCount 0 = .ok (.aload_n 0, 1) := by decide +kernel
theorem dX11_sentCount_1 : decode cX11_sentCount 1 = .ok (.getfield 33, 3) := by decide +kernel
theorem dX11_sentCount_4 : decode cX11_sentCount 4 = .ok (.iload_n 1, 1) := by decide +kernel
theorem dX11_sentCount_5 : decode cX11_sentCount 5 = .ok (.invokevirtual 105, 3) := by decide +kernel
theorem dX11_sentCount_8 : decode cX11_sentCount 8 = .ok (.ifCond .eq 18, 3) := by decide +kernel
theorem dX11_sentCount_11 : decode cX11_sentCount 11 = .ok (.aload_n 0, 1) := by decide +kernel
theorem dX11_sentCount_12 : decode cX11_sentCount 12 = .ok (.getfield 40, 3) := by decide +kernel
theorem dX11_sentCount_15 : decode cX11_sentCount 15 = .ok (.getfield 226, 3) := by decide +kernel
theorem dX11_sentCount_18 : decode cX11_sentCount 18 = .ok (.getfield 230, 3) := by decide +kernel
theorem dX11_sentCount_21 : decode cX11_sentCount 21 = .ok (.iload_n 1, 1) := by decide +kernel
theorem dX11_sentCount_22 : decode cX11_sentCount 22 = .ok (.iaload, 1) := by decide +kernel
theorem dX11_sentCount_23 : decode cX11_sentCount 23 = .ok (.goto 4, 3) := by decide +kernel
theorem dX11_sentCount_26 : decode cX11_sentCount 26 = .ok (.iconst (-1), 1) := by decide +kernel
theorem dX11_sentCount_27 : decode cX11_sentCount 27 = .ok (.ireturn, 1) := by decide +kernel
theorem dX11_borrowedCost_0 : decode cX11_borrowedCost 0 = .ok (.aload_n 0, 1) := by decide +kernel
theorem dX11_borrowedCost_1 : decode cX11_borrowedCost 1 = .ok (.getfield 33, 3) := by decide +kernel
theorem dX11_borrowedCost_4 : decode cX11_borrowedCost 4 = .ok (.iload_n 1, 1) := by decide +kernel
theorem dX11_borrowedCost_5 : decode cX11_borrowedCost 5 = .ok (.invokevirtual 105, 3) := by decide +kernel
theorem dX11_borrowedCost_8 : decode cX11_borrowedCost 8 = .ok (.ifCond .eq 18, 3) := by decide +kernel
theorem dX11_borrowedCost_11 : decode cX11_borrowedCost 11 = .ok (.aload_n 0, 1) := by decide +kernel
theorem dX11_borrowedCost_12 : decode cX11_borrowedCost 12 = .ok (.getfield 40, 3) := by decide +kernel
theorem dX11_borrowedCost_15 : decode cX11_borrowedCost 15 = .ok (.getfield 226, 3) := by decide +kernel
theorem dX11_borrowedCost_18 : decode cX11_borrowedCost 18 = .ok (.getfield 246, 3) := by decide +kernel
theorem dX11_borrowedCost_21 : decode cX11_borrowedCost 21 = .ok (.iload_n 1, 1) := by decide +kernel
theorem dX11_borrowedCost_22 : decode cX11_borrowedCost 22 = .ok (.iaload, 1) := by decide +kernel
theorem dX11_borrowedCost_23 : decode cX11_borrowedCost 23 = .ok (.goto 4, 3) := by decide +kernel
theorem dX11_borrowedCost_26 : decode cX11_borrowedCost 26 = .ok (.iconst (-1), 1) := by decide +kernel
theorem dX11_borrowedCost_27 : decode cX11_borrowedCost 27 = .ok (.ireturn, 1) := by decide +kernel
theorem dX11_lentCost_0 : decode cX11_lentCost 0 = .ok (.aload_n 0, 1) := by decide +kernel
theorem dX11_lentCost_1 : decode cX11_lentCost 1 = .ok (.getfield 33, 3) := by decide +kernel
theorem dX11_lentCost_4 : decode cX11_lentCost 4 = .ok (.iload_n 1, 1) := by decide +kernel
theorem dX11_lentCost_5 : decode cX11_lentCost 5 = .ok (.invokevirtual 85, 3) := by decide +kernel
theorem dX11_lentCost_8 : decode cX11_lentCost 8 = .ok (.ifCond .eq 18, 3) := by decide +kernel
theorem dX11_lentCost_11 : decode cX11_lentCost 11 = .ok (.aload_n 0, 1) := by decide +kernel
theorem dX11_lentCost_12 : decode cX11_lentCost 12 = .ok (.getfield 40, 3) := by decide +kernel
theorem dX11_lentCost_15 : decode cX11_lentCost 15 = .ok (.getfield 226, 3) := by decide +kernel
theorem dX11_lentCost_18 : decode cX11_lentCost 18 = .ok (.getfield 249, 3) := by decide +kernel
theorem dX11_lentCost_21 : decode cX11_lentCost 21 = .ok (.iload_n 1, 1) := by decide +kernel
theorem dX11_lentCost_22 : decode cX11_lentCost 22 = .ok (.iaload, 1) := by decide +kernel
theorem dX11_lentCost_23 : decode cX11_lentCost 23 = .ok (.goto 4, 3) := by decide +kernel
theorem dX11_lentCost_26 : decode cX11_lentCost 26 = .ok (.iconst (-1), 1) := by decide +kernel
theorem dX11_lentCost_27 : decode cX11_lentCost 27 = .ok (.ireturn, 1) := by decide +kernel
theorem dX11_droppedCount_0 : decode cX11_droppedCount 0 = .ok (.aload_n 0, 1) := by decide +kernel
theorem dX11_droppedCount_1 : decode cX11_droppedCount 1 = .ok (.getfield 33, 3) := by decide +kernel
theorem dX11_droppedCount_4 : decode cX11_droppedCount 4 = .ok (.iload_n 1, 1) := by decide +kernel
theorem dX11_droppedCount_5 : decode cX11_droppedCount 5 = .ok (.invokevirtual 105, 3) := by decide +kernel
theorem dX11_droppedCount_8 : decode cX11_droppedCount 8 = .ok (.ifCond .eq 18, 3) := by decide +kernel
theorem dX11_droppedCount_11 : decode cX11_droppedCount 11 = .ok (.aload_n 0, 1) := by decide +kernel
theorem dX11_droppedCount_12 : decode cX11_droppedCount 12 = .ok (.getfield 40, 3) := by decide +kernel
theorem dX11_droppedCount_15 : decode cX11_droppedCount 15 = .ok (.getfield 226, 3) := by decide +kernel
theorem dX11_droppedCount_18 : decode cX11_droppedCount 18 = .ok (.getfield 252, 3) := by decide +kernel
theorem dX11_droppedCount_21 : decode cX11_droppedCount 21 = .ok (.iload_n 1, 1) := by decide +kernel
theorem dX11_droppedCount_22 : decode cX11_droppedCount 22 = .ok (.iaload, 1) := by decide +kernel
theorem dX11_droppedCount_23 : decode cX11_droppedCount 23 = .ok (.goto 4, 3) := by decide +kernel
theorem dX11_droppedCount_26 : decode cX11_droppedCount 26 = .ok (.iconst (-1), 1) := by decide +kernel
theorem dX11_droppedCount_27 : decode cX11_droppedCount 27 = .ok (.ireturn, 1) := by decide +kernel
theorem dX11_fairness_0 : decode cX11_fairness 0 = .ok (.aload_n 0, 1) := by decide +kernel
theorem dX11_fairness_1 : decode cX11_fairness 1 = .ok (.getfield 33, 3) := by decide +kernel
theorem dX11_fairness_4 : decode cX11_fairness 4 = .ok (.getfield 79, 3) := by decide +kernel
theorem dX11_fairness_7 : decode cX11_fairness 7 = .ok (.ifCond .ne 5, 3) := by decide +kernel
theorem dX11_fairness_10 : decode cX11_fairness 10 = .ok (.iconst (-1), 1) := by decide +kernel
theorem dX11_fairness_11 : decode cX11_fairness 11 = .ok (.ireturn, 1) := by decide +kernel
theorem dX11_fairness_12 : decode cX11_fairness 12 = .ok (.lconst 0, 1) := by decide +kernel
theorem dX11_fairness_13 : decode cX11_fairness 13 = .ok (.lstore_n 1, 1) := by decide +kernel
theorem dX11_fairness_14 : decode cX11_fairness 14 = .ok (.lconst 0, 1) := by decide +kernel
theorem dX11_fairness_15 : decode cX11_fairness 15 = .ok (.lstore_n 3, 1) := by decide +kernel
theorem dX11_fairness_16 : decode cX11_fairness 16 = .ok (.lconst 0, 1) := by decide +kernel
theorem dX11_fairness_17 : decode cX11_fairness 17 = .ok (.lstore 5, 2) := by decide +kernel
theorem dX11_fairness_19 : decode cX11_fairness 19 = .ok (.iconst 0, 1) := by decide +kernel
theorem dX11_fairness_20 : decode cX11_fairness 20 = .ok (.istore 7, 2) := by decide +kernel
theorem dX11_fairness_22 : decode cX11_fairness 22 = .ok (.iload 7, 2) := by decide +kernel
theorem dX11_fairness_24 : decode cX11_fairness 24 = .ok (.aload_n 0, 1) := by decide +kernel
theorem dX11_fairness_25 : decode cX11_fairness 25 = .ok (.getfield 33, 3) := by decide +kernel
theorem dX11_fairness_28 : decode cX11_fairness 28 = .ok (.getfield 79, 3) := by decide +kernel
theorem dX11_fairness_31 : decode cX11_fairness 31 = .ok (.if_icmp .ge 74, 3) := by decide +kernel
theorem dX11_fairness_34 : decode cX11_fairness 34 = .ok (.aload_n 0, 1) := by decide +kernel
theorem dX11_fairness_35 : decode cX11_fairness 35 = .ok (.getfield 33, 3) := by decide +kernel
theorem dX11_fairness_38 : decode cX11_fairness 38 = .ok (.iload 7, 2) := by decide +kernel
theorem dX11_fairness_40 : decode cX11_fairness 40 = .ok (.invokevirtual 105, 3) := by decide +kernel
theorem dX11_fairness_43 : decode cX11_fairness 43 = .ok (.ifCond .eq 56, 3) := by decide +kernel
theorem dX11_fairness_46 : decode cX11_fairness 46 = .ok (.ldc2_w 255, 3) := by decide +kernel
theorem dX11_fairness_49 : decode cX11_fairness 49 = .ok (.aload_n 0, 1) := by decide +kernel
theorem dX11_fairness_50 : decode cX11_fairness 50 = .ok (.getfield 40, 3) := by decide +kernel
theorem dX11_fairness_53 : decode cX11_fairness 53 = .ok (.getfield 226, 3) := by decide +kernel
theorem dX11_fairness_56 : decode cX11_fairness 56 = .ok (.getfield 243, 3) := by decide +kernel
theorem dX11_fairness_59 : decode cX11_fairness 59 = .ok (.iload 7, 2) := by decide +kernel
theorem dX11_fairness_61 : decode cX11_fairness 61 = .ok (.iaload, 1) := by decide +kernel
theorem dX11_fairness_62 : decode cX11_fairness 62 = .ok (.i2l, 1) := by decide +kernel
theorem dX11_fairness_63 : decode cX11_fairness 63 = .ok (.lmul, 1) := by decide +kernel
theorem dX11_fairness_64 : decode cX11_fairness 64 = .ok (.aload_n 0, 1) := by decide +kernel
theorem dX11_fairness_65 : decode cX11_fairness 65 = .ok (.getfield 40, 3) := by decide +kernel
theorem dX11_fairness_68 : decode cX11_fairness 68 = .ok (.getfield 123, 3) := by decide +kernel
theorem dX11_fairness_71 : decode cX11_fairness 71 = .ok (.iload 7, 2) := by decide +kernel
theorem dX11_fairness_73 : decode cX11_fairness 73 = .ok (.iaload, 1) := by decide +kernel
theorem dX11_fairness_74 : decode cX11_fairness 74 = .ok (.i2l, 1) := by decide +kernel
theorem dX11_fairness_75 : decode cX11_fairness 75 = .ok (.invokestatic 257, 3) := by decide +kernel
theorem dX11_fairness_78 : decode cX11_fairness 78 = .ok (.lstore 8, 2) := by decide +kernel
theorem dX11_fairness_80 : decode cX11_fairness 80 = .ok (.lload_n 1, 1) := by decide +kernel
theorem dX11_fairness_81 : decode cX11_fairness 81 = .ok (.lconst 1, 1) := by decide +kernel
theorem dX11_fairness_82 : decode cX11_fairness 82 = .ok (.ladd, 1) := by decide +kernel
theorem dX11_fairness_83 : decode cX11_fairness 83 = .ok (.lstore_n 1, 1) := by decide +kernel
theorem dX11_fairness_84 : decode cX11_fairness 84 = .ok (.lload_n 3, 1) := by decide +kernel
theorem dX11_fairness_85 : decode cX11_fairness 85 = .ok (.lload 8, 2) := by decide +kernel
theorem dX11_fairness_87 : decode cX11_fairness 87 = .ok (.ladd, 1) := by decide +kernel
theorem dX11_fairness_88 : decode cX11_fairness 88 = .ok (.lstore_n 3, 1) := by decide +kernel
theorem dX11_fairness_89 : decode cX11_fairness 89 = .ok (.lload 5, 2) := by decide +kernel
theorem dX11_fairness_91 : decode cX11_fairness 91 = .ok (.lload 8, 2) := by decide +kernel
theorem dX11_fairness_93 : decode cX11_fairness 93 = .ok (.lload 8, 2) := by decide +kernel
end
section
theorem dX11_fairness_95 : decode cX11_fairness 95 = .ok (.lmul, 1) := by decide +kernel
theorem dX11_fairness_96 : decode cX11_fairness 96 = .ok (.ladd, 1) := by decide +kernel
theorem dX11_fairness_97 : decode cX11_fairness 97 = .ok (.lstore 5, 2) := by decide +kernel
theorem dX11_fairness_99 : decode cX11_fairness 99 = .ok (.iinc 7 1, 3) := by decide +kernel
theorem dX11_fairness_102 : decode cX11_fairness 102 = .ok (.goto (-80), 3) := by decide +kernel
theorem dX11_fairness_105 : decode cX11_fairness 105 = .ok (.lload 5, 2) := by decide +kernel
theorem dX11_fairness_107 : decode cX11_fairness 107 = .ok (.lconst 0, 1) := by decide +kernel
theorem dX11_fairness_108 : decode cX11_fairness 108 = .ok (.lcmp, 1) := by decide +kernel
theorem dX11_fairness_109 : decode cX11_fairness 109 = .ok (.ifCond .ne 9, 3) := by decide +kernel
theorem dX11_fairness_112 : decode cX11_fairness 112 = .ok (.sipush 1000, 3) := by decide +kernel
theorem dX11_fairness_115 : decode cX11_fairness 115 = .ok (.goto 18, 3) := by decide +kernel
theorem dX11_fairness_118 : decode cX11_fairness 118 = .ok (.ldc2_w 261, 3) := by decide +kernel
theorem dX11_fairness_121 : decode cX11_fairness 121 = .ok (.lload_n 3, 1) := by decide +kernel
theorem dX11_fairness_122 : decode cX11_fairness 122 = .ok (.lmul, 1) := by decide +kernel
theorem dX11_fairness_123 : decode cX11_fairness 123 = .ok (.lload_n 3, 1) := by decide +kernel
theorem dX11_fairness_124 : decode cX11_fairness 124 = .ok (.lmul, 1) := by decide +kernel
theorem dX11_fairness_125 : decode cX11_fairness 125 = .ok (.lload_n 1, 1) := by decide +kernel
theorem dX11_fairness_126 : decode cX11_fairness 126 = .ok (.lload 5, 2) := by decide +kernel
theorem dX11_fairness_128 : decode cX11_fairness 128 = .ok (.lmul, 1) := by decide +kernel
theorem dX11_fairness_129 : decode cX11_fairness 129 = .ok (.invokestatic 257, 3) := by decide +kernel
theorem dX11_fairness_132 : decode cX11_fairness 132 = .ok (.l2i, 1) := by decide +kernel
theorem dX11_fairness_133 : decode cX11_fairness 133 = .ok (.ireturn, 1) := by decide +kernel
theorem dX11_mostServed_0 : decode cX11_mostServed 0 = .ok (.bipush (-2), 2) := by decide +kernel
theorem dX11_mostServed_2 : decode cX11_mostServed 2 = .ok (.istore_n 1, 1) := by decide +kernel
theorem dX11_mostServed_3 : decode cX11_mostServed 3 = .ok (.iconst 0, 1) := by decide +kernel
theorem dX11_mostServed_4 : decode cX11_mostServed 4 = .ok (.istore_n 2, 1) := by decide +kernel
theorem dX11_mostServed_5 : decode cX11_mostServed 5 = .ok (.iload_n 2, 1) := by decide +kernel
theorem dX11_mostServed_6 : decode cX11_mostServed 6 = .ok (.aload_n 0, 1) := by decide +kernel
theorem dX11_mostServed_7 : decode cX11_mostServed 7 = .ok (.getfield 33, 3) := by decide +kernel
theorem dX11_mostServed_10 : decode cX11_mostServed 10 = .ok (.getfield 79, 3) := by decide +kernel
theorem dX11_mostServed_13 : decode cX11_mostServed 13 = .ok (.if_icmp .ge 40, 3) := by decide +kernel
theorem dX11_mostServed_16 : decode cX11_mostServed 16 = .ok (.aload_n 0, 1) := by decide +kernel
theorem dX11_mostServed_17 : decode cX11_mostServed 17 = .ok (.getfield 33, 3) := by decide +kernel
theorem dX11_mostServed_20 : decode cX11_mostServed 20 = .ok (.iload_n 2, 1) := by decide +kernel
theorem dX11_mostServed_21 : decode cX11_mostServed 21 = .ok (.invokevirtual 105, 3) := by decide +kernel
theorem dX11_mostServed_24 : decode cX11_mostServed 24 = .ok (.ifCond .eq 23, 3) := by decide +kernel
theorem dX11_mostServed_27 : decode cX11_mostServed 27 = .ok (.iload_n 1, 1) := by decide +kernel
theorem dX11_mostServed_28 : decode cX11_mostServed 28 = .ok (.bipush (-2), 2) := by decide +kernel
theorem dX11_mostServed_30 : decode cX11_mostServed 30 = .ok (.if_icmp .eq 15, 3) := by decide +kernel
theorem dX11_mostServed_33 : decode cX11_mostServed 33 = .ok (.aload_n 0, 1) := by decide +kernel
theorem dX11_mostServed_34 : decode cX11_mostServed 34 = .ok (.getfield 40, 3) := by decide +kernel
theorem dX11_mostServed_37 : decode cX11_mostServed 37 = .ok (.iload_n 2, 1) := by decide +kernel
theorem dX11_mostServed_38 : decode cX11_mostServed 38 = .ok (.iload_n 1, 1) := by decide +kernel
theorem dX11_mostServed_39 : decode cX11_mostServed 39 = .ok (.invokevirtual 263, 3) := by decide +kernel
theorem dX11_mostServed_42 : decode cX11_mostServed 42 = .ok (.ifCond .le 5, 3) := by decide +kernel
theorem dX11_mostServed_45 : decode cX11_mostServed 45 = .ok (.iload_n 2, 1) := by decide +kernel
theorem dX11_mostServed_46 : decode cX11_mostServed 46 = .ok (.istore_n 1, 1) := by decide +kernel
theorem dX11_mostServed_47 : decode cX11_mostServed 47 = .ok (.iinc 2 1, 3) := by decide +kernel
theorem dX11_mostServed_50 : decode cX11_mostServed 50 = .ok (.goto (-45), 3) := by decide +kernel
theorem dX11_mostServed_53 : decode cX11_mostServed 53 = .ok (.iload_n 1, 1) := by decide +kernel
theorem dX11_mostServed_54 : decode cX11_mostServed 54 = .ok (.ireturn, 1) := by decide +kernel
theorem dX11_loggedLeaf_0 : decode cX11_loggedLeaf 0 = .ok (.aload_n 0, 1) := by decide +kernel
theorem dX11_loggedLeaf_1 : decode cX11_loggedLeaf 1 = .ok (.iload_n 1, 1) := by decide +kernel
theorem dX11_loggedLeaf_2 : decode cX11_loggedLeaf 2 = .ok (.invokevirtual 278, 3) := by decide +kernel
theorem dX11_loggedLeaf_5 : decode cX11_loggedLeaf 5 = .ok (.istore_n 2, 1) := by decide +kernel
theorem dX11_loggedLeaf_6 : decode cX11_loggedLeaf 6 = .ok (.iload_n 2, 1) := by decide +kernel
theorem dX11_loggedLeaf_7 : decode cX11_loggedLeaf 7 = .ok (.ifCond .ge 7, 3) := by decide +kernel
theorem dX11_loggedLeaf_10 : decode cX11_loggedLeaf 10 = .ok (.iload_n 2, 1) := by decide +kernel
theorem dX11_loggedLeaf_11 : decode cX11_loggedLeaf 11 = .ok (.goto 15, 3) := by decide +kernel
theorem dX11_loggedLeaf_14 : decode cX11_loggedLeaf 14 = .ok (.aload_n 0, 1) := by decide +kernel
theorem dX11_loggedLeaf_15 : decode cX11_loggedLeaf 15 = .ok (.getfield 40, 3) := by decide +kernel
theorem dX11_loggedLeaf_18 : decode cX11_loggedLeaf 18 = .ok (.getfield 266, 3) := by decide +kernel
theorem dX11_loggedLeaf_21 : decode cX11_loggedLeaf 21 = .ok (.getfield 281, 3) := by decide +kernel
theorem dX11_loggedLeaf_24 : decode cX11_loggedLeaf 24 = .ok (.iload_n 2, 1) := by decide +kernel
theorem dX11_loggedLeaf_25 : decode cX11_loggedLeaf 25 = .ok (.iaload, 1) := by decide +kernel
theorem dX11_loggedLeaf_26 : decode cX11_loggedLeaf 26 = .ok (.ireturn, 1) := by decide +kernel
theorem dX11_loggedCost_0 : decode cX11_loggedCost 0 = .ok (.aload_n 0, 1) := by decide +kernel
theorem dX11_loggedCost_1 : decode cX11_loggedCost 1 = .ok (.iload_n 1, 1) := by decide +kernel
theorem dX11_loggedCost_2 : decode cX11_loggedCost 2 = .ok (.invokevirtual 278, 3) := by decide +kernel
theorem dX11_loggedCost_5 : decode cX11_loggedCost 5 = .ok (.istore_n 2, 1) := by decide +kernel
theorem dX11_loggedCost_6 : decode cX11_loggedCost 6 = .ok (.iload_n 2, 1) := by decide +kernel
theorem dX11_loggedCost_7 : decode cX11_loggedCost 7 = .ok (.ifCond .ge 7, 3) := by decide +kernel
theorem dX11_loggedCost_10 : decode cX11_loggedCost 10 = .ok (.iload_n 2, 1) := by decide +kernel
theorem dX11_loggedCost_11 : decode cX11_loggedCost 11 = .ok (.goto 15, 3) := by decide +kernel
theorem dX11_loggedCost_14 : decode cX11_loggedCost 14 = .ok (.aload_n 0, 1) := by decide +kernel
theorem dX11_loggedCost_15 : decode cX11_loggedCost 15 = .ok (.getfield 40, 3) := by decide +kernel
theorem dX11_loggedCost_18 : decode cX11_loggedCost 18 = .ok (.getfield 266, 3) := by decide +kernel
theorem dX11_loggedCost_21 : decode cX11_loggedCost 21 = .ok (.getfield 284, 3) := by decide +kernel
theorem dX11_loggedCost_24 : decode cX11_loggedCost 24 = .ok (.iload_n 2, 1) := by decide +kernel
theorem dX11_loggedCost_25 : decode cX11_loggedCost 25 = .ok (.iaload, 1) := by decide +kernel
theorem dX11_loggedCost_26 : decode cX11_loggedCost 26 = .ok (.ireturn, 1) := by decide +kernel
theorem dX11_loggedLender_0 : decode cX11_loggedLender 0 = .ok (.aload_n 0, 1) := by decide +kernel
theorem dX11_loggedLender_1 : decode cX11_loggedLender 1 = .ok (.iload_n 1, 1) := by decide +kernel
theorem dX11_loggedLender_2 : decode cX11_loggedLender 2 = .ok (.invokevirtual 278, 3) := by decide +kernel
theorem dX11_loggedLender_5 : decode cX11_loggedLender 5 = .ok (.istore_n 2, 1) := by decide +kernel
theorem dX11_loggedLender_6 : decode cX11_loggedLender 6 = .ok (.iload_n 2, 1) := by decide +kernel
theorem dX11_loggedLender_7 : decode cX11_loggedLender 7 = .ok (.ifCond .ge 7, 3) := by decide +kernel
theorem dX11_loggedLender_10 : decode cX11_loggedLender 10 = .ok (.iload_n 2, 1) := by decide +kernel
theorem dX11_loggedLender_11 : decode cX11_loggedLender 11 = .ok (.goto 15, 3) := by decide +kernel
theorem dX11_loggedLender_14 : decode cX11_loggedLender 14 = .ok (.aload_n 0, 1) := by decide +kernel
theorem dX11_loggedLender_15 : decode cX11_loggedLender 15 = .ok (.getfield 40, 3) := by decide +kernel
theorem dX11_loggedLender_18 : decode cX11_loggedLender 18 = .ok (.getfield 266, 3) := by decide +kernel
theorem dX11_loggedLender_21 : decode cX11_loggedLender 21 = .ok (.getfield 285, 3) := by decide +kernel
theorem dX11_loggedLender_24 : decode cX11_loggedLender 24 = .ok (.iload_n 2, 1) := by decide +kernel
theorem dX11_loggedLender_25 : decode cX11_loggedLender 25 = .ok (.iaload, 1) := by decide +kernel
theorem dX11_loggedLender_26 : decode cX11_loggedLender 26 = .ok (.ireturn, 1) := by decide +kernel
theorem dX11_loggedTime_0 : decode cX11_loggedTime 0 = .ok (.aload_n 0, 1) := by decide +kernel
theorem dX11_loggedTime_1 : decode cX11_loggedTime 1 = .ok (.iload_n 1, 1) := by decide +kernel
theorem dX11_loggedTime_2 : decode cX11_loggedTime 2 = .ok (.invokevirtual 278, 3) := by decide +kernel
theorem dX11_loggedTime_5 : decode cX11_loggedTime 5 = .ok (.istore_n 2, 1) := by decide +kernel
theorem dX11_loggedTime_6 : decode cX11_loggedTime 6 = .ok (.iload_n 2, 1) := by decide +kernel
theorem dX11_loggedTime_7 : decode cX11_loggedTime 7 = .ok (.ifCond .ge 7, 3) := by decide +kernel
theorem dX11_loggedTime_10 : decode cX11_loggedTime 10 = .ok (.iload_n 2, 1) := by decide +kernel
theorem dX11_loggedTime_11 : decode cX11_loggedTime 11 = .ok (.goto 15, 3) := by decide +kernel
theorem dX11_loggedTime_14 : decode cX11_loggedTime 14 = .ok (.aload_n 0, 1) := by decide +kernel
theorem dX11_loggedTime_15 : decode cX11_loggedTime 15 = .ok (.getfield 40, 3) := by decide +kernel
theorem dX11_loggedTime_18 : decode cX11_loggedTime 18 = .ok (.getfield 266, 3) := by decide +kernel
theorem dX11_loggedTime_21 : decode cX11_loggedTime 21 = .ok (.getfield 288, 3) := by decide +kernel
theorem dX11_loggedTime_24 : decode cX11_loggedTime 24 = .ok (.iload_n 2, 1) := by decide +kernel
theorem dX11_loggedTime_25 : decode cX11_loggedTime 25 = .ok (.iaload, 1) := by decide +kernel
theorem dX11_loggedTime_26 : decode cX11_loggedTime 26 = .ok (.ireturn, 1) := by decide +kernel
theorem dX11_setRate_0 : decode cX11_setRate 0 = .ok (.aload_n 0, 1) := by decide +kernel
theorem dX11_setRate_1 : decode cX11_setRate 1 = .ok (.iload_n 1, 1) := by decide +kernel
theorem dX11_setRate_2 : decode cX11_setRate 2 = .ok (.iconst 0, 1) := by decide +kernel
theorem dX11_setRate_3 : decode cX11_setRate 3 = .ok (.iload_n 2, 1) := by decide +kernel
theorem dX11_setRate_4 : decode cX11_setRate 4 = .ok (.invokevirtual 301, 3) := by decide +kernel
theorem dX11_setRate_7 : decode cX11_setRate 7 = .ok (.ireturn, 1) := by decide +kernel
theorem dX11_isRequest_0 : decode cX11_isRequest 0 = .ok (.aload_n 0, 1) := by decide +kernel
theorem dX11_isRequest_1 : decode cX11_isRequest 1 = .ok (.getfield 33, 3) := by decide +kernel
theorem dX11_isRequest_4 : decode cX11_isRequest 4 = .ok (.iload_n 1, 1) := by decide +kernel
theorem dX11_isRequest_5 : decode cX11_isRequest 5 = .ok (.invokevirtual 105, 3) := by decide +kernel
theorem dX11_isRequest_8 : decode cX11_isRequest 8 = .ok (.ifCond .eq 18, 3) := by decide +kernel
theorem dX11_isRequest_11 : decode cX11_isRequest 11 = .ok (.iload_n 2, 1) := by decide +kernel
theorem dX11_isRequest_12 : decode cX11_isRequest 12 = .ok (.iconst 1, 1) := by decide +kernel
theorem dX11_isRequest_13 : decode cX11_isRequest 13 = .ok (.if_icmp .lt 13, 3) := by decide +kernel
theorem dX11_isRequest_16 : decode cX11_isRequest 16 = .ok (.iload_n 2, 1) := by decide +kernel
theorem dX11_isRequest_17 : decode cX11_isRequest 17 = .ok (.bipush 99, 2) := by decide +kernel
theorem dX11_isRequest_19 : decode cX11_isRequest 19 = .ok (.if_icmp .gt 7, 3) := by decide +kernel
theorem dX11_isRequest_22 : decode cX11_isRequest 22 = .ok (.iconst 1, 1) := by decide +kernel
theorem dX11_isRequest_23 : decode cX11_isRequest 23 = .ok (.goto 4, 3) := by decide +kernel
theorem dX11_isRequest_26 : decode cX11_isRequest 26 = .ok (.iconst 0, 1) := by decide +kernel
theorem dX11_isRequest_27 : decode cX11_isRequest 27 = .ok (.ireturn, 1) := by decide +kernel
theorem dX11_canAdvance_0 : decode cX11_canAdvance 0 = .ok (.aload_n 0, 1) := by decide +kernel
theorem dX11_canAdvance_1 : decode cX11_canAdvance 1 = .ok (.getfield 33, 3) := by decide +kernel
theorem dX11_canAdvance_4 : decode cX11_canAdvance 4 = .ok (.getfield 79, 3) := by decide +kernel
theorem dX11_canAdvance_7 : decode cX11_canAdvance 7 = .ok (.ifCond .le 34, 3) := by decide +kernel
theorem dX11_canAdvance_10 : decode cX11_canAdvance 10 = .ok (.iload_n 1, 1) := by decide +kernel
theorem dX11_canAdvance_11 : decode cX11_canAdvance 11 = .ok (.iconst 1, 1) := by decide +kernel
theorem dX11_canAdvance_12 : decode cX11_canAdvance 12 = .ok (.if_icmp .lt 29, 3) := by decide +kernel
theorem dX11_canAdvance_15 : decode cX11_canAdvance 15 = .ok (.iload_n 1, 1) := by decide +kernel
theorem dX11_canAdvance_16 : decode cX11_canAdvance 16 = .ok (.sipush 500, 3) := by decide +kernel
theorem dX11_canAdvance_19 : decode cX11_canAdvance 19 = .ok (.if_icmp .gt 22, 3) := by decide +kernel
theorem dX11_canAdvance_22 : decode cX11_canAdvance 22 = .ok (.aload_n 0, 1) := by decide +kernel
theorem dX11_canAdvance_23 : decode cX11_canAdvance 23 = .ok (.getfield 40, 3) := by decide +kernel
theorem dX11_canAdvance_26 : decode cX11_canAdvance 26 = .ok (.getfield 140, 3) := by decide +kernel
theorem dX11_canAdvance_29 : decode cX11_canAdvance 29 = .ok (.iload_n 1, 1) := by decide +kernel
theorem dX11_canAdvance_30 : decode cX11_canAdvance 30 = .ok (.iadd, 1) := by decide +kernel
theorem dX11_canAdvance_31 : decode cX11_canAdvance 31 = .ok (.sipush 5000, 3) := by decide +kernel
theorem dX11_canAdvance_34 : decode cX11_canAdvance 34 = .ok (.if_icmp .gt 7, 3) := by decide +kernel
theorem dX11_canAdvance_37 : decode cX11_canAdvance 37 = .ok (.iconst 1, 1) := by decide +kernel
theorem dX11_canAdvance_38 : decode cX11_canAdvance 38 = .ok (.goto 4, 3) := by decide +kernel
theorem dX11_canAdvance_41 : decode cX11_canAdvance 41 = .ok (.iconst 0, 1) := by decide +kernel
theorem dX11_canAdvance_42 : decode cX11_canAdvance 42 = .ok (.ireturn, 1) := by decide +kernel
theorem dX11_logEntry_0 : decode cX11_logEntry 0 = .ok (.iload_n 1, 1) := by decide +kernel
theorem dX11_logEntry_1 : decode cX11_logEntry 1 = .ok (.ifCond .ge 5, 3) := by decide +kernel
theorem dX11_logEntry_4 : decode cX11_logEntry 4 = .ok (.iconst (-1), 1) := by decide +kernel
theorem dX11_logEntry_5 : decode cX11_logEntry 5 = .ok (.ireturn, 1) := by decide +kernel
theorem dX11_logEntry_6 : decode cX11_logEntry 6 = .ok (.iload_n 1, 1) := by decide +kernel
theorem dX11_logEntry_7 : decode cX11_logEntry 7 = .ok (.aload_n 0, 1) := by decide +kernel
theorem dX11_logEntry_8 : decode cX11_logEntry 8 = .ok (.getfield 40, 3) := by decide +kernel
theorem dX11_logEntry_11 : decode cX11_logEntry 11 = .ok (.getfield 266, 3) := by decide +kernel
theorem dX11_logEntry_14 : decode cX11_logEntry 14 = .ok (.getfield 275, 3) := by decide +kernel
theorem dX11_logEntry_17 : decode cX11_logEntry 17 = .ok (.if_icmp .ge 7, 3) := by decide +kernel
theorem dX11_logEntry_20 : decode cX11_logEntry 20 = .ok (.iload_n 1, 1) := by decide +kernel
theorem dX11_logEntry_21 : decode cX11_logEntry 21 = .ok (.goto 5, 3) := by decide +kernel
theorem dX11_logEntry_24 : decode cX11_logEntry 24 = .ok (.bipush (-2), 2) := by decide +kernel
theorem dX11_logEntry_26 : decode cX11_logEntry 26 = .ok (.ireturn, 1) := by decide +kernel
theorem dX11_change_0 : decode cX11_change 0 = .ok (.aload_n 0, 1) := by decide +kernel
theorem dX11_change_1 : decode cX11_change 1 = .ok (.getfield 33, 3) := by decide +kernel
theorem dX11_change_4 : decode cX11_change 4 = .ok (.iload_n 1, 1) := by decide +kernel
theorem dX11_change_5 : decode cX11_change 5 = .ok (.invokevirtual 85, 3) := by decide +kernel
theorem dX11_change_8 : decode cX11_change 8 = .ok (.ifCond .eq 11, 3) := by decide +kernel
theorem dX11_change_11 : decode cX11_change 11 = .ok (.iload_n 2, 1) := by decide +kernel
theorem dX11_change_12 : decode cX11_change 12 = .ok (.iload_n 3, 1) := by decide +kernel
theorem dX11_change_13 : decode cX11_change 13 = .ok (.invokestatic 309, 3) := by decide +kernel
theorem dX11_change_16 : decode cX11_change 16 = .ok (.ifCond .ne 5, 3) := by decide +kernel
theorem dX11_change_19 : decode cX11_change 19 = .ok (.iconst (-1), 1) := by decide +kernel
theorem dX11_change_20 : decode cX11_change 20 = .ok (.ireturn, 1) := by decide +kernel
theorem dX11_change_21 : decode cX11_change 21 = .ok (.aload_n 0, 1) := by decide +kernel
theorem dX11_change_22 : decode cX11_change 22 = .ok (.getfield 40, 3) := by decide +kernel
theorem dX11_change_25 : decode cX11_change 25 = .ok (.iload_n 2, 1) := by decide +kernel
theorem dX11_change_26 : decode cX11_change 26 = .ok (.invokevirtual 312, 3) := by decide +kernel
theorem dX11_change_29 : decode cX11_change 29 = .ok (.astore 4, 2) := by decide +kernel
theorem dX11_change_31 : decode cX11_change 31 = .ok (.aload 4, 2) := by decide +kernel
theorem dX11_change_33 : decode cX11_change 33 = .ok (.iload_n 1, 1) := by decide +kernel
theorem dX11_change_34 : decode cX11_change 34 = .ok (.iaload, 1) := by decide +kernel
theorem dX11_change_35 : decode cX11_change 35 = .ok (.istore 5, 2) := by decide +kernel
theorem dX11_change_37 : decode cX11_change 37 = .ok (.aload 4, 2) := by decide +kernel
theorem dX11_change_39 : decode cX11_change 39 = .ok (.iload_n 1, 1) := by decide +kernel
theorem dX11_change_40 : decode cX11_change 40 = .ok (.iload_n 3, 1) := by decide +kernel
theorem dX11_change_41 : decode cX11_change 41 = .ok (.iastore, 1) := by decide +kernel
theorem dX11_change_42 : decode cX11_change 42 = .ok (.iload 5, 2) := by decide +kernel
theorem dX11_change_44 : decode cX11_change 44 = .ok (.ireturn, 1) := by decide +kernel
theorem dX11_isInRange_0 : decode cX11_isInRange 0 = .ok (.iload_n 0, 1) := by decide +kernel
theorem dX11_isInRange_1 : decode cX11_isInRange 1 = .ok (.ifCond .lt 31, 3) := by decide +kernel
theorem dX11_isInRange_4 : decode cX11_isInRange 4 = .ok (.iload_n 0, 1) := by decide +kernel
theorem dX11_isInRange_5 : decode cX11_isInRange 5 = .ok (.bipush 6, 2) := by decide +kernel
theorem dX11_isInRange_7 : decode cX11_isInRange 7 = .ok (.if_icmp .ge 25, 3) := by decide +kernel
theorem dX11_isInRange_10 : decode cX11_isInRange 10 = .ok (.iload_n 1, 1) := by decide +kernel
theorem dX11_isInRange_11 : decode cX11_isInRange 11 = .ok (.getstatic 316, 3) := by decide +kernel
theorem dX11_isInRange_14 : decode cX11_isInRange 14 = .ok (.iload_n 0, 1) := by decide +kernel
theorem dX11_isInRange_15 : decode cX11_isInRange 15 = .ok (.iaload, 1) := by decide +kernel
theorem dX11_isInRange_16 : decode cX11_isInRange 16 = .ok (.if_icmp .lt 16, 3) := by decide +kernel
theorem dX11_isInRange_19 : decode cX11_isInRange 19 = .ok (.iload_n 1, 1) := by decide +kernel
theorem dX11_isInRange_20 : decode cX11_isInRange 20 = .ok (.getstatic 319, 3) := by decide +kernel
theorem dX11_isInRange_23 : decode cX11_isInRange 23 = .ok (.iload_n 0, 1) := by decide +kernel
theorem dX11_isInRange_24 : decode cX11_isInRange 24 = .ok (.iaload, 1) := by decide +kernel
theorem dX11_isInRange_25 : decode cX11_isInRange 25 = .ok (.if_icmp .gt 7, 3) := by decide +kernel
theorem dX11_isInRange_28 : decode cX11_isInRange 28 = .ok (.iconst 1, 1) := by decide +kernel
theorem dX11_isInRange_29 : decode cX11_isInRange 29 = .ok (.goto 4, 3) := by decide +kernel
theorem dX11_isInRange_32 : decode cX11_isInRange 32 = .ok (.iconst 0, 1) := by decide +kernel
theorem dX11_isInRange_33 : decode cX11_isInRange 33 = .ok (.ireturn, 1) := by decide +kernel
theorem dX11_quotient_0 : decode cX11_quotient 0 = .ok (.lload_n 2, 1) := by decide +kernel
theorem dX11_quotient_1 : decode cX11_quotient 1 = .ok (.lconst 0, 1) := by decide +kernel
theorem dX11_quotient_2 : decode cX11_quotient 2 = .ok (.lcmp, 1) := by decide +kernel
theorem dX11_quotient_3 : decode cX11_quotient 3 = .ok (.ifCond .ne 7, 3) := by decide +kernel
theorem dX11_quotient_6 : decode cX11_quotient 6 = .ok (.lconst 0, 1) := by decide +kernel
theorem dX11_quotient_7 : decode cX11_quotient 7 = .ok (.goto 6, 3) := by decide +kernel
theorem dX11_quotient_10 : decode cX11_quotient 10 = .ok (.lload_n 0, 1) := by decide +kernel
theorem dX11_quotient_11 : decode cX11_quotient 11 = .ok (.lload_n 2, 1) := by decide +kernel
theorem dX11_quotient_12 : decode cX11_quotient 12 = .ok (.ldiv, 1) := by decide +kernel
theorem dX11_quotient_13 : decode cX11_quotient 13 = .ok (.lreturn, 1) := by decide +kernel
theorem dX11_copyRow_0 : decode cX11_copyRow 0 = .ok (.aload_n 0, 1) := by decide +kernel
theorem dX11_copyRow_1 : decode cX11_copyRow 1 = .ok (.iconst 0, 1) := by decide +kernel
theorem dX11_copyRow_2 : decode cX11_copyRow 2 = .ok (.aload_n 1, 1) := by decide +kernel
theorem dX11_copyRow_3 : decode cX11_copyRow 3 = .ok (.iconst 0, 1) := by decide +kernel
theorem dX11_copyRow_4 : decode cX11_copyRow 4 = .ok (.aload_n 0, 1) := by decide +kernel
theorem dX11_copyRow_5 : decode cX11_copyRow 5 = .ok (.arraylength, 1) := by decide +kernel
theorem dX11_copyRow_6 : decode cX11_copyRow 6 = .ok (.aload_n 1, 1) := by decide +kernel
theorem dX11_copyRow_7 : decode cX11_copyRow 7 = .ok (.arraylength, 1) := by decide +kernel
theorem dX11_copyRow_8 : decode cX11_copyRow 8 = .ok (.invokestatic 235, 3) := by decide +kernel
theorem dX11_copyRow_11 : decode cX11_copyRow 11 = .ok (.invokestatic 322, 3) := by decide +kernel
theorem dX11_copyRow_14 : decode cX11_copyRow 14 = .ok (.return_, 1) := by decide +kernel
theorem dX11_clearRow_0 : decode cX11_clearRow 0 = .ok (.iconst 0, 1) := by decide +kernel
theorem dX11_clearRow_1 : decode cX11_clearRow 1 = .ok (.istore_n 1, 1) := by decide +kernel
theorem dX11_clearRow_2 : decode cX11_clearRow 2 = .ok (.iload_n 1, 1) := by decide +kernel
theorem dX11_clearRow_3 : decode cX11_clearRow 3 = .ok (.aload_n 0, 1) := by decide +kernel
theorem dX11_clearRow_4 : decode cX11_clearRow 4 = .ok (.arraylength, 1) := by decide +kernel
theorem dX11_clearRow_5 : decode cX11_clearRow 5 = .ok (.if_icmp .ge 13, 3) := by decide +kernel
theorem dX11_clearRow_8 : decode cX11_clearRow 8 = .ok (.aload_n 0, 1) := by decide +kernel
theorem dX11_clearRow_9 : decode cX11_clearRow 9 = .ok (.iload_n 1, 1) := by decide +kernel
theorem dX11_clearRow_10 : decode cX11_clearRow 10 = .ok (.iconst 0, 1) := by decide +kernel
theorem dX11_clearRow_11 : decode cX11_clearRow 11 = .ok (.iastore, 1) := by decide +kernel
theorem dX11_clearRow_12 : decode cX11_clearRow 12 = .ok (.iinc 1 1, 3) := by decide +kernel
theorem dX11_clearRow_15 : decode cX11_clearRow 15 = .ok (.goto (-13), 3) := by decide +kernel
theorem dX11_clearRow_18 : decode cX11_clearRow 18 = .ok (.return_, 1) := by decide +kernel
theorem dX11_keywordText_0 : decode cX11_keywordText 0 = .ok (.iload_n 0, 1) := by decide +kernel
theorem dX11_keywordText_1 : decode cX11_keywordText 1 = .ok (.tableswitch 111 0 11 #[63, 67, 71, 75, 79, 83, 87, 91, 95, 99, 103, 107], 63) := by decide +kernel
theorem dX11_keywordText_64 : decode cX11_keywordText 64 = .ok (.ldc_w 328, 3) := by decide +kernel
theorem dX11_keywordText_67 : decode cX11_keywordText 67 = .ok (.areturn, 1) := by decide +kernel
theorem dX11_keywordText_68 : decode cX11_keywordText 68 = .ok (.ldc_w 329, 3) := by decide +kernel
theorem dX11_keywordText_71 : decode cX11_keywordText 71 = .ok (.areturn, 1) := by decide +kernel
theorem dX11_keywordText_72 : decode cX11_keywordText 72 = .ok (.ldc_w 330, 3) := by decide +kernel
theorem dX11_keywordText_75 : decode cX11_keywordText 75 = .ok (.areturn, 1) := by decide +kernel
theorem dX11_keywordText_76 : decode cX11_keywordText 76 = .ok (.ldc_w 331, 3) := by decide +kernel
theorem dX11_keywordText_79 : decode cX11_keywordText 79 = .ok (.areturn, 1) := by decide +kernel
theorem dX11_keywordText_80 : decode cX11_keywordText 80 = .ok (.ldc_w 332, 3) := by decide +kernel
theorem dX11_keywordText_83 : decode cX11_keywordText 83 = .ok (.areturn, 1) := by decide +kernel
theorem dX11_keywordText_84 : decode cX11_keywordText 84 = .ok (.ldc_w 333, 3) := by decide +kernel
theorem dX11_keywordText_87 : decode cX11_keywordText 87 = .ok (.areturn, 1) := by decide +kernel
theorem dX11_keywordText_88 : decode cX11_keywordText 88 = .ok (.ldc_w 334, 3) := by decide +kernel
theorem dX11_keywordText_91 : decode cX11_keywordText 91 = .ok (.areturn, 1) := by decide +kernel
theorem dX11_keywordText_92 : decode cX11_keywordText 92 = .ok (.ldc_w 335, 3) := by decide +kernel
theorem dX11_keywordText_95 : decode cX11_keywordText 95 = .ok (.areturn, 1) := by decide +kernel
theorem dX11_keywordText_96 : decode cX11_keywordText 96 = .ok (.ldc_w 337, 3) := by decide +kernel
theorem dX11_keywordText_99 : decode cX11_keywordText 99 = .ok (.areturn, 1) := by decide +kernel
theorem dX11_keywordText_100 : decode cX11_keywordText 100 = .ok (.ldc_w 339, 3) := by decide +kernel
theorem dX11_keywordText_103 : decode cX11_keywordText 103 = .ok (.areturn, 1) := by decide +kernel
theorem dX11_keywordText_104 : decode cX11_keywordText 104 = .ok (.ldc_w 341, 3) := by decide +kernel
theorem dX11_keywordText_107 : decode cX11_keywordText 107 = .ok (.areturn, 1) := by decide +kernel
theorem dX11_keywordText_108 : decode cX11_keywordText 108 = .ok (.ldc_w 343, 3) := by decide +kernel
theorem dX11_keywordText_111 : decode cX11_keywordText 111 = .ok (.areturn, 1) := by decide +kernel
theorem dX11_keywordText_112 : decode cX11_keywordText 112 = .ok (.ldc_w 345, 3) := by decide +kernel
theorem dX11_keywordText_115 : decode cX11_keywordText 115 = .ok (.areturn, 1) := by decide +kernel
theorem dX11_withLetter_0 : decode cX11_withLetter 0 = .ok (.iload_n 2, 1) := by decide +kernel
theorem dX11_withLetter_1 : decode cX11_withLetter 1 = .ok (.bipush 8, 2) := by decide +kernel
theorem dX11_withLetter_3 : decode cX11_withLetter 3 = .ok (.if_icmp .ge 22, 3) := by decide +kernel
theorem dX11_withLetter_6 : decode cX11_withLetter 6 = .ok (.lload_n 0, 1) := by decide +kernel
theorem dX11_withLetter_7 : decode cX11_withLetter 7 = .ok (.iload_n 3, 1) := by decide +kernel
theorem dX11_withLetter_8 : decode cX11_withLetter 8 = .ok (.bipush 97, 2) := by decide +kernel
theorem dX11_withLetter_10 : decode cX11_withLetter 10 = .ok (.isub, 1) := by decide +kernel
theorem dX11_withLetter_11 : decode cX11_withLetter 11 = .ok (.iconst 1, 1) := by decide +kernel
theorem dX11_withLetter_12 : decode cX11_withLetter 12 = .ok (.iadd, 1) := by decide +kernel
theorem dX11_withLetter_13 : decode cX11_withLetter 13 = .ok (.i2l, 1) := by decide +kernel
theorem dX11_withLetter_14 : decode cX11_withLetter 14 = .ok (.iconst 5, 1) := by decide +kernel
theorem dX11_withLetter_15 : decode cX11_withLetter 15 = .ok (.bipush 7, 2) := by decide +kernel
theorem dX11_withLetter_17 : decode cX11_withLetter 17 = .ok (.iload_n 2, 1) := by decide +kernel
theorem dX11_withLetter_18 : decode cX11_withLetter 18 = .ok (.isub, 1) := by decide +kernel
theorem dX11_withLetter_19 : decode cX11_withLetter 19 = .ok (.imul, 1) := by decide +kernel
theorem dX11_withLetter_20 : decode cX11_withLetter 20 = .ok (.lshl, 1) := by decide +kernel
theorem dX11_withLetter_21 : decode cX11_withLetter 21 = .ok (.lor, 1) := by decide +kernel
theorem dX11_withLetter_22 : decode cX11_withLetter 22 = .ok (.goto 4, 3) := by decide +kernel
theorem dX11_withLetter_25 : decode cX11_withLetter 25 = .ok (.lload_n 0, 1) := by decide +kernel
theorem dX11_withLetter_26 : decode cX11_withLetter 26 = .ok (.lreturn, 1) := by decide +kernel
theorem dX11_letterOf_0 : decode cX11_letterOf 0 = .ok (.iload_n 2, 1) := by decide +kernel
theorem dX11_letterOf_1 : decode cX11_letterOf 1 = .ok (.bipush 8, 2) := by decide +kernel
theorem dX11_letterOf_3 : decode cX11_letterOf 3 = .ok (.if_icmp .ge 18, 3) := by decide +kernel
theorem dX11_letterOf_6 : decode cX11_letterOf 6 = .ok (.lload_n 0, 1) := by decide +kernel
theorem dX11_letterOf_7 : decode cX11_letterOf 7 = .ok (.iconst 5, 1) := by decide +kernel
theorem dX11_letterOf_8 : decode cX11_letterOf 8 = .ok (.bipush 7, 2) := by decide +kernel
theorem dX11_letterOf_10 : decode cX11_letterOf 10 = .ok (.iload_n 2, 1) := by decide +kernel
theorem dX11_letterOf_11 : decode cX11_letterOf 11 = .ok (.isub, 1) := by decide +kernel
theorem dX11_letterOf_12 : decode cX11_letterOf 12 = .ok (.imul, 1) := by decide +kernel
theorem dX11_letterOf_13 : decode cX11_letterOf 13 = .ok (.lshr, 1) := by decide +kernel
theorem dX11_letterOf_14 : decode cX11_letterOf 14 = .ok (.l2i, 1) := by decide +kernel
theorem dX11_letterOf_15 : decode cX11_letterOf 15 = .ok (.bipush 31, 2) := by decide +kernel
theorem dX11_letterOf_17 : decode cX11_letterOf 17 = .ok (.iand, 1) := by decide +kernel
theorem dX11_letterOf_18 : decode cX11_letterOf 18 = .ok (.goto 4, 3) := by decide +kernel
theorem dX11_letterOf_21 : decode cX11_letterOf 21 = .ok (.iconst 0, 1) := by decide +kernel
theorem dX11_letterOf_22 : decode cX11_letterOf 22 = .ok (.ireturn, 1) := by decide +kernel
theorem dX11_keywordOf_0 : decode cX11_keywordOf 0 = .ok (.iconst 0, 1) := by decide +kernel
theorem dX11_keywordOf_1 : decode cX11_keywordOf 1 = .ok (.istore_n 2, 1) := by decide +kernel
theorem dX11_keywordOf_2 : decode cX11_keywordOf 2 = .ok (.iload_n 2, 1) := by decide +kernel
theorem dX11_keywordOf_3 : decode cX11_keywordOf 3 = .ok (.bipush 12, 2) := by decide +kernel
theorem dX11_keywordOf_5 : decode cX11_keywordOf 5 = .ok (.if_icmp .ge 59, 3) := by decide +kernel
theorem dX11_keywordOf_8 : decode cX11_keywordOf 8 = .ok (.iload_n 2, 1) := by decide +kernel
theorem dX11_keywordOf_9 : decode cX11_keywordOf 9 = .ok (.invokestatic 347, 3) := by decide +kernel
theorem dX11_keywordOf_12 : decode cX11_keywordOf 12 = .ok (.astore_n 3, 1) := by decide +kernel
theorem dX11_keywordOf_13 : decode cX11_keywordOf 13 = .ok (.lconst 0, 1) := by decide +kernel
theorem dX11_keywordOf_14 : decode cX11_keywordOf 14 = .ok (.lstore 4, 2) := by decide +kernel
theorem dX11_keywordOf_16 : decode cX11_keywordOf 16 = .ok (.iconst 0, 1) := by decide +kernel
theorem dX11_keywordOf_17 : decode cX11_keywordOf 17 = .ok (.istore 6, 2) := by decide +kernel
theorem dX11_keywordOf_19 : decode cX11_keywordOf 19 = .ok (.iload 6, 2) := by decide +kernel
theorem dX11_keywordOf_21 : decode cX11_keywordOf 21 = .ok (.aload_n 3, 1) := by decide +kernel
theorem dX11_keywordOf_22 : decode cX11_keywordOf 22 = .ok (.invokevirtual 351, 3) := by decide +kernel
theorem dX11_keywordOf_25 : decode cX11_keywordOf 25 = .ok (.if_icmp .ge 24, 3) := by decide +kernel
theorem dX11_keywordOf_28 : decode cX11_keywordOf 28 = .ok (.lload 4, 2) := by decide +kernel
theorem dX11_keywordOf_30 : decode cX11_keywordOf 30 = .ok (.iload 6, 2) := by decide +kernel
theorem dX11_keywordOf_32 : decode cX11_keywordOf 32 = .ok (.aload_n 3, 1) := by decide +kernel
theorem dX11_keywordOf_33 : decode cX11_keywordOf 33 = .ok (.iload 6, 2) := by decide +kernel
theorem dX11_keywordOf_35 : decode cX11_keywordOf 35 = .ok (.invokevirtual 356, 3) := by decide +kernel
theorem dX11_keywordOf_38 : decode cX11_keywordOf 38 = .ok (.invokestatic 360, 3) := by decide +kernel
theorem dX11_keywordOf_41 : decode cX11_keywordOf 41 = .ok (.lstore 4, 2) := by decide +kernel
theorem dX11_keywordOf_43 : decode cX11_keywordOf 43 = .ok (.iinc 6 1, 3) := by decide +kernel
theorem dX11_keywordOf_46 : decode cX11_keywordOf 46 = .ok (.goto (-27), 3) := by decide +kernel
theorem dX11_keywordOf_49 : decode cX11_keywordOf 49 = .ok (.lload 4, 2) := by decide +kernel
theorem dX11_keywordOf_51 : decode cX11_keywordOf 51 = .ok (.lload_n 0, 1) := by decide +kernel
theorem dX11_keywordOf_52 : decode cX11_keywordOf 52 = .ok (.lcmp, 1) := by decide +kernel
theorem dX11_keywordOf_53 : decode cX11_keywordOf 53 = .ok (.ifCond .ne 5, 3) := by decide +kernel
theorem dX11_keywordOf_56 : decode cX11_keywordOf 56 = .ok (.iload_n 2, 1) := by decide +kernel
theorem dX11_keywordOf_57 : decode cX11_keywordOf 57 = .ok (.ireturn, 1) := by decide +kernel
theorem dX11_keywordOf_58 : decode cX11_keywordOf 58 = .ok (.iinc 2 1, 3) := by decide +kernel
theorem dX11_keywordOf_61 : decode cX11_keywordOf 61 = .ok (.goto (-59), 3) := by decide +kernel
theorem dX11_keywordOf_64 : decode cX11_keywordOf 64 = .ok (.iconst (-1), 1) := by decide +kernel
theorem dX11_keywordOf_65 : decode cX11_keywordOf 65 = .ok (.ireturn, 1) := by decide +kernel
theorem dX12_init_0 : decode cX12_init 0 = .ok (.aload_n 0, 1) := by decide +kernel
theorem dX12_init_1 : decode cX12_init 1 = .ok (.invokespecial 1, 3) := by decide +kernel
theorem dX12_init_4 : decode cX12_init 4 = .ok (.aload_n 0, 1) := by decide +kernel
theorem dX12_init_5 : decode cX12_init 5 = .ok (.bipush 6, 2) := by decide +kernel
theorem dX12_init_7 : decode cX12_init 7 = .ok (.newarray .int, 2) := by decide +kernel
theorem dX12_init_9 : decode cX12_init 9 = .ok (.putfield 7, 3) := by decide +kernel
theorem dX12_init_12 : decode cX12_init 12 = .ok (.aload_n 0, 1) := by decide +kernel
theorem dX12_init_13 : decode cX12_init 13 = .ok (.bipush 6, 2) := by decide +kernel
theorem dX12_init_15 : decode cX12_init 15 = .ok (.newarray .int, 2) := by decide +kernel
theorem dX12_init_17 : decode cX12_init 17 = .ok (.putfield 13, 3) := by decide +kernel
theorem dX12_init_20 : decode cX12_init 20 = .ok (.aload_n 0, 1) := by decide +kernel
theorem dX12_init_21 : decode cX12_init 21 = .ok (.bipush 6, 2) := by decide +kernel
theorem dX12_init_23 : decode cX12_init 23 = .ok (.newarray .int, 2) := by decide +kernel
theorem dX12_init_25 : decode cX12_init 25 = .ok (.putfield 16, 3) := by decide +kernel
theorem dX12_init_28 : decode cX12_init 28 = .ok (.aload_n 0, 1) := by decide +kernel
theorem dX12_init_29 : decode cX12_init 29 = .ok (.bipush 6, 2) := by decide +kernel
theorem dX12_init_31 : decode cX12_init 31 = .ok (.newarray .int, 2) := by decide +kernel
theorem dX12_init_33 : decode cX12_init 33 = .ok (.putfield 19, 3) := by decide +kernel
theorem dX12_init_36 : decode cX12_init 36 = .ok (.aload_n 0, 1) := by decide +kernel
theorem dX12_init_37 : decode cX12_init 37 = .ok (.bipush 6, 2) := by decide +kernel
theorem dX12_init_39 : decode cX12_init 39 = .ok (.newarray .int, 2) := by decide +kernel
theorem dX12_init_41 : decode cX12_init 41 = .ok (.putfield 22, 3) := by decide +kernel
theorem dX12_init_44 : decode cX12_init 44 = .ok (.aload_n 0, 1) := by decide +kernel
theorem dX12_init_45 : decode cX12_init 45 = .ok (.bipush 6, 2) := by decide +kernel
theorem dX12_init_47 : decode cX12_init 47 = .ok (.newarray .int, 2) := by decide +kernel
theorem dX12_init_49 : decode cX12_init 49 = .ok (.putfield 25, 3) := by decide +kernel
theorem dX12_init_52 : decode cX12_init 52 = .ok (.aload_n 0, 1) := by decide +kernel
theorem dX12_init_53 : decode cX12_init 53 = .ok (.bipush 6, 2) := by decide +kernel
theorem dX12_init_55 : decode cX12_init 55 = .ok (.newarray .int, 2) := by decide +kernel
theorem dX12_init_57 : decode cX12_init 57 = .ok (.putfield 28, 3) := by decide +kernel
theorem dX12_init_60 : decode cX12_init 60 = .ok (.aload_n 0, 1) := by decide +kernel
theorem dX12_init_61 : decode cX12_init 61 = .ok (.bipush 6, 2) := by decide +kernel
theorem dX12_init_63 : decode cX12_init 63 = .ok (.newarray .boolean, 2) := by decide +kernel
theorem dX12_init_65 : decode cX12_init 65 = .ok (.putfield 31, 3) := by decide +kernel
theorem dX12_init_68 : decode cX12_init 68 = .ok (.aload_n 0, 1) := by decide +kernel
theorem dX12_init_69 : decode cX12_init 69 = .ok (.bipush 6, 2) := by decide +kernel
theorem dX12_init_71 : decode cX12_init 71 = .ok (.newarray .int, 2) := by decide +kernel
theorem dX12_init_73 : decode cX12_init 73 = .ok (.putfield 35, 3) := by decide +kernel
theorem dX12_init_76 : decode cX12_init 76 = .ok (.aload_n 0, 1) := by decide +kernel
theorem dX12_init_77 : decode cX12_init 77 = .ok (.bipush 6, 2) := by decide +kernel
theorem dX12_init_79 : decode cX12_init 79 = .ok (.newarray .int, 2) := by decide +kernel
theorem dX12_init_81 : decode cX12_init 81 = .ok (.putfield 38, 3) := by decide +kernel
theorem dX12_init_84 : decode cX12_init 84 = .ok (.aload_n 0, 1) := by decide +kernel
theorem dX12_init_85 : decode cX12_init 85 = .ok (.bipush 6, 2) := by decide +kernel
theorem dX12_init_87 : decode cX12_init 87 = .ok (.newarray .int, 2) := by decide +kernel
theorem dX12_init_89 : decode cX12_init 89 = .ok (.putfield 41, 3) := by decide +kernel
theorem dX12_init_92 : decode cX12_init 92 = .ok (.aload_n 0, 1) := by decide +kernel
theorem dX12_init_93 : decode cX12_init 93 = .ok (.bipush 6, 2) := by decide +kernel
theorem dX12_init_95 : decode cX12_init 95 = .ok (.newarray .int, 2) := by decide +kernel
theorem dX12_init_97 : decode cX12_init 97 = .ok (.putfield 44, 3) := by decide +kernel
theorem dX12_init_100 : decode cX12_init 100 = .ok (.aload_n 0, 1) := by decide +kernel
theorem dX12_init_101 : decode cX12_init 101 = .ok (.bipush 6, 2) := by decide +kernel
theorem dX12_init_103 : decode cX12_init 103 = .ok (.newarray .int, 2) := by decide +kernel
theorem dX12_init_105 : decode cX12_init 105 = .ok (.putfield 47, 3) := by decide +kernel
theorem dX12_init_108 : decode cX12_init 108 = .ok (.aload_n 0, 1) := by decide +kernel
theorem dX12_init_109 : decode cX12_init 109 = .ok (.bipush 6, 2) := by decide +kernel
theorem dX12_init_111 : decode cX12_init 111 = .ok (.newarray .int, 2) := by decide +kernel
theorem dX12_init_113 : decode cX12_init 113 = .ok (.putfield 50, 3) := by decide +kernel
theorem dX12_init_116 : decode cX12_init 116 = .ok (.aload_n 0, 1) := by decide +kernel
theorem dX12_init_117 : decode cX12_init 117 = .ok (.bipush 6, 2) := by decide +kernel
theorem dX12_init_119 : decode cX12_init 119 = .ok (.newarray .int, 2) := by decide +kernel
theorem dX12_init_121 : decode cX12_init 121 = .ok (.putfield 53, 3) := by decide +kernel
theorem dX12_init_124 : decode cX12_init 124 = .ok (.aload_n 0, 1) := by decide +kernel
theorem dX12_init_125 : decode cX12_init 125 = .ok (.bipush 6, 2) := by decide +kernel
theorem dX12_init_127 : decode cX12_init 127 = .ok (.newarray .int, 2) := by decide +kernel
theorem dX12_init_129 : decode cX12_init 129 = .ok (.putfield 56, 3) := by decide +kernel
theorem dX12_init_132 : decode cX12_init 132 = .ok (.aload_n 0, 1) := by decide +kernel
theorem dX12_init_133 : decode cX12_init 133 = .ok (.new 59, 3) := by decide +kernel
theorem dX12_init_136 : decode cX12_init 136 = .ok (.dup, 1) := by decide +kernel
theorem dX12_init_137 : decode cX12_init 137 = .ok (.invokespecial 61, 3) := by decide +kernel
theorem dX12_init_140 : decode cX12_init 140 = .ok (.putfield 62, 3) := by decide +kernel
theorem dX12_init_143 : decode cX12_init 143 = .ok (.aload_n 0, 1) := by decide +kernel
theorem dX12_init_144 : decode cX12_init 144 = .ok (.iconst 1, 1) := by decide +kernel
theorem dX12_init_145 : decode cX12_init 145 = .ok (.aload_n 1, 1) := by decide +kernel
theorem dX12_init_146 : decode cX12_init 146 = .ok (.bipush 6, 2) := by decide +kernel
theorem dX12_init_148 : decode cX12_init 148 = .ok (.invokestatic 66, 3) := by decide +kernel
theorem dX12_init_151 : decode cX12_init 151 = .ok (.iadd, 1) := by decide +kernel
theorem dX12_init_152 : decode cX12_init 152 = .ok (.putfield 72, 3) := by decide +kernel
theorem dX12_init_155 : decode cX12_init 155 = .ok (.aload_n 0, 1) := by decide +kernel
theorem dX12_init_156 : decode cX12_init 156 = .ok (.aload_n 1, 1) := by decide +kernel
theorem dX12_init_157 : decode cX12_init 157 = .ok (.bipush 6, 2) := by decide +kernel
theorem dX12_init_159 : decode cX12_init 159 = .ok (.invokestatic 66, 3) := by decide +kernel
theorem dX12_init_162 : decode cX12_init 162 = .ok (.putfield 76, 3) := by decide +kernel
theorem dX12_init_165 : decode cX12_init 165 = .ok (.aload_n 0, 1) := by decide +kernel
theorem dX12_init_166 : decode cX12_init 166 = .ok (.aload_n 1, 1) := by decide +kernel
theorem dX12_init_167 : decode cX12_init 167 = .ok (.iconst 3, 1) := by decide +kernel
theorem dX12_init_168 : decode cX12_init 168 = .ok (.invokestatic 66, 3) := by decide +kernel
theorem dX12_init_171 : decode cX12_init 171 = .ok (.ifCond .ne 14, 3) := by decide +kernel
theorem dX12_init_174 : decode cX12_init 174 = .ok (.iconst 2, 1) := by decide +kernel
theorem dX12_init_175 : decode cX12_init 175 = .ok (.aload_n 1, 1) := by decide +kernel
theorem dX12_init_176 : decode cX12_init 176 = .ok (.bipush 6, 2) := by decide +kernel
theorem dX12_init_178 : decode cX12_init 178 = .ok (.invokestatic 66, 3) := by decide +kernel
theorem dX12_init_181 : decode cX12_init 181 = .ok (.iadd, 1) := by decide +kernel
theorem dX12_init_182 : decode cX12_init 182 = .ok (.goto 4, 3) := by decide +kernel
theorem dX12_init_185 : decode cX12_init 185 = .ok (.iconst (-1), 1) := by decide +kernel
theorem dX12_init_186 : decode cX12_init 186 = .ok (.putfield 79, 3) := by decide +kernel
theorem dX12_init_189 : decode cX12_init 189 = .ok (.aload_n 0, 1) := by decide +kernel
theorem dX12_init_190 : decode cX12_init 190 = .ok (.aload_n 1, 1) := by decide +kernel
theorem dX12_init_191 : decode cX12_init 191 = .ok (.iconst 2, 1) := by decide +kernel
theorem dX12_init_192 : decode cX12_init 192 = .ok (.invokestatic 66, 3) := by decide +kernel
theorem dX12_init_195 : decode cX12_init 195 = .ok (.ifCond .ne 14, 3) := by decide +kernel
theorem dX12_init_198 : decode cX12_init 198 = .ok (.iconst 1, 1) := by decide +kernel
theorem dX12_init_199 : decode cX12_init 199 = .ok (.aload_n 1, 1) := by decide +kernel
theorem dX12_init_200 : decode cX12_init 200 = .ok (.bipush 9, 2) := by decide +kernel
theorem dX12_init_202 : decode cX12_init 202 = .ok (.invokestatic 66, 3) := by decide +kernel
theorem dX12_init_205 : decode cX12_init 205 = .ok (.iadd, 1) := by decide +kernel
theorem dX12_init_206 : decode cX12_init 206 = .ok (.goto 4, 3) := by decide +kernel
theorem dX12_init_209 : decode cX12_init 209 = .ok (.iconst 0, 1) := by decide +kernel
theorem dX12_init_210 : decode cX12_init 210 = .ok (.putfield 82, 3) := by decide +kernel
theorem dX12_init_213 : decode cX12_init 213 = .ok (.aload_n 0, 1) := by decide +kernel
theorem dX12_init_214 : decode cX12_init 214 = .ok (.aload_n 1, 1) := by decide +kernel
theorem dX12_init_215 : decode cX12_init 215 = .ok (.aload_n 0, 1) := by decide +kernel
theorem dX12_init_216 : decode cX12_init 216 = .ok (.getfield 72, 3) := by decide +kernel
theorem dX12_init_219 : decode cX12_init 219 = .ok (.invokestatic 66, 3) := by decide +kernel
theorem dX12_init_222 : decode cX12_init 222 = .ok (.putfield 85, 3) := by decide +kernel
theorem dX12_init_225 : decode cX12_init 225 = .ok (.aload_n 0, 1) := by decide +kernel
theorem dX12_init_226 : decode cX12_init 226 = .ok (.aload_n 1, 1) := by decide +kernel
theorem dX12_init_227 : decode cX12_init 227 = .ok (.bipush 12, 2) := by decide +kernel
theorem dX12_init_229 : decode cX12_init 229 = .ok (.invokestatic 66, 3) := by decide +kernel
theorem dX12_init_232 : decode cX12_init 232 = .ok (.putfield 88, 3) := by decide +kernel
theorem dX12_init_235 : decode cX12_init 235 = .ok (.iconst 0, 1) := by decide +kernel
theorem dX12_init_236 : decode cX12_init 236 = .ok (.istore_n 2, 1) := by decide +kernel
theorem dX12_init_237 : decode cX12_init 237 = .ok (.iload_n 2, 1) := by decide +kernel
theorem dX12_init_238 : decode cX12_init 238 = .ok (.aload_n 0, 1) := by decide +kernel
theorem dX12_init_239 : decode cX12_init 239 = .ok (.getfield 72, 3) := by decide +kernel
theorem dX12_init_242 : decode cX12_init 242 = .ok (.if_icmp .ge 161, 3) := by decide +kernel
theorem dX12_init_245 : decode cX12_init 245 = .ok (.aload_n 0, 1) := by decide +kernel
theorem dX12_init_246 : decode cX12_init 246 = .ok (.getfield 7, 3) := by decide +kernel
theorem dX12_init_249 : decode cX12_init 249 = .ok (.iload_n 2, 1) := by decide +kernel
theorem dX12_init_250 : decode cX12_init 250 = .ok (.iload_n 2, 1) := by decide +kernel
theorem dX12_init_251 : decode cX12_init 251 = .ok (.ifCond .ne 8, 3) := by decide +kernel
theorem dX12_init_254 : decode cX12_init 254 = .ok (.bipush (-2), 2) := by decide +kernel
theorem dX12_init_256 : decode cX12_init 256 = .ok (.goto 8, 3) := by decide +kernel
theorem dX12_init_259 : decode cX12_init 259 = .ok (.aload_n 1, 1) := by decide +kernel
theorem dX12_init_260 : decode cX12_init 260 = .ok (.iload_n 2, 1) := by decide +kernel
theorem dX12_init_261 : decode cX12_init 261 = .ok (.invokestatic 66, 3) := by decide +kernel
theorem dX12_init_264 : decode cX12_init 264 = .ok (.iastore, 1) := by decide +kernel
theorem dX12_init_265 : decode cX12_init 265 = .ok (.aload_n 0, 1) := by decide +kernel
theorem dX12_init_266 : decode cX12_init 266 = .ok (.getfield 13, 3) := by decide +kernel
theorem dX12_init_269 : decode cX12_init 269 = .ok (.iload_n 2, 1) := by decide +kernel
theorem dX12_init_270 : decode cX12_init 270 = .ok (.aload_n 1, 1) := by decide +kernel
theorem dX12_init_271 : decode cX12_init 271 = .ok (.bipush 7, 2) := by decide +kernel
theorem dX12_init_273 : decode cX12_init 273 = .ok (.invokestatic 66, 3) := by decide +kernel
theorem dX12_init_276 : decode cX12_init 276 = .ok (.iastore, 1) := by decide +kernel
theorem dX12_init_277 : decode cX12_init 277 = .ok (.aload_n 0, 1) := by decide +kernel
theorem dX12_init_278 : decode cX12_init 278 = .ok (.getfield 16, 3) := by decide +kernel
theorem dX12_init_281 : decode cX12_init 281 = .ok (.iload_n 2, 1) := by decide +kernel
theorem dX12_init_282 : decode cX12_init 282 = .ok (.aload_n 1, 1) := by decide +kernel
theorem dX12_init_283 : decode cX12_init 283 = .ok (.bipush 12, 2) := by decide +kernel
theorem dX12_init_285 : decode cX12_init 285 = .ok (.invokestatic 66, 3) := by decide +kernel
theorem dX12_init_288 : decode cX12_init 288 = .ok (.iastore, 1) := by decide +kernel
theorem dX12_init_289 : decode cX12_init 289 = .ok (.aload_n 0, 1) := by decide +kernel
theorem dX12_init_290 : decode cX12_init 290 = .ok (.getfield 19, 3) := by decide +kernel
theorem dX12_init_293 : decode cX12_init 293 = .ok (.iload_n 2, 1) := by decide +kernel
theorem dX12_init_294 : decode cX12_init 294 = .ok (.iconst 1, 1) := by decide +kernel
theorem dX12_init_295 : decode cX12_init 295 = .ok (.aload_n 1, 1) := by decide +kernel
theorem dX12_init_296 : decode cX12_init 296 = .ok (.bipush 20, 2) := by decide +kernel
theorem dX12_init_298 : decode cX12_init 298 = .ok (.invokestatic 66, 3) := by decide +kernel
theorem dX12_init_301 : decode cX12_init 301 = .ok (.iadd, 1) := by decide +kernel
theorem dX12_init_302 : decode cX12_init 302 = .ok (.iastore, 1) := by decide +kernel
theorem dX12_init_303 : decode cX12_init 303 = .ok (.aload_n 0, 1) := by decide +kernel
theorem dX12_init_304 : decode cX12_init 304 = .ok (.getfield 22, 3) := by decide +kernel
theorem dX12_init_307 : decode cX12_init 307 = .ok (.iload_n 2, 1) := by decide +kernel
theorem dX12_init_308 : decode cX12_init 308 = .ok (.aload_n 1, 1) := by decide +kernel
theorem dX12_init_309 : decode cX12_init 309 = .ok (.bipush 9, 2) := by decide +kernel
theorem dX12_init_311 : decode cX12_init 311 = .ok (.invokestatic 66, 3) := by decide +kernel
theorem dX12_init_314 : decode cX12_init 314 = .ok (.iastore, 1) := by decide +kernel
theorem dX12_init_315 : decode cX12_init 315 = .ok (.aload_n 0, 1) := by decide +kernel
theorem dX12_init_316 : decode cX12_init 316 = .ok (.getfield 25, 3) := by decide +kernel
theorem dX12_init_319 : decode cX12_init 319 = .ok (.iload_n 2, 1) := by decide +kernel
theorem dX12_init_320 : decode cX12_init 320 = .ok (.iconst 1, 1) := by decide +kernel
theorem dX12_init_321 : decode cX12_init 321 = .ok (.aload_n 1, 1) := by decide +kernel
theorem dX12_init_322 : decode cX12_init 322 = .ok (.iconst 3, 1) := by decide +kernel
theorem dX12_init_323 : decode cX12_init 323 = .ok (.invokestatic 66, 3) := by decide +kernel
theorem dX12_init_326 : decode cX12_init 326 = .ok (.iadd, 1) := by decide +kernel
theorem dX12_init_327 : decode cX12_init 327 = .ok (.iastore, 1) := by decide +kernel
theorem dX12_init_328 : decode cX12_init 328 = .ok (.aload_n 0, 1) := by decide +kernel
theorem dX12_init_329 : decode cX12_init 329 = .ok (.getfield 28, 3) := by decide +kernel
theorem dX12_init_332 : decode cX12_init 332 = .ok (.iload_n 2, 1) := by decide +kernel
theorem dX12_init_333 : decode cX12_init 333 = .ok (.aload_n 1, 1) := by decide +kernel
theorem dX12_init_334 : decode cX12_init 334 = .ok (.iconst 2, 1) := by decide +kernel
theorem dX12_init_335 : decode cX12_init 335 = .ok (.invokestatic 66, 3) := by decide +kernel
theorem dX12_init_338 : decode cX12_init 338 = .ok (.iastore, 1) := by decide +kernel
theorem dX12_init_339 : decode cX12_init 339 = .ok (.aload_n 0, 1) := by decide +kernel
theorem dX12_init_340 : decode cX12_init 340 = .ok (.getfield 31, 3) := by decide +kernel
theorem dX12_init_343 : decode cX12_init 343 = .ok (.iload_n 2, 1) := by decide +kernel
theorem dX12_init_344 : decode cX12_init 344 = .ok (.aload_n 1, 1) := by decide +kernel
theorem dX12_init_345 : decode cX12_init 345 = .ok (.iconst 5, 1) := by decide +kernel
theorem dX12_init_346 : decode cX12_init 346 = .ok (.invokestatic 66, 3) := by decide +kernel
theorem dX12_init_349 : decode cX12_init 349 = .ok (.ifCond .ne 7, 3) := by decide +kernel
theorem dX12_init_352 : decode cX12_init 352 = .ok (.iconst 1, 1) := by decide +kernel
theorem dX12_init_353 : decode cX12_init 353 = .ok (.goto 4, 3) := by decide +kernel
theorem dX12_init_356 : decode cX12_init 356 = .ok (.iconst 0, 1) := by decide +kernel
theorem dX12_init_357 : decode cX12_init 357 = .ok (.bastore, 1) := by decide +kernel
theorem dX12_init_358 : decode cX12_init 358 = .ok (.aload_n 0, 1) := by decide +kernel
theorem dX12_init_359 : decode cX12_init 359 = .ok (.getfield 35, 3) := by decide +kernel
theorem dX12_init_362 : decode cX12_init 362 = .ok (.iload_n 2, 1) := by decide +kernel
theorem dX12_init_363 : decode cX12_init 363 = .ok (.aload_n 0, 1) := by decide +kernel
theorem dX12_init_364 : decode cX12_init 364 = .ok (.getfield 19, 3) := by decide +kernel
theorem dX12_init_367 : decode cX12_init 367 = .ok (.iload_n 2, 1) := by decide +kernel
theorem dX12_init_368 : decode cX12_init 368 = .ok (.iaload, 1) := by decide +kernel
theorem dX12_init_369 : decode cX12_init 369 = .ok (.iastore, 1) := by decide +kernel
theorem dX12_init_370 : decode cX12_init 370 = .ok (.aload_n 0, 1) := by decide +kernel
theorem dX12_init_371 : decode cX12_init 371 = .ok (.getfield 41, 3) := by decide +kernel
theorem dX12_init_374 : decode cX12_init 374 = .ok (.iload_n 2, 1) := by decide +kernel
theorem dX12_init_375 : decode cX12_init 375 = .ok (.aload_n 0, 1) := by decide +kernel
theorem dX12_init_376 : decode cX12_init 376 = .ok (.getfield 19, 3) := by decide +kernel
theorem dX12_init_379 : decode cX12_init 379 = .ok (.iload_n 2, 1) := by decide +kernel
theorem dX12_init_380 : decode cX12_init 380 = .ok (.iaload, 1) := by decide +kernel
theorem dX12_init_381 : decode cX12_init 381 = .ok (.iastore, 1) := by decide +kernel
theorem dX12_init_382 : decode cX12_init 382 = .ok (.aload_n 0, 1) := by decide +kernel
theorem dX12_init_383 : decode cX12_init 383 = .ok (.getfield 62, 3) := by decide +kernel
theorem dX12_init_386 : decode cX12_init 386 = .ok (.new 59, 3) := by decide +kernel
theorem dX12_init_389 : decode cX12_init 389 = .ok (.dup, 1) := by decide +kernel
theorem dX12_init_390 : decode cX12_init 390 = .ok (.invokespecial 61, 3) := by decide +kernel
theorem dX12_init_393 : decode cX12_init 393 = .ok (.invokevirtual 91, 3) := by decide +kernel
theorem dX12_init_396 : decode cX12_init 396 = .ok (.pop, 1) := by decide +kernel
theorem dX12_init_397 : decode cX12_init 397 = .ok (.iinc 2 1, 3) := by decide +kernel
theorem dX12_init_400 : decode cX12_init 400 = .ok (.goto (-163), 3) := by decide +kernel
theorem dX12_init_403 : decode cX12_init 403 = .ok (.return_, 1) := by decide +kernel
theorem dX12_isLeaf_0 : decode cX12_isLeaf 0 = .ok (.iconst 0, 1) := by decide +kernel
theorem dX12_isLeaf_1 : decode cX12_isLeaf 1 = .ok (.istore_n 2, 1) := by decide +kernel
theorem dX12_isLeaf_2 : decode cX12_isLeaf 2 = .ok (.iload_n 2, 1) := by decide +kernel
theorem dX12_isLeaf_3 : decode cX12_isLeaf 3 = .ok (.aload_n 0, 1) := by decide +kernel
theorem dX12_isLeaf_4 : decode cX12_isLeaf 4 = .ok (.getfield 72, 3) := by decide +kernel
theorem dX12_isLeaf_7 : decode cX12_isLeaf 7 = .ok (.if_icmp .ge 21, 3) := by decide +kernel
theorem dX12_isLeaf_10 : decode cX12_isLeaf 10 = .ok (.aload_n 0, 1) := by decide +kernel
theorem dX12_isLeaf_11 : decode cX12_isLeaf 11 = .ok (.getfield 7, 3) := by decide +kernel
theorem dX12_isLeaf_14 : decode cX12_isLeaf 14 = .ok (.iload_n 2, 1) := by decide +kernel
theorem dX12_isLeaf_15 : decode cX12_isLeaf 15 = .ok (.iaload, 1) := by decide +kernel
theorem dX12_isLeaf_16 : decode cX12_isLeaf 16 = .ok (.iload_n 1, 1) := by decide +kernel
theorem dX12_isLeaf_17 : decode cX12_isLeaf 17 = .ok (.if_icmp .ne 5, 3) := by decide +kernel
theorem dX12_isLeaf_20 : decode cX12_isLeaf 20 = .ok (.iconst 0, 1) := by decide +kernel
theorem dX12_isLeaf_21 : decode cX12_isLeaf 21 = .ok (.ireturn, 1) := by decide +kernel
theorem dX12_isLeaf_22 : decode cX12_isLeaf 22 = .ok (.iinc 2 1, 3) := by decide +kernel
theorem dX12_isLeaf_25 : decode cX12_isLeaf 25 = .ok (.goto (-23), 3) := by decide +kernel
theorem dX12_isLeaf_28 : decode cX12_isLeaf 28 = .ok (.iconst 1, 1) := by decide +kernel
theorem dX12_isLeaf_29 : decode cX12_isLeaf 29 = .ok (.ireturn, 1) := by decide +kernel
theorem dX12_steps_0 : decode cX12_steps 0 = .ok (.iload_n 1, 1) := by decide +kernel
theorem dX12_steps_1 : decode cX12_steps 1 = .ok (.iload_n 2, 1) := by decide +kernel
theorem dX12_steps_2 : decode cX12_steps 2 = .ok (.if_icmp .ne 7, 3) := by decide +kernel
theorem dX12_steps_5 : decode cX12_steps 5 = .ok (.iconst 0, 1) := by decide +kernel
theorem dX12_steps_6 : decode cX12_steps 6 = .ok (.goto 16, 3) := by decide +kernel
theorem dX12_steps_9 : decode cX12_steps 9 = .ok (.iconst 1, 1) := by decide +kernel
theorem dX12_steps_10 : decode cX12_steps 10 = .ok (.aload_n 0, 1) := by decide +kernel
theorem dX12_steps_11 : decode cX12_steps 11 = .ok (.aload_n 0, 1) := by decide +kernel
theorem dX12_steps_12 : decode cX12_steps 12 = .ok (.getfield 7, 3) := by decide +kernel
theorem dX12_steps_15 : decode cX12_steps 15 = .ok (.iload_n 1, 1) := by decide +kernel
theorem dX12_steps_16 : decode cX12_steps 16 = .ok (.iaload, 1) := by decide +kernel
theorem dX12_steps_17 : decode cX12_steps 17 = .ok (.iload_n 2, 1) := by decide +kernel
theorem dX12_steps_18 : decode cX12_steps 18 = .ok (.invokevirtual 95, 3) := by decide +kernel
theorem dX12_steps_21 : decode cX12_steps 21 = .ok (.iadd, 1) := by decide +kernel
theorem dX12_steps_22 : decode cX12_steps 22 = .ok (.ireturn, 1) := by decide +kernel
theorem dX12_lender_0 : decode cX12_lender 0 = .ok (.iload_n 1, 1) := by decide +kernel
theorem dX12_lender_1 : decode cX12_lender 1 = .ok (.istore_n 3, 1) := by decide +kernel
theorem dX12_lender_2 : decode cX12_lender 2 = .ok (.iload_n 3, 1) := by decide +kernel
theorem dX12_lender_3 : decode cX12_lender 3 = .ok (.ifCond .lt 26, 3) := by decide +kernel
theorem dX12_lender_6 : decode cX12_lender 6 = .ok (.aload_n 0, 1) := by decide +kernel
theorem dX12_lender_7 : decode cX12_lender 7 = .ok (.getfield 41, 3) := by decide +kernel
theorem dX12_lender_10 : decode cX12_lender 10 = .ok (.iload_n 3, 1) := by decide +kernel
theorem dX12_lender_11 : decode cX12_lender 11 = .ok (.iaload, 1) := by decide +kernel
theorem dX12_lender_12 : decode cX12_lender 12 = .ok (.iload_n 2, 1) := by decide +kernel
theorem dX12_lender_13 : decode cX12_lender 13 = .ok (.if_icmp .ge 6, 3) := by decide +kernel
theorem dX12_lender_16 : decode cX12_lender 16 = .ok (.bipush (-2), 2) := by decide +kernel
theorem dX12_lender_18 : decode cX12_lender 18 = .ok (.ireturn, 1) := by decide +kernel
theorem dX12_lender_19 : decode cX12_lender 19 = .ok (.aload_n 0, 1) := by decide +kernel
theorem dX12_lender_20 : decode cX12_lender 20 = .ok (.getfield 7, 3) := by decide +kernel
theorem dX12_lender_23 : decode cX12_lender 23 = .ok (.iload_n 3, 1) := by decide +kernel
theorem dX12_lender_24 : decode cX12_lender 24 = .ok (.iaload, 1) := by decide +kernel
theorem dX12_lender_25 : decode cX12_lender 25 = .ok (.istore_n 3, 1) := by decide +kernel
theorem dX12_lender_26 : decode cX12_lender 26 = .ok (.goto (-24), 3) := by decide +kernel
theorem dX12_lender_29 : decode cX12_lender 29 = .ok (.iload_n 1, 1) := by decide +kernel
theorem dX12_lender_30 : decode cX12_lender 30 = .ok (.istore_n 3, 1) := by decide +kernel
theorem dX12_lender_31 : decode cX12_lender 31 = .ok (.iload_n 3, 1) := by decide +kernel
theorem dX12_lender_32 : decode cX12_lender 32 = .ok (.ifCond .lt 44, 3) := by decide +kernel
theorem dX12_lender_35 : decode cX12_lender 35 = .ok (.aload_n 0, 1) := by decide +kernel
theorem dX12_lender_36 : decode cX12_lender 36 = .ok (.getfield 35, 3) := by decide +kernel
theorem dX12_lender_39 : decode cX12_lender 39 = .ok (.iload_n 3, 1) := by decide +kernel
theorem dX12_lender_40 : decode cX12_lender 40 = .ok (.iaload, 1) := by decide +kernel
theorem dX12_lender_41 : decode cX12_lender 41 = .ok (.aload_n 0, 1) := by decide +kernel
theorem dX12_lender_42 : decode cX12_lender 42 = .ok (.getfield 38, 3) := by decide +kernel
theorem dX12_lender_45 : decode cX12_lender 45 = .ok (.iload_n 3, 1) := by decide +kernel
theorem dX12_lender_46 : decode cX12_lender 46 = .ok (.iaload, 1) := by decide +kernel
theorem dX12_lender_47 : decode cX12_lender 47 = .ok (.iadd, 1) := by decide +kernel
theorem dX12_lender_48 : decode cX12_lender 48 = .ok (.iload_n 2, 1) := by decide +kernel
theorem dX12_lender_49 : decode cX12_lender 49 = .ok (.if_icmp .lt 5, 3) := by decide +kernel
theorem dX12_lender_52 : decode cX12_lender 52 = .ok (.iload_n 3, 1) := by decide +kernel
theorem dX12_lender_53 : decode cX12_lender 53 = .ok (.ireturn, 1) := by decide +kernel
theorem dX12_lender_54 : decode cX12_lender 54 = .ok (.aload_n 0, 1) := by decide +kernel
theorem dX12_lender_55 : decode cX12_lender 55 = .ok (.getfield 31, 3) := by decide +kernel
theorem dX12_lender_58 : decode cX12_lender 58 = .ok (.iload_n 3, 1) := by decide +kernel
theorem dX12_lender_59 : decode cX12_lender 59 = .ok (.baload, 1) := by decide +kernel
theorem dX12_lender_60 : decode cX12_lender 60 = .ok (.ifCond .eq 6, 3) := by decide +kernel
theorem dX12_lender_63 : decode cX12_lender 63 = .ok (.bipush (-2), 2) := by decide +kernel
theorem dX12_lender_65 : decode cX12_lender 65 = .ok (.ireturn, 1) := by decide +kernel
theorem dX12_lender_66 : decode cX12_lender 66 = .ok (.aload_n 0, 1) := by decide +kernel
theorem dX12_lender_67 : decode cX12_lender 67 = .ok (.getfield 7, 3) := by decide +kernel
theorem dX12_lender_70 : decode cX12_lender 70 = .ok (.iload_n 3, 1) := by decide +kernel
theorem dX12_lender_71 : decode cX12_lender 71 = .ok (.iaload, 1) := by decide +kernel
theorem dX12_lender_72 : decode cX12_lender 72 = .ok (.istore_n 3, 1) := by decide +kernel
theorem dX12_lender_73 : decode cX12_lender 73 = .ok (.goto (-42), 3) := by decide +kernel
theorem dX12_lender_76 : decode cX12_lender 76 = .ok (.bipush (-2), 2) := by decide +kernel
theorem dX12_lender_78 : decode cX12_lender 78 = .ok (.ireturn, 1) := by decide +kernel
theorem dX12_send_0 : decode cX12_send 0 = .ok (.aload_n 0, 1) := by decide +kernel
theorem dX12_send_1 : decode cX12_send 1 = .ok (.iload_n 1, 1) := by decide +kernel
theorem dX12_send_2 : decode cX12_send 2 = .ok (.iload_n 2, 1) := by decide +kernel
theorem dX12_send_3 : decode cX12_send 3 = .ok (.invokevirtual 99, 3) := by decide +kernel
theorem dX12_send_6 : decode cX12_send 6 = .ok (.istore_n 3, 1) := by decide +kernel
theorem dX12_send_7 : decode cX12_send 7 = .ok (.iload_n 1, 1) := by decide +kernel
theorem dX12_send_8 : decode cX12_send 8 = .ok (.istore 4, 2) := by decide +kernel
theorem dX12_send_10 : decode cX12_send 10 = .ok (.iload 4, 2) := by decide +kernel
theorem dX12_send_12 : decode cX12_send 12 = .ok (.ifCond .lt 26, 3) := by decide +kernel
theorem dX12_send_15 : decode cX12_send 15 = .ok (.aload_n 0, 1) := by decide +kernel
theorem dX12_send_16 : decode cX12_send 16 = .ok (.getfield 41, 3) := by decide +kernel
theorem dX12_send_19 : decode cX12_send 19 = .ok (.iload 4, 2) := by decide +kernel
theorem dX12_send_21 : decode cX12_send 21 = .ok (.dup2, 1) := by decide +kernel
theorem dX12_send_22 : decode cX12_send 22 = .ok (.iaload, 1) := by decide +kernel
theorem dX12_send_23 : decode cX12_send 23 = .ok (.iload_n 2, 1) := by decide +kernel
theorem dX12_send_24 : decode cX12_send 24 = .ok (.isub, 1) := by decide +kernel
theorem dX12_send_25 : decode cX12_send 25 = .ok (.iastore, 1) := by decide +kernel
theorem dX12_send_26 : decode cX12_send 26 = .ok (.aload_n 0, 1) := by decide +kernel
theorem dX12_send_27 : decode cX12_send 27 = .ok (.getfield 7, 3) := by decide +kernel
theorem dX12_send_30 : decode cX12_send 30 = .ok (.iload 4, 2) := by decide +kernel
theorem dX12_send_32 : decode cX12_send 32 = .ok (.iaload, 1) := by decide +kernel
theorem dX12_send_33 : decode cX12_send 33 = .ok (.istore 4, 2) := by decide +kernel
theorem dX12_send_35 : decode cX12_send 35 = .ok (.goto (-25), 3) := by decide +kernel
theorem dX12_send_38 : decode cX12_send 38 = .ok (.iload_n 2, 1) := by decide +kernel
theorem dX12_send_39 : decode cX12_send 39 = .ok (.aload_n 0, 1) := by decide +kernel
theorem dX12_send_40 : decode cX12_send 40 = .ok (.getfield 35, 3) := by decide +kernel
theorem dX12_send_43 : decode cX12_send 43 = .ok (.iload_n 3, 1) := by decide +kernel
theorem dX12_send_44 : decode cX12_send 44 = .ok (.iaload, 1) := by decide +kernel
theorem dX12_send_45 : decode cX12_send 45 = .ok (.invokestatic 102, 3) := by decide +kernel
theorem dX12_send_48 : decode cX12_send 48 = .ok (.istore 4, 2) := by decide +kernel
theorem dX12_send_50 : decode cX12_send 50 = .ok (.aload_n 0, 1) := by decide +kernel
theorem dX12_send_51 : decode cX12_send 51 = .ok (.getfield 35, 3) := by decide +kernel
theorem dX12_send_54 : decode cX12_send 54 = .ok (.iload_n 3, 1) := by decide +kernel
theorem dX12_send_55 : decode cX12_send 55 = .ok (.dup2, 1) := by decide +kernel
theorem dX12_send_56 : decode cX12_send 56 = .ok (.iaload, 1) := by decide +kernel
theorem dX12_send_57 : decode cX12_send 57 = .ok (.iload 4, 2) := by decide +kernel
theorem dX12_send_59 : decode cX12_send 59 = .ok (.isub, 1) := by decide +kernel
theorem dX12_send_60 : decode cX12_send 60 = .ok (.iastore, 1) := by decide +kernel
theorem dX12_send_61 : decode cX12_send 61 = .ok (.aload_n 0, 1) := by decide +kernel
theorem dX12_send_62 : decode cX12_send 62 = .ok (.getfield 38, 3) := by decide +kernel
theorem dX12_send_65 : decode cX12_send 65 = .ok (.iload_n 3, 1) := by decide +kernel
theorem dX12_send_66 : decode cX12_send 66 = .ok (.dup2, 1) := by decide +kernel
theorem dX12_send_67 : decode cX12_send 67 = .ok (.iaload, 1) := by decide +kernel
theorem dX12_send_68 : decode cX12_send 68 = .ok (.iload_n 2, 1) := by decide +kernel
theorem dX12_send_69 : decode cX12_send 69 = .ok (.iload 4, 2) := by decide +kernel
theorem dX12_send_71 : decode cX12_send 71 = .ok (.isub, 1) := by decide +kernel
theorem dX12_send_72 : decode cX12_send 72 = .ok (.isub, 1) := by decide +kernel
theorem dX12_send_73 : decode cX12_send 73 = .ok (.iastore, 1) := by decide +kernel
theorem dX12_send_74 : decode cX12_send 74 = .ok (.aload_n 0, 1) := by decide +kernel
theorem dX12_send_75 : decode cX12_send 75 = .ok (.getfield 7, 3) := by decide +kernel
theorem dX12_send_78 : decode cX12_send 78 = .ok (.iload_n 3, 1) := by decide +kernel
theorem dX12_send_79 : decode cX12_send 79 = .ok (.iaload, 1) := by decide +kernel
theorem dX12_send_80 : decode cX12_send 80 = .ok (.istore 5, 2) := by decide +kernel
theorem dX12_send_82 : decode cX12_send 82 = .ok (.iload 5, 2) := by decide +kernel
theorem dX12_send_84 : decode cX12_send 84 = .ok (.ifCond .lt 35, 3) := by decide +kernel
theorem dX12_send_87 : decode cX12_send 87 = .ok (.aload_n 0, 1) := by decide +kernel
theorem dX12_send_88 : decode cX12_send 88 = .ok (.getfield 35, 3) := by decide +kernel
theorem dX12_send_91 : decode cX12_send 91 = .ok (.iload 5, 2) := by decide +kernel
theorem dX12_send_93 : decode cX12_send 93 = .ok (.iconst 0, 1) := by decide +kernel
theorem dX12_send_94 : decode cX12_send 94 = .ok (.aload_n 0, 1) := by decide +kernel
theorem dX12_send_95 : decode cX12_send 95 = .ok (.getfield 35, 3) := by decide +kernel
theorem dX12_send_98 : decode cX12_send 98 = .ok (.iload 5, 2) := by decide +kernel
theorem dX12_send_100 : decode cX12_send 100 = .ok (.iaload, 1) := by decide +kernel
theorem dX12_send_101 : decode cX12_send 101 = .ok (.iload_n 2, 1) := by decide +kernel
theorem dX12_send_102 : decode cX12_send 102 = .ok (.isub, 1) := by decide +kernel
theorem dX12_send_103 : decode cX12_send 103 = .ok (.invokestatic 107, 3) := by decide +kernel
theorem dX12_send_106 : decode cX12_send 106 = .ok (.iastore, 1) := by decide +kernel
theorem dX12_send_107 : decode cX12_send 107 = .ok (.aload_n 0, 1) := by decide +kernel
theorem dX12_send_108 : decode cX12_send 108 = .ok (.getfield 7, 3) := by decide +kernel
theorem dX12_send_111 : decode cX12_send 111 = .ok (.iload 5, 2) := by decide +kernel
theorem dX12_send_113 : decode cX12_send 113 = .ok (.iaload, 1) := by decide +kernel
theorem dX12_send_114 : decode cX12_send 114 = .ok (.istore 5, 2) := by decide +kernel
theorem dX12_send_116 : decode cX12_send 116 = .ok (.goto (-34), 3) := by decide +kernel
theorem dX12_send_119 : decode cX12_send 119 = .ok (.aload_n 0, 1) := by decide +kernel
theorem dX12_send_120 : decode cX12_send 120 = .ok (.getfield 50, 3) := by decide +kernel
theorem dX12_send_123 : decode cX12_send 123 = .ok (.iload_n 1, 1) := by decide +kernel
theorem dX12_send_124 : decode cX12_send 124 = .ok (.dup2, 1) := by decide +kernel
theorem dX12_send_125 : decode cX12_send 125 = .ok (.iaload, 1) := by decide +kernel
theorem dX12_send_126 : decode cX12_send 126 = .ok (.iload_n 3, 1) := by decide +kernel
theorem dX12_send_127 : decode cX12_send 127 = .ok (.iload_n 1, 1) := by decide +kernel
theorem dX12_send_128 : decode cX12_send 128 = .ok (.if_icmp .ne 7, 3) := by decide +kernel
theorem dX12_send_131 : decode cX12_send 131 = .ok (.iconst 0, 1) := by decide +kernel
theorem dX12_send_132 : decode cX12_send 132 = .ok (.goto 4, 3) := by decide +kernel
theorem dX12_send_135 : decode cX12_send 135 = .ok (.iload_n 2, 1) := by decide +kernel
theorem dX12_send_136 : decode cX12_send 136 = .ok (.iadd, 1) := by decide +kernel
theorem dX12_send_137 : decode cX12_send 137 = .ok (.iastore, 1) := by decide +kernel
theorem dX12_send_138 : decode cX12_send 138 = .ok (.aload_n 0, 1) := by decide +kernel
theorem dX12_send_139 : decode cX12_send 139 = .ok (.getfield 53, 3) := by decide +kernel
theorem dX12_send_142 : decode cX12_send 142 = .ok (.iload_n 3, 1) := by decide +kernel
theorem dX12_send_143 : decode cX12_send 143 = .ok (.dup2, 1) := by decide +kernel
theorem dX12_send_144 : decode cX12_send 144 = .ok (.iaload, 1) := by decide +kernel
theorem dX12_send_145 : decode cX12_send 145 = .ok (.iload_n 3, 1) := by decide +kernel
theorem dX12_send_146 : decode cX12_send 146 = .ok (.iload_n 1, 1) := by decide +kernel
theorem dX12_send_147 : decode cX12_send 147 = .ok (.if_icmp .ne 7, 3) := by decide +kernel
theorem dX12_send_150 : decode cX12_send 150 = .ok (.iconst 0, 1) := by decide +kernel
theorem dX12_send_151 : decode cX12_send 151 = .ok (.goto 4, 3) := by decide +kernel
theorem dX12_send_154 : decode cX12_send 154 = .ok (.iload_n 2, 1) := by decide +kernel
theorem dX12_send_155 : decode cX12_send 155 = .ok (.iadd, 1) := by decide +kernel
theorem dX12_send_156 : decode cX12_send 156 = .ok (.iastore, 1) := by decide +kernel
theorem dX12_send_157 : decode cX12_send 157 = .ok (.aload_n 0, 1) := by decide +kernel
theorem dX12_send_158 : decode cX12_send 158 = .ok (.getfield 44, 3) := by decide +kernel
theorem dX12_send_161 : decode cX12_send 161 = .ok (.iload_n 1, 1) := by decide +kernel
theorem dX12_send_162 : decode cX12_send 162 = .ok (.dup2, 1) := by decide +kernel
theorem dX12_send_163 : decode cX12_send 163 = .ok (.iaload, 1) := by decide +kernel
theorem dX12_send_164 : decode cX12_send 164 = .ok (.iload_n 2, 1) := by decide +kernel
theorem dX12_send_165 : decode cX12_send 165 = .ok (.iadd, 1) := by decide +kernel
theorem dX12_send_166 : decode cX12_send 166 = .ok (.iastore, 1) := by decide +kernel
theorem dX12_send_167 : decode cX12_send 167 = .ok (.aload_n 0, 1) := by decide +kernel
theorem dX12_send_168 : decode cX12_send 168 = .ok (.getfield 47, 3) := by decide +kernel
theorem dX12_send_171 : decode cX12_send 171 = .ok (.iload_n 1, 1) := by decide +kernel
theorem dX12_send_172 : decode cX12_send 172 = .ok (.dup2, 1) := by decide +kernel
theorem dX12_send_173 : decode cX12_send 173 = .ok (.iaload, 1) := by decide +kernel
theorem dX12_send_174 : decode cX12_send 174 = .ok (.iconst 1, 1) := by decide +kernel
theorem dX12_send_175 : decode cX12_send 175 = .ok (.iadd, 1) := by decide +kernel
theorem dX12_send_176 : decode cX12_send 176 = .ok (.iastore, 1) := by decide +kernel
theorem dX12_send_177 : decode cX12_send 177 = .ok (.return_, 1) := by decide +kernel
theorem dX12_refill_0 : decode cX12_refill 0 = .ok (.iconst 0, 1) := by decide +kernel
theorem dX12_refill_1 : decode cX12_refill 1 = .ok (.istore_n 1, 1) := by decide +kernel
theorem dX12_refill_2 : decode cX12_refill 2 = .ok (.iload_n 1, 1) := by decide +kernel
theorem dX12_refill_3 : decode cX12_refill 3 = .ok (.aload_n 0, 1) := by decide +kernel
theorem dX12_refill_4 : decode cX12_refill 4 = .ok (.getfield 72, 3) := by decide +kernel
theorem dX12_refill_7 : decode cX12_refill 7 = .ok (.if_icmp .ge 97, 3) := by decide +kernel
theorem dX12_refill_10 : decode cX12_refill 10 = .ok (.aload_n 0, 1) := by decide +kernel
theorem dX12_refill_11 : decode cX12_refill 11 = .ok (.getfield 35, 3) := by decide +kernel
theorem dX12_refill_14 : decode cX12_refill 14 = .ok (.iload_n 1, 1) := by decide +kernel
theorem dX12_refill_15 : decode cX12_refill 15 = .ok (.iaload, 1) := by decide +kernel
theorem dX12_refill_16 : decode cX12_refill 16 = .ok (.aload_n 0, 1) := by decide +kernel
theorem dX12_refill_17 : decode cX12_refill 17 = .ok (.getfield 13, 3) := by decide +kernel
theorem dX12_refill_20 : decode cX12_refill 20 = .ok (.iload_n 1, 1) := by decide +kernel
theorem dX12_refill_21 : decode cX12_refill 21 = .ok (.iaload, 1) := by decide +kernel
theorem dX12_refill_22 : decode cX12_refill 22 = .ok (.iadd, 1) := by decide +kernel
theorem dX12_refill_23 : decode cX12_refill 23 = .ok (.istore_n 2, 1) := by decide +kernel
theorem dX12_refill_24 : decode cX12_refill 24 = .ok (.aload_n 0, 1) := by decide +kernel
theorem dX12_refill_25 : decode cX12_refill 25 = .ok (.getfield 35, 3) := by decide +kernel
theorem dX12_refill_28 : decode cX12_refill 28 = .ok (.iload_n 1, 1) := by decide +kernel
theorem dX12_refill_29 : decode cX12_refill 29 = .ok (.aload_n 0, 1) := by decide +kernel
theorem dX12_refill_30 : decode cX12_refill 30 = .ok (.getfield 19, 3) := by decide +kernel
theorem dX12_refill_33 : decode cX12_refill 33 = .ok (.iload_n 1, 1) := by decide +kernel
theorem dX12_refill_34 : decode cX12_refill 34 = .ok (.iaload, 1) := by decide +kernel
theorem dX12_refill_35 : decode cX12_refill 35 = .ok (.iload_n 2, 1) := by decide +kernel
theorem dX12_refill_36 : decode cX12_refill 36 = .ok (.invokestatic 102, 3) := by decide +kernel
theorem dX12_refill_39 : decode cX12_refill 39 = .ok (.iastore, 1) := by decide +kernel
theorem dX12_refill_40 : decode cX12_refill 40 = .ok (.aload_n 0, 1) := by decide +kernel
theorem dX12_refill_41 : decode cX12_refill 41 = .ok (.getfield 38, 3) := by decide +kernel
theorem dX12_refill_44 : decode cX12_refill 44 = .ok (.iload_n 1, 1) := by decide +kernel
theorem dX12_refill_45 : decode cX12_refill 45 = .ok (.aload_n 0, 1) := by decide +kernel
theorem dX12_refill_46 : decode cX12_refill 46 = .ok (.getfield 22, 3) := by decide +kernel
theorem dX12_refill_49 : decode cX12_refill 49 = .ok (.iload_n 1, 1) := by decide +kernel
theorem dX12_refill_50 : decode cX12_refill 50 = .ok (.iaload, 1) := by decide +kernel
theorem dX12_refill_51 : decode cX12_refill 51 = .ok (.aload_n 0, 1) := by decide +kernel
theorem dX12_refill_52 : decode cX12_refill 52 = .ok (.getfield 38, 3) := by decide +kernel
theorem dX12_refill_55 : decode cX12_refill 55 = .ok (.iload_n 1, 1) := by decide +kernel
theorem dX12_refill_56 : decode cX12_refill 56 = .ok (.iaload, 1) := by decide +kernel
theorem dX12_refill_57 : decode cX12_refill 57 = .ok (.iload_n 2, 1) := by decide +kernel
theorem dX12_refill_58 : decode cX12_refill 58 = .ok (.iadd, 1) := by decide +kernel
theorem dX12_refill_59 : decode cX12_refill 59 = .ok (.aload_n 0, 1) := by decide +kernel
theorem dX12_refill_60 : decode cX12_refill 60 = .ok (.getfield 35, 3) := by decide +kernel
theorem dX12_refill_63 : decode cX12_refill 63 = .ok (.iload_n 1, 1) := by decide +kernel
theorem dX12_refill_64 : decode cX12_refill 64 = .ok (.iaload, 1) := by decide +kernel
theorem dX12_refill_65 : decode cX12_refill 65 = .ok (.isub, 1) := by decide +kernel
theorem dX12_refill_66 : decode cX12_refill 66 = .ok (.invokestatic 102, 3) := by decide +kernel
theorem dX12_refill_69 : decode cX12_refill 69 = .ok (.iastore, 1) := by decide +kernel
theorem dX12_refill_70 : decode cX12_refill 70 = .ok (.aload_n 0, 1) := by decide +kernel
theorem dX12_refill_71 : decode cX12_refill 71 = .ok (.getfield 41, 3) := by decide +kernel
theorem dX12_refill_74 : decode cX12_refill 74 = .ok (.iload_n 1, 1) := by decide +kernel
theorem dX12_refill_75 : decode cX12_refill 75 = .ok (.aload_n 0, 1) := by decide +kernel
theorem dX12_refill_76 : decode cX12_refill 76 = .ok (.getfield 19, 3) := by decide +kernel
theorem dX12_refill_79 : decode cX12_refill 79 = .ok (.iload_n 1, 1) := by decide +kernel
theorem dX12_refill_80 : decode cX12_refill 80 = .ok (.iaload, 1) := by decide +kernel
theorem dX12_refill_81 : decode cX12_refill 81 = .ok (.aload_n 0, 1) := by decide +kernel
theorem dX12_refill_82 : decode cX12_refill 82 = .ok (.getfield 41, 3) := by decide +kernel
theorem dX12_refill_85 : decode cX12_refill 85 = .ok (.iload_n 1, 1) := by decide +kernel
theorem dX12_refill_86 : decode cX12_refill 86 = .ok (.iaload, 1) := by decide +kernel
theorem dX12_refill_87 : decode cX12_refill 87 = .ok (.aload_n 0, 1) := by decide +kernel
theorem dX12_refill_88 : decode cX12_refill 88 = .ok (.getfield 16, 3) := by decide +kernel
theorem dX12_refill_91 : decode cX12_refill 91 = .ok (.iload_n 1, 1) := by decide +kernel
theorem dX12_refill_92 : decode cX12_refill 92 = .ok (.iaload, 1) := by decide +kernel
theorem dX12_refill_93 : decode cX12_refill 93 = .ok (.iadd, 1) := by decide +kernel
theorem dX12_refill_94 : decode cX12_refill 94 = .ok (.invokestatic 102, 3) := by decide +kernel
theorem dX12_refill_97 : decode cX12_refill 97 = .ok (.iastore, 1) := by decide +kernel
theorem dX12_refill_98 : decode cX12_refill 98 = .ok (.iinc 1 1, 3) := by decide +kernel
theorem dX12_refill_101 : decode cX12_refill 101 = .ok (.goto (-99), 3) := by decide +kernel
theorem dX12_refill_104 : decode cX12_refill 104 = .ok (.return_, 1) := by decide +kernel
theorem dX12_first_0 : decode cX12_first 0 = .ok (.bipush (-2), 2) := by decide +kernel
theorem dX12_first_2 : decode cX12_first 2 = .ok (.istore_n 1, 1) := by decide +kernel
theorem dX12_first_3 : decode cX12_first 3 = .ok (.iconst 0, 1) := by decide +kernel
theorem dX12_first_4 : decode cX12_first 4 = .ok (.istore_n 2, 1) := by decide +kernel
theorem dX12_first_5 : decode cX12_first 5 = .ok (.iload_n 2, 1) := by decide +kernel
theorem dX12_first_6 : decode cX12_first 6 = .ok (.aload_n 0, 1) := by decide +kernel
theorem dX12_first_7 : decode cX12_first 7 = .ok (.getfield 72, 3) := by decide +kernel
theorem dX12_first_10 : decode cX12_first 10 = .ok (.if_icmp .ge 72, 3) := by decide +kernel
theorem dX12_first_13 : decode cX12_first 13 = .ok (.aload_n 0, 1) := by decide +kernel
theorem dX12_first_14 : decode cX12_first 14 = .ok (.getfield 62, 3) := by decide +kernel
theorem dX12_first_17 : decode cX12_first 17 = .ok (.iload_n 2, 1) := by decide +kernel
theorem dX12_first_18 : decode cX12_first 18 = .ok (.invokevirtual 110, 3) := by decide +kernel
theorem dX12_first_21 : decode cX12_first 21 = .ok (.checkcast 59, 3) := by decide +kernel
theorem dX12_first_24 : decode cX12_first 24 = .ok (.invokevirtual 114, 3) := by decide +kernel
theorem dX12_first_27 : decode cX12_first 27 = .ok (.ifCond .ne 49, 3) := by decide +kernel
theorem dX12_first_30 : decode cX12_first 30 = .ok (.aload_n 0, 1) := by decide +kernel
theorem dX12_first_31 : decode cX12_first 31 = .ok (.iload_n 2, 1) := by decide +kernel
theorem dX12_first_32 : decode cX12_first 32 = .ok (.aload_n 0, 1) := by decide +kernel
theorem dX12_first_33 : decode cX12_first 33 = .ok (.getfield 62, 3) := by decide +kernel
theorem dX12_first_36 : decode cX12_first 36 = .ok (.iload_n 2, 1) := by decide +kernel
theorem dX12_first_37 : decode cX12_first 37 = .ok (.invokevirtual 110, 3) := by decide +kernel
theorem dX12_first_40 : decode cX12_first 40 = .ok (.checkcast 59, 3) := by decide +kernel
theorem dX12_first_43 : decode cX12_first 43 = .ok (.iconst 0, 1) := by decide +kernel
theorem dX12_first_44 : decode cX12_first 44 = .ok (.invokevirtual 110, 3) := by decide +kernel
theorem dX12_first_47 : decode cX12_first 47 = .ok (.checkcast 118, 3) := by decide +kernel
theorem dX12_first_50 : decode cX12_first 50 = .ok (.iconst 1, 1) := by decide +kernel
theorem dX12_first_51 : decode cX12_first 51 = .ok (.iaload, 1) := by decide +kernel
theorem dX12_first_52 : decode cX12_first 52 = .ok (.invokevirtual 99, 3) := by decide +kernel
theorem dX12_first_55 : decode cX12_first 55 = .ok (.ifCond .ge 6, 3) := by decide +kernel
theorem dX12_first_58 : decode cX12_first 58 = .ok (.goto 18, 3) := by decide +kernel
theorem dX12_first_61 : decode cX12_first 61 = .ok (.iload_n 1, 1) := by decide +kernel
theorem dX12_first_62 : decode cX12_first 62 = .ok (.ifCond .lt 12, 3) := by decide +kernel
theorem dX12_first_65 : decode cX12_first 65 = .ok (.aload_n 0, 1) := by decide +kernel
theorem dX12_first_66 : decode cX12_first 66 = .ok (.iload_n 2, 1) := by decide +kernel
theorem dX12_first_67 : decode cX12_first 67 = .ok (.iload_n 1, 1) := by decide +kernel
theorem dX12_first_68 : decode cX12_first 68 = .ok (.invokevirtual 119, 3) := by decide +kernel
theorem dX12_first_71 : decode cX12_first 71 = .ok (.ifCond .eq 5, 3) := by decide +kernel
theorem dX12_first_74 : decode cX12_first 74 = .ok (.iload_n 2, 1) := by decide +kernel
theorem dX12_first_75 : decode cX12_first 75 = .ok (.istore_n 1, 1) := by decide +kernel
theorem dX12_first_76 : decode cX12_first 76 = .ok (.iinc 2 1, 3) := by decide +kernel
theorem dX12_first_79 : decode cX12_first 79 = .ok (.goto (-74), 3) := by decide +kernel
theorem dX12_first_82 : decode cX12_first 82 = .ok (.iload_n 1, 1) := by decide +kernel
theorem dX12_first_83 : decode cX12_first 83 = .ok (.ireturn, 1) := by decide +kernel
theorem dX12_isAhead_0 : decode cX12_isAhead 0 = .ok (.aload_n 0, 1) := by decide +kernel
theorem dX12_isAhead_1 : decode cX12_isAhead 1 = .ok (.iload_n 1, 1) := by decide +kernel
theorem dX12_isAhead_2 : decode cX12_isAhead 2 = .ok (.aload_n 0, 1) := by decide +kernel
theorem dX12_isAhead_3 : decode cX12_isAhead 3 = .ok (.iload_n 1, 1) := by decide +kernel
theorem dX12_isAhead_4 : decode cX12_isAhead 4 = .ok (.aload_n 0, 1) := by decide +kernel
theorem dX12_isAhead_5 : decode cX12_isAhead 5 = .ok (.getfield 62, 3) := by decide +kernel
theorem dX12_isAhead_8 : decode cX12_isAhead 8 = .ok (.iload_n 1, 1) := by decide +kernel
theorem dX12_isAhead_9 : decode cX12_isAhead 9 = .ok (.invokevirtual 110, 3) := by decide +kernel
theorem dX12_isAhead_12 : decode cX12_isAhead 12 = .ok (.checkcast 59, 3) := by decide +kernel
theorem dX12_isAhead_15 : decode cX12_isAhead 15 = .ok (.iconst 0, 1) := by decide +kernel
theorem dX12_isAhead_16 : decode cX12_isAhead 16 = .ok (.invokevirtual 110, 3) := by decide +kernel
theorem dX12_isAhead_19 : decode cX12_isAhead 19 = .ok (.checkcast 118, 3) := by decide +kernel
theorem dX12_isAhead_22 : decode cX12_isAhead 22 = .ok (.iconst 1, 1) := by decide +kernel
theorem dX12_isAhead_23 : decode cX12_isAhead 23 = .ok (.iaload, 1) := by decide +kernel
theorem dX12_isAhead_24 : decode cX12_isAhead 24 = .ok (.invokevirtual 99, 3) := by decide +kernel
theorem dX12_isAhead_27 : decode cX12_isAhead 27 = .ok (.invokevirtual 95, 3) := by decide +kernel
theorem dX12_isAhead_30 : decode cX12_isAhead 30 = .ok (.aload_n 0, 1) := by decide +kernel
theorem dX12_isAhead_31 : decode cX12_isAhead 31 = .ok (.iload_n 2, 1) := by decide +kernel
theorem dX12_isAhead_32 : decode cX12_isAhead 32 = .ok (.aload_n 0, 1) := by decide +kernel
theorem dX12_isAhead_33 : decode cX12_isAhead 33 = .ok (.iload_n 2, 1) := by decide +kernel
theorem dX12_isAhead_34 : decode cX12_isAhead 34 = .ok (.aload_n 0, 1) := by decide +kernel
theorem dX12_isAhead_35 : decode cX12_isAhead 35 = .ok (.getfield 62, 3) := by decide +kernel
theorem dX12_isAhead_38 : decode cX12_isAhead 38 = .ok (.iload_n 2, 1) := by decide +kernel
theorem dX12_isAhead_39 : decode cX12_isAhead 39 = .ok (.invokevirtual 110, 3) := by decide +kernel
theorem dX12_isAhead_42 : decode cX12_isAhead 42 = .ok (.checkcast 59, 3) := by decide +kernel
theorem dX12_isAhead_45 : decode cX12_isAhead 45 = .ok (.iconst 0, 1) := by decide +kernel
theorem dX12_isAhead_46 : decode cX12_isAhead 46 = .ok (.invokevirtual 110, 3) := by decide +kernel
theorem dX12_isAhead_49 : decode cX12_isAhead 49 = .ok (.checkcast 118, 3) := by decide +kernel
theorem dX12_isAhead_52 : decode cX12_isAhead 52 = .ok (.iconst 1, 1) := by decide +kernel
theorem dX12_isAhead_53 : decode cX12_isAhead 53 = .ok (.iaload, 1) := by decide +kernel
theorem dX12_isAhead_54 : decode cX12_isAhead 54 = .ok (.invokevirtual 99, 3) := by decide +kernel
theorem dX12_isAhead_57 : decode cX12_isAhead 57 = .ok (.invokevirtual 95, 3) := by decide +kernel
theorem dX12_isAhead_60 : decode cX12_isAhead 60 = .ok (.isub, 1) := by decide +kernel
theorem dX12_isAhead_61 : decode cX12_isAhead 61 = .ok (.istore_n 3, 1) := by decide +kernel
theorem dX12_isAhead_62 : decode cX12_isAhead 62 = .ok (.iload_n 3, 1) := by decide +kernel
theorem dX12_isAhead_63 : decode cX12_isAhead 63 = .ok (.ifCond .eq 13, 3) := by decide +kernel
theorem dX12_isAhead_66 : decode cX12_isAhead 66 = .ok (.iload_n 3, 1) := by decide +kernel
theorem dX12_isAhead_67 : decode cX12_isAhead 67 = .ok (.ifCond .ge 7, 3) := by decide +kernel
theorem dX12_isAhead_70 : decode cX12_isAhead 70 = .ok (.iconst 1, 1) := by decide +kernel
theorem dX12_isAhead_71 : decode cX12_isAhead 71 = .ok (.goto 4, 3) := by decide +kernel
theorem dX12_isAhead_74 : decode cX12_isAhead 74 = .ok (.iconst 0, 1) := by decide +kernel
theorem dX12_isAhead_75 : decode cX12_isAhead 75 = .ok (.ireturn, 1) := by decide +kernel
theorem dX12_isAhead_76 : decode cX12_isAhead 76 = .ok (.aload_n 0, 1) := by decide +kernel
theorem dX12_isAhead_77 : decode cX12_isAhead 77 = .ok (.getfield 28, 3) := by decide +kernel
theorem dX12_isAhead_80 : decode cX12_isAhead 80 = .ok (.iload_n 1, 1) := by decide +kernel
theorem dX12_isAhead_81 : decode cX12_isAhead 81 = .ok (.iaload, 1) := by decide +kernel
theorem dX12_isAhead_82 : decode cX12_isAhead 82 = .ok (.aload_n 0, 1) := by decide +kernel
theorem dX12_isAhead_83 : decode cX12_isAhead 83 = .ok (.getfield 28, 3) := by decide +kernel
theorem dX12_isAhead_86 : decode cX12_isAhead 86 = .ok (.iload_n 2, 1) := by decide +kernel
theorem dX12_isAhead_87 : decode cX12_isAhead 87 = .ok (.iaload, 1) := by decide +kernel
theorem dX12_isAhead_88 : decode cX12_isAhead 88 = .ok (.if_icmp .eq 26, 3) := by decide +kernel
theorem dX12_isAhead_91 : decode cX12_isAhead 91 = .ok (.aload_n 0, 1) := by decide +kernel
theorem dX12_isAhead_92 : decode cX12_isAhead 92 = .ok (.getfield 28, 3) := by decide +kernel
theorem dX12_isAhead_95 : decode cX12_isAhead 95 = .ok (.iload_n 1, 1) := by decide +kernel
theorem dX12_isAhead_96 : decode cX12_isAhead 96 = .ok (.iaload, 1) := by decide +kernel
theorem dX12_isAhead_97 : decode cX12_isAhead 97 = .ok (.aload_n 0, 1) := by decide +kernel
theorem dX12_isAhead_98 : decode cX12_isAhead 98 = .ok (.getfield 28, 3) := by decide +kernel
theorem dX12_isAhead_101 : decode cX12_isAhead 101 = .ok (.iload_n 2, 1) := by decide +kernel
theorem dX12_isAhead_102 : decode cX12_isAhead 102 = .ok (.iaload, 1) := by decide +kernel
theorem dX12_isAhead_103 : decode cX12_isAhead 103 = .ok (.if_icmp .ge 7, 3) := by decide +kernel
theorem dX12_isAhead_106 : decode cX12_isAhead 106 = .ok (.iconst 1, 1) := by decide +kernel
theorem dX12_isAhead_107 : decode cX12_isAhead 107 = .ok (.goto 41, 3) := by decide +kernel
theorem dX12_isAhead_110 : decode cX12_isAhead 110 = .ok (.iconst 0, 1) := by decide +kernel
theorem dX12_isAhead_111 : decode cX12_isAhead 111 = .ok (.goto 37, 3) := by decide +kernel
theorem dX12_isAhead_114 : decode cX12_isAhead 114 = .ok (.aload_n 0, 1) := by decide +kernel
theorem dX12_isAhead_115 : decode cX12_isAhead 115 = .ok (.getfield 44, 3) := by decide +kernel
theorem dX12_isAhead_118 : decode cX12_isAhead 118 = .ok (.iload_n 1, 1) := by decide +kernel
theorem dX12_isAhead_119 : decode cX12_isAhead 119 = .ok (.iaload, 1) := by decide +kernel
theorem dX12_isAhead_120 : decode cX12_isAhead 120 = .ok (.aload_n 0, 1) := by decide +kernel
theorem dX12_isAhead_121 : decode cX12_isAhead 121 = .ok (.getfield 25, 3) := by decide +kernel
theorem dX12_isAhead_124 : decode cX12_isAhead 124 = .ok (.iload_n 2, 1) := by decide +kernel
theorem dX12_isAhead_125 : decode cX12_isAhead 125 = .ok (.iaload, 1) := by decide +kernel
theorem dX12_isAhead_126 : decode cX12_isAhead 126 = .ok (.imul, 1) := by decide +kernel
theorem dX12_isAhead_127 : decode cX12_isAhead 127 = .ok (.aload_n 0, 1) := by decide +kernel
theorem dX12_isAhead_128 : decode cX12_isAhead 128 = .ok (.getfield 44, 3) := by decide +kernel
theorem dX12_isAhead_131 : decode cX12_isAhead 131 = .ok (.iload_n 2, 1) := by decide +kernel
theorem dX12_isAhead_132 : decode cX12_isAhead 132 = .ok (.iaload, 1) := by decide +kernel
theorem dX12_isAhead_133 : decode cX12_isAhead 133 = .ok (.aload_n 0, 1) := by decide +kernel
theorem dX12_isAhead_134 : decode cX12_isAhead 134 = .ok (.getfield 25, 3) := by decide +kernel
theorem dX12_isAhead_137 : decode cX12_isAhead 137 = .ok (.iload_n 1, 1) := by decide +kernel
theorem dX12_isAhead_138 : decode cX12_isAhead 138 = .ok (.iaload, 1) := by decide +kernel
theorem dX12_isAhead_139 : decode cX12_isAhead 139 = .ok (.imul, 1) := by decide +kernel
theorem dX12_isAhead_140 : decode cX12_isAhead 140 = .ok (.if_icmp .ge 7, 3) := by decide +kernel
theorem dX12_isAhead_143 : decode cX12_isAhead 143 = .ok (.iconst 1, 1) := by decide +kernel
theorem dX12_isAhead_144 : decode cX12_isAhead 144 = .ok (.goto 4, 3) := by decide +kernel
theorem dX12_isAhead_147 : decode cX12_isAhead 147 = .ok (.iconst 0, 1) := by decide +kernel
theorem dX12_isAhead_148 : decode cX12_isAhead 148 = .ok (.ireturn, 1) := by decide +kernel
theorem dX12_tick_0 : decode cX12_tick 0 = .ok (.aload_n 0, 1) := by decide +kernel
theorem dX12_tick_1 : decode cX12_tick 1 = .ok (.dup, 1) := by decide +kernel
theorem dX12_tick_2 : decode cX12_tick 2 = .ok (.getfield 123, 3) := by decide +kernel
theorem dX12_tick_5 : decode cX12_tick 5 = .ok (.iconst 1, 1) := by decide +kernel
theorem dX12_tick_6 : decode cX12_tick 6 = .ok (.iadd, 1) := by decide +kernel
theorem dX12_tick_7 : decode cX12_tick 7 = .ok (.putfield 123, 3) := by decide +kernel
theorem dX12_tick_10 : decode cX12_tick 10 = .ok (.aload_n 0, 1) := by decide +kernel
theorem dX12_tick_11 : decode cX12_tick 11 = .ok (.getfield 123, 3) := by decide +kernel
theorem dX12_tick_14 : decode cX12_tick 14 = .ok (.aload_n 0, 1) := by decide +kernel
theorem dX12_tick_15 : decode cX12_tick 15 = .ok (.getfield 82, 3) := by decide +kernel
theorem dX12_tick_18 : decode cX12_tick 18 = .ok (.if_icmp .ne 16, 3) := by decide +kernel
theorem dX12_tick_21 : decode cX12_tick 21 = .ok (.aload_n 0, 1) := by decide +kernel
theorem dX12_tick_22 : decode cX12_tick 22 = .ok (.getfield 13, 3) := by decide +kernel
theorem dX12_tick_25 : decode cX12_tick 25 = .ok (.aload_n 0, 1) := by decide +kernel
theorem dX12_tick_26 : decode cX12_tick 26 = .ok (.getfield 85, 3) := by decide +kernel
theorem dX12_tick_29 : decode cX12_tick 29 = .ok (.aload_n 0, 1) := by decide +kernel
theorem dX12_tick_30 : decode cX12_tick 30 = .ok (.getfield 88, 3) := by decide +kernel
theorem dX12_tick_33 : decode cX12_tick 33 = .ok (.iastore, 1) := by decide +kernel
theorem dX12_tick_34 : decode cX12_tick 34 = .ok (.aload_n 0, 1) := by decide +kernel
theorem dX12_tick_35 : decode cX12_tick 35 = .ok (.invokevirtual 126, 3) := by decide +kernel
theorem dX12_tick_38 : decode cX12_tick 38 = .ok (.iconst 0, 1) := by decide +kernel
end
section
theorem dX12_tick_39 : decode cX12_tick 39 = .ok (.istore_n 1, 1) := by decide +kernel
theorem dX12_tick_40 : decode cX12_tick 40 = .ok (.iload_n 1, 1) := by decide +kernel
theorem dX12_tick_41 : decode cX12_tick 41 = .ok (.aload_n 0, 1) := by decide +kernel
theorem dX12_tick_42 : decode cX12_tick 42 = .ok (.getfield 72, 3) := by decide +kernel
theorem dX12_tick_45 : decode cX12_tick 45 = .ok (.if_icmp .ge 94, 3) := by decide +kernel
theorem dX12_tick_48 : decode cX12_tick 48 = .ok (.aload_n 0, 1) := by decide +kernel
theorem dX12_tick_49 : decode cX12_tick 49 = .ok (.getfield 79, 3) := by decide +kernel
theorem dX12_tick_52 : decode cX12_tick 52 = .ok (.ifCond .lt 81, 3) := by decide +kernel
theorem dX12_tick_55 : decode cX12_tick 55 = .ok (.aload_n 0, 1) := by decide +kernel
theorem dX12_tick_56 : decode cX12_tick 56 = .ok (.getfield 62, 3) := by decide +kernel
theorem dX12_tick_59 : decode cX12_tick 59 = .ok (.iload_n 1, 1) := by decide +kernel
theorem dX12_tick_60 : decode cX12_tick 60 = .ok (.invokevirtual 110, 3) := by decide +kernel
theorem dX12_tick_63 : decode cX12_tick 63 = .ok (.checkcast 59, 3) := by decide +kernel
theorem dX12_tick_66 : decode cX12_tick 66 = .ok (.invokevirtual 114, 3) := by decide +kernel
theorem dX12_tick_69 : decode cX12_tick 69 = .ok (.ifCond .ne 64, 3) := by decide +kernel
theorem dX12_tick_72 : decode cX12_tick 72 = .ok (.aload_n 0, 1) := by decide +kernel
theorem dX12_tick_73 : decode cX12_tick 73 = .ok (.getfield 123, 3) := by decide +kernel
theorem dX12_tick_76 : decode cX12_tick 76 = .ok (.aload_n 0, 1) := by decide +kernel
theorem dX12_tick_77 : decode cX12_tick 77 = .ok (.getfield 62, 3) := by decide +kernel
theorem dX12_tick_80 : decode cX12_tick 80 = .ok (.iload_n 1, 1) := by decide +kernel
theorem dX12_tick_81 : decode cX12_tick 81 = .ok (.invokevirtual 110, 3) := by decide +kernel
theorem dX12_tick_84 : decode cX12_tick 84 = .ok (.checkcast 59, 3) := by decide +kernel
theorem dX12_tick_87 : decode cX12_tick 87 = .ok (.iconst 0, 1) := by decide +kernel
theorem dX12_tick_88 : decode cX12_tick 88 = .ok (.invokevirtual 110, 3) := by decide +kernel
theorem dX12_tick_91 : decode cX12_tick 91 = .ok (.checkcast 118, 3) := by decide +kernel
theorem dX12_tick_94 : decode cX12_tick 94 = .ok (.iconst 2, 1) := by decide +kernel
theorem dX12_tick_95 : decode cX12_tick 95 = .ok (.iaload, 1) := by decide +kernel
theorem dX12_tick_96 : decode cX12_tick 96 = .ok (.isub, 1) := by decide +kernel
theorem dX12_tick_97 : decode cX12_tick 97 = .ok (.aload_n 0, 1) := by decide +kernel
theorem dX12_tick_98 : decode cX12_tick 98 = .ok (.getfield 79, 3) := by decide +kernel
theorem dX12_tick_101 : decode cX12_tick 101 = .ok (.if_icmp .le 32, 3) := by decide +kernel
theorem dX12_tick_104 : decode cX12_tick 104 = .ok (.aload_n 0, 1) := by decide +kernel
theorem dX12_tick_105 : decode cX12_tick 105 = .ok (.getfield 62, 3) := by decide +kernel
theorem dX12_tick_108 : decode cX12_tick 108 = .ok (.iload_n 1, 1) := by decide +kernel
theorem dX12_tick_109 : decode cX12_tick 109 = .ok (.invokevirtual 110, 3) := by decide +kernel
theorem dX12_tick_112 : decode cX12_tick 112 = .ok (.checkcast 59, 3) := by decide +kernel
theorem dX12_tick_115 : decode cX12_tick 115 = .ok (.iconst 0, 1) := by decide +kernel
theorem dX12_tick_116 : decode cX12_tick 116 = .ok (.invokevirtual 129, 3) := by decide +kernel
theorem dX12_tick_119 : decode cX12_tick 119 = .ok (.pop, 1) := by decide +kernel
theorem dX12_tick_120 : decode cX12_tick 120 = .ok (.aload_n 0, 1) := by decide +kernel
theorem dX12_tick_121 : decode cX12_tick 121 = .ok (.getfield 56, 3) := by decide +kernel
theorem dX12_tick_124 : decode cX12_tick 124 = .ok (.iload_n 1, 1) := by decide +kernel
theorem dX12_tick_125 : decode cX12_tick 125 = .ok (.dup2, 1) := by decide +kernel
theorem dX12_tick_126 : decode cX12_tick 126 = .ok (.iaload, 1) := by decide +kernel
theorem dX12_tick_127 : decode cX12_tick 127 = .ok (.iconst 1, 1) := by decide +kernel
theorem dX12_tick_128 : decode cX12_tick 128 = .ok (.iadd, 1) := by decide +kernel
theorem dX12_tick_129 : decode cX12_tick 129 = .ok (.iastore, 1) := by decide +kernel
theorem dX12_tick_130 : decode cX12_tick 130 = .ok (.goto (-82), 3) := by decide +kernel
theorem dX12_tick_133 : decode cX12_tick 133 = .ok (.iinc 1 1, 3) := by decide +kernel
theorem dX12_tick_136 : decode cX12_tick 136 = .ok (.goto (-96), 3) := by decide +kernel
theorem dX12_tick_139 : decode cX12_tick 139 = .ok (.iconst 0, 1) := by decide +kernel
theorem dX12_tick_140 : decode cX12_tick 140 = .ok (.istore_n 1, 1) := by decide +kernel
theorem dX12_tick_141 : decode cX12_tick 141 = .ok (.aload_n 0, 1) := by decide +kernel
theorem dX12_tick_142 : decode cX12_tick 142 = .ok (.getfield 76, 3) := by decide +kernel
theorem dX12_tick_145 : decode cX12_tick 145 = .ok (.ifCond .le 10, 3) := by decide +kernel
theorem dX12_tick_148 : decode cX12_tick 148 = .ok (.aload_n 0, 1) := by decide +kernel
theorem dX12_tick_149 : decode cX12_tick 149 = .ok (.invokevirtual 132, 3) := by decide +kernel
theorem dX12_tick_152 : decode cX12_tick 152 = .ok (.goto 5, 3) := by decide +kernel
theorem dX12_tick_155 : decode cX12_tick 155 = .ok (.bipush (-2), 2) := by decide +kernel
theorem dX12_tick_157 : decode cX12_tick 157 = .ok (.istore_n 2, 1) := by decide +kernel
theorem dX12_tick_158 : decode cX12_tick 158 = .ok (.iload_n 2, 1) := by decide +kernel
theorem dX12_tick_159 : decode cX12_tick 159 = .ok (.ifCond .lt 52, 3) := by decide +kernel
theorem dX12_tick_162 : decode cX12_tick 162 = .ok (.aload_n 0, 1) := by decide +kernel
theorem dX12_tick_163 : decode cX12_tick 163 = .ok (.iload_n 2, 1) := by decide +kernel
theorem dX12_tick_164 : decode cX12_tick 164 = .ok (.aload_n 0, 1) := by decide +kernel
theorem dX12_tick_165 : decode cX12_tick 165 = .ok (.getfield 62, 3) := by decide +kernel
theorem dX12_tick_168 : decode cX12_tick 168 = .ok (.iload_n 2, 1) := by decide +kernel
theorem dX12_tick_169 : decode cX12_tick 169 = .ok (.invokevirtual 110, 3) := by decide +kernel
theorem dX12_tick_172 : decode cX12_tick 172 = .ok (.checkcast 59, 3) := by decide +kernel
theorem dX12_tick_175 : decode cX12_tick 175 = .ok (.iconst 0, 1) := by decide +kernel
theorem dX12_tick_176 : decode cX12_tick 176 = .ok (.invokevirtual 129, 3) := by decide +kernel
theorem dX12_tick_179 : decode cX12_tick 179 = .ok (.checkcast 118, 3) := by decide +kernel
theorem dX12_tick_182 : decode cX12_tick 182 = .ok (.iconst 1, 1) := by decide +kernel
theorem dX12_tick_183 : decode cX12_tick 183 = .ok (.iaload, 1) := by decide +kernel
theorem dX12_tick_184 : decode cX12_tick 184 = .ok (.invokevirtual 136, 3) := by decide +kernel
theorem dX12_tick_187 : decode cX12_tick 187 = .ok (.iinc 1 1, 3) := by decide +kernel
theorem dX12_tick_190 : decode cX12_tick 190 = .ok (.iload_n 1, 1) := by decide +kernel
theorem dX12_tick_191 : decode cX12_tick 191 = .ok (.aload_n 0, 1) := by decide +kernel
theorem dX12_tick_192 : decode cX12_tick 192 = .ok (.getfield 76, 3) := by decide +kernel
theorem dX12_tick_195 : decode cX12_tick 195 = .ok (.if_icmp .ge 10, 3) := by decide +kernel
theorem dX12_tick_198 : decode cX12_tick 198 = .ok (.aload_n 0, 1) := by decide +kernel
theorem dX12_tick_199 : decode cX12_tick 199 = .ok (.invokevirtual 132, 3) := by decide +kernel
theorem dX12_tick_202 : decode cX12_tick 202 = .ok (.goto 5, 3) := by decide +kernel
theorem dX12_tick_205 : decode cX12_tick 205 = .ok (.bipush (-2), 2) := by decide +kernel
theorem dX12_tick_207 : decode cX12_tick 207 = .ok (.istore_n 2, 1) := by decide +kernel
theorem dX12_tick_208 : decode cX12_tick 208 = .ok (.goto (-50), 3) := by decide +kernel
theorem dX12_tick_211 : decode cX12_tick 211 = .ok (.iload_n 1, 1) := by decide +kernel
theorem dX12_tick_212 : decode cX12_tick 212 = .ok (.ireturn, 1) := by decide +kernel
theorem dX12_text_0 : decode cX12_text 0 = .ok (.new 146, 3) := by decide +kernel
theorem dX12_text_3 : decode cX12_text 3 = .ok (.dup, 1) := by decide +kernel
theorem dX12_text_4 : decode cX12_text 4 = .ok (.invokespecial 148, 3) := by decide +kernel
theorem dX12_text_7 : decode cX12_text 7 = .ok (.astore_n 1, 1) := by decide +kernel
theorem dX12_text_8 : decode cX12_text 8 = .ok (.iconst 0, 1) := by decide +kernel
theorem dX12_text_9 : decode cX12_text 9 = .ok (.istore_n 2, 1) := by decide +kernel
theorem dX12_text_10 : decode cX12_text 10 = .ok (.iload_n 2, 1) := by decide +kernel
theorem dX12_text_11 : decode cX12_text 11 = .ok (.aload_n 0, 1) := by decide +kernel
theorem dX12_text_12 : decode cX12_text 12 = .ok (.getfield 72, 3) := by decide +kernel
theorem dX12_text_15 : decode cX12_text 15 = .ok (.if_icmp .ge 155, 3) := by decide +kernel
theorem dX12_text_18 : decode cX12_text 18 = .ok (.aload_n 1, 1) := by decide +kernel
theorem dX12_text_19 : decode cX12_text 19 = .ok (.ldc 149, 2) := by decide +kernel
theorem dX12_text_21 : decode cX12_text 21 = .ok (.invokevirtual 151, 3) := by decide +kernel
theorem dX12_text_24 : decode cX12_text 24 = .ok (.bipush 112, 2) := by decide +kernel
theorem dX12_text_26 : decode cX12_text 26 = .ok (.iload_n 2, 1) := by decide +kernel
theorem dX12_text_27 : decode cX12_text 27 = .ok (.iadd, 1) := by decide +kernel
theorem dX12_text_28 : decode cX12_text 28 = .ok (.i2c, 1) := by decide +kernel
theorem dX12_text_29 : decode cX12_text 29 = .ok (.invokevirtual 155, 3) := by decide +kernel
theorem dX12_text_32 : decode cX12_text 32 = .ok (.pop, 1) := by decide +kernel
theorem dX12_text_33 : decode cX12_text 33 = .ok (.iload_n 2, 1) := by decide +kernel
theorem dX12_text_34 : decode cX12_text 34 = .ok (.ifCond .le 23, 3) := by decide +kernel
theorem dX12_text_37 : decode cX12_text 37 = .ok (.aload_n 1, 1) := by decide +kernel
theorem dX12_text_38 : decode cX12_text 38 = .ok (.ldc 158, 2) := by decide +kernel
theorem dX12_text_40 : decode cX12_text 40 = .ok (.invokevirtual 151, 3) := by decide +kernel
theorem dX12_text_43 : decode cX12_text 43 = .ok (.bipush 112, 2) := by decide +kernel
theorem dX12_text_45 : decode cX12_text 45 = .ok (.aload_n 0, 1) := by decide +kernel
theorem dX12_text_46 : decode cX12_text 46 = .ok (.getfield 7, 3) := by decide +kernel
theorem dX12_text_49 : decode cX12_text 49 = .ok (.iload_n 2, 1) := by decide +kernel
theorem dX12_text_50 : decode cX12_text 50 = .ok (.iaload, 1) := by decide +kernel
theorem dX12_text_51 : decode cX12_text 51 = .ok (.iadd, 1) := by decide +kernel
theorem dX12_text_52 : decode cX12_text 52 = .ok (.i2c, 1) := by decide +kernel
theorem dX12_text_53 : decode cX12_text 53 = .ok (.invokevirtual 155, 3) := by decide +kernel
theorem dX12_text_56 : decode cX12_text 56 = .ok (.pop, 1) := by decide +kernel
theorem dX12_text_57 : decode cX12_text 57 = .ok (.aload_n 1, 1) := by decide +kernel
theorem dX12_text_58 : decode cX12_text 58 = .ok (.ldc 160, 2) := by decide +kernel
theorem dX12_text_60 : decode cX12_text 60 = .ok (.invokevirtual 151, 3) := by decide +kernel
theorem dX12_text_63 : decode cX12_text 63 = .ok (.aload_n 0, 1) := by decide +kernel
theorem dX12_text_64 : decode cX12_text 64 = .ok (.getfield 13, 3) := by decide +kernel
theorem dX12_text_67 : decode cX12_text 67 = .ok (.iload_n 2, 1) := by decide +kernel
theorem dX12_text_68 : decode cX12_text 68 = .ok (.iaload, 1) := by decide +kernel
theorem dX12_text_69 : decode cX12_text 69 = .ok (.invokevirtual 162, 3) := by decide +kernel
theorem dX12_text_72 : decode cX12_text 72 = .ok (.ldc 165, 2) := by decide +kernel
theorem dX12_text_74 : decode cX12_text 74 = .ok (.invokevirtual 151, 3) := by decide +kernel
theorem dX12_text_77 : decode cX12_text 77 = .ok (.aload_n 0, 1) := by decide +kernel
theorem dX12_text_78 : decode cX12_text 78 = .ok (.getfield 16, 3) := by decide +kernel
theorem dX12_text_81 : decode cX12_text 81 = .ok (.iload_n 2, 1) := by decide +kernel
theorem dX12_text_82 : decode cX12_text 82 = .ok (.iaload, 1) := by decide +kernel
theorem dX12_text_83 : decode cX12_text 83 = .ok (.invokevirtual 162, 3) := by decide +kernel
theorem dX12_text_86 : decode cX12_text 86 = .ok (.ldc 167, 2) := by decide +kernel
theorem dX12_text_88 : decode cX12_text 88 = .ok (.invokevirtual 151, 3) := by decide +kernel
theorem dX12_text_91 : decode cX12_text 91 = .ok (.aload_n 0, 1) := by decide +kernel
theorem dX12_text_92 : decode cX12_text 92 = .ok (.getfield 19, 3) := by decide +kernel
theorem dX12_text_95 : decode cX12_text 95 = .ok (.iload_n 2, 1) := by decide +kernel
theorem dX12_text_96 : decode cX12_text 96 = .ok (.iaload, 1) := by decide +kernel
theorem dX12_text_97 : decode cX12_text 97 = .ok (.invokevirtual 162, 3) := by decide +kernel
theorem dX12_text_100 : decode cX12_text 100 = .ok (.ldc 169, 2) := by decide +kernel
theorem dX12_text_102 : decode cX12_text 102 = .ok (.invokevirtual 151, 3) := by decide +kernel
theorem dX12_text_105 : decode cX12_text 105 = .ok (.aload_n 0, 1) := by decide +kernel
theorem dX12_text_106 : decode cX12_text 106 = .ok (.getfield 22, 3) := by decide +kernel
theorem dX12_text_109 : decode cX12_text 109 = .ok (.iload_n 2, 1) := by decide +kernel
theorem dX12_text_110 : decode cX12_text 110 = .ok (.iaload, 1) := by decide +kernel
theorem dX12_text_111 : decode cX12_text 111 = .ok (.invokevirtual 162, 3) := by decide +kernel
theorem dX12_text_114 : decode cX12_text 114 = .ok (.ldc 171, 2) := by decide +kernel
theorem dX12_text_116 : decode cX12_text 116 = .ok (.invokevirtual 151, 3) := by decide +kernel
theorem dX12_text_119 : decode cX12_text 119 = .ok (.aload_n 0, 1) := by decide +kernel
theorem dX12_text_120 : decode cX12_text 120 = .ok (.getfield 25, 3) := by decide +kernel
theorem dX12_text_123 : decode cX12_text 123 = .ok (.iload_n 2, 1) := by decide +kernel
theorem dX12_text_124 : decode cX12_text 124 = .ok (.iaload, 1) := by decide +kernel
theorem dX12_text_125 : decode cX12_text 125 = .ok (.invokevirtual 162, 3) := by decide +kernel
theorem dX12_text_128 : decode cX12_text 128 = .ok (.ldc 173, 2) := by decide +kernel
theorem dX12_text_130 : decode cX12_text 130 = .ok (.invokevirtual 151, 3) := by decide +kernel
theorem dX12_text_133 : decode cX12_text 133 = .ok (.aload_n 0, 1) := by decide +kernel
theorem dX12_text_134 : decode cX12_text 134 = .ok (.getfield 28, 3) := by decide +kernel
theorem dX12_text_137 : decode cX12_text 137 = .ok (.iload_n 2, 1) := by decide +kernel
theorem dX12_text_138 : decode cX12_text 138 = .ok (.iaload, 1) := by decide +kernel
theorem dX12_text_139 : decode cX12_text 139 = .ok (.invokevirtual 162, 3) := by decide +kernel
theorem dX12_text_142 : decode cX12_text 142 = .ok (.pop, 1) := by decide +kernel
theorem dX12_text_143 : decode cX12_text 143 = .ok (.aload_n 1, 1) := by decide +kernel
theorem dX12_text_144 : decode cX12_text 144 = .ok (.aload_n 0, 1) := by decide +kernel
theorem dX12_text_145 : decode cX12_text 145 = .ok (.getfield 31, 3) := by decide +kernel
theorem dX12_text_148 : decode cX12_text 148 = .ok (.iload_n 2, 1) := by decide +kernel
theorem dX12_text_149 : decode cX12_text 149 = .ok (.baload, 1) := by decide +kernel
theorem dX12_text_150 : decode cX12_text 150 = .ok (.ifCond .eq 8, 3) := by decide +kernel
theorem dX12_text_153 : decode cX12_text 153 = .ok (.ldc 175, 2) := by decide +kernel
theorem dX12_text_155 : decode cX12_text 155 = .ok (.goto 5, 3) := by decide +kernel
theorem dX12_text_158 : decode cX12_text 158 = .ok (.ldc 177, 2) := by decide +kernel
theorem dX12_text_160 : decode cX12_text 160 = .ok (.invokevirtual 151, 3) := by decide +kernel
theorem dX12_text_163 : decode cX12_text 163 = .ok (.pop, 1) := by decide +kernel
theorem dX12_text_164 : decode cX12_text 164 = .ok (.iinc 2 1, 3) := by decide +kernel
theorem dX12_text_167 : decode cX12_text 167 = .ok (.goto (-157), 3) := by decide +kernel
theorem dX12_text_170 : decode cX12_text 170 = .ok (.aload_n 1, 1) := by decide +kernel
theorem dX12_text_171 : decode cX12_text 171 = .ok (.ldc 179, 2) := by decide +kernel
theorem dX12_text_173 : decode cX12_text 173 = .ok (.invokevirtual 151, 3) := by decide +kernel
theorem dX12_text_176 : decode cX12_text 176 = .ok (.aload_n 0, 1) := by decide +kernel
theorem dX12_text_177 : decode cX12_text 177 = .ok (.getfield 76, 3) := by decide +kernel
theorem dX12_text_180 : decode cX12_text 180 = .ok (.invokevirtual 162, 3) := by decide +kernel
theorem dX12_text_183 : decode cX12_text 183 = .ok (.ldc 177, 2) := by decide +kernel
theorem dX12_text_185 : decode cX12_text 185 = .ok (.invokevirtual 151, 3) := by decide +kernel
theorem dX12_text_188 : decode cX12_text 188 = .ok (.pop, 1) := by decide +kernel
theorem dX12_text_189 : decode cX12_text 189 = .ok (.aload_n 0, 1) := by decide +kernel
theorem dX12_text_190 : decode cX12_text 190 = .ok (.getfield 79, 3) := by decide +kernel
theorem dX12_text_193 : decode cX12_text 193 = .ok (.ifCond .lt 22, 3) := by decide +kernel
theorem dX12_text_196 : decode cX12_text 196 = .ok (.aload_n 1, 1) := by decide +kernel
theorem dX12_text_197 : decode cX12_text 197 = .ok (.ldc 181, 2) := by decide +kernel
theorem dX12_text_199 : decode cX12_text 199 = .ok (.invokevirtual 151, 3) := by decide +kernel
theorem dX12_text_202 : decode cX12_text 202 = .ok (.aload_n 0, 1) := by decide +kernel
theorem dX12_text_203 : decode cX12_text 203 = .ok (.getfield 79, 3) := by decide +kernel
theorem dX12_text_206 : decode cX12_text 206 = .ok (.invokevirtual 162, 3) := by decide +kernel
theorem dX12_text_209 : decode cX12_text 209 = .ok (.ldc 177, 2) := by decide +kernel
theorem dX12_text_211 : decode cX12_text 211 = .ok (.invokevirtual 151, 3) := by decide +kernel
theorem dX12_text_214 : decode cX12_text 214 = .ok (.pop, 1) := by decide +kernel
theorem dX12_text_215 : decode cX12_text 215 = .ok (.aload_n 0, 1) := by decide +kernel
theorem dX12_text_216 : decode cX12_text 216 = .ok (.getfield 82, 3) := by decide +kernel
theorem dX12_text_219 : decode cX12_text 219 = .ok (.aload_n 0, 1) := by decide +kernel
theorem dX12_text_220 : decode cX12_text 220 = .ok (.getfield 123, 3) := by decide +kernel
theorem dX12_text_223 : decode cX12_text 223 = .ok (.if_icmp .le 50, 3) := by decide +kernel
theorem dX12_text_226 : decode cX12_text 226 = .ok (.aload_n 1, 1) := by decide +kernel
theorem dX12_text_227 : decode cX12_text 227 = .ok (.ldc 183, 2) := by decide +kernel
theorem dX12_text_229 : decode cX12_text 229 = .ok (.invokevirtual 151, 3) := by decide +kernel
theorem dX12_text_232 : decode cX12_text 232 = .ok (.aload_n 0, 1) := by decide +kernel
theorem dX12_text_233 : decode cX12_text 233 = .ok (.getfield 82, 3) := by decide +kernel
theorem dX12_text_236 : decode cX12_text 236 = .ok (.invokevirtual 162, 3) := by decide +kernel
theorem dX12_text_239 : decode cX12_text 239 = .ok (.ldc 185, 2) := by decide +kernel
theorem dX12_text_241 : decode cX12_text 241 = .ok (.invokevirtual 151, 3) := by decide +kernel
theorem dX12_text_244 : decode cX12_text 244 = .ok (.bipush 112, 2) := by decide +kernel
theorem dX12_text_246 : decode cX12_text 246 = .ok (.aload_n 0, 1) := by decide +kernel
theorem dX12_text_247 : decode cX12_text 247 = .ok (.getfield 85, 3) := by decide +kernel
theorem dX12_text_250 : decode cX12_text 250 = .ok (.iadd, 1) := by decide +kernel
theorem dX12_text_251 : decode cX12_text 251 = .ok (.i2c, 1) := by decide +kernel
theorem dX12_text_252 : decode cX12_text 252 = .ok (.invokevirtual 155, 3) := by decide +kernel
theorem dX12_text_255 : decode cX12_text 255 = .ok (.ldc 160, 2) := by decide +kernel
theorem dX12_text_257 : decode cX12_text 257 = .ok (.invokevirtual 151, 3) := by decide +kernel
theorem dX12_text_260 : decode cX12_text 260 = .ok (.aload_n 0, 1) := by decide +kernel
theorem dX12_text_261 : decode cX12_text 261 = .ok (.getfield 88, 3) := by decide +kernel
theorem dX12_text_264 : decode cX12_text 264 = .ok (.invokevirtual 162, 3) := by decide +kernel
theorem dX12_text_267 : decode cX12_text 267 = .ok (.ldc 177, 2) := by decide +kernel
theorem dX12_text_269 : decode cX12_text 269 = .ok (.invokevirtual 151, 3) := by decide +kernel
theorem dX12_text_272 : decode cX12_text 272 = .ok (.pop, 1) := by decide +kernel
theorem dX12_text_273 : decode cX12_text 273 = .ok (.aload_n 1, 1) := by decide +kernel
theorem dX12_text_274 : decode cX12_text 274 = .ok (.invokevirtual 187, 3) := by decide +kernel
theorem dX12_text_277 : decode cX12_text 277 = .ok (.areturn, 1) := by decide +kernel
theorem dX12_anyLeaf_0 : decode cX12_anyLeaf 0 = .ok (.aload_n 1, 1) := by decide +kernel
theorem dX12_anyLeaf_1 : decode cX12_anyLeaf 1 = .ok (.aload_n 0, 1) := by decide +kernel
theorem dX12_anyLeaf_2 : decode cX12_anyLeaf 2 = .ok (.getfield 72, 3) := by decide +kernel
theorem dX12_anyLeaf_5 : decode cX12_anyLeaf 5 = .ok (.invokestatic 66, 3) := by decide +kernel
theorem dX12_anyLeaf_8 : decode cX12_anyLeaf 8 = .ok (.istore_n 2, 1) := by decide +kernel
theorem dX12_anyLeaf_9 : decode cX12_anyLeaf 9 = .ok (.aload_n 0, 1) := by decide +kernel
theorem dX12_anyLeaf_10 : decode cX12_anyLeaf 10 = .ok (.iload_n 2, 1) := by decide +kernel
theorem dX12_anyLeaf_11 : decode cX12_anyLeaf 11 = .ok (.invokevirtual 191, 3) := by decide +kernel
theorem dX12_anyLeaf_14 : decode cX12_anyLeaf 14 = .ok (.ifCond .ne 15, 3) := by decide +kernel
theorem dX12_anyLeaf_17 : decode cX12_anyLeaf 17 = .ok (.iload_n 2, 1) := by decide +kernel
theorem dX12_anyLeaf_18 : decode cX12_anyLeaf 18 = .ok (.iconst 1, 1) := by decide +kernel
theorem dX12_anyLeaf_19 : decode cX12_anyLeaf 19 = .ok (.iadd, 1) := by decide +kernel
theorem dX12_anyLeaf_20 : decode cX12_anyLeaf 20 = .ok (.aload_n 0, 1) := by decide +kernel
theorem dX12_anyLeaf_21 : decode cX12_anyLeaf 21 = .ok (.getfield 72, 3) := by decide +kernel
theorem dX12_anyLeaf_24 : decode cX12_anyLeaf 24 = .ok (.irem, 1) := by decide +kernel
theorem dX12_anyLeaf_25 : decode cX12_anyLeaf 25 = .ok (.istore_n 2, 1) := by decide +kernel
theorem dX12_anyLeaf_26 : decode cX12_anyLeaf 26 = .ok (.goto (-17), 3) := by decide +kernel
theorem dX12_anyLeaf_29 : decode cX12_anyLeaf 29 = .ok (.iload_n 2, 1) := by decide +kernel
theorem dX12_anyLeaf_30 : decode cX12_anyLeaf 30 = .ok (.ireturn, 1) := by decide +kernel
theorem dJ5_init_d00df_0 : decode cJ5_init_d00df 0 = .ok (.aload_n 0, 1) := by decide +kernel
theorem dJ5_init_d00df_1 : decode cJ5_init_d00df 1 = .ok (.invokespecial 3, 3) := by decide +kernel
theorem dJ5_init_d00df_4 : decode cJ5_init_d00df 4 = .ok (.getstatic 18, 3) := by decide +kernel
theorem dJ5_init_d00df_7 : decode cJ5_init_d00df 7 = .ok (.ifCond .eq 18, 3) := by decide +kernel
theorem dJ5_init_d00df_10 : decode cJ5_init_d00df 10 = .ok (.aload_n 0, 1) := by decide +kernel
theorem dJ5_init_d00df_11 : decode cJ5_init_d00df 11 = .ok (.iload_n 1, 1) := by decide +kernel
theorem dJ5_init_d00df_12 : decode cJ5_init_d00df 12 = .ok (.newarray .byte, 2) := by decide +kernel
theorem dJ5_init_d00df_14 : decode cJ5_init_d00df 14 = .ok (.putfield 15, 3) := by decide +kernel
theorem dJ5_init_d00df_17 : decode cJ5_init_d00df 17 = .ok (.aload_n 0, 1) := by decide +kernel
theorem dJ5_init_d00df_18 : decode cJ5_init_d00df 18 = .ok (.iconst 0, 1) := by decide +kernel
theorem dJ5_init_d00df_19 : decode cJ5_init_d00df 19 = .ok (.putfield 22, 3) := by decide +kernel
theorem dJ5_init_d00df_22 : decode cJ5_init_d00df 22 = .ok (.goto 16, 3) := by decide +kernel
theorem dJ5_init_d00df_25 : decode cJ5_init_d00df 25 = .ok (.aload_n 0, 1) := by decide +kernel
theorem dJ5_init_d00df_26 : decode cJ5_init_d00df 26 = .ok (.iload_n 1, 1) := by decide +kernel
theorem dJ5_init_d00df_27 : decode cJ5_init_d00df 27 = .ok (.invokestatic 26, 3) := by decide +kernel
theorem dJ5_init_d00df_30 : decode cJ5_init_d00df 30 = .ok (.putfield 15, 3) := by decide +kernel
theorem dJ5_init_d00df_33 : decode cJ5_init_d00df 33 = .ok (.aload_n 0, 1) := by decide +kernel
theorem dJ5_init_d00df_34 : decode cJ5_init_d00df 34 = .ok (.iconst 1, 1) := by decide +kernel
theorem dJ5_init_d00df_35 : decode cJ5_init_d00df 35 = .ok (.putfield 22, 3) := by decide +kernel
theorem dJ5_init_d00df_38 : decode cJ5_init_d00df 38 = .ok (.return_, 1) := by decide +kernel
theorem dJ5_length_8abf5_0 : decode cJ5_length_8abf5 0 = .ok (.aload_n 0, 1) := by decide +kernel
theorem dJ5_length_8abf5_1 : decode cJ5_length_8abf5 1 = .ok (.getfield 79, 3) := by decide +kernel
theorem dJ5_length_8abf5_4 : decode cJ5_length_8abf5 4 = .ok (.ireturn, 1) := by decide +kernel
theorem dJ5_ensureCapacityInternal_d00df_0 : decode cJ5_ensureCapacityInternal_d00df 0 = .ok (.aload_n 0, 1) := by decide +kernel
theorem dJ5_ensureCapacityInternal_d00df_1 : decode cJ5_ensureCapacityInternal_d00df 1 = .ok (.getfield 15, 3) := by decide +kernel
theorem dJ5_ensureCapacityInternal_d00df_4 : decode cJ5_ensureCapacityInternal_d00df 4 = .ok (.arraylength, 1) := by decide +kernel
theorem dJ5_ensureCapacityInternal_d00df_5 : decode cJ5_ensureCapacityInternal_d00df 5 = .ok (.aload_n 0, 1) := by decide +kernel
theorem dJ5_ensureCapacityInternal_d00df_6 : decode cJ5_ensureCapacityInternal_d00df 6 = .ok (.getfield 22, 3) := by decide +kernel
theorem dJ5_ensureCapacityInternal_d00df_9 : decode cJ5_ensureCapacityInternal_d00df 9 = .ok (.ishr, 1) := by decide +kernel
theorem dJ5_ensureCapacityInternal_d00df_10 : decode cJ5_ensureCapacityInternal_d00df 10 = .ok (.istore_n 2, 1) := by decide +kernel
theorem dJ5_ensureCapacityInternal_d00df_11 : decode cJ5_ensureCapacityInternal_d00df 11 = .ok (.iload_n 1, 1) := by decide +kernel
theorem dJ5_ensureCapacityInternal_d00df_12 : decode cJ5_ensureCapacityInternal_d00df 12 = .ok (.iload_n 2, 1) := by decide +kernel
theorem dJ5_ensureCapacityInternal_d00df_13 : decode cJ5_ensureCapacityInternal_d00df 13 = .ok (.isub, 1) := by decide +kernel
theorem dJ5_ensureCapacityInternal_d00df_14 : decode cJ5_ensureCapacityInternal_d00df 14 = .ok (.ifCond .le 24, 3) := by decide +kernel
theorem dJ5_ensureCapacityInternal_d00df_17 : decode cJ5_ensureCapacityInternal_d00df 17 = .ok (.aload_n 0, 1) := by decide +kernel
theorem dJ5_ensureCapacityInternal_d00df_18 : decode cJ5_ensureCapacityInternal_d00df 18 = .ok (.aload_n 0, 1) := by decide +kernel
theorem dJ5_ensureCapacityInternal_d00df_19 : decode cJ5_ensureCapacityInternal_d00df 19 = .ok (.getfield 15, 3) := by decide +kernel
theorem dJ5_ensureCapacityInternal_d00df_22 : decode cJ5_ensureCapacityInternal_d00df 22 = .ok (.aload_n 0, 1) := by decide +kernel
theorem dJ5_ensureCapacityInternal_d00df_23 : decode cJ5_ensureCapacityInternal_d00df 23 = .ok (.iload_n 1, 1) := by decide +kernel
theorem dJ5_ensureCapacityInternal_d00df_24 : decode cJ5_ensureCapacityInternal_d00df 24 = .ok (.invokevirtual 104, 3) := by decide +kernel
theorem dJ5_ensureCapacityInternal_d00df_27 : decode cJ5_ensureCapacityInternal_d00df 27 = .ok (.aload_n 0, 1) := by decide +kernel
theorem dJ5_ensureCapacityInternal_d00df_28 : decode cJ5_ensureCapacityInternal_d00df 28 = .ok (.getfield 22, 3) := by decide +kernel
theorem dJ5_ensureCapacityInternal_d00df_31 : decode cJ5_ensureCapacityInternal_d00df 31 = .ok (.ishl, 1) := by decide +kernel
theorem dJ5_ensureCapacityInternal_d00df_32 : decode cJ5_ensureCapacityInternal_d00df 32 = .ok (.invokestatic 108, 3) := by decide +kernel
theorem dJ5_ensureCapacityInternal_d00df_35 : decode cJ5_ensureCapacityInternal_d00df 35 = .ok (.putfield 15, 3) := by decide +kernel
theorem dJ5_ensureCapacityInternal_d00df_38 : decode cJ5_ensureCapacityInternal_d00df 38 = .ok (.return_, 1) := by decide +kernel
theorem dJ5_newCapacity_0f7a4_0 : decode cJ5_newCapacity_0f7a4 0 = .ok (.aload_n 0, 1) := by decide +kernel
theorem dJ5_newCapacity_0f7a4_1 : decode cJ5_newCapacity_0f7a4 1 = .ok (.getfield 15, 3) := by decide +kernel
theorem dJ5_newCapacity_0f7a4_4 : decode cJ5_newCapacity_0f7a4 4 = .ok (.arraylength, 1) := by decide +kernel
theorem dJ5_newCapacity_0f7a4_5 : decode cJ5_newCapacity_0f7a4 5 = .ok (.istore_n 2, 1) := by decide +kernel
theorem dJ5_newCapacity_0f7a4_6 : decode cJ5_newCapacity_0f7a4 6 = .ok (.iload_n 1, 1) := by decide +kernel
theorem dJ5_newCapacity_0f7a4_7 : decode cJ5_newCapacity_0f7a4 7 = .ok (.aload_n 0, 1) := by decide +kernel
theorem dJ5_newCapacity_0f7a4_8 : decode cJ5_newCapacity_0f7a4 8 = .ok (.getfield 22, 3) := by decide +kernel
theorem dJ5_newCapacity_0f7a4_11 : decode cJ5_newCapacity_0f7a4 11 = .ok (.ishl, 1) := by decide +kernel
theorem dJ5_newCapacity_0f7a4_12 : decode cJ5_newCapacity_0f7a4 12 = .ok (.istore_n 3, 1) := by decide +kernel
theorem dJ5_newCapacity_0f7a4_13 : decode cJ5_newCapacity_0f7a4 13 = .ok (.iload_n 3, 1) := by decide +kernel
theorem dJ5_newCapacity_0f7a4_14 : decode cJ5_newCapacity_0f7a4 14 = .ok (.iload_n 2, 1) := by decide +kernel
theorem dJ5_newCapacity_0f7a4_15 : decode cJ5_newCapacity_0f7a4 15 = .ok (.isub, 1) := by decide +kernel
theorem dJ5_newCapacity_0f7a4_16 : decode cJ5_newCapacity_0f7a4 16 = .ok (.istore 4, 2) := by decide +kernel
theorem dJ5_newCapacity_0f7a4_18 : decode cJ5_newCapacity_0f7a4 18 = .ok (.iload_n 2, 1) := by decide +kernel
theorem dJ5_newCapacity_0f7a4_19 : decode cJ5_newCapacity_0f7a4 19 = .ok (.iload 4, 2) := by decide +kernel
theorem dJ5_newCapacity_0f7a4_21 : decode cJ5_newCapacity_0f7a4 21 = .ok (.iload_n 2, 1) := by decide +kernel
theorem dJ5_newCapacity_0f7a4_22 : decode cJ5_newCapacity_0f7a4 22 = .ok (.iconst 2, 1) := by decide +kernel
theorem dJ5_newCapacity_0f7a4_23 : decode cJ5_newCapacity_0f7a4 23 = .ok (.aload_n 0, 1) := by decide +kernel
theorem dJ5_newCapacity_0f7a4_24 : decode cJ5_newCapacity_0f7a4 24 = .ok (.getfield 22, 3) := by decide +kernel
theorem dJ5_newCapacity_0f7a4_27 : decode cJ5_newCapacity_0f7a4 27 = .ok (.ishl, 1) := by decide +kernel
theorem dJ5_newCapacity_0f7a4_28 : decode cJ5_newCapacity_0f7a4 28 = .ok (.iadd, 1) := by decide +kernel
theorem dJ5_newCapacity_0f7a4_29 : decode cJ5_newCapacity_0f7a4 29 = .ok (.invokestatic 114, 3) := by decide +kernel
theorem dJ5_newCapacity_0f7a4_32 : decode cJ5_newCapacity_0f7a4 32 = .ok (.istore 5, 2) := by decide +kernel
theorem dJ5_newCapacity_0f7a4_34 : decode cJ5_newCapacity_0f7a4 34 = .ok (.iload 5, 2) := by decide +kernel
theorem dJ5_newCapacity_0f7a4_36 : decode cJ5_newCapacity_0f7a4 36 = .ok (.ldc 39, 2) := by decide +kernel
theorem dJ5_newCapacity_0f7a4_38 : decode cJ5_newCapacity_0f7a4 38 = .ok (.if_icmp .ne 13, 3) := by decide +kernel
theorem dJ5_newCapacity_0f7a4_41 : decode cJ5_newCapacity_0f7a4 41 = .ok (.new 120, 3) := by decide +kernel
theorem dJ5_newCapacity_0f7a4_44 : decode cJ5_newCapacity_0f7a4 44 = .ok (.dup, 1) := by decide +kernel
theorem dJ5_newCapacity_0f7a4_45 : decode cJ5_newCapacity_0f7a4 45 = .ok (.ldc 122, 2) := by decide +kernel
theorem dJ5_newCapacity_0f7a4_47 : decode cJ5_newCapacity_0f7a4 47 = .ok (.invokespecial 124, 3) := by decide +kernel
theorem dJ5_newCapacity_0f7a4_50 : decode cJ5_newCapacity_0f7a4 50 = .ok (.athrow, 1) := by decide +kernel
theorem dJ5_newCapacity_0f7a4_51 : decode cJ5_newCapacity_0f7a4 51 = .ok (.iload 5, 2) := by decide +kernel
theorem dJ5_newCapacity_0f7a4_53 : decode cJ5_newCapacity_0f7a4 53 = .ok (.aload_n 0, 1) := by decide +kernel
theorem dJ5_newCapacity_0f7a4_54 : decode cJ5_newCapacity_0f7a4 54 = .ok (.getfield 22, 3) := by decide +kernel
theorem dJ5_newCapacity_0f7a4_57 : decode cJ5_newCapacity_0f7a4 57 = .ok (.ishr, 1) := by decide +kernel
theorem dJ5_newCapacity_0f7a4_58 : decode cJ5_newCapacity_0f7a4 58 = .ok (.ireturn, 1) := by decide +kernel
theorem dJ5_append_cf1ce_0 : decode cJ5_append_cf1ce 0 = .ok (.aload_n 1, 1) := by decide +kernel
theorem dJ5_append_cf1ce_1 : decode cJ5_append_cf1ce 1 = .ok (.ifnonnull 8, 3) := by decide +kernel
theorem dJ5_append_cf1ce_4 : decode cJ5_append_cf1ce 4 = .ok (.aload_n 0, 1) := by decide +kernel
theorem dJ5_append_cf1ce_5 : decode cJ5_append_cf1ce 5 = .ok (.invokevirtual 204, 3) := by decide +kernel
theorem dJ5_append_cf1ce_8 : decode cJ5_append_cf1ce 8 = .ok (.areturn, 1) := by decide +kernel
theorem dJ5_append_cf1ce_9 : decode cJ5_append_cf1ce 9 = .ok (.aload_n 1, 1) := by decide +kernel
theorem dJ5_append_cf1ce_10 : decode cJ5_append_cf1ce 10 = .ok (.invokevirtual 32, 3) := by decide +kernel
theorem dJ5_append_cf1ce_13 : decode cJ5_append_cf1ce 13 = .ok (.istore_n 2, 1) := by decide +kernel
theorem dJ5_append_cf1ce_14 : decode cJ5_append_cf1ce 14 = .ok (.aload_n 0, 1) := by decide +kernel
theorem dJ5_append_cf1ce_15 : decode cJ5_append_cf1ce 15 = .ok (.aload_n 0, 1) := by decide +kernel
theorem dJ5_append_cf1ce_16 : decode cJ5_append_cf1ce 16 = .ok (.getfield 79, 3) := by decide +kernel
theorem dJ5_append_cf1ce_19 : decode cJ5_append_cf1ce 19 = .ok (.iload_n 2, 1) := by decide +kernel
theorem dJ5_append_cf1ce_20 : decode cJ5_append_cf1ce 20 = .ok (.iadd, 1) := by decide +kernel
theorem dJ5_append_cf1ce_21 : decode cJ5_append_cf1ce 21 = .ok (.invokevirtual 100, 3) := by decide +kernel
theorem dJ5_append_cf1ce_24 : decode cJ5_append_cf1ce 24 = .ok (.aload_n 0, 1) := by decide +kernel
theorem dJ5_append_cf1ce_25 : decode cJ5_append_cf1ce 25 = .ok (.aload_n 0, 1) := by decide +kernel
theorem dJ5_append_cf1ce_26 : decode cJ5_append_cf1ce 26 = .ok (.getfield 79, 3) := by decide +kernel
theorem dJ5_append_cf1ce_29 : decode cJ5_append_cf1ce 29 = .ok (.aload_n 1, 1) := by decide +kernel
theorem dJ5_append_cf1ce_30 : decode cJ5_append_cf1ce 30 = .ok (.invokevirtual 208, 3) := by decide +kernel
theorem dJ5_append_cf1ce_33 : decode cJ5_append_cf1ce 33 = .ok (.aload_n 0, 1) := by decide +kernel
theorem dJ5_append_cf1ce_34 : decode cJ5_append_cf1ce 34 = .ok (.dup, 1) := by decide +kernel
theorem dJ5_append_cf1ce_35 : decode cJ5_append_cf1ce 35 = .ok (.getfield 79, 3) := by decide +kernel
theorem dJ5_append_cf1ce_38 : decode cJ5_append_cf1ce 38 = .ok (.iload_n 2, 1) := by decide +kernel
theorem dJ5_append_cf1ce_39 : decode cJ5_append_cf1ce 39 = .ok (.iadd, 1) := by decide +kernel
theorem dJ5_append_cf1ce_40 : decode cJ5_append_cf1ce 40 = .ok (.putfield 79, 3) := by decide +kernel
theorem dJ5_append_cf1ce_43 : decode cJ5_append_cf1ce 43 = .ok (.aload_n 0, 1) := by decide +kernel
theorem dJ5_append_cf1ce_44 : decode cJ5_append_cf1ce 44 = .ok (.areturn, 1) := by decide +kernel
theorem dJ5_append_3fe6f_0 : decode cJ5_append_3fe6f 0 = .ok (.aload_n 0, 1) := by decide +kernel
theorem dJ5_append_3fe6f_1 : decode cJ5_append_3fe6f 1 = .ok (.aload_n 0, 1) := by decide +kernel
theorem dJ5_append_3fe6f_2 : decode cJ5_append_3fe6f 2 = .ok (.getfield 79, 3) := by decide +kernel
theorem dJ5_append_3fe6f_5 : decode cJ5_append_3fe6f 5 = .ok (.iconst 1, 1) := by decide +kernel
theorem dJ5_append_3fe6f_6 : decode cJ5_append_3fe6f 6 = .ok (.iadd, 1) := by decide +kernel
theorem dJ5_append_3fe6f_7 : decode cJ5_append_3fe6f 7 = .ok (.invokevirtual 100, 3) := by decide +kernel
theorem dJ5_append_3fe6f_10 : decode cJ5_append_3fe6f 10 = .ok (.aload_n 0, 1) := by decide +kernel
theorem dJ5_append_3fe6f_11 : decode cJ5_append_3fe6f 11 = .ok (.invokevirtual 83, 3) := by decide +kernel
theorem dJ5_append_3fe6f_14 : decode cJ5_append_3fe6f 14 = .ok (.ifCond .eq 31, 3) := by decide +kernel
theorem dJ5_append_3fe6f_17 : decode cJ5_append_3fe6f 17 = .ok (.iload_n 1, 1) := by decide +kernel
theorem dJ5_append_3fe6f_18 : decode cJ5_append_3fe6f 18 = .ok (.invokestatic 191, 3) := by decide +kernel
theorem dJ5_append_3fe6f_21 : decode cJ5_append_3fe6f 21 = .ok (.ifCond .eq 24, 3) := by decide +kernel
theorem dJ5_append_3fe6f_24 : decode cJ5_append_3fe6f 24 = .ok (.aload_n 0, 1) := by decide +kernel
theorem dJ5_append_3fe6f_25 : decode cJ5_append_3fe6f 25 = .ok (.getfield 15, 3) := by decide +kernel
theorem dJ5_append_3fe6f_28 : decode cJ5_append_3fe6f 28 = .ok (.aload_n 0, 1) := by decide +kernel
theorem dJ5_append_3fe6f_29 : decode cJ5_append_3fe6f 29 = .ok (.dup, 1) := by decide +kernel
theorem dJ5_append_3fe6f_30 : decode cJ5_append_3fe6f 30 = .ok (.getfield 79, 3) := by decide +kernel
theorem dJ5_append_3fe6f_33 : decode cJ5_append_3fe6f 33 = .ok (.dup_x1, 1) := by decide +kernel
theorem dJ5_append_3fe6f_34 : decode cJ5_append_3fe6f 34 = .ok (.iconst 1, 1) := by decide +kernel
theorem dJ5_append_3fe6f_35 : decode cJ5_append_3fe6f 35 = .ok (.iadd, 1) := by decide +kernel
theorem dJ5_append_3fe6f_36 : decode cJ5_append_3fe6f 36 = .ok (.putfield 79, 3) := by decide +kernel
theorem dJ5_append_3fe6f_39 : decode cJ5_append_3fe6f 39 = .ok (.iload_n 1, 1) := by decide +kernel
theorem dJ5_append_3fe6f_40 : decode cJ5_append_3fe6f 40 = .ok (.i2b, 1) := by decide +kernel
theorem dJ5_append_3fe6f_41 : decode cJ5_append_3fe6f 41 = .ok (.bastore, 1) := by decide +kernel
theorem dJ5_append_3fe6f_42 : decode cJ5_append_3fe6f 42 = .ok (.goto 33, 3) := by decide +kernel
theorem dJ5_append_3fe6f_45 : decode cJ5_append_3fe6f 45 = .ok (.aload_n 0, 1) := by decide +kernel
theorem dJ5_append_3fe6f_46 : decode cJ5_append_3fe6f 46 = .ok (.invokevirtual 83, 3) := by decide +kernel
theorem dJ5_append_3fe6f_49 : decode cJ5_append_3fe6f 49 = .ok (.ifCond .eq 7, 3) := by decide +kernel
theorem dJ5_append_3fe6f_52 : decode cJ5_append_3fe6f 52 = .ok (.aload_n 0, 1) := by decide +kernel
theorem dJ5_append_3fe6f_53 : decode cJ5_append_3fe6f 53 = .ok (.invokevirtual 195, 3) := by decide +kernel
theorem dJ5_append_3fe6f_56 : decode cJ5_append_3fe6f 56 = .ok (.aload_n 0, 1) := by decide +kernel
theorem dJ5_append_3fe6f_57 : decode cJ5_append_3fe6f 57 = .ok (.getfield 15, 3) := by decide +kernel
theorem dJ5_append_3fe6f_60 : decode cJ5_append_3fe6f 60 = .ok (.aload_n 0, 1) := by decide +kernel
theorem dJ5_append_3fe6f_61 : decode cJ5_append_3fe6f 61 = .ok (.dup, 1) := by decide +kernel
theorem dJ5_append_3fe6f_62 : decode cJ5_append_3fe6f 62 = .ok (.getfield 79, 3) := by decide +kernel
theorem dJ5_append_3fe6f_65 : decode cJ5_append_3fe6f 65 = .ok (.dup_x1, 1) := by decide +kernel
theorem dJ5_append_3fe6f_66 : decode cJ5_append_3fe6f 66 = .ok (.iconst 1, 1) := by decide +kernel
theorem dJ5_append_3fe6f_67 : decode cJ5_append_3fe6f 67 = .ok (.iadd, 1) := by decide +kernel
theorem dJ5_append_3fe6f_68 : decode cJ5_append_3fe6f 68 = .ok (.putfield 79, 3) := by decide +kernel
theorem dJ5_append_3fe6f_71 : decode cJ5_append_3fe6f 71 = .ok (.iload_n 1, 1) := by decide +kernel
theorem dJ5_append_3fe6f_72 : decode cJ5_append_3fe6f 72 = .ok (.invokestatic 197, 3) := by decide +kernel
theorem dJ5_append_3fe6f_75 : decode cJ5_append_3fe6f 75 = .ok (.aload_n 0, 1) := by decide +kernel
theorem dJ5_append_3fe6f_76 : decode cJ5_append_3fe6f 76 = .ok (.areturn, 1) := by decide +kernel
theorem dJ5_append_c97b9_0 : decode cJ5_append_c97b9 0 = .ok (.aload_n 0, 1) := by decide +kernel
theorem dJ5_append_c97b9_1 : decode cJ5_append_c97b9 1 = .ok (.getfield 79, 3) := by decide +kernel
theorem dJ5_append_c97b9_4 : decode cJ5_append_c97b9 4 = .ok (.istore_n 2, 1) := by decide +kernel
theorem dJ5_append_c97b9_5 : decode cJ5_append_c97b9 5 = .ok (.iload_n 2, 1) := by decide +kernel
theorem dJ5_append_c97b9_6 : decode cJ5_append_c97b9 6 = .ok (.iload_n 1, 1) := by decide +kernel
theorem dJ5_append_c97b9_7 : decode cJ5_append_c97b9 7 = .ok (.invokestatic 245, 3) := by decide +kernel
theorem dJ5_append_c97b9_10 : decode cJ5_append_c97b9 10 = .ok (.iadd, 1) := by decide +kernel
theorem dJ5_append_c97b9_11 : decode cJ5_append_c97b9 11 = .ok (.istore_n 3, 1) := by decide +kernel
theorem dJ5_append_c97b9_12 : decode cJ5_append_c97b9 12 = .ok (.aload_n 0, 1) := by decide +kernel
theorem dJ5_append_c97b9_13 : decode cJ5_append_c97b9 13 = .ok (.iload_n 3, 1) := by decide +kernel
theorem dJ5_append_c97b9_14 : decode cJ5_append_c97b9 14 = .ok (.invokevirtual 100, 3) := by decide +kernel
theorem dJ5_append_c97b9_17 : decode cJ5_append_c97b9 17 = .ok (.aload_n 0, 1) := by decide +kernel
theorem dJ5_append_c97b9_18 : decode cJ5_append_c97b9 18 = .ok (.invokevirtual 83, 3) := by decide +kernel
theorem dJ5_append_c97b9_21 : decode cJ5_append_c97b9 21 = .ok (.ifCond .eq 16, 3) := by decide +kernel
theorem dJ5_append_c97b9_24 : decode cJ5_append_c97b9 24 = .ok (.iload_n 1, 1) := by decide +kernel
theorem dJ5_append_c97b9_25 : decode cJ5_append_c97b9 25 = .ok (.iload_n 3, 1) := by decide +kernel
theorem dJ5_append_c97b9_26 : decode cJ5_append_c97b9 26 = .ok (.aload_n 0, 1) := by decide +kernel
theorem dJ5_append_c97b9_27 : decode cJ5_append_c97b9 27 = .ok (.getfield 15, 3) := by decide +kernel
theorem dJ5_append_c97b9_30 : decode cJ5_append_c97b9 30 = .ok (.invokestatic 248, 3) := by decide +kernel
theorem dJ5_append_c97b9_33 : decode cJ5_append_c97b9 33 = .ok (.pop, 1) := by decide +kernel
theorem dJ5_append_c97b9_34 : decode cJ5_append_c97b9 34 = .ok (.goto 14, 3) := by decide +kernel
theorem dJ5_append_c97b9_37 : decode cJ5_append_c97b9 37 = .ok (.iload_n 1, 1) := by decide +kernel
theorem dJ5_append_c97b9_38 : decode cJ5_append_c97b9 38 = .ok (.iload_n 2, 1) := by decide +kernel
theorem dJ5_append_c97b9_39 : decode cJ5_append_c97b9 39 = .ok (.iload_n 3, 1) := by decide +kernel
theorem dJ5_append_c97b9_40 : decode cJ5_append_c97b9 40 = .ok (.aload_n 0, 1) := by decide +kernel
theorem dJ5_append_c97b9_41 : decode cJ5_append_c97b9 41 = .ok (.getfield 15, 3) := by decide +kernel
theorem dJ5_append_c97b9_44 : decode cJ5_append_c97b9 44 = .ok (.invokestatic 251, 3) := by decide +kernel
theorem dJ5_append_c97b9_47 : decode cJ5_append_c97b9 47 = .ok (.pop, 1) := by decide +kernel
theorem dJ5_append_c97b9_48 : decode cJ5_append_c97b9 48 = .ok (.aload_n 0, 1) := by decide +kernel
theorem dJ5_append_c97b9_49 : decode cJ5_append_c97b9 49 = .ok (.iload_n 3, 1) := by decide +kernel
theorem dJ5_append_c97b9_50 : decode cJ5_append_c97b9 50 = .ok (.putfield 79, 3) := by decide +kernel
theorem dJ5_append_c97b9_53 : decode cJ5_append_c97b9 53 = .ok (.aload_n 0, 1) := by decide +kernel
theorem dJ5_append_c97b9_54 : decode cJ5_append_c97b9 54 = .ok (.areturn, 1) := by decide +kernel
theorem dJ5_getValue_6d5f1_0 : decode cJ5_getValue_6d5f1 0 = .ok (.aload_n 0, 1) := by decide +kernel
theorem dJ5_getValue_6d5f1_1 : decode cJ5_getValue_6d5f1 1 = .ok (.getfield 15, 3) := by decide +kernel
theorem dJ5_getValue_6d5f1_4 : decode cJ5_getValue_6d5f1 4 = .ok (.areturn, 1) := by decide +kernel
theorem dJ5_isLatin1_aae02_0 : decode cJ5_isLatin1_aae02 0 = .ok (.getstatic 18, 3) := by decide +kernel
theorem dJ5_isLatin1_aae02_3 : decode cJ5_isLatin1_aae02 3 = .ok (.ifCond .eq 14, 3) := by decide +kernel
theorem dJ5_isLatin1_aae02_6 : decode cJ5_isLatin1_aae02 6 = .ok (.aload_n 0, 1) := by decide +kernel
theorem dJ5_isLatin1_aae02_7 : decode cJ5_isLatin1_aae02 7 = .ok (.getfield 22, 3) := by decide +kernel
theorem dJ5_isLatin1_aae02_10 : decode cJ5_isLatin1_aae02 10 = .ok (.ifCond .ne 7, 3) := by decide +kernel
theorem dJ5_isLatin1_aae02_13 : decode cJ5_isLatin1_aae02 13 = .ok (.iconst 1, 1) := by decide +kernel
theorem dJ5_isLatin1_aae02_14 : decode cJ5_isLatin1_aae02 14 = .ok (.goto 4, 3) := by decide +kernel
theorem dJ5_isLatin1_aae02_17 : decode cJ5_isLatin1_aae02 17 = .ok (.iconst 0, 1) := by decide +kernel
theorem dJ5_isLatin1_aae02_18 : decode cJ5_isLatin1_aae02 18 = .ok (.ireturn, 1) := by decide +kernel
theorem dJ5_putStringAt_47b60_0 : decode cJ5_putStringAt_47b60 0 = .ok (.aload_n 0, 1) := by decide +kernel
theorem dJ5_putStringAt_47b60_1 : decode cJ5_putStringAt_47b60 1 = .ok (.aload_n 2, 1) := by decide +kernel
theorem dJ5_putStringAt_47b60_2 : decode cJ5_putStringAt_47b60 2 = .ok (.invokevirtual 397, 3) := by decide +kernel
theorem dJ5_putStringAt_47b60_5 : decode cJ5_putStringAt_47b60 5 = .ok (.aload_n 2, 1) := by decide +kernel
theorem dJ5_putStringAt_47b60_6 : decode cJ5_putStringAt_47b60 6 = .ok (.aload_n 0, 1) := by decide +kernel
theorem dJ5_putStringAt_47b60_7 : decode cJ5_putStringAt_47b60 7 = .ok (.getfield 15, 3) := by decide +kernel
theorem dJ5_putStringAt_47b60_10 : decode cJ5_putStringAt_47b60 10 = .ok (.iload_n 1, 1) := by decide +kernel
theorem dJ5_putStringAt_47b60_11 : decode cJ5_putStringAt_47b60 11 = .ok (.aload_n 0, 1) := by decide +kernel
theorem dJ5_putStringAt_47b60_12 : decode cJ5_putStringAt_47b60 12 = .ok (.getfield 22, 3) := by decide +kernel
theorem dJ5_putStringAt_47b60_15 : decode cJ5_putStringAt_47b60 15 = .ok (.invokevirtual 399, 3) := by decide +kernel
theorem dJ5_putStringAt_47b60_18 : decode cJ5_putStringAt_47b60 18 = .ok (.return_, 1) := by decide +kernel
theorem dJ6_getChars_ba4f3_0 : decode cJ6_getChars_ba4f3 0 = .ok (.iload_n 1, 1) := by decide +kernel
theorem dJ6_getChars_ba4f3_1 : decode cJ6_getChars_ba4f3 1 = .ok (.istore 5, 2) := by decide +kernel
theorem dJ6_getChars_ba4f3_3 : decode cJ6_getChars_ba4f3 3 = .ok (.iload_n 0, 1) := by decide +kernel
theorem dJ6_getChars_ba4f3_4 : decode cJ6_getChars_ba4f3 4 = .ok (.ifCond .ge 7, 3) := by decide +kernel
theorem dJ6_getChars_ba4f3_7 : decode cJ6_getChars_ba4f3 7 = .ok (.iconst 1, 1) := by decide +kernel
theorem dJ6_getChars_ba4f3_8 : decode cJ6_getChars_ba4f3 8 = .ok (.goto 4, 3) := by decide +kernel
theorem dJ6_getChars_ba4f3_11 : decode cJ6_getChars_ba4f3 11 = .ok (.iconst 0, 1) := by decide +kernel
theorem dJ6_getChars_ba4f3_12 : decode cJ6_getChars_ba4f3 12 = .ok (.istore 6, 2) := by decide +kernel
theorem dJ6_getChars_ba4f3_14 : decode cJ6_getChars_ba4f3 14 = .ok (.iload 6, 2) := by decide +kernel
theorem dJ6_getChars_ba4f3_16 : decode cJ6_getChars_ba4f3 16 = .ok (.ifCond .ne 6, 3) := by decide +kernel
theorem dJ6_getChars_ba4f3_19 : decode cJ6_getChars_ba4f3 19 = .ok (.iload_n 0, 1) := by decide +kernel
theorem dJ6_getChars_ba4f3_20 : decode cJ6_getChars_ba4f3 20 = .ok (.ineg, 1) := by decide +kernel
theorem dJ6_getChars_ba4f3_21 : decode cJ6_getChars_ba4f3 21 = .ok (.istore_n 0, 1) := by decide +kernel
theorem dJ6_getChars_ba4f3_22 : decode cJ6_getChars_ba4f3 22 = .ok (.iload_n 0, 1) := by decide +kernel
theorem dJ6_getChars_ba4f3_23 : decode cJ6_getChars_ba4f3 23 = .ok (.bipush (-100), 2) := by decide +kernel
theorem dJ6_getChars_ba4f3_25 : decode cJ6_getChars_ba4f3 25 = .ok (.if_icmp .gt 47, 3) := by decide +kernel
theorem dJ6_getChars_ba4f3_28 : decode cJ6_getChars_ba4f3 28 = .ok (.iload_n 0, 1) := by decide +kernel
theorem dJ6_getChars_ba4f3_29 : decode cJ6_getChars_ba4f3 29 = .ok (.bipush 100, 2) := by decide +kernel
theorem dJ6_getChars_ba4f3_31 : decode cJ6_getChars_ba4f3 31 = .ok (.idiv, 1) := by decide +kernel
theorem dJ6_getChars_ba4f3_32 : decode cJ6_getChars_ba4f3 32 = .ok (.istore_n 3, 1) := by decide +kernel
theorem dJ6_getChars_ba4f3_33 : decode cJ6_getChars_ba4f3 33 = .ok (.iload_n 3, 1) := by decide +kernel
theorem dJ6_getChars_ba4f3_34 : decode cJ6_getChars_ba4f3 34 = .ok (.bipush 100, 2) := by decide +kernel
theorem dJ6_getChars_ba4f3_36 : decode cJ6_getChars_ba4f3 36 = .ok (.imul, 1) := by decide +kernel
theorem dJ6_getChars_ba4f3_37 : decode cJ6_getChars_ba4f3 37 = .ok (.iload_n 0, 1) := by decide +kernel
theorem dJ6_getChars_ba4f3_38 : decode cJ6_getChars_ba4f3 38 = .ok (.isub, 1) := by decide +kernel
theorem dJ6_getChars_ba4f3_39 : decode cJ6_getChars_ba4f3 39 = .ok (.istore 4, 2) := by decide +kernel
theorem dJ6_getChars_ba4f3_41 : decode cJ6_getChars_ba4f3 41 = .ok (.iload_n 3, 1) := by decide +kernel
theorem dJ6_getChars_ba4f3_42 : decode cJ6_getChars_ba4f3 42 = .ok (.istore_n 0, 1) := by decide +kernel
theorem dJ6_getChars_ba4f3_43 : decode cJ6_getChars_ba4f3 43 = .ok (.aload_n 2, 1) := by decide +kernel
theorem dJ6_getChars_ba4f3_44 : decode cJ6_getChars_ba4f3 44 = .ok (.iinc 5 (-1), 3) := by decide +kernel
theorem dJ6_getChars_ba4f3_47 : decode cJ6_getChars_ba4f3 47 = .ok (.iload 5, 2) := by decide +kernel
theorem dJ6_getChars_ba4f3_49 : decode cJ6_getChars_ba4f3 49 = .ok (.getstatic 83, 3) := by decide +kernel
theorem dJ6_getChars_ba4f3_52 : decode cJ6_getChars_ba4f3 52 = .ok (.iload 4, 2) := by decide +kernel
theorem dJ6_getChars_ba4f3_54 : decode cJ6_getChars_ba4f3 54 = .ok (.baload, 1) := by decide +kernel
theorem dJ6_getChars_ba4f3_55 : decode cJ6_getChars_ba4f3 55 = .ok (.bastore, 1) := by decide +kernel
theorem dJ6_getChars_ba4f3_56 : decode cJ6_getChars_ba4f3 56 = .ok (.aload_n 2, 1) := by decide +kernel
theorem dJ6_getChars_ba4f3_57 : decode cJ6_getChars_ba4f3 57 = .ok (.iinc 5 (-1), 3) := by decide +kernel
theorem dJ6_getChars_ba4f3_60 : decode cJ6_getChars_ba4f3 60 = .ok (.iload 5, 2) := by decide +kernel
theorem dJ6_getChars_ba4f3_62 : decode cJ6_getChars_ba4f3 62 = .ok (.getstatic 87, 3) := by decide +kernel
theorem dJ6_getChars_ba4f3_65 : decode cJ6_getChars_ba4f3 65 = .ok (.iload 4, 2) := by decide +kernel
theorem dJ6_getChars_ba4f3_67 : decode cJ6_getChars_ba4f3 67 = .ok (.baload, 1) := by decide +kernel
theorem dJ6_getChars_ba4f3_68 : decode cJ6_getChars_ba4f3 68 = .ok (.bastore, 1) := by decide +kernel
theorem dJ6_getChars_ba4f3_69 : decode cJ6_getChars_ba4f3 69 = .ok (.goto (-47), 3) := by decide +kernel
theorem dJ6_getChars_ba4f3_72 : decode cJ6_getChars_ba4f3 72 = .ok (.aload_n 2, 1) := by decide +kernel
theorem dJ6_getChars_ba4f3_73 : decode cJ6_getChars_ba4f3 73 = .ok (.iinc 5 (-1), 3) := by decide +kernel
theorem dJ6_getChars_ba4f3_76 : decode cJ6_getChars_ba4f3 76 = .ok (.iload 5, 2) := by decide +kernel
theorem dJ6_getChars_ba4f3_78 : decode cJ6_getChars_ba4f3 78 = .ok (.getstatic 83, 3) := by decide +kernel
theorem dJ6_getChars_ba4f3_81 : decode cJ6_getChars_ba4f3 81 = .ok (.iload_n 0, 1) := by decide +kernel
theorem dJ6_getChars_ba4f3_82 : decode cJ6_getChars_ba4f3 82 = .ok (.ineg, 1) := by decide +kernel
theorem dJ6_getChars_ba4f3_83 : decode cJ6_getChars_ba4f3 83 = .ok (.baload, 1) := by decide +kernel
theorem dJ6_getChars_ba4f3_84 : decode cJ6_getChars_ba4f3 84 = .ok (.bastore, 1) := by decide +kernel
theorem dJ6_getChars_ba4f3_85 : decode cJ6_getChars_ba4f3 85 = .ok (.iload_n 0, 1) := by decide +kernel
theorem dJ6_getChars_ba4f3_86 : decode cJ6_getChars_ba4f3 86 = .ok (.bipush (-9), 2) := by decide +kernel
theorem dJ6_getChars_ba4f3_88 : decode cJ6_getChars_ba4f3 88 = .ok (.if_icmp .ge 16, 3) := by decide +kernel
theorem dJ6_getChars_ba4f3_91 : decode cJ6_getChars_ba4f3 91 = .ok (.aload_n 2, 1) := by decide +kernel
theorem dJ6_getChars_ba4f3_92 : decode cJ6_getChars_ba4f3 92 = .ok (.iinc 5 (-1), 3) := by decide +kernel
theorem dJ6_getChars_ba4f3_95 : decode cJ6_getChars_ba4f3 95 = .ok (.iload 5, 2) := by decide +kernel
theorem dJ6_getChars_ba4f3_97 : decode cJ6_getChars_ba4f3 97 = .ok (.getstatic 87, 3) := by decide +kernel
theorem dJ6_getChars_ba4f3_100 : decode cJ6_getChars_ba4f3 100 = .ok (.iload_n 0, 1) := by decide +kernel
theorem dJ6_getChars_ba4f3_101 : decode cJ6_getChars_ba4f3 101 = .ok (.ineg, 1) := by decide +kernel
theorem dJ6_getChars_ba4f3_102 : decode cJ6_getChars_ba4f3 102 = .ok (.baload, 1) := by decide +kernel
theorem dJ6_getChars_ba4f3_103 : decode cJ6_getChars_ba4f3 103 = .ok (.bastore, 1) := by decide +kernel
theorem dJ6_getChars_ba4f3_104 : decode cJ6_getChars_ba4f3 104 = .ok (.iload 6, 2) := by decide +kernel
theorem dJ6_getChars_ba4f3_106 : decode cJ6_getChars_ba4f3 106 = .ok (.ifCond .eq 12, 3) := by decide +kernel
theorem dJ6_getChars_ba4f3_109 : decode cJ6_getChars_ba4f3 109 = .ok (.aload_n 2, 1) := by decide +kernel
theorem dJ6_getChars_ba4f3_110 : decode cJ6_getChars_ba4f3 110 = .ok (.iinc 5 (-1), 3) := by decide +kernel
theorem dJ6_getChars_ba4f3_113 : decode cJ6_getChars_ba4f3 113 = .ok (.iload 5, 2) := by decide +kernel
theorem dJ6_getChars_ba4f3_115 : decode cJ6_getChars_ba4f3 115 = .ok (.bipush 45, 2) := by decide +kernel
theorem dJ6_getChars_ba4f3_117 : decode cJ6_getChars_ba4f3 117 = .ok (.bastore, 1) := by decide +kernel
theorem dJ6_getChars_ba4f3_118 : decode cJ6_getChars_ba4f3 118 = .ok (.iload 5, 2) := by decide +kernel
theorem dJ6_getChars_ba4f3_120 : decode cJ6_getChars_ba4f3 120 = .ok (.ireturn, 1) := by decide +kernel
theorem dJ6_stringSize_0f7a4_0 : decode cJ6_stringSize_0f7a4 0 = .ok (.iconst 1, 1) := by decide +kernel
theorem dJ6_stringSize_0f7a4_1 : decode cJ6_stringSize_0f7a4 1 = .ok (.istore_n 1, 1) := by decide +kernel
theorem dJ6_stringSize_0f7a4_2 : decode cJ6_stringSize_0f7a4 2 = .ok (.iload_n 0, 1) := by decide +kernel
theorem dJ6_stringSize_0f7a4_3 : decode cJ6_stringSize_0f7a4 3 = .ok (.ifCond .lt 8, 3) := by decide +kernel
theorem dJ6_stringSize_0f7a4_6 : decode cJ6_stringSize_0f7a4 6 = .ok (.iconst 0, 1) := by decide +kernel
theorem dJ6_stringSize_0f7a4_7 : decode cJ6_stringSize_0f7a4 7 = .ok (.istore_n 1, 1) := by decide +kernel
theorem dJ6_stringSize_0f7a4_8 : decode cJ6_stringSize_0f7a4 8 = .ok (.iload_n 0, 1) := by decide +kernel
theorem dJ6_stringSize_0f7a4_9 : decode cJ6_stringSize_0f7a4 9 = .ok (.ineg, 1) := by decide +kernel
theorem dJ6_stringSize_0f7a4_10 : decode cJ6_stringSize_0f7a4 10 = .ok (.istore_n 0, 1) := by decide +kernel
theorem dJ6_stringSize_0f7a4_11 : decode cJ6_stringSize_0f7a4 11 = .ok (.bipush (-10), 2) := by decide +kernel
theorem dJ6_stringSize_0f7a4_13 : decode cJ6_stringSize_0f7a4 13 = .ok (.istore_n 2, 1) := by decide +kernel
theorem dJ6_stringSize_0f7a4_14 : decode cJ6_stringSize_0f7a4 14 = .ok (.iconst 1, 1) := by decide +kernel
theorem dJ6_stringSize_0f7a4_15 : decode cJ6_stringSize_0f7a4 15 = .ok (.istore_n 3, 1) := by decide +kernel
theorem dJ6_stringSize_0f7a4_16 : decode cJ6_stringSize_0f7a4 16 = .ok (.iload_n 3, 1) := by decide +kernel
theorem dJ6_stringSize_0f7a4_17 : decode cJ6_stringSize_0f7a4 17 = .ok (.bipush 10, 2) := by decide +kernel
theorem dJ6_stringSize_0f7a4_19 : decode cJ6_stringSize_0f7a4 19 = .ok (.if_icmp .ge 23, 3) := by decide +kernel
theorem dJ6_stringSize_0f7a4_22 : decode cJ6_stringSize_0f7a4 22 = .ok (.iload_n 0, 1) := by decide +kernel
theorem dJ6_stringSize_0f7a4_23 : decode cJ6_stringSize_0f7a4 23 = .ok (.iload_n 2, 1) := by decide +kernel
theorem dJ6_stringSize_0f7a4_24 : decode cJ6_stringSize_0f7a4 24 = .ok (.if_icmp .le 7, 3) := by decide +kernel
theorem dJ6_stringSize_0f7a4_27 : decode cJ6_stringSize_0f7a4 27 = .ok (.iload_n 3, 1) := by decide +kernel
theorem dJ6_stringSize_0f7a4_28 : decode cJ6_stringSize_0f7a4 28 = .ok (.iload_n 1, 1) := by decide +kernel
theorem dJ6_stringSize_0f7a4_29 : decode cJ6_stringSize_0f7a4 29 = .ok (.iadd, 1) := by decide +kernel
theorem dJ6_stringSize_0f7a4_30 : decode cJ6_stringSize_0f7a4 30 = .ok (.ireturn, 1) := by decide +kernel
theorem dJ6_stringSize_0f7a4_31 : decode cJ6_stringSize_0f7a4 31 = .ok (.bipush 10, 2) := by decide +kernel
theorem dJ6_stringSize_0f7a4_33 : decode cJ6_stringSize_0f7a4 33 = .ok (.iload_n 2, 1) := by decide +kernel
theorem dJ6_stringSize_0f7a4_34 : decode cJ6_stringSize_0f7a4 34 = .ok (.imul, 1) := by decide +kernel
theorem dJ6_stringSize_0f7a4_35 : decode cJ6_stringSize_0f7a4 35 = .ok (.istore_n 2, 1) := by decide +kernel
theorem dJ6_stringSize_0f7a4_36 : decode cJ6_stringSize_0f7a4 36 = .ok (.iinc 3 1, 3) := by decide +kernel
theorem dJ6_stringSize_0f7a4_39 : decode cJ6_stringSize_0f7a4 39 = .ok (.goto (-23), 3) := by decide +kernel
theorem dJ6_stringSize_0f7a4_42 : decode cJ6_stringSize_0f7a4 42 = .ok (.bipush 10, 2) := by decide +kernel
theorem dJ6_stringSize_0f7a4_44 : decode cJ6_stringSize_0f7a4 44 = .ok (.iload_n 1, 1) := by decide +kernel
theorem dJ6_stringSize_0f7a4_45 : decode cJ6_stringSize_0f7a4 45 = .ok (.iadd, 1) := by decide +kernel
theorem dJ6_stringSize_0f7a4_46 : decode cJ6_stringSize_0f7a4 46 = .ok (.ireturn, 1) := by decide +kernel
theorem dJ13_compare_74951_0 : decode cJ13_compare_74951 0 = .ok (.lload_n 0, 1) := by decide +kernel
theorem dJ13_compare_74951_1 : decode cJ13_compare_74951 1 = .ok (.lload_n 2, 1) := by decide +kernel
theorem dJ13_compare_74951_2 : decode cJ13_compare_74951 2 = .ok (.lcmp, 1) := by decide +kernel
theorem dJ13_compare_74951_3 : decode cJ13_compare_74951 3 = .ok (.ifCond .ge 7, 3) := by decide +kernel
theorem dJ13_compare_74951_6 : decode cJ13_compare_74951 6 = .ok (.iconst (-1), 1) := by decide +kernel
theorem dJ13_compare_74951_7 : decode cJ13_compare_74951 7 = .ok (.goto 14, 3) := by decide +kernel
theorem dJ13_compare_74951_10 : decode cJ13_compare_74951 10 = .ok (.lload_n 0, 1) := by decide +kernel
theorem dJ13_compare_74951_11 : decode cJ13_compare_74951 11 = .ok (.lload_n 2, 1) := by decide +kernel
theorem dJ13_compare_74951_12 : decode cJ13_compare_74951 12 = .ok (.lcmp, 1) := by decide +kernel
theorem dJ13_compare_74951_13 : decode cJ13_compare_74951 13 = .ok (.ifCond .ne 7, 3) := by decide +kernel
theorem dJ13_compare_74951_16 : decode cJ13_compare_74951 16 = .ok (.iconst 0, 1) := by decide +kernel
theorem dJ13_compare_74951_17 : decode cJ13_compare_74951 17 = .ok (.goto 4, 3) := by decide +kernel
theorem dJ13_compare_74951_20 : decode cJ13_compare_74951 20 = .ok (.iconst 1, 1) := by decide +kernel
theorem dJ13_compare_74951_21 : decode cJ13_compare_74951 21 = .ok (.ireturn, 1) := by decide +kernel
theorem dJ0_init_81219_0 : decode cJ0_init_81219 0 = .ok (.aload_n 0, 1) := by decide +kernel
theorem dJ0_init_81219_1 : decode cJ0_init_81219 1 = .ok (.aload_n 1, 1) := by decide +kernel
theorem dJ0_init_81219_2 : decode cJ0_init_81219 2 = .ok (.aconst_null, 1) := by decide +kernel
theorem dJ0_init_81219_3 : decode cJ0_init_81219 3 = .ok (.invokespecial 489, 3) := by decide +kernel
theorem dJ0_init_81219_6 : decode cJ0_init_81219 6 = .ok (.return_, 1) := by decide +kernel
theorem dJ0_length_8abf5_0 : decode cJ0_length_8abf5 0 = .ok (.aload_n 0, 1) := by decide +kernel
theorem dJ0_length_8abf5_1 : decode cJ0_length_8abf5 1 = .ok (.getfield 9, 3) := by decide +kernel
theorem dJ0_length_8abf5_4 : decode cJ0_length_8abf5 4 = .ok (.arraylength, 1) := by decide +kernel
theorem dJ0_length_8abf5_5 : decode cJ0_length_8abf5 5 = .ok (.aload_n 0, 1) := by decide +kernel
theorem dJ0_length_8abf5_6 : decode cJ0_length_8abf5 6 = .ok (.invokevirtual 335, 3) := by decide +kernel
theorem dJ0_length_8abf5_9 : decode cJ0_length_8abf5 9 = .ok (.ishr, 1) := by decide +kernel
theorem dJ0_length_8abf5_10 : decode cJ0_length_8abf5 10 = .ok (.ireturn, 1) := by decide +kernel
theorem dJ0_charAt_5068e_0 : decode cJ0_charAt_5068e 0 = .ok (.aload_n 0, 1) := by decide +kernel
theorem dJ0_charAt_5068e_1 : decode cJ0_charAt_5068e 1 = .ok (.invokevirtual 492, 3) := by decide +kernel
theorem dJ0_charAt_5068e_4 : decode cJ0_charAt_5068e 4 = .ok (.ifCond .eq 12, 3) := by decide +kernel
theorem dJ0_charAt_5068e_7 : decode cJ0_charAt_5068e 7 = .ok (.aload_n 0, 1) := by decide +kernel
theorem dJ0_charAt_5068e_8 : decode cJ0_charAt_5068e 8 = .ok (.getfield 9, 3) := by decide +kernel
theorem dJ0_charAt_5068e_11 : decode cJ0_charAt_5068e 11 = .ok (.iload_n 1, 1) := by decide +kernel
theorem dJ0_charAt_5068e_12 : decode cJ0_charAt_5068e 12 = .ok (.invokestatic 495, 3) := by decide +kernel
theorem dJ0_charAt_5068e_15 : decode cJ0_charAt_5068e 15 = .ok (.ireturn, 1) := by decide +kernel
theorem dJ0_charAt_5068e_16 : decode cJ0_charAt_5068e 16 = .ok (.aload_n 0, 1) := by decide +kernel
theorem dJ0_charAt_5068e_17 : decode cJ0_charAt_5068e 17 = .ok (.getfield 9, 3) := by decide +kernel
theorem dJ0_charAt_5068e_20 : decode cJ0_charAt_5068e 20 = .ok (.iload_n 1, 1) := by decide +kernel
theorem dJ0_charAt_5068e_21 : decode cJ0_charAt_5068e 21 = .ok (.invokestatic 498, 3) := by decide +kernel
theorem dJ0_charAt_5068e_24 : decode cJ0_charAt_5068e 24 = .ok (.ireturn, 1) := by decide +kernel
theorem dJ0_getBytes_840e7_0 : decode cJ0_getBytes_840e7 0 = .ok (.aload_n 0, 1) := by decide +kernel
theorem dJ0_getBytes_840e7_1 : decode cJ0_getBytes_840e7 1 = .ok (.invokevirtual 335, 3) := by decide +kernel
theorem dJ0_getBytes_840e7_4 : decode cJ0_getBytes_840e7 4 = .ok (.iload_n 3, 1) := by decide +kernel
theorem dJ0_getBytes_840e7_5 : decode cJ0_getBytes_840e7 5 = .ok (.if_icmp .ne 23, 3) := by decide +kernel
theorem dJ0_getBytes_840e7_8 : decode cJ0_getBytes_840e7 8 = .ok (.aload_n 0, 1) := by decide +kernel
theorem dJ0_getBytes_840e7_9 : decode cJ0_getBytes_840e7 9 = .ok (.getfield 9, 3) := by decide +kernel
theorem dJ0_getBytes_840e7_12 : decode cJ0_getBytes_840e7 12 = .ok (.iconst 0, 1) := by decide +kernel
theorem dJ0_getBytes_840e7_13 : decode cJ0_getBytes_840e7 13 = .ok (.aload_n 1, 1) := by decide +kernel
theorem dJ0_getBytes_840e7_14 : decode cJ0_getBytes_840e7 14 = .ok (.iload_n 2, 1) := by decide +kernel
theorem dJ0_getBytes_840e7_15 : decode cJ0_getBytes_840e7 15 = .ok (.iload_n 3, 1) := by decide +kernel
theorem dJ0_getBytes_840e7_16 : decode cJ0_getBytes_840e7 16 = .ok (.ishl, 1) := by decide +kernel
theorem dJ0_getBytes_840e7_17 : decode cJ0_getBytes_840e7 17 = .ok (.aload_n 0, 1) := by decide +kernel
theorem dJ0_getBytes_840e7_18 : decode cJ0_getBytes_840e7 18 = .ok (.getfield 9, 3) := by decide +kernel
theorem dJ0_getBytes_840e7_21 : decode cJ0_getBytes_840e7 21 = .ok (.arraylength, 1) := by decide +kernel
theorem dJ0_getBytes_840e7_22 : decode cJ0_getBytes_840e7 22 = .ok (.invokestatic 212, 3) := by decide +kernel
theorem dJ0_getBytes_840e7_25 : decode cJ0_getBytes_840e7 25 = .ok (.goto 18, 3) := by decide +kernel
theorem dJ0_getBytes_840e7_28 : decode cJ0_getBytes_840e7 28 = .ok (.aload_n 0, 1) := by decide +kernel
theorem dJ0_getBytes_840e7_29 : decode cJ0_getBytes_840e7 29 = .ok (.getfield 9, 3) := by decide +kernel
theorem dJ0_getBytes_840e7_32 : decode cJ0_getBytes_840e7 32 = .ok (.iconst 0, 1) := by decide +kernel
theorem dJ0_getBytes_840e7_33 : decode cJ0_getBytes_840e7 33 = .ok (.aload_n 1, 1) := by decide +kernel
theorem dJ0_getBytes_840e7_34 : decode cJ0_getBytes_840e7 34 = .ok (.iload_n 2, 1) := by decide +kernel
theorem dJ0_getBytes_840e7_35 : decode cJ0_getBytes_840e7 35 = .ok (.aload_n 0, 1) := by decide +kernel
theorem dJ0_getBytes_840e7_36 : decode cJ0_getBytes_840e7 36 = .ok (.getfield 9, 3) := by decide +kernel
theorem dJ0_getBytes_840e7_39 : decode cJ0_getBytes_840e7 39 = .ok (.arraylength, 1) := by decide +kernel
theorem dJ0_getBytes_840e7_40 : decode cJ0_getBytes_840e7 40 = .ok (.invokestatic 106, 3) := by decide +kernel
theorem dJ0_getBytes_840e7_43 : decode cJ0_getBytes_840e7 43 = .ok (.return_, 1) := by decide +kernel
theorem dJ0_init_db425_0 : decode cJ0_init_db425 0 = .ok (.aload_n 0, 1) := by decide +kernel
theorem dJ0_init_db425_1 : decode cJ0_init_db425 1 = .ok (.invokespecial 1, 3) := by decide +kernel
theorem dJ0_init_db425_4 : decode cJ0_init_db425 4 = .ok (.aload_n 1, 1) := by decide +kernel
theorem dJ0_init_db425_5 : decode cJ0_init_db425 5 = .ok (.invokevirtual 552, 3) := by decide +kernel
theorem dJ0_init_db425_8 : decode cJ0_init_db425 8 = .ok (.astore_n 3, 1) := by decide +kernel
theorem dJ0_init_db425_9 : decode cJ0_init_db425 9 = .ok (.aload_n 1, 1) := by decide +kernel
theorem dJ0_init_db425_10 : decode cJ0_init_db425 10 = .ok (.invokevirtual 549, 3) := by decide +kernel
theorem dJ0_init_db425_13 : decode cJ0_init_db425 13 = .ok (.istore 4, 2) := by decide +kernel
theorem dJ0_init_db425_15 : decode cJ0_init_db425 15 = .ok (.aload_n 1, 1) := by decide +kernel
theorem dJ0_init_db425_16 : decode cJ0_init_db425 16 = .ok (.invokevirtual 1047, 3) := by decide +kernel
theorem dJ0_init_db425_19 : decode cJ0_init_db425 19 = .ok (.ifCond .eq 22, 3) := by decide +kernel
theorem dJ0_init_db425_22 : decode cJ0_init_db425 22 = .ok (.aload_n 0, 1) := by decide +kernel
theorem dJ0_init_db425_23 : decode cJ0_init_db425 23 = .ok (.iconst 0, 1) := by decide +kernel
theorem dJ0_init_db425_24 : decode cJ0_init_db425 24 = .ok (.putfield 15, 3) := by decide +kernel
theorem dJ0_init_db425_27 : decode cJ0_init_db425 27 = .ok (.aload_n 0, 1) := by decide +kernel
theorem dJ0_init_db425_28 : decode cJ0_init_db425 28 = .ok (.aload_n 3, 1) := by decide +kernel
theorem dJ0_init_db425_29 : decode cJ0_init_db425 29 = .ok (.iconst 0, 1) := by decide +kernel
theorem dJ0_init_db425_30 : decode cJ0_init_db425 30 = .ok (.iload 4, 2) := by decide +kernel
theorem dJ0_init_db425_32 : decode cJ0_init_db425 32 = .ok (.invokestatic 54, 3) := by decide +kernel
theorem dJ0_init_db425_35 : decode cJ0_init_db425 35 = .ok (.putfield 9, 3) := by decide +kernel
theorem dJ0_init_db425_38 : decode cJ0_init_db425 38 = .ok (.goto 59, 3) := by decide +kernel
theorem dJ0_init_db425_41 : decode cJ0_init_db425 41 = .ok (.getstatic 38, 3) := by decide +kernel
theorem dJ0_init_db425_44 : decode cJ0_init_db425 44 = .ok (.ifCond .eq 35, 3) := by decide +kernel
theorem dJ0_init_db425_47 : decode cJ0_init_db425 47 = .ok (.aload_n 1, 1) := by decide +kernel
theorem dJ0_init_db425_48 : decode cJ0_init_db425 48 = .ok (.getfield 1048, 3) := by decide +kernel
theorem dJ0_init_db425_51 : decode cJ0_init_db425 51 = .ok (.ifCond .eq 28, 3) := by decide +kernel
theorem dJ0_init_db425_54 : decode cJ0_init_db425 54 = .ok (.aload_n 0, 1) := by decide +kernel
theorem dJ0_init_db425_55 : decode cJ0_init_db425 55 = .ok (.aload_n 3, 1) := by decide +kernel
theorem dJ0_init_db425_56 : decode cJ0_init_db425 56 = .ok (.iconst 0, 1) := by decide +kernel
theorem dJ0_init_db425_57 : decode cJ0_init_db425 57 = .ok (.iload 4, 2) := by decide +kernel
theorem dJ0_init_db425_59 : decode cJ0_init_db425 59 = .ok (.invokestatic 1051, 3) := by decide +kernel
theorem dJ0_init_db425_62 : decode cJ0_init_db425 62 = .ok (.putfield 9, 3) := by decide +kernel
theorem dJ0_init_db425_65 : decode cJ0_init_db425 65 = .ok (.aload_n 0, 1) := by decide +kernel
theorem dJ0_init_db425_66 : decode cJ0_init_db425 66 = .ok (.aload_n 0, 1) := by decide +kernel
theorem dJ0_init_db425_67 : decode cJ0_init_db425 67 = .ok (.getfield 9, 3) := by decide +kernel
theorem dJ0_init_db425_70 : decode cJ0_init_db425 70 = .ok (.iload 4, 2) := by decide +kernel
theorem dJ0_init_db425_72 : decode cJ0_init_db425 72 = .ok (.invokestatic 47, 3) := by decide +kernel
theorem dJ0_init_db425_75 : decode cJ0_init_db425 75 = .ok (.putfield 15, 3) := by decide +kernel
theorem dJ0_init_db425_78 : decode cJ0_init_db425 78 = .ok (.return_, 1) := by decide +kernel
theorem dJ0_init_db425_79 : decode cJ0_init_db425 79 = .ok (.aload_n 0, 1) := by decide +kernel
theorem dJ0_init_db425_80 : decode cJ0_init_db425 80 = .ok (.iconst 1, 1) := by decide +kernel
theorem dJ0_init_db425_81 : decode cJ0_init_db425 81 = .ok (.putfield 15, 3) := by decide +kernel
theorem dJ0_init_db425_84 : decode cJ0_init_db425 84 = .ok (.aload_n 0, 1) := by decide +kernel
theorem dJ0_init_db425_85 : decode cJ0_init_db425 85 = .ok (.aload_n 3, 1) := by decide +kernel
theorem dJ0_init_db425_86 : decode cJ0_init_db425 86 = .ok (.iconst 0, 1) := by decide +kernel
theorem dJ0_init_db425_87 : decode cJ0_init_db425 87 = .ok (.iload 4, 2) := by decide +kernel
theorem dJ0_init_db425_89 : decode cJ0_init_db425 89 = .ok (.iconst 1, 1) := by decide +kernel
theorem dJ0_init_db425_90 : decode cJ0_init_db425 90 = .ok (.ishl, 1) := by decide +kernel
theorem dJ0_init_db425_91 : decode cJ0_init_db425 91 = .ok (.invokestatic 54, 3) := by decide +kernel
theorem dJ0_init_db425_94 : decode cJ0_init_db425 94 = .ok (.putfield 9, 3) := by decide +kernel
theorem dJ0_init_db425_97 : decode cJ0_init_db425 97 = .ok (.return_, 1) := by decide +kernel
theorem dJ0_coder_7d493_0 : decode cJ0_coder_7d493 0 = .ok (.getstatic 38, 3) := by decide +kernel
theorem dJ0_coder_7d493_3 : decode cJ0_coder_7d493 3 = .ok (.ifCond .eq 10, 3) := by decide +kernel
theorem dJ0_coder_7d493_6 : decode cJ0_coder_7d493 6 = .ok (.aload_n 0, 1) := by decide +kernel
theorem dJ0_coder_7d493_7 : decode cJ0_coder_7d493 7 = .ok (.getfield 15, 3) := by decide +kernel
theorem dJ0_coder_7d493_10 : decode cJ0_coder_7d493 10 = .ok (.goto 4, 3) := by decide +kernel
theorem dJ0_coder_7d493_13 : decode cJ0_coder_7d493 13 = .ok (.iconst 1, 1) := by decide +kernel
theorem dJ0_coder_7d493_14 : decode cJ0_coder_7d493 14 = .ok (.ireturn, 1) := by decide +kernel
theorem dJ0_isLatin1_aae02_0 : decode cJ0_isLatin1_aae02 0 = .ok (.getstatic 38, 3) := by decide +kernel
theorem dJ0_isLatin1_aae02_3 : decode cJ0_isLatin1_aae02 3 = .ok (.ifCond .eq 14, 3) := by decide +kernel
theorem dJ0_isLatin1_aae02_6 : decode cJ0_isLatin1_aae02 6 = .ok (.aload_n 0, 1) := by decide +kernel
theorem dJ0_isLatin1_aae02_7 : decode cJ0_isLatin1_aae02 7 = .ok (.getfield 15, 3) := by decide +kernel
theorem dJ0_isLatin1_aae02_10 : decode cJ0_isLatin1_aae02 10 = .ok (.ifCond .ne 7, 3) := by decide +kernel
theorem dJ0_isLatin1_aae02_13 : decode cJ0_isLatin1_aae02 13 = .ok (.iconst 1, 1) := by decide +kernel
theorem dJ0_isLatin1_aae02_14 : decode cJ0_isLatin1_aae02 14 = .ok (.goto 4, 3) := by decide +kernel
theorem dJ0_isLatin1_aae02_17 : decode cJ0_isLatin1_aae02 17 = .ok (.iconst 0, 1) := by decide +kernel
theorem dJ0_isLatin1_aae02_18 : decode cJ0_isLatin1_aae02 18 = .ok (.ireturn, 1) := by decide +kernel
theorem dJ0_checkIndex_df160_0 : decode cJ0_checkIndex_df160 0 = .ok (.iload_n 0, 1) := by decide +kernel
theorem dJ0_checkIndex_df160_1 : decode cJ0_checkIndex_df160 1 = .ok (.iload_n 1, 1) := by decide +kernel
theorem dJ0_checkIndex_df160_2 : decode cJ0_checkIndex_df160 2 = .ok (.getstatic 1053, 3) := by decide +kernel
theorem dJ0_checkIndex_df160_5 : decode cJ0_checkIndex_df160 5 = .ok (.invokestatic 1059, 3) := by decide +kernel
theorem dJ0_checkIndex_df160_8 : decode cJ0_checkIndex_df160 8 = .ok (.pop, 1) := by decide +kernel
theorem dJ0_checkIndex_df160_9 : decode cJ0_checkIndex_df160 9 = .ok (.return_, 1) := by decide +kernel
theorem dJ4_init_da8c8_0 : decode cJ4_init_da8c8 0 = .ok (.aload_n 0, 1) := by decide +kernel
theorem dJ4_init_da8c8_1 : decode cJ4_init_da8c8 1 = .ok (.bipush 16, 2) := by decide +kernel
theorem dJ4_init_da8c8_3 : decode cJ4_init_da8c8 3 = .ok (.invokespecial 1, 3) := by decide +kernel
theorem dJ4_init_da8c8_6 : decode cJ4_init_da8c8 6 = .ok (.return_, 1) := by decide +kernel
theorem dJ4_append_15ec4_0 : decode cJ4_append_15ec4 0 = .ok (.aload_n 0, 1) := by decide +kernel
theorem dJ4_append_15ec4_1 : decode cJ4_append_15ec4 1 = .ok (.aload_n 1, 1) := by decide +kernel
theorem dJ4_append_15ec4_2 : decode cJ4_append_15ec4 2 = .ok (.invokespecial 29, 3) := by decide +kernel
theorem dJ4_append_15ec4_5 : decode cJ4_append_15ec4 5 = .ok (.pop, 1) := by decide +kernel
theorem dJ4_append_15ec4_6 : decode cJ4_append_15ec4 6 = .ok (.aload_n 0, 1) := by decide +kernel
theorem dJ4_append_15ec4_7 : decode cJ4_append_15ec4 7 = .ok (.areturn, 1) := by decide +kernel
theorem dJ4_append_cf468_0 : decode cJ4_append_cf468 0 = .ok (.aload_n 0, 1) := by decide +kernel
theorem dJ4_append_cf468_1 : decode cJ4_append_cf468 1 = .ok (.iload_n 1, 1) := by decide +kernel
theorem dJ4_append_cf468_2 : decode cJ4_append_cf468 2 = .ok (.invokespecial 50, 3) := by decide +kernel
theorem dJ4_append_cf468_5 : decode cJ4_append_cf468 5 = .ok (.pop, 1) := by decide +kernel
theorem dJ4_append_cf468_6 : decode cJ4_append_cf468 6 = .ok (.aload_n 0, 1) := by decide +kernel
theorem dJ4_append_cf468_7 : decode cJ4_append_cf468 7 = .ok (.areturn, 1) := by decide +kernel
theorem dJ4_append_bf812_0 : decode cJ4_append_bf812 0 = .ok (.aload_n 0, 1) := by decide +kernel
theorem dJ4_append_bf812_1 : decode cJ4_append_bf812 1 = .ok (.iload_n 1, 1) := by decide +kernel
theorem dJ4_append_bf812_2 : decode cJ4_append_bf812 2 = .ok (.invokespecial 53, 3) := by decide +kernel
theorem dJ4_append_bf812_5 : decode cJ4_append_bf812 5 = .ok (.pop, 1) := by decide +kernel
theorem dJ4_append_bf812_6 : decode cJ4_append_bf812 6 = .ok (.aload_n 0, 1) := by decide +kernel
theorem dJ4_append_bf812_7 : decode cJ4_append_bf812 7 = .ok (.areturn, 1) := by decide +kernel
theorem dJ4_toString_0e30d_0 : decode cJ4_toString_0e30d 0 = .ok (.new 18, 3) := by decide +kernel
theorem dJ4_toString_0e30d_3 : decode cJ4_toString_0e30d 3 = .ok (.dup, 1) := by decide +kernel
theorem dJ4_toString_0e30d_4 : decode cJ4_toString_0e30d 4 = .ok (.aload_n 0, 1) := by decide +kernel
theorem dJ4_toString_0e30d_5 : decode cJ4_toString_0e30d 5 = .ok (.invokespecial 137, 3) := by decide +kernel
theorem dJ4_toString_0e30d_8 : decode cJ4_toString_0e30d 8 = .ok (.areturn, 1) := by decide +kernel
theorem dJ4_length_8abf5_0 : decode cJ4_length_8abf5 0 = .ok (.aload_n 0, 1) := by decide +kernel
theorem dJ4_length_8abf5_1 : decode cJ4_length_8abf5 1 = .ok (.invokespecial 343, 3) := by decide +kernel
theorem dJ4_length_8abf5_4 : decode cJ4_length_8abf5 4 = .ok (.ireturn, 1) := by decide +kernel
theorem dJ1_charAt_3b067_0 : decode cJ1_charAt_3b067 0 = .ok (.iload_n 1, 1) := by decide +kernel
theorem dJ1_charAt_3b067_1 : decode cJ1_charAt_3b067 1 = .ok (.aload_n 0, 1) := by decide +kernel
theorem dJ1_charAt_3b067_2 : decode cJ1_charAt_3b067 2 = .ok (.arraylength, 1) := by decide +kernel
theorem dJ1_charAt_3b067_3 : decode cJ1_charAt_3b067 3 = .ok (.invokestatic 9, 3) := by decide +kernel
theorem dJ1_charAt_3b067_6 : decode cJ1_charAt_3b067 6 = .ok (.aload_n 0, 1) := by decide +kernel
theorem dJ1_charAt_3b067_7 : decode cJ1_charAt_3b067 7 = .ok (.iload_n 1, 1) := by decide +kernel
theorem dJ1_charAt_3b067_8 : decode cJ1_charAt_3b067 8 = .ok (.baload, 1) := by decide +kernel
theorem dJ1_charAt_3b067_9 : decode cJ1_charAt_3b067 9 = .ok (.sipush 255, 3) := by decide +kernel
theorem dJ1_charAt_3b067_12 : decode cJ1_charAt_3b067 12 = .ok (.iand, 1) := by decide +kernel
theorem dJ1_charAt_3b067_13 : decode cJ1_charAt_3b067 13 = .ok (.i2c, 1) := by decide +kernel
theorem dJ1_charAt_3b067_14 : decode cJ1_charAt_3b067 14 = .ok (.ireturn, 1) := by decide +kernel
theorem dJ1_canEncode_fc78d_0 : decode cJ1_canEncode_fc78d 0 = .ok (.iload_n 0, 1) := by decide +kernel
theorem dJ1_canEncode_fc78d_1 : decode cJ1_canEncode_fc78d 1 = .ok (.sipush 255, 3) := by decide +kernel
theorem dJ1_canEncode_fc78d_4 : decode cJ1_canEncode_fc78d 4 = .ok (.if_icmp .gt 7, 3) := by decide +kernel
theorem dJ1_canEncode_fc78d_7 : decode cJ1_canEncode_fc78d 7 = .ok (.iconst 1, 1) := by decide +kernel
theorem dJ1_canEncode_fc78d_8 : decode cJ1_canEncode_fc78d 8 = .ok (.goto 4, 3) := by decide +kernel
theorem dJ1_canEncode_fc78d_11 : decode cJ1_canEncode_fc78d 11 = .ok (.iconst 0, 1) := by decide +kernel
theorem dJ1_canEncode_fc78d_12 : decode cJ1_canEncode_fc78d 12 = .ok (.ireturn, 1) := by decide +kernel
theorem dJxa1e45_init_da8c8_0 : decode cJxa1e45_init_da8c8 0 = .ok (.aload_n 0, 1) := by decide +kernel
theorem dJxa1e45_init_da8c8_1 : decode cJxa1e45_init_da8c8 1 = .ok (.invokespecial 1, 3) := by decide +kernel
theorem dJxa1e45_init_da8c8_4 : decode cJxa1e45_init_da8c8 4 = .ok (.return_, 1) := by decide +kernel
theorem dJxc12de_init_da8c8_0 : decode cJxc12de_init_da8c8 0 = .ok (.aload_n 0, 1) := by decide +kernel
theorem dJxc12de_init_da8c8_1 : decode cJxc12de_init_da8c8 1 = .ok (.invokespecial 1, 3) := by decide +kernel
theorem dJxc12de_init_da8c8_4 : decode cJxc12de_init_da8c8 4 = .ok (.aload_n 0, 1) := by decide +kernel
theorem dJxc12de_init_da8c8_5 : decode cJxc12de_init_da8c8 5 = .ok (.iconst 0, 1) := by decide +kernel
theorem dJxc12de_init_da8c8_6 : decode cJxc12de_init_da8c8 6 = .ok (.putfield 7, 3) := by decide +kernel
theorem dJxc12de_init_da8c8_9 : decode cJxc12de_init_da8c8 9 = .ok (.return_, 1) := by decide +kernel
theorem dJx4a65c_init_da8c8_0 : decode cJx4a65c_init_da8c8 0 = .ok (.aload_n 0, 1) := by decide +kernel
theorem dJx4a65c_init_da8c8_1 : decode cJx4a65c_init_da8c8 1 = .ok (.invokespecial 1, 3) := by decide +kernel
theorem dJx4a65c_init_da8c8_4 : decode cJx4a65c_init_da8c8 4 = .ok (.aload_n 0, 1) := by decide +kernel
theorem dJx4a65c_init_da8c8_5 : decode cJx4a65c_init_da8c8 5 = .ok (.getstatic 39, 3) := by decide +kernel
theorem dJx4a65c_init_da8c8_8 : decode cJx4a65c_init_da8c8 8 = .ok (.putfield 9, 3) := by decide +kernel
theorem dJx4a65c_init_da8c8_11 : decode cJx4a65c_init_da8c8 11 = .ok (.return_, 1) := by decide +kernel
theorem dJx4a65c_grow_92f84_0 : decode cJx4a65c_grow_92f84 0 = .ok (.aload_n 0, 1) := by decide +kernel
theorem dJx4a65c_grow_92f84_1 : decode cJx4a65c_grow_92f84 1 = .ok (.getfield 9, 3) := by decide +kernel
theorem dJx4a65c_grow_92f84_4 : decode cJx4a65c_grow_92f84 4 = .ok (.arraylength, 1) := by decide +kernel
theorem dJx4a65c_grow_92f84_5 : decode cJx4a65c_grow_92f84 5 = .ok (.istore_n 2, 1) := by decide +kernel
theorem dJx4a65c_grow_92f84_6 : decode cJx4a65c_grow_92f84 6 = .ok (.iload_n 2, 1) := by decide +kernel
theorem dJx4a65c_grow_92f84_7 : decode cJx4a65c_grow_92f84 7 = .ok (.ifCond .gt 13, 3) := by decide +kernel
theorem dJx4a65c_grow_92f84_10 : decode cJx4a65c_grow_92f84 10 = .ok (.aload_n 0, 1) := by decide +kernel
theorem dJx4a65c_grow_92f84_11 : decode cJx4a65c_grow_92f84 11 = .ok (.getfield 9, 3) := by decide +kernel
theorem dJx4a65c_grow_92f84_14 : decode cJx4a65c_grow_92f84 14 = .ok (.getstatic 39, 3) := by decide +kernel
theorem dJx4a65c_grow_92f84_17 : decode cJx4a65c_grow_92f84 17 = .ok (.if_acmp .eq 28, 3) := by decide +kernel
theorem dJx4a65c_grow_92f84_20 : decode cJx4a65c_grow_92f84 20 = .ok (.iload_n 2, 1) := by decide +kernel
theorem dJx4a65c_grow_92f84_21 : decode cJx4a65c_grow_92f84 21 = .ok (.iload_n 1, 1) := by decide +kernel
theorem dJx4a65c_grow_92f84_22 : decode cJx4a65c_grow_92f84 22 = .ok (.iload_n 2, 1) := by decide +kernel
theorem dJx4a65c_grow_92f84_23 : decode cJx4a65c_grow_92f84 23 = .ok (.isub, 1) := by decide +kernel
theorem dJx4a65c_grow_92f84_24 : decode cJx4a65c_grow_92f84 24 = .ok (.iload_n 2, 1) := by decide +kernel
theorem dJx4a65c_grow_92f84_25 : decode cJx4a65c_grow_92f84 25 = .ok (.iconst 1, 1) := by decide +kernel
theorem dJx4a65c_grow_92f84_26 : decode cJx4a65c_grow_92f84 26 = .ok (.ishr, 1) := by decide +kernel
theorem dJx4a65c_grow_92f84_27 : decode cJx4a65c_grow_92f84 27 = .ok (.invokestatic 73, 3) := by decide +kernel
theorem dJx4a65c_grow_92f84_30 : decode cJx4a65c_grow_92f84 30 = .ok (.istore_n 3, 1) := by decide +kernel
theorem dJx4a65c_grow_92f84_31 : decode cJx4a65c_grow_92f84 31 = .ok (.aload_n 0, 1) := by decide +kernel
theorem dJx4a65c_grow_92f84_32 : decode cJx4a65c_grow_92f84 32 = .ok (.aload_n 0, 1) := by decide +kernel
theorem dJx4a65c_grow_92f84_33 : decode cJx4a65c_grow_92f84 33 = .ok (.getfield 9, 3) := by decide +kernel
theorem dJx4a65c_grow_92f84_36 : decode cJx4a65c_grow_92f84 36 = .ok (.iload_n 3, 1) := by decide +kernel
theorem dJx4a65c_grow_92f84_37 : decode cJx4a65c_grow_92f84 37 = .ok (.invokestatic 66, 3) := by decide +kernel
theorem dJx4a65c_grow_92f84_40 : decode cJx4a65c_grow_92f84 40 = .ok (.dup_x1, 1) := by decide +kernel
theorem dJx4a65c_grow_92f84_41 : decode cJx4a65c_grow_92f84 41 = .ok (.putfield 9, 3) := by decide +kernel
theorem dJx4a65c_grow_92f84_44 : decode cJx4a65c_grow_92f84 44 = .ok (.areturn, 1) := by decide +kernel
theorem dJx4a65c_grow_92f84_45 : decode cJx4a65c_grow_92f84 45 = .ok (.aload_n 0, 1) := by decide +kernel
theorem dJx4a65c_grow_92f84_46 : decode cJx4a65c_grow_92f84 46 = .ok (.bipush 10, 2) := by decide +kernel
theorem dJx4a65c_grow_92f84_48 : decode cJx4a65c_grow_92f84 48 = .ok (.iload_n 1, 1) := by decide +kernel
theorem dJx4a65c_grow_92f84_49 : decode cJx4a65c_grow_92f84 49 = .ok (.invokestatic 79, 3) := by decide +kernel
theorem dJx4a65c_grow_92f84_52 : decode cJx4a65c_grow_92f84 52 = .ok (.anewarray 7, 3) := by decide +kernel
theorem dJx4a65c_grow_92f84_55 : decode cJx4a65c_grow_92f84 55 = .ok (.dup_x1, 1) := by decide +kernel
theorem dJx4a65c_grow_92f84_56 : decode cJx4a65c_grow_92f84 56 = .ok (.putfield 9, 3) := by decide +kernel
theorem dJx4a65c_grow_92f84_59 : decode cJx4a65c_grow_92f84 59 = .ok (.areturn, 1) := by decide +kernel
theorem dJx4a65c_grow_d5877_0 : decode cJx4a65c_grow_d5877 0 = .ok (.aload_n 0, 1) := by decide +kernel
theorem dJx4a65c_grow_d5877_1 : decode cJx4a65c_grow_d5877 1 = .ok (.aload_n 0, 1) := by decide +kernel
theorem dJx4a65c_grow_d5877_2 : decode cJx4a65c_grow_d5877 2 = .ok (.getfield 48, 3) := by decide +kernel
theorem dJx4a65c_grow_d5877_5 : decode cJx4a65c_grow_d5877 5 = .ok (.iconst 1, 1) := by decide +kernel
theorem dJx4a65c_grow_d5877_6 : decode cJx4a65c_grow_d5877 6 = .ok (.iadd, 1) := by decide +kernel
theorem dJx4a65c_grow_d5877_7 : decode cJx4a65c_grow_d5877 7 = .ok (.invokevirtual 69, 3) := by decide +kernel
theorem dJx4a65c_grow_d5877_10 : decode cJx4a65c_grow_d5877 10 = .ok (.areturn, 1) := by decide +kernel
theorem dJx4a65c_size_8abf5_0 : decode cJx4a65c_size_8abf5 0 = .ok (.aload_n 0, 1) := by decide +kernel
theorem dJx4a65c_size_8abf5_1 : decode cJx4a65c_size_8abf5 1 = .ok (.getfield 48, 3) := by decide +kernel
theorem dJx4a65c_size_8abf5_4 : decode cJx4a65c_size_8abf5 4 = .ok (.ireturn, 1) := by decide +kernel
theorem dJx4a65c_isEmpty_aae02_0 : decode cJx4a65c_isEmpty_aae02 0 = .ok (.aload_n 0, 1) := by decide +kernel
theorem dJx4a65c_isEmpty_aae02_1 : decode cJx4a65c_isEmpty_aae02 1 = .ok (.getfield 48, 3) := by decide +kernel
theorem dJx4a65c_isEmpty_aae02_4 : decode cJx4a65c_isEmpty_aae02 4 = .ok (.ifCond .ne 7, 3) := by decide +kernel
theorem dJx4a65c_isEmpty_aae02_7 : decode cJx4a65c_isEmpty_aae02 7 = .ok (.iconst 1, 1) := by decide +kernel
theorem dJx4a65c_isEmpty_aae02_8 : decode cJx4a65c_isEmpty_aae02 8 = .ok (.goto 4, 3) := by decide +kernel
theorem dJx4a65c_isEmpty_aae02_11 : decode cJx4a65c_isEmpty_aae02 11 = .ok (.iconst 0, 1) := by decide +kernel
theorem dJx4a65c_isEmpty_aae02_12 : decode cJx4a65c_isEmpty_aae02 12 = .ok (.ireturn, 1) := by decide +kernel
theorem dJx4a65c_elementData_915e3_0 : decode cJx4a65c_elementData_915e3 0 = .ok (.aload_n 0, 1) := by decide +kernel
theorem dJx4a65c_elementData_915e3_1 : decode cJx4a65c_elementData_915e3 1 = .ok (.getfield 9, 3) := by decide +kernel
theorem dJx4a65c_elementData_915e3_4 : decode cJx4a65c_elementData_915e3 4 = .ok (.iload_n 1, 1) := by decide +kernel
theorem dJx4a65c_elementData_915e3_5 : decode cJx4a65c_elementData_915e3 5 = .ok (.aaload, 1) := by decide +kernel
theorem dJx4a65c_elementData_915e3_6 : decode cJx4a65c_elementData_915e3 6 = .ok (.areturn, 1) := by decide +kernel
theorem dJx4a65c_get_915e3_0 : decode cJx4a65c_get_915e3 0 = .ok (.iload_n 1, 1) := by decide +kernel
theorem dJx4a65c_get_915e3_1 : decode cJx4a65c_get_915e3 1 = .ok (.aload_n 0, 1) := by decide +kernel
theorem dJx4a65c_get_915e3_2 : decode cJx4a65c_get_915e3 2 = .ok (.getfield 48, 3) := by decide +kernel
theorem dJx4a65c_get_915e3_5 : decode cJx4a65c_get_915e3 5 = .ok (.invokestatic 118, 3) := by decide +kernel
theorem dJx4a65c_get_915e3_8 : decode cJx4a65c_get_915e3 8 = .ok (.pop, 1) := by decide +kernel
theorem dJx4a65c_get_915e3_9 : decode cJx4a65c_get_915e3 9 = .ok (.aload_n 0, 1) := by decide +kernel
theorem dJx4a65c_get_915e3_10 : decode cJx4a65c_get_915e3 10 = .ok (.iload_n 1, 1) := by decide +kernel
theorem dJx4a65c_get_915e3_11 : decode cJx4a65c_get_915e3 11 = .ok (.invokevirtual 123, 3) := by decide +kernel
theorem dJx4a65c_get_915e3_14 : decode cJx4a65c_get_915e3 14 = .ok (.areturn, 1) := by decide +kernel
theorem dJx4a65c_add_72be8_0 : decode cJx4a65c_add_72be8 0 = .ok (.iload_n 3, 1) := by decide +kernel
theorem dJx4a65c_add_72be8_1 : decode cJx4a65c_add_72be8 1 = .ok (.aload_n 2, 1) := by decide +kernel
theorem dJx4a65c_add_72be8_2 : decode cJx4a65c_add_72be8 2 = .ok (.arraylength, 1) := by decide +kernel
theorem dJx4a65c_add_72be8_3 : decode cJx4a65c_add_72be8 3 = .ok (.if_icmp .ne 8, 3) := by decide +kernel
theorem dJx4a65c_add_72be8_6 : decode cJx4a65c_add_72be8 6 = .ok (.aload_n 0, 1) := by decide +kernel
theorem dJx4a65c_add_72be8_7 : decode cJx4a65c_add_72be8 7 = .ok (.invokevirtual 129, 3) := by decide +kernel
theorem dJx4a65c_add_72be8_10 : decode cJx4a65c_add_72be8 10 = .ok (.astore_n 2, 1) := by decide +kernel
theorem dJx4a65c_add_72be8_11 : decode cJx4a65c_add_72be8 11 = .ok (.aload_n 2, 1) := by decide +kernel
theorem dJx4a65c_add_72be8_12 : decode cJx4a65c_add_72be8 12 = .ok (.iload_n 3, 1) := by decide +kernel
theorem dJx4a65c_add_72be8_13 : decode cJx4a65c_add_72be8 13 = .ok (.aload_n 1, 1) := by decide +kernel
theorem dJx4a65c_add_72be8_14 : decode cJx4a65c_add_72be8 14 = .ok (.aastore, 1) := by decide +kernel
theorem dJx4a65c_add_72be8_15 : decode cJx4a65c_add_72be8 15 = .ok (.aload_n 0, 1) := by decide +kernel
theorem dJx4a65c_add_72be8_16 : decode cJx4a65c_add_72be8 16 = .ok (.iload_n 3, 1) := by decide +kernel
theorem dJx4a65c_add_72be8_17 : decode cJx4a65c_add_72be8 17 = .ok (.iconst 1, 1) := by decide +kernel
theorem dJx4a65c_add_72be8_18 : decode cJx4a65c_add_72be8 18 = .ok (.iadd, 1) := by decide +kernel
theorem dJx4a65c_add_72be8_19 : decode cJx4a65c_add_72be8 19 = .ok (.putfield 48, 3) := by decide +kernel
theorem dJx4a65c_add_72be8_22 : decode cJx4a65c_add_72be8 22 = .ok (.return_, 1) := by decide +kernel
theorem dJx4a65c_add_9ea2d_0 : decode cJx4a65c_add_9ea2d 0 = .ok (.aload_n 0, 1) := by decide +kernel
theorem dJx4a65c_add_9ea2d_1 : decode cJx4a65c_add_9ea2d 1 = .ok (.dup, 1) := by decide +kernel
theorem dJx4a65c_add_9ea2d_2 : decode cJx4a65c_add_9ea2d 2 = .ok (.getfield 63, 3) := by decide +kernel
theorem dJx4a65c_add_9ea2d_5 : decode cJx4a65c_add_9ea2d 5 = .ok (.iconst 1, 1) := by decide +kernel
theorem dJx4a65c_add_9ea2d_6 : decode cJx4a65c_add_9ea2d 6 = .ok (.iadd, 1) := by decide +kernel
theorem dJx4a65c_add_9ea2d_7 : decode cJx4a65c_add_9ea2d 7 = .ok (.putfield 63, 3) := by decide +kernel
theorem dJx4a65c_add_9ea2d_10 : decode cJx4a65c_add_9ea2d 10 = .ok (.aload_n 0, 1) := by decide +kernel
theorem dJx4a65c_add_9ea2d_11 : decode cJx4a65c_add_9ea2d 11 = .ok (.aload_n 1, 1) := by decide +kernel
theorem dJx4a65c_add_9ea2d_12 : decode cJx4a65c_add_9ea2d 12 = .ok (.aload_n 0, 1) := by decide +kernel
theorem dJx4a65c_add_9ea2d_13 : decode cJx4a65c_add_9ea2d 13 = .ok (.getfield 9, 3) := by decide +kernel
theorem dJx4a65c_add_9ea2d_16 : decode cJx4a65c_add_9ea2d 16 = .ok (.aload_n 0, 1) := by decide +kernel
theorem dJx4a65c_add_9ea2d_17 : decode cJx4a65c_add_9ea2d 17 = .ok (.getfield 48, 3) := by decide +kernel
theorem dJx4a65c_add_9ea2d_20 : decode cJx4a65c_add_9ea2d 20 = .ok (.invokevirtual 131, 3) := by decide +kernel
theorem dJx4a65c_add_9ea2d_23 : decode cJx4a65c_add_9ea2d 23 = .ok (.iconst 1, 1) := by decide +kernel
theorem dJx4a65c_add_9ea2d_24 : decode cJx4a65c_add_9ea2d 24 = .ok (.ireturn, 1) := by decide +kernel
theorem dJ7_copyOf_9075b_0 : decode cJ7_copyOf_9075b 0 = .ok (.iload_n 1, 1) := by decide +kernel
theorem dJ7_copyOf_9075b_1 : decode cJ7_copyOf_9075b 1 = .ok (.aload_n 0, 1) := by decide +kernel
theorem dJ7_copyOf_9075b_2 : decode cJ7_copyOf_9075b 2 = .ok (.arraylength, 1) := by decide +kernel
theorem dJ7_copyOf_9075b_3 : decode cJ7_copyOf_9075b 3 = .ok (.if_icmp .ne 11, 3) := by decide +kernel
theorem dJ7_copyOf_9075b_6 : decode cJ7_copyOf_9075b 6 = .ok (.aload_n 0, 1) := by decide +kernel
theorem dJ7_copyOf_9075b_7 : decode cJ7_copyOf_9075b 7 = .ok (.invokevirtual 310, 3) := by decide +kernel
theorem dJ7_copyOf_9075b_10 : decode cJ7_copyOf_9075b 10 = .ok (.checkcast 311, 3) := by decide +kernel
theorem dJ7_copyOf_9075b_13 : decode cJ7_copyOf_9075b 13 = .ok (.areturn, 1) := by decide +kernel
theorem dJ7_copyOf_9075b_14 : decode cJ7_copyOf_9075b 14 = .ok (.iload_n 1, 1) := by decide +kernel
theorem dJ7_copyOf_9075b_15 : decode cJ7_copyOf_9075b 15 = .ok (.newarray .byte, 2) := by decide +kernel
theorem dJ7_copyOf_9075b_17 : decode cJ7_copyOf_9075b 17 = .ok (.astore_n 2, 1) := by decide +kernel
theorem dJ7_copyOf_9075b_18 : decode cJ7_copyOf_9075b 18 = .ok (.aload_n 0, 1) := by decide +kernel
theorem dJ7_copyOf_9075b_19 : decode cJ7_copyOf_9075b 19 = .ok (.iconst 0, 1) := by decide +kernel
theorem dJ7_copyOf_9075b_20 : decode cJ7_copyOf_9075b 20 = .ok (.aload_n 2, 1) := by decide +kernel
theorem dJ7_copyOf_9075b_21 : decode cJ7_copyOf_9075b 21 = .ok (.iconst 0, 1) := by decide +kernel
theorem dJ7_copyOf_9075b_22 : decode cJ7_copyOf_9075b 22 = .ok (.aload_n 0, 1) := by decide +kernel
theorem dJ7_copyOf_9075b_23 : decode cJ7_copyOf_9075b 23 = .ok (.arraylength, 1) := by decide +kernel
theorem dJ7_copyOf_9075b_24 : decode cJ7_copyOf_9075b 24 = .ok (.iload_n 1, 1) := by decide +kernel
theorem dJ7_copyOf_9075b_25 : decode cJ7_copyOf_9075b 25 = .ok (.invokestatic 304, 3) := by decide +kernel
theorem dJ7_copyOf_9075b_28 : decode cJ7_copyOf_9075b 28 = .ok (.invokestatic 150, 3) := by decide +kernel
theorem dJ7_copyOf_9075b_31 : decode cJ7_copyOf_9075b 31 = .ok (.aload_n 2, 1) := by decide +kernel
theorem dJ7_copyOf_9075b_32 : decode cJ7_copyOf_9075b 32 = .ok (.areturn, 1) := by decide +kernel
theorem dJ7_checkLength_df160_0 : decode cJ7_checkLength_df160 0 = .ok (.iload_n 1, 1) := by decide +kernel
theorem dJ7_checkLength_df160_1 : decode cJ7_checkLength_df160 1 = .ok (.iload_n 0, 1) := by decide +kernel
theorem dJ7_checkLength_df160_2 : decode cJ7_checkLength_df160 2 = .ok (.if_icmp .ge 35, 3) := by decide +kernel
theorem dJ7_checkLength_df160_5 : decode cJ7_checkLength_df160 5 = .ok (.new 43, 3) := by decide +kernel
theorem dJ7_checkLength_df160_8 : decode cJ7_checkLength_df160 8 = .ok (.dup, 1) := by decide +kernel
theorem dJ7_checkLength_df160_9 : decode cJ7_checkLength_df160 9 = .ok (.new 45, 3) := by decide +kernel
theorem dJ7_checkLength_df160_12 : decode cJ7_checkLength_df160 12 = .ok (.dup, 1) := by decide +kernel
theorem dJ7_checkLength_df160_13 : decode cJ7_checkLength_df160 13 = .ok (.invokespecial 47, 3) := by decide +kernel
theorem dJ7_checkLength_df160_16 : decode cJ7_checkLength_df160 16 = .ok (.iload_n 0, 1) := by decide +kernel
theorem dJ7_checkLength_df160_17 : decode cJ7_checkLength_df160 17 = .ok (.invokevirtual 54, 3) := by decide +kernel
theorem dJ7_checkLength_df160_20 : decode cJ7_checkLength_df160 20 = .ok (.ldc_w 337, 3) := by decide +kernel
theorem dJ7_checkLength_df160_23 : decode cJ7_checkLength_df160 23 = .ok (.invokevirtual 50, 3) := by decide +kernel
theorem dJ7_checkLength_df160_26 : decode cJ7_checkLength_df160 26 = .ok (.iload_n 1, 1) := by decide +kernel
theorem dJ7_checkLength_df160_27 : decode cJ7_checkLength_df160 27 = .ok (.invokevirtual 54, 3) := by decide +kernel
theorem dJ7_checkLength_df160_30 : decode cJ7_checkLength_df160 30 = .ok (.invokevirtual 61, 3) := by decide +kernel
theorem dJ7_checkLength_df160_33 : decode cJ7_checkLength_df160 33 = .ok (.invokespecial 65, 3) := by decide +kernel
theorem dJ7_checkLength_df160_36 : decode cJ7_checkLength_df160 36 = .ok (.athrow, 1) := by decide +kernel
theorem dJ7_checkLength_df160_37 : decode cJ7_checkLength_df160 37 = .ok (.return_, 1) := by decide +kernel
theorem dJ7_copyOfRange_39247_0 : decode cJ7_copyOfRange_39247 0 = .ok (.iload_n 1, 1) := by decide +kernel
theorem dJ7_copyOfRange_39247_1 : decode cJ7_copyOfRange_39247 1 = .ok (.ifCond .ne 9, 3) := by decide +kernel
theorem dJ7_copyOfRange_39247_4 : decode cJ7_copyOfRange_39247 4 = .ok (.iload_n 2, 1) := by decide +kernel
theorem dJ7_copyOfRange_39247_5 : decode cJ7_copyOfRange_39247 5 = .ok (.aload_n 0, 1) := by decide +kernel
theorem dJ7_copyOfRange_39247_6 : decode cJ7_copyOfRange_39247 6 = .ok (.arraylength, 1) := by decide +kernel
theorem dJ7_copyOfRange_39247_7 : decode cJ7_copyOfRange_39247 7 = .ok (.if_icmp .eq 10, 3) := by decide +kernel
theorem dJ7_copyOfRange_39247_10 : decode cJ7_copyOfRange_39247 10 = .ok (.aload_n 0, 1) := by decide +kernel
theorem dJ7_copyOfRange_39247_11 : decode cJ7_copyOfRange_39247 11 = .ok (.iload_n 1, 1) := by decide +kernel
theorem dJ7_copyOfRange_39247_12 : decode cJ7_copyOfRange_39247 12 = .ok (.iload_n 2, 1) := by decide +kernel
theorem dJ7_copyOfRange_39247_13 : decode cJ7_copyOfRange_39247 13 = .ok (.invokestatic 339, 3) := by decide +kernel
theorem dJ7_copyOfRange_39247_16 : decode cJ7_copyOfRange_39247 16 = .ok (.areturn, 1) := by decide +kernel
theorem dJ7_copyOfRange_39247_17 : decode cJ7_copyOfRange_39247 17 = .ok (.aload_n 0, 1) := by decide +kernel
theorem dJ7_copyOfRange_39247_18 : decode cJ7_copyOfRange_39247 18 = .ok (.invokevirtual 310, 3) := by decide +kernel
theorem dJ7_copyOfRange_39247_21 : decode cJ7_copyOfRange_39247 21 = .ok (.checkcast 311, 3) := by decide +kernel
theorem dJ7_copyOfRange_39247_24 : decode cJ7_copyOfRange_39247 24 = .ok (.areturn, 1) := by decide +kernel
theorem dJ7_copyOfRangeByte_39247_0 : decode cJ7_copyOfRangeByte_39247 0 = .ok (.iload_n 1, 1) := by decide +kernel
theorem dJ7_copyOfRangeByte_39247_1 : decode cJ7_copyOfRangeByte_39247 1 = .ok (.iload_n 2, 1) := by decide +kernel
theorem dJ7_copyOfRangeByte_39247_2 : decode cJ7_copyOfRangeByte_39247 2 = .ok (.invokestatic 343, 3) := by decide +kernel
theorem dJ7_copyOfRangeByte_39247_5 : decode cJ7_copyOfRangeByte_39247 5 = .ok (.iload_n 2, 1) := by decide +kernel
theorem dJ7_copyOfRangeByte_39247_6 : decode cJ7_copyOfRangeByte_39247 6 = .ok (.iload_n 1, 1) := by decide +kernel
theorem dJ7_copyOfRangeByte_39247_7 : decode cJ7_copyOfRangeByte_39247 7 = .ok (.isub, 1) := by decide +kernel
theorem dJ7_copyOfRangeByte_39247_8 : decode cJ7_copyOfRangeByte_39247 8 = .ok (.istore_n 3, 1) := by decide +kernel
theorem dJ7_copyOfRangeByte_39247_9 : decode cJ7_copyOfRangeByte_39247 9 = .ok (.iload_n 3, 1) := by decide +kernel
theorem dJ7_copyOfRangeByte_39247_10 : decode cJ7_copyOfRangeByte_39247 10 = .ok (.newarray .byte, 2) := by decide +kernel
theorem dJ7_copyOfRangeByte_39247_12 : decode cJ7_copyOfRangeByte_39247 12 = .ok (.astore 4, 2) := by decide +kernel
theorem dJ7_copyOfRangeByte_39247_14 : decode cJ7_copyOfRangeByte_39247 14 = .ok (.aload_n 0, 1) := by decide +kernel
theorem dJ7_copyOfRangeByte_39247_15 : decode cJ7_copyOfRangeByte_39247 15 = .ok (.iload_n 1, 1) := by decide +kernel
theorem dJ7_copyOfRangeByte_39247_16 : decode cJ7_copyOfRangeByte_39247 16 = .ok (.aload 4, 2) := by decide +kernel
theorem dJ7_copyOfRangeByte_39247_18 : decode cJ7_copyOfRangeByte_39247 18 = .ok (.iconst 0, 1) := by decide +kernel
theorem dJ7_copyOfRangeByte_39247_19 : decode cJ7_copyOfRangeByte_39247 19 = .ok (.aload_n 0, 1) := by decide +kernel
theorem dJ7_copyOfRangeByte_39247_20 : decode cJ7_copyOfRangeByte_39247 20 = .ok (.arraylength, 1) := by decide +kernel
theorem dJ7_copyOfRangeByte_39247_21 : decode cJ7_copyOfRangeByte_39247 21 = .ok (.iload_n 1, 1) := by decide +kernel
theorem dJ7_copyOfRangeByte_39247_22 : decode cJ7_copyOfRangeByte_39247 22 = .ok (.isub, 1) := by decide +kernel
theorem dJ7_copyOfRangeByte_39247_23 : decode cJ7_copyOfRangeByte_39247 23 = .ok (.iload_n 3, 1) := by decide +kernel
theorem dJ7_copyOfRangeByte_39247_24 : decode cJ7_copyOfRangeByte_39247 24 = .ok (.invokestatic 304, 3) := by decide +kernel
theorem dJ7_copyOfRangeByte_39247_27 : decode cJ7_copyOfRangeByte_39247 27 = .ok (.invokestatic 150, 3) := by decide +kernel
theorem dJ7_copyOfRangeByte_39247_30 : decode cJ7_copyOfRangeByte_39247 30 = .ok (.aload 4, 2) := by decide +kernel
theorem dJ7_copyOfRangeByte_39247_32 : decode cJ7_copyOfRangeByte_39247 32 = .ok (.areturn, 1) := by decide +kernel
theorem dJ15_checkIndex_7cf53_0 : decode cJ15_checkIndex_7cf53 0 = .ok (.iload_n 0, 1) := by decide +kernel
theorem dJ15_checkIndex_7cf53_1 : decode cJ15_checkIndex_7cf53 1 = .ok (.iload_n 1, 1) := by decide +kernel
theorem dJ15_checkIndex_7cf53_2 : decode cJ15_checkIndex_7cf53 2 = .ok (.aconst_null, 1) := by decide +kernel
theorem dJ15_checkIndex_7cf53_3 : decode cJ15_checkIndex_7cf53 3 = .ok (.invokestatic 105, 3) := by decide +kernel
theorem dJ15_checkIndex_7cf53_6 : decode cJ15_checkIndex_7cf53 6 = .ok (.ireturn, 1) := by decide +kernel
theorem dJ8_newLength_cabcc_0 : decode cJ8_newLength_cabcc 0 = .ok (.iload_n 0, 1) := by decide +kernel
theorem dJ8_newLength_cabcc_1 : decode cJ8_newLength_cabcc 1 = .ok (.iload_n 1, 1) := by decide +kernel
theorem dJ8_newLength_cabcc_2 : decode cJ8_newLength_cabcc 2 = .ok (.iload_n 2, 1) := by decide +kernel
theorem dJ8_newLength_cabcc_3 : decode cJ8_newLength_cabcc 3 = .ok (.invokestatic 194, 3) := by decide +kernel
theorem dJ8_newLength_cabcc_6 : decode cJ8_newLength_cabcc 6 = .ok (.iadd, 1) := by decide +kernel
theorem dJ8_newLength_cabcc_7 : decode cJ8_newLength_cabcc 7 = .ok (.istore_n 3, 1) := by decide +kernel
theorem dJ8_newLength_cabcc_8 : decode cJ8_newLength_cabcc 8 = .ok (.iconst 0, 1) := by decide +kernel
theorem dJ8_newLength_cabcc_9 : decode cJ8_newLength_cabcc 9 = .ok (.iload_n 3, 1) := by decide +kernel
theorem dJ8_newLength_cabcc_10 : decode cJ8_newLength_cabcc 10 = .ok (.if_icmp .ge 11, 3) := by decide +kernel
theorem dJ8_newLength_cabcc_13 : decode cJ8_newLength_cabcc 13 = .ok (.iload_n 3, 1) := by decide +kernel
theorem dJ8_newLength_cabcc_14 : decode cJ8_newLength_cabcc 14 = .ok (.ldc 200, 2) := by decide +kernel
theorem dJ8_newLength_cabcc_16 : decode cJ8_newLength_cabcc 16 = .ok (.if_icmp .gt 5, 3) := by decide +kernel
theorem dJ8_newLength_cabcc_19 : decode cJ8_newLength_cabcc 19 = .ok (.iload_n 3, 1) := by decide +kernel
theorem dJ8_newLength_cabcc_20 : decode cJ8_newLength_cabcc 20 = .ok (.ireturn, 1) := by decide +kernel
theorem dJ8_newLength_cabcc_21 : decode cJ8_newLength_cabcc 21 = .ok (.iload_n 0, 1) := by decide +kernel
theorem dJ8_newLength_cabcc_22 : decode cJ8_newLength_cabcc 22 = .ok (.iload_n 1, 1) := by decide +kernel
theorem dJ8_newLength_cabcc_23 : decode cJ8_newLength_cabcc 23 = .ok (.invokestatic 201, 3) := by decide +kernel
theorem dJ8_newLength_cabcc_26 : decode cJ8_newLength_cabcc 26 = .ok (.ireturn, 1) := by decide +kernel
theorem dJ3_checkIndex_8e157_0 : decode cJ3_checkIndex_8e157 0 = .ok (.iload_n 0, 1) := by decide +kernel
theorem dJ3_checkIndex_8e157_1 : decode cJ3_checkIndex_8e157 1 = .ok (.ifCond .lt 8, 3) := by decide +kernel
theorem dJ3_checkIndex_8e157_4 : decode cJ3_checkIndex_8e157 4 = .ok (.iload_n 0, 1) := by decide +kernel
theorem dJ3_checkIndex_8e157_5 : decode cJ3_checkIndex_8e157 5 = .ok (.iload_n 1, 1) := by decide +kernel
theorem dJ3_checkIndex_8e157_6 : decode cJ3_checkIndex_8e157 6 = .ok (.if_icmp .lt 10, 3) := by decide +kernel
theorem dJ3_checkIndex_8e157_9 : decode cJ3_checkIndex_8e157 9 = .ok (.aload_n 2, 1) := by decide +kernel
theorem dJ3_checkIndex_8e157_10 : decode cJ3_checkIndex_8e157 10 = .ok (.iload_n 0, 1) := by decide +kernel
theorem dJ3_checkIndex_8e157_11 : decode cJ3_checkIndex_8e157 11 = .ok (.iload_n 1, 1) := by decide +kernel
theorem dJ3_checkIndex_8e157_12 : decode cJ3_checkIndex_8e157 12 = .ok (.invokestatic 95, 3) := by decide +kernel
theorem dJ3_checkIndex_8e157_15 : decode cJ3_checkIndex_8e157 15 = .ok (.athrow, 1) := by decide +kernel
theorem dJ3_checkIndex_8e157_16 : decode cJ3_checkIndex_8e157 16 = .ok (.iload_n 0, 1) := by decide +kernel
theorem dJ3_checkIndex_8e157_17 : decode cJ3_checkIndex_8e157 17 = .ok (.ireturn, 1) := by decide +kernel
theorem dL_cell_0 : decode cL_cell 0 = .ok (.iload_n 1, 1) := by decide +kernel
theorem dL_cell_1 : decode cL_cell 1 = .ok (.aload_n 0, 1) := by decide +kernel
theorem dL_cell_2 : decode cL_cell 2 = .ok (.arraylength, 1) := by decide +kernel
theorem dL_cell_3 : decode cL_cell 3 = .ok (.if_icmp .ge 9, 3) := by decide +kernel
theorem dL_cell_6 : decode cL_cell 6 = .ok (.aload_n 0, 1) := by decide +kernel
theorem dL_cell_7 : decode cL_cell 7 = .ok (.iload_n 1, 1) := by decide +kernel
theorem dL_cell_8 : decode cL_cell 8 = .ok (.iaload, 1) := by decide +kernel
theorem dL_cell_9 : decode cL_cell 9 = .ok (.goto 4, 3) := by decide +kernel
theorem dL_cell_12 : decode cL_cell 12 = .ok (.iconst 0, 1) := by decide +kernel
theorem dL_cell_13 : decode cL_cell 13 = .ok (.ireturn, 1) := by decide +kernel
end
section
theorem dL_mixed_0 : decode cL_mixed 0 = .ok (.iload_n 0, 1) := by decide +kernel
theorem dL_mixed_1 : decode cL_mixed 1 = .ok (.ldc 7, 2) := by decide +kernel
theorem dL_mixed_3 : decode cL_mixed 3 = .ok (.imul, 1) := by decide +kernel
theorem dL_mixed_4 : decode cL_mixed 4 = .ok (.sipush 12345, 3) := by decide +kernel
theorem dL_mixed_7 : decode cL_mixed 7 = .ok (.iadd, 1) := by decide +kernel
theorem dL_mixed_8 : decode cL_mixed 8 = .ok (.bipush 9, 2) := by decide +kernel
theorem dL_mixed_10 : decode cL_mixed 10 = .ok (.iushr, 1) := by decide +kernel
theorem dL_mixed_11 : decode cL_mixed 11 = .ok (.ireturn, 1) := by decide +kernel
theorem dL_draw_0 : decode cL_draw 0 = .ok (.aload_n 0, 1) := by decide +kernel
theorem dL_draw_1 : decode cL_draw 1 = .ok (.iconst 0, 1) := by decide +kernel
theorem dL_draw_2 : decode cL_draw 2 = .ok (.aload_n 0, 1) := by decide +kernel
theorem dL_draw_3 : decode cL_draw 3 = .ok (.iconst 0, 1) := by decide +kernel
theorem dL_draw_4 : decode cL_draw 4 = .ok (.iaload, 1) := by decide +kernel
theorem dL_draw_5 : decode cL_draw 5 = .ok (.bipush 77, 2) := by decide +kernel
theorem dL_draw_7 : decode cL_draw 7 = .ok (.iadd, 1) := by decide +kernel
theorem dL_draw_8 : decode cL_draw 8 = .ok (.invokestatic 8, 3) := by decide +kernel
theorem dL_draw_11 : decode cL_draw 11 = .ok (.iastore, 1) := by decide +kernel
theorem dL_draw_12 : decode cL_draw 12 = .ok (.aload_n 0, 1) := by decide +kernel
theorem dL_draw_13 : decode cL_draw 13 = .ok (.iconst 0, 1) := by decide +kernel
theorem dL_draw_14 : decode cL_draw 14 = .ok (.iaload, 1) := by decide +kernel
theorem dL_draw_15 : decode cL_draw 15 = .ok (.iconst 3, 1) := by decide +kernel
theorem dL_draw_16 : decode cL_draw 16 = .ok (.iushr, 1) := by decide +kernel
theorem dL_draw_17 : decode cL_draw 17 = .ok (.iload_n 1, 1) := by decide +kernel
theorem dL_draw_18 : decode cL_draw 18 = .ok (.irem, 1) := by decide +kernel
theorem dL_draw_19 : decode cL_draw 19 = .ok (.ireturn, 1) := by decide +kernel
theorem dL_fill_0 : decode cL_fill 0 = .ok (.iconst 5, 1) := by decide +kernel
theorem dL_fill_1 : decode cL_fill 1 = .ok (.newarray .int, 2) := by decide +kernel
theorem dL_fill_3 : decode cL_fill 3 = .ok (.astore_n 2, 1) := by decide +kernel
theorem dL_fill_4 : decode cL_fill 4 = .ok (.iconst 0, 1) := by decide +kernel
theorem dL_fill_5 : decode cL_fill 5 = .ok (.istore_n 3, 1) := by decide +kernel
theorem dL_fill_6 : decode cL_fill 6 = .ok (.iload_n 3, 1) := by decide +kernel
theorem dL_fill_7 : decode cL_fill 7 = .ok (.aload_n 1, 1) := by decide +kernel
theorem dL_fill_8 : decode cL_fill 8 = .ok (.invokevirtual 14, 3) := by decide +kernel
theorem dL_fill_11 : decode cL_fill 11 = .ok (.if_icmp .ge 88, 3) := by decide +kernel
theorem dL_fill_14 : decode cL_fill 14 = .ok (.iconst 0, 1) := by decide +kernel
theorem dL_fill_15 : decode cL_fill 15 = .ok (.istore 4, 2) := by decide +kernel
theorem dL_fill_17 : decode cL_fill 17 = .ok (.iload 4, 2) := by decide +kernel
theorem dL_fill_19 : decode cL_fill 19 = .ok (.bipush 20, 2) := by decide +kernel
theorem dL_fill_21 : decode cL_fill 21 = .ok (.if_icmp .ge 52, 3) := by decide +kernel
theorem dL_fill_24 : decode cL_fill 24 = .ok (.aload_n 2, 1) := by decide +kernel
theorem dL_fill_25 : decode cL_fill 25 = .ok (.iload 4, 2) := by decide +kernel
theorem dL_fill_27 : decode cL_fill 27 = .ok (.iconst 4, 1) := by decide +kernel
theorem dL_fill_28 : decode cL_fill 28 = .ok (.idiv, 1) := by decide +kernel
theorem dL_fill_29 : decode cL_fill 29 = .ok (.aload_n 2, 1) := by decide +kernel
theorem dL_fill_30 : decode cL_fill 30 = .ok (.iload 4, 2) := by decide +kernel
theorem dL_fill_32 : decode cL_fill 32 = .ok (.iconst 4, 1) := by decide +kernel
theorem dL_fill_33 : decode cL_fill 33 = .ok (.idiv, 1) := by decide +kernel
theorem dL_fill_34 : decode cL_fill 34 = .ok (.iaload, 1) := by decide +kernel
theorem dL_fill_35 : decode cL_fill 35 = .ok (.bipush 8, 2) := by decide +kernel
theorem dL_fill_37 : decode cL_fill 37 = .ok (.ishl, 1) := by decide +kernel
theorem dL_fill_38 : decode cL_fill 38 = .ok (.iload_n 3, 1) := by decide +kernel
theorem dL_fill_39 : decode cL_fill 39 = .ok (.iload 4, 2) := by decide +kernel
theorem dL_fill_41 : decode cL_fill 41 = .ok (.iadd, 1) := by decide +kernel
theorem dL_fill_42 : decode cL_fill 42 = .ok (.aload_n 1, 1) := by decide +kernel
theorem dL_fill_43 : decode cL_fill 43 = .ok (.invokevirtual 14, 3) := by decide +kernel
theorem dL_fill_46 : decode cL_fill 46 = .ok (.if_icmp .ge 18, 3) := by decide +kernel
theorem dL_fill_49 : decode cL_fill 49 = .ok (.aload_n 1, 1) := by decide +kernel
theorem dL_fill_50 : decode cL_fill 50 = .ok (.iload_n 3, 1) := by decide +kernel
theorem dL_fill_51 : decode cL_fill 51 = .ok (.iload 4, 2) := by decide +kernel
theorem dL_fill_53 : decode cL_fill 53 = .ok (.iadd, 1) := by decide +kernel
theorem dL_fill_54 : decode cL_fill 54 = .ok (.invokevirtual 20, 3) := by decide +kernel
theorem dL_fill_57 : decode cL_fill 57 = .ok (.sipush 255, 3) := by decide +kernel
theorem dL_fill_60 : decode cL_fill 60 = .ok (.iand, 1) := by decide +kernel
theorem dL_fill_61 : decode cL_fill 61 = .ok (.goto 4, 3) := by decide +kernel
theorem dL_fill_64 : decode cL_fill 64 = .ok (.iconst 0, 1) := by decide +kernel
theorem dL_fill_65 : decode cL_fill 65 = .ok (.ior, 1) := by decide +kernel
theorem dL_fill_66 : decode cL_fill 66 = .ok (.iastore, 1) := by decide +kernel
theorem dL_fill_67 : decode cL_fill 67 = .ok (.iinc 4 1, 3) := by decide +kernel
theorem dL_fill_70 : decode cL_fill 70 = .ok (.goto (-53), 3) := by decide +kernel
theorem dL_fill_73 : decode cL_fill 73 = .ok (.aload_n 0, 1) := by decide +kernel
theorem dL_fill_74 : decode cL_fill 74 = .ok (.aload_n 2, 1) := by decide +kernel
theorem dL_fill_75 : decode cL_fill 75 = .ok (.iconst 0, 1) := by decide +kernel
theorem dL_fill_76 : decode cL_fill 76 = .ok (.iaload, 1) := by decide +kernel
theorem dL_fill_77 : decode cL_fill 77 = .ok (.aload_n 2, 1) := by decide +kernel
theorem dL_fill_78 : decode cL_fill 78 = .ok (.iconst 1, 1) := by decide +kernel
theorem dL_fill_79 : decode cL_fill 79 = .ok (.iaload, 1) := by decide +kernel
theorem dL_fill_80 : decode cL_fill 80 = .ok (.aload_n 2, 1) := by decide +kernel
theorem dL_fill_81 : decode cL_fill 81 = .ok (.iconst 2, 1) := by decide +kernel
theorem dL_fill_82 : decode cL_fill 82 = .ok (.iaload, 1) := by decide +kernel
theorem dL_fill_83 : decode cL_fill 83 = .ok (.aload_n 2, 1) := by decide +kernel
theorem dL_fill_84 : decode cL_fill 84 = .ok (.iconst 3, 1) := by decide +kernel
theorem dL_fill_85 : decode cL_fill 85 = .ok (.iaload, 1) := by decide +kernel
theorem dL_fill_86 : decode cL_fill 86 = .ok (.aload_n 2, 1) := by decide +kernel
theorem dL_fill_87 : decode cL_fill 87 = .ok (.iconst 4, 1) := by decide +kernel
theorem dL_fill_88 : decode cL_fill 88 = .ok (.iaload, 1) := by decide +kernel
theorem dL_fill_89 : decode cL_fill 89 = .ok (.invokevirtual 24, 3) := by decide +kernel
theorem dL_fill_92 : decode cL_fill 92 = .ok (.pop, 1) := by decide +kernel
theorem dL_fill_93 : decode cL_fill 93 = .ok (.iinc 3 20, 3) := by decide +kernel
theorem dL_fill_96 : decode cL_fill 96 = .ok (.goto (-90), 3) := by decide +kernel
theorem dL_fill_99 : decode cL_fill 99 = .ok (.aload_n 0, 1) := by decide +kernel
theorem dL_fill_100 : decode cL_fill 100 = .ok (.aload_n 1, 1) := by decide +kernel
theorem dL_fill_101 : decode cL_fill 101 = .ok (.invokevirtual 14, 3) := by decide +kernel
theorem dL_fill_104 : decode cL_fill 104 = .ok (.invokevirtual 30, 3) := by decide +kernel
theorem dL_fill_107 : decode cL_fill 107 = .ok (.aload_n 1, 1) := by decide +kernel
theorem dL_fill_108 : decode cL_fill 108 = .ok (.invokevirtual 14, 3) := by decide +kernel
theorem dL_fill_111 : decode cL_fill 111 = .ok (.if_icmp .ne 7, 3) := by decide +kernel
theorem dL_fill_114 : decode cL_fill 114 = .ok (.iconst 1, 1) := by decide +kernel
theorem dL_fill_115 : decode cL_fill 115 = .ok (.goto 4, 3) := by decide +kernel
theorem dL_fill_118 : decode cL_fill 118 = .ok (.iconst 0, 1) := by decide +kernel
theorem dL_fill_119 : decode cL_fill 119 = .ok (.ireturn, 1) := by decide +kernel
theorem dL_stands_0 : decode cL_stands 0 = .ok (.aload_n 0, 1) := by decide +kernel
theorem dL_stands_1 : decode cL_stands 1 = .ok (.aload_n 1, 1) := by decide +kernel
theorem dL_stands_2 : decode cL_stands 2 = .ok (.invokevirtual 33, 3) := by decide +kernel
theorem dL_stands_5 : decode cL_stands 5 = .ok (.invokestatic 39, 3) := by decide +kernel
theorem dL_stands_8 : decode cL_stands 8 = .ok (.ifCond .eq 34, 3) := by decide +kernel
theorem dL_stands_11 : decode cL_stands 11 = .ok (.aload_n 0, 1) := by decide +kernel
theorem dL_stands_12 : decode cL_stands 12 = .ok (.invokevirtual 43, 3) := by decide +kernel
theorem dL_stands_15 : decode cL_stands 15 = .ok (.aload_n 1, 1) := by decide +kernel
theorem dL_stands_16 : decode cL_stands 16 = .ok (.getfield 46, 3) := by decide +kernel
theorem dL_stands_19 : decode cL_stands 19 = .ok (.if_icmp .ne 23, 3) := by decide +kernel
theorem dL_stands_22 : decode cL_stands 22 = .ok (.aload_n 0, 1) := by decide +kernel
theorem dL_stands_23 : decode cL_stands 23 = .ok (.invokevirtual 50, 3) := by decide +kernel
theorem dL_stands_26 : decode cL_stands 26 = .ok (.ifCond .ne 16, 3) := by decide +kernel
theorem dL_stands_29 : decode cL_stands 29 = .ok (.aload_n 0, 1) := by decide +kernel
theorem dL_stands_30 : decode cL_stands 30 = .ok (.invokevirtual 53, 3) := by decide +kernel
theorem dL_stands_33 : decode cL_stands 33 = .ok (.bipush (-2), 2) := by decide +kernel
theorem dL_stands_35 : decode cL_stands 35 = .ok (.if_icmp .ne 7, 3) := by decide +kernel
theorem dL_stands_38 : decode cL_stands 38 = .ok (.iconst 1, 1) := by decide +kernel
theorem dL_stands_39 : decode cL_stands 39 = .ok (.goto 4, 3) := by decide +kernel
theorem dL_stands_42 : decode cL_stands 42 = .ok (.iconst 0, 1) := by decide +kernel
theorem dL_stands_43 : decode cL_stands 43 = .ok (.ireturn, 1) := by decide +kernel
theorem dL_same_0 : decode cL_same 0 = .ok (.aload_n 0, 1) := by decide +kernel
theorem dL_same_1 : decode cL_same 1 = .ok (.invokevirtual 56, 3) := by decide +kernel
theorem dL_same_4 : decode cL_same 4 = .ok (.aload_n 1, 1) := by decide +kernel
theorem dL_same_5 : decode cL_same 5 = .ok (.getfield 59, 3) := by decide +kernel
theorem dL_same_8 : decode cL_same 8 = .ok (.if_icmp .ne 18, 3) := by decide +kernel
theorem dL_same_11 : decode cL_same 11 = .ok (.aload_n 0, 1) := by decide +kernel
theorem dL_same_12 : decode cL_same 12 = .ok (.invokevirtual 61, 3) := by decide +kernel
theorem dL_same_15 : decode cL_same 15 = .ok (.aload_n 1, 1) := by decide +kernel
theorem dL_same_16 : decode cL_same 16 = .ok (.invokevirtual 64, 3) := by decide +kernel
theorem dL_same_19 : decode cL_same 19 = .ok (.if_icmp .ne 7, 3) := by decide +kernel
theorem dL_same_22 : decode cL_same 22 = .ok (.iconst 1, 1) := by decide +kernel
theorem dL_same_23 : decode cL_same 23 = .ok (.goto 4, 3) := by decide +kernel
theorem dL_same_26 : decode cL_same 26 = .ok (.iconst 0, 1) := by decide +kernel
theorem dL_same_27 : decode cL_same 27 = .ok (.istore_n 2, 1) := by decide +kernel
theorem dL_same_28 : decode cL_same 28 = .ok (.iconst 0, 1) := by decide +kernel
theorem dL_same_29 : decode cL_same 29 = .ok (.istore_n 3, 1) := by decide +kernel
theorem dL_same_30 : decode cL_same 30 = .ok (.iload_n 3, 1) := by decide +kernel
theorem dL_same_31 : decode cL_same 31 = .ok (.aload_n 1, 1) := by decide +kernel
theorem dL_same_32 : decode cL_same 32 = .ok (.getfield 46, 3) := by decide +kernel
theorem dL_same_35 : decode cL_same 35 = .ok (.if_icmp .ge 218, 3) := by decide +kernel
theorem dL_same_38 : decode cL_same 38 = .ok (.iload_n 2, 1) := by decide +kernel
theorem dL_same_39 : decode cL_same 39 = .ok (.ifCond .eq 214, 3) := by decide +kernel
theorem dL_same_42 : decode cL_same 42 = .ok (.aload_n 0, 1) := by decide +kernel
theorem dL_same_43 : decode cL_same 43 = .ok (.iload_n 3, 1) := by decide +kernel
theorem dL_same_44 : decode cL_same 44 = .ok (.invokevirtual 67, 3) := by decide +kernel
theorem dL_same_47 : decode cL_same 47 = .ok (.aload_n 1, 1) := by decide +kernel
theorem dL_same_48 : decode cL_same 48 = .ok (.getfield 70, 3) := by decide +kernel
theorem dL_same_51 : decode cL_same 51 = .ok (.iload_n 3, 1) := by decide +kernel
theorem dL_same_52 : decode cL_same 52 = .ok (.iaload, 1) := by decide +kernel
theorem dL_same_53 : decode cL_same 53 = .ok (.if_icmp .ne 49, 3) := by decide +kernel
theorem dL_same_56 : decode cL_same 56 = .ok (.aload_n 0, 1) := by decide +kernel
theorem dL_same_57 : decode cL_same 57 = .ok (.iload_n 3, 1) := by decide +kernel
theorem dL_same_58 : decode cL_same 58 = .ok (.invokevirtual 73, 3) := by decide +kernel
theorem dL_same_61 : decode cL_same 61 = .ok (.aload_n 1, 1) := by decide +kernel
theorem dL_same_62 : decode cL_same 62 = .ok (.getfield 76, 3) := by decide +kernel
theorem dL_same_65 : decode cL_same 65 = .ok (.iload_n 3, 1) := by decide +kernel
theorem dL_same_66 : decode cL_same 66 = .ok (.iaload, 1) := by decide +kernel
theorem dL_same_67 : decode cL_same 67 = .ok (.if_icmp .ne 35, 3) := by decide +kernel
theorem dL_same_70 : decode cL_same 70 = .ok (.aload_n 0, 1) := by decide +kernel
theorem dL_same_71 : decode cL_same 71 = .ok (.iload_n 3, 1) := by decide +kernel
theorem dL_same_72 : decode cL_same 72 = .ok (.invokevirtual 78, 3) := by decide +kernel
theorem dL_same_75 : decode cL_same 75 = .ok (.aload_n 1, 1) := by decide +kernel
theorem dL_same_76 : decode cL_same 76 = .ok (.getfield 81, 3) := by decide +kernel
theorem dL_same_79 : decode cL_same 79 = .ok (.iload_n 3, 1) := by decide +kernel
theorem dL_same_80 : decode cL_same 80 = .ok (.iaload, 1) := by decide +kernel
theorem dL_same_81 : decode cL_same 81 = .ok (.if_icmp .ne 21, 3) := by decide +kernel
theorem dL_same_84 : decode cL_same 84 = .ok (.aload_n 0, 1) := by decide +kernel
theorem dL_same_85 : decode cL_same 85 = .ok (.iload_n 3, 1) := by decide +kernel
theorem dL_same_86 : decode cL_same 86 = .ok (.invokevirtual 84, 3) := by decide +kernel
theorem dL_same_89 : decode cL_same 89 = .ok (.aload_n 1, 1) := by decide +kernel
theorem dL_same_90 : decode cL_same 90 = .ok (.getfield 87, 3) := by decide +kernel
theorem dL_same_93 : decode cL_same 93 = .ok (.iload_n 3, 1) := by decide +kernel
theorem dL_same_94 : decode cL_same 94 = .ok (.iaload, 1) := by decide +kernel
theorem dL_same_95 : decode cL_same 95 = .ok (.if_icmp .ne 7, 3) := by decide +kernel
theorem dL_same_98 : decode cL_same 98 = .ok (.iconst 1, 1) := by decide +kernel
theorem dL_same_99 : decode cL_same 99 = .ok (.goto 4, 3) := by decide +kernel
theorem dL_same_102 : decode cL_same 102 = .ok (.iconst 0, 1) := by decide +kernel
theorem dL_same_103 : decode cL_same 103 = .ok (.istore_n 2, 1) := by decide +kernel
theorem dL_same_104 : decode cL_same 104 = .ok (.aload_n 1, 1) := by decide +kernel
theorem dL_same_105 : decode cL_same 105 = .ok (.iload_n 3, 1) := by decide +kernel
theorem dL_same_106 : decode cL_same 106 = .ok (.invokevirtual 90, 3) := by decide +kernel
theorem dL_same_109 : decode cL_same 109 = .ok (.ifCond .ne 42, 3) := by decide +kernel
theorem dL_same_112 : decode cL_same 112 = .ok (.iload_n 2, 1) := by decide +kernel
theorem dL_same_113 : decode cL_same 113 = .ok (.ifCond .eq 33, 3) := by decide +kernel
theorem dL_same_116 : decode cL_same 116 = .ok (.aload_n 0, 1) := by decide +kernel
theorem dL_same_117 : decode cL_same 117 = .ok (.iload_n 3, 1) := by decide +kernel
theorem dL_same_118 : decode cL_same 118 = .ok (.invokevirtual 94, 3) := by decide +kernel
theorem dL_same_121 : decode cL_same 121 = .ok (.iconst (-1), 1) := by decide +kernel
theorem dL_same_122 : decode cL_same 122 = .ok (.if_icmp .ne 24, 3) := by decide +kernel
theorem dL_same_125 : decode cL_same 125 = .ok (.aload_n 0, 1) := by decide +kernel
theorem dL_same_126 : decode cL_same 126 = .ok (.iload_n 3, 1) := by decide +kernel
theorem dL_same_127 : decode cL_same 127 = .ok (.invokevirtual 97, 3) := by decide +kernel
theorem dL_same_130 : decode cL_same 130 = .ok (.iconst (-1), 1) := by decide +kernel
theorem dL_same_131 : decode cL_same 131 = .ok (.if_icmp .ne 15, 3) := by decide +kernel
theorem dL_same_134 : decode cL_same 134 = .ok (.aload_n 0, 1) := by decide +kernel
theorem dL_same_135 : decode cL_same 135 = .ok (.iload_n 3, 1) := by decide +kernel
theorem dL_same_136 : decode cL_same 136 = .ok (.invokevirtual 100, 3) := by decide +kernel
theorem dL_same_139 : decode cL_same 139 = .ok (.ifCond .ne 7, 3) := by decide +kernel
theorem dL_same_142 : decode cL_same 142 = .ok (.iconst 1, 1) := by decide +kernel
theorem dL_same_143 : decode cL_same 143 = .ok (.goto 4, 3) := by decide +kernel
theorem dL_same_146 : decode cL_same 146 = .ok (.iconst 0, 1) := by decide +kernel
theorem dL_same_147 : decode cL_same 147 = .ok (.istore_n 2, 1) := by decide +kernel
theorem dL_same_148 : decode cL_same 148 = .ok (.goto 99, 3) := by decide +kernel
theorem dL_same_151 : decode cL_same 151 = .ok (.iload_n 2, 1) := by decide +kernel
theorem dL_same_152 : decode cL_same 152 = .ok (.ifCond .eq 93, 3) := by decide +kernel
theorem dL_same_155 : decode cL_same 155 = .ok (.aload_n 0, 1) := by decide +kernel
theorem dL_same_156 : decode cL_same 156 = .ok (.iload_n 3, 1) := by decide +kernel
theorem dL_same_157 : decode cL_same 157 = .ok (.invokevirtual 94, 3) := by decide +kernel
theorem dL_same_160 : decode cL_same 160 = .ok (.aload_n 1, 1) := by decide +kernel
theorem dL_same_161 : decode cL_same 161 = .ok (.getfield 101, 3) := by decide +kernel
theorem dL_same_164 : decode cL_same 164 = .ok (.iload_n 3, 1) := by decide +kernel
theorem dL_same_165 : decode cL_same 165 = .ok (.iaload, 1) := by decide +kernel
theorem dL_same_166 : decode cL_same 166 = .ok (.if_icmp .ne 79, 3) := by decide +kernel
theorem dL_same_169 : decode cL_same 169 = .ok (.aload_n 0, 1) := by decide +kernel
theorem dL_same_170 : decode cL_same 170 = .ok (.iload_n 3, 1) := by decide +kernel
theorem dL_same_171 : decode cL_same 171 = .ok (.invokevirtual 104, 3) := by decide +kernel
theorem dL_same_174 : decode cL_same 174 = .ok (.aload_n 1, 1) := by decide +kernel
theorem dL_same_175 : decode cL_same 175 = .ok (.getfield 107, 3) := by decide +kernel
theorem dL_same_178 : decode cL_same 178 = .ok (.iload_n 3, 1) := by decide +kernel
theorem dL_same_179 : decode cL_same 179 = .ok (.iaload, 1) := by decide +kernel
theorem dL_same_180 : decode cL_same 180 = .ok (.if_icmp .ne 65, 3) := by decide +kernel
theorem dL_same_183 : decode cL_same 183 = .ok (.aload_n 0, 1) := by decide +kernel
theorem dL_same_184 : decode cL_same 184 = .ok (.iload_n 3, 1) := by decide +kernel
theorem dL_same_185 : decode cL_same 185 = .ok (.invokevirtual 110, 3) := by decide +kernel
theorem dL_same_188 : decode cL_same 188 = .ok (.aload_n 1, 1) := by decide +kernel
theorem dL_same_189 : decode cL_same 189 = .ok (.getfield 113, 3) := by decide +kernel
theorem dL_same_192 : decode cL_same 192 = .ok (.iload_n 3, 1) := by decide +kernel
theorem dL_same_193 : decode cL_same 193 = .ok (.iaload, 1) := by decide +kernel
theorem dL_same_194 : decode cL_same 194 = .ok (.if_icmp .ne 51, 3) := by decide +kernel
theorem dL_same_197 : decode cL_same 197 = .ok (.aload_n 0, 1) := by decide +kernel
theorem dL_same_198 : decode cL_same 198 = .ok (.iload_n 3, 1) := by decide +kernel
theorem dL_same_199 : decode cL_same 199 = .ok (.invokevirtual 116, 3) := by decide +kernel
theorem dL_same_202 : decode cL_same 202 = .ok (.aload_n 1, 1) := by decide +kernel
theorem dL_same_203 : decode cL_same 203 = .ok (.getfield 119, 3) := by decide +kernel
theorem dL_same_206 : decode cL_same 206 = .ok (.iload_n 3, 1) := by decide +kernel
theorem dL_same_207 : decode cL_same 207 = .ok (.iaload, 1) := by decide +kernel
theorem dL_same_208 : decode cL_same 208 = .ok (.if_icmp .ne 37, 3) := by decide +kernel
theorem dL_same_211 : decode cL_same 211 = .ok (.aload_n 0, 1) := by decide +kernel
theorem dL_same_212 : decode cL_same 212 = .ok (.iload_n 3, 1) := by decide +kernel
theorem dL_same_213 : decode cL_same 213 = .ok (.invokevirtual 97, 3) := by decide +kernel
theorem dL_same_216 : decode cL_same 216 = .ok (.aload_n 1, 1) := by decide +kernel
theorem dL_same_217 : decode cL_same 217 = .ok (.getfield 122, 3) := by decide +kernel
theorem dL_same_220 : decode cL_same 220 = .ok (.iload_n 3, 1) := by decide +kernel
theorem dL_same_221 : decode cL_same 221 = .ok (.invokevirtual 126, 3) := by decide +kernel
theorem dL_same_224 : decode cL_same 224 = .ok (.checkcast 127, 3) := by decide +kernel
theorem dL_same_227 : decode cL_same 227 = .ok (.invokevirtual 132, 3) := by decide +kernel
theorem dL_same_230 : decode cL_same 230 = .ok (.if_icmp .ne 15, 3) := by decide +kernel
theorem dL_same_233 : decode cL_same 233 = .ok (.aload_n 0, 1) := by decide +kernel
theorem dL_same_234 : decode cL_same 234 = .ok (.iload_n 3, 1) := by decide +kernel
theorem dL_same_235 : decode cL_same 235 = .ok (.invokevirtual 100, 3) := by decide +kernel
theorem dL_same_238 : decode cL_same 238 = .ok (.ifCond .eq 7, 3) := by decide +kernel
theorem dL_same_241 : decode cL_same 241 = .ok (.iconst 1, 1) := by decide +kernel
theorem dL_same_242 : decode cL_same 242 = .ok (.goto 4, 3) := by decide +kernel
theorem dL_same_245 : decode cL_same 245 = .ok (.iconst 0, 1) := by decide +kernel
theorem dL_same_246 : decode cL_same 246 = .ok (.istore_n 2, 1) := by decide +kernel
theorem dL_same_247 : decode cL_same 247 = .ok (.iinc 3 1, 3) := by decide +kernel
theorem dL_same_250 : decode cL_same 250 = .ok (.goto (-220), 3) := by decide +kernel
theorem dL_same_253 : decode cL_same 253 = .ok (.iload_n 2, 1) := by decide +kernel
theorem dL_same_254 : decode cL_same 254 = .ok (.ireturn, 1) := by decide +kernel
theorem dL_law_0 : decode cL_law 0 = .ok (.new 25, 3) := by decide +kernel
theorem dL_law_3 : decode cL_law 3 = .ok (.dup, 1) := by decide +kernel
theorem dL_law_4 : decode cL_law 4 = .ok (.invokespecial 135, 3) := by decide +kernel
theorem dL_law_7 : decode cL_law 7 = .ok (.astore_n 1, 1) := by decide +kernel
theorem dL_law_8 : decode cL_law 8 = .ok (.aload_n 1, 1) := by decide +kernel
theorem dL_law_9 : decode cL_law 9 = .ok (.invokevirtual 136, 3) := by decide +kernel
theorem dL_law_12 : decode cL_law 12 = .ok (.ifCond .ne 96, 3) := by decide +kernel
theorem dL_law_15 : decode cL_law 15 = .ok (.aload_n 1, 1) := by decide +kernel
theorem dL_law_16 : decode cL_law 16 = .ok (.invokevirtual 56, 3) := by decide +kernel
theorem dL_law_19 : decode cL_law 19 = .ok (.ifCond .ne 89, 3) := by decide +kernel
theorem dL_law_22 : decode cL_law 22 = .ok (.aload_n 1, 1) := by decide +kernel
theorem dL_law_23 : decode cL_law 23 = .ok (.iconst 0, 1) := by decide +kernel
theorem dL_law_24 : decode cL_law 24 = .ok (.invokevirtual 67, 3) := by decide +kernel
theorem dL_law_27 : decode cL_law 27 = .ok (.iconst (-1), 1) := by decide +kernel
theorem dL_law_28 : decode cL_law 28 = .ok (.if_icmp .ne 80, 3) := by decide +kernel
theorem dL_law_31 : decode cL_law 31 = .ok (.aload_n 1, 1) := by decide +kernel
theorem dL_law_32 : decode cL_law 32 = .ok (.iconst 0, 1) := by decide +kernel
theorem dL_law_33 : decode cL_law 33 = .ok (.iconst 1, 1) := by decide +kernel
theorem dL_law_34 : decode cL_law 34 = .ok (.invokevirtual 139, 3) := by decide +kernel
theorem dL_law_37 : decode cL_law 37 = .ok (.iconst (-1), 1) := by decide +kernel
theorem dL_law_38 : decode cL_law 38 = .ok (.if_icmp .ne 70, 3) := by decide +kernel
theorem dL_law_41 : decode cL_law 41 = .ok (.aload_n 1, 1) := by decide +kernel
theorem dL_law_42 : decode cL_law 42 = .ok (.iconst 0, 1) := by decide +kernel
theorem dL_law_43 : decode cL_law 43 = .ok (.iconst 1, 1) := by decide +kernel
theorem dL_law_44 : decode cL_law 44 = .ok (.invokevirtual 143, 3) := by decide +kernel
theorem dL_law_47 : decode cL_law 47 = .ok (.iconst (-1), 1) := by decide +kernel
theorem dL_law_48 : decode cL_law 48 = .ok (.if_icmp .ne 60, 3) := by decide +kernel
theorem dL_law_51 : decode cL_law 51 = .ok (.aload_n 1, 1) := by decide +kernel
theorem dL_law_52 : decode cL_law 52 = .ok (.iconst 1, 1) := by decide +kernel
theorem dL_law_53 : decode cL_law 53 = .ok (.invokevirtual 146, 3) := by decide +kernel
theorem dL_law_56 : decode cL_law 56 = .ok (.iconst (-1), 1) := by decide +kernel
theorem dL_law_57 : decode cL_law 57 = .ok (.if_icmp .ne 51, 3) := by decide +kernel
theorem dL_law_60 : decode cL_law 60 = .ok (.aload_n 1, 1) := by decide +kernel
theorem dL_law_61 : decode cL_law 61 = .ok (.invokevirtual 61, 3) := by decide +kernel
theorem dL_law_64 : decode cL_law 64 = .ok (.bipush (-2), 2) := by decide +kernel
theorem dL_law_66 : decode cL_law 66 = .ok (.if_icmp .ne 42, 3) := by decide +kernel
theorem dL_law_69 : decode cL_law 69 = .ok (.aload_n 1, 1) := by decide +kernel
theorem dL_law_70 : decode cL_law 70 = .ok (.invokevirtual 149, 3) := by decide +kernel
theorem dL_law_73 : decode cL_law 73 = .ok (.bipush (-2), 2) := by decide +kernel
theorem dL_law_75 : decode cL_law 75 = .ok (.if_icmp .ne 33, 3) := by decide +kernel
theorem dL_law_78 : decode cL_law 78 = .ok (.aload_n 1, 1) := by decide +kernel
theorem dL_law_79 : decode cL_law 79 = .ok (.invokevirtual 152, 3) := by decide +kernel
theorem dL_law_82 : decode cL_law 82 = .ok (.iconst (-1), 1) := by decide +kernel
theorem dL_law_83 : decode cL_law 83 = .ok (.if_icmp .ne 25, 3) := by decide +kernel
theorem dL_law_86 : decode cL_law 86 = .ok (.aload_n 1, 1) := by decide +kernel
theorem dL_law_87 : decode cL_law 87 = .ok (.iconst 0, 1) := by decide +kernel
theorem dL_law_88 : decode cL_law 88 = .ok (.invokevirtual 100, 3) := by decide +kernel
theorem dL_law_91 : decode cL_law 91 = .ok (.ifCond .ne 17, 3) := by decide +kernel
theorem dL_law_94 : decode cL_law 94 = .ok (.aload_n 1, 1) := by decide +kernel
theorem dL_law_95 : decode cL_law 95 = .ok (.iconst 0, 1) := by decide +kernel
theorem dL_law_96 : decode cL_law 96 = .ok (.iconst 1, 1) := by decide +kernel
theorem dL_law_97 : decode cL_law 97 = .ok (.invokevirtual 155, 3) := by decide +kernel
theorem dL_law_100 : decode cL_law 100 = .ok (.iconst (-1), 1) := by decide +kernel
theorem dL_law_101 : decode cL_law 101 = .ok (.if_icmp .ne 7, 3) := by decide +kernel
theorem dL_law_104 : decode cL_law 104 = .ok (.iconst 1, 1) := by decide +kernel
theorem dL_law_105 : decode cL_law 105 = .ok (.goto 4, 3) := by decide +kernel
theorem dL_law_108 : decode cL_law 108 = .ok (.iconst 0, 1) := by decide +kernel
theorem dL_law_109 : decode cL_law 109 = .ok (.istore_n 2, 1) := by decide +kernel
theorem dL_law_110 : decode cL_law 110 = .ok (.iconst 0, 1) := by decide +kernel
theorem dL_law_111 : decode cL_law 111 = .ok (.istore_n 3, 1) := by decide +kernel
theorem dL_law_112 : decode cL_law 112 = .ok (.iload_n 3, 1) := by decide +kernel
theorem dL_law_113 : decode cL_law 113 = .ok (.iconst 5, 1) := by decide +kernel
theorem dL_law_114 : decode cL_law 114 = .ok (.if_icmp .ge 315, 3) := by decide +kernel
theorem dL_law_117 : decode cL_law 117 = .ok (.iload_n 2, 1) := by decide +kernel
theorem dL_law_118 : decode cL_law 118 = .ok (.ifCond .eq 311, 3) := by decide +kernel
theorem dL_law_121 : decode cL_law 121 = .ok (.iconst 1, 1) := by decide +kernel
theorem dL_law_122 : decode cL_law 122 = .ok (.newarray .int, 2) := by decide +kernel
theorem dL_law_124 : decode cL_law 124 = .ok (.dup, 1) := by decide +kernel
theorem dL_law_125 : decode cL_law 125 = .ok (.iconst 0, 1) := by decide +kernel
theorem dL_law_126 : decode cL_law 126 = .ok (.aload_n 0, 1) := by decide +kernel
theorem dL_law_127 : decode cL_law 127 = .ok (.iload_n 3, 1) := by decide +kernel
theorem dL_law_128 : decode cL_law 128 = .ok (.invokestatic 158, 3) := by decide +kernel
theorem dL_law_131 : decode cL_law 131 = .ok (.iload_n 3, 1) := by decide +kernel
theorem dL_law_132 : decode cL_law 132 = .ok (.iadd, 1) := by decide +kernel
theorem dL_law_133 : decode cL_law 133 = .ok (.invokestatic 8, 3) := by decide +kernel
theorem dL_law_136 : decode cL_law 136 = .ok (.iastore, 1) := by decide +kernel
theorem dL_law_137 : decode cL_law 137 = .ok (.astore 4, 2) := by decide +kernel
theorem dL_law_139 : decode cL_law 139 = .ok (.new 34, 3) := by decide +kernel
theorem dL_law_142 : decode cL_law 142 = .ok (.dup, 1) := by decide +kernel
theorem dL_law_143 : decode cL_law 143 = .ok (.aload 4, 2) := by decide +kernel
theorem dL_law_145 : decode cL_law 145 = .ok (.invokespecial 162, 3) := by decide +kernel
theorem dL_law_148 : decode cL_law 148 = .ok (.astore 5, 2) := by decide +kernel
theorem dL_law_150 : decode cL_law 150 = .ok (.aload_n 1, 1) := by decide +kernel
theorem dL_law_151 : decode cL_law 151 = .ok (.aload 5, 2) := by decide +kernel
theorem dL_law_153 : decode cL_law 153 = .ok (.invokestatic 165, 3) := by decide +kernel
theorem dL_law_156 : decode cL_law 156 = .ok (.ifCond .eq 25, 3) := by decide +kernel
theorem dL_law_159 : decode cL_law 159 = .ok (.aload_n 1, 1) := by decide +kernel
theorem dL_law_160 : decode cL_law 160 = .ok (.aload 5, 2) := by decide +kernel
theorem dL_law_162 : decode cL_law 162 = .ok (.invokestatic 169, 3) := by decide +kernel
theorem dL_law_165 : decode cL_law 165 = .ok (.ifCond .eq 16, 3) := by decide +kernel
theorem dL_law_168 : decode cL_law 168 = .ok (.aload_n 1, 1) := by decide +kernel
theorem dL_law_169 : decode cL_law 169 = .ok (.aload 5, 2) := by decide +kernel
theorem dL_law_171 : decode cL_law 171 = .ok (.invokestatic 172, 3) := by decide +kernel
theorem dL_law_174 : decode cL_law 174 = .ok (.ifCond .eq 7, 3) := by decide +kernel
theorem dL_law_177 : decode cL_law 177 = .ok (.iconst 1, 1) := by decide +kernel
theorem dL_law_178 : decode cL_law 178 = .ok (.goto 4, 3) := by decide +kernel
theorem dL_law_181 : decode cL_law 181 = .ok (.iconst 0, 1) := by decide +kernel
theorem dL_law_182 : decode cL_law 182 = .ok (.istore_n 2, 1) := by decide +kernel
theorem dL_law_183 : decode cL_law 183 = .ok (.iconst 0, 1) := by decide +kernel
theorem dL_law_184 : decode cL_law 184 = .ok (.istore 6, 2) := by decide +kernel
theorem dL_law_186 : decode cL_law 186 = .ok (.iload 6, 2) := by decide +kernel
theorem dL_law_188 : decode cL_law 188 = .ok (.bipush 14, 2) := by decide +kernel
theorem dL_law_190 : decode cL_law 190 = .ok (.if_icmp .ge 233, 3) := by decide +kernel
theorem dL_law_193 : decode cL_law 193 = .ok (.iload_n 2, 1) := by decide +kernel
theorem dL_law_194 : decode cL_law 194 = .ok (.ifCond .eq 229, 3) := by decide +kernel
theorem dL_law_197 : decode cL_law 197 = .ok (.aload 5, 2) := by decide +kernel
theorem dL_law_199 : decode cL_law 199 = .ok (.aload 4, 2) := by decide +kernel
theorem dL_law_201 : decode cL_law 201 = .ok (.invokevirtual 175, 3) := by decide +kernel
theorem dL_law_204 : decode cL_law 204 = .ok (.istore 7, 2) := by decide +kernel
theorem dL_law_206 : decode cL_law 206 = .ok (.iconst 1, 1) := by decide +kernel
theorem dL_law_207 : decode cL_law 207 = .ok (.aload 4, 2) := by decide +kernel
theorem dL_law_209 : decode cL_law 209 = .ok (.bipush 12, 2) := by decide +kernel
theorem dL_law_211 : decode cL_law 211 = .ok (.invokestatic 179, 3) := by decide +kernel
theorem dL_law_214 : decode cL_law 214 = .ok (.iadd, 1) := by decide +kernel
theorem dL_law_215 : decode cL_law 215 = .ok (.istore 8, 2) := by decide +kernel
theorem dL_law_217 : decode cL_law 217 = .ok (.aload_n 1, 1) := by decide +kernel
theorem dL_law_218 : decode cL_law 218 = .ok (.aload 5, 2) := by decide +kernel
theorem dL_law_220 : decode cL_law 220 = .ok (.iload 7, 2) := by decide +kernel
theorem dL_law_222 : decode cL_law 222 = .ok (.iload 8, 2) := by decide +kernel
theorem dL_law_224 : decode cL_law 224 = .ok (.invokestatic 182, 3) := by decide +kernel
theorem dL_law_227 : decode cL_law 227 = .ok (.istore_n 2, 1) := by decide +kernel
theorem dL_law_228 : decode cL_law 228 = .ok (.iload_n 2, 1) := by decide +kernel
theorem dL_law_229 : decode cL_law 229 = .ok (.ifCond .ne 5, 3) := by decide +kernel
theorem dL_law_232 : decode cL_law 232 = .ok (.iconst 0, 1) := by decide +kernel
theorem dL_law_233 : decode cL_law 233 = .ok (.ireturn, 1) := by decide +kernel
theorem dL_law_234 : decode cL_law 234 = .ok (.aload 5, 2) := by decide +kernel
theorem dL_law_236 : decode cL_law 236 = .ok (.iload 7, 2) := by decide +kernel
theorem dL_law_238 : decode cL_law 238 = .ok (.iload 8, 2) := by decide +kernel
theorem dL_law_240 : decode cL_law 240 = .ok (.invokevirtual 186, 3) := by decide +kernel
theorem dL_law_243 : decode cL_law 243 = .ok (.istore 9, 2) := by decide +kernel
theorem dL_law_245 : decode cL_law 245 = .ok (.aload_n 1, 1) := by decide +kernel
theorem dL_law_246 : decode cL_law 246 = .ok (.iload 7, 2) := by decide +kernel
theorem dL_law_248 : decode cL_law 248 = .ok (.iload 8, 2) := by decide +kernel
theorem dL_law_250 : decode cL_law 250 = .ok (.invokevirtual 143, 3) := by decide +kernel
theorem dL_law_253 : decode cL_law 253 = .ok (.iload 9, 2) := by decide +kernel
theorem dL_law_255 : decode cL_law 255 = .ok (.ifCond .ge 8, 3) := by decide +kernel
theorem dL_law_258 : decode cL_law 258 = .ok (.bipush (-2), 2) := by decide +kernel
theorem dL_law_260 : decode cL_law 260 = .ok (.goto 12, 3) := by decide +kernel
theorem dL_law_263 : decode cL_law 263 = .ok (.aload 5, 2) := by decide +kernel
theorem dL_law_265 : decode cL_law 265 = .ok (.iload 7, 2) := by decide +kernel
theorem dL_law_267 : decode cL_law 267 = .ok (.iload 9, 2) := by decide +kernel
theorem dL_law_269 : decode cL_law 269 = .ok (.invokevirtual 187, 3) := by decide +kernel
theorem dL_law_272 : decode cL_law 272 = .ok (.if_icmp .ne 7, 3) := by decide +kernel
theorem dL_law_275 : decode cL_law 275 = .ok (.iconst 1, 1) := by decide +kernel
theorem dL_law_276 : decode cL_law 276 = .ok (.goto 4, 3) := by decide +kernel
theorem dL_law_279 : decode cL_law 279 = .ok (.iconst 0, 1) := by decide +kernel
theorem dL_law_280 : decode cL_law 280 = .ok (.istore_n 2, 1) := by decide +kernel
theorem dL_law_281 : decode cL_law 281 = .ok (.iload 9, 2) := by decide +kernel
theorem dL_law_283 : decode cL_law 283 = .ok (.ifCond .lt 12, 3) := by decide +kernel
theorem dL_law_286 : decode cL_law 286 = .ok (.aload 5, 2) := by decide +kernel
theorem dL_law_288 : decode cL_law 288 = .ok (.iload 7, 2) := by decide +kernel
theorem dL_law_290 : decode cL_law 290 = .ok (.iload 8, 2) := by decide +kernel
theorem dL_law_292 : decode cL_law 292 = .ok (.invokevirtual 190, 3) := by decide +kernel
theorem dL_law_295 : decode cL_law 295 = .ok (.iload_n 2, 1) := by decide +kernel
theorem dL_law_296 : decode cL_law 296 = .ok (.ifCond .eq 64, 3) := by decide +kernel
theorem dL_law_299 : decode cL_law 299 = .ok (.aload_n 1, 1) := by decide +kernel
theorem dL_law_300 : decode cL_law 300 = .ok (.aload 5, 2) := by decide +kernel
theorem dL_law_302 : decode cL_law 302 = .ok (.invokestatic 172, 3) := by decide +kernel
theorem dL_law_305 : decode cL_law 305 = .ok (.ifCond .eq 55, 3) := by decide +kernel
theorem dL_law_308 : decode cL_law 308 = .ok (.iload 9, 2) := by decide +kernel
theorem dL_law_310 : decode cL_law 310 = .ok (.ifCond .lt 46, 3) := by decide +kernel
theorem dL_law_313 : decode cL_law 313 = .ok (.aload_n 1, 1) := by decide +kernel
theorem dL_law_314 : decode cL_law 314 = .ok (.iconst 0, 1) := by decide +kernel
theorem dL_law_315 : decode cL_law 315 = .ok (.invokevirtual 194, 3) := by decide +kernel
theorem dL_law_318 : decode cL_law 318 = .ok (.iload 7, 2) := by decide +kernel
theorem dL_law_320 : decode cL_law 320 = .ok (.if_icmp .ne 40, 3) := by decide +kernel
theorem dL_law_323 : decode cL_law 323 = .ok (.aload_n 1, 1) := by decide +kernel
theorem dL_law_324 : decode cL_law 324 = .ok (.iconst 0, 1) := by decide +kernel
theorem dL_law_325 : decode cL_law 325 = .ok (.invokevirtual 197, 3) := by decide +kernel
theorem dL_law_328 : decode cL_law 328 = .ok (.iload 8, 2) := by decide +kernel
theorem dL_law_330 : decode cL_law 330 = .ok (.if_icmp .ne 30, 3) := by decide +kernel
theorem dL_law_333 : decode cL_law 333 = .ok (.aload_n 1, 1) := by decide +kernel
theorem dL_law_334 : decode cL_law 334 = .ok (.iconst 0, 1) := by decide +kernel
theorem dL_law_335 : decode cL_law 335 = .ok (.invokevirtual 200, 3) := by decide +kernel
theorem dL_law_338 : decode cL_law 338 = .ok (.iload 9, 2) := by decide +kernel
theorem dL_law_340 : decode cL_law 340 = .ok (.if_icmp .ne 20, 3) := by decide +kernel
theorem dL_law_343 : decode cL_law 343 = .ok (.aload_n 1, 1) := by decide +kernel
theorem dL_law_344 : decode cL_law 344 = .ok (.iconst 0, 1) := by decide +kernel
theorem dL_law_345 : decode cL_law 345 = .ok (.invokevirtual 203, 3) := by decide +kernel
theorem dL_law_348 : decode cL_law 348 = .ok (.aload 5, 2) := by decide +kernel
theorem dL_law_350 : decode cL_law 350 = .ok (.getfield 59, 3) := by decide +kernel
theorem dL_law_353 : decode cL_law 353 = .ok (.if_icmp .ne 7, 3) := by decide +kernel
theorem dL_law_356 : decode cL_law 356 = .ok (.iconst 1, 1) := by decide +kernel
theorem dL_law_357 : decode cL_law 357 = .ok (.goto 4, 3) := by decide +kernel
theorem dL_law_360 : decode cL_law 360 = .ok (.iconst 0, 1) := by decide +kernel
theorem dL_law_361 : decode cL_law 361 = .ok (.istore_n 2, 1) := by decide +kernel
theorem dL_law_362 : decode cL_law 362 = .ok (.aload 4, 2) := by decide +kernel
theorem dL_law_364 : decode cL_law 364 = .ok (.iconst 3, 1) := by decide +kernel
theorem dL_law_365 : decode cL_law 365 = .ok (.invokestatic 179, 3) := by decide +kernel
theorem dL_law_368 : decode cL_law 368 = .ok (.ifCond .le 6, 3) := by decide +kernel
theorem dL_law_371 : decode cL_law 371 = .ok (.goto 46, 3) := by decide +kernel
theorem dL_law_374 : decode cL_law 374 = .ok (.iload_n 2, 1) := by decide +kernel
theorem dL_law_375 : decode cL_law 375 = .ok (.ifCond .eq 15, 3) := by decide +kernel
theorem dL_law_378 : decode cL_law 378 = .ok (.aload_n 1, 1) := by decide +kernel
theorem dL_law_379 : decode cL_law 379 = .ok (.iconst 1, 1) := by decide +kernel
theorem dL_law_380 : decode cL_law 380 = .ok (.invokevirtual 146, 3) := by decide +kernel
theorem dL_law_383 : decode cL_law 383 = .ok (.ifCond .ne 7, 3) := by decide +kernel
theorem dL_law_386 : decode cL_law 386 = .ok (.iconst 1, 1) := by decide +kernel
theorem dL_law_387 : decode cL_law 387 = .ok (.goto 4, 3) := by decide +kernel
theorem dL_law_390 : decode cL_law 390 = .ok (.iconst 0, 1) := by decide +kernel
theorem dL_law_391 : decode cL_law 391 = .ok (.istore_n 2, 1) := by decide +kernel
theorem dL_law_392 : decode cL_law 392 = .ok (.aload 5, 2) := by decide +kernel
theorem dL_law_394 : decode cL_law 394 = .ok (.invokevirtual 206, 3) := by decide +kernel
theorem dL_law_397 : decode cL_law 397 = .ok (.pop, 1) := by decide +kernel
theorem dL_law_398 : decode cL_law 398 = .ok (.iload_n 2, 1) := by decide +kernel
theorem dL_law_399 : decode cL_law 399 = .ok (.ifCond .eq 16, 3) := by decide +kernel
theorem dL_law_402 : decode cL_law 402 = .ok (.aload_n 1, 1) := by decide +kernel
theorem dL_law_403 : decode cL_law 403 = .ok (.aload 5, 2) := by decide +kernel
theorem dL_law_405 : decode cL_law 405 = .ok (.invokestatic 172, 3) := by decide +kernel
theorem dL_law_408 : decode cL_law 408 = .ok (.ifCond .eq 7, 3) := by decide +kernel
theorem dL_law_411 : decode cL_law 411 = .ok (.iconst 1, 1) := by decide +kernel
theorem dL_law_412 : decode cL_law 412 = .ok (.goto 4, 3) := by decide +kernel
theorem dL_law_415 : decode cL_law 415 = .ok (.iconst 0, 1) := by decide +kernel
theorem dL_law_416 : decode cL_law 416 = .ok (.istore_n 2, 1) := by decide +kernel
theorem dL_law_417 : decode cL_law 417 = .ok (.iinc 6 1, 3) := by decide +kernel
theorem dL_law_420 : decode cL_law 420 = .ok (.goto (-234), 3) := by decide +kernel
theorem dL_law_423 : decode cL_law 423 = .ok (.iinc 3 1, 3) := by decide +kernel
theorem dL_law_426 : decode cL_law 426 = .ok (.goto (-314), 3) := by decide +kernel
theorem dL_law_429 : decode cL_law 429 = .ok (.iload_n 2, 1) := by decide +kernel
theorem dL_law_430 : decode cL_law 430 = .ok (.ireturn, 1) := by decide +kernel
theorem dL_tree_0 : decode cL_tree 0 = .ok (.aload_n 0, 1) := by decide +kernel
theorem dL_tree_1 : decode cL_tree 1 = .ok (.invokevirtual 136, 3) := by decide +kernel
theorem dL_tree_4 : decode cL_tree 4 = .ok (.aload_n 1, 1) := by decide +kernel
theorem dL_tree_5 : decode cL_tree 5 = .ok (.getfield 46, 3) := by decide +kernel
theorem dL_tree_8 : decode cL_tree 8 = .ok (.if_icmp .ne 29, 3) := by decide +kernel
theorem dL_tree_11 : decode cL_tree 11 = .ok (.aload_n 0, 1) := by decide +kernel
theorem dL_tree_12 : decode cL_tree 12 = .ok (.iconst 0, 1) := by decide +kernel
theorem dL_tree_13 : decode cL_tree 13 = .ok (.invokevirtual 209, 3) := by decide +kernel
theorem dL_tree_16 : decode cL_tree 16 = .ok (.bipush (-2), 2) := by decide +kernel
theorem dL_tree_18 : decode cL_tree 18 = .ok (.if_icmp .ne 19, 3) := by decide +kernel
theorem dL_tree_21 : decode cL_tree 21 = .ok (.aload_n 0, 1) := by decide +kernel
theorem dL_tree_22 : decode cL_tree 22 = .ok (.aload_n 1, 1) := by decide +kernel
theorem dL_tree_23 : decode cL_tree 23 = .ok (.getfield 46, 3) := by decide +kernel
theorem dL_tree_26 : decode cL_tree 26 = .ok (.invokevirtual 209, 3) := by decide +kernel
theorem dL_tree_29 : decode cL_tree 29 = .ok (.iconst (-1), 1) := by decide +kernel
theorem dL_tree_30 : decode cL_tree 30 = .ok (.if_icmp .ne 7, 3) := by decide +kernel
theorem dL_tree_33 : decode cL_tree 33 = .ok (.iconst 1, 1) := by decide +kernel
theorem dL_tree_34 : decode cL_tree 34 = .ok (.goto 4, 3) := by decide +kernel
theorem dL_tree_37 : decode cL_tree 37 = .ok (.iconst 0, 1) := by decide +kernel
theorem dL_tree_38 : decode cL_tree 38 = .ok (.istore_n 2, 1) := by decide +kernel
theorem dL_tree_39 : decode cL_tree 39 = .ok (.iconst 0, 1) := by decide +kernel
theorem dL_tree_40 : decode cL_tree 40 = .ok (.istore_n 3, 1) := by decide +kernel
theorem dL_tree_41 : decode cL_tree 41 = .ok (.iload_n 3, 1) := by decide +kernel
theorem dL_tree_42 : decode cL_tree 42 = .ok (.aload_n 1, 1) := by decide +kernel
theorem dL_tree_43 : decode cL_tree 43 = .ok (.getfield 46, 3) := by decide +kernel
theorem dL_tree_46 : decode cL_tree 46 = .ok (.if_icmp .ge 349, 3) := by decide +kernel
theorem dL_tree_49 : decode cL_tree 49 = .ok (.iload_n 2, 1) := by decide +kernel
theorem dL_tree_50 : decode cL_tree 50 = .ok (.ifCond .eq 345, 3) := by decide +kernel
theorem dL_tree_53 : decode cL_tree 53 = .ok (.iconst 0, 1) := by decide +kernel
theorem dL_tree_54 : decode cL_tree 54 = .ok (.istore 4, 2) := by decide +kernel
theorem dL_tree_56 : decode cL_tree 56 = .ok (.iconst 0, 1) := by decide +kernel
theorem dL_tree_57 : decode cL_tree 57 = .ok (.istore 5, 2) := by decide +kernel
theorem dL_tree_59 : decode cL_tree 59 = .ok (.iconst 1, 1) := by decide +kernel
theorem dL_tree_60 : decode cL_tree 60 = .ok (.istore 6, 2) := by decide +kernel
theorem dL_tree_62 : decode cL_tree 62 = .ok (.iload 6, 2) := by decide +kernel
theorem dL_tree_64 : decode cL_tree 64 = .ok (.aload_n 1, 1) := by decide +kernel
theorem dL_tree_65 : decode cL_tree 65 = .ok (.getfield 46, 3) := by decide +kernel
theorem dL_tree_68 : decode cL_tree 68 = .ok (.if_icmp .ge 60, 3) := by decide +kernel
theorem dL_tree_71 : decode cL_tree 71 = .ok (.aload_n 1, 1) := by decide +kernel
theorem dL_tree_72 : decode cL_tree 72 = .ok (.getfield 212, 3) := by decide +kernel
theorem dL_tree_75 : decode cL_tree 75 = .ok (.iload 6, 2) := by decide +kernel
theorem dL_tree_77 : decode cL_tree 77 = .ok (.iaload, 1) := by decide +kernel
theorem dL_tree_78 : decode cL_tree 78 = .ok (.iload_n 3, 1) := by decide +kernel
theorem dL_tree_79 : decode cL_tree 79 = .ok (.if_icmp .eq 6, 3) := by decide +kernel
theorem dL_tree_82 : decode cL_tree 82 = .ok (.goto 40, 3) := by decide +kernel
theorem dL_tree_85 : decode cL_tree 85 = .ok (.iload 4, 2) := by decide +kernel
theorem dL_tree_87 : decode cL_tree 87 = .ok (.aload_n 1, 1) := by decide +kernel
theorem dL_tree_88 : decode cL_tree 88 = .ok (.getfield 214, 3) := by decide +kernel
theorem dL_tree_91 : decode cL_tree 91 = .ok (.iload 6, 2) := by decide +kernel
theorem dL_tree_93 : decode cL_tree 93 = .ok (.iaload, 1) := by decide +kernel
theorem dL_tree_94 : decode cL_tree 94 = .ok (.iadd, 1) := by decide +kernel
theorem dL_tree_95 : decode cL_tree 95 = .ok (.istore 4, 2) := by decide +kernel
theorem dL_tree_97 : decode cL_tree 97 = .ok (.iload_n 2, 1) := by decide +kernel
theorem dL_tree_98 : decode cL_tree 98 = .ok (.ifCond .eq 19, 3) := by decide +kernel
theorem dL_tree_101 : decode cL_tree 101 = .ok (.aload_n 0, 1) := by decide +kernel
theorem dL_tree_102 : decode cL_tree 102 = .ok (.iload_n 3, 1) := by decide +kernel
theorem dL_tree_103 : decode cL_tree 103 = .ok (.iload 5, 2) := by decide +kernel
theorem dL_tree_105 : decode cL_tree 105 = .ok (.invokevirtual 217, 3) := by decide +kernel
theorem dL_tree_108 : decode cL_tree 108 = .ok (.iload 6, 2) := by decide +kernel
theorem dL_tree_110 : decode cL_tree 110 = .ok (.if_icmp .ne 7, 3) := by decide +kernel
theorem dL_tree_113 : decode cL_tree 113 = .ok (.iconst 1, 1) := by decide +kernel
theorem dL_tree_114 : decode cL_tree 114 = .ok (.goto 4, 3) := by decide +kernel
theorem dL_tree_117 : decode cL_tree 117 = .ok (.iconst 0, 1) := by decide +kernel
theorem dL_tree_118 : decode cL_tree 118 = .ok (.istore_n 2, 1) := by decide +kernel
theorem dL_tree_119 : decode cL_tree 119 = .ok (.iinc 5 1, 3) := by decide +kernel
theorem dL_tree_122 : decode cL_tree 122 = .ok (.iinc 6 1, 3) := by decide +kernel
theorem dL_tree_125 : decode cL_tree 125 = .ok (.goto (-63), 3) := by decide +kernel
theorem dL_tree_128 : decode cL_tree 128 = .ok (.sipush 1000, 3) := by decide +kernel
theorem dL_tree_131 : decode cL_tree 131 = .ok (.istore 6, 2) := by decide +kernel
theorem dL_tree_133 : decode cL_tree 133 = .ok (.iload_n 3, 1) := by decide +kernel
theorem dL_tree_134 : decode cL_tree 134 = .ok (.istore 7, 2) := by decide +kernel
theorem dL_tree_136 : decode cL_tree 136 = .ok (.iload 7, 2) := by decide +kernel
theorem dL_tree_138 : decode cL_tree 138 = .ok (.ifCond .lt 29, 3) := by decide +kernel
theorem dL_tree_141 : decode cL_tree 141 = .ok (.iload 6, 2) := by decide +kernel
theorem dL_tree_143 : decode cL_tree 143 = .ok (.aload_n 1, 1) := by decide +kernel
theorem dL_tree_144 : decode cL_tree 144 = .ok (.getfield 220, 3) := by decide +kernel
theorem dL_tree_147 : decode cL_tree 147 = .ok (.iload 7, 2) := by decide +kernel
theorem dL_tree_149 : decode cL_tree 149 = .ok (.iaload, 1) := by decide +kernel
theorem dL_tree_150 : decode cL_tree 150 = .ok (.invokestatic 223, 3) := by decide +kernel
theorem dL_tree_153 : decode cL_tree 153 = .ok (.istore 6, 2) := by decide +kernel
theorem dL_tree_155 : decode cL_tree 155 = .ok (.aload_n 1, 1) := by decide +kernel
theorem dL_tree_156 : decode cL_tree 156 = .ok (.getfield 212, 3) := by decide +kernel
theorem dL_tree_159 : decode cL_tree 159 = .ok (.iload 7, 2) := by decide +kernel
theorem dL_tree_161 : decode cL_tree 161 = .ok (.iaload, 1) := by decide +kernel
theorem dL_tree_162 : decode cL_tree 162 = .ok (.istore 7, 2) := by decide +kernel
theorem dL_tree_164 : decode cL_tree 164 = .ok (.goto (-28), 3) := by decide +kernel
theorem dL_tree_167 : decode cL_tree 167 = .ok (.iload_n 2, 1) := by decide +kernel
theorem dL_tree_168 : decode cL_tree 168 = .ok (.ifCond .eq 153, 3) := by decide +kernel
theorem dL_tree_171 : decode cL_tree 171 = .ok (.aload_n 0, 1) := by decide +kernel
theorem dL_tree_172 : decode cL_tree 172 = .ok (.iload_n 3, 1) := by decide +kernel
theorem dL_tree_173 : decode cL_tree 173 = .ok (.iload 5, 2) := by decide +kernel
theorem dL_tree_175 : decode cL_tree 175 = .ok (.invokevirtual 217, 3) := by decide +kernel
theorem dL_tree_178 : decode cL_tree 178 = .ok (.bipush (-2), 2) := by decide +kernel
theorem dL_tree_180 : decode cL_tree 180 = .ok (.if_icmp .ne 141, 3) := by decide +kernel
theorem dL_tree_183 : decode cL_tree 183 = .ok (.aload_n 0, 1) := by decide +kernel
theorem dL_tree_184 : decode cL_tree 184 = .ok (.iload_n 3, 1) := by decide +kernel
theorem dL_tree_185 : decode cL_tree 185 = .ok (.invokevirtual 209, 3) := by decide +kernel
theorem dL_tree_188 : decode cL_tree 188 = .ok (.aload_n 1, 1) := by decide +kernel
theorem dL_tree_189 : decode cL_tree 189 = .ok (.getfield 212, 3) := by decide +kernel
theorem dL_tree_192 : decode cL_tree 192 = .ok (.iload_n 3, 1) := by decide +kernel
theorem dL_tree_193 : decode cL_tree 193 = .ok (.iaload, 1) := by decide +kernel
theorem dL_tree_194 : decode cL_tree 194 = .ok (.if_icmp .ne 127, 3) := by decide +kernel
theorem dL_tree_197 : decode cL_tree 197 = .ok (.aload_n 0, 1) := by decide +kernel
theorem dL_tree_198 : decode cL_tree 198 = .ok (.iload_n 3, 1) := by decide +kernel
theorem dL_tree_199 : decode cL_tree 199 = .ok (.invokevirtual 228, 3) := by decide +kernel
theorem dL_tree_202 : decode cL_tree 202 = .ok (.aload_n 1, 1) := by decide +kernel
theorem dL_tree_203 : decode cL_tree 203 = .ok (.iload_n 3, 1) := by decide +kernel
theorem dL_tree_204 : decode cL_tree 204 = .ok (.iconst 0, 1) := by decide +kernel
theorem dL_tree_205 : decode cL_tree 205 = .ok (.invokevirtual 187, 3) := by decide +kernel
theorem dL_tree_208 : decode cL_tree 208 = .ok (.if_icmp .ne 113, 3) := by decide +kernel
theorem dL_tree_211 : decode cL_tree 211 = .ok (.aload_n 0, 1) := by decide +kernel
theorem dL_tree_212 : decode cL_tree 212 = .ok (.iload_n 3, 1) := by decide +kernel
theorem dL_tree_213 : decode cL_tree 213 = .ok (.invokevirtual 231, 3) := by decide +kernel
theorem dL_tree_216 : decode cL_tree 216 = .ok (.aload_n 1, 1) := by decide +kernel
theorem dL_tree_217 : decode cL_tree 217 = .ok (.getfield 214, 3) := by decide +kernel
theorem dL_tree_220 : decode cL_tree 220 = .ok (.iload_n 3, 1) := by decide +kernel
theorem dL_tree_221 : decode cL_tree 221 = .ok (.iaload, 1) := by decide +kernel
theorem dL_tree_222 : decode cL_tree 222 = .ok (.if_icmp .ne 99, 3) := by decide +kernel
theorem dL_tree_225 : decode cL_tree 225 = .ok (.aload_n 0, 1) := by decide +kernel
theorem dL_tree_226 : decode cL_tree 226 = .ok (.iload_n 3, 1) := by decide +kernel
theorem dL_tree_227 : decode cL_tree 227 = .ok (.invokevirtual 233, 3) := by decide +kernel
theorem dL_tree_230 : decode cL_tree 230 = .ok (.aload_n 1, 1) := by decide +kernel
theorem dL_tree_231 : decode cL_tree 231 = .ok (.getfield 220, 3) := by decide +kernel
theorem dL_tree_234 : decode cL_tree 234 = .ok (.iload_n 3, 1) := by decide +kernel
theorem dL_tree_235 : decode cL_tree 235 = .ok (.iaload, 1) := by decide +kernel
theorem dL_tree_236 : decode cL_tree 236 = .ok (.if_icmp .ne 85, 3) := by decide +kernel
theorem dL_tree_239 : decode cL_tree 239 = .ok (.aload_n 0, 1) := by decide +kernel
theorem dL_tree_240 : decode cL_tree 240 = .ok (.iload_n 3, 1) := by decide +kernel
theorem dL_tree_241 : decode cL_tree 241 = .ok (.invokevirtual 235, 3) := by decide +kernel
theorem dL_tree_244 : decode cL_tree 244 = .ok (.aload_n 1, 1) := by decide +kernel
theorem dL_tree_245 : decode cL_tree 245 = .ok (.getfield 238, 3) := by decide +kernel
theorem dL_tree_248 : decode cL_tree 248 = .ok (.iload_n 3, 1) := by decide +kernel
theorem dL_tree_249 : decode cL_tree 249 = .ok (.iaload, 1) := by decide +kernel
theorem dL_tree_250 : decode cL_tree 250 = .ok (.if_icmp .ne 71, 3) := by decide +kernel
theorem dL_tree_253 : decode cL_tree 253 = .ok (.aload_n 0, 1) := by decide +kernel
theorem dL_tree_254 : decode cL_tree 254 = .ok (.iload_n 3, 1) := by decide +kernel
theorem dL_tree_255 : decode cL_tree 255 = .ok (.invokevirtual 240, 3) := by decide +kernel
theorem dL_tree_258 : decode cL_tree 258 = .ok (.aload_n 1, 1) := by decide +kernel
theorem dL_tree_259 : decode cL_tree 259 = .ok (.getfield 243, 3) := by decide +kernel
theorem dL_tree_262 : decode cL_tree 262 = .ok (.iload_n 3, 1) := by decide +kernel
theorem dL_tree_263 : decode cL_tree 263 = .ok (.iaload, 1) := by decide +kernel
theorem dL_tree_264 : decode cL_tree 264 = .ok (.if_icmp .ne 57, 3) := by decide +kernel
theorem dL_tree_267 : decode cL_tree 267 = .ok (.aload_n 0, 1) := by decide +kernel
theorem dL_tree_268 : decode cL_tree 268 = .ok (.iload_n 3, 1) := by decide +kernel
theorem dL_tree_269 : decode cL_tree 269 = .ok (.invokevirtual 246, 3) := by decide +kernel
theorem dL_tree_272 : decode cL_tree 272 = .ok (.aload_n 1, 1) := by decide +kernel
theorem dL_tree_273 : decode cL_tree 273 = .ok (.getfield 249, 3) := by decide +kernel
theorem dL_tree_276 : decode cL_tree 276 = .ok (.iload_n 3, 1) := by decide +kernel
theorem dL_tree_277 : decode cL_tree 277 = .ok (.iaload, 1) := by decide +kernel
theorem dL_tree_278 : decode cL_tree 278 = .ok (.if_icmp .ne 43, 3) := by decide +kernel
theorem dL_tree_281 : decode cL_tree 281 = .ok (.aload_n 0, 1) := by decide +kernel
theorem dL_tree_282 : decode cL_tree 282 = .ok (.iload_n 3, 1) := by decide +kernel
theorem dL_tree_283 : decode cL_tree 283 = .ok (.invokevirtual 251, 3) := by decide +kernel
theorem dL_tree_286 : decode cL_tree 286 = .ok (.aload_n 1, 1) := by decide +kernel
theorem dL_tree_287 : decode cL_tree 287 = .ok (.getfield 254, 3) := by decide +kernel
theorem dL_tree_290 : decode cL_tree 290 = .ok (.iload_n 3, 1) := by decide +kernel
theorem dL_tree_291 : decode cL_tree 291 = .ok (.iaload, 1) := by decide +kernel
theorem dL_tree_292 : decode cL_tree 292 = .ok (.if_icmp .ne 29, 3) := by decide +kernel
theorem dL_tree_295 : decode cL_tree 295 = .ok (.aload_n 0, 1) := by decide +kernel
theorem dL_tree_296 : decode cL_tree 296 = .ok (.iload_n 3, 1) := by decide +kernel
theorem dL_tree_297 : decode cL_tree 297 = .ok (.invokevirtual 256, 3) := by decide +kernel
theorem dL_tree_300 : decode cL_tree 300 = .ok (.aload_n 1, 1) := by decide +kernel
theorem dL_tree_301 : decode cL_tree 301 = .ok (.getfield 259, 3) := by decide +kernel
theorem dL_tree_304 : decode cL_tree 304 = .ok (.iload_n 3, 1) := by decide +kernel
theorem dL_tree_305 : decode cL_tree 305 = .ok (.baload, 1) := by decide +kernel
theorem dL_tree_306 : decode cL_tree 306 = .ok (.ifCond .ne 7, 3) := by decide +kernel
theorem dL_tree_309 : decode cL_tree 309 = .ok (.iconst 1, 1) := by decide +kernel
theorem dL_tree_310 : decode cL_tree 310 = .ok (.goto 4, 3) := by decide +kernel
theorem dL_tree_313 : decode cL_tree 313 = .ok (.iconst 0, 1) := by decide +kernel
theorem dL_tree_314 : decode cL_tree 314 = .ok (.if_icmp .ne 7, 3) := by decide +kernel
theorem dL_tree_317 : decode cL_tree 317 = .ok (.iconst 1, 1) := by decide +kernel
theorem dL_tree_318 : decode cL_tree 318 = .ok (.goto 4, 3) := by decide +kernel
theorem dL_tree_321 : decode cL_tree 321 = .ok (.iconst 0, 1) := by decide +kernel
theorem dL_tree_322 : decode cL_tree 322 = .ok (.istore_n 2, 1) := by decide +kernel
theorem dL_tree_323 : decode cL_tree 323 = .ok (.iload_n 2, 1) := by decide +kernel
theorem dL_tree_324 : decode cL_tree 324 = .ok (.ifCond .eq 63, 3) := by decide +kernel
theorem dL_tree_327 : decode cL_tree 327 = .ok (.aload_n 0, 1) := by decide +kernel
theorem dL_tree_328 : decode cL_tree 328 = .ok (.iload_n 3, 1) := by decide +kernel
theorem dL_tree_329 : decode cL_tree 329 = .ok (.invokevirtual 263, 3) := by decide +kernel
theorem dL_tree_332 : decode cL_tree 332 = .ok (.iload 4, 2) := by decide +kernel
theorem dL_tree_334 : decode cL_tree 334 = .ok (.aload_n 1, 1) := by decide +kernel
theorem dL_tree_335 : decode cL_tree 335 = .ok (.getfield 214, 3) := by decide +kernel
theorem dL_tree_338 : decode cL_tree 338 = .ok (.iload_n 3, 1) := by decide +kernel
theorem dL_tree_339 : decode cL_tree 339 = .ok (.iaload, 1) := by decide +kernel
theorem dL_tree_340 : decode cL_tree 340 = .ok (.if_icmp .le 7, 3) := by decide +kernel
theorem dL_tree_343 : decode cL_tree 343 = .ok (.iconst 1, 1) := by decide +kernel
theorem dL_tree_344 : decode cL_tree 344 = .ok (.goto 4, 3) := by decide +kernel
theorem dL_tree_347 : decode cL_tree 347 = .ok (.iconst 0, 1) := by decide +kernel
theorem dL_tree_348 : decode cL_tree 348 = .ok (.if_icmp .ne 39, 3) := by decide +kernel
theorem dL_tree_351 : decode cL_tree 351 = .ok (.aload_n 0, 1) := by decide +kernel
theorem dL_tree_352 : decode cL_tree 352 = .ok (.iload_n 3, 1) := by decide +kernel
theorem dL_tree_353 : decode cL_tree 353 = .ok (.invokevirtual 266, 3) := by decide +kernel
theorem dL_tree_356 : decode cL_tree 356 = .ok (.iload 6, 2) := by decide +kernel
theorem dL_tree_358 : decode cL_tree 358 = .ok (.if_icmp .ne 29, 3) := by decide +kernel
theorem dL_tree_361 : decode cL_tree 361 = .ok (.aload_n 0, 1) := by decide +kernel
theorem dL_tree_362 : decode cL_tree 362 = .ok (.iload_n 3, 1) := by decide +kernel
theorem dL_tree_363 : decode cL_tree 363 = .ok (.iconst 0, 1) := by decide +kernel
theorem dL_tree_364 : decode cL_tree 364 = .ok (.invokevirtual 269, 3) := by decide +kernel
theorem dL_tree_367 : decode cL_tree 367 = .ok (.bipush 16, 2) := by decide +kernel
theorem dL_tree_369 : decode cL_tree 369 = .ok (.iload_n 3, 1) := by decide +kernel
theorem dL_tree_370 : decode cL_tree 370 = .ok (.iadd, 1) := by decide +kernel
theorem dL_tree_371 : decode cL_tree 371 = .ok (.if_icmp .ne 16, 3) := by decide +kernel
theorem dL_tree_374 : decode cL_tree 374 = .ok (.aload_n 0, 1) := by decide +kernel
theorem dL_tree_375 : decode cL_tree 375 = .ok (.iload_n 3, 1) := by decide +kernel
theorem dL_tree_376 : decode cL_tree 376 = .ok (.iconst 1, 1) := by decide +kernel
theorem dL_tree_377 : decode cL_tree 377 = .ok (.invokevirtual 269, 3) := by decide +kernel
theorem dL_tree_380 : decode cL_tree 380 = .ok (.ifCond .ne 7, 3) := by decide +kernel
theorem dL_tree_383 : decode cL_tree 383 = .ok (.iconst 1, 1) := by decide +kernel
theorem dL_tree_384 : decode cL_tree 384 = .ok (.goto 4, 3) := by decide +kernel
theorem dL_tree_387 : decode cL_tree 387 = .ok (.iconst 0, 1) := by decide +kernel
theorem dL_tree_388 : decode cL_tree 388 = .ok (.istore_n 2, 1) := by decide +kernel
theorem dL_tree_389 : decode cL_tree 389 = .ok (.iinc 3 1, 3) := by decide +kernel
theorem dL_tree_392 : decode cL_tree 392 = .ok (.goto (-351), 3) := by decide +kernel
theorem dL_tree_395 : decode cL_tree 395 = .ok (.iload_n 2, 1) := by decide +kernel
theorem dL_tree_396 : decode cL_tree 396 = .ok (.ireturn, 1) := by decide +kernel
theorem dL_asked_0 : decode cL_asked 0 = .ok (.aload_n 1, 1) := by decide +kernel
theorem dL_asked_1 : decode cL_asked 1 = .ok (.iload_n 2, 1) := by decide +kernel
theorem dL_asked_2 : decode cL_asked 2 = .ok (.iload_n 3, 1) := by decide +kernel
theorem dL_asked_3 : decode cL_asked 3 = .ok (.invokevirtual 186, 3) := by decide +kernel
theorem dL_asked_6 : decode cL_asked 6 = .ok (.istore 4, 2) := by decide +kernel
theorem dL_asked_8 : decode cL_asked 8 = .ok (.bipush (-2), 2) := by decide +kernel
theorem dL_asked_10 : decode cL_asked 10 = .ok (.istore 5, 2) := by decide +kernel
theorem dL_asked_12 : decode cL_asked 12 = .ok (.iload_n 2, 1) := by decide +kernel
theorem dL_asked_13 : decode cL_asked 13 = .ok (.istore 6, 2) := by decide +kernel
theorem dL_asked_15 : decode cL_asked 15 = .ok (.iload 6, 2) := by decide +kernel
theorem dL_asked_17 : decode cL_asked 17 = .ok (.ifCond .lt 40, 3) := by decide +kernel
theorem dL_asked_20 : decode cL_asked 20 = .ok (.iload 5, 2) := by decide +kernel
theorem dL_asked_22 : decode cL_asked 22 = .ok (.ifCond .ge 35, 3) := by decide +kernel
theorem dL_asked_25 : decode cL_asked 25 = .ok (.aload_n 1, 1) := by decide +kernel
theorem dL_asked_26 : decode cL_asked 26 = .ok (.getfield 81, 3) := by decide +kernel
theorem dL_asked_29 : decode cL_asked 29 = .ok (.iload 6, 2) := by decide +kernel
theorem dL_asked_31 : decode cL_asked 31 = .ok (.iaload, 1) := by decide +kernel
theorem dL_asked_32 : decode cL_asked 32 = .ok (.iload_n 3, 1) := by decide +kernel
theorem dL_asked_33 : decode cL_asked 33 = .ok (.if_icmp .ge 8, 3) := by decide +kernel
theorem dL_asked_36 : decode cL_asked 36 = .ok (.iload 6, 2) := by decide +kernel
theorem dL_asked_38 : decode cL_asked 38 = .ok (.goto 5, 3) := by decide +kernel
theorem dL_asked_41 : decode cL_asked 41 = .ok (.iload 5, 2) := by decide +kernel
theorem dL_asked_43 : decode cL_asked 43 = .ok (.istore 5, 2) := by decide +kernel
theorem dL_asked_45 : decode cL_asked 45 = .ok (.aload_n 1, 1) := by decide +kernel
theorem dL_asked_46 : decode cL_asked 46 = .ok (.getfield 212, 3) := by decide +kernel
theorem dL_asked_49 : decode cL_asked 49 = .ok (.iload 6, 2) := by decide +kernel
theorem dL_asked_51 : decode cL_asked 51 = .ok (.iaload, 1) := by decide +kernel
theorem dL_asked_52 : decode cL_asked 52 = .ok (.istore 6, 2) := by decide +kernel
theorem dL_asked_54 : decode cL_asked 54 = .ok (.goto (-39), 3) := by decide +kernel
theorem dL_asked_57 : decode cL_asked 57 = .ok (.iconst 0, 1) := by decide +kernel
theorem dL_asked_58 : decode cL_asked 58 = .ok (.istore 6, 2) := by decide +kernel
theorem dL_asked_60 : decode cL_asked 60 = .ok (.iconst 1, 1) := by decide +kernel
theorem dL_asked_61 : decode cL_asked 61 = .ok (.istore 7, 2) := by decide +kernel
theorem dL_asked_63 : decode cL_asked 63 = .ok (.iload 7, 2) := by decide +kernel
theorem dL_asked_65 : decode cL_asked 65 = .ok (.bipush 100, 2) := by decide +kernel
theorem dL_asked_67 : decode cL_asked 67 = .ok (.if_icmp .ge 28, 3) := by decide +kernel
theorem dL_asked_70 : decode cL_asked 70 = .ok (.aload_n 1, 1) := by decide +kernel
theorem dL_asked_71 : decode cL_asked 71 = .ok (.iload_n 2, 1) := by decide +kernel
theorem dL_asked_72 : decode cL_asked 72 = .ok (.iload 7, 2) := by decide +kernel
theorem dL_asked_74 : decode cL_asked 74 = .ok (.invokevirtual 186, 3) := by decide +kernel
theorem dL_asked_77 : decode cL_asked 77 = .ok (.ifCond .lt 8, 3) := by decide +kernel
theorem dL_asked_80 : decode cL_asked 80 = .ok (.iload 7, 2) := by decide +kernel
theorem dL_asked_82 : decode cL_asked 82 = .ok (.goto 5, 3) := by decide +kernel
theorem dL_asked_85 : decode cL_asked 85 = .ok (.iload 6, 2) := by decide +kernel
theorem dL_asked_87 : decode cL_asked 87 = .ok (.istore 6, 2) := by decide +kernel
theorem dL_asked_89 : decode cL_asked 89 = .ok (.iinc 7 1, 3) := by decide +kernel
theorem dL_asked_92 : decode cL_asked 92 = .ok (.goto (-29), 3) := by decide +kernel
theorem dL_asked_95 : decode cL_asked 95 = .ok (.aload_n 0, 1) := by decide +kernel
theorem dL_asked_96 : decode cL_asked 96 = .ok (.iload_n 2, 1) := by decide +kernel
theorem dL_asked_97 : decode cL_asked 97 = .ok (.iload_n 3, 1) := by decide +kernel
theorem dL_asked_98 : decode cL_asked 98 = .ok (.invokevirtual 139, 3) := by decide +kernel
theorem dL_asked_101 : decode cL_asked 101 = .ok (.iload 4, 2) := by decide +kernel
theorem dL_asked_103 : decode cL_asked 103 = .ok (.if_icmp .ne 77, 3) := by decide +kernel
theorem dL_asked_106 : decode cL_asked 106 = .ok (.aload_n 0, 1) := by decide +kernel
theorem dL_asked_107 : decode cL_asked 107 = .ok (.iload_n 2, 1) := by decide +kernel
theorem dL_asked_108 : decode cL_asked 108 = .ok (.iload_n 3, 1) := by decide +kernel
theorem dL_asked_109 : decode cL_asked 109 = .ok (.invokevirtual 272, 3) := by decide +kernel
theorem dL_asked_112 : decode cL_asked 112 = .ok (.iload 5, 2) := by decide +kernel
theorem dL_asked_114 : decode cL_asked 114 = .ok (.if_icmp .ne 66, 3) := by decide +kernel
theorem dL_asked_117 : decode cL_asked 117 = .ok (.aload_n 0, 1) := by decide +kernel
theorem dL_asked_118 : decode cL_asked 118 = .ok (.iload_n 2, 1) := by decide +kernel
theorem dL_asked_119 : decode cL_asked 119 = .ok (.invokevirtual 275, 3) := by decide +kernel
theorem dL_asked_122 : decode cL_asked 122 = .ok (.iload 6, 2) := by decide +kernel
theorem dL_asked_124 : decode cL_asked 124 = .ok (.if_icmp .ne 56, 3) := by decide +kernel
theorem dL_asked_127 : decode cL_asked 127 = .ok (.aload_n 0, 1) := by decide +kernel
theorem dL_asked_128 : decode cL_asked 128 = .ok (.iload_n 2, 1) := by decide +kernel
theorem dL_asked_129 : decode cL_asked 129 = .ok (.iload_n 3, 1) := by decide +kernel
theorem dL_asked_130 : decode cL_asked 130 = .ok (.invokevirtual 278, 3) := by decide +kernel
theorem dL_asked_133 : decode cL_asked 133 = .ok (.iload 5, 2) := by decide +kernel
theorem dL_asked_135 : decode cL_asked 135 = .ok (.ifCond .lt 7, 3) := by decide +kernel
theorem dL_asked_138 : decode cL_asked 138 = .ok (.iconst 1, 1) := by decide +kernel
theorem dL_asked_139 : decode cL_asked 139 = .ok (.goto 13, 3) := by decide +kernel
theorem dL_asked_142 : decode cL_asked 142 = .ok (.iload 4, 2) := by decide +kernel
theorem dL_asked_144 : decode cL_asked 144 = .ok (.ifCond .ge 7, 3) := by decide +kernel
theorem dL_asked_147 : decode cL_asked 147 = .ok (.iconst 2, 1) := by decide +kernel
theorem dL_asked_148 : decode cL_asked 148 = .ok (.goto 4, 3) := by decide +kernel
theorem dL_asked_151 : decode cL_asked 151 = .ok (.iconst 0, 1) := by decide +kernel
theorem dL_asked_152 : decode cL_asked 152 = .ok (.if_icmp .ne 28, 3) := by decide +kernel
theorem dL_asked_155 : decode cL_asked 155 = .ok (.aload_n 0, 1) := by decide +kernel
theorem dL_asked_156 : decode cL_asked 156 = .ok (.iload_n 2, 1) := by decide +kernel
theorem dL_asked_157 : decode cL_asked 157 = .ok (.iconst 0, 1) := by decide +kernel
theorem dL_asked_158 : decode cL_asked 158 = .ok (.invokevirtual 139, 3) := by decide +kernel
theorem dL_asked_161 : decode cL_asked 161 = .ok (.iconst (-1), 1) := by decide +kernel
theorem dL_asked_162 : decode cL_asked 162 = .ok (.if_icmp .ne 18, 3) := by decide +kernel
theorem dL_asked_165 : decode cL_asked 165 = .ok (.aload_n 0, 1) := by decide +kernel
theorem dL_asked_166 : decode cL_asked 166 = .ok (.iload_n 2, 1) := by decide +kernel
theorem dL_asked_167 : decode cL_asked 167 = .ok (.bipush 100, 2) := by decide +kernel
theorem dL_asked_169 : decode cL_asked 169 = .ok (.invokevirtual 139, 3) := by decide +kernel
theorem dL_asked_172 : decode cL_asked 172 = .ok (.iconst (-1), 1) := by decide +kernel
theorem dL_asked_173 : decode cL_asked 173 = .ok (.if_icmp .ne 7, 3) := by decide +kernel
theorem dL_asked_176 : decode cL_asked 176 = .ok (.iconst 1, 1) := by decide +kernel
theorem dL_asked_177 : decode cL_asked 177 = .ok (.goto 4, 3) := by decide +kernel
theorem dL_asked_180 : decode cL_asked 180 = .ok (.iconst 0, 1) := by decide +kernel
theorem dL_asked_181 : decode cL_asked 181 = .ok (.istore 7, 2) := by decide +kernel
theorem dL_asked_183 : decode cL_asked 183 = .ok (.bipush 7, 2) := by decide +kernel
theorem dL_asked_185 : decode cL_asked 185 = .ok (.anewarray 281, 3) := by decide +kernel
theorem dL_asked_188 : decode cL_asked 188 = .ok (.dup, 1) := by decide +kernel
theorem dL_asked_189 : decode cL_asked 189 = .ok (.iconst 0, 1) := by decide +kernel
theorem dL_asked_190 : decode cL_asked 190 = .ok (.aload_n 1, 1) := by decide +kernel
theorem dL_asked_191 : decode cL_asked 191 = .ok (.getfield 70, 3) := by decide +kernel
theorem dL_asked_194 : decode cL_asked 194 = .ok (.invokevirtual 282, 3) := by decide +kernel
theorem dL_asked_197 : decode cL_asked 197 = .ok (.checkcast 281, 3) := by decide +kernel
theorem dL_asked_200 : decode cL_asked 200 = .ok (.aastore, 1) := by decide +kernel
theorem dL_asked_201 : decode cL_asked 201 = .ok (.dup, 1) := by decide +kernel
theorem dL_asked_202 : decode cL_asked 202 = .ok (.iconst 1, 1) := by decide +kernel
theorem dL_asked_203 : decode cL_asked 203 = .ok (.aload_n 1, 1) := by decide +kernel
theorem dL_asked_204 : decode cL_asked 204 = .ok (.getfield 76, 3) := by decide +kernel
theorem dL_asked_207 : decode cL_asked 207 = .ok (.invokevirtual 282, 3) := by decide +kernel
theorem dL_asked_210 : decode cL_asked 210 = .ok (.checkcast 281, 3) := by decide +kernel
theorem dL_asked_213 : decode cL_asked 213 = .ok (.aastore, 1) := by decide +kernel
theorem dL_asked_214 : decode cL_asked 214 = .ok (.dup, 1) := by decide +kernel
theorem dL_asked_215 : decode cL_asked 215 = .ok (.iconst 2, 1) := by decide +kernel
theorem dL_asked_216 : decode cL_asked 216 = .ok (.aload_n 1, 1) := by decide +kernel
theorem dL_asked_217 : decode cL_asked 217 = .ok (.getfield 81, 3) := by decide +kernel
theorem dL_asked_220 : decode cL_asked 220 = .ok (.invokevirtual 282, 3) := by decide +kernel
theorem dL_asked_223 : decode cL_asked 223 = .ok (.checkcast 281, 3) := by decide +kernel
theorem dL_asked_226 : decode cL_asked 226 = .ok (.aastore, 1) := by decide +kernel
theorem dL_asked_227 : decode cL_asked 227 = .ok (.dup, 1) := by decide +kernel
theorem dL_asked_228 : decode cL_asked 228 = .ok (.iconst 3, 1) := by decide +kernel
theorem dL_asked_229 : decode cL_asked 229 = .ok (.aload_n 1, 1) := by decide +kernel
theorem dL_asked_230 : decode cL_asked 230 = .ok (.getfield 101, 3) := by decide +kernel
theorem dL_asked_233 : decode cL_asked 233 = .ok (.invokevirtual 282, 3) := by decide +kernel
theorem dL_asked_236 : decode cL_asked 236 = .ok (.checkcast 281, 3) := by decide +kernel
theorem dL_asked_239 : decode cL_asked 239 = .ok (.aastore, 1) := by decide +kernel
theorem dL_asked_240 : decode cL_asked 240 = .ok (.dup, 1) := by decide +kernel
theorem dL_asked_241 : decode cL_asked 241 = .ok (.iconst 4, 1) := by decide +kernel
theorem dL_asked_242 : decode cL_asked 242 = .ok (.aload_n 1, 1) := by decide +kernel
theorem dL_asked_243 : decode cL_asked 243 = .ok (.getfield 107, 3) := by decide +kernel
theorem dL_asked_246 : decode cL_asked 246 = .ok (.invokevirtual 282, 3) := by decide +kernel
theorem dL_asked_249 : decode cL_asked 249 = .ok (.checkcast 281, 3) := by decide +kernel
theorem dL_asked_252 : decode cL_asked 252 = .ok (.aastore, 1) := by decide +kernel
theorem dL_asked_253 : decode cL_asked 253 = .ok (.dup, 1) := by decide +kernel
theorem dL_asked_254 : decode cL_asked 254 = .ok (.iconst 5, 1) := by decide +kernel
theorem dL_asked_255 : decode cL_asked 255 = .ok (.aload_n 1, 1) := by decide +kernel
theorem dL_asked_256 : decode cL_asked 256 = .ok (.getfield 113, 3) := by decide +kernel
theorem dL_asked_259 : decode cL_asked 259 = .ok (.invokevirtual 282, 3) := by decide +kernel
theorem dL_asked_262 : decode cL_asked 262 = .ok (.checkcast 281, 3) := by decide +kernel
theorem dL_asked_265 : decode cL_asked 265 = .ok (.aastore, 1) := by decide +kernel
theorem dL_asked_266 : decode cL_asked 266 = .ok (.dup, 1) := by decide +kernel
theorem dL_asked_267 : decode cL_asked 267 = .ok (.bipush 6, 2) := by decide +kernel
theorem dL_asked_269 : decode cL_asked 269 = .ok (.aload_n 1, 1) := by decide +kernel
theorem dL_asked_270 : decode cL_asked 270 = .ok (.getfield 87, 3) := by decide +kernel
theorem dL_asked_273 : decode cL_asked 273 = .ok (.invokevirtual 282, 3) := by decide +kernel
theorem dL_asked_276 : decode cL_asked 276 = .ok (.checkcast 281, 3) := by decide +kernel
theorem dL_asked_279 : decode cL_asked 279 = .ok (.aastore, 1) := by decide +kernel
theorem dL_asked_280 : decode cL_asked 280 = .ok (.astore 8, 2) := by decide +kernel
theorem dL_asked_282 : decode cL_asked 282 = .ok (.iconst 0, 1) := by decide +kernel
theorem dL_asked_283 : decode cL_asked 283 = .ok (.istore 9, 2) := by decide +kernel
theorem dL_asked_285 : decode cL_asked 285 = .ok (.iload 9, 2) := by decide +kernel
theorem dL_asked_287 : decode cL_asked 287 = .ok (.bipush 40, 2) := by decide +kernel
theorem dL_asked_289 : decode cL_asked 289 = .ok (.if_icmp .gt 22, 3) := by decide +kernel
theorem dL_asked_292 : decode cL_asked 292 = .ok (.aload_n 1, 1) := by decide +kernel
theorem dL_asked_293 : decode cL_asked 293 = .ok (.iload_n 2, 1) := by decide +kernel
theorem dL_asked_294 : decode cL_asked 294 = .ok (.iload_n 3, 1) := by decide +kernel
theorem dL_asked_295 : decode cL_asked 295 = .ok (.invokevirtual 186, 3) := by decide +kernel
theorem dL_asked_298 : decode cL_asked 298 = .ok (.ifCond .ge 13, 3) := by decide +kernel
theorem dL_asked_301 : decode cL_asked 301 = .ok (.aload_n 1, 1) := by decide +kernel
theorem dL_asked_302 : decode cL_asked 302 = .ok (.invokevirtual 286, 3) := by decide +kernel
theorem dL_asked_305 : decode cL_asked 305 = .ok (.iinc 9 1, 3) := by decide +kernel
theorem dL_asked_308 : decode cL_asked 308 = .ok (.goto (-23), 3) := by decide +kernel
theorem dL_asked_311 : decode cL_asked 311 = .ok (.aload_n 0, 1) := by decide +kernel
theorem dL_asked_312 : decode cL_asked 312 = .ok (.iload_n 2, 1) := by decide +kernel
theorem dL_asked_313 : decode cL_asked 313 = .ok (.iload_n 3, 1) := by decide +kernel
theorem dL_asked_314 : decode cL_asked 314 = .ok (.invokevirtual 289, 3) := by decide +kernel
theorem dL_asked_317 : decode cL_asked 317 = .ok (.istore 10, 2) := by decide +kernel
theorem dL_asked_319 : decode cL_asked 319 = .ok (.iload 7, 2) := by decide +kernel
theorem dL_asked_321 : decode cL_asked 321 = .ok (.ifCond .eq 38, 3) := by decide +kernel
theorem dL_asked_324 : decode cL_asked 324 = .ok (.iload 9, 2) := by decide +kernel
theorem dL_asked_326 : decode cL_asked 326 = .ok (.bipush 40, 2) := by decide +kernel
theorem dL_asked_328 : decode cL_asked 328 = .ok (.if_icmp .gt 13, 3) := by decide +kernel
theorem dL_asked_331 : decode cL_asked 331 = .ok (.iload 10, 2) := by decide +kernel
theorem dL_asked_333 : decode cL_asked 333 = .ok (.iload 9, 2) := by decide +kernel
theorem dL_asked_335 : decode cL_asked 335 = .ok (.if_icmp .ne 24, 3) := by decide +kernel
theorem dL_asked_338 : decode cL_asked 338 = .ok (.goto 17, 3) := by decide +kernel
theorem dL_asked_341 : decode cL_asked 341 = .ok (.iload 10, 2) := by decide +kernel
theorem dL_asked_343 : decode cL_asked 343 = .ok (.bipush (-2), 2) := by decide +kernel
theorem dL_asked_345 : decode cL_asked 345 = .ok (.if_icmp .eq 10, 3) := by decide +kernel
theorem dL_asked_348 : decode cL_asked 348 = .ok (.iload 10, 2) := by decide +kernel
theorem dL_asked_350 : decode cL_asked 350 = .ok (.bipush 40, 2) := by decide +kernel
theorem dL_asked_352 : decode cL_asked 352 = .ok (.if_icmp .le 7, 3) := by decide +kernel
theorem dL_asked_355 : decode cL_asked 355 = .ok (.iconst 1, 1) := by decide +kernel
theorem dL_asked_356 : decode cL_asked 356 = .ok (.goto 4, 3) := by decide +kernel
theorem dL_asked_359 : decode cL_asked 359 = .ok (.iconst 0, 1) := by decide +kernel
theorem dL_asked_360 : decode cL_asked 360 = .ok (.istore 7, 2) := by decide +kernel
theorem dL_asked_362 : decode cL_asked 362 = .ok (.aload_n 1, 1) := by decide +kernel
theorem dL_asked_363 : decode cL_asked 363 = .ok (.aload 8, 2) := by decide +kernel
theorem dL_asked_365 : decode cL_asked 365 = .ok (.invokestatic 292, 3) := by decide +kernel
theorem dL_asked_368 : decode cL_asked 368 = .ok (.iconst 0, 1) := by decide +kernel
theorem dL_asked_369 : decode cL_asked 369 = .ok (.istore 11, 2) := by decide +kernel
theorem dL_asked_371 : decode cL_asked 371 = .ok (.aload_n 1, 1) := by decide +kernel
theorem dL_asked_372 : decode cL_asked 372 = .ok (.iload_n 2, 1) := by decide +kernel
theorem dL_asked_373 : decode cL_asked 373 = .ok (.iload_n 3, 1) := by decide +kernel
theorem dL_asked_374 : decode cL_asked 374 = .ok (.invokevirtual 186, 3) := by decide +kernel
theorem dL_asked_377 : decode cL_asked 377 = .ok (.ifCond .lt 15, 3) := by decide +kernel
theorem dL_asked_380 : decode cL_asked 380 = .ok (.aload_n 1, 1) := by decide +kernel
theorem dL_asked_381 : decode cL_asked 381 = .ok (.iload_n 2, 1) := by decide +kernel
theorem dL_asked_382 : decode cL_asked 382 = .ok (.iload_n 3, 1) := by decide +kernel
theorem dL_asked_383 : decode cL_asked 383 = .ok (.invokevirtual 190, 3) := by decide +kernel
theorem dL_asked_386 : decode cL_asked 386 = .ok (.iinc 11 1, 3) := by decide +kernel
theorem dL_asked_389 : decode cL_asked 389 = .ok (.goto (-18), 3) := by decide +kernel
theorem dL_asked_392 : decode cL_asked 392 = .ok (.iload 7, 2) := by decide +kernel
theorem dL_asked_394 : decode cL_asked 394 = .ok (.ifCond .eq 18, 3) := by decide +kernel
theorem dL_asked_397 : decode cL_asked 397 = .ok (.aload_n 0, 1) := by decide +kernel
theorem dL_asked_398 : decode cL_asked 398 = .ok (.iload_n 2, 1) := by decide +kernel
theorem dL_asked_399 : decode cL_asked 399 = .ok (.iload_n 3, 1) := by decide +kernel
theorem dL_asked_400 : decode cL_asked 400 = .ok (.invokevirtual 296, 3) := by decide +kernel
theorem dL_asked_403 : decode cL_asked 403 = .ok (.iload 11, 2) := by decide +kernel
theorem dL_asked_405 : decode cL_asked 405 = .ok (.if_icmp .ne 7, 3) := by decide +kernel
theorem dL_asked_408 : decode cL_asked 408 = .ok (.iconst 1, 1) := by decide +kernel
theorem dL_asked_409 : decode cL_asked 409 = .ok (.goto 4, 3) := by decide +kernel
theorem dL_asked_412 : decode cL_asked 412 = .ok (.iconst 0, 1) := by decide +kernel
theorem dL_asked_413 : decode cL_asked 413 = .ok (.istore 7, 2) := by decide +kernel
theorem dL_asked_415 : decode cL_asked 415 = .ok (.aload_n 1, 1) := by decide +kernel
theorem dL_asked_416 : decode cL_asked 416 = .ok (.aload 8, 2) := by decide +kernel
theorem dL_asked_418 : decode cL_asked 418 = .ok (.invokestatic 292, 3) := by decide +kernel
theorem dL_asked_421 : decode cL_asked 421 = .ok (.iload 7, 2) := by decide +kernel
theorem dL_asked_423 : decode cL_asked 423 = .ok (.ifCond .eq 15, 3) := by decide +kernel
theorem dL_asked_426 : decode cL_asked 426 = .ok (.aload_n 0, 1) := by decide +kernel
theorem dL_asked_427 : decode cL_asked 427 = .ok (.aload_n 1, 1) := by decide +kernel
theorem dL_asked_428 : decode cL_asked 428 = .ok (.invokestatic 172, 3) := by decide +kernel
theorem dL_asked_431 : decode cL_asked 431 = .ok (.ifCond .eq 7, 3) := by decide +kernel
theorem dL_asked_434 : decode cL_asked 434 = .ok (.iconst 1, 1) := by decide +kernel
theorem dL_asked_435 : decode cL_asked 435 = .ok (.goto 4, 3) := by decide +kernel
theorem dL_asked_438 : decode cL_asked 438 = .ok (.iconst 0, 1) := by decide +kernel
theorem dL_asked_439 : decode cL_asked 439 = .ok (.ireturn, 1) := by decide +kernel
theorem dL_back_0 : decode cL_back 0 = .ok (.bipush 7, 2) := by decide +kernel
theorem dL_back_2 : decode cL_back 2 = .ok (.anewarray 281, 3) := by decide +kernel
theorem dL_back_5 : decode cL_back 5 = .ok (.dup, 1) := by decide +kernel
theorem dL_back_6 : decode cL_back 6 = .ok (.iconst 0, 1) := by decide +kernel
theorem dL_back_7 : decode cL_back 7 = .ok (.aload_n 0, 1) := by decide +kernel
theorem dL_back_8 : decode cL_back 8 = .ok (.getfield 70, 3) := by decide +kernel
theorem dL_back_11 : decode cL_back 11 = .ok (.aastore, 1) := by decide +kernel
theorem dL_back_12 : decode cL_back 12 = .ok (.dup, 1) := by decide +kernel
theorem dL_back_13 : decode cL_back 13 = .ok (.iconst 1, 1) := by decide +kernel
theorem dL_back_14 : decode cL_back 14 = .ok (.aload_n 0, 1) := by decide +kernel
theorem dL_back_15 : decode cL_back 15 = .ok (.getfield 76, 3) := by decide +kernel
theorem dL_back_18 : decode cL_back 18 = .ok (.aastore, 1) := by decide +kernel
theorem dL_back_19 : decode cL_back 19 = .ok (.dup, 1) := by decide +kernel
theorem dL_back_20 : decode cL_back 20 = .ok (.iconst 2, 1) := by decide +kernel
theorem dL_back_21 : decode cL_back 21 = .ok (.aload_n 0, 1) := by decide +kernel
theorem dL_back_22 : decode cL_back 22 = .ok (.getfield 81, 3) := by decide +kernel
theorem dL_back_25 : decode cL_back 25 = .ok (.aastore, 1) := by decide +kernel
theorem dL_back_26 : decode cL_back 26 = .ok (.dup, 1) := by decide +kernel
theorem dL_back_27 : decode cL_back 27 = .ok (.iconst 3, 1) := by decide +kernel
theorem dL_back_28 : decode cL_back 28 = .ok (.aload_n 0, 1) := by decide +kernel
theorem dL_back_29 : decode cL_back 29 = .ok (.getfield 101, 3) := by decide +kernel
theorem dL_back_32 : decode cL_back 32 = .ok (.aastore, 1) := by decide +kernel
theorem dL_back_33 : decode cL_back 33 = .ok (.dup, 1) := by decide +kernel
theorem dL_back_34 : decode cL_back 34 = .ok (.iconst 4, 1) := by decide +kernel
theorem dL_back_35 : decode cL_back 35 = .ok (.aload_n 0, 1) := by decide +kernel
theorem dL_back_36 : decode cL_back 36 = .ok (.getfield 107, 3) := by decide +kernel
theorem dL_back_39 : decode cL_back 39 = .ok (.aastore, 1) := by decide +kernel
theorem dL_back_40 : decode cL_back 40 = .ok (.dup, 1) := by decide +kernel
theorem dL_back_41 : decode cL_back 41 = .ok (.iconst 5, 1) := by decide +kernel
theorem dL_back_42 : decode cL_back 42 = .ok (.aload_n 0, 1) := by decide +kernel
theorem dL_back_43 : decode cL_back 43 = .ok (.getfield 113, 3) := by decide +kernel
theorem dL_back_46 : decode cL_back 46 = .ok (.aastore, 1) := by decide +kernel
theorem dL_back_47 : decode cL_back 47 = .ok (.dup, 1) := by decide +kernel
theorem dL_back_48 : decode cL_back 48 = .ok (.bipush 6, 2) := by decide +kernel
theorem dL_back_50 : decode cL_back 50 = .ok (.aload_n 0, 1) := by decide +kernel
theorem dL_back_51 : decode cL_back 51 = .ok (.getfield 87, 3) := by decide +kernel
theorem dL_back_54 : decode cL_back 54 = .ok (.aastore, 1) := by decide +kernel
theorem dL_back_55 : decode cL_back 55 = .ok (.astore_n 2, 1) := by decide +kernel
theorem dL_back_56 : decode cL_back 56 = .ok (.iconst 0, 1) := by decide +kernel
theorem dL_back_57 : decode cL_back 57 = .ok (.istore_n 3, 1) := by decide +kernel
theorem dL_back_58 : decode cL_back 58 = .ok (.iload_n 3, 1) := by decide +kernel
theorem dL_back_59 : decode cL_back 59 = .ok (.aload_n 2, 1) := by decide +kernel
theorem dL_back_60 : decode cL_back 60 = .ok (.arraylength, 1) := by decide +kernel
theorem dL_back_61 : decode cL_back 61 = .ok (.if_icmp .ge 24, 3) := by decide +kernel
theorem dL_back_64 : decode cL_back 64 = .ok (.aload_n 1, 1) := by decide +kernel
theorem dL_back_65 : decode cL_back 65 = .ok (.iload_n 3, 1) := by decide +kernel
theorem dL_back_66 : decode cL_back 66 = .ok (.aaload, 1) := by decide +kernel
theorem dL_back_67 : decode cL_back 67 = .ok (.iconst 0, 1) := by decide +kernel
theorem dL_back_68 : decode cL_back 68 = .ok (.aload_n 2, 1) := by decide +kernel
theorem dL_back_69 : decode cL_back 69 = .ok (.iload_n 3, 1) := by decide +kernel
theorem dL_back_70 : decode cL_back 70 = .ok (.aaload, 1) := by decide +kernel
theorem dL_back_71 : decode cL_back 71 = .ok (.iconst 0, 1) := by decide +kernel
theorem dL_back_72 : decode cL_back 72 = .ok (.aload_n 1, 1) := by decide +kernel
theorem dL_back_73 : decode cL_back 73 = .ok (.iload_n 3, 1) := by decide +kernel
theorem dL_back_74 : decode cL_back 74 = .ok (.aaload, 1) := by decide +kernel
theorem dL_back_75 : decode cL_back 75 = .ok (.arraylength, 1) := by decide +kernel
theorem dL_back_76 : decode cL_back 76 = .ok (.invokestatic 299, 3) := by decide +kernel
theorem dL_back_79 : decode cL_back 79 = .ok (.iinc 3 1, 3) := by decide +kernel
theorem dL_back_82 : decode cL_back 82 = .ok (.goto (-24), 3) := by decide +kernel
theorem dL_back_85 : decode cL_back 85 = .ok (.return_, 1) := by decide +kernel
end
section
theorem zz_end : True := trivial
end
