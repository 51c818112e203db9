theorem fn_L_46 : FLN RL 46 12 0 .int true := ⟨by decide, rfl, _, _, _, "RateLimiterLaw", cf_12, by decide, nb (i := 731) (by decide +kernel), rfl⟩
theorem fn_L_212 : FLN RL 212 12 3 (.array .int) true := ⟨by decide, rfl, _, _, _, "RateLimiterLaw", cf_12, by decide, nb (i := 735) (by decide +kernel), rfl⟩
theorem fn_L_214 : FLN RL 214 12 4 (.array .int) true := ⟨by decide, rfl, _, _, _, "RateLimiterLaw", cf_12, by decide, nb (i := 737) (by decide +kernel), rfl⟩
theorem fn_L_220 : FLN RL 220 12 5 (.array .int) true := ⟨by decide, rfl, _, _, _, "RateLimiterLaw", cf_12, by decide, nb (i := 739) (by decide +kernel), rfl⟩
theorem fn_L_238 : FLN RL 238 12 6 (.array .int) true := ⟨by decide, rfl, _, _, _, "RateLimiterLaw", cf_12, by decide, nb (i := 741) (by decide +kernel), rfl⟩
theorem fn_L_243 : FLN RL 243 12 7 (.array .int) true := ⟨by decide, rfl, _, _, _, "RateLimiterLaw", cf_12, by decide, nb (i := 743) (by decide +kernel), rfl⟩
theorem fn_L_249 : FLN RL 249 12 8 (.array .int) true := ⟨by decide, rfl, _, _, _, "RateLimiterLaw", cf_12, by decide, nb (i := 745) (by decide +kernel), rfl⟩
theorem fn_L_254 : FLN RL 254 12 9 (.array .int) true := ⟨by decide, rfl, _, _, _, "RateLimiterLaw", cf_12, by decide, nb (i := 747) (by decide +kernel), rfl⟩
theorem fn_L_259 : FLN RL 259 12 10 (.array .boolean) true := ⟨by decide, rfl, _, _, _, "RateLimiterLaw", cf_12, by decide, nb (i := 749) (by decide +kernel), rfl⟩
theorem fn_L_70 : FLN RL 70 12 11 (.array .int) true := ⟨by decide, rfl, _, _, _, "RateLimiterLaw", cf_12, by decide, nb (i := 751) (by decide +kernel), rfl⟩
theorem fn_L_76 : FLN RL 76 12 12 (.array .int) true := ⟨by decide, rfl, _, _, _, "RateLimiterLaw", cf_12, by decide, nb (i := 753) (by decide +kernel), rfl⟩
theorem fn_L_81 : FLN RL 81 12 13 (.array .int) true := ⟨by decide, rfl, _, _, _, "RateLimiterLaw", cf_12, by decide, nb (i := 755) (by decide +kernel), rfl⟩
theorem fn_L_101 : FLN RL 101 12 14 (.array .int) true := ⟨by decide, rfl, _, _, _, "RateLimiterLaw", cf_12, by decide, nb (i := 757) (by decide +kernel), rfl⟩
theorem fn_L_107 : FLN RL 107 12 15 (.array .int) true := ⟨by decide, rfl, _, _, _, "RateLimiterLaw", cf_12, by decide, nb (i := 759) (by decide +kernel), rfl⟩
theorem fn_L_113 : FLN RL 113 12 16 (.array .int) true := ⟨by decide, rfl, _, _, _, "RateLimiterLaw", cf_12, by decide, nb (i := 761) (by decide +kernel), rfl⟩
theorem fn_L_87 : FLN RL 87 12 17 (.array .int) true := ⟨by decide, rfl, _, _, _, "RateLimiterLaw", cf_12, by decide, nb (i := 763) (by decide +kernel), rfl⟩
theorem fn_L_119 : FLN RL 119 12 18 (.array .int) true := ⟨by decide, rfl, _, _, _, "RateLimiterLaw", cf_12, by decide, nb (i := 765) (by decide +kernel), rfl⟩
theorem fn_L_122 : FLN RL 122 12 19 (.object "java/util/ArrayList") true := ⟨by decide, rfl, _, _, _, "RateLimiterLaw", cf_12, by decide, nb (i := 767) (by decide +kernel), rfl⟩
theorem fn_L_59 : FLN RL 59 12 20 .int false := ⟨by decide, rfl, _, _, _, "RateLimiterLaw", cf_12, by decide, nb (i := 768) (by decide +kernel), rfl⟩
theorem mv_J5_append_cf1ce : MV RJ4 yJ5_append_cf1ce := ⟨tb (i := 941) (by decide +kernel), tb (i := 934) (by decide +kernel), tb (i := 1564) (by decide +kernel), by decide⟩
theorem mv_J5_appendNull_278bc : MV RJ4 yJ5_appendNull_278bc := ⟨tb (i := 945) (by decide +kernel), tb (i := 934) (by decide +kernel), tb (i := 1565) (by decide +kernel), by decide⟩
theorem mu_J5_ensureCapacityInternal_d00df : MU RJ4 yJ5_ensureCapacityInternal_d00df yJ5_ensureCapacityInternal_d00df := ⟨tb (i := 949) (by decide +kernel), xsb (i := 0) (by decide +kernel), tb (i := 1566) (by decide +kernel), tb (i := 949) (by decide +kernel), prog_17_method_9_code, 3, none, tb (i := 950) (by decide +kernel)⟩
theorem mv_J5_ensureCapacityInternal_d00df : MV RJ4 yJ5_ensureCapacityInternal_d00df := ⟨tb (i := 949) (by decide +kernel), tb (i := 934) (by decide +kernel), tb (i := 1566) (by decide +kernel), by decide⟩
theorem mu_J5_newCapacity_0f7a4 : MU RJ4 yJ5_newCapacity_0f7a4 yJ5_newCapacity_0f7a4 := ⟨tb (i := 953) (by decide +kernel), xsb (i := 1) (by decide +kernel), tb (i := 1567) (by decide +kernel), tb (i := 953) (by decide +kernel), prog_17_method_10_code, 6, (some .int), tb (i := 954) (by decide +kernel)⟩
theorem mv_J5_newCapacity_0f7a4 : MV RJ4 yJ5_newCapacity_0f7a4 := ⟨tb (i := 953) (by decide +kernel), tb (i := 934) (by decide +kernel), tb (i := 1567) (by decide +kernel), by decide⟩
theorem mu_J5_isLatin1_aae02 : MU RJ4 yJ5_isLatin1_aae02 yJ5_isLatin1_aae02 := ⟨tb (i := 968) (by decide +kernel), tb (i := 970) (by decide +kernel), tb (i := 969) (by decide +kernel), tb (i := 968) (by decide +kernel), prog_17_method_68_code, 1, (some .boolean), tb (i := 971) (by decide +kernel)⟩
theorem mv_J5_isLatin1_aae02 : MV RJ4 yJ5_isLatin1_aae02 := ⟨tb (i := 968) (by decide +kernel), tb (i := 934) (by decide +kernel), tb (i := 969) (by decide +kernel), by decide⟩
theorem mu_J5_putStringAt_47b60 : MU RJ4 yJ5_putStringAt_47b60 yJ5_putStringAt_47b60 := ⟨tb (i := 1009) (by decide +kernel), xsb (i := 2) (by decide +kernel), tb (i := 1568) (by decide +kernel), tb (i := 1009) (by decide +kernel), prog_17_method_73_code, 3, none, tb (i := 1010) (by decide +kernel)⟩
theorem mv_J5_putStringAt_47b60 : MV RJ4 yJ5_putStringAt_47b60 := ⟨tb (i := 1009) (by decide +kernel), tb (i := 934) (by decide +kernel), tb (i := 1568) (by decide +kernel), by decide⟩
theorem mu_J5_inflateIfNeededFor_a7421 : MU RJ4 yJ5_inflateIfNeededFor_a7421 yJ5_inflateIfNeededFor_a7421 := ⟨tb (i := 1013) (by decide +kernel), xsb (i := 3) (by decide +kernel), tb (i := 1569) (by decide +kernel), tb (i := 1013) (by decide +kernel), prog_17_method_71_code, 2, none, tb (i := 1014) (by decide +kernel)⟩
theorem mv_J5_inflateIfNeededFor_a7421 : MV RJ4 yJ5_inflateIfNeededFor_a7421 := ⟨tb (i := 1013) (by decide +kernel), tb (i := 934) (by decide +kernel), tb (i := 1569) (by decide +kernel), by decide⟩
theorem mv_J5_inflate_da8c8 : MV RJ4 yJ5_inflate_da8c8 := ⟨tb (i := 1018) (by decide +kernel), tb (i := 934) (by decide +kernel), tb (i := 1570) (by decide +kernel), by decide⟩
theorem mv_J5_append_3fe6f : MV RJ4 yJ5_append_3fe6f := ⟨tb (i := 1046) (by decide +kernel), tb (i := 934) (by decide +kernel), tb (i := 1571) (by decide +kernel), by decide⟩
theorem mv_J5_append_c97b9 : MV RJ4 yJ5_append_c97b9 := ⟨tb (i := 1068) (by decide +kernel), tb (i := 934) (by decide +kernel), tb (i := 1572) (by decide +kernel), by decide⟩
theorem mu_J5_getValue_6d5f1 : MU RJ4 yJ5_getValue_6d5f1 yJ5_getValue_6d5f1 := ⟨tb (i := 1113) (by decide +kernel), tb (i := 1115) (by decide +kernel), tb (i := 1114) (by decide +kernel), tb (i := 1113) (by decide +kernel), prog_17_method_64_code, 1, (some (.array .byte)), tb (i := 1116) (by decide +kernel)⟩
theorem mv_J5_getValue_6d5f1 : MV RJ4 yJ5_getValue_6d5f1 := ⟨tb (i := 1113) (by decide +kernel), tb (i := 934) (by decide +kernel), tb (i := 1114) (by decide +kernel), by decide⟩
theorem mu_J5_length_8abf5 : MU RJ4 yJ5_length_8abf5 yJ4_length_8abf5 := ⟨tb (i := 1121) (by decide +kernel), tb (i := 1120) (by decide +kernel), tb (i := 1119) (by decide +kernel), tb (i := 1118) (by decide +kernel), prog_17_method_6_code, 1, (some .int), tb (i := 1124) (by decide +kernel)⟩
theorem mv_J5_length_8abf5 : MV RJ4 yJ5_length_8abf5 := ⟨tb (i := 1118) (by decide +kernel), tb (i := 934) (by decide +kernel), tb (i := 1119) (by decide +kernel), by decide⟩
theorem ob_n : Cond.native ⟨"java/lang/Object", "clone", "()Ljava/lang/Object;"⟩ ∈ gwt := tb (i := 962) (by decide +kernel)
theorem ob_i : Cond.instanceMethod ⟨"java/lang/Object", "clone", "()Ljava/lang/Object;"⟩ ∈ gwt := tb (i := 963) (by decide +kernel)
theorem ob_sI : Cond.sameMethod "[I" "java/lang/Object" "clone" "()Ljava/lang/Object;" ∈ gwt := tb (i := 1530) (by decide +kernel)
theorem ob_lI : Cond.selects "[I" ⟨"[I", "clone", "()Ljava/lang/Object;"⟩ ⟨"java/lang/Object", "clone", "()Ljava/lang/Object;"⟩ ∈ gwt := tb (i := 1531) (by decide +kernel)
theorem ob_cI : Cond.castable "[I" "java/lang/Cloneable" ∈ nst := nb (i := 1532) (by decide +kernel)
theorem ob_sB : Cond.sameMethod "[B" "java/lang/Object" "clone" "()Ljava/lang/Object;" ∈ gwt := tb (i := 961) (by decide +kernel)
theorem ob_lB : Cond.selects "[B" ⟨"[B", "clone", "()Ljava/lang/Object;"⟩ ⟨"java/lang/Object", "clone", "()Ljava/lang/Object;"⟩ ∈ gwt := tb (i := 964) (by decide +kernel)
theorem ob_cB : Cond.castable "[B" "java/lang/Cloneable" ∈ nst := nb (i := 965) (by decide +kernel)
theorem oc_J7_310 : Cond.methodLink RJ7 310 ⟨"[B", "clone", "()Ljava/lang/Object;"⟩ ∈ gwt := tb (i := 960) (by decide +kernel)
theorem oc_L_282 : Cond.methodLink RL 282 ⟨"[I", "clone", "()Ljava/lang/Object;"⟩ ∈ gwt := tb (i := 1529) (by decide +kernel)
theorem gx_Jx4a65c_39 : Cond.fieldLink RJx4a65c 39 "java/util/ArrayList" "DEFAULTCAPACITY_EMPTY_ELEMENTDATA" "[Ljava/lang/Object;" ∈ gwt := tb (i := 652) (by decide +kernel)
theorem gx_J5_18 : Cond.fieldLink RJ5 18 "java/lang/String" "COMPACT_STRINGS" "Z" ∈ gwt := tb (i := 913) (by decide +kernel)
theorem gx_J0_1053 : Cond.fieldLink RJ0 1053 "jdk/internal/util/Preconditions" "SIOOBE_FORMATTER" "Ljava/util/function/BiFunction;" ∈ gwt := tb (i := 984) (by decide +kernel)
theorem gx_J0_38 : Cond.fieldLink RJ0 38 "java/lang/String" "COMPACT_STRINGS" "Z" ∈ gwt := tb (i := 1006) (by decide +kernel)
theorem gx_J6_83 : Cond.fieldLink RJ6 83 "java/lang/Integer" "DigitOnes" "[B" ∈ gwt := tb (i := 1076) (by decide +kernel)
theorem gx_J6_87 : Cond.fieldLink RJ6 87 "java/lang/Integer" "DigitTens" "[B" ∈ gwt := tb (i := 1078) (by decide +kernel)
theorem gx_J2_403 : Cond.fieldLink RJ2 403 "java/lang/Integer" "DigitOnes" "[B" ∈ gwt := tb (i := 1086) (by decide +kernel)
theorem gx_J2_407 : Cond.fieldLink RJ2 407 "java/lang/Integer" "DigitTens" "[B" ∈ gwt := tb (i := 1087) (by decide +kernel)
theorem ca_list : Cond.castable "java/util/ArrayList" "java/lang/Object" ∈ nst := nb (i := 1586) (by decide +kernel)
