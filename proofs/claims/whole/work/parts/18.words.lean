/-! THE STRING CONSTANTS: length() and charAt(k) of the JDK, over the machine: words and decode rows -/
theorem js_cJ0_length_8abf5 : (.code yJ0_length_8abf5 cJ0_length_8abf5 1 (some .int) : Cond) ∈ jBIG := jch3 (List.mem_of_getElem? (i := 23) rfl) rfl
theorem js_iJ0_length_8abf5 : (.instanceMethod yJ0_length_8abf5 : Cond) ∈ jBIG := jBIG_mem (List.mem_of_getElem? (i := 590) (by decide +kernel)) (by decide +kernel)
theorem js_eJ0_length_8abf5 : (.selects RJ0 yJ0_length_8abf5 yJ0_length_8abf5 : Cond) ∈ jBIG := jBIG_mem (List.mem_of_getElem? (i := 591) (by decide +kernel)) (by decide +kernel)
theorem js_nJ0_length_8abf5 : (.initialized RJ0 : Cond) ∈ jBIG := jBIG_mem (List.mem_of_getElem? (i := 104) (by decide +kernel)) (by decide +kernel)
theorem dJ0_length_8abf5_0 : decode cJ0_length_8abf5 0 = .ok (.aload_n 0, 1) := by decide +kernel
theorem dJ0_length_8abf5_1 : decode cJ0_length_8abf5 1 = .ok (.getfield 9, 3) := by decide +kernel
theorem dJ0_length_8abf5_4 : decode cJ0_length_8abf5 4 = .ok (.arraylength, 1) := by decide +kernel
theorem dJ0_length_8abf5_5 : decode cJ0_length_8abf5 5 = .ok (.aload_n 0, 1) := by decide +kernel
theorem dJ0_length_8abf5_6 : decode cJ0_length_8abf5 6 = .ok (.invokevirtual 335, 3) := by decide +kernel
theorem dJ0_length_8abf5_9 : decode cJ0_length_8abf5 9 = .ok (.ishr, 1) := by decide +kernel
theorem dJ0_length_8abf5_10 : decode cJ0_length_8abf5 10 = .ok (.ireturn, 1) := by decide +kernel
theorem js_cJ0_charAt_5068e : (.code yJ0_charAt_5068e cJ0_charAt_5068e 2 (some .char) : Cond) ∈ jBIG := jch3 (List.mem_of_getElem? (i := 33) rfl) rfl
theorem js_iJ0_charAt_5068e : (.instanceMethod yJ0_charAt_5068e : Cond) ∈ jBIG := jBIG_mem (List.mem_of_getElem? (i := 600) (by decide +kernel)) (by decide +kernel)
theorem js_eJ0_charAt_5068e : (.selects RJ0 yJ0_charAt_5068e yJ0_charAt_5068e : Cond) ∈ jBIG := jBIG_mem (List.mem_of_getElem? (i := 601) (by decide +kernel)) (by decide +kernel)
theorem js_nJ0_charAt_5068e : (.initialized RJ0 : Cond) ∈ jBIG := jBIG_mem (List.mem_of_getElem? (i := 104) (by decide +kernel)) (by decide +kernel)
theorem dJ0_charAt_5068e_0 : decode cJ0_charAt_5068e 0 = .ok (.aload_n 0, 1) := by decide +kernel
theorem dJ0_charAt_5068e_1 : decode cJ0_charAt_5068e 1 = .ok (.invokevirtual 492, 3) := by decide +kernel
theorem dJ0_charAt_5068e_4 : decode cJ0_charAt_5068e 4 = .ok (.ifCond .eq 12, 3) := by decide +kernel
theorem dJ0_charAt_5068e_7 : decode cJ0_charAt_5068e 7 = .ok (.aload_n 0, 1) := by decide +kernel
theorem dJ0_charAt_5068e_8 : decode cJ0_charAt_5068e 8 = .ok (.getfield 9, 3) := by decide +kernel
theorem dJ0_charAt_5068e_11 : decode cJ0_charAt_5068e 11 = .ok (.iload_n 1, 1) := by decide +kernel
theorem dJ0_charAt_5068e_12 : decode cJ0_charAt_5068e 12 = .ok (.invokestatic 495, 3) := by decide +kernel
theorem dJ0_charAt_5068e_15 : decode cJ0_charAt_5068e 15 = .ok (.ireturn, 1) := by decide +kernel
theorem dJ0_charAt_5068e_16 : decode cJ0_charAt_5068e 16 = .ok (.aload_n 0, 1) := by decide +kernel
theorem dJ0_charAt_5068e_17 : decode cJ0_charAt_5068e 17 = .ok (.getfield 9, 3) := by decide +kernel
theorem dJ0_charAt_5068e_20 : decode cJ0_charAt_5068e 20 = .ok (.iload_n 1, 1) := by decide +kernel
theorem dJ0_charAt_5068e_21 : decode cJ0_charAt_5068e 21 = .ok (.invokestatic 498, 3) := by decide +kernel
theorem dJ0_charAt_5068e_24 : decode cJ0_charAt_5068e 24 = .ok (.ireturn, 1) := by decide +kernel
theorem js_cJ0_coder_7d493 : (.code yJ0_coder_7d493 cJ0_coder_7d493 1 (some .byte) : Cond) ∈ jBIG := jch3 (List.mem_of_getElem? (i := 27) rfl) rfl
theorem js_iJ0_coder_7d493 : (.instanceMethod yJ0_coder_7d493 : Cond) ∈ jBIG := jBIG_mem (List.mem_of_getElem? (i := 594) (by decide +kernel)) (by decide +kernel)
theorem js_eJ0_coder_7d493 : (.selects RJ0 yJ0_coder_7d493 yJ0_coder_7d493 : Cond) ∈ jBIG := jBIG_mem (List.mem_of_getElem? (i := 595) (by decide +kernel)) (by decide +kernel)
theorem js_nJ0_coder_7d493 : (.initialized RJ0 : Cond) ∈ jBIG := jBIG_mem (List.mem_of_getElem? (i := 104) (by decide +kernel)) (by decide +kernel)
theorem dJ0_coder_7d493_0 : decode cJ0_coder_7d493 0 = .ok (.getstatic 38, 3) := by decide +kernel
theorem dJ0_coder_7d493_3 : decode cJ0_coder_7d493 3 = .ok (.ifCond .eq 10, 3) := by decide +kernel
theorem dJ0_coder_7d493_6 : decode cJ0_coder_7d493 6 = .ok (.aload_n 0, 1) := by decide +kernel
theorem dJ0_coder_7d493_7 : decode cJ0_coder_7d493 7 = .ok (.getfield 15, 3) := by decide +kernel
theorem dJ0_coder_7d493_10 : decode cJ0_coder_7d493 10 = .ok (.goto 4, 3) := by decide +kernel
theorem dJ0_coder_7d493_13 : decode cJ0_coder_7d493 13 = .ok (.iconst 1, 1) := by decide +kernel
theorem dJ0_coder_7d493_14 : decode cJ0_coder_7d493 14 = .ok (.ireturn, 1) := by decide +kernel
theorem js_cJ0_isLatin1_aae02 : (.code yJ0_isLatin1_aae02 cJ0_isLatin1_aae02 1 (some .boolean) : Cond) ∈ jBIG := jch3 (List.mem_of_getElem? (i := 37) rfl) rfl
theorem js_iJ0_isLatin1_aae02 : (.instanceMethod yJ0_isLatin1_aae02 : Cond) ∈ jBIG := jBIG_mem (List.mem_of_getElem? (i := 604) (by decide +kernel)) (by decide +kernel)
theorem js_eJ0_isLatin1_aae02 : (.selects RJ0 yJ0_isLatin1_aae02 yJ0_isLatin1_aae02 : Cond) ∈ jBIG := jBIG_mem (List.mem_of_getElem? (i := 605) (by decide +kernel)) (by decide +kernel)
theorem js_nJ0_isLatin1_aae02 : (.initialized RJ0 : Cond) ∈ jBIG := jBIG_mem (List.mem_of_getElem? (i := 104) (by decide +kernel)) (by decide +kernel)
theorem dJ0_isLatin1_aae02_0 : decode cJ0_isLatin1_aae02 0 = .ok (.getstatic 38, 3) := by decide +kernel
theorem dJ0_isLatin1_aae02_3 : decode cJ0_isLatin1_aae02 3 = .ok (.ifCond .eq 14, 3) := by decide +kernel
theorem dJ0_isLatin1_aae02_6 : decode cJ0_isLatin1_aae02 6 = .ok (.aload_n 0, 1) := by decide +kernel
theorem dJ0_isLatin1_aae02_7 : decode cJ0_isLatin1_aae02 7 = .ok (.getfield 15, 3) := by decide +kernel
theorem dJ0_isLatin1_aae02_10 : decode cJ0_isLatin1_aae02 10 = .ok (.ifCond .ne 7, 3) := by decide +kernel
theorem dJ0_isLatin1_aae02_13 : decode cJ0_isLatin1_aae02 13 = .ok (.iconst 1, 1) := by decide +kernel
theorem dJ0_isLatin1_aae02_14 : decode cJ0_isLatin1_aae02 14 = .ok (.goto 4, 3) := by decide +kernel
theorem dJ0_isLatin1_aae02_17 : decode cJ0_isLatin1_aae02 17 = .ok (.iconst 0, 1) := by decide +kernel
theorem dJ0_isLatin1_aae02_18 : decode cJ0_isLatin1_aae02 18 = .ok (.ireturn, 1) := by decide +kernel
theorem js_cJ0_checkIndex_df160 : (.code yJ0_checkIndex_df160 cJ0_checkIndex_df160 2 none : Cond) ∈ jBIG := jch3 (List.mem_of_getElem? (i := 43) rfl) rfl
theorem js_sJ0_checkIndex_df160 : (.static yJ0_checkIndex_df160 : Cond) ∈ jBIG := jBIG_mem (List.mem_of_getElem? (i := 611) (by decide +kernel)) (by decide +kernel)
theorem js_nJ0_checkIndex_df160 : (.initialized RJ0 : Cond) ∈ jBIG := jBIG_mem (List.mem_of_getElem? (i := 104) (by decide +kernel)) (by decide +kernel)
theorem dJ0_checkIndex_df160_0 : decode cJ0_checkIndex_df160 0 = .ok (.iload_n 0, 1) := by decide +kernel
theorem dJ0_checkIndex_df160_1 : decode cJ0_checkIndex_df160 1 = .ok (.iload_n 1, 1) := by decide +kernel
theorem dJ0_checkIndex_df160_2 : decode cJ0_checkIndex_df160 2 = .ok (.getstatic 1053, 3) := by decide +kernel
theorem dJ0_checkIndex_df160_5 : decode cJ0_checkIndex_df160 5 = .ok (.invokestatic 1059, 3) := by decide +kernel
theorem dJ0_checkIndex_df160_8 : decode cJ0_checkIndex_df160 8 = .ok (.pop, 1) := by decide +kernel
theorem dJ0_checkIndex_df160_9 : decode cJ0_checkIndex_df160 9 = .ok (.return_, 1) := by decide +kernel
theorem js_cJ1_charAt_3b067 : (.code yJ1_charAt_3b067 cJ1_charAt_3b067 2 (some .char) : Cond) ∈ jBIG := jch3 (List.mem_of_getElem? (i := 40) rfl) rfl
theorem js_sJ1_charAt_3b067 : (.static yJ1_charAt_3b067 : Cond) ∈ jBIG := jBIG_mem (List.mem_of_getElem? (i := 608) (by decide +kernel)) (by decide +kernel)
theorem js_nJ1_charAt_3b067 : (.initialized RJ1 : Cond) ∈ jBIG := jBIG_mem (List.mem_of_getElem? (i := 105) (by decide +kernel)) (by decide +kernel)
theorem dJ1_charAt_3b067_0 : decode cJ1_charAt_3b067 0 = .ok (.iload_n 1, 1) := by decide +kernel
theorem dJ1_charAt_3b067_1 : decode cJ1_charAt_3b067 1 = .ok (.aload_n 0, 1) := by decide +kernel
theorem dJ1_charAt_3b067_2 : decode cJ1_charAt_3b067 2 = .ok (.arraylength, 1) := by decide +kernel
theorem dJ1_charAt_3b067_3 : decode cJ1_charAt_3b067 3 = .ok (.invokestatic 9, 3) := by decide +kernel
theorem dJ1_charAt_3b067_6 : decode cJ1_charAt_3b067 6 = .ok (.aload_n 0, 1) := by decide +kernel
theorem dJ1_charAt_3b067_7 : decode cJ1_charAt_3b067 7 = .ok (.iload_n 1, 1) := by decide +kernel
theorem dJ1_charAt_3b067_8 : decode cJ1_charAt_3b067 8 = .ok (.baload, 1) := by decide +kernel
theorem dJ1_charAt_3b067_9 : decode cJ1_charAt_3b067 9 = .ok (.sipush 255, 3) := by decide +kernel
theorem dJ1_charAt_3b067_12 : decode cJ1_charAt_3b067 12 = .ok (.iand, 1) := by decide +kernel
theorem dJ1_charAt_3b067_13 : decode cJ1_charAt_3b067 13 = .ok (.i2c, 1) := by decide +kernel
theorem dJ1_charAt_3b067_14 : decode cJ1_charAt_3b067 14 = .ok (.ireturn, 1) := by decide +kernel
theorem js_cJ3_checkIndex_8e157 : (.code yJ3_checkIndex_8e157 cJ3_checkIndex_8e157 3 (some .int) : Cond) ∈ jBIG := jch3 (List.mem_of_getElem? (i := 48) rfl) rfl
theorem js_sJ3_checkIndex_8e157 : (.static yJ3_checkIndex_8e157 : Cond) ∈ jBIG := jBIG_mem (List.mem_of_getElem? (i := 616) (by decide +kernel)) (by decide +kernel)
theorem js_nJ3_checkIndex_8e157 : (.initialized RJ3 : Cond) ∈ jBIG := jBIG_mem (List.mem_of_getElem? (i := 106) (by decide +kernel)) (by decide +kernel)
theorem dJ3_checkIndex_8e157_0 : decode cJ3_checkIndex_8e157 0 = .ok (.iload_n 0, 1) := by decide +kernel
theorem dJ3_checkIndex_8e157_1 : decode cJ3_checkIndex_8e157 1 = .ok (.ifCond .lt 8, 3) := by decide +kernel
theorem dJ3_checkIndex_8e157_4 : decode cJ3_checkIndex_8e157 4 = .ok (.iload_n 0, 1) := by decide +kernel
theorem dJ3_checkIndex_8e157_5 : decode cJ3_checkIndex_8e157 5 = .ok (.iload_n 1, 1) := by decide +kernel
theorem dJ3_checkIndex_8e157_6 : decode cJ3_checkIndex_8e157 6 = .ok (.if_icmp .lt 10, 3) := by decide +kernel
theorem dJ3_checkIndex_8e157_9 : decode cJ3_checkIndex_8e157 9 = .ok (.aload_n 2, 1) := by decide +kernel
theorem dJ3_checkIndex_8e157_10 : decode cJ3_checkIndex_8e157 10 = .ok (.iload_n 0, 1) := by decide +kernel
theorem dJ3_checkIndex_8e157_11 : decode cJ3_checkIndex_8e157 11 = .ok (.iload_n 1, 1) := by decide +kernel
theorem dJ3_checkIndex_8e157_12 : decode cJ3_checkIndex_8e157 12 = .ok (.invokestatic 95, 3) := by decide +kernel
theorem dJ3_checkIndex_8e157_15 : decode cJ3_checkIndex_8e157 15 = .ok (.athrow, 1) := by decide +kernel
theorem dJ3_checkIndex_8e157_16 : decode cJ3_checkIndex_8e157 16 = .ok (.iload_n 0, 1) := by decide +kernel
theorem dJ3_checkIndex_8e157_17 : decode cJ3_checkIndex_8e157 17 = .ok (.ireturn, 1) := by decide +kernel
theorem js_l166 : (.methodLink RX5 166 yJ0_length_8abf5 : Cond) ∈ jBIG := jBIG_mem (List.mem_of_getElem? (i := 589) (by decide +kernel)) (by decide +kernel)
theorem js_l172 : (.methodLink RX5 172 yJ0_charAt_5068e : Cond) ∈ jBIG := jBIG_mem (List.mem_of_getElem? (i := 599) (by decide +kernel)) (by decide +kernel)
theorem js_l335 : (.methodLink RJ0 335 yJ0_coder_7d493 : Cond) ∈ jBIG := jBIG_mem (List.mem_of_getElem? (i := 593) (by decide +kernel)) (by decide +kernel)
theorem js_l492 : (.methodLink RJ0 492 yJ0_isLatin1_aae02 : Cond) ∈ jBIG := jBIG_mem (List.mem_of_getElem? (i := 603) (by decide +kernel)) (by decide +kernel)
theorem js_l495 : (.methodLink RJ0 495 yJ1_charAt_3b067 : Cond) ∈ jBIG := jBIG_mem (List.mem_of_getElem? (i := 607) (by decide +kernel)) (by decide +kernel)
theorem js_l9 : (.methodLink RJ1 9 yJ0_checkIndex_df160 : Cond) ∈ jBIG := jBIG_mem (List.mem_of_getElem? (i := 610) (by decide +kernel)) (by decide +kernel)
theorem js_l1059 : (.methodLink RJ0 1059 yJ3_checkIndex_8e157 : Cond) ∈ jBIG := jBIG_mem (List.mem_of_getElem? (i := 615) (by decide +kernel)) (by decide +kernel)
theorem js_f38 : (.fieldLink RJ0 38 "java/lang/String" "COMPACT_STRINGS" "Z" : Cond) ∈ jBIG := jBIG_mem (List.mem_of_getElem? (i := 597) (by decide +kernel)) (by decide +kernel)
theorem js_f9 : (.fieldLink RJ0 9 "java/lang/String" "value" "[B" : Cond) ∈ jBIG := jBIG_mem (List.mem_of_getElem? (i := 1674) (by decide +kernel)) (by decide +kernel)
theorem js_f15 : (.fieldLink RJ0 15 "java/lang/String" "coder" "B" : Cond) ∈ jBIG := jBIG_mem (List.mem_of_getElem? (i := 1675) (by decide +kernel)) (by decide +kernel)
theorem js_f1053 : (.fieldLink RJ0 1053 "jdk/internal/util/Preconditions" "SIOOBE_FORMATTER" "Ljava/util/function/BiFunction;" : Cond) ∈ jBIG := jBIG_mem (List.mem_of_getElem? (i := 613) (by decide +kernel)) (by decide +kernel)
