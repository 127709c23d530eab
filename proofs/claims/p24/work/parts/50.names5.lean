theorem dJ2_getChars_ba4f3_73 : decode cJ2_getChars_ba4f3 73 = .ok (.goto (-51), 3) := by decide +kernel
theorem dJ2_getChars_ba4f3_76 : decode cJ2_getChars_ba4f3 76 = .ok (.aload_n 2, 1) := by decide +kernel
theorem dJ2_getChars_ba4f3_77 : decode cJ2_getChars_ba4f3 77 = .ok (.iinc 5 (-1), 3) := by decide +kernel
theorem dJ2_getChars_ba4f3_80 : decode cJ2_getChars_ba4f3 80 = .ok (.iload 5, 2) := by decide +kernel
theorem dJ2_getChars_ba4f3_82 : decode cJ2_getChars_ba4f3 82 = .ok (.getstatic 403, 3) := by decide +kernel
theorem dJ2_getChars_ba4f3_85 : decode cJ2_getChars_ba4f3 85 = .ok (.iload_n 0, 1) := by decide +kernel
theorem dJ2_getChars_ba4f3_86 : decode cJ2_getChars_ba4f3 86 = .ok (.ineg, 1) := by decide +kernel
theorem dJ2_getChars_ba4f3_87 : decode cJ2_getChars_ba4f3 87 = .ok (.baload, 1) := by decide +kernel
theorem dJ2_getChars_ba4f3_88 : decode cJ2_getChars_ba4f3 88 = .ok (.invokestatic 111, 3) := by decide +kernel
theorem dJ2_getChars_ba4f3_91 : decode cJ2_getChars_ba4f3 91 = .ok (.iload_n 0, 1) := by decide +kernel
theorem dJ2_getChars_ba4f3_92 : decode cJ2_getChars_ba4f3 92 = .ok (.bipush (-9), 2) := by decide +kernel
theorem dJ2_getChars_ba4f3_94 : decode cJ2_getChars_ba4f3 94 = .ok (.if_icmp .ge 18, 3) := by decide +kernel
theorem dJ2_getChars_ba4f3_97 : decode cJ2_getChars_ba4f3 97 = .ok (.aload_n 2, 1) := by decide +kernel
theorem dJ2_getChars_ba4f3_98 : decode cJ2_getChars_ba4f3 98 = .ok (.iinc 5 (-1), 3) := by decide +kernel
theorem dJ2_getChars_ba4f3_101 : decode cJ2_getChars_ba4f3 101 = .ok (.iload 5, 2) := by decide +kernel
theorem dJ2_getChars_ba4f3_103 : decode cJ2_getChars_ba4f3 103 = .ok (.getstatic 407, 3) := by decide +kernel
theorem dJ2_getChars_ba4f3_106 : decode cJ2_getChars_ba4f3 106 = .ok (.iload_n 0, 1) := by decide +kernel
theorem dJ2_getChars_ba4f3_107 : decode cJ2_getChars_ba4f3 107 = .ok (.ineg, 1) := by decide +kernel
theorem dJ2_getChars_ba4f3_108 : decode cJ2_getChars_ba4f3 108 = .ok (.baload, 1) := by decide +kernel
theorem dJ2_getChars_ba4f3_109 : decode cJ2_getChars_ba4f3 109 = .ok (.invokestatic 111, 3) := by decide +kernel
theorem dJ2_getChars_ba4f3_112 : decode cJ2_getChars_ba4f3 112 = .ok (.iload 6, 2) := by decide +kernel
theorem dJ2_getChars_ba4f3_114 : decode cJ2_getChars_ba4f3 114 = .ok (.ifCond .eq 14, 3) := by decide +kernel
theorem dJ2_getChars_ba4f3_117 : decode cJ2_getChars_ba4f3 117 = .ok (.aload_n 2, 1) := by decide +kernel
theorem dJ2_getChars_ba4f3_118 : decode cJ2_getChars_ba4f3 118 = .ok (.iinc 5 (-1), 3) := by decide +kernel
theorem dJ2_getChars_ba4f3_121 : decode cJ2_getChars_ba4f3 121 = .ok (.iload 5, 2) := by decide +kernel
theorem dJ2_getChars_ba4f3_123 : decode cJ2_getChars_ba4f3 123 = .ok (.bipush 45, 2) := by decide +kernel
theorem dJ2_getChars_ba4f3_125 : decode cJ2_getChars_ba4f3 125 = .ok (.invokestatic 111, 3) := by decide +kernel
theorem dJ2_getChars_ba4f3_128 : decode cJ2_getChars_ba4f3 128 = .ok (.iload 5, 2) := by decide +kernel
theorem dJ2_getChars_ba4f3_130 : decode cJ2_getChars_ba4f3 130 = .ok (.ireturn, 1) := by decide +kernel
set_option maxRecDepth 20000 in
theorem ggJ2_checkIndex_2214a_J2_length_9d52b : GoodIn wsJ2_checkIndex_2214a wsJ2_length_9d52b := goodIn_r _ [4] (by decide +kernel) (by decide +kernel)
set_option maxRecDepth 20000 in
theorem gJ2_checkIndex_2214a_J2_length_9d52b : GoodIn wsJ2_checkIndex_2214a (va_wsS RJ2 48 yJ2_length_9d52b wsJ2_length_9d52b) := goodIn_app (goodIn_of _ (by decide +kernel)) ggJ2_checkIndex_2214a_J2_length_9d52b
set_option maxRecDepth 20000 in
theorem ggJ2_checkIndex_2214a_J0_checkIndex_df160 : GoodIn wsJ2_checkIndex_2214a wsJ0_checkIndex_df160 := goodIn_r _ [8, 9, 10, 11, 12, 13] (by decide +kernel) (by decide +kernel)
set_option maxRecDepth 20000 in
theorem gJ2_checkIndex_2214a_J0_checkIndex_df160 : GoodIn wsJ2_checkIndex_2214a (va_wsS RJ2 414 yJ0_checkIndex_df160 wsJ0_checkIndex_df160) := goodIn_app (goodIn_of _ (by decide +kernel)) ggJ2_checkIndex_2214a_J0_checkIndex_df160
theorem dJ2_checkIndex_2214a_0 : decode cJ2_checkIndex_2214a 0 = .ok (.iload_n 0, 1) := by decide +kernel
theorem dJ2_checkIndex_2214a_1 : decode cJ2_checkIndex_2214a 1 = .ok (.aload_n 1, 1) := by decide +kernel
theorem dJ2_checkIndex_2214a_2 : decode cJ2_checkIndex_2214a 2 = .ok (.invokestatic 48, 3) := by decide +kernel
theorem dJ2_checkIndex_2214a_5 : decode cJ2_checkIndex_2214a 5 = .ok (.invokestatic 414, 3) := by decide +kernel
theorem dJ2_checkIndex_2214a_8 : decode cJ2_checkIndex_2214a 8 = .ok (.return_, 1) := by decide +kernel
set_option maxRecDepth 20000 in
theorem ggJ2_checkBoundsBeginEnd_d044e_J2_length_9d52b : GoodIn wsJ2_checkBoundsBeginEnd_d044e wsJ2_length_9d52b := goodIn_r _ [4] (by decide +kernel) (by decide +kernel)
set_option maxRecDepth 20000 in
theorem gJ2_checkBoundsBeginEnd_d044e_J2_length_9d52b : GoodIn wsJ2_checkBoundsBeginEnd_d044e (va_wsS RJ2 48 yJ2_length_9d52b wsJ2_length_9d52b) := goodIn_app (goodIn_of _ (by decide +kernel)) ggJ2_checkBoundsBeginEnd_d044e_J2_length_9d52b
set_option maxRecDepth 20000 in
theorem ggJ2_checkBoundsBeginEnd_d044e_J0_checkBoundsBeginEnd_23922 : GoodIn wsJ2_checkBoundsBeginEnd_d044e wsJ0_checkBoundsBeginEnd_23922 := goodIn_r _ [8, 9, 10, 11, 12, 13] (by decide +kernel) (by decide +kernel)
set_option maxRecDepth 20000 in
theorem gJ2_checkBoundsBeginEnd_d044e_J0_checkBoundsBeginEnd_23922 : GoodIn wsJ2_checkBoundsBeginEnd_d044e (va_wsS RJ2 241 yJ0_checkBoundsBeginEnd_23922 wsJ0_checkBoundsBeginEnd_23922) := goodIn_app (goodIn_of _ (by decide +kernel)) ggJ2_checkBoundsBeginEnd_d044e_J0_checkBoundsBeginEnd_23922
theorem dJ2_checkBoundsBeginEnd_d044e_0 : decode cJ2_checkBoundsBeginEnd_d044e 0 = .ok (.iload_n 0, 1) := by decide +kernel
theorem dJ2_checkBoundsBeginEnd_d044e_1 : decode cJ2_checkBoundsBeginEnd_d044e 1 = .ok (.iload_n 1, 1) := by decide +kernel
theorem dJ2_checkBoundsBeginEnd_d044e_2 : decode cJ2_checkBoundsBeginEnd_d044e 2 = .ok (.aload_n 2, 1) := by decide +kernel
theorem dJ2_checkBoundsBeginEnd_d044e_3 : decode cJ2_checkBoundsBeginEnd_d044e 3 = .ok (.invokestatic 48, 3) := by decide +kernel
theorem dJ2_checkBoundsBeginEnd_d044e_6 : decode cJ2_checkBoundsBeginEnd_d044e 6 = .ok (.invokestatic 241, 3) := by decide +kernel
theorem dJ2_checkBoundsBeginEnd_d044e_9 : decode cJ2_checkBoundsBeginEnd_d044e 9 = .ok (.return_, 1) := by decide +kernel
set_option maxRecDepth 20000 in
theorem ggJ2_checkBoundsOffCount_d044e_J2_length_9d52b : GoodIn wsJ2_checkBoundsOffCount_d044e wsJ2_length_9d52b := goodIn_r _ [4] (by decide +kernel) (by decide +kernel)
set_option maxRecDepth 20000 in
theorem gJ2_checkBoundsOffCount_d044e_J2_length_9d52b : GoodIn wsJ2_checkBoundsOffCount_d044e (va_wsS RJ2 48 yJ2_length_9d52b wsJ2_length_9d52b) := goodIn_app (goodIn_of _ (by decide +kernel)) ggJ2_checkBoundsOffCount_d044e_J2_length_9d52b
set_option maxRecDepth 20000 in
theorem ggJ2_checkBoundsOffCount_d044e_J0_checkBoundsOffCount_cabcc : GoodIn wsJ2_checkBoundsOffCount_d044e wsJ0_checkBoundsOffCount_cabcc := goodIn_r _ [8, 9, 10, 11, 12, 13] (by decide +kernel) (by decide +kernel)
set_option maxRecDepth 20000 in
theorem gJ2_checkBoundsOffCount_d044e_J0_checkBoundsOffCount_cabcc : GoodIn wsJ2_checkBoundsOffCount_d044e (va_wsS RJ2 419 yJ0_checkBoundsOffCount_cabcc wsJ0_checkBoundsOffCount_cabcc) := goodIn_app (goodIn_of _ (by decide +kernel)) ggJ2_checkBoundsOffCount_d044e_J0_checkBoundsOffCount_cabcc
theorem dJ2_checkBoundsOffCount_d044e_0 : decode cJ2_checkBoundsOffCount_d044e 0 = .ok (.iload_n 0, 1) := by decide +kernel
theorem dJ2_checkBoundsOffCount_d044e_1 : decode cJ2_checkBoundsOffCount_d044e 1 = .ok (.iload_n 1, 1) := by decide +kernel
theorem dJ2_checkBoundsOffCount_d044e_2 : decode cJ2_checkBoundsOffCount_d044e 2 = .ok (.aload_n 2, 1) := by decide +kernel
theorem dJ2_checkBoundsOffCount_d044e_3 : decode cJ2_checkBoundsOffCount_d044e 3 = .ok (.invokestatic 48, 3) := by decide +kernel
theorem dJ2_checkBoundsOffCount_d044e_6 : decode cJ2_checkBoundsOffCount_d044e 6 = .ok (.invokestatic 419, 3) := by decide +kernel
theorem dJ2_checkBoundsOffCount_d044e_9 : decode cJ2_checkBoundsOffCount_d044e 9 = .ok (.pop, 1) := by decide +kernel
theorem dJ2_checkBoundsOffCount_d044e_10 : decode cJ2_checkBoundsOffCount_d044e 10 = .ok (.return_, 1) := by decide +kernel
theorem dJ7_copyOf_9075b_0 : decode cJ7_copyOf_9075b 0 = .ok (.iload_n 1, 1) := by decide +kernel
theorem dJ7_copyOf_9075b_1 : decode cJ7_copyOf_9075b 1 = .ok (.aload_n 0, 1) := by decide +kernel
theorem dJ7_copyOf_9075b_2 : decode cJ7_copyOf_9075b 2 = .ok (.arraylength, 1) := by decide +kernel
theorem dJ7_copyOf_9075b_3 : decode cJ7_copyOf_9075b 3 = .ok (.if_icmp .ne 11, 3) := by decide +kernel
theorem dJ7_copyOf_9075b_6 : decode cJ7_copyOf_9075b 6 = .ok (.aload_n 0, 1) := by decide +kernel
theorem dJ7_copyOf_9075b_7 : decode cJ7_copyOf_9075b 7 = .ok (.invokevirtual 310, 3) := by decide +kernel
theorem dJ7_copyOf_9075b_10 : decode cJ7_copyOf_9075b 10 = .ok (.checkcast 311, 3) := by decide +kernel
theorem dJ7_copyOf_9075b_13 : decode cJ7_copyOf_9075b 13 = .ok (.areturn, 1) := by decide +kernel
theorem dJ7_copyOf_9075b_14 : decode cJ7_copyOf_9075b 14 = .ok (.iload_n 1, 1) := by decide +kernel
theorem dJ7_copyOf_9075b_15 : decode cJ7_copyOf_9075b 15 = .ok (.newarray .byte, 2) := by decide +kernel
theorem dJ7_copyOf_9075b_17 : decode cJ7_copyOf_9075b 17 = .ok (.astore_n 2, 1) := by decide +kernel
theorem dJ7_copyOf_9075b_18 : decode cJ7_copyOf_9075b 18 = .ok (.aload_n 0, 1) := by decide +kernel
theorem dJ7_copyOf_9075b_19 : decode cJ7_copyOf_9075b 19 = .ok (.iconst 0, 1) := by decide +kernel
theorem dJ7_copyOf_9075b_20 : decode cJ7_copyOf_9075b 20 = .ok (.aload_n 2, 1) := by decide +kernel
theorem dJ7_copyOf_9075b_21 : decode cJ7_copyOf_9075b 21 = .ok (.iconst 0, 1) := by decide +kernel
theorem dJ7_copyOf_9075b_22 : decode cJ7_copyOf_9075b 22 = .ok (.aload_n 0, 1) := by decide +kernel
theorem dJ7_copyOf_9075b_23 : decode cJ7_copyOf_9075b 23 = .ok (.arraylength, 1) := by decide +kernel
theorem dJ7_copyOf_9075b_24 : decode cJ7_copyOf_9075b 24 = .ok (.iload_n 1, 1) := by decide +kernel
theorem dJ7_copyOf_9075b_25 : decode cJ7_copyOf_9075b 25 = .ok (.invokestatic 304, 3) := by decide +kernel
theorem dJ7_copyOf_9075b_28 : decode cJ7_copyOf_9075b 28 = .ok (.invokestatic 150, 3) := by decide +kernel
theorem dJ7_copyOf_9075b_31 : decode cJ7_copyOf_9075b 31 = .ok (.aload_n 2, 1) := by decide +kernel
theorem dJ7_copyOf_9075b_32 : decode cJ7_copyOf_9075b 32 = .ok (.areturn, 1) := by decide +kernel
theorem dJ7_checkLength_df160_0 : decode cJ7_checkLength_df160 0 = .ok (.iload_n 1, 1) := by decide +kernel
theorem dJ7_checkLength_df160_1 : decode cJ7_checkLength_df160 1 = .ok (.iload_n 0, 1) := by decide +kernel
theorem dJ7_checkLength_df160_2 : decode cJ7_checkLength_df160 2 = .ok (.if_icmp .ge 35, 3) := by decide +kernel
theorem dJ7_checkLength_df160_5 : decode cJ7_checkLength_df160 5 = .ok (.new 43, 3) := by decide +kernel
theorem dJ7_checkLength_df160_8 : decode cJ7_checkLength_df160 8 = .ok (.dup, 1) := by decide +kernel
theorem dJ7_checkLength_df160_9 : decode cJ7_checkLength_df160 9 = .ok (.new 45, 3) := by decide +kernel
theorem dJ7_checkLength_df160_12 : decode cJ7_checkLength_df160 12 = .ok (.dup, 1) := by decide +kernel
theorem dJ7_checkLength_df160_13 : decode cJ7_checkLength_df160 13 = .ok (.invokespecial 47, 3) := by decide +kernel
theorem dJ7_checkLength_df160_16 : decode cJ7_checkLength_df160 16 = .ok (.iload_n 0, 1) := by decide +kernel
theorem dJ7_checkLength_df160_17 : decode cJ7_checkLength_df160 17 = .ok (.invokevirtual 54, 3) := by decide +kernel
theorem dJ7_checkLength_df160_20 : decode cJ7_checkLength_df160 20 = .ok (.ldc_w 337, 3) := by decide +kernel
theorem dJ7_checkLength_df160_23 : decode cJ7_checkLength_df160 23 = .ok (.invokevirtual 50, 3) := by decide +kernel
theorem dJ7_checkLength_df160_26 : decode cJ7_checkLength_df160 26 = .ok (.iload_n 1, 1) := by decide +kernel
theorem dJ7_checkLength_df160_27 : decode cJ7_checkLength_df160 27 = .ok (.invokevirtual 54, 3) := by decide +kernel
theorem dJ7_checkLength_df160_30 : decode cJ7_checkLength_df160 30 = .ok (.invokevirtual 61, 3) := by decide +kernel
theorem dJ7_checkLength_df160_33 : decode cJ7_checkLength_df160 33 = .ok (.invokespecial 65, 3) := by decide +kernel
theorem dJ7_checkLength_df160_36 : decode cJ7_checkLength_df160 36 = .ok (.athrow, 1) := by decide +kernel
theorem dJ7_checkLength_df160_37 : decode cJ7_checkLength_df160 37 = .ok (.return_, 1) := by decide +kernel
set_option maxRecDepth 20000 in
theorem ggJ7_copyOfRange_39247_J7_copyOfRangeByte_39247 : GoodIn wsJ7_copyOfRange_39247 wsJ7_copyOfRangeByte_39247 := goodIn_r _ [10, 11, 12, 13, 14, 15, 16, 17, 18, 19, 20, 21, 9, 22, 23, 24, 25, 26, 27, 28, 29] (by decide +kernel) (by decide +kernel)
set_option maxRecDepth 20000 in
theorem gJ7_copyOfRange_39247_J7_copyOfRangeByte_39247 : GoodIn wsJ7_copyOfRange_39247 (va_wsS RJ7 339 yJ7_copyOfRangeByte_39247 wsJ7_copyOfRangeByte_39247) := goodIn_app (goodIn_of _ (by decide +kernel)) ggJ7_copyOfRange_39247_J7_copyOfRangeByte_39247
theorem dJ7_copyOfRange_39247_0 : decode cJ7_copyOfRange_39247 0 = .ok (.iload_n 1, 1) := by decide +kernel
theorem dJ7_copyOfRange_39247_1 : decode cJ7_copyOfRange_39247 1 = .ok (.ifCond .ne 9, 3) := by decide +kernel
theorem dJ7_copyOfRange_39247_4 : decode cJ7_copyOfRange_39247 4 = .ok (.iload_n 2, 1) := by decide +kernel
theorem dJ7_copyOfRange_39247_5 : decode cJ7_copyOfRange_39247 5 = .ok (.aload_n 0, 1) := by decide +kernel
theorem dJ7_copyOfRange_39247_6 : decode cJ7_copyOfRange_39247 6 = .ok (.arraylength, 1) := by decide +kernel
theorem dJ7_copyOfRange_39247_7 : decode cJ7_copyOfRange_39247 7 = .ok (.if_icmp .eq 10, 3) := by decide +kernel
theorem dJ7_copyOfRange_39247_10 : decode cJ7_copyOfRange_39247 10 = .ok (.aload_n 0, 1) := by decide +kernel
theorem dJ7_copyOfRange_39247_11 : decode cJ7_copyOfRange_39247 11 = .ok (.iload_n 1, 1) := by decide +kernel
theorem dJ7_copyOfRange_39247_12 : decode cJ7_copyOfRange_39247 12 = .ok (.iload_n 2, 1) := by decide +kernel
theorem dJ7_copyOfRange_39247_13 : decode cJ7_copyOfRange_39247 13 = .ok (.invokestatic 339, 3) := by decide +kernel
theorem dJ7_copyOfRange_39247_16 : decode cJ7_copyOfRange_39247 16 = .ok (.areturn, 1) := by decide +kernel
theorem dJ7_copyOfRange_39247_17 : decode cJ7_copyOfRange_39247 17 = .ok (.aload_n 0, 1) := by decide +kernel
theorem dJ7_copyOfRange_39247_18 : decode cJ7_copyOfRange_39247 18 = .ok (.invokevirtual 310, 3) := by decide +kernel
theorem dJ7_copyOfRange_39247_21 : decode cJ7_copyOfRange_39247 21 = .ok (.checkcast 311, 3) := by decide +kernel
theorem dJ7_copyOfRange_39247_24 : decode cJ7_copyOfRange_39247 24 = .ok (.areturn, 1) := by decide +kernel
set_option maxRecDepth 20000 in
theorem ggJ7_copyOfRangeByte_39247_J7_checkLength_df160 : GoodIn wsJ7_copyOfRangeByte_39247 wsJ7_checkLength_df160 := goodIn_r _ [13, 14, 15, 16, 17, 18, 19, 20] (by decide +kernel) (by decide +kernel)
set_option maxRecDepth 20000 in
theorem gJ7_copyOfRangeByte_39247_J7_checkLength_df160 : GoodIn wsJ7_copyOfRangeByte_39247 (va_wsS RJ7 343 yJ7_checkLength_df160 wsJ7_checkLength_df160) := goodIn_app (goodIn_of _ (by decide +kernel)) ggJ7_copyOfRangeByte_39247_J7_checkLength_df160
theorem dJ7_copyOfRangeByte_39247_0 : decode cJ7_copyOfRangeByte_39247 0 = .ok (.iload_n 1, 1) := by decide +kernel
theorem dJ7_copyOfRangeByte_39247_1 : decode cJ7_copyOfRangeByte_39247 1 = .ok (.iload_n 2, 1) := by decide +kernel
theorem dJ7_copyOfRangeByte_39247_2 : decode cJ7_copyOfRangeByte_39247 2 = .ok (.invokestatic 343, 3) := by decide +kernel
theorem dJ7_copyOfRangeByte_39247_5 : decode cJ7_copyOfRangeByte_39247 5 = .ok (.iload_n 2, 1) := by decide +kernel
theorem dJ7_copyOfRangeByte_39247_6 : decode cJ7_copyOfRangeByte_39247 6 = .ok (.iload_n 1, 1) := by decide +kernel
theorem dJ7_copyOfRangeByte_39247_7 : decode cJ7_copyOfRangeByte_39247 7 = .ok (.isub, 1) := by decide +kernel
theorem dJ7_copyOfRangeByte_39247_8 : decode cJ7_copyOfRangeByte_39247 8 = .ok (.istore_n 3, 1) := by decide +kernel
theorem dJ7_copyOfRangeByte_39247_9 : decode cJ7_copyOfRangeByte_39247 9 = .ok (.iload_n 3, 1) := by decide +kernel
theorem dJ7_copyOfRangeByte_39247_10 : decode cJ7_copyOfRangeByte_39247 10 = .ok (.newarray .byte, 2) := by decide +kernel
theorem dJ7_copyOfRangeByte_39247_12 : decode cJ7_copyOfRangeByte_39247 12 = .ok (.astore 4, 2) := by decide +kernel
theorem dJ7_copyOfRangeByte_39247_14 : decode cJ7_copyOfRangeByte_39247 14 = .ok (.aload_n 0, 1) := by decide +kernel
theorem dJ7_copyOfRangeByte_39247_15 : decode cJ7_copyOfRangeByte_39247 15 = .ok (.iload_n 1, 1) := by decide +kernel
theorem dJ7_copyOfRangeByte_39247_16 : decode cJ7_copyOfRangeByte_39247 16 = .ok (.aload 4, 2) := by decide +kernel
theorem dJ7_copyOfRangeByte_39247_18 : decode cJ7_copyOfRangeByte_39247 18 = .ok (.iconst 0, 1) := by decide +kernel
theorem dJ7_copyOfRangeByte_39247_19 : decode cJ7_copyOfRangeByte_39247 19 = .ok (.aload_n 0, 1) := by decide +kernel
theorem dJ7_copyOfRangeByte_39247_20 : decode cJ7_copyOfRangeByte_39247 20 = .ok (.arraylength, 1) := by decide +kernel
theorem dJ7_copyOfRangeByte_39247_21 : decode cJ7_copyOfRangeByte_39247 21 = .ok (.iload_n 1, 1) := by decide +kernel
theorem dJ7_copyOfRangeByte_39247_22 : decode cJ7_copyOfRangeByte_39247 22 = .ok (.isub, 1) := by decide +kernel
theorem dJ7_copyOfRangeByte_39247_23 : decode cJ7_copyOfRangeByte_39247 23 = .ok (.iload_n 3, 1) := by decide +kernel
theorem dJ7_copyOfRangeByte_39247_24 : decode cJ7_copyOfRangeByte_39247 24 = .ok (.invokestatic 304, 3) := by decide +kernel
theorem dJ7_copyOfRangeByte_39247_27 : decode cJ7_copyOfRangeByte_39247 27 = .ok (.invokestatic 150, 3) := by decide +kernel
theorem dJ7_copyOfRangeByte_39247_30 : decode cJ7_copyOfRangeByte_39247 30 = .ok (.aload 4, 2) := by decide +kernel
theorem dJ7_copyOfRangeByte_39247_32 : decode cJ7_copyOfRangeByte_39247 32 = .ok (.areturn, 1) := by decide +kernel
set_option maxRecDepth 20000 in
theorem ggJ8_newLength_cabcc_J8_hugeLength_7cf53 : GoodIn wsJ8_newLength_cabcc wsJ8_hugeLength_7cf53 := goodIn_r _ [9, 5] (by decide +kernel) (by decide +kernel)
set_option maxRecDepth 20000 in
theorem gJ8_newLength_cabcc_J8_hugeLength_7cf53 : GoodIn wsJ8_newLength_cabcc (va_wsS RJ8 201 yJ8_hugeLength_7cf53 wsJ8_hugeLength_7cf53) := goodIn_app (goodIn_of _ (by decide +kernel)) ggJ8_newLength_cabcc_J8_hugeLength_7cf53
theorem dJ8_newLength_cabcc_0 : decode cJ8_newLength_cabcc 0 = .ok (.iload_n 0, 1) := by decide +kernel
theorem dJ8_newLength_cabcc_1 : decode cJ8_newLength_cabcc 1 = .ok (.iload_n 1, 1) := by decide +kernel
theorem dJ8_newLength_cabcc_2 : decode cJ8_newLength_cabcc 2 = .ok (.iload_n 2, 1) := by decide +kernel
theorem dJ8_newLength_cabcc_3 : decode cJ8_newLength_cabcc 3 = .ok (.invokestatic 194, 3) := by decide +kernel
theorem dJ8_newLength_cabcc_6 : decode cJ8_newLength_cabcc 6 = .ok (.iadd, 1) := by decide +kernel
theorem dJ8_newLength_cabcc_7 : decode cJ8_newLength_cabcc 7 = .ok (.istore_n 3, 1) := by decide +kernel
theorem dJ8_newLength_cabcc_8 : decode cJ8_newLength_cabcc 8 = .ok (.iconst 0, 1) := by decide +kernel
theorem dJ8_newLength_cabcc_9 : decode cJ8_newLength_cabcc 9 = .ok (.iload_n 3, 1) := by decide +kernel
theorem dJ8_newLength_cabcc_10 : decode cJ8_newLength_cabcc 10 = .ok (.if_icmp .ge 11, 3) := by decide +kernel
theorem dJ8_newLength_cabcc_13 : decode cJ8_newLength_cabcc 13 = .ok (.iload_n 3, 1) := by decide +kernel
theorem dJ8_newLength_cabcc_14 : decode cJ8_newLength_cabcc 14 = .ok (.ldc 200, 2) := by decide +kernel
theorem dJ8_newLength_cabcc_16 : decode cJ8_newLength_cabcc 16 = .ok (.if_icmp .gt 5, 3) := by decide +kernel
theorem dJ8_newLength_cabcc_19 : decode cJ8_newLength_cabcc 19 = .ok (.iload_n 3, 1) := by decide +kernel
theorem dJ8_newLength_cabcc_20 : decode cJ8_newLength_cabcc 20 = .ok (.ireturn, 1) := by decide +kernel
theorem dJ8_newLength_cabcc_21 : decode cJ8_newLength_cabcc 21 = .ok (.iload_n 0, 1) := by decide +kernel
theorem dJ8_newLength_cabcc_22 : decode cJ8_newLength_cabcc 22 = .ok (.iload_n 1, 1) := by decide +kernel
theorem dJ8_newLength_cabcc_23 : decode cJ8_newLength_cabcc 23 = .ok (.invokestatic 201, 3) := by decide +kernel
theorem dJ8_newLength_cabcc_26 : decode cJ8_newLength_cabcc 26 = .ok (.ireturn, 1) := by decide +kernel
theorem dJ8_hugeLength_7cf53_0 : decode cJ8_hugeLength_7cf53 0 = .ok (.iload_n 0, 1) := by decide +kernel
theorem dJ8_hugeLength_7cf53_1 : decode cJ8_hugeLength_7cf53 1 = .ok (.iload_n 1, 1) := by decide +kernel
theorem dJ8_hugeLength_7cf53_2 : decode cJ8_hugeLength_7cf53 2 = .ok (.iadd, 1) := by decide +kernel
theorem dJ8_hugeLength_7cf53_3 : decode cJ8_hugeLength_7cf53 3 = .ok (.istore_n 2, 1) := by decide +kernel
theorem dJ8_hugeLength_7cf53_4 : decode cJ8_hugeLength_7cf53 4 = .ok (.iload_n 2, 1) := by decide +kernel
theorem dJ8_hugeLength_7cf53_5 : decode cJ8_hugeLength_7cf53 5 = .ok (.ifCond .ge 44, 3) := by decide +kernel
theorem dJ8_hugeLength_7cf53_8 : decode cJ8_hugeLength_7cf53 8 = .ok (.new 204, 3) := by decide +kernel
theorem dJ8_hugeLength_7cf53_11 : decode cJ8_hugeLength_7cf53 11 = .ok (.dup, 1) := by decide +kernel
theorem dJ8_hugeLength_7cf53_12 : decode cJ8_hugeLength_7cf53 12 = .ok (.new 89, 3) := by decide +kernel
theorem dJ8_hugeLength_7cf53_15 : decode cJ8_hugeLength_7cf53 15 = .ok (.dup, 1) := by decide +kernel
theorem dJ8_hugeLength_7cf53_16 : decode cJ8_hugeLength_7cf53 16 = .ok (.invokespecial 91, 3) := by decide +kernel
theorem dJ8_hugeLength_7cf53_19 : decode cJ8_hugeLength_7cf53 19 = .ok (.ldc 206, 2) := by decide +kernel
theorem dJ8_hugeLength_7cf53_21 : decode cJ8_hugeLength_7cf53 21 = .ok (.invokevirtual 94, 3) := by decide +kernel
theorem dJ8_hugeLength_7cf53_24 : decode cJ8_hugeLength_7cf53 24 = .ok (.iload_n 0, 1) := by decide +kernel
theorem dJ8_hugeLength_7cf53_25 : decode cJ8_hugeLength_7cf53 25 = .ok (.invokevirtual 98, 3) := by decide +kernel
theorem dJ8_hugeLength_7cf53_28 : decode cJ8_hugeLength_7cf53 28 = .ok (.ldc 208, 2) := by decide +kernel
theorem dJ8_hugeLength_7cf53_30 : decode cJ8_hugeLength_7cf53 30 = .ok (.invokevirtual 94, 3) := by decide +kernel
theorem dJ8_hugeLength_7cf53_33 : decode cJ8_hugeLength_7cf53 33 = .ok (.iload_n 1, 1) := by decide +kernel
theorem dJ8_hugeLength_7cf53_34 : decode cJ8_hugeLength_7cf53 34 = .ok (.invokevirtual 98, 3) := by decide +kernel
theorem dJ8_hugeLength_7cf53_37 : decode cJ8_hugeLength_7cf53 37 = .ok (.ldc 210, 2) := by decide +kernel
theorem dJ8_hugeLength_7cf53_39 : decode cJ8_hugeLength_7cf53 39 = .ok (.invokevirtual 94, 3) := by decide +kernel
theorem dJ8_hugeLength_7cf53_42 : decode cJ8_hugeLength_7cf53 42 = .ok (.invokevirtual 101, 3) := by decide +kernel
theorem dJ8_hugeLength_7cf53_45 : decode cJ8_hugeLength_7cf53 45 = .ok (.invokespecial 212, 3) := by decide +kernel
theorem dJ8_hugeLength_7cf53_48 : decode cJ8_hugeLength_7cf53 48 = .ok (.athrow, 1) := by decide +kernel
theorem dJ8_hugeLength_7cf53_49 : decode cJ8_hugeLength_7cf53 49 = .ok (.iload_n 2, 1) := by decide +kernel
theorem dJ8_hugeLength_7cf53_50 : decode cJ8_hugeLength_7cf53 50 = .ok (.ldc 200, 2) := by decide +kernel
theorem dJ8_hugeLength_7cf53_52 : decode cJ8_hugeLength_7cf53 52 = .ok (.if_icmp .gt 6, 3) := by decide +kernel
theorem dJ8_hugeLength_7cf53_55 : decode cJ8_hugeLength_7cf53 55 = .ok (.ldc 200, 2) := by decide +kernel
theorem dJ8_hugeLength_7cf53_57 : decode cJ8_hugeLength_7cf53 57 = .ok (.ireturn, 1) := by decide +kernel
theorem dJ8_hugeLength_7cf53_58 : decode cJ8_hugeLength_7cf53 58 = .ok (.iload_n 2, 1) := by decide +kernel
theorem dJ8_hugeLength_7cf53_59 : decode cJ8_hugeLength_7cf53 59 = .ok (.ireturn, 1) := by decide +kernel
theorem dJ3_checkIndex_8e157_0 : decode cJ3_checkIndex_8e157 0 = .ok (.iload_n 0, 1) := by decide +kernel
theorem dJ3_checkIndex_8e157_1 : decode cJ3_checkIndex_8e157 1 = .ok (.ifCond .lt 8, 3) := by decide +kernel
theorem dJ3_checkIndex_8e157_4 : decode cJ3_checkIndex_8e157 4 = .ok (.iload_n 0, 1) := by decide +kernel
theorem dJ3_checkIndex_8e157_5 : decode cJ3_checkIndex_8e157 5 = .ok (.iload_n 1, 1) := by decide +kernel
theorem dJ3_checkIndex_8e157_6 : decode cJ3_checkIndex_8e157 6 = .ok (.if_icmp .lt 10, 3) := by decide +kernel
theorem dJ3_checkIndex_8e157_9 : decode cJ3_checkIndex_8e157 9 = .ok (.aload_n 2, 1) := by decide +kernel
theorem dJ3_checkIndex_8e157_10 : decode cJ3_checkIndex_8e157 10 = .ok (.iload_n 0, 1) := by decide +kernel
theorem dJ3_checkIndex_8e157_11 : decode cJ3_checkIndex_8e157 11 = .ok (.iload_n 1, 1) := by decide +kernel
theorem dJ3_checkIndex_8e157_12 : decode cJ3_checkIndex_8e157 12 = .ok (.invokestatic 95, 3) := by decide +kernel
theorem dJ3_checkIndex_8e157_15 : decode cJ3_checkIndex_8e157 15 = .ok (.athrow, 1) := by decide +kernel
theorem dJ3_checkIndex_8e157_16 : decode cJ3_checkIndex_8e157 16 = .ok (.iload_n 0, 1) := by decide +kernel
theorem dJ3_checkIndex_8e157_17 : decode cJ3_checkIndex_8e157 17 = .ok (.ireturn, 1) := by decide +kernel
theorem dJ3_checkFromToIndex_8c36e_0 : decode cJ3_checkFromToIndex_8c36e 0 = .ok (.iload_n 0, 1) := by decide +kernel
theorem dJ3_checkFromToIndex_8c36e_1 : decode cJ3_checkFromToIndex_8c36e 1 = .ok (.ifCond .lt 13, 3) := by decide +kernel
theorem dJ3_checkFromToIndex_8c36e_4 : decode cJ3_checkFromToIndex_8c36e 4 = .ok (.iload_n 0, 1) := by decide +kernel
theorem dJ3_checkFromToIndex_8c36e_5 : decode cJ3_checkFromToIndex_8c36e 5 = .ok (.iload_n 1, 1) := by decide +kernel
theorem dJ3_checkFromToIndex_8c36e_6 : decode cJ3_checkFromToIndex_8c36e 6 = .ok (.if_icmp .gt 8, 3) := by decide +kernel
theorem dJ3_checkFromToIndex_8c36e_9 : decode cJ3_checkFromToIndex_8c36e 9 = .ok (.iload_n 1, 1) := by decide +kernel
theorem dJ3_checkFromToIndex_8c36e_10 : decode cJ3_checkFromToIndex_8c36e 10 = .ok (.iload_n 2, 1) := by decide +kernel
theorem dJ3_checkFromToIndex_8c36e_11 : decode cJ3_checkFromToIndex_8c36e 11 = .ok (.if_icmp .le 11, 3) := by decide +kernel
theorem dJ3_checkFromToIndex_8c36e_14 : decode cJ3_checkFromToIndex_8c36e 14 = .ok (.aload_n 3, 1) := by decide +kernel
theorem dJ3_checkFromToIndex_8c36e_15 : decode cJ3_checkFromToIndex_8c36e 15 = .ok (.iload_n 0, 1) := by decide +kernel
theorem dJ3_checkFromToIndex_8c36e_16 : decode cJ3_checkFromToIndex_8c36e 16 = .ok (.iload_n 1, 1) := by decide +kernel
theorem dJ3_checkFromToIndex_8c36e_17 : decode cJ3_checkFromToIndex_8c36e 17 = .ok (.iload_n 2, 1) := by decide +kernel
theorem dJ3_checkFromToIndex_8c36e_18 : decode cJ3_checkFromToIndex_8c36e 18 = .ok (.invokestatic 99, 3) := by decide +kernel
theorem dJ3_checkFromToIndex_8c36e_21 : decode cJ3_checkFromToIndex_8c36e 21 = .ok (.athrow, 1) := by decide +kernel
theorem dJ3_checkFromToIndex_8c36e_22 : decode cJ3_checkFromToIndex_8c36e 22 = .ok (.iload_n 0, 1) := by decide +kernel
theorem dJ3_checkFromToIndex_8c36e_23 : decode cJ3_checkFromToIndex_8c36e 23 = .ok (.ireturn, 1) := by decide +kernel
theorem dJ3_checkFromIndexSize_8c36e_0 : decode cJ3_checkFromIndexSize_8c36e 0 = .ok (.iload_n 2, 1) := by decide +kernel
theorem dJ3_checkFromIndexSize_8c36e_1 : decode cJ3_checkFromIndexSize_8c36e 1 = .ok (.iload_n 0, 1) := by decide +kernel
theorem dJ3_checkFromIndexSize_8c36e_2 : decode cJ3_checkFromIndexSize_8c36e 2 = .ok (.ior, 1) := by decide +kernel
theorem dJ3_checkFromIndexSize_8c36e_3 : decode cJ3_checkFromIndexSize_8c36e 3 = .ok (.iload_n 1, 1) := by decide +kernel
theorem dJ3_checkFromIndexSize_8c36e_4 : decode cJ3_checkFromIndexSize_8c36e 4 = .ok (.ior, 1) := by decide +kernel
theorem dJ3_checkFromIndexSize_8c36e_5 : decode cJ3_checkFromIndexSize_8c36e 5 = .ok (.ifCond .lt 10, 3) := by decide +kernel
theorem dJ3_checkFromIndexSize_8c36e_8 : decode cJ3_checkFromIndexSize_8c36e 8 = .ok (.iload_n 1, 1) := by decide +kernel
theorem dJ3_checkFromIndexSize_8c36e_9 : decode cJ3_checkFromIndexSize_8c36e 9 = .ok (.iload_n 2, 1) := by decide +kernel
theorem dJ3_checkFromIndexSize_8c36e_10 : decode cJ3_checkFromIndexSize_8c36e 10 = .ok (.iload_n 0, 1) := by decide +kernel
theorem dJ3_checkFromIndexSize_8c36e_11 : decode cJ3_checkFromIndexSize_8c36e 11 = .ok (.isub, 1) := by decide +kernel
theorem dJ3_checkFromIndexSize_8c36e_12 : decode cJ3_checkFromIndexSize_8c36e 12 = .ok (.if_icmp .le 11, 3) := by decide +kernel
theorem dJ3_checkFromIndexSize_8c36e_15 : decode cJ3_checkFromIndexSize_8c36e 15 = .ok (.aload_n 3, 1) := by decide +kernel
theorem dJ3_checkFromIndexSize_8c36e_16 : decode cJ3_checkFromIndexSize_8c36e 16 = .ok (.iload_n 0, 1) := by decide +kernel
theorem dJ3_checkFromIndexSize_8c36e_17 : decode cJ3_checkFromIndexSize_8c36e 17 = .ok (.iload_n 1, 1) := by decide +kernel
theorem dJ3_checkFromIndexSize_8c36e_18 : decode cJ3_checkFromIndexSize_8c36e 18 = .ok (.iload_n 2, 1) := by decide +kernel
theorem dJ3_checkFromIndexSize_8c36e_19 : decode cJ3_checkFromIndexSize_8c36e 19 = .ok (.invokestatic 103, 3) := by decide +kernel
theorem dJ3_checkFromIndexSize_8c36e_22 : decode cJ3_checkFromIndexSize_8c36e 22 = .ok (.athrow, 1) := by decide +kernel
theorem dJ3_checkFromIndexSize_8c36e_23 : decode cJ3_checkFromIndexSize_8c36e 23 = .ok (.iload_n 0, 1) := by decide +kernel
theorem dJ3_checkFromIndexSize_8c36e_24 : decode cJ3_checkFromIndexSize_8c36e 24 = .ok (.ireturn, 1) := by decide +kernel
theorem dL_below_0 : decode cL_below 0 = .ok (.iload_n 0, 1) := by decide +kernel
theorem dL_below_1 : decode cL_below 1 = .ok (.ldc 7, 2) := by decide +kernel
theorem dL_below_3 : decode cL_below 3 = .ok (.iand, 1) := by decide +kernel
theorem dL_below_4 : decode cL_below 4 = .ok (.iload_n 1, 1) := by decide +kernel
theorem dL_below_5 : decode cL_below 5 = .ok (.irem, 1) := by decide +kernel
theorem dL_below_6 : decode cL_below 6 = .ok (.ireturn, 1) := by decide +kernel
theorem dL_cell_0 : decode cL_cell 0 = .ok (.iload_n 1, 1) := by decide +kernel
theorem dL_cell_1 : decode cL_cell 1 = .ok (.aload_n 0, 1) := by decide +kernel
theorem dL_cell_2 : decode cL_cell 2 = .ok (.arraylength, 1) := by decide +kernel
theorem dL_cell_3 : decode cL_cell 3 = .ok (.if_icmp .ge 9, 3) := by decide +kernel
theorem dL_cell_6 : decode cL_cell 6 = .ok (.aload_n 0, 1) := by decide +kernel
theorem dL_cell_7 : decode cL_cell 7 = .ok (.iload_n 1, 1) := by decide +kernel
theorem dL_cell_8 : decode cL_cell 8 = .ok (.iaload, 1) := by decide +kernel
theorem dL_cell_9 : decode cL_cell 9 = .ok (.goto 9, 3) := by decide +kernel
theorem dL_cell_12 : decode cL_cell 12 = .ok (.ldc 8, 2) := by decide +kernel
theorem dL_cell_14 : decode cL_cell 14 = .ok (.iload_n 1, 1) := by decide +kernel
theorem dL_cell_15 : decode cL_cell 15 = .ok (.iconst 3, 1) := by decide +kernel
theorem dL_cell_16 : decode cL_cell 16 = .ok (.iadd, 1) := by decide +kernel
theorem dL_cell_17 : decode cL_cell 17 = .ok (.imul, 1) := by decide +kernel
theorem dL_cell_18 : decode cL_cell 18 = .ok (.ireturn, 1) := by decide +kernel
set_option maxRecDepth 20000 in
theorem ggL_law_X7_init : GoodIn wsL_law wsX7_init := goodIn_r _ [6, 7, 8, 9, 10, 11, 12, 13, 14, 15, 16, 17, 18, 19, 20, 21, 22, 23, 24, 25, 26, 27, 28, 29, 30, 31, 32, 33, 34, 35, 36, 37, 38, 39, 40, 41, 42, 43, 44, 45, 46, 47, 48, 49, 50, 51, 52, 53, 54, 55, 56, 646, 647, 648, 649, 650, 651, 652, 637, 638, 639, 640, 641, 642, 643, 644, 645, 653, 654, 655, 656, 657, 658, 659, 660, 661, 662, 663, 664, 665, 666, 667, 668, 669, 670, 671, 672, 673, 674, 675, 676, 677, 678, 679, 680, 681, 682, 683, 684] (by decide +kernel) (by decide +kernel)
set_option maxRecDepth 20000 in
theorem gL_law_X7_init : GoodIn wsL_law (wsX7_init) := ggL_law_X7_init
set_option maxRecDepth 20000 in
theorem ggL_law_X7_crane : GoodIn wsL_law wsX7_crane := goodIn_ca (goodIn_ca (goodIn_r _ [60, 61, 62, 63, 64, 65, 15, 66, 67, 68, 13, 69, 70, 71, 72, 2, 73, 74, 75, 76, 12, 77, 78, 637, 638, 639, 640, 641, 642, 643, 644, 645, 653, 654, 655, 656, 657, 658, 659, 660, 661, 662, 663, 664, 646, 647, 648, 649, 650, 651, 652] (by decide +kernel) (by decide +kernel)) (goodIn_sub (fun _ h => List.mem_append_left _ (List.mem_append_left _ (List.mem_append_right _ h))) (by decide +kernel))) (goodIn_sub (fun _ h => List.mem_append_left _ (List.mem_append_right _ h)) (by decide +kernel))
set_option maxRecDepth 20000 in
theorem gL_law_X7_crane : GoodIn wsL_law (wsV RL 12 RX7 yX7_crane wsX7_crane) := goodIn_app (goodIn_of _ (by decide +kernel)) ggL_law_X7_crane
set_option maxRecDepth 20000 in
theorem ggL_law_X7_table : GoodIn wsL_law wsX7_table := goodIn_ca (goodIn_ca (goodIn_r _ [82, 61, 62, 83, 84, 85, 86, 68, 13, 87, 88, 89, 90, 2, 91, 92, 93, 65, 15, 71, 72, 73, 94, 95, 96, 17, 97, 98, 99, 100, 101, 102, 103, 104, 105, 106, 107, 108, 109, 110, 111, 112, 653, 654, 655, 656, 657, 658, 659, 660, 661, 662, 663, 664, 637, 638, 639, 640, 641, 642, 643, 644, 645, 646, 647, 648, 649, 650, 651, 652] (by decide +kernel) (by decide +kernel)) (goodIn_sub (fun _ h => List.mem_append_left _ (List.mem_append_left _ (List.mem_append_right _ h))) (by decide +kernel))) (goodIn_sub (fun _ h => List.mem_append_right _ h) (by decide +kernel))
set_option maxRecDepth 20000 in
theorem gL_law_X7_table : GoodIn wsL_law (wsV RL 16 RX7 yX7_table wsX7_table) := goodIn_app (goodIn_of _ (by decide +kernel)) ggL_law_X7_table
set_option maxRecDepth 20000 in
theorem ggL_law_L_cell : GoodIn wsL_law wsL_cell := goodIn_r _ [116, 117] (by decide +kernel) (by decide +kernel)
set_option maxRecDepth 20000 in
theorem gL_law_L_cell : GoodIn wsL_law (va_wsS RL 20 yL_cell wsL_cell) := goodIn_app (goodIn_of _ (by decide +kernel)) ggL_law_L_cell
set_option maxRecDepth 20000 in
theorem ggL_law_L_below : GoodIn wsL_law wsL_below := goodIn_r _ [120, 121] (by decide +kernel) (by decide +kernel)
set_option maxRecDepth 20000 in
theorem gL_law_L_below : GoodIn wsL_law (va_wsS RL 26 yL_below wsL_below) := goodIn_app (goodIn_of _ (by decide +kernel)) ggL_law_L_below
set_option maxRecDepth 20000 in
theorem ggL_law_L_isHeld : GoodIn wsL_law wsL_isHeld := goodIn_ca (goodIn_ca (goodIn_r _ [367, 266, 267, 268, 2, 269, 61, 62, 13, 164, 87, 157, 158, 159, 270, 271, 65, 130, 143, 29, 245, 272, 254, 273, 274, 275, 12, 276, 169, 277, 278, 279, 280, 19, 281, 282, 283, 21, 284, 285, 286, 287, 288, 289, 28, 290, 182, 190, 291, 292, 293, 294, 51, 189, 191, 192, 193, 53, 194, 195, 196, 197, 198, 199, 295, 368, 369, 370, 371, 66, 67, 204, 68, 69, 152, 301, 88, 89, 90, 91, 92, 93, 15, 71, 72, 73, 228, 229, 230, 17, 231, 232, 94, 95, 96, 97, 98, 99, 100, 101, 102, 103, 104, 105, 106, 107, 108, 109, 110, 111, 112, 324, 325, 326, 316, 259, 260, 208, 209, 210, 211, 212, 213, 214, 353, 354, 355, 356, 357, 358, 359, 360, 361, 362, 363, 364, 241, 242, 243, 244, 372, 373, 374, 375, 376, 377, 378, 379, 74, 75, 76, 77, 78, 380, 381, 382, 383, 384, 385, 386, 387, 388, 637, 638, 639, 640, 641, 642, 643, 644, 645, 646, 647, 648, 649, 650, 651, 652, 674, 675, 676, 677, 665, 666, 667, 668, 669, 678, 679, 680, 681, 682, 683, 684, 653, 654, 655, 656, 657, 658, 659, 660, 661, 662, 663, 664] (by decide +kernel) (by decide +kernel)) (goodIn_sub (fun _ h => List.mem_append_left _ (List.mem_append_left _ (List.mem_append_right _ h))) (by decide +kernel))) (goodIn_sub (fun _ h => List.mem_append_right _ h) (by decide +kernel))
set_option maxRecDepth 20000 in
theorem gL_law_L_isHeld : GoodIn wsL_law (va_wsS RL 33 yL_isHeld wsL_isHeld) := goodIn_app (goodIn_of _ (by decide +kernel)) ggL_law_L_isHeld
set_option maxRecDepth 20000 in
theorem ggL_law_X7_site : GoodIn wsL_law wsX7_site := goodIn_ca (goodIn_r _ [269, 61, 62, 13, 164, 87, 157, 158, 159, 270, 271, 65, 130, 143, 29, 245, 272, 254, 273, 274, 275, 12, 276, 169, 277, 278, 279, 2, 280, 19, 281, 282, 283, 21, 284, 285, 286, 287, 288, 289, 28, 290, 182, 190, 291, 292, 293, 294, 51, 189, 191, 192, 193, 53, 194, 195, 196, 197, 198, 199, 295, 637, 638, 639, 640, 641, 642, 643, 644, 645, 646, 647, 648, 649, 650, 651, 652, 674, 675, 676, 677, 665, 666, 667, 668, 669, 678, 679, 680, 681, 682, 683, 684] (by decide +kernel) (by decide +kernel)) (goodIn_sub (fun _ h => List.mem_append_left _ (List.mem_append_left _ (List.mem_append_right _ h))) (by decide +kernel))
set_option maxRecDepth 20000 in
theorem gL_law_X7_site : GoodIn wsL_law (wsV RL 37 RX7 yX7_site wsX7_site) := goodIn_app (goodIn_of _ (by decide +kernel)) ggL_law_X7_site
set_option maxRecDepth 20000 in
theorem ggL_law_X7_ofCrane : GoodIn wsL_law wsX7_ofCrane := goodIn_ca (goodIn_ca (goodIn_r _ [371, 61, 62, 66, 67, 204, 68, 69, 152, 13, 87, 159, 301, 88, 89, 90, 2, 91, 92, 93, 65, 15, 71, 72, 73, 228, 229, 230, 17, 231, 232, 94, 95, 96, 97, 98, 99, 100, 101, 102, 103, 104, 105, 106, 107, 108, 109, 110, 111, 112, 324, 325, 326, 316, 259, 260, 208, 209, 210, 211, 212, 213, 214, 653, 654, 655, 656, 657, 658, 659, 660, 661, 662, 663, 664, 637, 638, 639, 640, 641, 642, 643, 644, 645, 646, 647, 648, 649, 650, 651, 652] (by decide +kernel) (by decide +kernel)) (goodIn_sub (fun _ h => List.mem_append_left _ (List.mem_append_left _ (List.mem_append_right _ h))) (by decide +kernel))) (goodIn_sub (fun _ h => List.mem_append_right _ h) (by decide +kernel))
set_option maxRecDepth 20000 in
theorem gL_law_X7_ofCrane : GoodIn wsL_law (wsV RL 41 RX7 yX7_ofCrane wsX7_ofCrane) := goodIn_app (goodIn_of _ (by decide +kernel)) ggL_law_X7_ofCrane
theorem dL_law_0 : decode cL_law 0 = .ok (.new 9, 3) := by decide +kernel
theorem dL_law_3 : decode cL_law 3 = .ok (.dup, 1) := by decide +kernel
theorem dL_law_4 : decode cL_law 4 = .ok (.invokespecial 11, 3) := by decide +kernel
theorem dL_law_7 : decode cL_law 7 = .ok (.astore_n 1, 1) := by decide +kernel
theorem dL_law_8 : decode cL_law 8 = .ok (.aload_n 1, 1) := by decide +kernel
theorem dL_law_9 : decode cL_law 9 = .ok (.bipush 30, 2) := by decide +kernel
theorem dL_law_11 : decode cL_law 11 = .ok (.iconst 2, 1) := by decide +kernel
theorem dL_law_12 : decode cL_law 12 = .ok (.invokevirtual 12, 3) := by decide +kernel
theorem dL_law_15 : decode cL_law 15 = .ok (.pop, 1) := by decide +kernel
theorem dL_law_16 : decode cL_law 16 = .ok (.aload_n 1, 1) := by decide +kernel
theorem dL_law_17 : decode cL_law 17 = .ok (.iconst 0, 1) := by decide +kernel
theorem dL_law_18 : decode cL_law 18 = .ok (.bipush 80, 2) := by decide +kernel
theorem dL_law_20 : decode cL_law 20 = .ok (.bipush 60, 2) := by decide +kernel
theorem dL_law_22 : decode cL_law 22 = .ok (.bipush 40, 2) := by decide +kernel
theorem dL_law_24 : decode cL_law 24 = .ok (.bipush 20, 2) := by decide +kernel
theorem dL_law_26 : decode cL_law 26 = .ok (.invokevirtual 16, 3) := by decide +kernel
theorem dL_law_29 : decode cL_law 29 = .ok (.pop, 1) := by decide +kernel
theorem dL_law_30 : decode cL_law 30 = .ok (.iconst 5, 1) := by decide +kernel
theorem dL_law_31 : decode cL_law 31 = .ok (.newarray .int, 2) := by decide +kernel
theorem dL_law_33 : decode cL_law 33 = .ok (.astore_n 2, 1) := by decide +kernel
theorem dL_law_34 : decode cL_law 34 = .ok (.iconst 1, 1) := by decide +kernel
theorem dL_law_35 : decode cL_law 35 = .ok (.istore_n 3, 1) := by decide +kernel
theorem dL_law_36 : decode cL_law 36 = .ok (.iconst 0, 1) := by decide +kernel
theorem dL_law_37 : decode cL_law 37 = .ok (.istore 4, 2) := by decide +kernel
theorem dL_law_39 : decode cL_law 39 = .ok (.iload 4, 2) := by decide +kernel
theorem dL_law_41 : decode cL_law 41 = .ok (.bipush 60, 2) := by decide +kernel
theorem dL_law_43 : decode cL_law 43 = .ok (.if_icmp .ge 215, 3) := by decide +kernel
theorem dL_law_46 : decode cL_law 46 = .ok (.aload_n 0, 1) := by decide +kernel
theorem dL_law_47 : decode cL_law 47 = .ok (.iload 4, 2) := by decide +kernel
theorem dL_law_49 : decode cL_law 49 = .ok (.bipush 16, 2) := by decide +kernel
theorem dL_law_51 : decode cL_law 51 = .ok (.irem, 1) := by decide +kernel
theorem dL_law_52 : decode cL_law 52 = .ok (.invokestatic 20, 3) := by decide +kernel
theorem dL_law_55 : decode cL_law 55 = .ok (.bipush 59, 2) := by decide +kernel
theorem dL_law_57 : decode cL_law 57 = .ok (.iload 4, 2) := by decide +kernel
theorem dL_law_59 : decode cL_law 59 = .ok (.imul, 1) := by decide +kernel
theorem dL_law_60 : decode cL_law 60 = .ok (.iadd, 1) := by decide +kernel
theorem dL_law_61 : decode cL_law 61 = .ok (.istore 5, 2) := by decide +kernel
theorem dL_law_63 : decode cL_law 63 = .ok (.aload_n 1, 1) := by decide +kernel
theorem dL_law_64 : decode cL_law 64 = .ok (.iload 5, 2) := by decide +kernel
theorem dL_law_66 : decode cL_law 66 = .ok (.iconst 2, 1) := by decide +kernel
theorem dL_law_67 : decode cL_law 67 = .ok (.ishr, 1) := by decide +kernel
theorem dL_law_68 : decode cL_law 68 = .ok (.iload 5, 2) := by decide +kernel
theorem dL_law_70 : decode cL_law 70 = .ok (.bipush 14, 2) := by decide +kernel
theorem dL_law_72 : decode cL_law 72 = .ok (.invokestatic 26, 3) := by decide +kernel
theorem dL_law_75 : decode cL_law 75 = .ok (.invokestatic 29, 3) := by decide +kernel
theorem dL_law_78 : decode cL_law 78 = .ok (.ifCond .eq 10, 3) := by decide +kernel
theorem dL_law_81 : decode cL_law 81 = .ok (.aload_n 1, 1) := by decide +kernel
theorem dL_law_82 : decode cL_law 82 = .ok (.invokestatic 33, 3) := by decide +kernel
theorem dL_law_85 : decode cL_law 85 = .ok (.ifCond .ne 5, 3) := by decide +kernel
theorem dL_law_88 : decode cL_law 88 = .ok (.iconst 0, 1) := by decide +kernel
theorem dL_law_89 : decode cL_law 89 = .ok (.ireturn, 1) := by decide +kernel
theorem dL_law_90 : decode cL_law 90 = .ok (.aload_n 1, 1) := by decide +kernel
theorem dL_law_91 : decode cL_law 91 = .ok (.bipush 14, 2) := by decide +kernel
theorem dL_law_93 : decode cL_law 93 = .ok (.invokevirtual 37, 3) := by decide +kernel
theorem dL_law_96 : decode cL_law 96 = .ok (.iconst 1, 1) := by decide +kernel
theorem dL_law_97 : decode cL_law 97 = .ok (.if_icmp .ne 7, 3) := by decide +kernel
theorem dL_law_100 : decode cL_law 100 = .ok (.iconst 1, 1) := by decide +kernel
theorem dL_law_101 : decode cL_law 101 = .ok (.goto 4, 3) := by decide +kernel
theorem dL_law_104 : decode cL_law 104 = .ok (.iconst 0, 1) := by decide +kernel
theorem dL_law_105 : decode cL_law 105 = .ok (.istore 6, 2) := by decide +kernel
theorem dL_law_107 : decode cL_law 107 = .ok (.iload 6, 2) := by decide +kernel
theorem dL_law_109 : decode cL_law 109 = .ok (.ifCond .eq 9, 3) := by decide +kernel
theorem dL_law_112 : decode cL_law 112 = .ok (.iload_n 3, 1) := by decide +kernel
theorem dL_law_113 : decode cL_law 113 = .ok (.ifCond .ne 5, 3) := by decide +kernel
theorem dL_law_116 : decode cL_law 116 = .ok (.iconst 0, 1) := by decide +kernel
theorem dL_law_117 : decode cL_law 117 = .ok (.ireturn, 1) := by decide +kernel
theorem dL_law_118 : decode cL_law 118 = .ok (.iload 6, 2) := by decide +kernel
theorem dL_law_120 : decode cL_law 120 = .ok (.istore_n 3, 1) := by decide +kernel
theorem dL_law_121 : decode cL_law 121 = .ok (.iconst 5, 1) := by decide +kernel
theorem dL_law_122 : decode cL_law 122 = .ok (.newarray .int, 2) := by decide +kernel
theorem dL_law_124 : decode cL_law 124 = .ok (.dup, 1) := by decide +kernel
theorem dL_law_125 : decode cL_law 125 = .ok (.iconst 0, 1) := by decide +kernel
theorem dL_law_126 : decode cL_law 126 = .ok (.aload_n 1, 1) := by decide +kernel
theorem dL_law_127 : decode cL_law 127 = .ok (.iconst 0, 1) := by decide +kernel
theorem dL_law_128 : decode cL_law 128 = .ok (.invokevirtual 37, 3) := by decide +kernel
theorem dL_law_131 : decode cL_law 131 = .ok (.iastore, 1) := by decide +kernel
theorem dL_law_132 : decode cL_law 132 = .ok (.dup, 1) := by decide +kernel
theorem dL_law_133 : decode cL_law 133 = .ok (.iconst 1, 1) := by decide +kernel
theorem dL_law_134 : decode cL_law 134 = .ok (.aload_n 1, 1) := by decide +kernel
theorem dL_law_135 : decode cL_law 135 = .ok (.bipush 7, 2) := by decide +kernel
theorem dL_law_137 : decode cL_law 137 = .ok (.invokevirtual 37, 3) := by decide +kernel
theorem dL_law_140 : decode cL_law 140 = .ok (.iastore, 1) := by decide +kernel
theorem dL_law_141 : decode cL_law 141 = .ok (.dup, 1) := by decide +kernel
theorem dL_law_142 : decode cL_law 142 = .ok (.iconst 2, 1) := by decide +kernel
theorem dL_law_143 : decode cL_law 143 = .ok (.aload_n 1, 1) := by decide +kernel
theorem dL_law_144 : decode cL_law 144 = .ok (.bipush 13, 2) := by decide +kernel
theorem dL_law_146 : decode cL_law 146 = .ok (.invokevirtual 37, 3) := by decide +kernel
theorem dL_law_149 : decode cL_law 149 = .ok (.iastore, 1) := by decide +kernel
theorem dL_law_150 : decode cL_law 150 = .ok (.dup, 1) := by decide +kernel
theorem dL_law_151 : decode cL_law 151 = .ok (.iconst 3, 1) := by decide +kernel
theorem dL_law_152 : decode cL_law 152 = .ok (.aload_n 1, 1) := by decide +kernel
theorem dL_law_153 : decode cL_law 153 = .ok (.bipush 16, 2) := by decide +kernel
theorem dL_law_155 : decode cL_law 155 = .ok (.invokevirtual 37, 3) := by decide +kernel
theorem dL_law_158 : decode cL_law 158 = .ok (.iastore, 1) := by decide +kernel
theorem dL_law_159 : decode cL_law 159 = .ok (.dup, 1) := by decide +kernel
theorem dL_law_160 : decode cL_law 160 = .ok (.iconst 4, 1) := by decide +kernel
theorem dL_law_161 : decode cL_law 161 = .ok (.iconst 0, 1) := by decide +kernel
theorem dL_law_162 : decode cL_law 162 = .ok (.iastore, 1) := by decide +kernel
theorem dL_law_163 : decode cL_law 163 = .ok (.astore 7, 2) := by decide +kernel
theorem dL_law_165 : decode cL_law 165 = .ok (.iconst 0, 1) := by decide +kernel
theorem dL_law_166 : decode cL_law 166 = .ok (.istore 8, 2) := by decide +kernel
theorem dL_law_168 : decode cL_law 168 = .ok (.iload 8, 2) := by decide +kernel
theorem dL_law_170 : decode cL_law 170 = .ok (.aload_n 1, 1) := by decide +kernel
theorem dL_law_171 : decode cL_law 171 = .ok (.bipush 8, 2) := by decide +kernel
theorem dL_law_173 : decode cL_law 173 = .ok (.invokevirtual 37, 3) := by decide +kernel
theorem dL_law_176 : decode cL_law 176 = .ok (.if_icmp .ge 24, 3) := by decide +kernel
theorem dL_law_179 : decode cL_law 179 = .ok (.aload 7, 2) := by decide +kernel
theorem dL_law_181 : decode cL_law 181 = .ok (.iconst 4, 1) := by decide +kernel
theorem dL_law_182 : decode cL_law 182 = .ok (.dup2, 1) := by decide +kernel
theorem dL_law_183 : decode cL_law 183 = .ok (.iaload, 1) := by decide +kernel
theorem dL_law_184 : decode cL_law 184 = .ok (.aload_n 1, 1) := by decide +kernel
theorem dL_law_185 : decode cL_law 185 = .ok (.iload 8, 2) := by decide +kernel
theorem dL_law_187 : decode cL_law 187 = .ok (.bipush 9, 2) := by decide +kernel
theorem dL_law_189 : decode cL_law 189 = .ok (.invokevirtual 41, 3) := by decide +kernel
theorem dL_law_192 : decode cL_law 192 = .ok (.iadd, 1) := by decide +kernel
theorem dL_law_193 : decode cL_law 193 = .ok (.iastore, 1) := by decide +kernel
theorem dL_law_194 : decode cL_law 194 = .ok (.iinc 8 1, 3) := by decide +kernel
theorem dL_law_197 : decode cL_law 197 = .ok (.goto (-29), 3) := by decide +kernel
theorem dL_law_200 : decode cL_law 200 = .ok (.iconst 0, 1) := by decide +kernel
theorem dL_law_201 : decode cL_law 201 = .ok (.istore 8, 2) := by decide +kernel
theorem dL_law_203 : decode cL_law 203 = .ok (.iload 8, 2) := by decide +kernel
theorem dL_law_205 : decode cL_law 205 = .ok (.iconst 5, 1) := by decide +kernel
theorem dL_law_206 : decode cL_law 206 = .ok (.if_icmp .ge 23, 3) := by decide +kernel
theorem dL_law_209 : decode cL_law 209 = .ok (.aload 7, 2) := by decide +kernel
theorem dL_law_211 : decode cL_law 211 = .ok (.iload 8, 2) := by decide +kernel
theorem dL_law_213 : decode cL_law 213 = .ok (.iaload, 1) := by decide +kernel
theorem dL_law_214 : decode cL_law 214 = .ok (.aload_n 2, 1) := by decide +kernel
theorem dL_law_215 : decode cL_law 215 = .ok (.iload 8, 2) := by decide +kernel
theorem dL_law_217 : decode cL_law 217 = .ok (.iaload, 1) := by decide +kernel
theorem dL_law_218 : decode cL_law 218 = .ok (.if_icmp .ge 5, 3) := by decide +kernel
theorem dL_law_221 : decode cL_law 221 = .ok (.iconst 0, 1) := by decide +kernel
theorem dL_law_222 : decode cL_law 222 = .ok (.ireturn, 1) := by decide +kernel
theorem dL_law_223 : decode cL_law 223 = .ok (.iinc 8 1, 3) := by decide +kernel
theorem dL_law_226 : decode cL_law 226 = .ok (.goto (-23), 3) := by decide +kernel
theorem dL_law_229 : decode cL_law 229 = .ok (.aload 7, 2) := by decide +kernel
theorem dL_law_231 : decode cL_law 231 = .ok (.astore_n 2, 1) := by decide +kernel
theorem dL_law_232 : decode cL_law 232 = .ok (.iload 4, 2) := by decide +kernel
theorem dL_law_234 : decode cL_law 234 = .ok (.bipush 6, 2) := by decide +kernel
theorem dL_law_236 : decode cL_law 236 = .ok (.irem, 1) := by decide +kernel
theorem dL_law_237 : decode cL_law 237 = .ok (.iconst 5, 1) := by decide +kernel
theorem dL_law_238 : decode cL_law 238 = .ok (.if_icmp .ne 14, 3) := by decide +kernel
theorem dL_law_241 : decode cL_law 241 = .ok (.aload_n 1, 1) := by decide +kernel
theorem dL_law_242 : decode cL_law 242 = .ok (.iload 5, 2) := by decide +kernel
theorem dL_law_244 : decode cL_law 244 = .ok (.invokestatic 44, 3) := by decide +kernel
theorem dL_law_247 : decode cL_law 247 = .ok (.ifCond .ne 5, 3) := by decide +kernel
theorem dL_law_250 : decode cL_law 250 = .ok (.iconst 0, 1) := by decide +kernel
theorem dL_law_251 : decode cL_law 251 = .ok (.ireturn, 1) := by decide +kernel
theorem dL_law_252 : decode cL_law 252 = .ok (.iinc 4 1, 3) := by decide +kernel
theorem dL_law_255 : decode cL_law 255 = .ok (.goto (-216), 3) := by decide +kernel
theorem dL_law_258 : decode cL_law 258 = .ok (.iconst 1, 1) := by decide +kernel
theorem dL_law_259 : decode cL_law 259 = .ok (.ireturn, 1) := by decide +kernel
set_option maxRecDepth 20000 in
theorem ggL_isDone_L_below : GoodIn wsL_isDone wsL_below := goodIn_r _ [5, 6] (by decide +kernel) (by decide +kernel)
set_option maxRecDepth 20000 in
theorem gL_isDone_L_below : GoodIn wsL_isDone (va_wsS RL 26 yL_below wsL_below) := goodIn_app (goodIn_of _ (by decide +kernel)) ggL_isDone_L_below
set_option maxRecDepth 20000 in
theorem ggL_isDone_X7_crane : GoodIn wsL_isDone wsX7_crane := goodIn_ca (goodIn_ca (goodIn_r _ [11, 12, 13, 14, 15, 16, 17, 18, 19, 20, 21, 22, 23, 24, 25, 10, 26, 27, 28, 29, 30, 31, 32, 319, 320, 321, 322, 323, 324, 325, 326, 327, 328, 329, 330, 331, 332, 333, 334, 335, 336, 337, 338, 339, 340, 341, 342, 343, 344, 345, 346] (by decide +kernel) (by decide +kernel)) (goodIn_sub (fun _ h => List.mem_cons_of_mem _ (List.mem_append_left _ (List.mem_append_left _ (List.mem_append_right _ h)))) (by decide +kernel))) (goodIn_sub (fun _ h => List.mem_cons_of_mem _ (List.mem_append_left _ (List.mem_append_right _ h))) (by decide +kernel))
set_option maxRecDepth 20000 in
theorem gL_isDone_X7_crane : GoodIn wsL_isDone (wsV RL 12 RX7 yX7_crane wsX7_crane) := goodIn_app (goodIn_of _ (by decide +kernel)) ggL_isDone_X7_crane
set_option maxRecDepth 20000 in
theorem ggL_isDone_X7_table : GoodIn wsL_isDone wsX7_table := goodIn_ca (goodIn_ca (goodIn_r _ [36, 12, 13, 37, 38, 39, 40, 20, 21, 41, 42, 43, 44, 10, 45, 46, 47, 16, 17, 24, 25, 26, 48, 49, 50, 51, 52, 53, 54, 55, 56, 57, 58, 59, 60, 61, 62, 63, 64, 65, 66, 67, 328, 329, 330, 331, 332, 333, 334, 335, 336, 337, 338, 339, 319, 320, 321, 322, 323, 324, 325, 326, 327, 340, 341, 342, 343, 344, 345, 346] (by decide +kernel) (by decide +kernel)) (goodIn_sub (fun _ h => List.mem_cons_of_mem _ (List.mem_append_left _ (List.mem_append_left _ (List.mem_append_right _ h)))) (by decide +kernel))) (goodIn_sub (fun _ h => List.mem_cons_of_mem _ (List.mem_append_right _ h)) (by decide +kernel))
set_option maxRecDepth 20000 in
theorem gL_isDone_X7_table : GoodIn wsL_isDone (wsV RL 16 RX7 yX7_table wsX7_table) := goodIn_app (goodIn_of _ (by decide +kernel)) ggL_isDone_X7_table
set_option maxRecDepth 20000 in
theorem ggL_isDone_X7_zone : GoodIn wsL_isDone wsX7_zone := goodIn_ca (goodIn_ca (goodIn_ca (goodIn_r _ [71, 12, 13, 14, 15, 72, 73, 23, 74, 75, 76, 77, 78, 42, 43, 44, 10, 45, 46, 47, 16, 17, 24, 25, 26, 79, 80, 81, 319, 320, 321, 322, 323, 324, 325, 326, 327, 328, 329, 330, 331, 332, 333, 334, 335, 336, 337, 338, 339, 347, 348, 349, 350, 351] (by decide +kernel) (by decide +kernel)) (goodIn_sub (fun _ h => List.mem_cons_of_mem _ (List.mem_append_left _ (List.mem_append_left _ (List.mem_append_right _ h)))) (by decide +kernel))) (goodIn_sub (fun _ h => List.mem_cons_of_mem _ (List.mem_append_left _ (List.mem_append_right _ h))) (by decide +kernel))) (goodIn_sub (fun _ h => List.mem_cons_of_mem _ (List.mem_append_right _ h)) (by decide +kernel))
set_option maxRecDepth 20000 in
theorem gL_isDone_X7_zone : GoodIn wsL_isDone (wsV RL 48 RX7 yX7_zone wsX7_zone) := goodIn_app (goodIn_of _ (by decide +kernel)) ggL_isDone_X7_zone
set_option maxRecDepth 20000 in
theorem ggL_isDone_X7_meeting : GoodIn wsL_isDone wsX7_meeting := goodIn_ca (goodIn_ca (goodIn_ca (goodIn_r _ [85, 12, 13, 14, 15, 86, 87, 23, 88, 89, 90, 91, 42, 43, 44, 10, 45, 46, 47, 16, 17, 24, 25, 26, 79, 80, 81, 319, 320, 321, 322, 323, 324, 325, 326, 327, 328, 329, 330, 331, 332, 333, 334, 335, 336, 337, 338, 339, 352, 353, 354, 355] (by decide +kernel) (by decide +kernel)) (goodIn_sub (fun _ h => List.mem_cons_of_mem _ (List.mem_append_left _ (List.mem_append_left _ (List.mem_append_right _ h)))) (by decide +kernel))) (goodIn_sub (fun _ h => List.mem_cons_of_mem _ (List.mem_append_left _ (List.mem_append_right _ h))) (by decide +kernel))) (goodIn_sub (fun _ h => List.mem_cons_of_mem _ (List.mem_append_right _ h)) (by decide +kernel))
set_option maxRecDepth 20000 in
theorem gL_isDone_X7_meeting : GoodIn wsL_isDone (wsV RL 51 RX7 yX7_meeting wsX7_meeting) := goodIn_app (goodIn_of _ (by decide +kernel)) ggL_isDone_X7_meeting
set_option maxRecDepth 20000 in
theorem ggL_isDone_X7_rope : GoodIn wsL_isDone wsX7_rope := goodIn_ca (goodIn_r _ [95, 96, 42, 43, 44, 10, 45, 46, 47, 16, 17, 24, 25, 26, 328, 329, 330, 331, 332, 333, 334, 335, 336, 337, 338, 339, 319, 320, 321, 322, 323, 324, 325, 326, 327] (by decide +kernel) (by decide +kernel)) (goodIn_sub (fun _ h => List.mem_cons_of_mem _ (List.mem_append_right _ h)) (by decide +kernel))
set_option maxRecDepth 20000 in
theorem gL_isDone_X7_rope : GoodIn wsL_isDone (wsV RL 55 RX7 yX7_rope wsX7_rope) := goodIn_app (goodIn_of _ (by decide +kernel)) ggL_isDone_X7_rope
set_option maxRecDepth 20000 in
theorem ggL_isDone_X7_wind : GoodIn wsL_isDone wsX7_wind := goodIn_ca (goodIn_r _ [100, 12, 13, 21, 101, 102, 103, 24, 25, 10, 26, 79, 80, 81, 319, 320, 321, 322, 323, 324, 325, 326, 327, 340, 341, 342, 343, 344, 345, 346] (by decide +kernel) (by decide +kernel)) (goodIn_sub (fun _ h => List.mem_cons_of_mem _ (List.mem_append_left _ (List.mem_append_left _ (List.mem_append_right _ h)))) (by decide +kernel))
set_option maxRecDepth 20000 in
theorem gL_isDone_X7_wind : GoodIn wsL_isDone (wsV RL 58 RX7 yX7_wind wsX7_wind) := goodIn_app (goodIn_of _ (by decide +kernel)) ggL_isDone_X7_wind
set_option maxRecDepth 20000 in
theorem ggL_isDone_X7_pass : GoodIn wsL_isDone wsX7_pass := goodIn_ca (goodIn_ca (goodIn_r _ [107, 12, 13, 14, 15, 21, 108, 41, 24, 25, 10, 26, 109, 110, 111, 30, 112, 113, 114, 115, 116, 32, 117, 118, 28, 29, 31, 27, 119, 120, 121, 122, 16, 17, 22, 123, 124, 125, 126, 127, 128, 129, 130, 131, 132, 133, 134, 135, 136, 137, 138, 139, 140, 141, 142, 143, 144, 145, 146, 147, 148, 149, 150, 151, 152, 153, 154, 103, 155, 156, 157, 158, 159, 160, 161, 162, 163, 164, 319, 320, 321, 322, 323, 324, 325, 326, 327, 340, 341, 342, 343, 344, 345, 346, 328, 329, 330, 331, 332, 333, 334, 335, 336, 337, 338, 339, 356, 357, 358, 359, 360, 361, 362, 363, 364, 365, 366] (by decide +kernel) (by decide +kernel)) (goodIn_sub (fun _ h => List.mem_cons_of_mem _ (List.mem_append_left _ (List.mem_append_left _ (List.mem_append_right _ h)))) (by decide +kernel))) (goodIn_sub (fun _ h => List.mem_cons_of_mem _ (List.mem_append_left _ (List.mem_append_right _ h))) (by decide +kernel))
set_option maxRecDepth 20000 in
theorem gL_isDone_X7_pass : GoodIn wsL_isDone (wsV RL 62 RX7 yX7_pass wsX7_pass) := goodIn_app (goodIn_of _ (by decide +kernel)) ggL_isDone_X7_pass
set_option maxRecDepth 20000 in
theorem ggL_isDone_X7_lock : GoodIn wsL_isDone wsX7_lock := goodIn_ca (goodIn_ca (goodIn_r _ [168, 14, 15, 21, 22, 123, 23, 41, 42, 43, 44, 10, 45, 46, 47, 16, 17, 24, 25, 26, 27, 28, 29, 30, 31, 32, 124, 125, 126, 127, 128, 129, 130, 131, 132, 133, 134, 135, 136, 137, 138, 139, 140, 141, 142, 143, 144, 145, 146, 147, 148, 149, 319, 320, 321, 322, 323, 324, 325, 326, 327, 328, 329, 330, 331, 332, 333, 334, 335, 336, 337, 338, 339, 340, 341, 342, 343, 344, 345, 346, 356, 357, 358, 359, 360, 361, 362, 363, 364, 365, 366] (by decide +kernel) (by decide +kernel)) (goodIn_sub (fun _ h => List.mem_cons_of_mem _ (List.mem_append_left _ (List.mem_append_right _ h))) (by decide +kernel))) (goodIn_sub (fun _ h => List.mem_cons_of_mem _ (List.mem_append_right _ h)) (by decide +kernel))
set_option maxRecDepth 20000 in
theorem gL_isDone_X7_lock : GoodIn wsL_isDone (wsV RL 65 RX7 yX7_lock wsX7_lock) := goodIn_app (goodIn_of _ (by decide +kernel)) ggL_isDone_X7_lock
set_option maxRecDepth 20000 in
theorem ggL_isDone_X7_tandem : GoodIn wsL_isDone wsX7_tandem := goodIn_ca (goodIn_ca (goodIn_r _ [172, 12, 13, 123, 23, 21, 41, 42, 43, 44, 10, 45, 46, 47, 16, 17, 24, 25, 26, 173, 66, 67, 174, 175, 176, 177, 22, 20, 178, 179, 180, 51, 181, 182, 48, 49, 50, 52, 53, 54, 55, 56, 57, 58, 59, 60, 61, 62, 63, 64, 65, 183, 184, 185, 186, 124, 125, 126, 127, 128, 129, 130, 131, 132, 133, 134, 135, 136, 137, 138, 139, 140, 141, 142, 143, 144, 145, 146, 147, 148, 149, 319, 320, 321, 322, 323, 324, 325, 326, 327, 328, 329, 330, 331, 332, 333, 334, 335, 336, 337, 338, 339, 340, 341, 342, 343, 344, 345, 346, 356, 357, 358, 359, 360, 361, 362, 363, 364, 365, 366] (by decide +kernel) (by decide +kernel)) (goodIn_sub (fun _ h => List.mem_cons_of_mem _ (List.mem_append_left _ (List.mem_append_left _ (List.mem_append_right _ h)))) (by decide +kernel))) (goodIn_sub (fun _ h => List.mem_cons_of_mem _ (List.mem_append_right _ h)) (by decide +kernel))
set_option maxRecDepth 20000 in
theorem gL_isDone_X7_tandem : GoodIn wsL_isDone (wsV RL 69 RX7 yX7_tandem wsX7_tandem) := goodIn_app (goodIn_of _ (by decide +kernel)) ggL_isDone_X7_tandem
set_option maxRecDepth 20000 in
theorem ggL_isDone_X7_tear : GoodIn wsL_isDone wsX7_tear := goodIn_ca (goodIn_r _ [190, 46, 47, 123, 191, 192, 193, 10, 194, 195, 24, 25, 26, 196, 197, 198, 127, 199, 130, 129, 138, 319, 320, 321, 322, 323, 324, 325, 326, 327, 356, 357, 358, 359, 360, 361, 362, 363, 364, 365, 366] (by decide +kernel) (by decide +kernel)) (goodIn_sub (fun _ h => List.mem_cons_of_mem _ (List.mem_append_right _ h)) (by decide +kernel))
set_option maxRecDepth 20000 in
theorem gL_isDone_X7_tear : GoodIn wsL_isDone (wsV RL 72 RX7 yX7_tear wsX7_tear) := goodIn_app (goodIn_of _ (by decide +kernel)) ggL_isDone_X7_tear
set_option maxRecDepth 20000 in
theorem ggL_isDone_X7_knock : GoodIn wsL_isDone wsX7_knock := goodIn_r _ [203, 204, 319, 320, 321, 322, 323, 324, 325, 326, 327] (by decide +kernel) (by decide +kernel)
set_option maxRecDepth 20000 in
theorem gL_isDone_X7_knock : GoodIn wsL_isDone (wsV RL 75 RX7 yX7_knock wsX7_knock) := goodIn_app (goodIn_of _ (by decide +kernel)) ggL_isDone_X7_knock
set_option maxRecDepth 20000 in
theorem ggL_isDone_L_isLifted : GoodIn wsL_isDone wsL_isLifted := goodIn_ca (goodIn_ca (goodIn_r _ [207, 208, 209, 56, 210, 211, 55, 57, 2, 3, 4, 5, 6, 212, 213, 214, 10, 215, 12, 13, 18, 21, 41, 42, 43, 44, 45, 46, 47, 16, 17, 24, 25, 26, 48, 49, 50, 51, 52, 53, 54, 58, 59, 60, 61, 62, 63, 64, 65, 66, 67, 216, 217, 218, 219, 108, 101, 102, 103, 220, 221, 72, 86, 123, 195, 222, 204, 223, 224, 225, 30, 226, 113, 227, 228, 229, 230, 73, 231, 232, 233, 234, 235, 236, 237, 238, 239, 240, 127, 241, 129, 139, 242, 243, 244, 245, 130, 138, 140, 141, 142, 143, 144, 145, 146, 147, 148, 149, 246, 247, 248, 249, 250, 251, 154, 20, 252, 23, 253, 254, 255, 256, 79, 80, 81, 257, 258, 259, 260, 22, 261, 262, 263, 264, 265, 266, 267, 268, 269, 270, 271, 272, 273, 274, 275, 276, 178, 179, 180, 181, 182, 277, 278, 279, 158, 159, 160, 161, 162, 163, 164, 280, 281, 282, 283, 284, 285, 286, 287, 74, 288, 289, 290, 291, 292, 293, 294, 295, 296, 297, 87, 298, 299, 300, 301, 302, 303, 304, 305, 306, 155, 156, 157, 183, 184, 185, 186, 124, 125, 126, 128, 131, 132, 133, 134, 135, 136, 137, 307, 308, 309, 310, 311, 312, 313, 314, 315, 316, 317, 318, 191, 192, 193, 194, 328, 329, 330, 331, 332, 333, 334, 335, 336, 337, 338, 339, 319, 320, 321, 322, 323, 324, 325, 326, 327, 340, 341, 342, 343, 344, 345, 346, 356, 357, 358, 359, 347, 348, 349, 350, 351, 360, 361, 362, 363, 364, 365, 366, 367, 368, 369, 352, 353, 354, 355] (by decide +kernel) (by decide +kernel)) (goodIn_sub (fun _ h => List.mem_cons_of_mem _ (List.mem_append_left _ (List.mem_append_left _ (List.mem_append_right _ h)))) (by decide +kernel))) (goodIn_sub (fun _ h => List.mem_cons_of_mem _ (List.mem_append_right _ h)) (by decide +kernel))
set_option maxRecDepth 20000 in
theorem gL_isDone_L_isLifted : GoodIn wsL_isDone (va_wsS RL 79 yL_isLifted wsL_isLifted) := goodIn_app (goodIn_of _ (by decide +kernel)) ggL_isDone_L_isLifted
theorem dL_isDone_0 : decode cL_isDone 0 = .ok (.iload_n 1, 1) := by decide +kernel
theorem dL_isDone_1 : decode cL_isDone 1 = .ok (.iconst 4, 1) := by decide +kernel
theorem dL_isDone_2 : decode cL_isDone 2 = .ok (.invokestatic 26, 3) := by decide +kernel
theorem dL_isDone_5 : decode cL_isDone 5 = .ok (.iload_n 1, 1) := by decide +kernel
theorem dL_isDone_6 : decode cL_isDone 6 = .ok (.bipush 7, 2) := by decide +kernel
theorem dL_isDone_8 : decode cL_isDone 8 = .ok (.ishr, 1) := by decide +kernel
theorem dL_isDone_9 : decode cL_isDone 9 = .ok (.iconst 2, 1) := by decide +kernel
theorem dL_isDone_10 : decode cL_isDone 10 = .ok (.invokestatic 26, 3) := by decide +kernel
theorem dL_isDone_13 : decode cL_isDone 13 = .ok (.isub, 1) := by decide +kernel
theorem dL_isDone_14 : decode cL_isDone 14 = .ok (.istore_n 3, 1) := by decide +kernel
theorem dL_isDone_15 : decode cL_isDone 15 = .ok (.iload_n 2, 1) := by decide +kernel
theorem dL_isDone_16 : decode cL_isDone 16 = .ok (.tableswitch 375 0 10 #[60, 90, 137, 178, 210, 219, 251, 251, 283, 307, 341], 60) := by decide +kernel
theorem dL_isDone_76 : decode cL_isDone 76 = .ok (.aload_n 0, 1) := by decide +kernel
theorem dL_isDone_77 : decode cL_isDone 77 = .ok (.bipush 9, 2) := by decide +kernel
theorem dL_isDone_79 : decode cL_isDone 79 = .ok (.iload_n 1, 1) := by decide +kernel
theorem dL_isDone_80 : decode cL_isDone 80 = .ok (.iconst 2, 1) := by decide +kernel
theorem dL_isDone_81 : decode cL_isDone 81 = .ok (.ishr, 1) := by decide +kernel
theorem dL_isDone_82 : decode cL_isDone 82 = .ok (.bipush 33, 2) := by decide +kernel
theorem dL_isDone_84 : decode cL_isDone 84 = .ok (.invokestatic 26, 3) := by decide +kernel
theorem dL_isDone_87 : decode cL_isDone 87 = .ok (.iadd, 1) := by decide +kernel
theorem dL_isDone_88 : decode cL_isDone 88 = .ok (.iconst 2, 1) := by decide +kernel
theorem dL_isDone_89 : decode cL_isDone 89 = .ok (.iload_n 1, 1) := by decide +kernel
theorem dL_isDone_90 : decode cL_isDone 90 = .ok (.iconst 3, 1) := by decide +kernel
theorem dL_isDone_91 : decode cL_isDone 91 = .ok (.ishr, 1) := by decide +kernel
theorem dL_isDone_92 : decode cL_isDone 92 = .ok (.iconst 2, 1) := by decide +kernel
theorem dL_isDone_93 : decode cL_isDone 93 = .ok (.invokestatic 26, 3) := by decide +kernel
theorem dL_isDone_96 : decode cL_isDone 96 = .ok (.iconst 2, 1) := by decide +kernel
theorem dL_isDone_97 : decode cL_isDone 97 = .ok (.imul, 1) := by decide +kernel
theorem dL_isDone_98 : decode cL_isDone 98 = .ok (.iadd, 1) := by decide +kernel
theorem dL_isDone_99 : decode cL_isDone 99 = .ok (.invokevirtual 12, 3) := by decide +kernel
theorem dL_isDone_102 : decode cL_isDone 102 = .ok (.pop, 1) := by decide +kernel
theorem dL_isDone_103 : decode cL_isDone 103 = .ok (.goto 295, 3) := by decide +kernel
theorem dL_isDone_106 : decode cL_isDone 106 = .ok (.aload_n 0, 1) := by decide +kernel
theorem dL_isDone_107 : decode cL_isDone 107 = .ok (.iload_n 3, 1) := by decide +kernel
theorem dL_isDone_108 : decode cL_isDone 108 = .ok (.bipush 50, 2) := by decide +kernel
theorem dL_isDone_110 : decode cL_isDone 110 = .ok (.iload_n 1, 1) := by decide +kernel
theorem dL_isDone_111 : decode cL_isDone 111 = .ok (.iconst 2, 1) := by decide +kernel
theorem dL_isDone_112 : decode cL_isDone 112 = .ok (.ishr, 1) := by decide +kernel
theorem dL_isDone_113 : decode cL_isDone 113 = .ok (.bipush 50, 2) := by decide +kernel
theorem dL_isDone_115 : decode cL_isDone 115 = .ok (.invokestatic 26, 3) := by decide +kernel
theorem dL_isDone_118 : decode cL_isDone 118 = .ok (.iadd, 1) := by decide +kernel
theorem dL_isDone_119 : decode cL_isDone 119 = .ok (.bipush 30, 2) := by decide +kernel
theorem dL_isDone_121 : decode cL_isDone 121 = .ok (.iload_n 1, 1) := by decide +kernel
theorem dL_isDone_122 : decode cL_isDone 122 = .ok (.iconst 3, 1) := by decide +kernel
theorem dL_isDone_123 : decode cL_isDone 123 = .ok (.ishr, 1) := by decide +kernel
theorem dL_isDone_124 : decode cL_isDone 124 = .ok (.bipush 25, 2) := by decide +kernel
theorem dL_isDone_126 : decode cL_isDone 126 = .ok (.invokestatic 26, 3) := by decide +kernel
theorem dL_isDone_129 : decode cL_isDone 129 = .ok (.iadd, 1) := by decide +kernel
theorem dL_isDone_130 : decode cL_isDone 130 = .ok (.iload_n 1, 1) := by decide +kernel
theorem dL_isDone_131 : decode cL_isDone 131 = .ok (.iconst 4, 1) := by decide +kernel
theorem dL_isDone_132 : decode cL_isDone 132 = .ok (.ishr, 1) := by decide +kernel
theorem dL_isDone_133 : decode cL_isDone 133 = .ok (.bipush 35, 2) := by decide +kernel
theorem dL_isDone_135 : decode cL_isDone 135 = .ok (.invokestatic 26, 3) := by decide +kernel
theorem dL_isDone_138 : decode cL_isDone 138 = .ok (.iload_n 1, 1) := by decide +kernel
theorem dL_isDone_139 : decode cL_isDone 139 = .ok (.iconst 5, 1) := by decide +kernel
theorem dL_isDone_140 : decode cL_isDone 140 = .ok (.ishr, 1) := by decide +kernel
theorem dL_isDone_141 : decode cL_isDone 141 = .ok (.bipush 9, 2) := by decide +kernel
theorem dL_isDone_143 : decode cL_isDone 143 = .ok (.invokestatic 26, 3) := by decide +kernel
theorem dL_isDone_146 : decode cL_isDone 146 = .ok (.invokevirtual 16, 3) := by decide +kernel
theorem dL_isDone_149 : decode cL_isDone 149 = .ok (.pop, 1) := by decide +kernel
theorem dL_isDone_150 : decode cL_isDone 150 = .ok (.goto 248, 3) := by decide +kernel
theorem dL_isDone_153 : decode cL_isDone 153 = .ok (.aload_n 0, 1) := by decide +kernel
theorem dL_isDone_154 : decode cL_isDone 154 = .ok (.iload_n 3, 1) := by decide +kernel
theorem dL_isDone_155 : decode cL_isDone 155 = .ok (.iload_n 1, 1) := by decide +kernel
theorem dL_isDone_156 : decode cL_isDone 156 = .ok (.iconst 2, 1) := by decide +kernel
theorem dL_isDone_157 : decode cL_isDone 157 = .ok (.ishr, 1) := by decide +kernel
theorem dL_isDone_158 : decode cL_isDone 158 = .ok (.bipush 25, 2) := by decide +kernel
theorem dL_isDone_160 : decode cL_isDone 160 = .ok (.invokestatic 26, 3) := by decide +kernel
theorem dL_isDone_163 : decode cL_isDone 163 = .ok (.iload_n 1, 1) := by decide +kernel
theorem dL_isDone_164 : decode cL_isDone 164 = .ok (.iconst 3, 1) := by decide +kernel
theorem dL_isDone_165 : decode cL_isDone 165 = .ok (.ishr, 1) := by decide +kernel
theorem dL_isDone_166 : decode cL_isDone 166 = .ok (.bipush 24, 2) := by decide +kernel
theorem dL_isDone_168 : decode cL_isDone 168 = .ok (.invokestatic 26, 3) := by decide +kernel
theorem dL_isDone_171 : decode cL_isDone 171 = .ok (.iload_n 1, 1) := by decide +kernel
theorem dL_isDone_172 : decode cL_isDone 172 = .ok (.iconst 4, 1) := by decide +kernel
theorem dL_isDone_173 : decode cL_isDone 173 = .ok (.ishr, 1) := by decide +kernel
theorem dL_isDone_174 : decode cL_isDone 174 = .ok (.bipush 24, 2) := by decide +kernel
theorem dL_isDone_176 : decode cL_isDone 176 = .ok (.invokestatic 26, 3) := by decide +kernel
theorem dL_isDone_179 : decode cL_isDone 179 = .ok (.iload_n 1, 1) := by decide +kernel
theorem dL_isDone_180 : decode cL_isDone 180 = .ok (.iconst 5, 1) := by decide +kernel
theorem dL_isDone_181 : decode cL_isDone 181 = .ok (.ishr, 1) := by decide +kernel
theorem dL_isDone_182 : decode cL_isDone 182 = .ok (.bipush 26, 2) := by decide +kernel
theorem dL_isDone_184 : decode cL_isDone 184 = .ok (.invokestatic 26, 3) := by decide +kernel
theorem dL_isDone_187 : decode cL_isDone 187 = .ok (.invokevirtual 48, 3) := by decide +kernel
theorem dL_isDone_190 : decode cL_isDone 190 = .ok (.pop, 1) := by decide +kernel
theorem dL_isDone_191 : decode cL_isDone 191 = .ok (.goto 207, 3) := by decide +kernel
theorem dL_isDone_194 : decode cL_isDone 194 = .ok (.aload_n 0, 1) := by decide +kernel
theorem dL_isDone_195 : decode cL_isDone 195 = .ok (.iload_n 3, 1) := by decide +kernel
theorem dL_isDone_196 : decode cL_isDone 196 = .ok (.iload_n 1, 1) := by decide +kernel
theorem dL_isDone_197 : decode cL_isDone 197 = .ok (.iconst 2, 1) := by decide +kernel
theorem dL_isDone_198 : decode cL_isDone 198 = .ok (.ishr, 1) := by decide +kernel
theorem dL_isDone_199 : decode cL_isDone 199 = .ok (.bipush 24, 2) := by decide +kernel
theorem dL_isDone_201 : decode cL_isDone 201 = .ok (.invokestatic 26, 3) := by decide +kernel
theorem dL_isDone_204 : decode cL_isDone 204 = .ok (.iload_n 1, 1) := by decide +kernel
theorem dL_isDone_205 : decode cL_isDone 205 = .ok (.iconst 3, 1) := by decide +kernel
theorem dL_isDone_206 : decode cL_isDone 206 = .ok (.ishr, 1) := by decide +kernel
theorem dL_isDone_207 : decode cL_isDone 207 = .ok (.iconst 3, 1) := by decide +kernel
theorem dL_isDone_208 : decode cL_isDone 208 = .ok (.invokestatic 26, 3) := by decide +kernel
theorem dL_isDone_211 : decode cL_isDone 211 = .ok (.iload_n 1, 1) := by decide +kernel
theorem dL_isDone_212 : decode cL_isDone 212 = .ok (.iconst 4, 1) := by decide +kernel
theorem dL_isDone_213 : decode cL_isDone 213 = .ok (.ishr, 1) := by decide +kernel
theorem dL_isDone_214 : decode cL_isDone 214 = .ok (.bipush 24, 2) := by decide +kernel
theorem dL_isDone_216 : decode cL_isDone 216 = .ok (.invokestatic 26, 3) := by decide +kernel
theorem dL_isDone_219 : decode cL_isDone 219 = .ok (.invokevirtual 51, 3) := by decide +kernel
theorem dL_isDone_222 : decode cL_isDone 222 = .ok (.pop, 1) := by decide +kernel
theorem dL_isDone_223 : decode cL_isDone 223 = .ok (.goto 175, 3) := by decide +kernel
theorem dL_isDone_226 : decode cL_isDone 226 = .ok (.aload_n 0, 1) := by decide +kernel
theorem dL_isDone_227 : decode cL_isDone 227 = .ok (.iload_n 3, 1) := by decide +kernel
theorem dL_isDone_228 : decode cL_isDone 228 = .ok (.invokevirtual 55, 3) := by decide +kernel
theorem dL_isDone_231 : decode cL_isDone 231 = .ok (.pop, 1) := by decide +kernel
theorem dL_isDone_232 : decode cL_isDone 232 = .ok (.goto 166, 3) := by decide +kernel
theorem dL_isDone_235 : decode cL_isDone 235 = .ok (.aload_n 0, 1) := by decide +kernel
theorem dL_isDone_236 : decode cL_isDone 236 = .ok (.iload_n 1, 1) := by decide +kernel
theorem dL_isDone_237 : decode cL_isDone 237 = .ok (.iconst 2, 1) := by decide +kernel
theorem dL_isDone_238 : decode cL_isDone 238 = .ok (.ishr, 1) := by decide +kernel
theorem dL_isDone_239 : decode cL_isDone 239 = .ok (.bipush 18, 2) := by decide +kernel
theorem dL_isDone_241 : decode cL_isDone 241 = .ok (.invokestatic 26, 3) := by decide +kernel
theorem dL_isDone_244 : decode cL_isDone 244 = .ok (.iload_n 1, 1) := by decide +kernel
theorem dL_isDone_245 : decode cL_isDone 245 = .ok (.iconst 3, 1) := by decide +kernel
theorem dL_isDone_246 : decode cL_isDone 246 = .ok (.ishr, 1) := by decide +kernel
theorem dL_isDone_247 : decode cL_isDone 247 = .ok (.bipush 12, 2) := by decide +kernel
theorem dL_isDone_249 : decode cL_isDone 249 = .ok (.invokestatic 26, 3) := by decide +kernel
theorem dL_isDone_252 : decode cL_isDone 252 = .ok (.iload_n 1, 1) := by decide +kernel
theorem dL_isDone_253 : decode cL_isDone 253 = .ok (.iconst 4, 1) := by decide +kernel
theorem dL_isDone_254 : decode cL_isDone 254 = .ok (.ishr, 1) := by decide +kernel
theorem dL_isDone_255 : decode cL_isDone 255 = .ok (.bipush 24, 2) := by decide +kernel
theorem dL_isDone_257 : decode cL_isDone 257 = .ok (.invokestatic 26, 3) := by decide +kernel
theorem dL_isDone_260 : decode cL_isDone 260 = .ok (.invokevirtual 58, 3) := by decide +kernel
theorem dL_isDone_263 : decode cL_isDone 263 = .ok (.pop, 1) := by decide +kernel
theorem dL_isDone_264 : decode cL_isDone 264 = .ok (.goto 134, 3) := by decide +kernel
theorem dL_isDone_267 : decode cL_isDone 267 = .ok (.aload_n 0, 1) := by decide +kernel
theorem dL_isDone_268 : decode cL_isDone 268 = .ok (.iload_n 1, 1) := by decide +kernel
theorem dL_isDone_269 : decode cL_isDone 269 = .ok (.iconst 2, 1) := by decide +kernel
theorem dL_isDone_270 : decode cL_isDone 270 = .ok (.ishr, 1) := by decide +kernel
theorem dL_isDone_271 : decode cL_isDone 271 = .ok (.iload_n 1, 1) := by decide +kernel
theorem dL_isDone_272 : decode cL_isDone 272 = .ok (.iconst 3, 1) := by decide +kernel
theorem dL_isDone_273 : decode cL_isDone 273 = .ok (.ishr, 1) := by decide +kernel
theorem dL_isDone_274 : decode cL_isDone 274 = .ok (.iconst 4, 1) := by decide +kernel
theorem dL_isDone_275 : decode cL_isDone 275 = .ok (.invokestatic 26, 3) := by decide +kernel
theorem dL_isDone_278 : decode cL_isDone 278 = .ok (.ifCond .ne 9, 3) := by decide +kernel
theorem dL_isDone_281 : decode cL_isDone 281 = .ok (.sipush 302, 3) := by decide +kernel
theorem dL_isDone_284 : decode cL_isDone 284 = .ok (.goto 5, 3) := by decide +kernel
theorem dL_isDone_287 : decode cL_isDone 287 = .ok (.bipush 9, 2) := by decide +kernel
theorem dL_isDone_289 : decode cL_isDone 289 = .ok (.invokestatic 26, 3) := by decide +kernel
theorem dL_isDone_292 : decode cL_isDone 292 = .ok (.invokevirtual 62, 3) := by decide +kernel
theorem dL_isDone_295 : decode cL_isDone 295 = .ok (.pop, 1) := by decide +kernel
theorem dL_isDone_296 : decode cL_isDone 296 = .ok (.goto 102, 3) := by decide +kernel
theorem dL_isDone_299 : decode cL_isDone 299 = .ok (.aload_n 0, 1) := by decide +kernel
theorem dL_isDone_300 : decode cL_isDone 300 = .ok (.iload_n 3, 1) := by decide +kernel
theorem dL_isDone_301 : decode cL_isDone 301 = .ok (.iload_n 1, 1) := by decide +kernel
theorem dL_isDone_302 : decode cL_isDone 302 = .ok (.iconst 2, 1) := by decide +kernel
theorem dL_isDone_303 : decode cL_isDone 303 = .ok (.ishr, 1) := by decide +kernel
theorem dL_isDone_304 : decode cL_isDone 304 = .ok (.iconst 4, 1) := by decide +kernel
theorem dL_isDone_305 : decode cL_isDone 305 = .ok (.invokestatic 26, 3) := by decide +kernel
theorem dL_isDone_308 : decode cL_isDone 308 = .ok (.ifCond .le 7, 3) := by decide +kernel
theorem dL_isDone_311 : decode cL_isDone 311 = .ok (.iconst 1, 1) := by decide +kernel
theorem dL_isDone_312 : decode cL_isDone 312 = .ok (.goto 4, 3) := by decide +kernel
theorem dL_isDone_315 : decode cL_isDone 315 = .ok (.iconst 0, 1) := by decide +kernel
theorem dL_isDone_316 : decode cL_isDone 316 = .ok (.invokevirtual 65, 3) := by decide +kernel
theorem dL_isDone_319 : decode cL_isDone 319 = .ok (.pop, 1) := by decide +kernel
theorem dL_isDone_320 : decode cL_isDone 320 = .ok (.goto 78, 3) := by decide +kernel
theorem dL_isDone_323 : decode cL_isDone 323 = .ok (.aload_n 0, 1) := by decide +kernel
theorem dL_isDone_324 : decode cL_isDone 324 = .ok (.iload_n 3, 1) := by decide +kernel
theorem dL_isDone_325 : decode cL_isDone 325 = .ok (.iload_n 1, 1) := by decide +kernel
theorem dL_isDone_326 : decode cL_isDone 326 = .ok (.iconst 2, 1) := by decide +kernel
theorem dL_isDone_327 : decode cL_isDone 327 = .ok (.ishr, 1) := by decide +kernel
theorem dL_isDone_328 : decode cL_isDone 328 = .ok (.iconst 3, 1) := by decide +kernel
theorem dL_isDone_329 : decode cL_isDone 329 = .ok (.invokestatic 26, 3) := by decide +kernel
theorem dL_isDone_332 : decode cL_isDone 332 = .ok (.iload_n 1, 1) := by decide +kernel
theorem dL_isDone_333 : decode cL_isDone 333 = .ok (.iconst 3, 1) := by decide +kernel
theorem dL_isDone_334 : decode cL_isDone 334 = .ok (.ishr, 1) := by decide +kernel
theorem dL_isDone_335 : decode cL_isDone 335 = .ok (.bipush 120, 2) := by decide +kernel
theorem dL_isDone_337 : decode cL_isDone 337 = .ok (.invokestatic 26, 3) := by decide +kernel
theorem dL_isDone_340 : decode cL_isDone 340 = .ok (.iconst 1, 1) := by decide +kernel
theorem dL_isDone_341 : decode cL_isDone 341 = .ok (.iload_n 1, 1) := by decide +kernel
theorem dL_isDone_342 : decode cL_isDone 342 = .ok (.iconst 4, 1) := by decide +kernel
theorem dL_isDone_343 : decode cL_isDone 343 = .ok (.ishr, 1) := by decide +kernel
theorem dL_isDone_344 : decode cL_isDone 344 = .ok (.bipush 9, 2) := by decide +kernel
theorem dL_isDone_346 : decode cL_isDone 346 = .ok (.invokestatic 26, 3) := by decide +kernel
theorem dL_isDone_349 : decode cL_isDone 349 = .ok (.iadd, 1) := by decide +kernel
theorem dL_isDone_350 : decode cL_isDone 350 = .ok (.invokevirtual 69, 3) := by decide +kernel
theorem dL_isDone_353 : decode cL_isDone 353 = .ok (.pop, 1) := by decide +kernel
theorem dL_isDone_354 : decode cL_isDone 354 = .ok (.goto 44, 3) := by decide +kernel
theorem dL_isDone_357 : decode cL_isDone 357 = .ok (.iload_n 1, 1) := by decide +kernel
theorem dL_isDone_358 : decode cL_isDone 358 = .ok (.iconst 2, 1) := by decide +kernel
theorem dL_isDone_359 : decode cL_isDone 359 = .ok (.ishr, 1) := by decide +kernel
theorem dL_isDone_360 : decode cL_isDone 360 = .ok (.iconst 4, 1) := by decide +kernel
theorem dL_isDone_361 : decode cL_isDone 361 = .ok (.invokestatic 26, 3) := by decide +kernel
theorem dL_isDone_364 : decode cL_isDone 364 = .ok (.ifCond .ne 19, 3) := by decide +kernel
theorem dL_isDone_367 : decode cL_isDone 367 = .ok (.aload_n 0, 1) := by decide +kernel
theorem dL_isDone_368 : decode cL_isDone 368 = .ok (.iload_n 1, 1) := by decide +kernel
theorem dL_isDone_369 : decode cL_isDone 369 = .ok (.iconst 3, 1) := by decide +kernel
theorem dL_isDone_370 : decode cL_isDone 370 = .ok (.ishr, 1) := by decide +kernel
theorem dL_isDone_371 : decode cL_isDone 371 = .ok (.bipush 12, 2) := by decide +kernel
theorem dL_isDone_373 : decode cL_isDone 373 = .ok (.invokestatic 26, 3) := by decide +kernel
theorem dL_isDone_376 : decode cL_isDone 376 = .ok (.invokevirtual 72, 3) := by decide +kernel
theorem dL_isDone_379 : decode cL_isDone 379 = .ok (.pop, 1) := by decide +kernel
theorem dL_isDone_380 : decode cL_isDone 380 = .ok (.goto 18, 3) := by decide +kernel
theorem dL_isDone_383 : decode cL_isDone 383 = .ok (.aload_n 0, 1) := by decide +kernel
theorem dL_isDone_384 : decode cL_isDone 384 = .ok (.invokevirtual 75, 3) := by decide +kernel
theorem dL_isDone_387 : decode cL_isDone 387 = .ok (.pop, 1) := by decide +kernel
theorem dL_isDone_388 : decode cL_isDone 388 = .ok (.goto 10, 3) := by decide +kernel
theorem dL_isDone_391 : decode cL_isDone 391 = .ok (.aload_n 0, 1) := by decide +kernel
theorem dL_isDone_392 : decode cL_isDone 392 = .ok (.iload_n 3, 1) := by decide +kernel
theorem dL_isDone_393 : decode cL_isDone 393 = .ok (.iload_n 1, 1) := by decide +kernel
theorem dL_isDone_394 : decode cL_isDone 394 = .ok (.invokestatic 79, 3) := by decide +kernel
theorem dL_isDone_397 : decode cL_isDone 397 = .ok (.ireturn, 1) := by decide +kernel
theorem dL_isDone_398 : decode cL_isDone 398 = .ok (.goto 15, 3) := by decide +kernel
theorem dL_isDone_401 : decode cL_isDone 401 = .ok (.astore 4, 2) := by decide +kernel
theorem dL_isDone_403 : decode cL_isDone 403 = .ok (.iconst 1, 1) := by decide +kernel
theorem dL_isDone_404 : decode cL_isDone 404 = .ok (.ireturn, 1) := by decide +kernel
theorem dL_isDone_405 : decode cL_isDone 405 = .ok (.astore 4, 2) := by decide +kernel
theorem dL_isDone_407 : decode cL_isDone 407 = .ok (.iconst 1, 1) := by decide +kernel
theorem dL_isDone_408 : decode cL_isDone 408 = .ok (.ireturn, 1) := by decide +kernel
theorem dL_isDone_409 : decode cL_isDone 409 = .ok (.astore 4, 2) := by decide +kernel
theorem dL_isDone_411 : decode cL_isDone 411 = .ok (.iconst 1, 1) := by decide +kernel
theorem dL_isDone_412 : decode cL_isDone 412 = .ok (.ireturn, 1) := by decide +kernel
theorem dL_isDone_413 : decode cL_isDone 413 = .ok (.iconst 1, 1) := by decide +kernel
theorem dL_isDone_414 : decode cL_isDone 414 = .ok (.ireturn, 1) := by decide +kernel
set_option maxRecDepth 20000 in
theorem ggL_isLifted_L_below : GoodIn wsL_isLifted wsL_below := goodIn_r _ [11, 12] (by decide +kernel) (by decide +kernel)
set_option maxRecDepth 20000 in
theorem gL_isLifted_L_below : GoodIn wsL_isLifted (va_wsS RL 26 yL_below wsL_below) := goodIn_app (goodIn_of _ (by decide +kernel)) ggL_isLifted_L_below
set_option maxRecDepth 20000 in
theorem ggL_isLifted_X7_capacity : GoodIn wsL_isLifted wsX7_capacity := goodIn_ca (goodIn_ca (goodIn_r _ [17, 18, 19, 20, 21, 22, 23, 24, 25, 16, 26, 27, 28, 29, 30, 31, 32, 33, 34, 35, 36, 37, 38, 39, 40, 6, 3, 7, 41, 42, 43, 44, 45, 46, 47, 48, 49, 50, 224, 225, 226, 227, 228, 229, 230, 231, 232, 233, 234, 235, 236, 237, 238, 239, 240, 241, 242, 243, 244, 245, 246, 247, 248, 249, 250, 251] (by decide +kernel) (by decide +kernel)) (goodIn_sub (fun _ h => List.mem_cons_of_mem _ (List.mem_append_left _ (List.mem_append_right _ h))) (by decide +kernel))) (goodIn_sub (fun _ h => List.mem_cons_of_mem _ (List.mem_append_right _ h)) (by decide +kernel))
set_option maxRecDepth 20000 in
theorem gL_isLifted_X7_capacity : GoodIn wsL_isLifted (wsV RL 88 RX7 yX7_capacity wsX7_capacity) := goodIn_app (goodIn_of _ (by decide +kernel)) ggL_isLifted_X7_capacity
set_option maxRecDepth 20000 in
theorem ggL_isLifted_X7_site : GoodIn wsL_isLifted wsX7_site := goodIn_ca (goodIn_r _ [54, 18, 19, 21, 55, 22, 56, 57, 58, 59, 60, 29, 61, 62, 63, 64, 65, 66, 67, 68, 69, 70, 71, 72, 73, 74, 75, 16, 76, 77, 78, 79, 80, 81, 82, 83, 84, 85, 86, 87, 88, 89, 90, 91, 92, 93, 94, 95, 96, 97, 98, 99, 100, 101, 102, 103, 104, 105, 106, 107, 108, 236, 237, 238, 239, 240, 241, 242, 243, 244, 245, 246, 247, 248, 249, 250, 251, 252, 253, 254, 255, 256, 257, 258, 259, 260, 261, 262, 263, 264, 265, 266, 267] (by decide +kernel) (by decide +kernel)) (goodIn_sub (fun _ h => List.mem_cons_of_mem _ (List.mem_append_left _ (List.mem_append_right _ h))) (by decide +kernel))
set_option maxRecDepth 20000 in
theorem gL_isLifted_X7_site : GoodIn wsL_isLifted (wsV RL 37 RX7 yX7_site wsX7_site) := goodIn_app (goodIn_of _ (by decide +kernel)) ggL_isLifted_X7_site
set_option maxRecDepth 20000 in
theorem ggL_isLifted_X7_lift : GoodIn wsL_isLifted wsX7_lift := goodIn_ca (goodIn_ca (goodIn_r _ [112, 18, 19, 113, 114, 115, 116, 63, 117, 21, 22, 118, 23, 24, 25, 16, 26, 27, 28, 29, 30, 31, 32, 33, 119, 120, 121, 20, 122, 123, 124, 125, 126, 127, 128, 129, 130, 131, 132, 133, 134, 3, 135, 136, 2, 4, 137, 138, 139, 140, 141, 142, 143, 144, 145, 146, 147, 148, 37, 149, 150, 34, 35, 36, 38, 39, 40, 6, 7, 41, 42, 43, 44, 45, 46, 47, 48, 49, 50, 151, 152, 153, 154, 155, 156, 157, 158, 159, 160, 161, 162, 163, 164, 165, 166, 167, 168, 61, 77, 169, 67, 68, 69, 70, 71, 72, 78, 79, 80, 81, 82, 83, 84, 170, 171, 172, 173, 174, 175, 176, 177, 178, 179, 62, 180, 181, 182, 183, 184, 185, 186, 187, 188, 189, 190, 191, 192, 193, 194, 195, 196, 197, 198, 199, 88, 200, 90, 96, 201, 202, 203, 204, 205, 206, 207, 97, 91, 98, 99, 100, 101, 102, 103, 104, 105, 106, 107, 268, 269, 270, 224, 225, 226, 227, 228, 229, 230, 231, 232, 233, 234, 235, 236, 237, 238, 239, 240, 241, 242, 243, 244, 245, 246, 247, 248, 249, 250, 251, 256, 257, 258, 259, 260, 271, 272, 273, 274, 252, 253, 254, 255, 261, 262, 263, 264, 265, 266, 267] (by decide +kernel) (by decide +kernel)) (goodIn_sub (fun _ h => List.mem_cons_of_mem _ (List.mem_append_left _ (List.mem_append_right _ h))) (by decide +kernel))) (goodIn_sub (fun _ h => List.mem_cons_of_mem _ (List.mem_append_right _ h)) (by decide +kernel))
set_option maxRecDepth 20000 in
theorem gL_isLifted_X7_lift : GoodIn wsL_isLifted (wsV RL 99 RX7 yX7_lift wsX7_lift) := goodIn_app (goodIn_of _ (by decide +kernel)) ggL_isLifted_X7_lift
set_option maxRecDepth 20000 in
theorem ggL_isLifted_X7_page : GoodIn wsL_isLifted wsX7_page := goodIn_ca (goodIn_ca (goodIn_r _ [211, 27, 28, 18, 19, 63, 212, 213, 214, 215, 216, 217, 218, 219, 220, 221, 222, 16, 223, 64, 31, 32, 33, 236, 237, 238, 239, 240, 241, 242, 243, 244, 252, 253, 254, 255, 261, 262, 263, 264, 265, 266, 267] (by decide +kernel) (by decide +kernel)) (goodIn_sub (fun _ h => List.mem_cons_of_mem _ (List.mem_append_right _ h)) (by decide +kernel))) (goodIn_sub (fun _ h => List.mem_cons_of_mem _ (List.mem_append_left _ (List.mem_append_right _ h))) (by decide +kernel))
set_option maxRecDepth 20000 in
theorem gL_isLifted_X7_page : GoodIn wsL_isLifted (wsV RL 102 RX7 yX7_page wsX7_page) := goodIn_app (goodIn_of _ (by decide +kernel)) ggL_isLifted_X7_page
theorem dL_isLifted_0 : decode cL_isLifted 0 = .ok (.iconst 1, 1) := by decide +kernel
theorem dL_isLifted_1 : decode cL_isLifted 1 = .ok (.iload_n 2, 1) := by decide +kernel
theorem dL_isLifted_2 : decode cL_isLifted 2 = .ok (.iconst 3, 1) := by decide +kernel
theorem dL_isLifted_3 : decode cL_isLifted 3 = .ok (.ishr, 1) := by decide +kernel
theorem dL_isLifted_4 : decode cL_isLifted 4 = .ok (.bipush 90, 2) := by decide +kernel
theorem dL_isLifted_6 : decode cL_isLifted 6 = .ok (.invokestatic 26, 3) := by decide +kernel
theorem dL_isLifted_9 : decode cL_isLifted 9 = .ok (.iadd, 1) := by decide +kernel
theorem dL_isLifted_10 : decode cL_isLifted 10 = .ok (.istore_n 3, 1) := by decide +kernel
theorem dL_isLifted_11 : decode cL_isLifted 11 = .ok (.bipush 10, 2) := by decide +kernel
theorem dL_isLifted_13 : decode cL_isLifted 13 = .ok (.iload_n 2, 1) := by decide +kernel
theorem dL_isLifted_14 : decode cL_isLifted 14 = .ok (.iconst 4, 1) := by decide +kernel
theorem dL_isLifted_15 : decode cL_isLifted 15 = .ok (.ishr, 1) := by decide +kernel
theorem dL_isLifted_16 : decode cL_isLifted 16 = .ok (.bipush 25, 2) := by decide +kernel
theorem dL_isLifted_18 : decode cL_isLifted 18 = .ok (.invokestatic 26, 3) := by decide +kernel
theorem dL_isLifted_21 : decode cL_isLifted 21 = .ok (.iadd, 1) := by decide +kernel
theorem dL_isLifted_22 : decode cL_isLifted 22 = .ok (.istore 4, 2) := by decide +kernel
theorem dL_isLifted_24 : decode cL_isLifted 24 = .ok (.bipush 10, 2) := by decide +kernel
theorem dL_isLifted_26 : decode cL_isLifted 26 = .ok (.iload_n 2, 1) := by decide +kernel
theorem dL_isLifted_27 : decode cL_isLifted 27 = .ok (.bipush 6, 2) := by decide +kernel
theorem dL_isLifted_29 : decode cL_isLifted 29 = .ok (.ishr, 1) := by decide +kernel
theorem dL_isLifted_30 : decode cL_isLifted 30 = .ok (.bipush 25, 2) := by decide +kernel
theorem dL_isLifted_32 : decode cL_isLifted 32 = .ok (.invokestatic 26, 3) := by decide +kernel
theorem dL_isLifted_35 : decode cL_isLifted 35 = .ok (.iadd, 1) := by decide +kernel
theorem dL_isLifted_36 : decode cL_isLifted 36 = .ok (.istore 5, 2) := by decide +kernel
theorem dL_isLifted_38 : decode cL_isLifted 38 = .ok (.aload_n 0, 1) := by decide +kernel
theorem dL_isLifted_39 : decode cL_isLifted 39 = .ok (.iload_n 1, 1) := by decide +kernel
theorem dL_isLifted_40 : decode cL_isLifted 40 = .ok (.iload 5, 2) := by decide +kernel
theorem dL_isLifted_42 : decode cL_isLifted 42 = .ok (.invokevirtual 88, 3) := by decide +kernel
theorem dL_isLifted_45 : decode cL_isLifted 45 = .ok (.istore 6, 2) := by decide +kernel
theorem dL_isLifted_47 : decode cL_isLifted 47 = .ok (.iload 4, 2) := by decide +kernel
theorem dL_isLifted_49 : decode cL_isLifted 49 = .ok (.iload 5, 2) := by decide +kernel
theorem dL_isLifted_51 : decode cL_isLifted 51 = .ok (.invokestatic 91, 3) := by decide +kernel
theorem dL_isLifted_54 : decode cL_isLifted 54 = .ok (.istore 7, 2) := by decide +kernel
theorem dL_isLifted_56 : decode cL_isLifted 56 = .ok (.iload 7, 2) := by decide +kernel
theorem dL_isLifted_58 : decode cL_isLifted 58 = .ok (.iload 4, 2) := by decide +kernel
theorem dL_isLifted_60 : decode cL_isLifted 60 = .ok (.iload 5, 2) := by decide +kernel
theorem dL_isLifted_62 : decode cL_isLifted 62 = .ok (.invokestatic 96, 3) := by decide +kernel
theorem dL_isLifted_65 : decode cL_isLifted 65 = .ok (.if_icmp .gt 23, 3) := by decide +kernel
theorem dL_isLifted_68 : decode cL_isLifted 68 = .ok (.iload 6, 2) := by decide +kernel
theorem dL_isLifted_70 : decode cL_isLifted 70 = .ok (.aload_n 0, 1) := by decide +kernel
theorem dL_isLifted_71 : decode cL_isLifted 71 = .ok (.iload_n 1, 1) := by decide +kernel
theorem dL_isLifted_72 : decode cL_isLifted 72 = .ok (.iload 7, 2) := by decide +kernel
theorem dL_isLifted_74 : decode cL_isLifted 74 = .ok (.invokevirtual 88, 3) := by decide +kernel
theorem dL_isLifted_77 : decode cL_isLifted 77 = .ok (.invokestatic 91, 3) := by decide +kernel
theorem dL_isLifted_80 : decode cL_isLifted 80 = .ok (.istore 6, 2) := by decide +kernel
theorem dL_isLifted_82 : decode cL_isLifted 82 = .ok (.iinc 7 1, 3) := by decide +kernel
theorem dL_isLifted_85 : decode cL_isLifted 85 = .ok (.goto (-29), 3) := by decide +kernel
theorem dL_isLifted_88 : decode cL_isLifted 88 = .ok (.aload_n 0, 1) := by decide +kernel
theorem dL_isLifted_89 : decode cL_isLifted 89 = .ok (.bipush 12, 2) := by decide +kernel
theorem dL_isLifted_91 : decode cL_isLifted 91 = .ok (.invokevirtual 37, 3) := by decide +kernel
theorem dL_isLifted_94 : decode cL_isLifted 94 = .ok (.istore 7, 2) := by decide +kernel
theorem dL_isLifted_96 : decode cL_isLifted 96 = .ok (.aload_n 0, 1) := by decide +kernel
theorem dL_isLifted_97 : decode cL_isLifted 97 = .ok (.iload_n 1, 1) := by decide +kernel
theorem dL_isLifted_98 : decode cL_isLifted 98 = .ok (.iload_n 3, 1) := by decide +kernel
theorem dL_isLifted_99 : decode cL_isLifted 99 = .ok (.iload 4, 2) := by decide +kernel
theorem dL_isLifted_101 : decode cL_isLifted 101 = .ok (.iload 5, 2) := by decide +kernel
theorem dL_isLifted_103 : decode cL_isLifted 103 = .ok (.iload_n 2, 1) := by decide +kernel
theorem dL_isLifted_104 : decode cL_isLifted 104 = .ok (.iconst 5, 1) := by decide +kernel
theorem dL_isLifted_105 : decode cL_isLifted 105 = .ok (.ishr, 1) := by decide +kernel
theorem dL_isLifted_106 : decode cL_isLifted 106 = .ok (.bipush 25, 2) := by decide +kernel
theorem dL_isLifted_108 : decode cL_isLifted 108 = .ok (.invokestatic 26, 3) := by decide +kernel
theorem dL_isLifted_111 : decode cL_isLifted 111 = .ok (.invokevirtual 99, 3) := by decide +kernel
theorem dL_isLifted_114 : decode cL_isLifted 114 = .ok (.istore 8, 2) := by decide +kernel
theorem dL_isLifted_116 : decode cL_isLifted 116 = .ok (.iload 8, 2) := by decide +kernel
theorem dL_isLifted_118 : decode cL_isLifted 118 = .ok (.ifCond .ne 11, 3) := by decide +kernel
theorem dL_isLifted_121 : decode cL_isLifted 121 = .ok (.iload_n 3, 1) := by decide +kernel
theorem dL_isLifted_122 : decode cL_isLifted 122 = .ok (.iload 6, 2) := by decide +kernel
theorem dL_isLifted_124 : decode cL_isLifted 124 = .ok (.if_icmp .le 5, 3) := by decide +kernel
theorem dL_isLifted_127 : decode cL_isLifted 127 = .ok (.iconst 0, 1) := by decide +kernel
theorem dL_isLifted_128 : decode cL_isLifted 128 = .ok (.ireturn, 1) := by decide +kernel
theorem dL_isLifted_129 : decode cL_isLifted 129 = .ok (.iload 7, 2) := by decide +kernel
theorem dL_isLifted_131 : decode cL_isLifted 131 = .ok (.bipush 40, 2) := by decide +kernel
theorem dL_isLifted_133 : decode cL_isLifted 133 = .ok (.if_icmp .eq 82, 3) := by decide +kernel
theorem dL_isLifted_136 : decode cL_isLifted 136 = .ok (.aload_n 0, 1) := by decide +kernel
theorem dL_isLifted_137 : decode cL_isLifted 137 = .ok (.bipush 12, 2) := by decide +kernel
theorem dL_isLifted_139 : decode cL_isLifted 139 = .ok (.invokevirtual 37, 3) := by decide +kernel
theorem dL_isLifted_142 : decode cL_isLifted 142 = .ok (.iload 7, 2) := by decide +kernel
theorem dL_isLifted_144 : decode cL_isLifted 144 = .ok (.iconst 1, 1) := by decide +kernel
theorem dL_isLifted_145 : decode cL_isLifted 145 = .ok (.iadd, 1) := by decide +kernel
theorem dL_isLifted_146 : decode cL_isLifted 146 = .ok (.if_icmp .ne 73, 3) := by decide +kernel
theorem dL_isLifted_149 : decode cL_isLifted 149 = .ok (.aload_n 0, 1) := by decide +kernel
theorem dL_isLifted_150 : decode cL_isLifted 150 = .ok (.iload 7, 2) := by decide +kernel
theorem dL_isLifted_152 : decode cL_isLifted 152 = .ok (.iconst 0, 1) := by decide +kernel
theorem dL_isLifted_153 : decode cL_isLifted 153 = .ok (.invokevirtual 102, 3) := by decide +kernel
theorem dL_isLifted_156 : decode cL_isLifted 156 = .ok (.ifCond .ne 63, 3) := by decide +kernel
theorem dL_isLifted_159 : decode cL_isLifted 159 = .ok (.aload_n 0, 1) := by decide +kernel
theorem dL_isLifted_160 : decode cL_isLifted 160 = .ok (.iload 7, 2) := by decide +kernel
theorem dL_isLifted_162 : decode cL_isLifted 162 = .ok (.iconst 1, 1) := by decide +kernel
theorem dL_isLifted_163 : decode cL_isLifted 163 = .ok (.invokevirtual 102, 3) := by decide +kernel
theorem dL_isLifted_166 : decode cL_isLifted 166 = .ok (.iload_n 1, 1) := by decide +kernel
theorem dL_isLifted_167 : decode cL_isLifted 167 = .ok (.if_icmp .ne 52, 3) := by decide +kernel
theorem dL_isLifted_170 : decode cL_isLifted 170 = .ok (.aload_n 0, 1) := by decide +kernel
theorem dL_isLifted_171 : decode cL_isLifted 171 = .ok (.iload 7, 2) := by decide +kernel
theorem dL_isLifted_173 : decode cL_isLifted 173 = .ok (.iconst 3, 1) := by decide +kernel
theorem dL_isLifted_174 : decode cL_isLifted 174 = .ok (.invokevirtual 102, 3) := by decide +kernel
theorem dL_isLifted_177 : decode cL_isLifted 177 = .ok (.iload_n 3, 1) := by decide +kernel
theorem dL_isLifted_178 : decode cL_isLifted 178 = .ok (.if_icmp .ne 41, 3) := by decide +kernel
theorem dL_isLifted_181 : decode cL_isLifted 181 = .ok (.aload_n 0, 1) := by decide +kernel
theorem dL_isLifted_182 : decode cL_isLifted 182 = .ok (.iload 7, 2) := by decide +kernel
theorem dL_isLifted_184 : decode cL_isLifted 184 = .ok (.iconst 4, 1) := by decide +kernel
theorem dL_isLifted_185 : decode cL_isLifted 185 = .ok (.invokevirtual 102, 3) := by decide +kernel
theorem dL_isLifted_188 : decode cL_isLifted 188 = .ok (.iload 8, 2) := by decide +kernel
theorem dL_isLifted_190 : decode cL_isLifted 190 = .ok (.if_icmp .ne 29, 3) := by decide +kernel
theorem dL_isLifted_193 : decode cL_isLifted 193 = .ok (.aload_n 0, 1) := by decide +kernel
theorem dL_isLifted_194 : decode cL_isLifted 194 = .ok (.iload 7, 2) := by decide +kernel
theorem dL_isLifted_196 : decode cL_isLifted 196 = .ok (.bipush 6, 2) := by decide +kernel
theorem dL_isLifted_198 : decode cL_isLifted 198 = .ok (.invokevirtual 102, 3) := by decide +kernel
theorem dL_isLifted_201 : decode cL_isLifted 201 = .ok (.iload 8, 2) := by decide +kernel
theorem dL_isLifted_203 : decode cL_isLifted 203 = .ok (.ifCond .ne 8, 3) := by decide +kernel
theorem dL_isLifted_206 : decode cL_isLifted 206 = .ok (.iload 6, 2) := by decide +kernel
theorem dL_isLifted_208 : decode cL_isLifted 208 = .ok (.goto 4, 3) := by decide +kernel
theorem dL_isLifted_211 : decode cL_isLifted 211 = .ok (.iconst (-1), 1) := by decide +kernel
theorem dL_isLifted_212 : decode cL_isLifted 212 = .ok (.if_icmp .ne 7, 3) := by decide +kernel
theorem dL_isLifted_215 : decode cL_isLifted 215 = .ok (.iconst 1, 1) := by decide +kernel
theorem dL_isLifted_216 : decode cL_isLifted 216 = .ok (.goto 4, 3) := by decide +kernel
theorem dL_isLifted_219 : decode cL_isLifted 219 = .ok (.iconst 0, 1) := by decide +kernel
theorem dL_isLifted_220 : decode cL_isLifted 220 = .ok (.ireturn, 1) := by decide +kernel
set_option maxRecDepth 20000 in
theorem ggL_isHeld_X7_site : GoodIn wsL_isHeld wsX7_site := goodIn_ca (goodIn_r _ [5, 6, 7, 8, 9, 10, 11, 12, 13, 14, 15, 16, 17, 18, 19, 20, 21, 22, 23, 24, 25, 26, 27, 28, 29, 30, 31, 4, 32, 33, 34, 35, 36, 37, 38, 39, 40, 41, 42, 43, 44, 45, 46, 47, 48, 49, 50, 51, 52, 53, 54, 55, 56, 57, 58, 59, 60, 61, 62, 63, 64, 162, 163, 164, 165, 166, 167, 168, 169, 170, 171, 172, 173, 174, 175, 176, 177, 178, 179, 180, 181, 182, 183, 184, 185, 186, 187, 188, 189, 190, 191, 192, 193] (by decide +kernel) (by decide +kernel)) (goodIn_sub (fun _ h => List.mem_cons_of_mem _ (List.mem_append_left _ (List.mem_append_right _ h))) (by decide +kernel))
set_option maxRecDepth 20000 in
theorem gL_isHeld_X7_site : GoodIn wsL_isHeld (wsV RL 37 RX7 yX7_site wsX7_site) := goodIn_app (goodIn_of _ (by decide +kernel)) ggL_isHeld_X7_site
set_option maxRecDepth 20000 in
theorem ggL_isHeld_X7_ofCrane : GoodIn wsL_isHeld wsX7_ofCrane := goodIn_ca (goodIn_ca (goodIn_r _ [68, 6, 7, 69, 70, 71, 72, 73, 74, 8, 10, 13, 75, 76, 77, 78, 4, 79, 80, 81, 16, 82, 83, 84, 85, 86, 87, 88, 89, 90, 91, 92, 93, 94, 95, 96, 97, 98, 99, 100, 101, 102, 103, 104, 105, 106, 107, 108, 109, 110, 111, 112, 113, 114, 115, 116, 117, 118, 119, 120, 121, 122, 123, 194, 195, 196, 197, 198, 199, 200, 201, 202, 203, 204, 205, 162, 163, 164, 165, 166, 167, 168, 169, 170, 171, 172, 173, 174, 175, 176, 177] (by decide +kernel) (by decide +kernel)) (goodIn_sub (fun _ h => List.mem_cons_of_mem _ (List.mem_append_left _ (List.mem_append_right _ h))) (by decide +kernel))) (goodIn_sub (fun _ h => List.mem_cons_of_mem _ (List.mem_append_right _ h)) (by decide +kernel))
set_option maxRecDepth 20000 in
theorem gL_isHeld_X7_ofCrane : GoodIn wsL_isHeld (wsV RL 41 RX7 yX7_ofCrane wsX7_ofCrane) := goodIn_app (goodIn_of _ (by decide +kernel)) ggL_isHeld_X7_ofCrane
set_option maxRecDepth 20000 in
theorem ggL_isHeld_X7_page : GoodIn wsL_isHeld wsX7_page := goodIn_ca (goodIn_ca (goodIn_r _ [127, 80, 81, 6, 7, 19, 128, 129, 130, 131, 132, 133, 134, 135, 136, 137, 138, 4, 139, 20, 83, 84, 85, 162, 163, 164, 165, 166, 167, 168, 169, 170, 178, 179, 180, 181, 187, 188, 189, 190, 191, 192, 193] (by decide +kernel) (by decide +kernel)) (goodIn_sub (fun _ h => List.mem_cons_of_mem _ (List.mem_append_right _ h)) (by decide +kernel))) (goodIn_sub (fun _ h => List.mem_cons_of_mem _ (List.mem_append_left _ (List.mem_append_right _ h))) (by decide +kernel))
set_option maxRecDepth 20000 in
theorem gL_isHeld_X7_page : GoodIn wsL_isHeld (wsV RL 102 RX7 yX7_page wsX7_page) := goodIn_app (goodIn_of _ (by decide +kernel)) ggL_isHeld_X7_page
set_option maxRecDepth 20000 in
theorem ggL_isHeld_X7_isSound : GoodIn wsL_isHeld wsX7_isSound := goodIn_r _ [143, 16, 82, 19, 144, 145, 146, 4, 147, 73, 8, 72, 69, 74, 148, 149, 150, 26, 151, 152, 83, 84, 85, 41, 42, 43, 44, 45, 46, 47, 48, 49, 50, 51, 52, 53, 54, 55, 56, 57, 58, 59, 60, 61, 62, 63, 153, 154, 155, 156, 157, 158, 159, 160, 161, 162, 163, 164, 165, 166, 167, 168, 169, 170, 194, 195, 196, 197, 198, 199, 200, 201, 202, 203, 204, 205, 171, 172, 173, 174, 175, 176, 177, 178, 179, 180, 181, 187, 188, 189, 190, 191, 192, 193] (by decide +kernel) (by decide +kernel)
set_option maxRecDepth 20000 in
theorem gL_isHeld_X7_isSound : GoodIn wsL_isHeld (wsV RL 105 RX7 yX7_isSound wsX7_isSound) := goodIn_app (goodIn_of _ (by decide +kernel)) ggL_isHeld_X7_isSound
theorem dL_isHeld_0 : decode cL_isHeld 0 = .ok (.aload_n 0, 1) := by decide +kernel
theorem dL_isHeld_1 : decode cL_isHeld 1 = .ok (.iconst 2, 1) := by decide +kernel
theorem dL_isHeld_2 : decode cL_isHeld 2 = .ok (.invokevirtual 37, 3) := by decide +kernel
theorem dL_isHeld_5 : decode cL_isHeld 5 = .ok (.bipush 12, 2) := by decide +kernel
theorem dL_isHeld_7 : decode cL_isHeld 7 = .ok (.if_icmp .le 7, 3) := by decide +kernel
theorem dL_isHeld_10 : decode cL_isHeld 10 = .ok (.iconst 1, 1) := by decide +kernel
theorem dL_isHeld_11 : decode cL_isHeld 11 = .ok (.goto 4, 3) := by decide +kernel
theorem dL_isHeld_14 : decode cL_isHeld 14 = .ok (.iconst 0, 1) := by decide +kernel
theorem dL_isHeld_15 : decode cL_isHeld 15 = .ok (.istore_n 1, 1) := by decide +kernel
theorem dL_isHeld_16 : decode cL_isHeld 16 = .ok (.iconst 0, 1) := by decide +kernel
theorem dL_isHeld_17 : decode cL_isHeld 17 = .ok (.istore_n 2, 1) := by decide +kernel
theorem dL_isHeld_18 : decode cL_isHeld 18 = .ok (.iload_n 2, 1) := by decide +kernel
theorem dL_isHeld_19 : decode cL_isHeld 19 = .ok (.aload_n 0, 1) := by decide +kernel
theorem dL_isHeld_20 : decode cL_isHeld 20 = .ok (.bipush 8, 2) := by decide +kernel
theorem dL_isHeld_22 : decode cL_isHeld 22 = .ok (.invokevirtual 37, 3) := by decide +kernel
theorem dL_isHeld_25 : decode cL_isHeld 25 = .ok (.if_icmp .ge 25, 3) := by decide +kernel
theorem dL_isHeld_28 : decode cL_isHeld 28 = .ok (.iload_n 1, 1) := by decide +kernel
theorem dL_isHeld_29 : decode cL_isHeld 29 = .ok (.ifCond .eq 15, 3) := by decide +kernel
theorem dL_isHeld_32 : decode cL_isHeld 32 = .ok (.aload_n 0, 1) := by decide +kernel
theorem dL_isHeld_33 : decode cL_isHeld 33 = .ok (.iload_n 2, 1) := by decide +kernel
theorem dL_isHeld_34 : decode cL_isHeld 34 = .ok (.iconst 4, 1) := by decide +kernel
theorem dL_isHeld_35 : decode cL_isHeld 35 = .ok (.invokevirtual 41, 3) := by decide +kernel
theorem dL_isHeld_38 : decode cL_isHeld 38 = .ok (.iconst 1, 1) := by decide +kernel
theorem dL_isHeld_39 : decode cL_isHeld 39 = .ok (.if_icmp .ne 5, 3) := by decide +kernel
theorem dL_isHeld_42 : decode cL_isHeld 42 = .ok (.iconst 0, 1) := by decide +kernel
theorem dL_isHeld_43 : decode cL_isHeld 43 = .ok (.ireturn, 1) := by decide +kernel
theorem dL_isHeld_44 : decode cL_isHeld 44 = .ok (.iinc 2 1, 3) := by decide +kernel
theorem dL_isHeld_47 : decode cL_isHeld 47 = .ok (.goto (-29), 3) := by decide +kernel
theorem dL_isHeld_50 : decode cL_isHeld 50 = .ok (.aload_n 0, 1) := by decide +kernel
theorem dL_isHeld_51 : decode cL_isHeld 51 = .ok (.bipush 14, 2) := by decide +kernel
theorem dL_isHeld_53 : decode cL_isHeld 53 = .ok (.invokevirtual 37, 3) := by decide +kernel
theorem dL_isHeld_56 : decode cL_isHeld 56 = .ok (.iconst 1, 1) := by decide +kernel
theorem dL_isHeld_57 : decode cL_isHeld 57 = .ok (.if_icmp .ne 7, 3) := by decide +kernel
theorem dL_isHeld_60 : decode cL_isHeld 60 = .ok (.iconst 1, 1) := by decide +kernel
theorem dL_isHeld_61 : decode cL_isHeld 61 = .ok (.goto 4, 3) := by decide +kernel
theorem dL_isHeld_64 : decode cL_isHeld 64 = .ok (.iconst 0, 1) := by decide +kernel
theorem dL_isHeld_65 : decode cL_isHeld 65 = .ok (.istore_n 2, 1) := by decide +kernel
theorem dL_isHeld_66 : decode cL_isHeld 66 = .ok (.iconst 0, 1) := by decide +kernel
theorem dL_isHeld_67 : decode cL_isHeld 67 = .ok (.istore_n 3, 1) := by decide +kernel
theorem dL_isHeld_68 : decode cL_isHeld 68 = .ok (.iload_n 3, 1) := by decide +kernel
theorem dL_isHeld_69 : decode cL_isHeld 69 = .ok (.aload_n 0, 1) := by decide +kernel
theorem dL_isHeld_70 : decode cL_isHeld 70 = .ok (.bipush 12, 2) := by decide +kernel
theorem dL_isHeld_72 : decode cL_isHeld 72 = .ok (.invokevirtual 37, 3) := by decide +kernel
theorem dL_isHeld_75 : decode cL_isHeld 75 = .ok (.if_icmp .ge 49, 3) := by decide +kernel
theorem dL_isHeld_78 : decode cL_isHeld 78 = .ok (.iload_n 2, 1) := by decide +kernel
theorem dL_isHeld_79 : decode cL_isHeld 79 = .ok (.ifCond .eq 39, 3) := by decide +kernel
theorem dL_isHeld_82 : decode cL_isHeld 82 = .ok (.aload_n 0, 1) := by decide +kernel
theorem dL_isHeld_83 : decode cL_isHeld 83 = .ok (.iload_n 3, 1) := by decide +kernel
theorem dL_isHeld_84 : decode cL_isHeld 84 = .ok (.iconst 0, 1) := by decide +kernel
theorem dL_isHeld_85 : decode cL_isHeld 85 = .ok (.invokevirtual 102, 3) := by decide +kernel
theorem dL_isHeld_88 : decode cL_isHeld 88 = .ok (.ifCond .ne 30, 3) := by decide +kernel
theorem dL_isHeld_91 : decode cL_isHeld 91 = .ok (.aload_n 0, 1) := by decide +kernel
theorem dL_isHeld_92 : decode cL_isHeld 92 = .ok (.iload_n 3, 1) := by decide +kernel
theorem dL_isHeld_93 : decode cL_isHeld 93 = .ok (.iconst 4, 1) := by decide +kernel
theorem dL_isHeld_94 : decode cL_isHeld 94 = .ok (.invokevirtual 102, 3) := by decide +kernel
theorem dL_isHeld_97 : decode cL_isHeld 97 = .ok (.ifCond .ne 21, 3) := by decide +kernel
theorem dL_isHeld_100 : decode cL_isHeld 100 = .ok (.aload_n 0, 1) := by decide +kernel
theorem dL_isHeld_101 : decode cL_isHeld 101 = .ok (.iload_n 3, 1) := by decide +kernel
theorem dL_isHeld_102 : decode cL_isHeld 102 = .ok (.iconst 3, 1) := by decide +kernel
theorem dL_isHeld_103 : decode cL_isHeld 103 = .ok (.invokevirtual 102, 3) := by decide +kernel
theorem dL_isHeld_106 : decode cL_isHeld 106 = .ok (.aload_n 0, 1) := by decide +kernel
theorem dL_isHeld_107 : decode cL_isHeld 107 = .ok (.iload_n 3, 1) := by decide +kernel
theorem dL_isHeld_108 : decode cL_isHeld 108 = .ok (.bipush 6, 2) := by decide +kernel
theorem dL_isHeld_110 : decode cL_isHeld 110 = .ok (.invokevirtual 102, 3) := by decide +kernel
theorem dL_isHeld_113 : decode cL_isHeld 113 = .ok (.if_icmp .le 5, 3) := by decide +kernel
theorem dL_isHeld_116 : decode cL_isHeld 116 = .ok (.iconst 0, 1) := by decide +kernel
theorem dL_isHeld_117 : decode cL_isHeld 117 = .ok (.ireturn, 1) := by decide +kernel
theorem dL_isHeld_118 : decode cL_isHeld 118 = .ok (.iinc 3 1, 3) := by decide +kernel
theorem dL_isHeld_121 : decode cL_isHeld 121 = .ok (.goto (-53), 3) := by decide +kernel
theorem dL_isHeld_124 : decode cL_isHeld 124 = .ok (.aload_n 0, 1) := by decide +kernel
theorem dL_isHeld_125 : decode cL_isHeld 125 = .ok (.invokevirtual 105, 3) := by decide +kernel
theorem dL_isHeld_128 : decode cL_isHeld 128 = .ok (.ifCond .eq 36, 3) := by decide +kernel
theorem dL_isHeld_131 : decode cL_isHeld 131 = .ok (.iload_n 2, 1) := by decide +kernel
theorem dL_isHeld_132 : decode cL_isHeld 132 = .ok (.ifCond .eq 28, 3) := by decide +kernel
theorem dL_isHeld_135 : decode cL_isHeld 135 = .ok (.aload_n 0, 1) := by decide +kernel
theorem dL_isHeld_136 : decode cL_isHeld 136 = .ok (.bipush 12, 2) := by decide +kernel
theorem dL_isHeld_138 : decode cL_isHeld 138 = .ok (.invokevirtual 37, 3) := by decide +kernel
theorem dL_isHeld_141 : decode cL_isHeld 141 = .ok (.aload_n 0, 1) := by decide +kernel
theorem dL_isHeld_142 : decode cL_isHeld 142 = .ok (.bipush 13, 2) := by decide +kernel
theorem dL_isHeld_144 : decode cL_isHeld 144 = .ok (.invokevirtual 37, 3) := by decide +kernel
theorem dL_isHeld_147 : decode cL_isHeld 147 = .ok (.if_icmp .ne 17, 3) := by decide +kernel
theorem dL_isHeld_150 : decode cL_isHeld 150 = .ok (.aload_n 0, 1) := by decide +kernel
theorem dL_isHeld_151 : decode cL_isHeld 151 = .ok (.bipush 15, 2) := by decide +kernel
theorem dL_isHeld_153 : decode cL_isHeld 153 = .ok (.invokevirtual 37, 3) := by decide +kernel
theorem dL_isHeld_156 : decode cL_isHeld 156 = .ok (.iconst (-1), 1) := by decide +kernel
theorem dL_isHeld_157 : decode cL_isHeld 157 = .ok (.if_icmp .ne 7, 3) := by decide +kernel
theorem dL_isHeld_160 : decode cL_isHeld 160 = .ok (.iconst 1, 1) := by decide +kernel
theorem dL_isHeld_161 : decode cL_isHeld 161 = .ok (.goto 4, 3) := by decide +kernel
theorem dL_isHeld_164 : decode cL_isHeld 164 = .ok (.iconst 0, 1) := by decide +kernel
theorem dL_isHeld_165 : decode cL_isHeld 165 = .ok (.ireturn, 1) := by decide +kernel
set_option maxRecDepth 20000 in
theorem ggL_isAsked_X7_digest : GoodIn wsL_isAsked wsX7_digest := goodIn_ca (goodIn_ca (goodIn_r _ [5, 6, 7, 8, 9, 10, 11, 12, 13, 14, 15, 4, 16, 17, 18, 19, 20, 21, 22, 23, 24, 25, 26, 27, 28, 29, 30, 31, 32, 33, 34, 35, 36, 37, 38, 39, 40, 41, 42, 43, 44, 45, 46, 47, 48, 49, 50, 51, 52, 53, 54, 55, 56, 57, 58, 59, 60, 61, 62, 63, 64, 65, 66, 67, 68, 69, 70, 71, 72, 73, 74, 75, 76, 77, 78, 79, 80, 81, 82, 83, 84, 85, 86, 87, 88, 89, 90, 91, 92, 93, 94, 95, 96, 97, 98, 99, 100, 101, 102, 103, 104, 105, 106, 107, 108, 109, 110, 111, 112, 113, 114, 115, 116, 117, 118, 119, 120, 121, 122, 123, 124, 125, 126, 127, 128, 129, 130, 131, 132, 133, 134, 135, 136, 137, 138, 139, 140, 141, 142, 143, 144, 145, 146, 147, 148, 149, 150, 151, 152, 153, 154, 155, 156, 157, 158, 159, 160, 161, 162, 163, 164, 165, 166, 167, 168, 169, 170, 171, 172, 173, 174, 175, 176, 177, 178, 179, 180, 181, 182, 183, 184, 185, 186, 187, 188, 189, 190, 191, 192, 193, 194, 195, 196, 197, 198, 199, 200, 201, 202, 203, 204, 205, 206, 207, 208, 209, 210, 211, 212, 213, 214, 215, 216, 217, 218, 219, 220, 221, 222, 223, 224, 225, 226, 227, 228, 229, 230, 231, 232, 233, 234, 235, 236, 237, 238, 239, 240, 241, 242, 243, 244, 245, 246, 247, 248, 249, 250, 251, 252, 253, 254, 255, 256, 257, 258, 259, 260, 261, 262, 263, 264, 265, 266, 267, 268, 269, 270, 271, 272, 273, 274, 275, 276, 277, 278, 279, 280, 281, 282, 283, 284, 285, 286, 287, 288, 289, 290, 291, 292, 293, 294, 295, 296, 297, 298, 299, 300, 301, 302, 303, 304, 305, 306, 307, 308, 309, 310, 311, 312, 313, 314, 315, 316, 317, 318, 319, 320, 321, 322, 323, 324, 325, 326, 327, 328, 329, 330, 331, 332, 333, 334, 335, 336, 337, 338, 339, 340, 341, 342, 343, 344, 345, 346, 347, 348, 349, 350, 351, 352, 353, 354, 355, 356, 357, 358, 359, 360, 361, 362, 363, 364, 365, 366, 367, 368, 369, 370, 371, 372, 373, 374, 375, 376, 377, 378, 379, 380, 381, 382, 383, 384, 385, 386, 387, 388, 389, 390, 391, 392, 393, 394, 395, 396, 397, 398, 399, 473, 474, 475, 476, 477, 478, 479, 480, 481, 482, 483, 484, 485, 486, 487, 488, 489, 490, 491, 492, 493, 494, 495, 496, 497, 498, 499, 500, 501, 502, 503, 504, 505, 506, 507, 508, 509, 510, 511, 512, 513, 514, 515, 516, 517, 518, 519, 520, 521, 522, 523, 524] (by decide +kernel) (by decide +kernel)) (goodIn_sub (fun _ h => List.mem_cons_of_mem _ (List.mem_append_left _ (List.mem_append_right _ h))) (by decide +kernel))) (goodIn_sub (fun _ h => List.mem_cons_of_mem _ (List.mem_append_right _ h)) (by decide +kernel))
set_option maxRecDepth 20000 in
theorem gL_isAsked_X7_digest : GoodIn wsL_isAsked (wsV RL 109 RX7 yX7_digest wsX7_digest) := goodIn_app (goodIn_of _ (by decide +kernel)) ggL_isAsked_X7_digest
set_option maxRecDepth 20000 in
theorem ggL_isAsked_X7_site : GoodIn wsL_isAsked wsX7_site := goodIn_ca (goodIn_r _ [16, 17, 18, 19, 20, 21, 22, 23, 24, 25, 26, 8, 27, 28, 11, 12, 29, 30, 31, 32, 33, 34, 35, 36, 37, 38, 39, 4, 40, 41, 42, 43, 44, 45, 46, 47, 48, 49, 50, 51, 52, 53, 54, 55, 56, 57, 58, 59, 60, 61, 62, 63, 64, 65, 66, 67, 68, 69, 70, 71, 72, 473, 474, 475, 476, 477, 478, 479, 480, 481, 498, 499, 500, 501, 502, 503, 504, 494, 495, 496, 497, 505, 506, 507, 508, 509, 510, 511, 512, 513, 514, 515, 516] (by decide +kernel) (by decide +kernel)) (goodIn_sub (fun _ h => List.mem_cons_of_mem _ (List.mem_append_left _ (List.mem_append_right _ h))) (by decide +kernel))
set_option maxRecDepth 20000 in
theorem gL_isAsked_X7_site : GoodIn wsL_isAsked (wsV RL 37 RX7 yX7_site wsX7_site) := goodIn_app (goodIn_of _ (by decide +kernel)) ggL_isAsked_X7_site
set_option maxRecDepth 20000 in
theorem ggL_isAsked_X7_ofCrane : GoodIn wsL_isAsked wsX7_ofCrane := goodIn_ca (goodIn_ca (goodIn_r _ [76, 17, 18, 10, 77, 78, 79, 80, 81, 19, 21, 24, 82, 83, 84, 85, 4, 86, 87, 88, 8, 9, 89, 90, 91, 92, 93, 94, 95, 96, 97, 98, 99, 100, 101, 102, 103, 104, 105, 106, 107, 108, 109, 110, 111, 112, 113, 114, 115, 116, 117, 118, 119, 120, 121, 122, 123, 124, 125, 126, 127, 128, 129, 482, 483, 484, 485, 486, 487, 488, 489, 490, 491, 492, 493, 473, 474, 475, 476, 477, 478, 479, 480, 481, 498, 499, 500, 501, 502, 503, 504] (by decide +kernel) (by decide +kernel)) (goodIn_sub (fun _ h => List.mem_cons_of_mem _ (List.mem_append_left _ (List.mem_append_right _ h))) (by decide +kernel))) (goodIn_sub (fun _ h => List.mem_cons_of_mem _ (List.mem_append_right _ h)) (by decide +kernel))
set_option maxRecDepth 20000 in
theorem gL_isAsked_X7_ofCrane : GoodIn wsL_isAsked (wsV RL 41 RX7 yX7_ofCrane wsX7_ofCrane) := goodIn_app (goodIn_of _ (by decide +kernel)) ggL_isAsked_X7_ofCrane
set_option maxRecDepth 20000 in
theorem ggL_isAsked_L_below : GoodIn wsL_isAsked wsL_below := goodIn_r _ [405, 406] (by decide +kernel) (by decide +kernel)
set_option maxRecDepth 20000 in
theorem gL_isAsked_L_below : GoodIn wsL_isAsked (va_wsS RL 26 yL_below wsL_below) := goodIn_app (goodIn_of _ (by decide +kernel)) ggL_isAsked_L_below
set_option maxRecDepth 20000 in
theorem ggL_isAsked_X7_would : GoodIn wsL_isAsked wsX7_would := goodIn_ca (goodIn_ca (goodIn_r _ [410, 17, 18, 411, 412, 83, 84, 85, 4, 86, 87, 88, 8, 9, 89, 90, 91, 413, 414, 415, 10, 416, 417, 418, 419, 420, 421, 422, 80, 423, 424, 425, 78, 19, 21, 426, 427, 105, 428, 120, 121, 122, 429, 430, 431, 432, 169, 170, 433, 434, 435, 92, 93, 94, 95, 96, 97, 98, 99, 100, 101, 102, 103, 104, 106, 107, 108, 109, 110, 111, 112, 113, 114, 115, 116, 117, 118, 119, 123, 124, 125, 126, 127, 128, 129, 436, 437, 438, 439, 440, 441, 442, 443, 27, 41, 444, 445, 31, 32, 33, 34, 35, 36, 42, 43, 44, 45, 46, 47, 48, 446, 447, 448, 449, 450, 451, 452, 453, 454, 455, 28, 456, 457, 458, 459, 460, 461, 462, 463, 464, 465, 466, 467, 468, 525, 526, 527, 473, 474, 475, 476, 477, 478, 479, 480, 481, 482, 483, 484, 485, 486, 487, 488, 489, 490, 491, 492, 493, 498, 499, 500, 501, 502, 503, 504, 505, 506, 507, 508, 509, 528, 529, 530, 531] (by decide +kernel) (by decide +kernel)) (goodIn_sub (fun _ h => List.mem_cons_of_mem _ (List.mem_append_left _ (List.mem_append_right _ h))) (by decide +kernel))) (goodIn_sub (fun _ h => List.mem_cons_of_mem _ (List.mem_append_right _ h)) (by decide +kernel))
set_option maxRecDepth 20000 in
theorem gL_isAsked_X7_would : GoodIn wsL_isAsked (wsV RL 113 RX7 yX7_would wsX7_would) := goodIn_app (goodIn_of _ (by decide +kernel)) ggL_isAsked_X7_would
set_option maxRecDepth 20000 in
theorem ggL_isAsked_X7_capacity : GoodIn wsL_isAsked wsX7_capacity := goodIn_ca (goodIn_ca (goodIn_r _ [133, 17, 18, 10, 19, 21, 83, 84, 85, 4, 86, 87, 88, 8, 9, 89, 90, 91, 98, 99, 100, 95, 101, 102, 103, 104, 105, 106, 107, 108, 109, 110, 111, 112, 113, 114, 115, 116, 482, 483, 484, 485, 486, 487, 488, 489, 490, 491, 492, 493, 473, 474, 475, 476, 477, 478, 479, 480, 481, 498, 499, 500, 501, 502, 503, 504] (by decide +kernel) (by decide +kernel)) (goodIn_sub (fun _ h => List.mem_cons_of_mem _ (List.mem_append_left _ (List.mem_append_right _ h))) (by decide +kernel))) (goodIn_sub (fun _ h => List.mem_cons_of_mem _ (List.mem_append_right _ h)) (by decide +kernel))
set_option maxRecDepth 20000 in
theorem gL_isAsked_X7_capacity : GoodIn wsL_isAsked (wsV RL 88 RX7 yX7_capacity wsX7_capacity) := goodIn_app (goodIn_of _ (by decide +kernel)) ggL_isAsked_X7_capacity
set_option maxRecDepth 20000 in
theorem ggL_isAsked_X7_bearable : GoodIn wsL_isAsked wsX7_bearable := goodIn_ca (goodIn_ca (goodIn_r _ [137, 17, 18, 10, 83, 84, 85, 4, 86, 87, 88, 8, 9, 89, 90, 91, 98, 99, 100, 95, 101, 102, 103, 104, 105, 106, 107, 108, 109, 110, 111, 112, 113, 114, 115, 116, 482, 483, 484, 485, 486, 487, 488, 489, 490, 491, 492, 493, 473, 474, 475, 476, 477, 478, 479, 480, 481] (by decide +kernel) (by decide +kernel)) (goodIn_sub (fun _ h => List.mem_cons_of_mem _ (List.mem_append_left _ (List.mem_append_right _ h))) (by decide +kernel))) (goodIn_sub (fun _ h => List.mem_cons_of_mem _ (List.mem_append_right _ h)) (by decide +kernel))
set_option maxRecDepth 20000 in
theorem gL_isAsked_X7_bearable : GoodIn wsL_isAsked (wsV RL 117 RX7 yX7_bearable wsX7_bearable) := goodIn_app (goodIn_of _ (by decide +kernel)) ggL_isAsked_X7_bearable
set_option maxRecDepth 20000 in
theorem ggL_isAsked_X7_jibs : GoodIn wsL_isAsked wsX7_jibs := goodIn_r _ [157, 158, 159, 160, 8, 9, 80, 78, 161, 162, 163, 164, 165, 166, 167, 168, 169, 170, 171, 172, 173, 174, 175, 176, 177, 178, 179, 180, 181, 182, 183, 184, 185, 186, 187, 188, 189, 190, 191, 192, 193, 194, 195, 196, 197, 198, 199, 200, 201, 202, 203, 204, 205, 206, 207, 208, 104, 105, 106, 209, 210, 211, 212, 213, 214, 215, 216, 217, 218, 219, 220, 221, 222, 223, 121, 122, 224, 225, 226, 227, 228, 229, 230, 231, 232, 233, 234, 235, 236, 237, 238, 239, 240, 241, 242, 243, 244, 245, 246, 247, 248, 249, 250, 251, 252, 253, 254, 255, 256, 257, 258, 259, 260, 261, 262, 263, 264, 265, 266, 267, 268, 269, 270, 271, 272, 273, 274, 275, 276, 277, 278, 279, 280, 281, 282, 283, 284, 285, 286, 287, 288, 289, 290, 291, 292, 293, 294, 295, 296, 297, 298, 299, 300, 301, 302, 303, 304, 305, 306, 307, 308, 309, 310, 311, 312, 313, 314, 315, 316, 317, 318, 319, 320, 321, 322, 323, 324, 325, 326, 327, 328, 329, 330, 331, 332, 333, 334, 335, 336, 337, 338, 339, 340, 341, 342, 343, 344, 345, 346, 347, 348, 349, 350, 351, 352, 353, 354, 355, 356, 357, 358, 359, 360, 361, 362, 363, 364, 365, 366, 367, 368, 369, 517, 518, 519, 520, 473, 474, 475, 476, 477, 478, 479, 480, 481, 482, 483, 484, 485, 486, 487, 488, 489, 490, 491, 492, 493, 521, 522, 523, 524] (by decide +kernel) (by decide +kernel)
set_option maxRecDepth 20000 in
theorem gL_isAsked_X7_jibs : GoodIn wsL_isAsked (wsV RL 120 RX7 yX7_jibs wsX7_jibs) := goodIn_app (goodIn_of _ (by decide +kernel)) ggL_isAsked_X7_jibs
set_option maxRecDepth 20000 in
theorem ggL_isAsked_J0_length_8abf5 : GoodIn wsL_isAsked wsJ0_length_8abf5 := goodIn_r _ [373, 329, 374, 375, 376, 256, 377, 330, 328, 521, 522, 523, 524] (by decide +kernel) (by decide +kernel)
set_option maxRecDepth 20000 in
theorem gL_isAsked_J0_length_8abf5 : GoodIn wsL_isAsked (wsV RL 124 RJ0 yJ0_length_8abf5 wsJ0_length_8abf5) := goodIn_app (goodIn_of _ (by decide +kernel)) ggL_isAsked_J0_length_8abf5
theorem dL_isAsked_0 : decode cL_isAsked 0 = .ok (.aload_n 0, 1) := by decide +kernel
theorem dL_isAsked_1 : decode cL_isAsked 1 = .ok (.invokevirtual 109, 3) := by decide +kernel
theorem dL_isAsked_4 : decode cL_isAsked 4 = .ok (.lstore_n 2, 1) := by decide +kernel
theorem dL_isAsked_5 : decode cL_isAsked 5 = .ok (.iconst 0, 1) := by decide +kernel
theorem dL_isAsked_6 : decode cL_isAsked 6 = .ok (.istore 4, 2) := by decide +kernel
theorem dL_isAsked_8 : decode cL_isAsked 8 = .ok (.iload 4, 2) := by decide +kernel
theorem dL_isAsked_10 : decode cL_isAsked 10 = .ok (.aload_n 0, 1) := by decide +kernel
theorem dL_isAsked_11 : decode cL_isAsked 11 = .ok (.bipush 8, 2) := by decide +kernel
theorem dL_isAsked_13 : decode cL_isAsked 13 = .ok (.invokevirtual 37, 3) := by decide +kernel
theorem dL_isAsked_16 : decode cL_isAsked 16 = .ok (.if_icmp .ge 186, 3) := by decide +kernel
theorem dL_isAsked_19 : decode cL_isAsked 19 = .ok (.aload_n 0, 1) := by decide +kernel
theorem dL_isAsked_20 : decode cL_isAsked 20 = .ok (.iload 4, 2) := by decide +kernel
theorem dL_isAsked_22 : decode cL_isAsked 22 = .ok (.iconst 0, 1) := by decide +kernel
theorem dL_isAsked_23 : decode cL_isAsked 23 = .ok (.invokevirtual 41, 3) := by decide +kernel
theorem dL_isAsked_26 : decode cL_isAsked 26 = .ok (.istore 5, 2) := by decide +kernel
theorem dL_isAsked_28 : decode cL_isAsked 28 = .ok (.bipush 10, 2) := by decide +kernel
theorem dL_isAsked_30 : decode cL_isAsked 30 = .ok (.iload_n 1, 1) := by decide +kernel
theorem dL_isAsked_31 : decode cL_isAsked 31 = .ok (.iconst 3, 1) := by decide +kernel
theorem dL_isAsked_32 : decode cL_isAsked 32 = .ok (.ishr, 1) := by decide +kernel
theorem dL_isAsked_33 : decode cL_isAsked 33 = .ok (.iload 5, 2) := by decide +kernel
theorem dL_isAsked_35 : decode cL_isAsked 35 = .ok (.bipush 9, 2) := by decide +kernel
theorem dL_isAsked_37 : decode cL_isAsked 37 = .ok (.isub, 1) := by decide +kernel
theorem dL_isAsked_38 : decode cL_isAsked 38 = .ok (.invokestatic 26, 3) := by decide +kernel
theorem dL_isAsked_41 : decode cL_isAsked 41 = .ok (.iadd, 1) := by decide +kernel
theorem dL_isAsked_42 : decode cL_isAsked 42 = .ok (.istore 6, 2) := by decide +kernel
theorem dL_isAsked_44 : decode cL_isAsked 44 = .ok (.aload_n 0, 1) := by decide +kernel
theorem dL_isAsked_45 : decode cL_isAsked 45 = .ok (.iload 4, 2) := by decide +kernel
theorem dL_isAsked_47 : decode cL_isAsked 47 = .ok (.iconst 1, 1) := by decide +kernel
theorem dL_isAsked_48 : decode cL_isAsked 48 = .ok (.iload_n 1, 1) := by decide +kernel
theorem dL_isAsked_49 : decode cL_isAsked 49 = .ok (.iconst 4, 1) := by decide +kernel
theorem dL_isAsked_50 : decode cL_isAsked 50 = .ok (.ishr, 1) := by decide +kernel
theorem dL_isAsked_51 : decode cL_isAsked 51 = .ok (.bipush 60, 2) := by decide +kernel
theorem dL_isAsked_53 : decode cL_isAsked 53 = .ok (.invokestatic 26, 3) := by decide +kernel
theorem dL_isAsked_56 : decode cL_isAsked 56 = .ok (.iadd, 1) := by decide +kernel
theorem dL_isAsked_57 : decode cL_isAsked 57 = .ok (.bipush 10, 2) := by decide +kernel
theorem dL_isAsked_59 : decode cL_isAsked 59 = .ok (.iload 6, 2) := by decide +kernel
theorem dL_isAsked_61 : decode cL_isAsked 61 = .ok (.iload_n 1, 1) := by decide +kernel
theorem dL_isAsked_62 : decode cL_isAsked 62 = .ok (.iconst 2, 1) := by decide +kernel
theorem dL_isAsked_63 : decode cL_isAsked 63 = .ok (.ishr, 1) := by decide +kernel
theorem dL_isAsked_64 : decode cL_isAsked 64 = .ok (.bipush 24, 2) := by decide +kernel
theorem dL_isAsked_66 : decode cL_isAsked 66 = .ok (.invokestatic 26, 3) := by decide +kernel
theorem dL_isAsked_69 : decode cL_isAsked 69 = .ok (.iconst 0, 1) := by decide +kernel
theorem dL_isAsked_70 : decode cL_isAsked 70 = .ok (.invokevirtual 113, 3) := by decide +kernel
theorem dL_isAsked_73 : decode cL_isAsked 73 = .ok (.istore 7, 2) := by decide +kernel
theorem dL_isAsked_75 : decode cL_isAsked 75 = .ok (.aload_n 0, 1) := by decide +kernel
theorem dL_isAsked_76 : decode cL_isAsked 76 = .ok (.iload 4, 2) := by decide +kernel
theorem dL_isAsked_78 : decode cL_isAsked 78 = .ok (.iconst 1, 1) := by decide +kernel
theorem dL_isAsked_79 : decode cL_isAsked 79 = .ok (.iload_n 1, 1) := by decide +kernel
theorem dL_isAsked_80 : decode cL_isAsked 80 = .ok (.iconst 4, 1) := by decide +kernel
theorem dL_isAsked_81 : decode cL_isAsked 81 = .ok (.ishr, 1) := by decide +kernel
theorem dL_isAsked_82 : decode cL_isAsked 82 = .ok (.bipush 60, 2) := by decide +kernel
theorem dL_isAsked_84 : decode cL_isAsked 84 = .ok (.invokestatic 26, 3) := by decide +kernel
theorem dL_isAsked_87 : decode cL_isAsked 87 = .ok (.iadd, 1) := by decide +kernel
theorem dL_isAsked_88 : decode cL_isAsked 88 = .ok (.bipush 10, 2) := by decide +kernel
theorem dL_isAsked_90 : decode cL_isAsked 90 = .ok (.iload 6, 2) := by decide +kernel
theorem dL_isAsked_92 : decode cL_isAsked 92 = .ok (.iload_n 1, 1) := by decide +kernel
theorem dL_isAsked_93 : decode cL_isAsked 93 = .ok (.iconst 2, 1) := by decide +kernel
theorem dL_isAsked_94 : decode cL_isAsked 94 = .ok (.ishr, 1) := by decide +kernel
theorem dL_isAsked_95 : decode cL_isAsked 95 = .ok (.bipush 24, 2) := by decide +kernel
theorem dL_isAsked_97 : decode cL_isAsked 97 = .ok (.invokestatic 26, 3) := by decide +kernel
theorem dL_isAsked_100 : decode cL_isAsked 100 = .ok (.iconst 1, 1) := by decide +kernel
theorem dL_isAsked_101 : decode cL_isAsked 101 = .ok (.invokevirtual 113, 3) := by decide +kernel
theorem dL_isAsked_104 : decode cL_isAsked 104 = .ok (.istore 8, 2) := by decide +kernel
theorem dL_isAsked_106 : decode cL_isAsked 106 = .ok (.iload 7, 2) := by decide +kernel
theorem dL_isAsked_108 : decode cL_isAsked 108 = .ok (.ifCond .lt 33, 3) := by decide +kernel
theorem dL_isAsked_111 : decode cL_isAsked 111 = .ok (.iload 7, 2) := by decide +kernel
theorem dL_isAsked_113 : decode cL_isAsked 113 = .ok (.iconst 5, 1) := by decide +kernel
theorem dL_isAsked_114 : decode cL_isAsked 114 = .ok (.if_icmp .gt 27, 3) := by decide +kernel
theorem dL_isAsked_117 : decode cL_isAsked 117 = .ok (.iload 7, 2) := by decide +kernel
theorem dL_isAsked_119 : decode cL_isAsked 119 = .ok (.iconst 2, 1) := by decide +kernel
theorem dL_isAsked_120 : decode cL_isAsked 120 = .ok (.if_icmp .le 7, 3) := by decide +kernel
theorem dL_isAsked_123 : decode cL_isAsked 123 = .ok (.iconst 1, 1) := by decide +kernel
theorem dL_isAsked_124 : decode cL_isAsked 124 = .ok (.goto 4, 3) := by decide +kernel
theorem dL_isAsked_127 : decode cL_isAsked 127 = .ok (.iconst 0, 1) := by decide +kernel
theorem dL_isAsked_128 : decode cL_isAsked 128 = .ok (.iload 8, 2) := by decide +kernel
theorem dL_isAsked_130 : decode cL_isAsked 130 = .ok (.ifCond .lt 7, 3) := by decide +kernel
theorem dL_isAsked_133 : decode cL_isAsked 133 = .ok (.iconst 1, 1) := by decide +kernel
theorem dL_isAsked_134 : decode cL_isAsked 134 = .ok (.goto 4, 3) := by decide +kernel
theorem dL_isAsked_137 : decode cL_isAsked 137 = .ok (.iconst 0, 1) := by decide +kernel
theorem dL_isAsked_138 : decode cL_isAsked 138 = .ok (.if_icmp .eq 5, 3) := by decide +kernel
theorem dL_isAsked_141 : decode cL_isAsked 141 = .ok (.iconst 0, 1) := by decide +kernel
theorem dL_isAsked_142 : decode cL_isAsked 142 = .ok (.ireturn, 1) := by decide +kernel
theorem dL_isAsked_143 : decode cL_isAsked 143 = .ok (.aload_n 0, 1) := by decide +kernel
theorem dL_isAsked_144 : decode cL_isAsked 144 = .ok (.iload 4, 2) := by decide +kernel
theorem dL_isAsked_146 : decode cL_isAsked 146 = .ok (.iload 6, 2) := by decide +kernel
theorem dL_isAsked_148 : decode cL_isAsked 148 = .ok (.invokevirtual 88, 3) := by decide +kernel
theorem dL_isAsked_151 : decode cL_isAsked 151 = .ok (.aload_n 0, 1) := by decide +kernel
theorem dL_isAsked_152 : decode cL_isAsked 152 = .ok (.iload 4, 2) := by decide +kernel
theorem dL_isAsked_154 : decode cL_isAsked 154 = .ok (.bipush 10, 2) := by decide +kernel
theorem dL_isAsked_156 : decode cL_isAsked 156 = .ok (.invokevirtual 88, 3) := by decide +kernel
theorem dL_isAsked_159 : decode cL_isAsked 159 = .ok (.if_icmp .gt 35, 3) := by decide +kernel
theorem dL_isAsked_162 : decode cL_isAsked 162 = .ok (.aload_n 0, 1) := by decide +kernel
theorem dL_isAsked_163 : decode cL_isAsked 163 = .ok (.iload 4, 2) := by decide +kernel
theorem dL_isAsked_165 : decode cL_isAsked 165 = .ok (.iload 6, 2) := by decide +kernel
theorem dL_isAsked_167 : decode cL_isAsked 167 = .ok (.invokevirtual 117, 3) := by decide +kernel
theorem dL_isAsked_170 : decode cL_isAsked 170 = .ok (.aload_n 0, 1) := by decide +kernel
theorem dL_isAsked_171 : decode cL_isAsked 171 = .ok (.iload 4, 2) := by decide +kernel
theorem dL_isAsked_173 : decode cL_isAsked 173 = .ok (.bipush 10, 2) := by decide +kernel
theorem dL_isAsked_175 : decode cL_isAsked 175 = .ok (.invokevirtual 117, 3) := by decide +kernel
theorem dL_isAsked_178 : decode cL_isAsked 178 = .ok (.if_icmp .gt 16, 3) := by decide +kernel
theorem dL_isAsked_181 : decode cL_isAsked 181 = .ok (.aload_n 0, 1) := by decide +kernel
theorem dL_isAsked_182 : decode cL_isAsked 182 = .ok (.iload 4, 2) := by decide +kernel
theorem dL_isAsked_184 : decode cL_isAsked 184 = .ok (.iload 6, 2) := by decide +kernel
theorem dL_isAsked_186 : decode cL_isAsked 186 = .ok (.invokevirtual 117, 3) := by decide +kernel
theorem dL_isAsked_189 : decode cL_isAsked 189 = .ok (.bipush 12, 2) := by decide +kernel
theorem dL_isAsked_191 : decode cL_isAsked 191 = .ok (.if_icmp .le 5, 3) := by decide +kernel
theorem dL_isAsked_194 : decode cL_isAsked 194 = .ok (.iconst 0, 1) := by decide +kernel
theorem dL_isAsked_195 : decode cL_isAsked 195 = .ok (.ireturn, 1) := by decide +kernel
theorem dL_isAsked_196 : decode cL_isAsked 196 = .ok (.iinc 4 1, 3) := by decide +kernel
theorem dL_isAsked_199 : decode cL_isAsked 199 = .ok (.goto (-191), 3) := by decide +kernel
theorem dL_isAsked_202 : decode cL_isAsked 202 = .ok (.aload_n 0, 1) := by decide +kernel
theorem dL_isAsked_203 : decode cL_isAsked 203 = .ok (.invokevirtual 120, 3) := by decide +kernel
theorem dL_isAsked_206 : decode cL_isAsked 206 = .ok (.invokevirtual 124, 3) := by decide +kernel
theorem dL_isAsked_209 : decode cL_isAsked 209 = .ok (.iconst 2, 1) := by decide +kernel
theorem dL_isAsked_210 : decode cL_isAsked 210 = .ok (.if_icmp .lt 16, 3) := by decide +kernel
theorem dL_isAsked_213 : decode cL_isAsked 213 = .ok (.aload_n 0, 1) := by decide +kernel
theorem dL_isAsked_214 : decode cL_isAsked 214 = .ok (.invokevirtual 109, 3) := by decide +kernel
theorem dL_isAsked_217 : decode cL_isAsked 217 = .ok (.lload_n 2, 1) := by decide +kernel
theorem dL_isAsked_218 : decode cL_isAsked 218 = .ok (.lcmp, 1) := by decide +kernel
theorem dL_isAsked_219 : decode cL_isAsked 219 = .ok (.ifCond .ne 7, 3) := by decide +kernel
theorem dL_isAsked_222 : decode cL_isAsked 222 = .ok (.iconst 1, 1) := by decide +kernel
theorem dL_isAsked_223 : decode cL_isAsked 223 = .ok (.goto 4, 3) := by decide +kernel
theorem dL_isAsked_226 : decode cL_isAsked 226 = .ok (.iconst 0, 1) := by decide +kernel
theorem dL_isAsked_227 : decode cL_isAsked 227 = .ok (.ireturn, 1) := by decide +kernel

