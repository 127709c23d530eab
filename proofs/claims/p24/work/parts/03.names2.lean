theorem dX1_write_15 : decode cX1_write 15 = .ok (.getfield 22, 3) := by decide +kernel
theorem dX1_write_18 : decode cX1_write 18 = .ok (.aaload, 1) := by decide +kernel
theorem dX1_write_19 : decode cX1_write 19 = .ok (.astore 7, 2) := by decide +kernel
theorem dX1_write_21 : decode cX1_write 21 = .ok (.aload 7, 2) := by decide +kernel
theorem dX1_write_23 : decode cX1_write 23 = .ok (.iload_n 1, 1) := by decide +kernel
theorem dX1_write_24 : decode cX1_write 24 = .ok (.putfield 25, 3) := by decide +kernel
theorem dX1_write_27 : decode cX1_write 27 = .ok (.aload 7, 2) := by decide +kernel
theorem dX1_write_29 : decode cX1_write 29 = .ok (.iload_n 2, 1) := by decide +kernel
theorem dX1_write_30 : decode cX1_write 30 = .ok (.putfield 28, 3) := by decide +kernel
theorem dX1_write_33 : decode cX1_write 33 = .ok (.aload 7, 2) := by decide +kernel
theorem dX1_write_35 : decode cX1_write 35 = .ok (.iload_n 3, 1) := by decide +kernel
theorem dX1_write_36 : decode cX1_write 36 = .ok (.putfield 31, 3) := by decide +kernel
theorem dX1_write_39 : decode cX1_write 39 = .ok (.aload 7, 2) := by decide +kernel
theorem dX1_write_41 : decode cX1_write 41 = .ok (.iload 4, 2) := by decide +kernel
theorem dX1_write_43 : decode cX1_write 43 = .ok (.putfield 34, 3) := by decide +kernel
theorem dX1_write_46 : decode cX1_write 46 = .ok (.aload 7, 2) := by decide +kernel
theorem dX1_write_48 : decode cX1_write 48 = .ok (.iload 5, 2) := by decide +kernel
theorem dX1_write_50 : decode cX1_write 50 = .ok (.putfield 37, 3) := by decide +kernel
theorem dX1_write_53 : decode cX1_write 53 = .ok (.aload 7, 2) := by decide +kernel
theorem dX1_write_55 : decode cX1_write 55 = .ok (.iload 6, 2) := by decide +kernel
theorem dX1_write_57 : decode cX1_write 57 = .ok (.putfield 40, 3) := by decide +kernel
theorem dX1_write_60 : decode cX1_write 60 = .ok (.aload 7, 2) := by decide +kernel
theorem dX1_write_62 : decode cX1_write 62 = .ok (.aload 7, 2) := by decide +kernel
theorem dX1_write_64 : decode cX1_write 64 = .ok (.aload_n 0, 1) := by decide +kernel
theorem dX1_write_65 : decode cX1_write 65 = .ok (.getfield 11, 3) := by decide +kernel
theorem dX1_write_68 : decode cX1_write 68 = .ok (.invokevirtual 43, 3) := by decide +kernel
theorem dX1_write_71 : decode cX1_write 71 = .ok (.putfield 47, 3) := by decide +kernel
theorem dX1_write_74 : decode cX1_write 74 = .ok (.aload_n 0, 1) := by decide +kernel
theorem dX1_write_75 : decode cX1_write 75 = .ok (.aload 7, 2) := by decide +kernel
theorem dX1_write_77 : decode cX1_write 77 = .ok (.getfield 47, 3) := by decide +kernel
theorem dX1_write_80 : decode cX1_write 80 = .ok (.putfield 11, 3) := by decide +kernel
theorem dX1_write_83 : decode cX1_write 83 = .ok (.aload_n 0, 1) := by decide +kernel
theorem dX1_write_84 : decode cX1_write 84 = .ok (.dup, 1) := by decide +kernel
theorem dX1_write_85 : decode cX1_write 85 = .ok (.getfield 22, 3) := by decide +kernel
theorem dX1_write_88 : decode cX1_write 88 = .ok (.iconst 1, 1) := by decide +kernel
theorem dX1_write_89 : decode cX1_write 89 = .ok (.iadd, 1) := by decide +kernel
theorem dX1_write_90 : decode cX1_write 90 = .ok (.putfield 22, 3) := by decide +kernel
theorem dX1_write_93 : decode cX1_write 93 = .ok (.aload_n 0, 1) := by decide +kernel
theorem dX1_write_94 : decode cX1_write 94 = .ok (.dup, 1) := by decide +kernel
theorem dX1_write_95 : decode cX1_write 95 = .ok (.getfield 50, 3) := by decide +kernel
theorem dX1_write_98 : decode cX1_write 98 = .ok (.iconst 1, 1) := by decide +kernel
theorem dX1_write_99 : decode cX1_write 99 = .ok (.iadd, 1) := by decide +kernel
theorem dX1_write_100 : decode cX1_write 100 = .ok (.putfield 50, 3) := by decide +kernel
theorem dX1_write_103 : decode cX1_write 103 = .ok (.return_, 1) := by decide +kernel
theorem dX1_takeOut_0 : decode cX1_takeOut 0 = .ok (.aload_n 0, 1) := by decide +kernel
theorem dX1_takeOut_1 : decode cX1_takeOut 1 = .ok (.getfield 17, 3) := by decide +kernel
theorem dX1_takeOut_4 : decode cX1_takeOut 4 = .ok (.iload_n 1, 1) := by decide +kernel
theorem dX1_takeOut_5 : decode cX1_takeOut 5 = .ok (.aaload, 1) := by decide +kernel
theorem dX1_takeOut_6 : decode cX1_takeOut 6 = .ok (.astore_n 2, 1) := by decide +kernel
theorem dX1_takeOut_7 : decode cX1_takeOut 7 = .ok (.iload_n 1, 1) := by decide +kernel
theorem dX1_takeOut_8 : decode cX1_takeOut 8 = .ok (.istore_n 3, 1) := by decide +kernel
theorem dX1_takeOut_9 : decode cX1_takeOut 9 = .ok (.iload_n 3, 1) := by decide +kernel
theorem dX1_takeOut_10 : decode cX1_takeOut 10 = .ok (.aload_n 0, 1) := by decide +kernel
theorem dX1_takeOut_11 : decode cX1_takeOut 11 = .ok (.getfield 22, 3) := by decide +kernel
theorem dX1_takeOut_14 : decode cX1_takeOut 14 = .ok (.iconst 1, 1) := by decide +kernel
theorem dX1_takeOut_15 : decode cX1_takeOut 15 = .ok (.isub, 1) := by decide +kernel
theorem dX1_takeOut_16 : decode cX1_takeOut 16 = .ok (.if_icmp .ge 23, 3) := by decide +kernel
theorem dX1_takeOut_19 : decode cX1_takeOut 19 = .ok (.aload_n 0, 1) := by decide +kernel
theorem dX1_takeOut_20 : decode cX1_takeOut 20 = .ok (.getfield 17, 3) := by decide +kernel
theorem dX1_takeOut_23 : decode cX1_takeOut 23 = .ok (.iload_n 3, 1) := by decide +kernel
theorem dX1_takeOut_24 : decode cX1_takeOut 24 = .ok (.aload_n 0, 1) := by decide +kernel
theorem dX1_takeOut_25 : decode cX1_takeOut 25 = .ok (.getfield 17, 3) := by decide +kernel
theorem dX1_takeOut_28 : decode cX1_takeOut 28 = .ok (.iload_n 3, 1) := by decide +kernel
theorem dX1_takeOut_29 : decode cX1_takeOut 29 = .ok (.iconst 1, 1) := by decide +kernel
theorem dX1_takeOut_30 : decode cX1_takeOut 30 = .ok (.iadd, 1) := by decide +kernel
theorem dX1_takeOut_31 : decode cX1_takeOut 31 = .ok (.aaload, 1) := by decide +kernel
theorem dX1_takeOut_32 : decode cX1_takeOut 32 = .ok (.aastore, 1) := by decide +kernel
theorem dX1_takeOut_33 : decode cX1_takeOut 33 = .ok (.iinc 3 1, 3) := by decide +kernel
theorem dX1_takeOut_36 : decode cX1_takeOut 36 = .ok (.goto (-27), 3) := by decide +kernel
theorem dX1_takeOut_39 : decode cX1_takeOut 39 = .ok (.aload_n 0, 1) := by decide +kernel
theorem dX1_takeOut_40 : decode cX1_takeOut 40 = .ok (.dup, 1) := by decide +kernel
theorem dX1_takeOut_41 : decode cX1_takeOut 41 = .ok (.getfield 22, 3) := by decide +kernel
theorem dX1_takeOut_44 : decode cX1_takeOut 44 = .ok (.iconst 1, 1) := by decide +kernel
theorem dX1_takeOut_45 : decode cX1_takeOut 45 = .ok (.isub, 1) := by decide +kernel
theorem dX1_takeOut_46 : decode cX1_takeOut 46 = .ok (.putfield 22, 3) := by decide +kernel
theorem dX1_takeOut_49 : decode cX1_takeOut 49 = .ok (.aload_n 0, 1) := by decide +kernel
theorem dX1_takeOut_50 : decode cX1_takeOut 50 = .ok (.getfield 17, 3) := by decide +kernel
theorem dX1_takeOut_53 : decode cX1_takeOut 53 = .ok (.aload_n 0, 1) := by decide +kernel
theorem dX1_takeOut_54 : decode cX1_takeOut 54 = .ok (.getfield 22, 3) := by decide +kernel
theorem dX1_takeOut_57 : decode cX1_takeOut 57 = .ok (.aload_n 2, 1) := by decide +kernel
theorem dX1_takeOut_58 : decode cX1_takeOut 58 = .ok (.aastore, 1) := by decide +kernel
theorem dX1_takeOut_59 : decode cX1_takeOut 59 = .ok (.aload_n 2, 1) := by decide +kernel
theorem dX1_takeOut_60 : decode cX1_takeOut 60 = .ok (.getfield 47, 3) := by decide +kernel
theorem dX1_takeOut_63 : decode cX1_takeOut 63 = .ok (.ireturn, 1) := by decide +kernel
set_option maxRecDepth 20000 in
theorem ggX1_fault_X3_sealBehind : GoodIn wsX1_fault wsX3_sealBehind := goodIn_r _ [8, 9, 10, 11, 12, 13, 18, 19, 20, 21, 22, 23, 24] (by decide +kernel) (by decide +kernel)
set_option maxRecDepth 20000 in
theorem gX1_fault_X3_sealBehind : GoodIn wsX1_fault (wsV RX1 43 RX3 yX3_sealBehind wsX3_sealBehind) := goodIn_app (goodIn_of _ (by decide +kernel)) ggX1_fault_X3_sealBehind
theorem dX1_fault_0 : decode cX1_fault 0 = .ok (.iconst 1, 1) := by decide +kernel
theorem dX1_fault_1 : decode cX1_fault 1 = .ok (.istore_n 1, 1) := by decide +kernel
theorem dX1_fault_2 : decode cX1_fault 2 = .ok (.iconst 0, 1) := by decide +kernel
theorem dX1_fault_3 : decode cX1_fault 3 = .ok (.istore_n 2, 1) := by decide +kernel
theorem dX1_fault_4 : decode cX1_fault 4 = .ok (.iload_n 2, 1) := by decide +kernel
theorem dX1_fault_5 : decode cX1_fault 5 = .ok (.aload_n 0, 1) := by decide +kernel
theorem dX1_fault_6 : decode cX1_fault 6 = .ok (.getfield 22, 3) := by decide +kernel
theorem dX1_fault_9 : decode cX1_fault 9 = .ok (.if_icmp .ge 43, 3) := by decide +kernel
theorem dX1_fault_12 : decode cX1_fault 12 = .ok (.aload_n 0, 1) := by decide +kernel
theorem dX1_fault_13 : decode cX1_fault 13 = .ok (.getfield 17, 3) := by decide +kernel
theorem dX1_fault_16 : decode cX1_fault 16 = .ok (.iload_n 2, 1) := by decide +kernel
theorem dX1_fault_17 : decode cX1_fault 17 = .ok (.aaload, 1) := by decide +kernel
theorem dX1_fault_18 : decode cX1_fault 18 = .ok (.getfield 47, 3) := by decide +kernel
theorem dX1_fault_21 : decode cX1_fault 21 = .ok (.aload_n 0, 1) := by decide +kernel
theorem dX1_fault_22 : decode cX1_fault 22 = .ok (.getfield 17, 3) := by decide +kernel
theorem dX1_fault_25 : decode cX1_fault 25 = .ok (.iload_n 2, 1) := by decide +kernel
theorem dX1_fault_26 : decode cX1_fault 26 = .ok (.aaload, 1) := by decide +kernel
theorem dX1_fault_27 : decode cX1_fault 27 = .ok (.iload_n 1, 1) := by decide +kernel
theorem dX1_fault_28 : decode cX1_fault 28 = .ok (.invokevirtual 43, 3) := by decide +kernel
theorem dX1_fault_31 : decode cX1_fault 31 = .ok (.if_icmp .eq 5, 3) := by decide +kernel
theorem dX1_fault_34 : decode cX1_fault 34 = .ok (.iload_n 2, 1) := by decide +kernel
theorem dX1_fault_35 : decode cX1_fault 35 = .ok (.ireturn, 1) := by decide +kernel
theorem dX1_fault_36 : decode cX1_fault 36 = .ok (.aload_n 0, 1) := by decide +kernel
theorem dX1_fault_37 : decode cX1_fault 37 = .ok (.getfield 17, 3) := by decide +kernel
theorem dX1_fault_40 : decode cX1_fault 40 = .ok (.iload_n 2, 1) := by decide +kernel
theorem dX1_fault_41 : decode cX1_fault 41 = .ok (.aaload, 1) := by decide +kernel
theorem dX1_fault_42 : decode cX1_fault 42 = .ok (.getfield 47, 3) := by decide +kernel
theorem dX1_fault_45 : decode cX1_fault 45 = .ok (.istore_n 1, 1) := by decide +kernel
theorem dX1_fault_46 : decode cX1_fault 46 = .ok (.iinc 2 1, 3) := by decide +kernel
theorem dX1_fault_49 : decode cX1_fault 49 = .ok (.goto (-45), 3) := by decide +kernel
theorem dX1_fault_52 : decode cX1_fault 52 = .ok (.iconst (-1), 1) := by decide +kernel
theorem dX1_fault_53 : decode cX1_fault 53 = .ok (.ireturn, 1) := by decide +kernel
set_option maxRecDepth 20000 in
theorem ggX1_isWhole_X1_fault : GoodIn wsX1_isWhole wsX1_fault := goodIn_r _ [7, 1, 8, 9, 10, 11, 12, 13, 14, 15, 16, 17, 18, 19, 20, 21, 22, 23, 24, 25, 26, 27, 28, 29, 30] (by decide +kernel) (by decide +kernel)
set_option maxRecDepth 20000 in
theorem gX1_isWhole_X1_fault : GoodIn wsX1_isWhole (wsV RX1 53 RX1 yX1_fault wsX1_fault) := goodIn_app (goodIn_of _ (by decide +kernel)) ggX1_isWhole_X1_fault
theorem dX1_isWhole_0 : decode cX1_isWhole 0 = .ok (.aload_n 0, 1) := by decide +kernel
theorem dX1_isWhole_1 : decode cX1_isWhole 1 = .ok (.getfield 22, 3) := by decide +kernel
theorem dX1_isWhole_4 : decode cX1_isWhole 4 = .ok (.aload_n 0, 1) := by decide +kernel
theorem dX1_isWhole_5 : decode cX1_isWhole 5 = .ok (.getfield 50, 3) := by decide +kernel
theorem dX1_isWhole_8 : decode cX1_isWhole 8 = .ok (.if_icmp .ne 15, 3) := by decide +kernel
theorem dX1_isWhole_11 : decode cX1_isWhole 11 = .ok (.aload_n 0, 1) := by decide +kernel
theorem dX1_isWhole_12 : decode cX1_isWhole 12 = .ok (.invokevirtual 53, 3) := by decide +kernel
theorem dX1_isWhole_15 : decode cX1_isWhole 15 = .ok (.iconst (-1), 1) := by decide +kernel
theorem dX1_isWhole_16 : decode cX1_isWhole 16 = .ok (.if_icmp .ne 7, 3) := by decide +kernel
theorem dX1_isWhole_19 : decode cX1_isWhole 19 = .ok (.iconst 1, 1) := by decide +kernel
theorem dX1_isWhole_20 : decode cX1_isWhole 20 = .ok (.goto 4, 3) := by decide +kernel
theorem dX1_isWhole_23 : decode cX1_isWhole 23 = .ok (.iconst 0, 1) := by decide +kernel
theorem dX1_isWhole_24 : decode cX1_isWhole 24 = .ok (.ireturn, 1) := by decide +kernel
set_option maxRecDepth 20000 in
theorem ggX1_holdsNoOverload_X3_isOverload : GoodIn wsX1_holdsNoOverload wsX3_isOverload := goodIn_r _ [7, 8, 9, 10, 11, 16, 17, 18, 19, 20, 21, 22] (by decide +kernel) (by decide +kernel)
set_option maxRecDepth 20000 in
theorem gX1_holdsNoOverload_X3_isOverload : GoodIn wsX1_holdsNoOverload (wsV RX1 57 RX3 yX3_isOverload wsX3_isOverload) := goodIn_app (goodIn_of _ (by decide +kernel)) ggX1_holdsNoOverload_X3_isOverload
theorem dX1_holdsNoOverload_0 : decode cX1_holdsNoOverload 0 = .ok (.iconst 0, 1) := by decide +kernel
theorem dX1_holdsNoOverload_1 : decode cX1_holdsNoOverload 1 = .ok (.istore_n 1, 1) := by decide +kernel
theorem dX1_holdsNoOverload_2 : decode cX1_holdsNoOverload 2 = .ok (.iload_n 1, 1) := by decide +kernel
theorem dX1_holdsNoOverload_3 : decode cX1_holdsNoOverload 3 = .ok (.aload_n 0, 1) := by decide +kernel
theorem dX1_holdsNoOverload_4 : decode cX1_holdsNoOverload 4 = .ok (.getfield 22, 3) := by decide +kernel
theorem dX1_holdsNoOverload_7 : decode cX1_holdsNoOverload 7 = .ok (.if_icmp .ge 23, 3) := by decide +kernel
theorem dX1_holdsNoOverload_10 : decode cX1_holdsNoOverload 10 = .ok (.aload_n 0, 1) := by decide +kernel
theorem dX1_holdsNoOverload_11 : decode cX1_holdsNoOverload 11 = .ok (.getfield 17, 3) := by decide +kernel
theorem dX1_holdsNoOverload_14 : decode cX1_holdsNoOverload 14 = .ok (.iload_n 1, 1) := by decide +kernel
theorem dX1_holdsNoOverload_15 : decode cX1_holdsNoOverload 15 = .ok (.aaload, 1) := by decide +kernel
theorem dX1_holdsNoOverload_16 : decode cX1_holdsNoOverload 16 = .ok (.invokevirtual 57, 3) := by decide +kernel
theorem dX1_holdsNoOverload_19 : decode cX1_holdsNoOverload 19 = .ok (.ifCond .eq 5, 3) := by decide +kernel
theorem dX1_holdsNoOverload_22 : decode cX1_holdsNoOverload 22 = .ok (.iconst 0, 1) := by decide +kernel
theorem dX1_holdsNoOverload_23 : decode cX1_holdsNoOverload 23 = .ok (.ireturn, 1) := by decide +kernel
theorem dX1_holdsNoOverload_24 : decode cX1_holdsNoOverload 24 = .ok (.iinc 1 1, 3) := by decide +kernel
theorem dX1_holdsNoOverload_27 : decode cX1_holdsNoOverload 27 = .ok (.goto (-25), 3) := by decide +kernel
theorem dX1_holdsNoOverload_30 : decode cX1_holdsNoOverload 30 = .ok (.iconst 1, 1) := by decide +kernel
theorem dX1_holdsNoOverload_31 : decode cX1_holdsNoOverload 31 = .ok (.ireturn, 1) := by decide +kernel
theorem dX2_init_0 : decode cX2_init 0 = .ok (.aload_n 0, 1) := by decide +kernel
theorem dX2_init_1 : decode cX2_init 1 = .ok (.invokespecial 1, 3) := by decide +kernel
theorem dX2_init_4 : decode cX2_init 4 = .ok (.return_, 1) := by decide +kernel
theorem dX2_isMetBy_0 : decode cX2_isMetBy 0 = .ok (.aload_n 0, 1) := by decide +kernel
theorem dX2_isMetBy_1 : decode cX2_isMetBy 1 = .ok (.getfield 7, 3) := by decide +kernel
theorem dX2_isMetBy_4 : decode cX2_isMetBy 4 = .ok (.iload_n 1, 1) := by decide +kernel
theorem dX2_isMetBy_5 : decode cX2_isMetBy 5 = .ok (.if_icmp .ne 32, 3) := by decide +kernel
theorem dX2_isMetBy_8 : decode cX2_isMetBy 8 = .ok (.aload_n 0, 1) := by decide +kernel
theorem dX2_isMetBy_9 : decode cX2_isMetBy 9 = .ok (.getfield 13, 3) := by decide +kernel
theorem dX2_isMetBy_12 : decode cX2_isMetBy 12 = .ok (.iload_n 2, 1) := by decide +kernel
theorem dX2_isMetBy_13 : decode cX2_isMetBy 13 = .ok (.if_icmp .ne 24, 3) := by decide +kernel
theorem dX2_isMetBy_16 : decode cX2_isMetBy 16 = .ok (.aload_n 0, 1) := by decide +kernel
theorem dX2_isMetBy_17 : decode cX2_isMetBy 17 = .ok (.getfield 16, 3) := by decide +kernel
theorem dX2_isMetBy_20 : decode cX2_isMetBy 20 = .ok (.iload_n 3, 1) := by decide +kernel
theorem dX2_isMetBy_21 : decode cX2_isMetBy 21 = .ok (.if_icmp .ne 16, 3) := by decide +kernel
theorem dX2_isMetBy_24 : decode cX2_isMetBy 24 = .ok (.aload_n 0, 1) := by decide +kernel
theorem dX2_isMetBy_25 : decode cX2_isMetBy 25 = .ok (.getfield 19, 3) := by decide +kernel
theorem dX2_isMetBy_28 : decode cX2_isMetBy 28 = .ok (.iload 4, 2) := by decide +kernel
theorem dX2_isMetBy_30 : decode cX2_isMetBy 30 = .ok (.if_icmp .ne 7, 3) := by decide +kernel
theorem dX2_isMetBy_33 : decode cX2_isMetBy 33 = .ok (.iconst 1, 1) := by decide +kernel
theorem dX2_isMetBy_34 : decode cX2_isMetBy 34 = .ok (.goto 4, 3) := by decide +kernel
theorem dX2_isMetBy_37 : decode cX2_isMetBy 37 = .ok (.iconst 0, 1) := by decide +kernel
theorem dX2_isMetBy_38 : decode cX2_isMetBy 38 = .ok (.istore 5, 2) := by decide +kernel
theorem dX2_isMetBy_40 : decode cX2_isMetBy 40 = .ok (.aload_n 0, 1) := by decide +kernel
theorem dX2_isMetBy_41 : decode cX2_isMetBy 41 = .ok (.getfield 7, 3) := by decide +kernel
theorem dX2_isMetBy_44 : decode cX2_isMetBy 44 = .ok (.iload_n 3, 1) := by decide +kernel
theorem dX2_isMetBy_45 : decode cX2_isMetBy 45 = .ok (.if_icmp .ne 32, 3) := by decide +kernel
theorem dX2_isMetBy_48 : decode cX2_isMetBy 48 = .ok (.aload_n 0, 1) := by decide +kernel
theorem dX2_isMetBy_49 : decode cX2_isMetBy 49 = .ok (.getfield 13, 3) := by decide +kernel
theorem dX2_isMetBy_52 : decode cX2_isMetBy 52 = .ok (.iload 4, 2) := by decide +kernel
theorem dX2_isMetBy_54 : decode cX2_isMetBy 54 = .ok (.if_icmp .ne 23, 3) := by decide +kernel
theorem dX2_isMetBy_57 : decode cX2_isMetBy 57 = .ok (.aload_n 0, 1) := by decide +kernel
theorem dX2_isMetBy_58 : decode cX2_isMetBy 58 = .ok (.getfield 16, 3) := by decide +kernel
theorem dX2_isMetBy_61 : decode cX2_isMetBy 61 = .ok (.iload_n 1, 1) := by decide +kernel
theorem dX2_isMetBy_62 : decode cX2_isMetBy 62 = .ok (.if_icmp .ne 15, 3) := by decide +kernel
theorem dX2_isMetBy_65 : decode cX2_isMetBy 65 = .ok (.aload_n 0, 1) := by decide +kernel
theorem dX2_isMetBy_66 : decode cX2_isMetBy 66 = .ok (.getfield 19, 3) := by decide +kernel
theorem dX2_isMetBy_69 : decode cX2_isMetBy 69 = .ok (.iload_n 2, 1) := by decide +kernel
theorem dX2_isMetBy_70 : decode cX2_isMetBy 70 = .ok (.if_icmp .ne 7, 3) := by decide +kernel
theorem dX2_isMetBy_73 : decode cX2_isMetBy 73 = .ok (.iconst 1, 1) := by decide +kernel
theorem dX2_isMetBy_74 : decode cX2_isMetBy 74 = .ok (.goto 4, 3) := by decide +kernel
theorem dX2_isMetBy_77 : decode cX2_isMetBy 77 = .ok (.iconst 0, 1) := by decide +kernel
theorem dX2_isMetBy_78 : decode cX2_isMetBy 78 = .ok (.istore 6, 2) := by decide +kernel
theorem dX2_isMetBy_80 : decode cX2_isMetBy 80 = .ok (.iload 5, 2) := by decide +kernel
theorem dX2_isMetBy_82 : decode cX2_isMetBy 82 = .ok (.ifCond .ne 8, 3) := by decide +kernel
theorem dX2_isMetBy_85 : decode cX2_isMetBy 85 = .ok (.iload 6, 2) := by decide +kernel
theorem dX2_isMetBy_87 : decode cX2_isMetBy 87 = .ok (.ifCond .eq 7, 3) := by decide +kernel
theorem dX2_isMetBy_90 : decode cX2_isMetBy 90 = .ok (.iconst 1, 1) := by decide +kernel
theorem dX2_isMetBy_91 : decode cX2_isMetBy 91 = .ok (.goto 4, 3) := by decide +kernel
theorem dX2_isMetBy_94 : decode cX2_isMetBy 94 = .ok (.iconst 0, 1) := by decide +kernel
theorem dX2_isMetBy_95 : decode cX2_isMetBy 95 = .ok (.ireturn, 1) := by decide +kernel
theorem dX3_init_0 : decode cX3_init 0 = .ok (.aload_n 0, 1) := by decide +kernel
theorem dX3_init_1 : decode cX3_init 1 = .ok (.invokespecial 3, 3) := by decide +kernel
theorem dX3_init_4 : decode cX3_init 4 = .ok (.return_, 1) := by decide +kernel
theorem dX3_sealBehind_0 : decode cX3_sealBehind 0 = .ok (.bipush 31, 2) := by decide +kernel
theorem dX3_sealBehind_2 : decode cX3_sealBehind 2 = .ok (.iload_n 1, 1) := by decide +kernel
theorem dX3_sealBehind_3 : decode cX3_sealBehind 3 = .ok (.imul, 1) := by decide +kernel
theorem dX3_sealBehind_4 : decode cX3_sealBehind 4 = .ok (.bipush 7, 2) := by decide +kernel
theorem dX3_sealBehind_6 : decode cX3_sealBehind 6 = .ok (.aload_n 0, 1) := by decide +kernel
theorem dX3_sealBehind_7 : decode cX3_sealBehind 7 = .ok (.getfield 9, 3) := by decide +kernel
theorem dX3_sealBehind_10 : decode cX3_sealBehind 10 = .ok (.imul, 1) := by decide +kernel
theorem dX3_sealBehind_11 : decode cX3_sealBehind 11 = .ok (.iadd, 1) := by decide +kernel
theorem dX3_sealBehind_12 : decode cX3_sealBehind 12 = .ok (.iconst 5, 1) := by decide +kernel
theorem dX3_sealBehind_13 : decode cX3_sealBehind 13 = .ok (.aload_n 0, 1) := by decide +kernel
theorem dX3_sealBehind_14 : decode cX3_sealBehind 14 = .ok (.getfield 15, 3) := by decide +kernel
theorem dX3_sealBehind_17 : decode cX3_sealBehind 17 = .ok (.imul, 1) := by decide +kernel
theorem dX3_sealBehind_18 : decode cX3_sealBehind 18 = .ok (.iadd, 1) := by decide +kernel
theorem dX3_sealBehind_19 : decode cX3_sealBehind 19 = .ok (.iconst 3, 1) := by decide +kernel
theorem dX3_sealBehind_20 : decode cX3_sealBehind 20 = .ok (.aload_n 0, 1) := by decide +kernel
theorem dX3_sealBehind_21 : decode cX3_sealBehind 21 = .ok (.getfield 18, 3) := by decide +kernel
theorem dX3_sealBehind_24 : decode cX3_sealBehind 24 = .ok (.imul, 1) := by decide +kernel
theorem dX3_sealBehind_25 : decode cX3_sealBehind 25 = .ok (.iadd, 1) := by decide +kernel
theorem dX3_sealBehind_26 : decode cX3_sealBehind 26 = .ok (.aload_n 0, 1) := by decide +kernel
theorem dX3_sealBehind_27 : decode cX3_sealBehind 27 = .ok (.getfield 21, 3) := by decide +kernel
theorem dX3_sealBehind_30 : decode cX3_sealBehind 30 = .ok (.iadd, 1) := by decide +kernel
theorem dX3_sealBehind_31 : decode cX3_sealBehind 31 = .ok (.bipush 11, 2) := by decide +kernel
theorem dX3_sealBehind_33 : decode cX3_sealBehind 33 = .ok (.aload_n 0, 1) := by decide +kernel
theorem dX3_sealBehind_34 : decode cX3_sealBehind 34 = .ok (.getfield 24, 3) := by decide +kernel
theorem dX3_sealBehind_37 : decode cX3_sealBehind 37 = .ok (.imul, 1) := by decide +kernel
theorem dX3_sealBehind_38 : decode cX3_sealBehind 38 = .ok (.iadd, 1) := by decide +kernel
theorem dX3_sealBehind_39 : decode cX3_sealBehind 39 = .ok (.sipush 9973, 3) := by decide +kernel
theorem dX3_sealBehind_42 : decode cX3_sealBehind 42 = .ok (.irem, 1) := by decide +kernel
theorem dX3_sealBehind_43 : decode cX3_sealBehind 43 = .ok (.ireturn, 1) := by decide +kernel
theorem dX3_isOverload_0 : decode cX3_isOverload 0 = .ok (.aload_n 0, 1) := by decide +kernel
theorem dX3_isOverload_1 : decode cX3_isOverload 1 = .ok (.getfield 9, 3) := by decide +kernel
theorem dX3_isOverload_4 : decode cX3_isOverload 4 = .ok (.ifCond .ne 25, 3) := by decide +kernel
theorem dX3_isOverload_7 : decode cX3_isOverload 7 = .ok (.aload_n 0, 1) := by decide +kernel
theorem dX3_isOverload_8 : decode cX3_isOverload 8 = .ok (.getfield 24, 3) := by decide +kernel
theorem dX3_isOverload_11 : decode cX3_isOverload 11 = .ok (.ifCond .ne 18, 3) := by decide +kernel
theorem dX3_isOverload_14 : decode cX3_isOverload 14 = .ok (.aload_n 0, 1) := by decide +kernel
theorem dX3_isOverload_15 : decode cX3_isOverload 15 = .ok (.getfield 21, 3) := by decide +kernel
theorem dX3_isOverload_18 : decode cX3_isOverload 18 = .ok (.aload_n 0, 1) := by decide +kernel
theorem dX3_isOverload_19 : decode cX3_isOverload 19 = .ok (.getfield 27, 3) := by decide +kernel
theorem dX3_isOverload_22 : decode cX3_isOverload 22 = .ok (.if_icmp .le 7, 3) := by decide +kernel
theorem dX3_isOverload_25 : decode cX3_isOverload 25 = .ok (.iconst 1, 1) := by decide +kernel
theorem dX3_isOverload_26 : decode cX3_isOverload 26 = .ok (.goto 4, 3) := by decide +kernel
theorem dX3_isOverload_29 : decode cX3_isOverload 29 = .ok (.iconst 0, 1) := by decide +kernel
theorem dX3_isOverload_30 : decode cX3_isOverload 30 = .ok (.ireturn, 1) := by decide +kernel
theorem dX4_init_0 : decode cX4_init 0 = .ok (.aload_n 0, 1) := by decide +kernel
theorem dX4_init_1 : decode cX4_init 1 = .ok (.invokespecial 1, 3) := by decide +kernel
theorem dX4_init_4 : decode cX4_init 4 = .ok (.aload_n 0, 1) := by decide +kernel
theorem dX4_init_5 : decode cX4_init 5 = .ok (.iload_n 1, 1) := by decide +kernel
theorem dX4_init_6 : decode cX4_init 6 = .ok (.putfield 7, 3) := by decide +kernel
theorem dX4_init_9 : decode cX4_init 9 = .ok (.aload_n 0, 1) := by decide +kernel
theorem dX4_init_10 : decode cX4_init 10 = .ok (.iload_n 2, 1) := by decide +kernel
theorem dX4_init_11 : decode cX4_init 11 = .ok (.putfield 13, 3) := by decide +kernel
theorem dX4_init_14 : decode cX4_init 14 = .ok (.aload_n 0, 1) := by decide +kernel
theorem dX4_init_15 : decode cX4_init 15 = .ok (.iload_n 3, 1) := by decide +kernel
theorem dX4_init_16 : decode cX4_init 16 = .ok (.putfield 16, 3) := by decide +kernel
theorem dX4_init_19 : decode cX4_init 19 = .ok (.return_, 1) := by decide +kernel
theorem dX5_init_0 : decode cX5_init 0 = .ok (.aload_n 0, 1) := by decide +kernel
theorem dX5_init_1 : decode cX5_init 1 = .ok (.invokespecial 3, 3) := by decide +kernel
theorem dX5_init_4 : decode cX5_init 4 = .ok (.aload_n 0, 1) := by decide +kernel
theorem dX5_init_5 : decode cX5_init 5 = .ok (.bipush 31, 2) := by decide +kernel
theorem dX5_init_7 : decode cX5_init 7 = .ok (.putfield 9, 3) := by decide +kernel
theorem dX5_init_10 : decode cX5_init 10 = .ok (.return_, 1) := by decide +kernel
set_option maxRecDepth 20000 in
theorem ggX5_goOnByAMinute_X5_isStorm : GoodIn wsX5_goOnByAMinute wsX5_isStorm := goodIn_r _ [11, 5, 12, 13, 14, 15, 16, 17, 18] (by decide +kernel) (by decide +kernel)
set_option maxRecDepth 20000 in
theorem gX5_goOnByAMinute_X5_isStorm : GoodIn wsX5_goOnByAMinute (wsV RX5 27 RX5 yX5_isStorm wsX5_isStorm) := goodIn_app (goodIn_of _ (by decide +kernel)) ggX5_goOnByAMinute_X5_isStorm
theorem dX5_goOnByAMinute_0 : decode cX5_goOnByAMinute 0 = .ok (.aload_n 0, 1) := by decide +kernel
theorem dX5_goOnByAMinute_1 : decode cX5_goOnByAMinute 1 = .ok (.dup, 1) := by decide +kernel
theorem dX5_goOnByAMinute_2 : decode cX5_goOnByAMinute 2 = .ok (.getfield 15, 3) := by decide +kernel
theorem dX5_goOnByAMinute_5 : decode cX5_goOnByAMinute 5 = .ok (.iconst 1, 1) := by decide +kernel
theorem dX5_goOnByAMinute_6 : decode cX5_goOnByAMinute 6 = .ok (.iadd, 1) := by decide +kernel
theorem dX5_goOnByAMinute_7 : decode cX5_goOnByAMinute 7 = .ok (.putfield 15, 3) := by decide +kernel
theorem dX5_goOnByAMinute_10 : decode cX5_goOnByAMinute 10 = .ok (.aload_n 0, 1) := by decide +kernel
theorem dX5_goOnByAMinute_11 : decode cX5_goOnByAMinute 11 = .ok (.bipush 53, 2) := by decide +kernel
theorem dX5_goOnByAMinute_13 : decode cX5_goOnByAMinute 13 = .ok (.aload_n 0, 1) := by decide +kernel
theorem dX5_goOnByAMinute_14 : decode cX5_goOnByAMinute 14 = .ok (.getfield 9, 3) := by decide +kernel
theorem dX5_goOnByAMinute_17 : decode cX5_goOnByAMinute 17 = .ok (.imul, 1) := by decide +kernel
theorem dX5_goOnByAMinute_18 : decode cX5_goOnByAMinute 18 = .ok (.bipush 101, 2) := by decide +kernel
theorem dX5_goOnByAMinute_20 : decode cX5_goOnByAMinute 20 = .ok (.iadd, 1) := by decide +kernel
theorem dX5_goOnByAMinute_21 : decode cX5_goOnByAMinute 21 = .ok (.sipush 1024, 3) := by decide +kernel
theorem dX5_goOnByAMinute_24 : decode cX5_goOnByAMinute 24 = .ok (.irem, 1) := by decide +kernel
theorem dX5_goOnByAMinute_25 : decode cX5_goOnByAMinute 25 = .ok (.putfield 9, 3) := by decide +kernel
theorem dX5_goOnByAMinute_28 : decode cX5_goOnByAMinute 28 = .ok (.aload_n 0, 1) := by decide +kernel
theorem dX5_goOnByAMinute_29 : decode cX5_goOnByAMinute 29 = .ok (.aload_n 0, 1) := by decide +kernel
theorem dX5_goOnByAMinute_30 : decode cX5_goOnByAMinute 30 = .ok (.getfield 18, 3) := by decide +kernel
theorem dX5_goOnByAMinute_33 : decode cX5_goOnByAMinute 33 = .ok (.aload_n 0, 1) := by decide +kernel
theorem dX5_goOnByAMinute_34 : decode cX5_goOnByAMinute 34 = .ok (.getfield 9, 3) := by decide +kernel
theorem dX5_goOnByAMinute_37 : decode cX5_goOnByAMinute 37 = .ok (.aload_n 0, 1) := by decide +kernel
theorem dX5_goOnByAMinute_38 : decode cX5_goOnByAMinute 38 = .ok (.getfield 21, 3) := by decide +kernel
theorem dX5_goOnByAMinute_41 : decode cX5_goOnByAMinute 41 = .ok (.iconst 1, 1) := by decide +kernel
theorem dX5_goOnByAMinute_42 : decode cX5_goOnByAMinute 42 = .ok (.iadd, 1) := by decide +kernel
theorem dX5_goOnByAMinute_43 : decode cX5_goOnByAMinute 43 = .ok (.imul, 1) := by decide +kernel
theorem dX5_goOnByAMinute_44 : decode cX5_goOnByAMinute 44 = .ok (.sipush 1024, 3) := by decide +kernel
theorem dX5_goOnByAMinute_47 : decode cX5_goOnByAMinute 47 = .ok (.idiv, 1) := by decide +kernel
theorem dX5_goOnByAMinute_48 : decode cX5_goOnByAMinute 48 = .ok (.iadd, 1) := by decide +kernel
theorem dX5_goOnByAMinute_49 : decode cX5_goOnByAMinute 49 = .ok (.putfield 24, 3) := by decide +kernel
theorem dX5_goOnByAMinute_52 : decode cX5_goOnByAMinute 52 = .ok (.aload_n 0, 1) := by decide +kernel
theorem dX5_goOnByAMinute_53 : decode cX5_goOnByAMinute 53 = .ok (.invokevirtual 27, 3) := by decide +kernel
theorem dX5_goOnByAMinute_56 : decode cX5_goOnByAMinute 56 = .ok (.ifCond .eq 13, 3) := by decide +kernel
theorem dX5_goOnByAMinute_59 : decode cX5_goOnByAMinute 59 = .ok (.aload_n 0, 1) := by decide +kernel
theorem dX5_goOnByAMinute_60 : decode cX5_goOnByAMinute 60 = .ok (.dup, 1) := by decide +kernel
theorem dX5_goOnByAMinute_61 : decode cX5_goOnByAMinute 61 = .ok (.getfield 31, 3) := by decide +kernel
theorem dX5_goOnByAMinute_64 : decode cX5_goOnByAMinute 64 = .ok (.iconst 1, 1) := by decide +kernel
theorem dX5_goOnByAMinute_65 : decode cX5_goOnByAMinute 65 = .ok (.iadd, 1) := by decide +kernel
theorem dX5_goOnByAMinute_66 : decode cX5_goOnByAMinute 66 = .ok (.putfield 31, 3) := by decide +kernel
theorem dX5_goOnByAMinute_69 : decode cX5_goOnByAMinute 69 = .ok (.return_, 1) := by decide +kernel
theorem dX5_isStorm_0 : decode cX5_isStorm 0 = .ok (.aload_n 0, 1) := by decide +kernel
theorem dX5_isStorm_1 : decode cX5_isStorm 1 = .ok (.getfield 24, 3) := by decide +kernel
theorem dX5_isStorm_4 : decode cX5_isStorm 4 = .ok (.bipush 12, 2) := by decide +kernel
theorem dX5_isStorm_6 : decode cX5_isStorm 6 = .ok (.if_icmp .le 7, 3) := by decide +kernel
theorem dX5_isStorm_9 : decode cX5_isStorm 9 = .ok (.iconst 1, 1) := by decide +kernel
theorem dX5_isStorm_10 : decode cX5_isStorm 10 = .ok (.goto 4, 3) := by decide +kernel
theorem dX5_isStorm_13 : decode cX5_isStorm 13 = .ok (.iconst 0, 1) := by decide +kernel
theorem dX5_isStorm_14 : decode cX5_isStorm 14 = .ok (.ireturn, 1) := by decide +kernel
theorem dX5_hour_0 : decode cX5_hour 0 = .ok (.aload_n 0, 1) := by decide +kernel
theorem dX5_hour_1 : decode cX5_hour 1 = .ok (.getfield 15, 3) := by decide +kernel
theorem dX5_hour_4 : decode cX5_hour 4 = .ok (.bipush 60, 2) := by decide +kernel
theorem dX5_hour_6 : decode cX5_hour 6 = .ok (.idiv, 1) := by decide +kernel
theorem dX5_hour_7 : decode cX5_hour 7 = .ok (.bipush 24, 2) := by decide +kernel
theorem dX5_hour_9 : decode cX5_hour 9 = .ok (.irem, 1) := by decide +kernel
theorem dX5_hour_10 : decode cX5_hour 10 = .ok (.ireturn, 1) := by decide +kernel
theorem dX6_init_0 : decode cX6_init 0 = .ok (.aload_n 0, 1) := by decide +kernel
theorem dX6_init_1 : decode cX6_init 1 = .ok (.invokespecial 1, 3) := by decide +kernel
theorem dX6_init_4 : decode cX6_init 4 = .ok (.return_, 1) := by decide +kernel
set_option maxRecDepth 20000 in
theorem ggX6_holds_X7_risingSteps : GoodIn wsX6_holds wsX7_risingSteps := goodIn_r _ [5, 6, 7, 8, 9] (by decide +kernel) (by decide +kernel)
set_option maxRecDepth 20000 in
theorem gX6_holds_X7_risingSteps_n13 : GoodIn wsX6_holds (wsX7_risingSteps) := ggX6_holds_X7_risingSteps
theorem dX6_holds_0 : decode cX6_holds 0 = .ok (.aload_n 0, 1) := by decide +kernel
theorem dX6_holds_1 : decode cX6_holds 1 = .ok (.getfield 7, 3) := by decide +kernel
theorem dX6_holds_4 : decode cX6_holds 4 = .ok (.iload_n 1, 1) := by decide +kernel
theorem dX6_holds_5 : decode cX6_holds 5 = .ok (.invokestatic 13, 3) := by decide +kernel
theorem dX6_holds_8 : decode cX6_holds 8 = .ok (.aload_n 0, 1) := by decide +kernel
theorem dX6_holds_9 : decode cX6_holds 9 = .ok (.getfield 7, 3) := by decide +kernel
theorem dX6_holds_12 : decode cX6_holds 12 = .ok (.aload_n 0, 1) := by decide +kernel
theorem dX6_holds_13 : decode cX6_holds 13 = .ok (.getfield 19, 3) := by decide +kernel
theorem dX6_holds_16 : decode cX6_holds 16 = .ok (.invokestatic 13, 3) := by decide +kernel
theorem dX6_holds_19 : decode cX6_holds 19 = .ok (.if_icmp .gt 7, 3) := by decide +kernel
theorem dX6_holds_22 : decode cX6_holds 22 = .ok (.iconst 1, 1) := by decide +kernel
theorem dX6_holds_23 : decode cX6_holds 23 = .ok (.goto 4, 3) := by decide +kernel
theorem dX6_holds_26 : decode cX6_holds 26 = .ok (.iconst 0, 1) := by decide +kernel
theorem dX6_holds_27 : decode cX6_holds 27 = .ok (.ireturn, 1) := by decide +kernel
theorem dX6_isShutAt_0 : decode cX6_isShutAt 0 = .ok (.aload_n 0, 1) := by decide +kernel
theorem dX6_isShutAt_1 : decode cX6_isShutAt 1 = .ok (.getfield 22, 3) := by decide +kernel
theorem dX6_isShutAt_4 : decode cX6_isShutAt 4 = .ok (.iload_n 1, 1) := by decide +kernel
theorem dX6_isShutAt_5 : decode cX6_isShutAt 5 = .ok (.if_icmp .gt 15, 3) := by decide +kernel
theorem dX6_isShutAt_8 : decode cX6_isShutAt 8 = .ok (.iload_n 1, 1) := by decide +kernel
theorem dX6_isShutAt_9 : decode cX6_isShutAt 9 = .ok (.aload_n 0, 1) := by decide +kernel
theorem dX6_isShutAt_10 : decode cX6_isShutAt 10 = .ok (.getfield 25, 3) := by decide +kernel
theorem dX6_isShutAt_13 : decode cX6_isShutAt 13 = .ok (.if_icmp .ge 7, 3) := by decide +kernel
theorem dX6_isShutAt_16 : decode cX6_isShutAt 16 = .ok (.iconst 1, 1) := by decide +kernel
theorem dX6_isShutAt_17 : decode cX6_isShutAt 17 = .ok (.goto 4, 3) := by decide +kernel
theorem dX6_isShutAt_20 : decode cX6_isShutAt 20 = .ok (.iconst 0, 1) := by decide +kernel
theorem dX6_isShutAt_21 : decode cX6_isShutAt 21 = .ok (.ireturn, 1) := by decide +kernel
set_option maxRecDepth 20000 in
theorem ggX7_init_X5_init : GoodIn wsX7_init wsX5_init := goodIn_r _ [25, 26, 2, 3, 27, 51, 52, 53, 54, 55, 56, 57] (by decide +kernel) (by decide +kernel)
set_option maxRecDepth 20000 in
theorem gX7_init_X5_init_n9 : GoodIn wsX7_init (wsX5_init) := ggX7_init_X5_init
set_option maxRecDepth 20000 in
theorem ggX7_init_X0_init : GoodIn wsX7_init wsX0_init := goodIn_r _ [30, 31, 2, 3, 32, 67, 68, 69, 70, 71, 72, 73, 74, 75, 76, 77, 78] (by decide +kernel) (by decide +kernel)
set_option maxRecDepth 20000 in
theorem gX7_init_X0_init : GoodIn wsX7_init (wsX0_init) := ggX7_init_X0_init
set_option maxRecDepth 20000 in
theorem ggX7_init_X6_init : GoodIn wsX7_init wsX6_init := goodIn_r _ [34, 35, 2, 3] (by decide +kernel) (by decide +kernel)
set_option maxRecDepth 20000 in
theorem gX7_init_X6_init_n31 : GoodIn wsX7_init (wsX6_init) := ggX7_init_X6_init
set_option maxRecDepth 20000 in
theorem ggX7_init_X2_init : GoodIn wsX7_init wsX2_init := goodIn_r _ [37, 38, 2, 3] (by decide +kernel) (by decide +kernel)
set_option maxRecDepth 20000 in
theorem gX7_init_X2_init_n38 : GoodIn wsX7_init (wsX2_init) := ggX7_init_X2_init
set_option maxRecDepth 20000 in
theorem ggX7_init_X1_init : GoodIn wsX7_init wsX1_init := goodIn_r _ [41, 42, 2, 3, 43, 44, 45, 46, 47, 48, 49, 50, 88, 89, 90, 91, 92, 93, 94, 95, 96, 97, 98] (by decide +kernel) (by decide +kernel)
set_option maxRecDepth 20000 in
theorem gX7_init_X1_init : GoodIn wsX7_init (wsX1_init) := ggX7_init_X1_init
theorem dX7_init_0 : decode cX7_init 0 = .ok (.aload_n 0, 1) := by decide +kernel
theorem dX7_init_1 : decode cX7_init 1 = .ok (.invokespecial 1, 3) := by decide +kernel
theorem dX7_init_4 : decode cX7_init 4 = .ok (.aload_n 0, 1) := by decide +kernel
theorem dX7_init_5 : decode cX7_init 5 = .ok (.new 7, 3) := by decide +kernel
theorem dX7_init_8 : decode cX7_init 8 = .ok (.dup, 1) := by decide +kernel
theorem dX7_init_9 : decode cX7_init 9 = .ok (.invokespecial 9, 3) := by decide +kernel
theorem dX7_init_12 : decode cX7_init 12 = .ok (.putfield 10, 3) := by decide +kernel
theorem dX7_init_15 : decode cX7_init 15 = .ok (.aload_n 0, 1) := by decide +kernel
theorem dX7_init_16 : decode cX7_init 16 = .ok (.iconst 3, 1) := by decide +kernel
theorem dX7_init_17 : decode cX7_init 17 = .ok (.anewarray 16, 3) := by decide +kernel
theorem dX7_init_20 : decode cX7_init 20 = .ok (.putfield 18, 3) := by decide +kernel
theorem dX7_init_23 : decode cX7_init 23 = .ok (.iconst 0, 1) := by decide +kernel
theorem dX7_init_24 : decode cX7_init 24 = .ok (.istore_n 1, 1) := by decide +kernel
theorem dX7_init_25 : decode cX7_init 25 = .ok (.iload_n 1, 1) := by decide +kernel
theorem dX7_init_26 : decode cX7_init 26 = .ok (.iconst 3, 1) := by decide +kernel
theorem dX7_init_27 : decode cX7_init 27 = .ok (.if_icmp .ge 23, 3) := by decide +kernel
theorem dX7_init_30 : decode cX7_init 30 = .ok (.aload_n 0, 1) := by decide +kernel
theorem dX7_init_31 : decode cX7_init 31 = .ok (.getfield 18, 3) := by decide +kernel
theorem dX7_init_34 : decode cX7_init 34 = .ok (.iload_n 1, 1) := by decide +kernel
theorem dX7_init_35 : decode cX7_init 35 = .ok (.new 16, 3) := by decide +kernel
theorem dX7_init_38 : decode cX7_init 38 = .ok (.dup, 1) := by decide +kernel
theorem dX7_init_39 : decode cX7_init 39 = .ok (.iload_n 1, 1) := by decide +kernel
theorem dX7_init_40 : decode cX7_init 40 = .ok (.invokespecial 22, 3) := by decide +kernel
theorem dX7_init_43 : decode cX7_init 43 = .ok (.aastore, 1) := by decide +kernel
theorem dX7_init_44 : decode cX7_init 44 = .ok (.iinc 1 1, 3) := by decide +kernel
theorem dX7_init_47 : decode cX7_init 47 = .ok (.goto (-22), 3) := by decide +kernel
theorem dX7_init_50 : decode cX7_init 50 = .ok (.aload_n 0, 1) := by decide +kernel
theorem dX7_init_51 : decode cX7_init 51 = .ok (.bipush 6, 2) := by decide +kernel
theorem dX7_init_53 : decode cX7_init 53 = .ok (.anewarray 25, 3) := by decide +kernel
theorem dX7_init_56 : decode cX7_init 56 = .ok (.putfield 27, 3) := by decide +kernel
theorem dX7_init_59 : decode cX7_init 59 = .ok (.iconst 0, 1) := by decide +kernel
theorem dX7_init_60 : decode cX7_init 60 = .ok (.istore_n 1, 1) := by decide +kernel
theorem dX7_init_61 : decode cX7_init 61 = .ok (.iload_n 1, 1) := by decide +kernel
theorem dX7_init_62 : decode cX7_init 62 = .ok (.bipush 6, 2) := by decide +kernel
theorem dX7_init_64 : decode cX7_init 64 = .ok (.if_icmp .ge 22, 3) := by decide +kernel
theorem dX7_init_67 : decode cX7_init 67 = .ok (.aload_n 0, 1) := by decide +kernel
theorem dX7_init_68 : decode cX7_init 68 = .ok (.getfield 27, 3) := by decide +kernel
theorem dX7_init_71 : decode cX7_init 71 = .ok (.iload_n 1, 1) := by decide +kernel
theorem dX7_init_72 : decode cX7_init 72 = .ok (.new 25, 3) := by decide +kernel
theorem dX7_init_75 : decode cX7_init 75 = .ok (.dup, 1) := by decide +kernel
theorem dX7_init_76 : decode cX7_init 76 = .ok (.invokespecial 31, 3) := by decide +kernel
theorem dX7_init_79 : decode cX7_init 79 = .ok (.aastore, 1) := by decide +kernel
theorem dX7_init_80 : decode cX7_init 80 = .ok (.iinc 1 1, 3) := by decide +kernel
theorem dX7_init_83 : decode cX7_init 83 = .ok (.goto (-22), 3) := by decide +kernel
theorem dX7_init_86 : decode cX7_init 86 = .ok (.aload_n 0, 1) := by decide +kernel
theorem dX7_init_87 : decode cX7_init 87 = .ok (.bipush 6, 2) := by decide +kernel
theorem dX7_init_89 : decode cX7_init 89 = .ok (.anewarray 32, 3) := by decide +kernel
theorem dX7_init_92 : decode cX7_init 92 = .ok (.putfield 34, 3) := by decide +kernel
theorem dX7_init_95 : decode cX7_init 95 = .ok (.iconst 0, 1) := by decide +kernel
theorem dX7_init_96 : decode cX7_init 96 = .ok (.istore_n 1, 1) := by decide +kernel
theorem dX7_init_97 : decode cX7_init 97 = .ok (.iload_n 1, 1) := by decide +kernel
theorem dX7_init_98 : decode cX7_init 98 = .ok (.bipush 6, 2) := by decide +kernel
theorem dX7_init_100 : decode cX7_init 100 = .ok (.if_icmp .ge 22, 3) := by decide +kernel
theorem dX7_init_103 : decode cX7_init 103 = .ok (.aload_n 0, 1) := by decide +kernel
theorem dX7_init_104 : decode cX7_init 104 = .ok (.getfield 34, 3) := by decide +kernel
theorem dX7_init_107 : decode cX7_init 107 = .ok (.iload_n 1, 1) := by decide +kernel
theorem dX7_init_108 : decode cX7_init 108 = .ok (.new 32, 3) := by decide +kernel
theorem dX7_init_111 : decode cX7_init 111 = .ok (.dup, 1) := by decide +kernel
theorem dX7_init_112 : decode cX7_init 112 = .ok (.invokespecial 38, 3) := by decide +kernel
theorem dX7_init_115 : decode cX7_init 115 = .ok (.aastore, 1) := by decide +kernel
theorem dX7_init_116 : decode cX7_init 116 = .ok (.iinc 1 1, 3) := by decide +kernel
theorem dX7_init_119 : decode cX7_init 119 = .ok (.goto (-22), 3) := by decide +kernel
theorem dX7_init_122 : decode cX7_init 122 = .ok (.aload_n 0, 1) := by decide +kernel
theorem dX7_init_123 : decode cX7_init 123 = .ok (.new 39, 3) := by decide +kernel
theorem dX7_init_126 : decode cX7_init 126 = .ok (.dup, 1) := by decide +kernel
theorem dX7_init_127 : decode cX7_init 127 = .ok (.invokespecial 41, 3) := by decide +kernel
theorem dX7_init_130 : decode cX7_init 130 = .ok (.putfield 42, 3) := by decide +kernel
theorem dX7_init_133 : decode cX7_init 133 = .ok (.return_, 1) := by decide +kernel
set_option maxRecDepth 20000 in
theorem ggX7_crane_X7_isOutside : GoodIn wsX7_crane wsX7_isOutside := goodIn_r _ [16] (by decide +kernel) (by decide +kernel)
set_option maxRecDepth 20000 in
theorem gX7_crane_X7_isOutside : GoodIn wsX7_crane (va_wsS RX7 46 yX7_isOutside wsX7_isOutside) := goodIn_app (goodIn_of _ (by decide +kernel)) ggX7_crane_X7_isOutside
set_option maxRecDepth 20000 in
theorem ggX7_crane_X5_isStorm : GoodIn wsX7_crane wsX5_isStorm := goodIn_r _ [21, 22, 44, 45, 46, 47, 48, 49, 50] (by decide +kernel) (by decide +kernel)
set_option maxRecDepth 20000 in
theorem gX7_crane_X5_isStorm : GoodIn wsX7_crane (wsV RX7 75 RX5 yX5_isStorm wsX5_isStorm) := goodIn_app (goodIn_of _ (by decide +kernel)) ggX7_crane_X5_isStorm
theorem dX7_crane_0 : decode cX7_crane 0 = .ok (.iload_n 1, 1) := by decide +kernel
theorem dX7_crane_1 : decode cX7_crane 1 = .ok (.bipush 10, 2) := by decide +kernel
theorem dX7_crane_3 : decode cX7_crane 3 = .ok (.bipush 40, 2) := by decide +kernel
theorem dX7_crane_5 : decode cX7_crane 5 = .ok (.invokestatic 46, 3) := by decide +kernel
theorem dX7_crane_8 : decode cX7_crane 8 = .ok (.ifCond .ne 13, 3) := by decide +kernel
theorem dX7_crane_11 : decode cX7_crane 11 = .ok (.iload_n 2, 1) := by decide +kernel
theorem dX7_crane_12 : decode cX7_crane 12 = .ok (.iconst 2, 1) := by decide +kernel
theorem dX7_crane_13 : decode cX7_crane 13 = .ok (.if_icmp .eq 18, 3) := by decide +kernel
theorem dX7_crane_16 : decode cX7_crane 16 = .ok (.iload_n 2, 1) := by decide +kernel
theorem dX7_crane_17 : decode cX7_crane 17 = .ok (.iconst 4, 1) := by decide +kernel
theorem dX7_crane_18 : decode cX7_crane 18 = .ok (.if_icmp .eq 13, 3) := by decide +kernel
theorem dX7_crane_21 : decode cX7_crane 21 = .ok (.new 50, 3) := by decide +kernel
theorem dX7_crane_24 : decode cX7_crane 24 = .ok (.dup, 1) := by decide +kernel
theorem dX7_crane_25 : decode cX7_crane 25 = .ok (.ldc 52, 2) := by decide +kernel
theorem dX7_crane_27 : decode cX7_crane 27 = .ok (.invokespecial 54, 3) := by decide +kernel
theorem dX7_crane_30 : decode cX7_crane 30 = .ok (.athrow, 1) := by decide +kernel
theorem dX7_crane_31 : decode cX7_crane 31 = .ok (.aload_n 0, 1) := by decide +kernel
theorem dX7_crane_32 : decode cX7_crane 32 = .ok (.getfield 57, 3) := by decide +kernel
theorem dX7_crane_35 : decode cX7_crane 35 = .ok (.iconst 3, 1) := by decide +kernel
theorem dX7_crane_36 : decode cX7_crane 36 = .ok (.if_icmp .lt 13, 3) := by decide +kernel
theorem dX7_crane_39 : decode cX7_crane 39 = .ok (.new 61, 3) := by decide +kernel
theorem dX7_crane_42 : decode cX7_crane 42 = .ok (.dup, 1) := by decide +kernel
theorem dX7_crane_43 : decode cX7_crane 43 = .ok (.ldc 63, 2) := by decide +kernel
theorem dX7_crane_45 : decode cX7_crane 45 = .ok (.invokespecial 65, 3) := by decide +kernel
theorem dX7_crane_48 : decode cX7_crane 48 = .ok (.athrow, 1) := by decide +kernel
theorem dX7_crane_49 : decode cX7_crane 49 = .ok (.aload_n 0, 1) := by decide +kernel
theorem dX7_crane_50 : decode cX7_crane 50 = .ok (.getfield 18, 3) := by decide +kernel
theorem dX7_crane_53 : decode cX7_crane 53 = .ok (.aload_n 0, 1) := by decide +kernel
theorem dX7_crane_54 : decode cX7_crane 54 = .ok (.getfield 57, 3) := by decide +kernel
theorem dX7_crane_57 : decode cX7_crane 57 = .ok (.aaload, 1) := by decide +kernel
theorem dX7_crane_58 : decode cX7_crane 58 = .ok (.astore_n 3, 1) := by decide +kernel
theorem dX7_crane_59 : decode cX7_crane 59 = .ok (.aload_n 0, 1) := by decide +kernel
theorem dX7_crane_60 : decode cX7_crane 60 = .ok (.dup, 1) := by decide +kernel
theorem dX7_crane_61 : decode cX7_crane 61 = .ok (.getfield 57, 3) := by decide +kernel
theorem dX7_crane_64 : decode cX7_crane 64 = .ok (.iconst 1, 1) := by decide +kernel
theorem dX7_crane_65 : decode cX7_crane 65 = .ok (.iadd, 1) := by decide +kernel
theorem dX7_crane_66 : decode cX7_crane 66 = .ok (.putfield 57, 3) := by decide +kernel
theorem dX7_crane_69 : decode cX7_crane 69 = .ok (.aload_n 3, 1) := by decide +kernel
theorem dX7_crane_70 : decode cX7_crane 70 = .ok (.iload_n 1, 1) := by decide +kernel
theorem dX7_crane_71 : decode cX7_crane 71 = .ok (.putfield 66, 3) := by decide +kernel
theorem dX7_crane_74 : decode cX7_crane 74 = .ok (.aload_n 3, 1) := by decide +kernel
theorem dX7_crane_75 : decode cX7_crane 75 = .ok (.iload_n 2, 1) := by decide +kernel
theorem dX7_crane_76 : decode cX7_crane 76 = .ok (.putfield 69, 3) := by decide +kernel
theorem dX7_crane_79 : decode cX7_crane 79 = .ok (.aload_n 3, 1) := by decide +kernel
theorem dX7_crane_80 : decode cX7_crane 80 = .ok (.bipush 10, 2) := by decide +kernel
theorem dX7_crane_82 : decode cX7_crane 82 = .ok (.putfield 72, 3) := by decide +kernel
theorem dX7_crane_85 : decode cX7_crane 85 = .ok (.aload_n 3, 1) := by decide +kernel
theorem dX7_crane_86 : decode cX7_crane 86 = .ok (.aload_n 0, 1) := by decide +kernel
theorem dX7_crane_87 : decode cX7_crane 87 = .ok (.getfield 10, 3) := by decide +kernel
theorem dX7_crane_90 : decode cX7_crane 90 = .ok (.invokevirtual 75, 3) := by decide +kernel
theorem dX7_crane_93 : decode cX7_crane 93 = .ok (.ifCond .ne 7, 3) := by decide +kernel
theorem dX7_crane_96 : decode cX7_crane 96 = .ok (.iconst 1, 1) := by decide +kernel
theorem dX7_crane_97 : decode cX7_crane 97 = .ok (.goto 4, 3) := by decide +kernel
theorem dX7_crane_100 : decode cX7_crane 100 = .ok (.iconst 0, 1) := by decide +kernel
theorem dX7_crane_101 : decode cX7_crane 101 = .ok (.putfield 79, 3) := by decide +kernel
theorem dX7_crane_104 : decode cX7_crane 104 = .ok (.aload_n 3, 1) := by decide +kernel
theorem dX7_crane_105 : decode cX7_crane 105 = .ok (.getfield 83, 3) := by decide +kernel
theorem dX7_crane_108 : decode cX7_crane 108 = .ok (.ireturn, 1) := by decide +kernel
set_option maxRecDepth 20000 in
theorem ggX7_table_X7_craneAt : GoodIn wsX7_table wsX7_craneAt := goodIn_ca (goodIn_r _ [14, 15, 16, 17, 18, 19, 20, 13, 21, 54, 55, 56, 57, 58, 59, 60, 61, 62] (by decide +kernel) (by decide +kernel)) (goodIn_sub (fun _ h => List.mem_cons_of_mem _ (List.mem_append_right _ h)) (by decide +kernel))
set_option maxRecDepth 20000 in
theorem gX7_table_X7_craneAt : GoodIn wsX7_table (wsV RX7 86 RX7 yX7_craneAt wsX7_craneAt) := goodIn_app (goodIn_of _ (by decide +kernel)) ggX7_table_X7_craneAt
set_option maxRecDepth 20000 in
theorem ggX7_table_X7_isOutside : GoodIn wsX7_table wsX7_isOutside := goodIn_r _ [21] (by decide +kernel) (by decide +kernel)
set_option maxRecDepth 20000 in
theorem gX7_table_X7_isOutside : GoodIn wsX7_table (va_wsS RX7 46 yX7_isOutside wsX7_isOutside) := goodIn_app (goodIn_of _ (by decide +kernel)) ggX7_table_X7_isOutside
set_option maxRecDepth 20000 in
theorem ggX7_table_X0_capacityAt : GoodIn wsX7_table wsX0_capacityAt := goodIn_r _ [26, 27, 28, 29, 30, 31, 32, 33, 34, 25, 35, 36, 37, 38, 39, 40, 13, 41, 42, 43, 44, 45, 46, 47, 48, 49, 50, 51, 52, 53] (by decide +kernel) (by decide +kernel)
set_option maxRecDepth 20000 in
theorem gX7_table_X0_capacityAt : GoodIn wsX7_table (wsV RX7 107 RX0 yX0_capacityAt wsX0_capacityAt) := goodIn_app (goodIn_of _ (by decide +kernel)) ggX7_table_X0_capacityAt
theorem dX7_table_0 : decode cX7_table 0 = .ok (.aload_n 0, 1) := by decide +kernel
theorem dX7_table_1 : decode cX7_table 1 = .ok (.iload_n 1, 1) := by decide +kernel
theorem dX7_table_2 : decode cX7_table 2 = .ok (.invokevirtual 86, 3) := by decide +kernel
theorem dX7_table_5 : decode cX7_table 5 = .ok (.astore 6, 2) := by decide +kernel
theorem dX7_table_7 : decode cX7_table 7 = .ok (.iload_n 2, 1) := by decide +kernel
theorem dX7_table_8 : decode cX7_table 8 = .ok (.iconst 0, 1) := by decide +kernel
theorem dX7_table_9 : decode cX7_table 9 = .ok (.bipush 99, 2) := by decide +kernel
theorem dX7_table_11 : decode cX7_table 11 = .ok (.invokestatic 46, 3) := by decide +kernel
theorem dX7_table_14 : decode cX7_table 14 = .ok (.ifCond .ne 33, 3) := by decide +kernel
theorem dX7_table_17 : decode cX7_table 17 = .ok (.iload_n 3, 1) := by decide +kernel
theorem dX7_table_18 : decode cX7_table 18 = .ok (.iconst 0, 1) := by decide +kernel
theorem dX7_table_19 : decode cX7_table 19 = .ok (.iload_n 2, 1) := by decide +kernel
theorem dX7_table_20 : decode cX7_table 20 = .ok (.invokestatic 46, 3) := by decide +kernel
theorem dX7_table_23 : decode cX7_table 23 = .ok (.ifCond .ne 24, 3) := by decide +kernel
theorem dX7_table_26 : decode cX7_table 26 = .ok (.iload 4, 2) := by decide +kernel
theorem dX7_table_28 : decode cX7_table 28 = .ok (.iconst 0, 1) := by decide +kernel
theorem dX7_table_29 : decode cX7_table 29 = .ok (.iload_n 3, 1) := by decide +kernel
theorem dX7_table_30 : decode cX7_table 30 = .ok (.invokestatic 46, 3) := by decide +kernel
theorem dX7_table_33 : decode cX7_table 33 = .ok (.ifCond .ne 14, 3) := by decide +kernel
theorem dX7_table_36 : decode cX7_table 36 = .ok (.iload 5, 2) := by decide +kernel
theorem dX7_table_38 : decode cX7_table 38 = .ok (.iconst 0, 1) := by decide +kernel
theorem dX7_table_39 : decode cX7_table 39 = .ok (.iload 4, 2) := by decide +kernel
theorem dX7_table_41 : decode cX7_table 41 = .ok (.invokestatic 46, 3) := by decide +kernel
theorem dX7_table_44 : decode cX7_table 44 = .ok (.ifCond .eq 13, 3) := by decide +kernel
theorem dX7_table_47 : decode cX7_table 47 = .ok (.new 50, 3) := by decide +kernel
theorem dX7_table_50 : decode cX7_table 50 = .ok (.dup, 1) := by decide +kernel
theorem dX7_table_51 : decode cX7_table 51 = .ok (.ldc 90, 2) := by decide +kernel
theorem dX7_table_53 : decode cX7_table 53 = .ok (.invokespecial 54, 3) := by decide +kernel
theorem dX7_table_56 : decode cX7_table 56 = .ok (.athrow, 1) := by decide +kernel
theorem dX7_table_57 : decode cX7_table 57 = .ok (.aload 6, 2) := by decide +kernel
theorem dX7_table_59 : decode cX7_table 59 = .ok (.iload_n 2, 1) := by decide +kernel
theorem dX7_table_60 : decode cX7_table 60 = .ok (.putfield 92, 3) := by decide +kernel
theorem dX7_table_63 : decode cX7_table 63 = .ok (.aload 6, 2) := by decide +kernel
theorem dX7_table_65 : decode cX7_table 65 = .ok (.iload_n 3, 1) := by decide +kernel
theorem dX7_table_66 : decode cX7_table 66 = .ok (.putfield 95, 3) := by decide +kernel
theorem dX7_table_69 : decode cX7_table 69 = .ok (.aload 6, 2) := by decide +kernel
theorem dX7_table_71 : decode cX7_table 71 = .ok (.iload 4, 2) := by decide +kernel
theorem dX7_table_73 : decode cX7_table 73 = .ok (.putfield 98, 3) := by decide +kernel
theorem dX7_table_76 : decode cX7_table 76 = .ok (.aload 6, 2) := by decide +kernel
theorem dX7_table_78 : decode cX7_table 78 = .ok (.iload 5, 2) := by decide +kernel
theorem dX7_table_80 : decode cX7_table 80 = .ok (.putfield 101, 3) := by decide +kernel
theorem dX7_table_83 : decode cX7_table 83 = .ok (.aload 6, 2) := by decide +kernel
theorem dX7_table_85 : decode cX7_table 85 = .ok (.aload 6, 2) := by decide +kernel
theorem dX7_table_87 : decode cX7_table 87 = .ok (.getfield 72, 3) := by decide +kernel
theorem dX7_table_90 : decode cX7_table 90 = .ok (.aload_n 0, 1) := by decide +kernel
theorem dX7_table_91 : decode cX7_table 91 = .ok (.getfield 10, 3) := by decide +kernel
theorem dX7_table_94 : decode cX7_table 94 = .ok (.getfield 104, 3) := by decide +kernel
theorem dX7_table_97 : decode cX7_table 97 = .ok (.invokevirtual 107, 3) := by decide +kernel
theorem dX7_table_100 : decode cX7_table 100 = .ok (.ireturn, 1) := by decide +kernel
set_option maxRecDepth 20000 in
theorem ggX7_zone_X7_craneAt : GoodIn wsX7_zone wsX7_craneAt := goodIn_ca (goodIn_r _ [17, 18, 19, 20, 21, 22, 23, 16, 24, 28, 29, 30, 31, 32, 33, 34, 35, 36] (by decide +kernel) (by decide +kernel)) (goodIn_sub (fun _ h => List.mem_cons_of_mem _ (List.mem_append_right _ h)) (by decide +kernel))
set_option maxRecDepth 20000 in
theorem gX7_zone_X7_craneAt : GoodIn wsX7_zone (wsV RX7 86 RX7 yX7_craneAt wsX7_craneAt) := goodIn_app (goodIn_of _ (by decide +kernel)) ggX7_zone_X7_craneAt
set_option maxRecDepth 20000 in
theorem ggX7_zone_X7_isNoAngle : GoodIn wsX7_zone wsX7_isNoAngle := goodIn_r _ [27, 22, 23, 16, 24] (by decide +kernel) (by decide +kernel)
set_option maxRecDepth 20000 in
theorem gX7_zone_X7_isNoAngle : GoodIn wsX7_zone (va_wsS RX7 111 yX7_isNoAngle wsX7_isNoAngle) := goodIn_app (goodIn_of _ (by decide +kernel)) ggX7_zone_X7_isNoAngle
set_option maxRecDepth 20000 in
theorem ggX7_zone_X7_isOutside : GoodIn wsX7_zone wsX7_isOutside := goodIn_r _ [24] (by decide +kernel) (by decide +kernel)
set_option maxRecDepth 20000 in
theorem gX7_zone_X7_isOutside : GoodIn wsX7_zone (va_wsS RX7 46 yX7_isOutside wsX7_isOutside) := goodIn_app (goodIn_of _ (by decide +kernel)) ggX7_zone_X7_isOutside
theorem dX7_zone_0 : decode cX7_zone 0 = .ok (.aload_n 0, 1) := by decide +kernel
theorem dX7_zone_1 : decode cX7_zone 1 = .ok (.iload_n 1, 1) := by decide +kernel
theorem dX7_zone_2 : decode cX7_zone 2 = .ok (.invokevirtual 86, 3) := by decide +kernel
theorem dX7_zone_5 : decode cX7_zone 5 = .ok (.astore 6, 2) := by decide +kernel
theorem dX7_zone_7 : decode cX7_zone 7 = .ok (.iload_n 2, 1) := by decide +kernel
theorem dX7_zone_8 : decode cX7_zone 8 = .ok (.invokestatic 111, 3) := by decide +kernel
theorem dX7_zone_11 : decode cX7_zone 11 = .ok (.ifCond .ne 35, 3) := by decide +kernel
theorem dX7_zone_14 : decode cX7_zone 14 = .ok (.iload_n 3, 1) := by decide +kernel
theorem dX7_zone_15 : decode cX7_zone 15 = .ok (.invokestatic 111, 3) := by decide +kernel
theorem dX7_zone_18 : decode cX7_zone 18 = .ok (.ifCond .ne 28, 3) := by decide +kernel
theorem dX7_zone_21 : decode cX7_zone 21 = .ok (.iload 4, 2) := by decide +kernel
theorem dX7_zone_23 : decode cX7_zone 23 = .ok (.iconst 0, 1) := by decide +kernel
theorem dX7_zone_24 : decode cX7_zone 24 = .ok (.bipush 23, 2) := by decide +kernel
theorem dX7_zone_26 : decode cX7_zone 26 = .ok (.invokestatic 46, 3) := by decide +kernel
theorem dX7_zone_29 : decode cX7_zone 29 = .ok (.ifCond .ne 17, 3) := by decide +kernel
theorem dX7_zone_32 : decode cX7_zone 32 = .ok (.iload 5, 2) := by decide +kernel
theorem dX7_zone_34 : decode cX7_zone 34 = .ok (.iload 4, 2) := by decide +kernel
theorem dX7_zone_36 : decode cX7_zone 36 = .ok (.iconst 1, 1) := by decide +kernel
theorem dX7_zone_37 : decode cX7_zone 37 = .ok (.iadd, 1) := by decide +kernel
theorem dX7_zone_38 : decode cX7_zone 38 = .ok (.bipush 24, 2) := by decide +kernel
theorem dX7_zone_40 : decode cX7_zone 40 = .ok (.invokestatic 46, 3) := by decide +kernel
theorem dX7_zone_43 : decode cX7_zone 43 = .ok (.ifCond .eq 13, 3) := by decide +kernel
theorem dX7_zone_46 : decode cX7_zone 46 = .ok (.new 50, 3) := by decide +kernel
theorem dX7_zone_49 : decode cX7_zone 49 = .ok (.dup, 1) := by decide +kernel
theorem dX7_zone_50 : decode cX7_zone 50 = .ok (.ldc 115, 2) := by decide +kernel
theorem dX7_zone_52 : decode cX7_zone 52 = .ok (.invokespecial 54, 3) := by decide +kernel
theorem dX7_zone_55 : decode cX7_zone 55 = .ok (.athrow, 1) := by decide +kernel
theorem dX7_zone_56 : decode cX7_zone 56 = .ok (.aload_n 0, 1) := by decide +kernel
theorem dX7_zone_57 : decode cX7_zone 57 = .ok (.getfield 117, 3) := by decide +kernel
theorem dX7_zone_60 : decode cX7_zone 60 = .ok (.bipush 6, 2) := by decide +kernel
theorem dX7_zone_62 : decode cX7_zone 62 = .ok (.if_icmp .lt 13, 3) := by decide +kernel
theorem dX7_zone_65 : decode cX7_zone 65 = .ok (.new 61, 3) := by decide +kernel
theorem dX7_zone_68 : decode cX7_zone 68 = .ok (.dup, 1) := by decide +kernel
theorem dX7_zone_69 : decode cX7_zone 69 = .ok (.ldc 120, 2) := by decide +kernel
theorem dX7_zone_71 : decode cX7_zone 71 = .ok (.invokespecial 65, 3) := by decide +kernel
theorem dX7_zone_74 : decode cX7_zone 74 = .ok (.athrow, 1) := by decide +kernel
theorem dX7_zone_75 : decode cX7_zone 75 = .ok (.aload_n 0, 1) := by decide +kernel
theorem dX7_zone_76 : decode cX7_zone 76 = .ok (.getfield 27, 3) := by decide +kernel
theorem dX7_zone_79 : decode cX7_zone 79 = .ok (.aload_n 0, 1) := by decide +kernel
theorem dX7_zone_80 : decode cX7_zone 80 = .ok (.getfield 117, 3) := by decide +kernel
theorem dX7_zone_83 : decode cX7_zone 83 = .ok (.aaload, 1) := by decide +kernel
theorem dX7_zone_84 : decode cX7_zone 84 = .ok (.astore 7, 2) := by decide +kernel
theorem dX7_zone_86 : decode cX7_zone 86 = .ok (.aload_n 0, 1) := by decide +kernel
theorem dX7_zone_87 : decode cX7_zone 87 = .ok (.dup, 1) := by decide +kernel
theorem dX7_zone_88 : decode cX7_zone 88 = .ok (.getfield 117, 3) := by decide +kernel
theorem dX7_zone_91 : decode cX7_zone 91 = .ok (.iconst 1, 1) := by decide +kernel
theorem dX7_zone_92 : decode cX7_zone 92 = .ok (.iadd, 1) := by decide +kernel
theorem dX7_zone_93 : decode cX7_zone 93 = .ok (.putfield 117, 3) := by decide +kernel
theorem dX7_zone_96 : decode cX7_zone 96 = .ok (.aload 7, 2) := by decide +kernel
theorem dX7_zone_98 : decode cX7_zone 98 = .ok (.aload 6, 2) := by decide +kernel
theorem dX7_zone_100 : decode cX7_zone 100 = .ok (.getfield 83, 3) := by decide +kernel
theorem dX7_zone_103 : decode cX7_zone 103 = .ok (.putfield 122, 3) := by decide +kernel
theorem dX7_zone_106 : decode cX7_zone 106 = .ok (.aload 7, 2) := by decide +kernel
theorem dX7_zone_108 : decode cX7_zone 108 = .ok (.iload_n 2, 1) := by decide +kernel
theorem dX7_zone_109 : decode cX7_zone 109 = .ok (.putfield 125, 3) := by decide +kernel
theorem dX7_zone_112 : decode cX7_zone 112 = .ok (.aload 7, 2) := by decide +kernel
theorem dX7_zone_114 : decode cX7_zone 114 = .ok (.iload_n 3, 1) := by decide +kernel
theorem dX7_zone_115 : decode cX7_zone 115 = .ok (.putfield 128, 3) := by decide +kernel
theorem dX7_zone_118 : decode cX7_zone 118 = .ok (.aload 7, 2) := by decide +kernel
theorem dX7_zone_120 : decode cX7_zone 120 = .ok (.iload 4, 2) := by decide +kernel
theorem dX7_zone_122 : decode cX7_zone 122 = .ok (.putfield 131, 3) := by decide +kernel
theorem dX7_zone_125 : decode cX7_zone 125 = .ok (.aload 7, 2) := by decide +kernel
theorem dX7_zone_127 : decode cX7_zone 127 = .ok (.iload 5, 2) := by decide +kernel
theorem dX7_zone_129 : decode cX7_zone 129 = .ok (.putfield 134, 3) := by decide +kernel
theorem dX7_zone_132 : decode cX7_zone 132 = .ok (.aload_n 0, 1) := by decide +kernel
theorem dX7_zone_133 : decode cX7_zone 133 = .ok (.getfield 117, 3) := by decide +kernel
theorem dX7_zone_136 : decode cX7_zone 136 = .ok (.ireturn, 1) := by decide +kernel
set_option maxRecDepth 20000 in
theorem ggX7_meeting_X7_craneAt : GoodIn wsX7_meeting wsX7_craneAt := goodIn_ca (goodIn_r _ [16, 17, 18, 19, 20, 21, 22, 15, 23, 27, 28, 29, 30, 31, 32, 33, 34, 35] (by decide +kernel) (by decide +kernel)) (goodIn_sub (fun _ h => List.mem_cons_of_mem _ (List.mem_append_right _ h)) (by decide +kernel))
set_option maxRecDepth 20000 in
theorem gX7_meeting_X7_craneAt : GoodIn wsX7_meeting (wsV RX7 86 RX7 yX7_craneAt wsX7_craneAt) := goodIn_app (goodIn_of _ (by decide +kernel)) ggX7_meeting_X7_craneAt
set_option maxRecDepth 20000 in
theorem ggX7_meeting_X7_isNoAngle : GoodIn wsX7_meeting wsX7_isNoAngle := goodIn_r _ [26, 21, 22, 15, 23] (by decide +kernel) (by decide +kernel)
set_option maxRecDepth 20000 in
theorem gX7_meeting_X7_isNoAngle : GoodIn wsX7_meeting (va_wsS RX7 111 yX7_isNoAngle wsX7_isNoAngle) := goodIn_app (goodIn_of _ (by decide +kernel)) ggX7_meeting_X7_isNoAngle
theorem dX7_meeting_0 : decode cX7_meeting 0 = .ok (.aload_n 0, 1) := by decide +kernel
theorem dX7_meeting_1 : decode cX7_meeting 1 = .ok (.iload_n 1, 1) := by decide +kernel
theorem dX7_meeting_2 : decode cX7_meeting 2 = .ok (.invokevirtual 86, 3) := by decide +kernel
theorem dX7_meeting_5 : decode cX7_meeting 5 = .ok (.astore 5, 2) := by decide +kernel
theorem dX7_meeting_7 : decode cX7_meeting 7 = .ok (.aload_n 0, 1) := by decide +kernel
theorem dX7_meeting_8 : decode cX7_meeting 8 = .ok (.iload_n 3, 1) := by decide +kernel
theorem dX7_meeting_9 : decode cX7_meeting 9 = .ok (.invokevirtual 86, 3) := by decide +kernel
theorem dX7_meeting_12 : decode cX7_meeting 12 = .ok (.astore 6, 2) := by decide +kernel
theorem dX7_meeting_14 : decode cX7_meeting 14 = .ok (.iload_n 1, 1) := by decide +kernel
theorem dX7_meeting_15 : decode cX7_meeting 15 = .ok (.iload_n 3, 1) := by decide +kernel
theorem dX7_meeting_16 : decode cX7_meeting 16 = .ok (.if_icmp .eq 18, 3) := by decide +kernel
theorem dX7_meeting_19 : decode cX7_meeting 19 = .ok (.iload_n 2, 1) := by decide +kernel
theorem dX7_meeting_20 : decode cX7_meeting 20 = .ok (.invokestatic 111, 3) := by decide +kernel
theorem dX7_meeting_23 : decode cX7_meeting 23 = .ok (.ifCond .ne 11, 3) := by decide +kernel
theorem dX7_meeting_26 : decode cX7_meeting 26 = .ok (.iload 4, 2) := by decide +kernel
theorem dX7_meeting_28 : decode cX7_meeting 28 = .ok (.invokestatic 111, 3) := by decide +kernel
theorem dX7_meeting_31 : decode cX7_meeting 31 = .ok (.ifCond .eq 13, 3) := by decide +kernel
theorem dX7_meeting_34 : decode cX7_meeting 34 = .ok (.new 50, 3) := by decide +kernel
theorem dX7_meeting_37 : decode cX7_meeting 37 = .ok (.dup, 1) := by decide +kernel
theorem dX7_meeting_38 : decode cX7_meeting 38 = .ok (.ldc 137, 2) := by decide +kernel
theorem dX7_meeting_40 : decode cX7_meeting 40 = .ok (.invokespecial 54, 3) := by decide +kernel
theorem dX7_meeting_43 : decode cX7_meeting 43 = .ok (.athrow, 1) := by decide +kernel
theorem dX7_meeting_44 : decode cX7_meeting 44 = .ok (.aload_n 0, 1) := by decide +kernel
theorem dX7_meeting_45 : decode cX7_meeting 45 = .ok (.getfield 139, 3) := by decide +kernel
theorem dX7_meeting_48 : decode cX7_meeting 48 = .ok (.bipush 6, 2) := by decide +kernel
theorem dX7_meeting_50 : decode cX7_meeting 50 = .ok (.if_icmp .lt 13, 3) := by decide +kernel
theorem dX7_meeting_53 : decode cX7_meeting 53 = .ok (.new 61, 3) := by decide +kernel
theorem dX7_meeting_56 : decode cX7_meeting 56 = .ok (.dup, 1) := by decide +kernel
theorem dX7_meeting_57 : decode cX7_meeting 57 = .ok (.ldc 142, 2) := by decide +kernel
theorem dX7_meeting_59 : decode cX7_meeting 59 = .ok (.invokespecial 65, 3) := by decide +kernel
theorem dX7_meeting_62 : decode cX7_meeting 62 = .ok (.athrow, 1) := by decide +kernel
theorem dX7_meeting_63 : decode cX7_meeting 63 = .ok (.aload_n 0, 1) := by decide +kernel
theorem dX7_meeting_64 : decode cX7_meeting 64 = .ok (.getfield 34, 3) := by decide +kernel
theorem dX7_meeting_67 : decode cX7_meeting 67 = .ok (.aload_n 0, 1) := by decide +kernel
theorem dX7_meeting_68 : decode cX7_meeting 68 = .ok (.getfield 139, 3) := by decide +kernel
theorem dX7_meeting_71 : decode cX7_meeting 71 = .ok (.aaload, 1) := by decide +kernel
theorem dX7_meeting_72 : decode cX7_meeting 72 = .ok (.astore 7, 2) := by decide +kernel
theorem dX7_meeting_74 : decode cX7_meeting 74 = .ok (.aload_n 0, 1) := by decide +kernel
theorem dX7_meeting_75 : decode cX7_meeting 75 = .ok (.dup, 1) := by decide +kernel
theorem dX7_meeting_76 : decode cX7_meeting 76 = .ok (.getfield 139, 3) := by decide +kernel
theorem dX7_meeting_79 : decode cX7_meeting 79 = .ok (.iconst 1, 1) := by decide +kernel
theorem dX7_meeting_80 : decode cX7_meeting 80 = .ok (.iadd, 1) := by decide +kernel
theorem dX7_meeting_81 : decode cX7_meeting 81 = .ok (.putfield 139, 3) := by decide +kernel
theorem dX7_meeting_84 : decode cX7_meeting 84 = .ok (.aload 7, 2) := by decide +kernel
theorem dX7_meeting_86 : decode cX7_meeting 86 = .ok (.aload 5, 2) := by decide +kernel
theorem dX7_meeting_88 : decode cX7_meeting 88 = .ok (.getfield 83, 3) := by decide +kernel
theorem dX7_meeting_91 : decode cX7_meeting 91 = .ok (.putfield 144, 3) := by decide +kernel
theorem dX7_meeting_94 : decode cX7_meeting 94 = .ok (.aload 7, 2) := by decide +kernel
theorem dX7_meeting_96 : decode cX7_meeting 96 = .ok (.iload_n 2, 1) := by decide +kernel
theorem dX7_meeting_97 : decode cX7_meeting 97 = .ok (.putfield 147, 3) := by decide +kernel
theorem dX7_meeting_100 : decode cX7_meeting 100 = .ok (.aload 7, 2) := by decide +kernel
theorem dX7_meeting_102 : decode cX7_meeting 102 = .ok (.aload 6, 2) := by decide +kernel
theorem dX7_meeting_104 : decode cX7_meeting 104 = .ok (.getfield 83, 3) := by decide +kernel
theorem dX7_meeting_107 : decode cX7_meeting 107 = .ok (.putfield 150, 3) := by decide +kernel
theorem dX7_meeting_110 : decode cX7_meeting 110 = .ok (.aload 7, 2) := by decide +kernel
theorem dX7_meeting_112 : decode cX7_meeting 112 = .ok (.iload 4, 2) := by decide +kernel
theorem dX7_meeting_114 : decode cX7_meeting 114 = .ok (.putfield 153, 3) := by decide +kernel
theorem dX7_meeting_117 : decode cX7_meeting 117 = .ok (.aload_n 0, 1) := by decide +kernel
theorem dX7_meeting_118 : decode cX7_meeting 118 = .ok (.getfield 139, 3) := by decide +kernel
theorem dX7_meeting_121 : decode cX7_meeting 121 = .ok (.ireturn, 1) := by decide +kernel
set_option maxRecDepth 20000 in
theorem ggX7_rope_X7_craneAt : GoodIn wsX7_rope wsX7_craneAt := goodIn_ca (goodIn_r _ [6, 7, 8, 9, 10, 11, 12, 5, 13, 26, 27, 28, 29, 30, 31, 32, 33, 34] (by decide +kernel) (by decide +kernel)) (goodIn_sub (fun _ h => List.mem_cons_of_mem _ (List.mem_append_right _ h)) (by decide +kernel))
set_option maxRecDepth 20000 in
theorem gX7_rope_X7_craneAt : GoodIn wsX7_rope (wsV RX7 86 RX7 yX7_craneAt wsX7_craneAt) := goodIn_app (goodIn_of _ (by decide +kernel)) ggX7_rope_X7_craneAt
theorem dX7_rope_0 : decode cX7_rope 0 = .ok (.aload_n 0, 1) := by decide +kernel
theorem dX7_rope_1 : decode cX7_rope 1 = .ok (.iload_n 1, 1) := by decide +kernel
theorem dX7_rope_2 : decode cX7_rope 2 = .ok (.invokevirtual 86, 3) := by decide +kernel
theorem dX7_rope_5 : decode cX7_rope 5 = .ok (.astore_n 2, 1) := by decide +kernel
theorem dX7_rope_6 : decode cX7_rope 6 = .ok (.aload_n 2, 1) := by decide +kernel
theorem dX7_rope_7 : decode cX7_rope 7 = .ok (.getfield 156, 3) := by decide +kernel
theorem dX7_rope_10 : decode cX7_rope 10 = .ok (.istore_n 3, 1) := by decide +kernel
theorem dX7_rope_11 : decode cX7_rope 11 = .ok (.aload_n 2, 1) := by decide +kernel
theorem dX7_rope_12 : decode cX7_rope 12 = .ok (.iconst 0, 1) := by decide +kernel
theorem dX7_rope_13 : decode cX7_rope 13 = .ok (.putfield 156, 3) := by decide +kernel
theorem dX7_rope_16 : decode cX7_rope 16 = .ok (.iload_n 3, 1) := by decide +kernel
theorem dX7_rope_17 : decode cX7_rope 17 = .ok (.ireturn, 1) := by decide +kernel
set_option maxRecDepth 20000 in
theorem ggX7_wind_X7_isOutside : GoodIn wsX7_wind wsX7_isOutside := goodIn_r _ [10] (by decide +kernel) (by decide +kernel)
set_option maxRecDepth 20000 in
theorem gX7_wind_X7_isOutside : GoodIn wsX7_wind (va_wsS RX7 46 yX7_isOutside wsX7_isOutside) := goodIn_app (goodIn_of _ (by decide +kernel)) ggX7_wind_X7_isOutside
set_option maxRecDepth 20000 in
theorem ggX7_wind_X7_isNoAngle : GoodIn wsX7_wind wsX7_isNoAngle := goodIn_r _ [13, 7, 8, 9, 10] (by decide +kernel) (by decide +kernel)
set_option maxRecDepth 20000 in
theorem gX7_wind_X7_isNoAngle : GoodIn wsX7_wind (va_wsS RX7 111 yX7_isNoAngle wsX7_isNoAngle) := goodIn_app (goodIn_of _ (by decide +kernel)) ggX7_wind_X7_isNoAngle
theorem dX7_wind_0 : decode cX7_wind 0 = .ok (.iload_n 1, 1) := by decide +kernel
theorem dX7_wind_1 : decode cX7_wind 1 = .ok (.iconst 0, 1) := by decide +kernel
theorem dX7_wind_2 : decode cX7_wind 2 = .ok (.bipush 30, 2) := by decide +kernel
theorem dX7_wind_4 : decode cX7_wind 4 = .ok (.invokestatic 46, 3) := by decide +kernel
theorem dX7_wind_7 : decode cX7_wind 7 = .ok (.ifCond .ne 20, 3) := by decide +kernel
theorem dX7_wind_10 : decode cX7_wind 10 = .ok (.iload_n 2, 1) := by decide +kernel
theorem dX7_wind_11 : decode cX7_wind 11 = .ok (.iconst 0, 1) := by decide +kernel
theorem dX7_wind_12 : decode cX7_wind 12 = .ok (.bipush 10, 2) := by decide +kernel
theorem dX7_wind_14 : decode cX7_wind 14 = .ok (.invokestatic 46, 3) := by decide +kernel
theorem dX7_wind_17 : decode cX7_wind 17 = .ok (.ifCond .ne 10, 3) := by decide +kernel
theorem dX7_wind_20 : decode cX7_wind 20 = .ok (.iload_n 3, 1) := by decide +kernel
theorem dX7_wind_21 : decode cX7_wind 21 = .ok (.invokestatic 111, 3) := by decide +kernel
theorem dX7_wind_24 : decode cX7_wind 24 = .ok (.ifCond .eq 13, 3) := by decide +kernel
theorem dX7_wind_27 : decode cX7_wind 27 = .ok (.new 50, 3) := by decide +kernel
theorem dX7_wind_30 : decode cX7_wind 30 = .ok (.dup, 1) := by decide +kernel
theorem dX7_wind_31 : decode cX7_wind 31 = .ok (.ldc 159, 2) := by decide +kernel
theorem dX7_wind_33 : decode cX7_wind 33 = .ok (.invokespecial 54, 3) := by decide +kernel
theorem dX7_wind_36 : decode cX7_wind 36 = .ok (.athrow, 1) := by decide +kernel
theorem dX7_wind_37 : decode cX7_wind 37 = .ok (.aload_n 0, 1) := by decide +kernel
theorem dX7_wind_38 : decode cX7_wind 38 = .ok (.getfield 10, 3) := by decide +kernel
theorem dX7_wind_41 : decode cX7_wind 41 = .ok (.getfield 161, 3) := by decide +kernel
theorem dX7_wind_44 : decode cX7_wind 44 = .ok (.istore 4, 2) := by decide +kernel
theorem dX7_wind_46 : decode cX7_wind 46 = .ok (.aload_n 0, 1) := by decide +kernel
theorem dX7_wind_47 : decode cX7_wind 47 = .ok (.getfield 10, 3) := by decide +kernel
theorem dX7_wind_50 : decode cX7_wind 50 = .ok (.iload_n 1, 1) := by decide +kernel
theorem dX7_wind_51 : decode cX7_wind 51 = .ok (.putfield 161, 3) := by decide +kernel
theorem dX7_wind_54 : decode cX7_wind 54 = .ok (.aload_n 0, 1) := by decide +kernel
theorem dX7_wind_55 : decode cX7_wind 55 = .ok (.getfield 10, 3) := by decide +kernel
theorem dX7_wind_58 : decode cX7_wind 58 = .ok (.iload_n 2, 1) := by decide +kernel
theorem dX7_wind_59 : decode cX7_wind 59 = .ok (.putfield 164, 3) := by decide +kernel
theorem dX7_wind_62 : decode cX7_wind 62 = .ok (.aload_n 0, 1) := by decide +kernel
theorem dX7_wind_63 : decode cX7_wind 63 = .ok (.getfield 10, 3) := by decide +kernel
theorem dX7_wind_66 : decode cX7_wind 66 = .ok (.iload_n 3, 1) := by decide +kernel
theorem dX7_wind_67 : decode cX7_wind 67 = .ok (.putfield 167, 3) := by decide +kernel
theorem dX7_wind_70 : decode cX7_wind 70 = .ok (.iload 4, 2) := by decide +kernel
theorem dX7_wind_72 : decode cX7_wind 72 = .ok (.ireturn, 1) := by decide +kernel
set_option maxRecDepth 20000 in
theorem ggX7_pass_X7_isOutside : GoodIn wsX7_pass wsX7_isOutside := goodIn_r _ [11] (by decide +kernel) (by decide +kernel)
set_option maxRecDepth 20000 in
theorem gX7_pass_X7_isOutside : GoodIn wsX7_pass (va_wsS RX7 46 yX7_isOutside wsX7_isOutside) := goodIn_app (goodIn_of _ (by decide +kernel)) ggX7_pass_X7_isOutside
set_option maxRecDepth 20000 in
theorem ggX7_pass_X5_goOnByAMinute : GoodIn wsX7_pass wsX5_goOnByAMinute := goodIn_r _ [16, 17, 18, 19, 20, 21, 22, 23, 24, 25, 15, 26, 87, 88, 89, 90, 91, 92, 93] (by decide +kernel) (by decide +kernel)
set_option maxRecDepth 20000 in
theorem gX7_pass_X5_goOnByAMinute : GoodIn wsX7_pass (wsV RX7 177 RX5 yX5_goOnByAMinute wsX5_goOnByAMinute) := goodIn_app (goodIn_of _ (by decide +kernel)) ggX7_pass_X5_goOnByAMinute
set_option maxRecDepth 20000 in
theorem ggX7_pass_X5_isStorm : GoodIn wsX7_pass wsX5_isStorm := goodIn_r _ [26, 21, 87, 88, 89, 90, 91, 92, 93] (by decide +kernel) (by decide +kernel)
set_option maxRecDepth 20000 in
theorem gX7_pass_X5_isStorm : GoodIn wsX7_pass (wsV RX7 75 RX5 yX5_isStorm wsX5_isStorm) := goodIn_app (goodIn_of _ (by decide +kernel)) ggX7_pass_X5_isStorm
set_option maxRecDepth 20000 in
theorem ggX7_pass_X7_freeLockedJibs : GoodIn wsX7_pass wsX7_freeLockedJibs := goodIn_r _ [31, 32, 33, 34, 35, 5, 7, 36, 37, 38, 39, 40, 41, 42, 43, 44, 45, 46, 47, 48, 49, 50, 51, 52, 53, 54, 55, 56, 57, 58, 59, 60, 61, 78, 79, 80, 81, 82, 83, 84, 85, 86, 94, 95, 96, 97, 98, 99, 100, 101, 102, 103, 104, 105, 87, 88, 89, 90, 91, 92, 93, 106, 107, 108, 109, 110, 111, 112, 113, 114, 115, 116] (by decide +kernel) (by decide +kernel)
set_option maxRecDepth 20000 in
theorem gX7_pass_X7_freeLockedJibs : GoodIn wsX7_pass (wsV RX7 180 RX7 yX7_freeLockedJibs wsX7_freeLockedJibs) := goodIn_app (goodIn_of _ (by decide +kernel)) ggX7_pass_X7_freeLockedJibs
set_option maxRecDepth 20000 in
theorem ggX7_pass_X7_turnFreeJibs : GoodIn wsX7_pass wsX7_turnFreeJibs := goodIn_r _ [65, 32, 33, 34, 66, 5, 67, 68, 69, 10, 70, 71, 72, 73, 74, 75, 76, 77, 78, 79, 80, 81, 82, 83, 84, 85, 86, 94, 95, 96, 97, 98, 99, 100, 101, 102, 103, 104, 105, 87, 88, 89, 90, 91, 92, 93] (by decide +kernel) (by decide +kernel)
set_option maxRecDepth 20000 in
theorem gX7_pass_X7_turnFreeJibs : GoodIn wsX7_pass (wsV RX7 183 RX7 yX7_turnFreeJibs wsX7_turnFreeJibs) := goodIn_app (goodIn_of _ (by decide +kernel)) ggX7_pass_X7_turnFreeJibs
theorem dX7_pass_0 : decode cX7_pass 0 = .ok (.iload_n 1, 1) := by decide +kernel
theorem dX7_pass_1 : decode cX7_pass 1 = .ok (.iconst 1, 1) := by decide +kernel
theorem dX7_pass_2 : decode cX7_pass 2 = .ok (.sipush 300, 3) := by decide +kernel
theorem dX7_pass_5 : decode cX7_pass 5 = .ok (.invokestatic 46, 3) := by decide +kernel
theorem dX7_pass_8 : decode cX7_pass 8 = .ok (.ifCond .eq 13, 3) := by decide +kernel
theorem dX7_pass_11 : decode cX7_pass 11 = .ok (.new 50, 3) := by decide +kernel
theorem dX7_pass_14 : decode cX7_pass 14 = .ok (.dup, 1) := by decide +kernel
theorem dX7_pass_15 : decode cX7_pass 15 = .ok (.ldc 170, 2) := by decide +kernel
theorem dX7_pass_17 : decode cX7_pass 17 = .ok (.invokespecial 54, 3) := by decide +kernel
theorem dX7_pass_20 : decode cX7_pass 20 = .ok (.athrow, 1) := by decide +kernel
theorem dX7_pass_21 : decode cX7_pass 21 = .ok (.aload_n 0, 1) := by decide +kernel
theorem dX7_pass_22 : decode cX7_pass 22 = .ok (.getfield 10, 3) := by decide +kernel
theorem dX7_pass_25 : decode cX7_pass 25 = .ok (.getfield 172, 3) := by decide +kernel
theorem dX7_pass_28 : decode cX7_pass 28 = .ok (.iload_n 1, 1) := by decide +kernel
theorem dX7_pass_29 : decode cX7_pass 29 = .ok (.iadd, 1) := by decide +kernel
theorem dX7_pass_30 : decode cX7_pass 30 = .ok (.sipush 9999, 3) := by decide +kernel
theorem dX7_pass_33 : decode cX7_pass 33 = .ok (.if_icmp .le 13, 3) := by decide +kernel
theorem dX7_pass_36 : decode cX7_pass 36 = .ok (.new 61, 3) := by decide +kernel
theorem dX7_pass_39 : decode cX7_pass 39 = .ok (.dup, 1) := by decide +kernel
theorem dX7_pass_40 : decode cX7_pass 40 = .ok (.ldc 175, 2) := by decide +kernel
theorem dX7_pass_42 : decode cX7_pass 42 = .ok (.invokespecial 65, 3) := by decide +kernel
theorem dX7_pass_45 : decode cX7_pass 45 = .ok (.athrow, 1) := by decide +kernel
theorem dX7_pass_46 : decode cX7_pass 46 = .ok (.iconst 0, 1) := by decide +kernel
theorem dX7_pass_47 : decode cX7_pass 47 = .ok (.istore_n 2, 1) := by decide +kernel
theorem dX7_pass_48 : decode cX7_pass 48 = .ok (.iload_n 2, 1) := by decide +kernel
theorem dX7_pass_49 : decode cX7_pass 49 = .ok (.iload_n 1, 1) := by decide +kernel
theorem dX7_pass_50 : decode cX7_pass 50 = .ok (.if_icmp .ge 45, 3) := by decide +kernel
theorem dX7_pass_53 : decode cX7_pass 53 = .ok (.aload_n 0, 1) := by decide +kernel
theorem dX7_pass_54 : decode cX7_pass 54 = .ok (.getfield 10, 3) := by decide +kernel
theorem dX7_pass_57 : decode cX7_pass 57 = .ok (.invokevirtual 177, 3) := by decide +kernel
theorem dX7_pass_60 : decode cX7_pass 60 = .ok (.aload_n 0, 1) := by decide +kernel
theorem dX7_pass_61 : decode cX7_pass 61 = .ok (.getfield 10, 3) := by decide +kernel
theorem dX7_pass_64 : decode cX7_pass 64 = .ok (.invokevirtual 75, 3) := by decide +kernel
theorem dX7_pass_67 : decode cX7_pass 67 = .ok (.ifCond .eq 7, 3) := by decide +kernel
theorem dX7_pass_70 : decode cX7_pass 70 = .ok (.aload_n 0, 1) := by decide +kernel
theorem dX7_pass_71 : decode cX7_pass 71 = .ok (.invokevirtual 180, 3) := by decide +kernel
theorem dX7_pass_74 : decode cX7_pass 74 = .ok (.aload_n 0, 1) := by decide +kernel
theorem dX7_pass_75 : decode cX7_pass 75 = .ok (.getfield 10, 3) := by decide +kernel
theorem dX7_pass_78 : decode cX7_pass 78 = .ok (.getfield 104, 3) := by decide +kernel
theorem dX7_pass_81 : decode cX7_pass 81 = .ok (.iconst 3, 1) := by decide +kernel
theorem dX7_pass_82 : decode cX7_pass 82 = .ok (.if_icmp .lt 7, 3) := by decide +kernel
theorem dX7_pass_85 : decode cX7_pass 85 = .ok (.aload_n 0, 1) := by decide +kernel
theorem dX7_pass_86 : decode cX7_pass 86 = .ok (.invokevirtual 183, 3) := by decide +kernel
theorem dX7_pass_89 : decode cX7_pass 89 = .ok (.iinc 2 1, 3) := by decide +kernel
theorem dX7_pass_92 : decode cX7_pass 92 = .ok (.goto (-44), 3) := by decide +kernel
theorem dX7_pass_95 : decode cX7_pass 95 = .ok (.aload_n 0, 1) := by decide +kernel
theorem dX7_pass_96 : decode cX7_pass 96 = .ok (.getfield 10, 3) := by decide +kernel
theorem dX7_pass_99 : decode cX7_pass 99 = .ok (.getfield 104, 3) := by decide +kernel
theorem dX7_pass_102 : decode cX7_pass 102 = .ok (.ireturn, 1) := by decide +kernel
set_option maxRecDepth 20000 in
theorem ggX7_lock_X7_craneAt : GoodIn wsX7_lock wsX7_craneAt := goodIn_ca (goodIn_r _ [12, 13, 14, 15, 16, 17, 18, 11, 19, 52, 53, 54, 55, 56, 57, 58, 59, 60] (by decide +kernel) (by decide +kernel)) (goodIn_sub (fun _ h => List.mem_cons_of_mem _ (List.mem_append_right _ h)) (by decide +kernel))
set_option maxRecDepth 20000 in
theorem gX7_lock_X7_craneAt : GoodIn wsX7_lock (wsV RX7 86 RX7 yX7_craneAt wsX7_craneAt) := goodIn_app (goodIn_of _ (by decide +kernel)) ggX7_lock_X7_craneAt
set_option maxRecDepth 20000 in
theorem ggX7_lock_X5_isStorm : GoodIn wsX7_lock wsX5_isStorm := goodIn_r _ [24, 25, 73, 74, 75, 76, 77, 78, 79] (by decide +kernel) (by decide +kernel)
set_option maxRecDepth 20000 in
theorem gX7_lock_X5_isStorm : GoodIn wsX7_lock (wsV RX7 75 RX5 yX5_isStorm wsX5_isStorm) := goodIn_app (goodIn_of _ (by decide +kernel)) ggX7_lock_X5_isStorm
set_option maxRecDepth 20000 in
theorem ggX7_lock_X1_write : GoodIn wsX7_lock wsX1_write := goodIn_r _ [30, 31, 32, 33, 34, 35, 36, 37, 38, 39, 40, 41, 42, 43, 44, 45, 46, 47, 48, 49, 50, 51, 80, 81, 82, 83, 84, 85, 86, 87, 88, 89, 90] (by decide +kernel) (by decide +kernel)
set_option maxRecDepth 20000 in
theorem gX7_lock_X1_write : GoodIn wsX7_lock (wsV RX7 188 RX1 yX1_write wsX1_write) := goodIn_app (goodIn_of _ (by decide +kernel)) ggX7_lock_X1_write
theorem dX7_lock_0 : decode cX7_lock 0 = .ok (.aload_n 0, 1) := by decide +kernel
theorem dX7_lock_1 : decode cX7_lock 1 = .ok (.iload_n 1, 1) := by decide +kernel
theorem dX7_lock_2 : decode cX7_lock 2 = .ok (.invokevirtual 86, 3) := by decide +kernel
theorem dX7_lock_5 : decode cX7_lock 5 = .ok (.astore_n 3, 1) := by decide +kernel
theorem dX7_lock_6 : decode cX7_lock 6 = .ok (.iload_n 2, 1) := by decide +kernel
theorem dX7_lock_7 : decode cX7_lock 7 = .ok (.ifCond .eq 23, 3) := by decide +kernel
theorem dX7_lock_10 : decode cX7_lock 10 = .ok (.aload_n 0, 1) := by decide +kernel
theorem dX7_lock_11 : decode cX7_lock 11 = .ok (.getfield 10, 3) := by decide +kernel
theorem dX7_lock_14 : decode cX7_lock 14 = .ok (.invokevirtual 75, 3) := by decide +kernel
theorem dX7_lock_17 : decode cX7_lock 17 = .ok (.ifCond .eq 13, 3) := by decide +kernel
theorem dX7_lock_20 : decode cX7_lock 20 = .ok (.new 61, 3) := by decide +kernel
theorem dX7_lock_23 : decode cX7_lock 23 = .ok (.dup, 1) := by decide +kernel
theorem dX7_lock_24 : decode cX7_lock 24 = .ok (.ldc 186, 2) := by decide +kernel
theorem dX7_lock_26 : decode cX7_lock 26 = .ok (.invokespecial 65, 3) := by decide +kernel
theorem dX7_lock_29 : decode cX7_lock 29 = .ok (.athrow, 1) := by decide +kernel
theorem dX7_lock_30 : decode cX7_lock 30 = .ok (.aload_n 3, 1) := by decide +kernel
theorem dX7_lock_31 : decode cX7_lock 31 = .ok (.getfield 79, 3) := by decide +kernel
theorem dX7_lock_34 : decode cX7_lock 34 = .ok (.istore 4, 2) := by decide +kernel
theorem dX7_lock_36 : decode cX7_lock 36 = .ok (.iload_n 2, 1) := by decide +kernel
theorem dX7_lock_37 : decode cX7_lock 37 = .ok (.iload 4, 2) := by decide +kernel
theorem dX7_lock_39 : decode cX7_lock 39 = .ok (.if_icmp .eq 38, 3) := by decide +kernel
theorem dX7_lock_42 : decode cX7_lock 42 = .ok (.aload_n 3, 1) := by decide +kernel
theorem dX7_lock_43 : decode cX7_lock 43 = .ok (.iload_n 2, 1) := by decide +kernel
theorem dX7_lock_44 : decode cX7_lock 44 = .ok (.putfield 79, 3) := by decide +kernel
theorem dX7_lock_47 : decode cX7_lock 47 = .ok (.aload_n 0, 1) := by decide +kernel
theorem dX7_lock_48 : decode cX7_lock 48 = .ok (.getfield 42, 3) := by decide +kernel
theorem dX7_lock_51 : decode cX7_lock 51 = .ok (.iload_n 2, 1) := by decide +kernel
theorem dX7_lock_52 : decode cX7_lock 52 = .ok (.ifCond .eq 7, 3) := by decide +kernel
theorem dX7_lock_55 : decode cX7_lock 55 = .ok (.iconst 3, 1) := by decide +kernel
theorem dX7_lock_56 : decode cX7_lock 56 = .ok (.goto 4, 3) := by decide +kernel
theorem dX7_lock_59 : decode cX7_lock 59 = .ok (.iconst 4, 1) := by decide +kernel
theorem dX7_lock_60 : decode cX7_lock 60 = .ok (.aload_n 3, 1) := by decide +kernel
theorem dX7_lock_61 : decode cX7_lock 61 = .ok (.getfield 83, 3) := by decide +kernel
theorem dX7_lock_64 : decode cX7_lock 64 = .ok (.aload_n 0, 1) := by decide +kernel
theorem dX7_lock_65 : decode cX7_lock 65 = .ok (.getfield 10, 3) := by decide +kernel
theorem dX7_lock_68 : decode cX7_lock 68 = .ok (.getfield 104, 3) := by decide +kernel
theorem dX7_lock_71 : decode cX7_lock 71 = .ok (.iconst 0, 1) := by decide +kernel
theorem dX7_lock_72 : decode cX7_lock 72 = .ok (.iconst 0, 1) := by decide +kernel
theorem dX7_lock_73 : decode cX7_lock 73 = .ok (.iconst (-1), 1) := by decide +kernel
theorem dX7_lock_74 : decode cX7_lock 74 = .ok (.invokevirtual 188, 3) := by decide +kernel
theorem dX7_lock_77 : decode cX7_lock 77 = .ok (.iload 4, 2) := by decide +kernel
theorem dX7_lock_79 : decode cX7_lock 79 = .ok (.ireturn, 1) := by decide +kernel
set_option maxRecDepth 20000 in
theorem ggX7_lift_X7_craneAt : GoodIn wsX7_lift wsX7_craneAt := goodIn_ca (goodIn_r _ [16, 17, 18, 19, 20, 21, 22, 15, 23, 182, 183, 184, 185, 186, 187, 188, 189, 190] (by decide +kernel) (by decide +kernel)) (goodIn_sub (fun _ h => List.mem_cons_of_mem _ (List.mem_append_right _ h)) (by decide +kernel))
set_option maxRecDepth 20000 in
theorem gX7_lift_X7_craneAt : GoodIn wsX7_lift (wsV RX7 86 RX7 yX7_craneAt wsX7_craneAt) := goodIn_app (goodIn_of _ (by decide +kernel)) ggX7_lift_X7_craneAt
set_option maxRecDepth 20000 in
theorem ggX7_lift_X7_isNoLift : GoodIn wsX7_lift wsX7_isNoLift := goodIn_r _ [26, 27, 21, 22, 15, 23, 28, 29, 30, 170, 171, 172, 173, 174, 175, 176, 177, 178, 179, 180, 181] (by decide +kernel) (by decide +kernel)
set_option maxRecDepth 20000 in
theorem gX7_lift_X7_isNoLift : GoodIn wsX7_lift (va_wsS RX7 192 yX7_isNoLift wsX7_isNoLift) := goodIn_app (goodIn_of _ (by decide +kernel)) ggX7_lift_X7_isNoLift
set_option maxRecDepth 20000 in
theorem ggX7_lift_X7_tryLift : GoodIn wsX7_lift wsX7_tryLift := goodIn_r _ [34, 35, 36, 37, 38, 4, 9, 10, 39, 40, 41, 42, 43, 44, 45, 46, 47, 48, 49, 50, 51, 52, 53, 54, 55, 56, 57, 58, 59, 60, 61, 62, 63, 64, 65, 66, 67, 68, 69, 70, 71, 72, 73, 74, 75, 76, 77, 15, 78, 79, 80, 81, 82, 83, 84, 85, 86, 87, 88, 89, 90, 91, 92, 93, 94, 95, 96, 97, 98, 99, 8, 100, 101, 102, 103, 104, 105, 106, 107, 108, 109, 110, 111, 112, 113, 114, 115, 116, 117, 118, 119, 120, 121, 122, 123, 19, 124, 20, 125, 126, 127, 128, 129, 130, 131, 132, 133, 134, 135, 136, 170, 171, 172, 173, 174, 175, 176, 177, 178, 179, 180, 181, 167, 168, 169, 182, 183, 184, 185, 186, 187, 188, 189, 190, 191, 192, 193, 194, 195, 196, 197, 198, 199, 200, 201, 202, 203, 204, 205, 206] (by decide +kernel) (by decide +kernel)
set_option maxRecDepth 20000 in
theorem gX7_lift_X7_tryLift : GoodIn wsX7_lift (wsV RX7 198 RX7 yX7_tryLift wsX7_tryLift) := goodIn_app (goodIn_of _ (by decide +kernel)) ggX7_lift_X7_tryLift
set_option maxRecDepth 20000 in
theorem ggX7_lift_X0_wearBy : GoodIn wsX7_lift wsX0_wearBy := goodIn_r _ [140, 60, 65, 170, 171, 172, 173, 174, 175, 176, 177, 178, 179, 180, 181] (by decide +kernel) (by decide +kernel)
set_option maxRecDepth 20000 in
theorem gX7_lift_X0_wearBy : GoodIn wsX7_lift (wsV RX7 208 RX0 yX0_wearBy wsX0_wearBy) := goodIn_app (goodIn_of _ (by decide +kernel)) ggX7_lift_X0_wearBy
set_option maxRecDepth 20000 in
theorem ggX7_lift_X1_write : GoodIn wsX7_lift wsX1_write := goodIn_r _ [145, 146, 147, 148, 149, 150, 151, 152, 153, 154, 155, 156, 157, 158, 159, 160, 161, 162, 163, 164, 165, 166, 207, 208, 209, 210, 211, 212, 213, 214, 215, 216, 217] (by decide +kernel) (by decide +kernel)
set_option maxRecDepth 20000 in
theorem gX7_lift_X1_write : GoodIn wsX7_lift (wsV RX7 188 RX1 yX1_write wsX1_write) := goodIn_app (goodIn_of _ (by decide +kernel)) ggX7_lift_X1_write
theorem dX7_lift_0 : decode cX7_lift 0 = .ok (.aload_n 0, 1) := by decide +kernel
theorem dX7_lift_1 : decode cX7_lift 1 = .ok (.iload_n 1, 1) := by decide +kernel
theorem dX7_lift_2 : decode cX7_lift 2 = .ok (.invokevirtual 86, 3) := by decide +kernel
theorem dX7_lift_5 : decode cX7_lift 5 = .ok (.astore 6, 2) := by decide +kernel
theorem dX7_lift_7 : decode cX7_lift 7 = .ok (.aload 6, 2) := by decide +kernel
theorem dX7_lift_9 : decode cX7_lift 9 = .ok (.iload_n 2, 1) := by decide +kernel
theorem dX7_lift_10 : decode cX7_lift 10 = .ok (.iload_n 3, 1) := by decide +kernel
theorem dX7_lift_11 : decode cX7_lift 11 = .ok (.iload 4, 2) := by decide +kernel
theorem dX7_lift_13 : decode cX7_lift 13 = .ok (.iload 5, 2) := by decide +kernel
theorem dX7_lift_15 : decode cX7_lift 15 = .ok (.invokestatic 192, 3) := by decide +kernel
theorem dX7_lift_18 : decode cX7_lift 18 = .ok (.ifCond .eq 13, 3) := by decide +kernel
theorem dX7_lift_21 : decode cX7_lift 21 = .ok (.new 50, 3) := by decide +kernel
theorem dX7_lift_24 : decode cX7_lift 24 = .ok (.dup, 1) := by decide +kernel
theorem dX7_lift_25 : decode cX7_lift 25 = .ok (.ldc 196, 2) := by decide +kernel
theorem dX7_lift_27 : decode cX7_lift 27 = .ok (.invokespecial 54, 3) := by decide +kernel
theorem dX7_lift_30 : decode cX7_lift 30 = .ok (.athrow, 1) := by decide +kernel
theorem dX7_lift_31 : decode cX7_lift 31 = .ok (.aload_n 0, 1) := by decide +kernel
theorem dX7_lift_32 : decode cX7_lift 32 = .ok (.aload 6, 2) := by decide +kernel
theorem dX7_lift_34 : decode cX7_lift 34 = .ok (.iload_n 2, 1) := by decide +kernel
theorem dX7_lift_35 : decode cX7_lift 35 = .ok (.iload_n 3, 1) := by decide +kernel
theorem dX7_lift_36 : decode cX7_lift 36 = .ok (.iload 4, 2) := by decide +kernel
theorem dX7_lift_38 : decode cX7_lift 38 = .ok (.iload 5, 2) := by decide +kernel
theorem dX7_lift_40 : decode cX7_lift 40 = .ok (.invokevirtual 198, 3) := by decide +kernel
theorem dX7_lift_43 : decode cX7_lift 43 = .ok (.astore 7, 2) := by decide +kernel
theorem dX7_lift_45 : decode cX7_lift 45 = .ok (.aload 7, 2) := by decide +kernel
theorem dX7_lift_47 : decode cX7_lift 47 = .ok (.getfield 202, 3) := by decide +kernel
theorem dX7_lift_50 : decode cX7_lift 50 = .ok (.ifCond .ne 34, 3) := by decide +kernel
theorem dX7_lift_53 : decode cX7_lift 53 = .ok (.aload 6, 2) := by decide +kernel
theorem dX7_lift_55 : decode cX7_lift 55 = .ok (.iload 5, 2) := by decide +kernel
theorem dX7_lift_57 : decode cX7_lift 57 = .ok (.putfield 207, 3) := by decide +kernel
theorem dX7_lift_60 : decode cX7_lift 60 = .ok (.aload 6, 2) := by decide +kernel
theorem dX7_lift_62 : decode cX7_lift 62 = .ok (.iload 4, 2) := by decide +kernel
theorem dX7_lift_64 : decode cX7_lift 64 = .ok (.putfield 72, 3) := by decide +kernel
theorem dX7_lift_67 : decode cX7_lift 67 = .ok (.aload 6, 2) := by decide +kernel
theorem dX7_lift_69 : decode cX7_lift 69 = .ok (.iload_n 2, 1) := by decide +kernel
theorem dX7_lift_70 : decode cX7_lift 70 = .ok (.invokevirtual 208, 3) := by decide +kernel
theorem dX7_lift_73 : decode cX7_lift 73 = .ok (.aload 6, 2) := by decide +kernel
theorem dX7_lift_75 : decode cX7_lift 75 = .ok (.dup, 1) := by decide +kernel
theorem dX7_lift_76 : decode cX7_lift 76 = .ok (.getfield 211, 3) := by decide +kernel
theorem dX7_lift_79 : decode cX7_lift 79 = .ok (.iconst 1, 1) := by decide +kernel
theorem dX7_lift_80 : decode cX7_lift 80 = .ok (.iadd, 1) := by decide +kernel
theorem dX7_lift_81 : decode cX7_lift 81 = .ok (.putfield 211, 3) := by decide +kernel
theorem dX7_lift_84 : decode cX7_lift 84 = .ok (.aload_n 0, 1) := by decide +kernel
theorem dX7_lift_85 : decode cX7_lift 85 = .ok (.getfield 42, 3) := by decide +kernel
theorem dX7_lift_88 : decode cX7_lift 88 = .ok (.iconst 0, 1) := by decide +kernel
theorem dX7_lift_89 : decode cX7_lift 89 = .ok (.aload 6, 2) := by decide +kernel
theorem dX7_lift_91 : decode cX7_lift 91 = .ok (.getfield 83, 3) := by decide +kernel
theorem dX7_lift_94 : decode cX7_lift 94 = .ok (.aload_n 0, 1) := by decide +kernel
theorem dX7_lift_95 : decode cX7_lift 95 = .ok (.getfield 10, 3) := by decide +kernel
theorem dX7_lift_98 : decode cX7_lift 98 = .ok (.getfield 104, 3) := by decide +kernel
theorem dX7_lift_101 : decode cX7_lift 101 = .ok (.iload_n 2, 1) := by decide +kernel
theorem dX7_lift_102 : decode cX7_lift 102 = .ok (.aload 7, 2) := by decide +kernel
theorem dX7_lift_104 : decode cX7_lift 104 = .ok (.getfield 202, 3) := by decide +kernel
theorem dX7_lift_107 : decode cX7_lift 107 = .ok (.aload 7, 2) := by decide +kernel
theorem dX7_lift_109 : decode cX7_lift 109 = .ok (.getfield 214, 3) := by decide +kernel
theorem dX7_lift_112 : decode cX7_lift 112 = .ok (.invokevirtual 188, 3) := by decide +kernel
theorem dX7_lift_115 : decode cX7_lift 115 = .ok (.aload 7, 2) := by decide +kernel
theorem dX7_lift_117 : decode cX7_lift 117 = .ok (.getfield 202, 3) := by decide +kernel
theorem dX7_lift_120 : decode cX7_lift 120 = .ok (.ireturn, 1) := by decide +kernel
set_option maxRecDepth 20000 in
theorem ggX7_tandem_X7_craneAt : GoodIn wsX7_tandem wsX7_craneAt := goodIn_ca (goodIn_r _ [11, 12, 13, 14, 15, 16, 17, 10, 18, 81, 82, 83, 84, 85, 86, 87, 88, 89] (by decide +kernel) (by decide +kernel)) (goodIn_sub (fun _ h => List.mem_cons_of_mem _ (List.mem_append_right _ h)) (by decide +kernel))
set_option maxRecDepth 20000 in
theorem gX7_tandem_X7_craneAt : GoodIn wsX7_tandem (wsV RX7 86 RX7 yX7_craneAt wsX7_craneAt) := goodIn_app (goodIn_of _ (by decide +kernel)) ggX7_tandem_X7_craneAt
set_option maxRecDepth 20000 in
theorem ggX7_tandem_X7_isOutside : GoodIn wsX7_tandem wsX7_isOutside := goodIn_r _ [18] (by decide +kernel) (by decide +kernel)
set_option maxRecDepth 20000 in
theorem gX7_tandem_X7_isOutside : GoodIn wsX7_tandem (va_wsS RX7 46 yX7_isOutside wsX7_isOutside) := goodIn_app (goodIn_of _ (by decide +kernel)) ggX7_tandem_X7_isOutside
set_option maxRecDepth 20000 in
theorem ggX7_tandem_X7_tenthRoundedUp : GoodIn wsX7_tandem wsX7_tenthRoundedUp := goodIn_r _ [21] (by decide +kernel) (by decide +kernel)
set_option maxRecDepth 20000 in
theorem gX7_tandem_X7_tenthRoundedUp : GoodIn wsX7_tandem (va_wsS RX7 219 yX7_tenthRoundedUp wsX7_tenthRoundedUp) := goodIn_app (goodIn_of _ (by decide +kernel)) ggX7_tandem_X7_tenthRoundedUp
set_option maxRecDepth 20000 in
theorem ggX7_tandem_X7_tandemVerdict : GoodIn wsX7_tandem wsX7_tandemVerdict := goodIn_r _ [25, 26, 27, 5, 6, 28, 29, 30, 31, 32, 33, 34, 35, 36, 37, 38, 39, 40, 41, 42, 43, 44, 45, 46, 47, 48, 49, 50, 20, 10, 21, 90, 91, 92, 93, 94, 95, 96, 97, 98, 99, 100, 101, 81, 82, 83, 84, 85, 86, 87, 88, 89, 102, 103, 104, 105, 106, 107, 108] (by decide +kernel) (by decide +kernel)
set_option maxRecDepth 20000 in
theorem gX7_tandem_X7_tandemVerdict : GoodIn wsX7_tandem (wsV RX7 223 RX7 yX7_tandemVerdict wsX7_tandemVerdict) := goodIn_app (goodIn_of _ (by decide +kernel)) ggX7_tandem_X7_tandemVerdict
set_option maxRecDepth 20000 in
theorem ggX7_tandem_X0_wearBy : GoodIn wsX7_tandem wsX0_wearBy := goodIn_r _ [54, 33, 38, 90, 91, 92, 93, 94, 95, 96, 97, 98, 99, 100, 101] (by decide +kernel) (by decide +kernel)
set_option maxRecDepth 20000 in
theorem gX7_tandem_X0_wearBy : GoodIn wsX7_tandem (wsV RX7 208 RX0 yX0_wearBy wsX0_wearBy) := goodIn_app (goodIn_of _ (by decide +kernel)) ggX7_tandem_X0_wearBy
set_option maxRecDepth 20000 in
theorem ggX7_tandem_X1_write : GoodIn wsX7_tandem wsX1_write := goodIn_r _ [59, 60, 61, 62, 63, 64, 65, 66, 67, 68, 69, 70, 71, 72, 73, 74, 75, 76, 77, 78, 79, 80, 109, 110, 111, 112, 113, 114, 115, 116, 117, 118, 119] (by decide +kernel) (by decide +kernel)
set_option maxRecDepth 20000 in
theorem gX7_tandem_X1_write : GoodIn wsX7_tandem (wsV RX7 188 RX1 yX1_write wsX1_write) := goodIn_app (goodIn_of _ (by decide +kernel)) ggX7_tandem_X1_write
theorem dX7_tandem_0 : decode cX7_tandem 0 = .ok (.aload_n 0, 1) := by decide +kernel
theorem dX7_tandem_1 : decode cX7_tandem 1 = .ok (.iload_n 1, 1) := by decide +kernel
theorem dX7_tandem_2 : decode cX7_tandem 2 = .ok (.invokevirtual 86, 3) := by decide +kernel
theorem dX7_tandem_5 : decode cX7_tandem 5 = .ok (.astore 5, 2) := by decide +kernel
theorem dX7_tandem_7 : decode cX7_tandem 7 = .ok (.aload_n 0, 1) := by decide +kernel
theorem dX7_tandem_8 : decode cX7_tandem 8 = .ok (.iload_n 2, 1) := by decide +kernel
theorem dX7_tandem_9 : decode cX7_tandem 9 = .ok (.invokevirtual 86, 3) := by decide +kernel
theorem dX7_tandem_12 : decode cX7_tandem 12 = .ok (.astore 6, 2) := by decide +kernel
theorem dX7_tandem_14 : decode cX7_tandem 14 = .ok (.iload_n 1, 1) := by decide +kernel
theorem dX7_tandem_15 : decode cX7_tandem 15 = .ok (.iload_n 2, 1) := by decide +kernel
theorem dX7_tandem_16 : decode cX7_tandem 16 = .ok (.if_icmp .eq 25, 3) := by decide +kernel
theorem dX7_tandem_19 : decode cX7_tandem 19 = .ok (.iload_n 3, 1) := by decide +kernel
theorem dX7_tandem_20 : decode cX7_tandem 20 = .ok (.iconst 1, 1) := by decide +kernel
theorem dX7_tandem_21 : decode cX7_tandem 21 = .ok (.sipush 199, 3) := by decide +kernel
theorem dX7_tandem_24 : decode cX7_tandem 24 = .ok (.invokestatic 46, 3) := by decide +kernel
theorem dX7_tandem_27 : decode cX7_tandem 27 = .ok (.ifCond .ne 14, 3) := by decide +kernel
theorem dX7_tandem_30 : decode cX7_tandem 30 = .ok (.iload 4, 2) := by decide +kernel
theorem dX7_tandem_32 : decode cX7_tandem 32 = .ok (.iconst 1, 1) := by decide +kernel
theorem dX7_tandem_33 : decode cX7_tandem 33 = .ok (.bipush 9, 2) := by decide +kernel
theorem dX7_tandem_35 : decode cX7_tandem 35 = .ok (.invokestatic 46, 3) := by decide +kernel
theorem dX7_tandem_38 : decode cX7_tandem 38 = .ok (.ifCond .eq 13, 3) := by decide +kernel
theorem dX7_tandem_41 : decode cX7_tandem 41 = .ok (.new 50, 3) := by decide +kernel
theorem dX7_tandem_44 : decode cX7_tandem 44 = .ok (.dup, 1) := by decide +kernel
theorem dX7_tandem_45 : decode cX7_tandem 45 = .ok (.ldc 217, 2) := by decide +kernel
theorem dX7_tandem_47 : decode cX7_tandem 47 = .ok (.invokespecial 54, 3) := by decide +kernel
theorem dX7_tandem_50 : decode cX7_tandem 50 = .ok (.athrow, 1) := by decide +kernel
theorem dX7_tandem_51 : decode cX7_tandem 51 = .ok (.iload_n 3, 1) := by decide +kernel
theorem dX7_tandem_52 : decode cX7_tandem 52 = .ok (.iload 4, 2) := by decide +kernel
theorem dX7_tandem_54 : decode cX7_tandem 54 = .ok (.imul, 1) := by decide +kernel
theorem dX7_tandem_55 : decode cX7_tandem 55 = .ok (.invokestatic 219, 3) := by decide +kernel
theorem dX7_tandem_58 : decode cX7_tandem 58 = .ok (.istore 7, 2) := by decide +kernel
theorem dX7_tandem_60 : decode cX7_tandem 60 = .ok (.iload_n 3, 1) := by decide +kernel
theorem dX7_tandem_61 : decode cX7_tandem 61 = .ok (.bipush 10, 2) := by decide +kernel
theorem dX7_tandem_63 : decode cX7_tandem 63 = .ok (.iload 4, 2) := by decide +kernel
theorem dX7_tandem_65 : decode cX7_tandem 65 = .ok (.isub, 1) := by decide +kernel
theorem dX7_tandem_66 : decode cX7_tandem 66 = .ok (.imul, 1) := by decide +kernel
theorem dX7_tandem_67 : decode cX7_tandem 67 = .ok (.invokestatic 219, 3) := by decide +kernel
theorem dX7_tandem_70 : decode cX7_tandem 70 = .ok (.istore 8, 2) := by decide +kernel
theorem dX7_tandem_72 : decode cX7_tandem 72 = .ok (.aload_n 0, 1) := by decide +kernel
theorem dX7_tandem_73 : decode cX7_tandem 73 = .ok (.aload 5, 2) := by decide +kernel
theorem dX7_tandem_75 : decode cX7_tandem 75 = .ok (.iload 7, 2) := by decide +kernel
theorem dX7_tandem_77 : decode cX7_tandem 77 = .ok (.aload 6, 2) := by decide +kernel
theorem dX7_tandem_79 : decode cX7_tandem 79 = .ok (.iload 8, 2) := by decide +kernel
theorem dX7_tandem_81 : decode cX7_tandem 81 = .ok (.invokevirtual 223, 3) := by decide +kernel
theorem dX7_tandem_84 : decode cX7_tandem 84 = .ok (.istore 9, 2) := by decide +kernel
theorem dX7_tandem_86 : decode cX7_tandem 86 = .ok (.iload 9, 2) := by decide +kernel
theorem dX7_tandem_88 : decode cX7_tandem 88 = .ok (.ifCond .ne 17, 3) := by decide +kernel
theorem dX7_tandem_91 : decode cX7_tandem 91 = .ok (.aload 5, 2) := by decide +kernel
theorem dX7_tandem_93 : decode cX7_tandem 93 = .ok (.iload 7, 2) := by decide +kernel
theorem dX7_tandem_95 : decode cX7_tandem 95 = .ok (.invokevirtual 208, 3) := by decide +kernel
theorem dX7_tandem_98 : decode cX7_tandem 98 = .ok (.aload 6, 2) := by decide +kernel
theorem dX7_tandem_100 : decode cX7_tandem 100 = .ok (.iload 8, 2) := by decide +kernel
theorem dX7_tandem_102 : decode cX7_tandem 102 = .ok (.invokevirtual 208, 3) := by decide +kernel
theorem dX7_tandem_105 : decode cX7_tandem 105 = .ok (.aload_n 0, 1) := by decide +kernel
theorem dX7_tandem_106 : decode cX7_tandem 106 = .ok (.getfield 42, 3) := by decide +kernel
theorem dX7_tandem_109 : decode cX7_tandem 109 = .ok (.iconst 1, 1) := by decide +kernel
theorem dX7_tandem_110 : decode cX7_tandem 110 = .ok (.aload 5, 2) := by decide +kernel
theorem dX7_tandem_112 : decode cX7_tandem 112 = .ok (.getfield 83, 3) := by decide +kernel
theorem dX7_tandem_115 : decode cX7_tandem 115 = .ok (.aload_n 0, 1) := by decide +kernel
theorem dX7_tandem_116 : decode cX7_tandem 116 = .ok (.getfield 10, 3) := by decide +kernel
theorem dX7_tandem_119 : decode cX7_tandem 119 = .ok (.getfield 104, 3) := by decide +kernel
theorem dX7_tandem_122 : decode cX7_tandem 122 = .ok (.iload_n 3, 1) := by decide +kernel
theorem dX7_tandem_123 : decode cX7_tandem 123 = .ok (.iload 9, 2) := by decide +kernel
theorem dX7_tandem_125 : decode cX7_tandem 125 = .ok (.iconst (-1), 1) := by decide +kernel
theorem dX7_tandem_126 : decode cX7_tandem 126 = .ok (.invokevirtual 188, 3) := by decide +kernel
theorem dX7_tandem_129 : decode cX7_tandem 129 = .ok (.iload 9, 2) := by decide +kernel
theorem dX7_tandem_131 : decode cX7_tandem 131 = .ok (.ireturn, 1) := by decide +kernel
set_option maxRecDepth 20000 in
theorem ggX7_tear_X7_isNoPage : GoodIn wsX7_tear wsX7_isNoPage := goodIn_r _ [8, 3, 9, 10, 11, 7, 12, 21, 22, 23, 24, 25, 26, 27, 28, 29, 30, 31, 32, 33] (by decide +kernel) (by decide +kernel)
set_option maxRecDepth 20000 in
theorem gX7_tear_X7_isNoPage : GoodIn wsX7_tear (wsV RX7 227 RX7 yX7_isNoPage wsX7_isNoPage) := goodIn_app (goodIn_of _ (by decide +kernel)) ggX7_tear_X7_isNoPage
set_option maxRecDepth 20000 in
theorem ggX7_tear_X1_takeOut : GoodIn wsX7_tear wsX1_takeOut := goodIn_r _ [17, 18, 19, 20, 30, 31, 32, 33, 34, 35, 36, 37, 38, 39, 40] (by decide +kernel) (by decide +kernel)
set_option maxRecDepth 20000 in
theorem gX7_tear_X1_takeOut : GoodIn wsX7_tear (wsV RX7 235 RX1 yX1_takeOut wsX1_takeOut) := goodIn_app (goodIn_of _ (by decide +kernel)) ggX7_tear_X1_takeOut
theorem dX7_tear_0 : decode cX7_tear 0 = .ok (.aload_n 0, 1) := by decide +kernel
theorem dX7_tear_1 : decode cX7_tear 1 = .ok (.iload_n 1, 1) := by decide +kernel
theorem dX7_tear_2 : decode cX7_tear 2 = .ok (.invokevirtual 227, 3) := by decide +kernel
theorem dX7_tear_5 : decode cX7_tear 5 = .ok (.ifCond .eq 13, 3) := by decide +kernel
theorem dX7_tear_8 : decode cX7_tear 8 = .ok (.new 230, 3) := by decide +kernel
theorem dX7_tear_11 : decode cX7_tear 11 = .ok (.dup, 1) := by decide +kernel
theorem dX7_tear_12 : decode cX7_tear 12 = .ok (.ldc 232, 2) := by decide +kernel
theorem dX7_tear_14 : decode cX7_tear 14 = .ok (.invokespecial 234, 3) := by decide +kernel
theorem dX7_tear_17 : decode cX7_tear 17 = .ok (.athrow, 1) := by decide +kernel
theorem dX7_tear_18 : decode cX7_tear 18 = .ok (.aload_n 0, 1) := by decide +kernel
theorem dX7_tear_19 : decode cX7_tear 19 = .ok (.getfield 42, 3) := by decide +kernel
theorem dX7_tear_22 : decode cX7_tear 22 = .ok (.iload_n 1, 1) := by decide +kernel
theorem dX7_tear_23 : decode cX7_tear 23 = .ok (.invokevirtual 235, 3) := by decide +kernel
theorem dX7_tear_26 : decode cX7_tear 26 = .ok (.ireturn, 1) := by decide +kernel
theorem dX7_knock_0 : decode cX7_knock 0 = .ok (.aload_n 0, 1) := by decide +kernel
theorem dX7_knock_1 : decode cX7_knock 1 = .ok (.dup, 1) := by decide +kernel
theorem dX7_knock_2 : decode cX7_knock 2 = .ok (.getfield 238, 3) := by decide +kernel
theorem dX7_knock_5 : decode cX7_knock 5 = .ok (.iconst 1, 1) := by decide +kernel
theorem dX7_knock_6 : decode cX7_knock 6 = .ok (.iadd, 1) := by decide +kernel
theorem dX7_knock_7 : decode cX7_knock 7 = .ok (.putfield 238, 3) := by decide +kernel
theorem dX7_knock_10 : decode cX7_knock 10 = .ok (.aload_n 0, 1) := by decide +kernel
theorem dX7_knock_11 : decode cX7_knock 11 = .ok (.getfield 238, 3) := by decide +kernel
theorem dX7_knock_14 : decode cX7_knock 14 = .ok (.ireturn, 1) := by decide +kernel
set_option maxRecDepth 20000 in
theorem ggX7_ofCrane_X7_craneAt : GoodIn wsX7_ofCrane wsX7_craneAt := goodIn_ca (goodIn_r _ [17, 18, 19, 20, 21, 22, 23, 16, 24, 75, 76, 77, 78, 79, 80, 81, 82, 83] (by decide +kernel) (by decide +kernel)) (goodIn_sub (fun _ h => List.mem_cons_of_mem _ (List.mem_append_right _ h)) (by decide +kernel))
set_option maxRecDepth 20000 in
theorem gX7_ofCrane_X7_craneAt : GoodIn wsX7_ofCrane (wsV RX7 86 RX7 yX7_craneAt wsX7_craneAt) := goodIn_app (goodIn_of _ (by decide +kernel)) ggX7_ofCrane_X7_craneAt
set_option maxRecDepth 20000 in
theorem ggX7_ofCrane_X0_isWorn : GoodIn wsX7_ofCrane wsX0_isWorn := goodIn_r _ [29, 30, 63, 64, 65, 66, 67, 68, 69, 70, 71, 72, 73, 74] (by decide +kernel) (by decide +kernel)
set_option maxRecDepth 20000 in
theorem gX7_ofCrane_X0_isWorn : GoodIn wsX7_ofCrane (wsV RX7 241 RX0 yX0_isWorn wsX0_isWorn) := goodIn_app (goodIn_of _ (by decide +kernel)) ggX7_ofCrane_X0_isWorn
set_option maxRecDepth 20000 in
theorem ggX7_ofCrane_X0_capacityAt : GoodIn wsX7_ofCrane wsX0_capacityAt := goodIn_r _ [34, 35, 36, 37, 38, 39, 40, 41, 42, 28, 43, 44, 45, 46, 47, 48, 16, 49, 63, 64, 65, 66, 67, 68, 69, 70, 71, 72, 73, 74] (by decide +kernel) (by decide +kernel)
set_option maxRecDepth 20000 in
theorem gX7_ofCrane_X0_capacityAt : GoodIn wsX7_ofCrane (wsV RX7 107 RX0 yX0_capacityAt wsX0_capacityAt) := goodIn_app (goodIn_of _ (by decide +kernel)) ggX7_ofCrane_X0_capacityAt
set_option maxRecDepth 20000 in
theorem ggX7_ofCrane_X7_stepsBetween : GoodIn wsX7_ofCrane wsX7_stepsBetween := goodIn_r _ [52, 53, 54, 38, 55, 56, 57, 16, 58, 59, 60, 61, 62] (by decide +kernel) (by decide +kernel)
set_option maxRecDepth 20000 in
theorem gX7_ofCrane_X7_stepsBetween : GoodIn wsX7_ofCrane (va_wsS RX7 244 yX7_stepsBetween wsX7_stepsBetween) := goodIn_app (goodIn_of _ (by decide +kernel)) ggX7_ofCrane_X7_stepsBetween
theorem dX7_ofCrane_0 : decode cX7_ofCrane 0 = .ok (.aload_n 0, 1) := by decide +kernel
theorem dX7_ofCrane_1 : decode cX7_ofCrane 1 = .ok (.iload_n 1, 1) := by decide +kernel
theorem dX7_ofCrane_2 : decode cX7_ofCrane 2 = .ok (.invokevirtual 86, 3) := by decide +kernel
theorem dX7_ofCrane_5 : decode cX7_ofCrane 5 = .ok (.astore_n 3, 1) := by decide +kernel
theorem dX7_ofCrane_6 : decode cX7_ofCrane 6 = .ok (.iload_n 2, 1) := by decide +kernel
theorem dX7_ofCrane_7 : decode cX7_ofCrane 7 = .ok (.tableswitch 140 0 9 #[53, 58, 63, 68, 73, 86, 91, 104, 120, 135], 53) := by decide +kernel
theorem dX7_ofCrane_60 : decode cX7_ofCrane 60 = .ok (.aload_n 3, 1) := by decide +kernel
theorem dX7_ofCrane_61 : decode cX7_ofCrane 61 = .ok (.getfield 66, 3) := by decide +kernel
theorem dX7_ofCrane_64 : decode cX7_ofCrane 64 = .ok (.ireturn, 1) := by decide +kernel
theorem dX7_ofCrane_65 : decode cX7_ofCrane 65 = .ok (.aload_n 3, 1) := by decide +kernel
theorem dX7_ofCrane_66 : decode cX7_ofCrane 66 = .ok (.getfield 69, 3) := by decide +kernel
theorem dX7_ofCrane_69 : decode cX7_ofCrane 69 = .ok (.ireturn, 1) := by decide +kernel
theorem dX7_ofCrane_70 : decode cX7_ofCrane 70 = .ok (.aload_n 3, 1) := by decide +kernel
theorem dX7_ofCrane_71 : decode cX7_ofCrane 71 = .ok (.getfield 207, 3) := by decide +kernel
theorem dX7_ofCrane_74 : decode cX7_ofCrane 74 = .ok (.ireturn, 1) := by decide +kernel
