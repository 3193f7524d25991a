theorem dX7_init_0 : decode cX7_init 0 = .ok (.aload_n 0, 1) := by decide +kernel
theorem dX7_init_1 : decode cX7_init 1 = .ok (.invokespecial 1, 3) := by decide +kernel
theorem dX7_init_4 : decode cX7_init 4 = .ok (.aload_n 0, 1) := by decide +kernel
theorem dX7_init_5 : decode cX7_init 5 = .ok (.sipush 786, 3) := by decide +kernel
theorem dX7_init_8 : decode cX7_init 8 = .ok (.newarray .int, 2) := by decide +kernel
theorem dX7_init_10 : decode cX7_init 10 = .ok (.putfield 7, 3) := by decide +kernel
theorem dX7_init_13 : decode cX7_init 13 = .ok (.aload_n 0, 1) := by decide +kernel
theorem dX7_init_14 : decode cX7_init 14 = .ok (.bipush 96, 2) := by decide +kernel
theorem dX7_init_16 : decode cX7_init 16 = .ok (.newarray .long, 2) := by decide +kernel
theorem dX7_init_18 : decode cX7_init 18 = .ok (.putfield 13, 3) := by decide +kernel
theorem dX7_init_21 : decode cX7_init 21 = .ok (.aload_n 0, 1) := by decide +kernel
theorem dX7_init_22 : decode cX7_init 22 = .ok (.bipush 16, 2) := by decide +kernel
theorem dX7_init_24 : decode cX7_init 24 = .ok (.newarray .boolean, 2) := by decide +kernel
theorem dX7_init_26 : decode cX7_init 26 = .ok (.putfield 17, 3) := by decide +kernel
theorem dX7_init_29 : decode cX7_init 29 = .ok (.aload_n 0, 1) := by decide +kernel
theorem dX7_init_30 : decode cX7_init 30 = .ok (.bipush 16, 2) := by decide +kernel
theorem dX7_init_32 : decode cX7_init 32 = .ok (.newarray .int, 2) := by decide +kernel
theorem dX7_init_34 : decode cX7_init 34 = .ok (.putfield 21, 3) := by decide +kernel
theorem dX7_init_37 : decode cX7_init 37 = .ok (.aload_n 0, 1) := by decide +kernel
theorem dX7_init_38 : decode cX7_init 38 = .ok (.bipush 100, 2) := by decide +kernel
theorem dX7_init_40 : decode cX7_init 40 = .ok (.newarray .int, 2) := by decide +kernel
theorem dX7_init_42 : decode cX7_init 42 = .ok (.putfield 24, 3) := by decide +kernel
theorem dX7_init_45 : decode cX7_init 45 = .ok (.aload_n 0, 1) := by decide +kernel
theorem dX7_init_46 : decode cX7_init 46 = .ok (.getfield 7, 3) := by decide +kernel
theorem dX7_init_49 : decode cX7_init 49 = .ok (.iconst 2, 1) := by decide +kernel
theorem dX7_init_50 : decode cX7_init 50 = .ok (.bipush 24, 2) := by decide +kernel
theorem dX7_init_52 : decode cX7_init 52 = .ok (.iastore, 1) := by decide +kernel
theorem dX7_init_53 : decode cX7_init 53 = .ok (.aload_n 0, 1) := by decide +kernel
theorem dX7_init_54 : decode cX7_init 54 = .ok (.getfield 7, 3) := by decide +kernel
theorem dX7_init_57 : decode cX7_init 57 = .ok (.iconst 3, 1) := by decide +kernel
theorem dX7_init_58 : decode cX7_init 58 = .ok (.bipush 20, 2) := by decide +kernel
theorem dX7_init_60 : decode cX7_init 60 = .ok (.iastore, 1) := by decide +kernel
theorem dX7_init_61 : decode cX7_init 61 = .ok (.aload_n 0, 1) := by decide +kernel
theorem dX7_init_62 : decode cX7_init 62 = .ok (.getfield 7, 3) := by decide +kernel
theorem dX7_init_65 : decode cX7_init 65 = .ok (.iconst 4, 1) := by decide +kernel
theorem dX7_init_66 : decode cX7_init 66 = .ok (.bipush 90, 2) := by decide +kernel
theorem dX7_init_68 : decode cX7_init 68 = .ok (.iastore, 1) := by decide +kernel
theorem dX7_init_69 : decode cX7_init 69 = .ok (.iconst 0, 1) := by decide +kernel
theorem dX7_init_70 : decode cX7_init 70 = .ok (.istore_n 1, 1) := by decide +kernel
theorem dX7_init_71 : decode cX7_init 71 = .ok (.iload_n 1, 1) := by decide +kernel
theorem dX7_init_72 : decode cX7_init 72 = .ok (.iconst 3, 1) := by decide +kernel
theorem dX7_init_73 : decode cX7_init 73 = .ok (.if_icmp .ge 20, 3) := by decide +kernel
theorem dX7_init_76 : decode cX7_init 76 = .ok (.aload_n 0, 1) := by decide +kernel
theorem dX7_init_77 : decode cX7_init 77 = .ok (.getfield 7, 3) := by decide +kernel
theorem dX7_init_80 : decode cX7_init 80 = .ok (.bipush 8, 2) := by decide +kernel
theorem dX7_init_82 : decode cX7_init 82 = .ok (.iload_n 1, 1) := by decide +kernel
theorem dX7_init_83 : decode cX7_init 83 = .ok (.iadd, 1) := by decide +kernel
theorem dX7_init_84 : decode cX7_init 84 = .ok (.bipush 10, 2) := by decide +kernel
theorem dX7_init_86 : decode cX7_init 86 = .ok (.iastore, 1) := by decide +kernel
theorem dX7_init_87 : decode cX7_init 87 = .ok (.iinc 1 1, 3) := by decide +kernel
theorem dX7_init_90 : decode cX7_init 90 = .ok (.goto (-19), 3) := by decide +kernel
theorem dX7_init_93 : decode cX7_init 93 = .ok (.return_, 1) := by decide +kernel
theorem dX7_in_0 : decode cX7_in 0 = .ok (.iload_n 0, 1) := by decide +kernel
theorem dX7_in_1 : decode cX7_in 1 = .ok (.iload_n 1, 1) := by decide +kernel
theorem dX7_in_2 : decode cX7_in 2 = .ok (.if_icmp .lt 12, 3) := by decide +kernel
theorem dX7_in_5 : decode cX7_in 5 = .ok (.iload_n 0, 1) := by decide +kernel
theorem dX7_in_6 : decode cX7_in 6 = .ok (.iload_n 2, 1) := by decide +kernel
theorem dX7_in_7 : decode cX7_in 7 = .ok (.if_icmp .gt 7, 3) := by decide +kernel
theorem dX7_in_10 : decode cX7_in 10 = .ok (.iconst 1, 1) := by decide +kernel
theorem dX7_in_11 : decode cX7_in 11 = .ok (.goto 4, 3) := by decide +kernel
theorem dX7_in_14 : decode cX7_in 14 = .ok (.iconst 0, 1) := by decide +kernel
theorem dX7_in_15 : decode cX7_in 15 = .ok (.ireturn, 1) := by decide +kernel
theorem dX7_copies_0 : decode cX7_copies 0 = .ok (.iconst 0, 1) := by decide +kernel
theorem dX7_copies_1 : decode cX7_copies 1 = .ok (.istore_n 3, 1) := by decide +kernel
theorem dX7_copies_2 : decode cX7_copies 2 = .ok (.iload_n 3, 1) := by decide +kernel
theorem dX7_copies_3 : decode cX7_copies 3 = .ok (.sipush 131, 3) := by decide +kernel
theorem dX7_copies_6 : decode cX7_copies 6 = .ok (.if_icmp .ge 33, 3) := by decide +kernel
theorem dX7_copies_9 : decode cX7_copies 9 = .ok (.aload_n 0, 1) := by decide +kernel
theorem dX7_copies_10 : decode cX7_copies 10 = .ok (.getfield 7, 3) := by decide +kernel
theorem dX7_copies_13 : decode cX7_copies 13 = .ok (.sipush 131, 3) := by decide +kernel
theorem dX7_copies_16 : decode cX7_copies 16 = .ok (.iload_n 2, 1) := by decide +kernel
theorem dX7_copies_17 : decode cX7_copies 17 = .ok (.imul, 1) := by decide +kernel
theorem dX7_copies_18 : decode cX7_copies 18 = .ok (.iload_n 3, 1) := by decide +kernel
theorem dX7_copies_19 : decode cX7_copies 19 = .ok (.iadd, 1) := by decide +kernel
theorem dX7_copies_20 : decode cX7_copies 20 = .ok (.aload_n 0, 1) := by decide +kernel
theorem dX7_copies_21 : decode cX7_copies 21 = .ok (.getfield 7, 3) := by decide +kernel
theorem dX7_copies_24 : decode cX7_copies 24 = .ok (.sipush 131, 3) := by decide +kernel
theorem dX7_copies_27 : decode cX7_copies 27 = .ok (.iload_n 1, 1) := by decide +kernel
theorem dX7_copies_28 : decode cX7_copies 28 = .ok (.imul, 1) := by decide +kernel
theorem dX7_copies_29 : decode cX7_copies 29 = .ok (.iload_n 3, 1) := by decide +kernel
theorem dX7_copies_30 : decode cX7_copies 30 = .ok (.iadd, 1) := by decide +kernel
theorem dX7_copies_31 : decode cX7_copies 31 = .ok (.iaload, 1) := by decide +kernel
theorem dX7_copies_32 : decode cX7_copies 32 = .ok (.iastore, 1) := by decide +kernel
theorem dX7_copies_33 : decode cX7_copies 33 = .ok (.iinc 3 1, 3) := by decide +kernel
theorem dX7_copies_36 : decode cX7_copies 36 = .ok (.goto (-34), 3) := by decide +kernel
theorem dX7_copies_39 : decode cX7_copies 39 = .ok (.iconst 0, 1) := by decide +kernel
theorem dX7_copies_40 : decode cX7_copies 40 = .ok (.istore_n 3, 1) := by decide +kernel
theorem dX7_copies_41 : decode cX7_copies 41 = .ok (.iload_n 3, 1) := by decide +kernel
theorem dX7_copies_42 : decode cX7_copies 42 = .ok (.bipush 16, 2) := by decide +kernel
theorem dX7_copies_44 : decode cX7_copies 44 = .ok (.if_icmp .ge 31, 3) := by decide +kernel
theorem dX7_copies_47 : decode cX7_copies 47 = .ok (.aload_n 0, 1) := by decide +kernel
theorem dX7_copies_48 : decode cX7_copies 48 = .ok (.getfield 13, 3) := by decide +kernel
theorem dX7_copies_51 : decode cX7_copies 51 = .ok (.bipush 16, 2) := by decide +kernel
theorem dX7_copies_53 : decode cX7_copies 53 = .ok (.iload_n 2, 1) := by decide +kernel
theorem dX7_copies_54 : decode cX7_copies 54 = .ok (.imul, 1) := by decide +kernel
theorem dX7_copies_55 : decode cX7_copies 55 = .ok (.iload_n 3, 1) := by decide +kernel
theorem dX7_copies_56 : decode cX7_copies 56 = .ok (.iadd, 1) := by decide +kernel
theorem dX7_copies_57 : decode cX7_copies 57 = .ok (.aload_n 0, 1) := by decide +kernel
theorem dX7_copies_58 : decode cX7_copies 58 = .ok (.getfield 13, 3) := by decide +kernel
theorem dX7_copies_61 : decode cX7_copies 61 = .ok (.bipush 16, 2) := by decide +kernel
theorem dX7_copies_63 : decode cX7_copies 63 = .ok (.iload_n 1, 1) := by decide +kernel
theorem dX7_copies_64 : decode cX7_copies 64 = .ok (.imul, 1) := by decide +kernel
theorem dX7_copies_65 : decode cX7_copies 65 = .ok (.iload_n 3, 1) := by decide +kernel
theorem dX7_copies_66 : decode cX7_copies 66 = .ok (.iadd, 1) := by decide +kernel
theorem dX7_copies_67 : decode cX7_copies 67 = .ok (.laload, 1) := by decide +kernel
theorem dX7_copies_68 : decode cX7_copies 68 = .ok (.lastore, 1) := by decide +kernel
theorem dX7_copies_69 : decode cX7_copies 69 = .ok (.iinc 3 1, 3) := by decide +kernel
theorem dX7_copies_72 : decode cX7_copies 72 = .ok (.goto (-31), 3) := by decide +kernel
theorem dX7_copies_75 : decode cX7_copies 75 = .ok (.return_, 1) := by decide +kernel
theorem dX7_keeps_0 : decode cX7_keeps 0 = .ok (.iconst 1, 1) := by decide +kernel
theorem dX7_keeps_1 : decode cX7_keeps 1 = .ok (.istore_n 1, 1) := by decide +kernel
theorem dX7_keeps_2 : decode cX7_keeps 2 = .ok (.iload_n 1, 1) := by decide +kernel
theorem dX7_keeps_3 : decode cX7_keeps 3 = .ok (.iconst 5, 1) := by decide +kernel
theorem dX7_keeps_4 : decode cX7_keeps 4 = .ok (.if_icmp .ge 25, 3) := by decide +kernel
theorem dX7_keeps_7 : decode cX7_keeps 7 = .ok (.aload_n 0, 1) := by decide +kernel
theorem dX7_keeps_8 : decode cX7_keeps 8 = .ok (.getfield 27, 3) := by decide +kernel
theorem dX7_keeps_11 : decode cX7_keeps 11 = .ok (.iconst 5, 1) := by decide +kernel
theorem dX7_keeps_12 : decode cX7_keeps 12 = .ok (.if_icmp .ne 17, 3) := by decide +kernel
theorem dX7_keeps_15 : decode cX7_keeps 15 = .ok (.aload_n 0, 1) := by decide +kernel
theorem dX7_keeps_16 : decode cX7_keeps 16 = .ok (.iload_n 1, 1) := by decide +kernel
theorem dX7_keeps_17 : decode cX7_keeps 17 = .ok (.iconst 1, 1) := by decide +kernel
theorem dX7_keeps_18 : decode cX7_keeps 18 = .ok (.iadd, 1) := by decide +kernel
theorem dX7_keeps_19 : decode cX7_keeps 19 = .ok (.iload_n 1, 1) := by decide +kernel
theorem dX7_keeps_20 : decode cX7_keeps 20 = .ok (.invokevirtual 31, 3) := by decide +kernel
theorem dX7_keeps_23 : decode cX7_keeps 23 = .ok (.iinc 1 1, 3) := by decide +kernel
theorem dX7_keeps_26 : decode cX7_keeps 26 = .ok (.goto (-24), 3) := by decide +kernel
theorem dX7_keeps_29 : decode cX7_keeps 29 = .ok (.aload_n 0, 1) := by decide +kernel
theorem dX7_keeps_30 : decode cX7_keeps 30 = .ok (.dup, 1) := by decide +kernel
theorem dX7_keeps_31 : decode cX7_keeps 31 = .ok (.getfield 27, 3) := by decide +kernel
theorem dX7_keeps_34 : decode cX7_keeps 34 = .ok (.aload_n 0, 1) := by decide +kernel
theorem dX7_keeps_35 : decode cX7_keeps 35 = .ok (.getfield 27, 3) := by decide +kernel
theorem dX7_keeps_38 : decode cX7_keeps 38 = .ok (.iconst 5, 1) := by decide +kernel
theorem dX7_keeps_39 : decode cX7_keeps 39 = .ok (.if_icmp .ne 7, 3) := by decide +kernel
theorem dX7_keeps_42 : decode cX7_keeps 42 = .ok (.iconst 1, 1) := by decide +kernel
theorem dX7_keeps_43 : decode cX7_keeps 43 = .ok (.goto 4, 3) := by decide +kernel
theorem dX7_keeps_46 : decode cX7_keeps 46 = .ok (.iconst 0, 1) := by decide +kernel
theorem dX7_keeps_47 : decode cX7_keeps 47 = .ok (.isub, 1) := by decide +kernel
theorem dX7_keeps_48 : decode cX7_keeps 48 = .ok (.putfield 27, 3) := by decide +kernel
theorem dX7_keeps_51 : decode cX7_keeps 51 = .ok (.aload_n 0, 1) := by decide +kernel
theorem dX7_keeps_52 : decode cX7_keeps 52 = .ok (.dup, 1) := by decide +kernel
theorem dX7_keeps_53 : decode cX7_keeps 53 = .ok (.getfield 27, 3) := by decide +kernel
theorem dX7_keeps_56 : decode cX7_keeps 56 = .ok (.iconst 1, 1) := by decide +kernel
theorem dX7_keeps_57 : decode cX7_keeps 57 = .ok (.iadd, 1) := by decide +kernel
theorem dX7_keeps_58 : decode cX7_keeps 58 = .ok (.putfield 27, 3) := by decide +kernel
theorem dX7_keeps_61 : decode cX7_keeps 61 = .ok (.aload_n 0, 1) := by decide +kernel
theorem dX7_keeps_62 : decode cX7_keeps 62 = .ok (.iconst 0, 1) := by decide +kernel
theorem dX7_keeps_63 : decode cX7_keeps 63 = .ok (.aload_n 0, 1) := by decide +kernel
theorem dX7_keeps_64 : decode cX7_keeps 64 = .ok (.getfield 27, 3) := by decide +kernel
theorem dX7_keeps_67 : decode cX7_keeps 67 = .ok (.invokevirtual 31, 3) := by decide +kernel
theorem dX7_keeps_70 : decode cX7_keeps 70 = .ok (.return_, 1) := by decide +kernel
theorem dX7_of_0 : decode cX7_of 0 = .ok (.aload_n 0, 1) := by decide +kernel
theorem dX7_of_1 : decode cX7_of 1 = .ok (.getfield 7, 3) := by decide +kernel
theorem dX7_of_4 : decode cX7_of 4 = .ok (.bipush 19, 2) := by decide +kernel
theorem dX7_of_6 : decode cX7_of 6 = .ok (.bipush 7, 2) := by decide +kernel
theorem dX7_of_8 : decode cX7_of 8 = .ok (.iload_n 1, 1) := by decide +kernel
theorem dX7_of_9 : decode cX7_of 9 = .ok (.imul, 1) := by decide +kernel
theorem dX7_of_10 : decode cX7_of 10 = .ok (.iadd, 1) := by decide +kernel
theorem dX7_of_11 : decode cX7_of 11 = .ok (.iload_n 2, 1) := by decide +kernel
theorem dX7_of_12 : decode cX7_of 12 = .ok (.iadd, 1) := by decide +kernel
theorem dX7_of_13 : decode cX7_of 13 = .ok (.iaload, 1) := by decide +kernel
theorem dX7_of_14 : decode cX7_of 14 = .ok (.ireturn, 1) := by decide +kernel
theorem dX7_isHeader_0 : decode cX7_isHeader 0 = .ok (.iload_n 0, 1) := by decide +kernel
theorem dX7_isHeader_1 : decode cX7_isHeader 1 = .ok (.iconst 0, 1) := by decide +kernel
theorem dX7_isHeader_2 : decode cX7_isHeader 2 = .ok (.iconst 2, 1) := by decide +kernel
theorem dX7_isHeader_3 : decode cX7_isHeader 3 = .ok (.invokestatic 35, 3) := by decide +kernel
theorem dX7_isHeader_6 : decode cX7_isHeader 6 = .ok (.ireturn, 1) := by decide +kernel
theorem dX7_isLine_0 : decode cX7_isLine 0 = .ok (.iload_n 1, 1) := by decide +kernel
theorem dX7_isLine_1 : decode cX7_isLine 1 = .ok (.iconst 0, 1) := by decide +kernel
theorem dX7_isLine_2 : decode cX7_isLine 2 = .ok (.aload_n 0, 1) := by decide +kernel
theorem dX7_isLine_3 : decode cX7_isLine 3 = .ok (.getfield 7, 3) := by decide +kernel
theorem dX7_isLine_6 : decode cX7_isLine 6 = .ok (.iconst 0, 1) := by decide +kernel
theorem dX7_isLine_7 : decode cX7_isLine 7 = .ok (.iaload, 1) := by decide +kernel
theorem dX7_isLine_8 : decode cX7_isLine 8 = .ok (.iconst 1, 1) := by decide +kernel
theorem dX7_isLine_9 : decode cX7_isLine 9 = .ok (.isub, 1) := by decide +kernel
theorem dX7_isLine_10 : decode cX7_isLine 10 = .ok (.invokestatic 35, 3) := by decide +kernel
theorem dX7_isLine_13 : decode cX7_isLine 13 = .ok (.ireturn, 1) := by decide +kernel
theorem dX7_isTrap_0 : decode cX7_isTrap 0 = .ok (.iload_n 1, 1) := by decide +kernel
theorem dX7_isTrap_1 : decode cX7_isTrap 1 = .ok (.iconst 0, 1) := by decide +kernel
theorem dX7_isTrap_2 : decode cX7_isTrap 2 = .ok (.aload_n 0, 1) := by decide +kernel
theorem dX7_isTrap_3 : decode cX7_isTrap 3 = .ok (.getfield 7, 3) := by decide +kernel
theorem dX7_isTrap_6 : decode cX7_isTrap 6 = .ok (.iconst 1, 1) := by decide +kernel
theorem dX7_isTrap_7 : decode cX7_isTrap 7 = .ok (.iaload, 1) := by decide +kernel
theorem dX7_isTrap_8 : decode cX7_isTrap 8 = .ok (.iconst 1, 1) := by decide +kernel
theorem dX7_isTrap_9 : decode cX7_isTrap 9 = .ok (.isub, 1) := by decide +kernel
theorem dX7_isTrap_10 : decode cX7_isTrap 10 = .ok (.invokestatic 35, 3) := by decide +kernel
theorem dX7_isTrap_13 : decode cX7_isTrap 13 = .ok (.ireturn, 1) := by decide +kernel
theorem dX7_header_0 : decode cX7_header 0 = .ok (.aload_n 0, 1) := by decide +kernel
theorem dX7_header_1 : decode cX7_header 1 = .ok (.getfield 7, 3) := by decide +kernel
theorem dX7_header_4 : decode cX7_header 4 = .ok (.bipush 11, 2) := by decide +kernel
theorem dX7_header_6 : decode cX7_header 6 = .ok (.aload_n 0, 1) := by decide +kernel
theorem dX7_header_7 : decode cX7_header 7 = .ok (.iload_n 1, 1) := by decide +kernel
theorem dX7_header_8 : decode cX7_header 8 = .ok (.iconst 0, 1) := by decide +kernel
theorem dX7_header_9 : decode cX7_header 9 = .ok (.invokevirtual 39, 3) := by decide +kernel
theorem dX7_header_12 : decode cX7_header 12 = .ok (.iadd, 1) := by decide +kernel
theorem dX7_header_13 : decode cX7_header 13 = .ok (.iaload, 1) := by decide +kernel
theorem dX7_header_14 : decode cX7_header 14 = .ok (.ireturn, 1) := by decide +kernel
theorem dX7_setPressure_0 : decode cX7_setPressure 0 = .ok (.iload_n 1, 1) := by decide +kernel
theorem dX7_setPressure_1 : decode cX7_setPressure 1 = .ok (.invokestatic 43, 3) := by decide +kernel
theorem dX7_setPressure_4 : decode cX7_setPressure 4 = .ok (.ifCond .ne 6, 3) := by decide +kernel
theorem dX7_setPressure_7 : decode cX7_setPressure 7 = .ok (.bipush (-2), 2) := by decide +kernel
theorem dX7_setPressure_9 : decode cX7_setPressure 9 = .ok (.ireturn, 1) := by decide +kernel
theorem dX7_setPressure_10 : decode cX7_setPressure 10 = .ok (.iload_n 2, 1) := by decide +kernel
theorem dX7_setPressure_11 : decode cX7_setPressure 11 = .ok (.iconst 1, 1) := by decide +kernel
theorem dX7_setPressure_12 : decode cX7_setPressure 12 = .ok (.bipush 20, 2) := by decide +kernel
theorem dX7_setPressure_14 : decode cX7_setPressure 14 = .ok (.invokestatic 35, 3) := by decide +kernel
theorem dX7_setPressure_17 : decode cX7_setPressure 17 = .ok (.ifCond .ne 6, 3) := by decide +kernel
theorem dX7_setPressure_20 : decode cX7_setPressure 20 = .ok (.bipush (-3), 2) := by decide +kernel
theorem dX7_setPressure_22 : decode cX7_setPressure 22 = .ok (.ireturn, 1) := by decide +kernel
theorem dX7_setPressure_23 : decode cX7_setPressure 23 = .ok (.aload_n 0, 1) := by decide +kernel
theorem dX7_setPressure_24 : decode cX7_setPressure 24 = .ok (.invokevirtual 47, 3) := by decide +kernel
theorem dX7_setPressure_27 : decode cX7_setPressure 27 = .ok (.aload_n 0, 1) := by decide +kernel
theorem dX7_setPressure_28 : decode cX7_setPressure 28 = .ok (.getfield 7, 3) := by decide +kernel
theorem dX7_setPressure_31 : decode cX7_setPressure 31 = .ok (.bipush 8, 2) := by decide +kernel
theorem dX7_setPressure_33 : decode cX7_setPressure 33 = .ok (.iload_n 1, 1) := by decide +kernel
theorem dX7_setPressure_34 : decode cX7_setPressure 34 = .ok (.iadd, 1) := by decide +kernel
theorem dX7_setPressure_35 : decode cX7_setPressure 35 = .ok (.iaload, 1) := by decide +kernel
theorem dX7_setPressure_36 : decode cX7_setPressure 36 = .ok (.istore_n 3, 1) := by decide +kernel
theorem dX7_setPressure_37 : decode cX7_setPressure 37 = .ok (.aload_n 0, 1) := by decide +kernel
theorem dX7_setPressure_38 : decode cX7_setPressure 38 = .ok (.getfield 7, 3) := by decide +kernel
theorem dX7_setPressure_41 : decode cX7_setPressure 41 = .ok (.bipush 8, 2) := by decide +kernel
theorem dX7_setPressure_43 : decode cX7_setPressure 43 = .ok (.iload_n 1, 1) := by decide +kernel
theorem dX7_setPressure_44 : decode cX7_setPressure 44 = .ok (.iadd, 1) := by decide +kernel
theorem dX7_setPressure_45 : decode cX7_setPressure 45 = .ok (.iload_n 2, 1) := by decide +kernel
theorem dX7_setPressure_46 : decode cX7_setPressure 46 = .ok (.iastore, 1) := by decide +kernel
theorem dX7_setPressure_47 : decode cX7_setPressure 47 = .ok (.iload_n 3, 1) := by decide +kernel
theorem dX7_setPressure_48 : decode cX7_setPressure 48 = .ok (.ireturn, 1) := by decide +kernel
theorem dX7_addLine_0 : decode cX7_addLine 0 = .ok (.iload_n 1, 1) := by decide +kernel
theorem dX7_addLine_1 : decode cX7_addLine 1 = .ok (.invokestatic 43, 3) := by decide +kernel
theorem dX7_addLine_4 : decode cX7_addLine 4 = .ok (.ifCond .ne 6, 3) := by decide +kernel
theorem dX7_addLine_7 : decode cX7_addLine 7 = .ok (.bipush (-2), 2) := by decide +kernel
theorem dX7_addLine_9 : decode cX7_addLine 9 = .ok (.ireturn, 1) := by decide +kernel
theorem dX7_addLine_10 : decode cX7_addLine 10 = .ok (.aload_n 0, 1) := by decide +kernel
theorem dX7_addLine_11 : decode cX7_addLine 11 = .ok (.getfield 7, 3) := by decide +kernel
theorem dX7_addLine_14 : decode cX7_addLine 14 = .ok (.iconst 0, 1) := by decide +kernel
theorem dX7_addLine_15 : decode cX7_addLine 15 = .ok (.iaload, 1) := by decide +kernel
theorem dX7_addLine_16 : decode cX7_addLine 16 = .ok (.bipush 8, 2) := by decide +kernel
theorem dX7_addLine_18 : decode cX7_addLine 18 = .ok (.if_icmp .ne 6, 3) := by decide +kernel
theorem dX7_addLine_21 : decode cX7_addLine 21 = .ok (.bipush (-5), 2) := by decide +kernel
theorem dX7_addLine_23 : decode cX7_addLine 23 = .ok (.ireturn, 1) := by decide +kernel
theorem dX7_addLine_24 : decode cX7_addLine 24 = .ok (.aload_n 0, 1) := by decide +kernel
theorem dX7_addLine_25 : decode cX7_addLine 25 = .ok (.invokevirtual 47, 3) := by decide +kernel
theorem dX7_addLine_28 : decode cX7_addLine 28 = .ok (.aload_n 0, 1) := by decide +kernel
theorem dX7_addLine_29 : decode cX7_addLine 29 = .ok (.getfield 7, 3) := by decide +kernel
theorem dX7_addLine_32 : decode cX7_addLine 32 = .ok (.bipush 11, 2) := by decide +kernel
theorem dX7_addLine_34 : decode cX7_addLine 34 = .ok (.aload_n 0, 1) := by decide +kernel
theorem dX7_addLine_35 : decode cX7_addLine 35 = .ok (.getfield 7, 3) := by decide +kernel
theorem dX7_addLine_38 : decode cX7_addLine 38 = .ok (.iconst 0, 1) := by decide +kernel
theorem dX7_addLine_39 : decode cX7_addLine 39 = .ok (.iaload, 1) := by decide +kernel
theorem dX7_addLine_40 : decode cX7_addLine 40 = .ok (.iadd, 1) := by decide +kernel
theorem dX7_addLine_41 : decode cX7_addLine 41 = .ok (.iload_n 1, 1) := by decide +kernel
theorem dX7_addLine_42 : decode cX7_addLine 42 = .ok (.iastore, 1) := by decide +kernel
theorem dX7_addLine_43 : decode cX7_addLine 43 = .ok (.aload_n 0, 1) := by decide +kernel
theorem dX7_addLine_44 : decode cX7_addLine 44 = .ok (.getfield 7, 3) := by decide +kernel
theorem dX7_addLine_47 : decode cX7_addLine 47 = .ok (.iconst 0, 1) := by decide +kernel
theorem dX7_addLine_48 : decode cX7_addLine 48 = .ok (.dup2, 1) := by decide +kernel
theorem dX7_addLine_49 : decode cX7_addLine 49 = .ok (.iaload, 1) := by decide +kernel
theorem dX7_addLine_50 : decode cX7_addLine 50 = .ok (.iconst 1, 1) := by decide +kernel
theorem dX7_addLine_51 : decode cX7_addLine 51 = .ok (.iadd, 1) := by decide +kernel
theorem dX7_addLine_52 : decode cX7_addLine 52 = .ok (.iastore, 1) := by decide +kernel
theorem dX7_addLine_53 : decode cX7_addLine 53 = .ok (.aload_n 0, 1) := by decide +kernel
theorem dX7_addLine_54 : decode cX7_addLine 54 = .ok (.getfield 7, 3) := by decide +kernel
theorem dX7_addLine_57 : decode cX7_addLine 57 = .ok (.iconst 0, 1) := by decide +kernel
theorem dX7_addLine_58 : decode cX7_addLine 58 = .ok (.iaload, 1) := by decide +kernel
theorem dX7_addLine_59 : decode cX7_addLine 59 = .ok (.iconst 1, 1) := by decide +kernel
theorem dX7_addLine_60 : decode cX7_addLine 60 = .ok (.isub, 1) := by decide +kernel
theorem dX7_addLine_61 : decode cX7_addLine 61 = .ok (.ireturn, 1) := by decide +kernel
theorem dX7_addTrap_0 : decode cX7_addTrap 0 = .ok (.aload_n 0, 1) := by decide +kernel
theorem dX7_addTrap_1 : decode cX7_addTrap 1 = .ok (.iload_n 1, 1) := by decide +kernel
theorem dX7_addTrap_2 : decode cX7_addTrap 2 = .ok (.invokevirtual 50, 3) := by decide +kernel
theorem dX7_addTrap_5 : decode cX7_addTrap 5 = .ok (.ifCond .ne 6, 3) := by decide +kernel
theorem dX7_addTrap_8 : decode cX7_addTrap 8 = .ok (.bipush (-2), 2) := by decide +kernel
theorem dX7_addTrap_10 : decode cX7_addTrap 10 = .ok (.ireturn, 1) := by decide +kernel
theorem dX7_addTrap_11 : decode cX7_addTrap 11 = .ok (.iload_n 2, 1) := by decide +kernel
theorem dX7_addTrap_12 : decode cX7_addTrap 12 = .ok (.iconst 0, 1) := by decide +kernel
theorem dX7_addTrap_13 : decode cX7_addTrap 13 = .ok (.iconst 2, 1) := by decide +kernel
theorem dX7_addTrap_14 : decode cX7_addTrap 14 = .ok (.invokestatic 35, 3) := by decide +kernel
theorem dX7_addTrap_17 : decode cX7_addTrap 17 = .ok (.ifCond .eq 35, 3) := by decide +kernel
theorem dX7_addTrap_20 : decode cX7_addTrap 20 = .ok (.iload_n 3, 1) := by decide +kernel
theorem dX7_addTrap_21 : decode cX7_addTrap 21 = .ok (.iconst 1, 1) := by decide +kernel
theorem dX7_addTrap_22 : decode cX7_addTrap 22 = .ok (.bipush 9, 2) := by decide +kernel
theorem dX7_addTrap_24 : decode cX7_addTrap 24 = .ok (.invokestatic 35, 3) := by decide +kernel
theorem dX7_addTrap_27 : decode cX7_addTrap 27 = .ok (.ifCond .eq 25, 3) := by decide +kernel
theorem dX7_addTrap_30 : decode cX7_addTrap 30 = .ok (.iload 4, 2) := by decide +kernel
theorem dX7_addTrap_32 : decode cX7_addTrap 32 = .ok (.iconst 0, 1) := by decide +kernel
theorem dX7_addTrap_33 : decode cX7_addTrap 33 = .ok (.bipush 50, 2) := by decide +kernel
theorem dX7_addTrap_35 : decode cX7_addTrap 35 = .ok (.invokestatic 35, 3) := by decide +kernel
theorem dX7_addTrap_38 : decode cX7_addTrap 38 = .ok (.ifCond .eq 14, 3) := by decide +kernel
theorem dX7_addTrap_41 : decode cX7_addTrap 41 = .ok (.iload 5, 2) := by decide +kernel
theorem dX7_addTrap_43 : decode cX7_addTrap 43 = .ok (.iconst 0, 1) := by decide +kernel
theorem dX7_addTrap_44 : decode cX7_addTrap 44 = .ok (.bipush 50, 2) := by decide +kernel
theorem dX7_addTrap_46 : decode cX7_addTrap 46 = .ok (.invokestatic 35, 3) := by decide +kernel
theorem dX7_addTrap_49 : decode cX7_addTrap 49 = .ok (.ifCond .ne 6, 3) := by decide +kernel
theorem dX7_addTrap_52 : decode cX7_addTrap 52 = .ok (.bipush (-3), 2) := by decide +kernel
theorem dX7_addTrap_54 : decode cX7_addTrap 54 = .ok (.ireturn, 1) := by decide +kernel
theorem dX7_addTrap_55 : decode cX7_addTrap 55 = .ok (.aload_n 0, 1) := by decide +kernel
theorem dX7_addTrap_56 : decode cX7_addTrap 56 = .ok (.getfield 7, 3) := by decide +kernel
theorem dX7_addTrap_59 : decode cX7_addTrap 59 = .ok (.iconst 1, 1) := by decide +kernel
theorem dX7_addTrap_60 : decode cX7_addTrap 60 = .ok (.iaload, 1) := by decide +kernel
theorem dX7_addTrap_61 : decode cX7_addTrap 61 = .ok (.bipush 16, 2) := by decide +kernel
theorem dX7_addTrap_63 : decode cX7_addTrap 63 = .ok (.if_icmp .ne 6, 3) := by decide +kernel
theorem dX7_addTrap_66 : decode cX7_addTrap 66 = .ok (.bipush (-5), 2) := by decide +kernel
theorem dX7_addTrap_68 : decode cX7_addTrap 68 = .ok (.ireturn, 1) := by decide +kernel
theorem dX7_addTrap_69 : decode cX7_addTrap 69 = .ok (.aload_n 0, 1) := by decide +kernel
theorem dX7_addTrap_70 : decode cX7_addTrap 70 = .ok (.invokevirtual 47, 3) := by decide +kernel
theorem dX7_addTrap_73 : decode cX7_addTrap 73 = .ok (.bipush 19, 2) := by decide +kernel
theorem dX7_addTrap_75 : decode cX7_addTrap 75 = .ok (.bipush 7, 2) := by decide +kernel
theorem dX7_addTrap_77 : decode cX7_addTrap 77 = .ok (.aload_n 0, 1) := by decide +kernel
theorem dX7_addTrap_78 : decode cX7_addTrap 78 = .ok (.getfield 7, 3) := by decide +kernel
theorem dX7_addTrap_81 : decode cX7_addTrap 81 = .ok (.iconst 1, 1) := by decide +kernel
theorem dX7_addTrap_82 : decode cX7_addTrap 82 = .ok (.iaload, 1) := by decide +kernel
theorem dX7_addTrap_83 : decode cX7_addTrap 83 = .ok (.imul, 1) := by decide +kernel
theorem dX7_addTrap_84 : decode cX7_addTrap 84 = .ok (.iadd, 1) := by decide +kernel
theorem dX7_addTrap_85 : decode cX7_addTrap 85 = .ok (.istore 6, 2) := by decide +kernel
theorem dX7_addTrap_87 : decode cX7_addTrap 87 = .ok (.aload_n 0, 1) := by decide +kernel
theorem dX7_addTrap_88 : decode cX7_addTrap 88 = .ok (.getfield 7, 3) := by decide +kernel
theorem dX7_addTrap_91 : decode cX7_addTrap 91 = .ok (.iload 6, 2) := by decide +kernel
theorem dX7_addTrap_93 : decode cX7_addTrap 93 = .ok (.iload_n 1, 1) := by decide +kernel
theorem dX7_addTrap_94 : decode cX7_addTrap 94 = .ok (.iastore, 1) := by decide +kernel
theorem dX7_addTrap_95 : decode cX7_addTrap 95 = .ok (.aload_n 0, 1) := by decide +kernel
theorem dX7_addTrap_96 : decode cX7_addTrap 96 = .ok (.getfield 7, 3) := by decide +kernel
theorem dX7_addTrap_99 : decode cX7_addTrap 99 = .ok (.iload 6, 2) := by decide +kernel
theorem dX7_addTrap_101 : decode cX7_addTrap 101 = .ok (.iconst 1, 1) := by decide +kernel
theorem dX7_addTrap_102 : decode cX7_addTrap 102 = .ok (.iadd, 1) := by decide +kernel
theorem dX7_addTrap_103 : decode cX7_addTrap 103 = .ok (.iload_n 2, 1) := by decide +kernel
theorem dX7_addTrap_104 : decode cX7_addTrap 104 = .ok (.iastore, 1) := by decide +kernel
theorem dX7_addTrap_105 : decode cX7_addTrap 105 = .ok (.aload_n 0, 1) := by decide +kernel
theorem dX7_addTrap_106 : decode cX7_addTrap 106 = .ok (.getfield 7, 3) := by decide +kernel
theorem dX7_addTrap_109 : decode cX7_addTrap 109 = .ok (.iload 6, 2) := by decide +kernel
theorem dX7_addTrap_111 : decode cX7_addTrap 111 = .ok (.iconst 2, 1) := by decide +kernel
theorem dX7_addTrap_112 : decode cX7_addTrap 112 = .ok (.iadd, 1) := by decide +kernel
theorem dX7_addTrap_113 : decode cX7_addTrap 113 = .ok (.iload_n 3, 1) := by decide +kernel
theorem dX7_addTrap_114 : decode cX7_addTrap 114 = .ok (.iastore, 1) := by decide +kernel
theorem dX7_addTrap_115 : decode cX7_addTrap 115 = .ok (.aload_n 0, 1) := by decide +kernel
theorem dX7_addTrap_116 : decode cX7_addTrap 116 = .ok (.getfield 7, 3) := by decide +kernel
theorem dX7_addTrap_119 : decode cX7_addTrap 119 = .ok (.iload 6, 2) := by decide +kernel
theorem dX7_addTrap_121 : decode cX7_addTrap 121 = .ok (.iconst 3, 1) := by decide +kernel
theorem dX7_addTrap_122 : decode cX7_addTrap 122 = .ok (.iadd, 1) := by decide +kernel
theorem dX7_addTrap_123 : decode cX7_addTrap 123 = .ok (.iload 4, 2) := by decide +kernel
theorem dX7_addTrap_125 : decode cX7_addTrap 125 = .ok (.iastore, 1) := by decide +kernel
theorem dX7_addTrap_126 : decode cX7_addTrap 126 = .ok (.aload_n 0, 1) := by decide +kernel
theorem dX7_addTrap_127 : decode cX7_addTrap 127 = .ok (.getfield 7, 3) := by decide +kernel
theorem dX7_addTrap_130 : decode cX7_addTrap 130 = .ok (.iload 6, 2) := by decide +kernel
theorem dX7_addTrap_132 : decode cX7_addTrap 132 = .ok (.iconst 4, 1) := by decide +kernel
theorem dX7_addTrap_133 : decode cX7_addTrap 133 = .ok (.iadd, 1) := by decide +kernel
theorem dX7_addTrap_134 : decode cX7_addTrap 134 = .ok (.iload 5, 2) := by decide +kernel
theorem dX7_addTrap_136 : decode cX7_addTrap 136 = .ok (.iastore, 1) := by decide +kernel
theorem dX7_addTrap_137 : decode cX7_addTrap 137 = .ok (.aload_n 0, 1) := by decide +kernel
theorem dX7_addTrap_138 : decode cX7_addTrap 138 = .ok (.getfield 7, 3) := by decide +kernel
theorem dX7_addTrap_141 : decode cX7_addTrap 141 = .ok (.iload 6, 2) := by decide +kernel
theorem dX7_addTrap_143 : decode cX7_addTrap 143 = .ok (.iconst 5, 1) := by decide +kernel
theorem dX7_addTrap_144 : decode cX7_addTrap 144 = .ok (.iadd, 1) := by decide +kernel
theorem dX7_addTrap_145 : decode cX7_addTrap 145 = .ok (.iconst 0, 1) := by decide +kernel
theorem dX7_addTrap_146 : decode cX7_addTrap 146 = .ok (.iastore, 1) := by decide +kernel
theorem dX7_addTrap_147 : decode cX7_addTrap 147 = .ok (.aload_n 0, 1) := by decide +kernel
theorem dX7_addTrap_148 : decode cX7_addTrap 148 = .ok (.getfield 7, 3) := by decide +kernel
theorem dX7_addTrap_151 : decode cX7_addTrap 151 = .ok (.iload 6, 2) := by decide +kernel
theorem dX7_addTrap_153 : decode cX7_addTrap 153 = .ok (.bipush 6, 2) := by decide +kernel
theorem dX7_addTrap_155 : decode cX7_addTrap 155 = .ok (.iadd, 1) := by decide +kernel
theorem dX7_addTrap_156 : decode cX7_addTrap 156 = .ok (.iconst (-1), 1) := by decide +kernel
theorem dX7_addTrap_157 : decode cX7_addTrap 157 = .ok (.iastore, 1) := by decide +kernel
theorem dX7_addTrap_158 : decode cX7_addTrap 158 = .ok (.aload_n 0, 1) := by decide +kernel
theorem dX7_addTrap_159 : decode cX7_addTrap 159 = .ok (.getfield 13, 3) := by decide +kernel
theorem dX7_addTrap_162 : decode cX7_addTrap 162 = .ok (.aload_n 0, 1) := by decide +kernel
theorem dX7_addTrap_163 : decode cX7_addTrap 163 = .ok (.getfield 7, 3) := by decide +kernel
theorem dX7_addTrap_166 : decode cX7_addTrap 166 = .ok (.iconst 1, 1) := by decide +kernel
theorem dX7_addTrap_167 : decode cX7_addTrap 167 = .ok (.iaload, 1) := by decide +kernel
theorem dX7_addTrap_168 : decode cX7_addTrap 168 = .ok (.lconst 0, 1) := by decide +kernel
theorem dX7_addTrap_169 : decode cX7_addTrap 169 = .ok (.lastore, 1) := by decide +kernel
theorem dX7_addTrap_170 : decode cX7_addTrap 170 = .ok (.aload_n 0, 1) := by decide +kernel
theorem dX7_addTrap_171 : decode cX7_addTrap 171 = .ok (.getfield 7, 3) := by decide +kernel
theorem dX7_addTrap_174 : decode cX7_addTrap 174 = .ok (.iconst 1, 1) := by decide +kernel
theorem dX7_addTrap_175 : decode cX7_addTrap 175 = .ok (.dup2, 1) := by decide +kernel
theorem dX7_addTrap_176 : decode cX7_addTrap 176 = .ok (.iaload, 1) := by decide +kernel
theorem dX7_addTrap_177 : decode cX7_addTrap 177 = .ok (.iconst 1, 1) := by decide +kernel
theorem dX7_addTrap_178 : decode cX7_addTrap 178 = .ok (.iadd, 1) := by decide +kernel
theorem dX7_addTrap_179 : decode cX7_addTrap 179 = .ok (.iastore, 1) := by decide +kernel
theorem dX7_addTrap_180 : decode cX7_addTrap 180 = .ok (.aload_n 0, 1) := by decide +kernel
theorem dX7_addTrap_181 : decode cX7_addTrap 181 = .ok (.getfield 7, 3) := by decide +kernel
theorem dX7_addTrap_184 : decode cX7_addTrap 184 = .ok (.iconst 1, 1) := by decide +kernel
theorem dX7_addTrap_185 : decode cX7_addTrap 185 = .ok (.iaload, 1) := by decide +kernel
theorem dX7_addTrap_186 : decode cX7_addTrap 186 = .ok (.iconst 1, 1) := by decide +kernel
theorem dX7_addTrap_187 : decode cX7_addTrap 187 = .ok (.isub, 1) := by decide +kernel
theorem dX7_addTrap_188 : decode cX7_addTrap 188 = .ok (.ireturn, 1) := by decide +kernel
theorem dX7_moveLine_0 : decode cX7_moveLine 0 = .ok (.aload_n 0, 1) := by decide +kernel
theorem dX7_moveLine_1 : decode cX7_moveLine 1 = .ok (.iload_n 1, 1) := by decide +kernel
theorem dX7_moveLine_2 : decode cX7_moveLine 2 = .ok (.invokevirtual 50, 3) := by decide +kernel
theorem dX7_moveLine_5 : decode cX7_moveLine 5 = .ok (.ifCond .eq 10, 3) := by decide +kernel
theorem dX7_moveLine_8 : decode cX7_moveLine 8 = .ok (.iload_n 2, 1) := by decide +kernel
theorem dX7_moveLine_9 : decode cX7_moveLine 9 = .ok (.invokestatic 43, 3) := by decide +kernel
theorem dX7_moveLine_12 : decode cX7_moveLine 12 = .ok (.ifCond .ne 6, 3) := by decide +kernel
theorem dX7_moveLine_15 : decode cX7_moveLine 15 = .ok (.bipush (-2), 2) := by decide +kernel
theorem dX7_moveLine_17 : decode cX7_moveLine 17 = .ok (.ireturn, 1) := by decide +kernel
theorem dX7_moveLine_18 : decode cX7_moveLine 18 = .ok (.aload_n 0, 1) := by decide +kernel
theorem dX7_moveLine_19 : decode cX7_moveLine 19 = .ok (.invokevirtual 47, 3) := by decide +kernel
theorem dX7_moveLine_22 : decode cX7_moveLine 22 = .ok (.aload_n 0, 1) := by decide +kernel
theorem dX7_moveLine_23 : decode cX7_moveLine 23 = .ok (.getfield 7, 3) := by decide +kernel
theorem dX7_moveLine_26 : decode cX7_moveLine 26 = .ok (.bipush 11, 2) := by decide +kernel
theorem dX7_moveLine_28 : decode cX7_moveLine 28 = .ok (.iload_n 1, 1) := by decide +kernel
theorem dX7_moveLine_29 : decode cX7_moveLine 29 = .ok (.iadd, 1) := by decide +kernel
theorem dX7_moveLine_30 : decode cX7_moveLine 30 = .ok (.iaload, 1) := by decide +kernel
theorem dX7_moveLine_31 : decode cX7_moveLine 31 = .ok (.istore_n 3, 1) := by decide +kernel
theorem dX7_moveLine_32 : decode cX7_moveLine 32 = .ok (.aload_n 0, 1) := by decide +kernel
theorem dX7_moveLine_33 : decode cX7_moveLine 33 = .ok (.getfield 7, 3) := by decide +kernel
theorem dX7_moveLine_36 : decode cX7_moveLine 36 = .ok (.bipush 11, 2) := by decide +kernel
theorem dX7_moveLine_38 : decode cX7_moveLine 38 = .ok (.iload_n 1, 1) := by decide +kernel
theorem dX7_moveLine_39 : decode cX7_moveLine 39 = .ok (.iadd, 1) := by decide +kernel
theorem dX7_moveLine_40 : decode cX7_moveLine 40 = .ok (.iload_n 2, 1) := by decide +kernel
theorem dX7_moveLine_41 : decode cX7_moveLine 41 = .ok (.iastore, 1) := by decide +kernel
theorem dX7_moveLine_42 : decode cX7_moveLine 42 = .ok (.iload_n 3, 1) := by decide +kernel
theorem dX7_moveLine_43 : decode cX7_moveLine 43 = .ok (.ireturn, 1) := by decide +kernel
theorem dX7_setWork_0 : decode cX7_setWork 0 = .ok (.iload_n 1, 1) := by decide +kernel
theorem dX7_setWork_1 : decode cX7_setWork 1 = .ok (.iconst 1, 1) := by decide +kernel
theorem dX7_setWork_2 : decode cX7_setWork 2 = .ok (.bipush 24, 2) := by decide +kernel
theorem dX7_setWork_4 : decode cX7_setWork 4 = .ok (.invokestatic 35, 3) := by decide +kernel
theorem dX7_setWork_7 : decode cX7_setWork 7 = .ok (.ifCond .eq 25, 3) := by decide +kernel
theorem dX7_setWork_10 : decode cX7_setWork 10 = .ok (.iload_n 2, 1) := by decide +kernel
theorem dX7_setWork_11 : decode cX7_setWork 11 = .ok (.iconst 1, 1) := by decide +kernel
theorem dX7_setWork_12 : decode cX7_setWork 12 = .ok (.sipush 1000, 3) := by decide +kernel
theorem dX7_setWork_15 : decode cX7_setWork 15 = .ok (.invokestatic 35, 3) := by decide +kernel
theorem dX7_setWork_18 : decode cX7_setWork 18 = .ok (.ifCond .eq 14, 3) := by decide +kernel
theorem dX7_setWork_21 : decode cX7_setWork 21 = .ok (.iload_n 3, 1) := by decide +kernel
theorem dX7_setWork_22 : decode cX7_setWork 22 = .ok (.iconst 1, 1) := by decide +kernel
theorem dX7_setWork_23 : decode cX7_setWork 23 = .ok (.sipush 400, 3) := by decide +kernel
theorem dX7_setWork_26 : decode cX7_setWork 26 = .ok (.invokestatic 35, 3) := by decide +kernel
theorem dX7_setWork_29 : decode cX7_setWork 29 = .ok (.ifCond .ne 6, 3) := by decide +kernel
theorem dX7_setWork_32 : decode cX7_setWork 32 = .ok (.bipush (-3), 2) := by decide +kernel
theorem dX7_setWork_34 : decode cX7_setWork 34 = .ok (.ireturn, 1) := by decide +kernel
theorem dX7_setWork_35 : decode cX7_setWork 35 = .ok (.aload_n 0, 1) := by decide +kernel
theorem dX7_setWork_36 : decode cX7_setWork 36 = .ok (.invokevirtual 47, 3) := by decide +kernel
theorem dX7_setWork_39 : decode cX7_setWork 39 = .ok (.aload_n 0, 1) := by decide +kernel
theorem dX7_setWork_40 : decode cX7_setWork 40 = .ok (.getfield 7, 3) := by decide +kernel
theorem dX7_setWork_43 : decode cX7_setWork 43 = .ok (.iconst 2, 1) := by decide +kernel
theorem dX7_setWork_44 : decode cX7_setWork 44 = .ok (.iaload, 1) := by decide +kernel
theorem dX7_setWork_45 : decode cX7_setWork 45 = .ok (.istore 4, 2) := by decide +kernel
theorem dX7_setWork_47 : decode cX7_setWork 47 = .ok (.aload_n 0, 1) := by decide +kernel
theorem dX7_setWork_48 : decode cX7_setWork 48 = .ok (.getfield 7, 3) := by decide +kernel
theorem dX7_setWork_51 : decode cX7_setWork 51 = .ok (.iconst 2, 1) := by decide +kernel
theorem dX7_setWork_52 : decode cX7_setWork 52 = .ok (.iload_n 1, 1) := by decide +kernel
theorem dX7_setWork_53 : decode cX7_setWork 53 = .ok (.iastore, 1) := by decide +kernel
theorem dX7_setWork_54 : decode cX7_setWork 54 = .ok (.aload_n 0, 1) := by decide +kernel
theorem dX7_setWork_55 : decode cX7_setWork 55 = .ok (.getfield 7, 3) := by decide +kernel
theorem dX7_setWork_58 : decode cX7_setWork 58 = .ok (.iconst 3, 1) := by decide +kernel
theorem dX7_setWork_59 : decode cX7_setWork 59 = .ok (.iload_n 2, 1) := by decide +kernel
theorem dX7_setWork_60 : decode cX7_setWork 60 = .ok (.iastore, 1) := by decide +kernel
theorem dX7_setWork_61 : decode cX7_setWork 61 = .ok (.aload_n 0, 1) := by decide +kernel
theorem dX7_setWork_62 : decode cX7_setWork 62 = .ok (.getfield 7, 3) := by decide +kernel
theorem dX7_setWork_65 : decode cX7_setWork 65 = .ok (.iconst 4, 1) := by decide +kernel
theorem dX7_setWork_66 : decode cX7_setWork 66 = .ok (.iload_n 3, 1) := by decide +kernel
theorem dX7_setWork_67 : decode cX7_setWork 67 = .ok (.iastore, 1) := by decide +kernel
theorem dX7_setWork_68 : decode cX7_setWork 68 = .ok (.iload 4, 2) := by decide +kernel
theorem dX7_setWork_70 : decode cX7_setWork 70 = .ok (.ireturn, 1) := by decide +kernel
theorem dX7_count_0 : decode cX7_count 0 = .ok (.iload_n 1, 1) := by decide +kernel
theorem dX7_count_1 : decode cX7_count 1 = .ok (.iconst 0, 1) := by decide +kernel
theorem dX7_count_2 : decode cX7_count 2 = .ok (.bipush 7, 2) := by decide +kernel
theorem dX7_count_4 : decode cX7_count 4 = .ok (.invokestatic 35, 3) := by decide +kernel
theorem dX7_count_7 : decode cX7_count 7 = .ok (.ifCond .eq 12, 3) := by decide +kernel
theorem dX7_count_10 : decode cX7_count 10 = .ok (.aload_n 0, 1) := by decide +kernel
theorem dX7_count_11 : decode cX7_count 11 = .ok (.getfield 7, 3) := by decide +kernel
theorem dX7_count_14 : decode cX7_count 14 = .ok (.iload_n 1, 1) := by decide +kernel
theorem dX7_count_15 : decode cX7_count 15 = .ok (.iaload, 1) := by decide +kernel
theorem dX7_count_16 : decode cX7_count 16 = .ok (.goto 5, 3) := by decide +kernel
theorem dX7_count_19 : decode cX7_count 19 = .ok (.bipush (-3), 2) := by decide +kernel
theorem dX7_count_21 : decode cX7_count 21 = .ok (.ireturn, 1) := by decide +kernel
theorem dX7_trap_0 : decode cX7_trap 0 = .ok (.aload_n 0, 1) := by decide +kernel
theorem dX7_trap_1 : decode cX7_trap 1 = .ok (.iload_n 1, 1) := by decide +kernel
theorem dX7_trap_2 : decode cX7_trap 2 = .ok (.invokevirtual 53, 3) := by decide +kernel
theorem dX7_trap_5 : decode cX7_trap 5 = .ok (.ifCond .ne 6, 3) := by decide +kernel
theorem dX7_trap_8 : decode cX7_trap 8 = .ok (.bipush (-2), 2) := by decide +kernel
theorem dX7_trap_10 : decode cX7_trap 10 = .ok (.ireturn, 1) := by decide +kernel
theorem dX7_trap_11 : decode cX7_trap 11 = .ok (.iload_n 2, 1) := by decide +kernel
theorem dX7_trap_12 : decode cX7_trap 12 = .ok (.iconst 0, 1) := by decide +kernel
theorem dX7_trap_13 : decode cX7_trap 13 = .ok (.bipush 7, 2) := by decide +kernel
theorem dX7_trap_15 : decode cX7_trap 15 = .ok (.invokestatic 35, 3) := by decide +kernel
theorem dX7_trap_18 : decode cX7_trap 18 = .ok (.ifCond .ne 8, 3) := by decide +kernel
theorem dX7_trap_21 : decode cX7_trap 21 = .ok (.bipush (-3), 2) := by decide +kernel
theorem dX7_trap_23 : decode cX7_trap 23 = .ok (.goto 23, 3) := by decide +kernel
theorem dX7_trap_26 : decode cX7_trap 26 = .ok (.iload_n 2, 1) := by decide +kernel
theorem dX7_trap_27 : decode cX7_trap 27 = .ok (.bipush 7, 2) := by decide +kernel
theorem dX7_trap_29 : decode cX7_trap 29 = .ok (.if_icmp .ne 11, 3) := by decide +kernel
theorem dX7_trap_32 : decode cX7_trap 32 = .ok (.aload_n 0, 1) := by decide +kernel
theorem dX7_trap_33 : decode cX7_trap 33 = .ok (.iload_n 1, 1) := by decide +kernel
theorem dX7_trap_34 : decode cX7_trap 34 = .ok (.invokevirtual 56, 3) := by decide +kernel
theorem dX7_trap_37 : decode cX7_trap 37 = .ok (.goto 9, 3) := by decide +kernel
theorem dX7_trap_40 : decode cX7_trap 40 = .ok (.aload_n 0, 1) := by decide +kernel
theorem dX7_trap_41 : decode cX7_trap 41 = .ok (.iload_n 1, 1) := by decide +kernel
theorem dX7_trap_42 : decode cX7_trap 42 = .ok (.iload_n 2, 1) := by decide +kernel
theorem dX7_trap_43 : decode cX7_trap 43 = .ok (.invokevirtual 39, 3) := by decide +kernel
theorem dX7_trap_46 : decode cX7_trap 46 = .ok (.ireturn, 1) := by decide +kernel
theorem dX7_headerOf_0 : decode cX7_headerOf 0 = .ok (.aload_n 0, 1) := by decide +kernel
theorem dX7_headerOf_1 : decode cX7_headerOf 1 = .ok (.iload_n 1, 1) := by decide +kernel
theorem dX7_headerOf_2 : decode cX7_headerOf 2 = .ok (.invokevirtual 50, 3) := by decide +kernel
theorem dX7_headerOf_5 : decode cX7_headerOf 5 = .ok (.ifCond .eq 15, 3) := by decide +kernel
theorem dX7_headerOf_8 : decode cX7_headerOf 8 = .ok (.aload_n 0, 1) := by decide +kernel
theorem dX7_headerOf_9 : decode cX7_headerOf 9 = .ok (.getfield 7, 3) := by decide +kernel
theorem dX7_headerOf_12 : decode cX7_headerOf 12 = .ok (.bipush 11, 2) := by decide +kernel
theorem dX7_headerOf_14 : decode cX7_headerOf 14 = .ok (.iload_n 1, 1) := by decide +kernel
theorem dX7_headerOf_15 : decode cX7_headerOf 15 = .ok (.iadd, 1) := by decide +kernel
theorem dX7_headerOf_16 : decode cX7_headerOf 16 = .ok (.iaload, 1) := by decide +kernel
theorem dX7_headerOf_17 : decode cX7_headerOf 17 = .ok (.goto 5, 3) := by decide +kernel
theorem dX7_headerOf_20 : decode cX7_headerOf 20 = .ok (.bipush (-2), 2) := by decide +kernel
theorem dX7_headerOf_22 : decode cX7_headerOf 22 = .ok (.ireturn, 1) := by decide +kernel
theorem dX7_pressure_0 : decode cX7_pressure 0 = .ok (.iload_n 1, 1) := by decide +kernel
theorem dX7_pressure_1 : decode cX7_pressure 1 = .ok (.invokestatic 43, 3) := by decide +kernel
theorem dX7_pressure_4 : decode cX7_pressure 4 = .ok (.ifCond .eq 15, 3) := by decide +kernel
theorem dX7_pressure_7 : decode cX7_pressure 7 = .ok (.aload_n 0, 1) := by decide +kernel
theorem dX7_pressure_8 : decode cX7_pressure 8 = .ok (.getfield 7, 3) := by decide +kernel
theorem dX7_pressure_11 : decode cX7_pressure 11 = .ok (.bipush 8, 2) := by decide +kernel
theorem dX7_pressure_13 : decode cX7_pressure 13 = .ok (.iload_n 1, 1) := by decide +kernel
theorem dX7_pressure_14 : decode cX7_pressure 14 = .ok (.iadd, 1) := by decide +kernel
theorem dX7_pressure_15 : decode cX7_pressure 15 = .ok (.iaload, 1) := by decide +kernel
theorem dX7_pressure_16 : decode cX7_pressure 16 = .ok (.goto 5, 3) := by decide +kernel
theorem dX7_pressure_19 : decode cX7_pressure 19 = .ok (.bipush (-2), 2) := by decide +kernel
theorem dX7_pressure_21 : decode cX7_pressure 21 = .ok (.ireturn, 1) := by decide +kernel
theorem dX7_isReading_0 : decode cX7_isReading 0 = .ok (.iload_n 0, 1) := by decide +kernel
theorem dX7_isReading_1 : decode cX7_isReading 1 = .ok (.iconst 0, 1) := by decide +kernel
theorem dX7_isReading_2 : decode cX7_isReading 2 = .ok (.sipush 300, 3) := by decide +kernel
theorem dX7_isReading_5 : decode cX7_isReading 5 = .ok (.invokestatic 35, 3) := by decide +kernel
theorem dX7_isReading_8 : decode cX7_isReading 8 = .ok (.ifCond .eq 28, 3) := by decide +kernel
theorem dX7_isReading_11 : decode cX7_isReading 11 = .ok (.iload_n 1, 1) := by decide +kernel
theorem dX7_isReading_12 : decode cX7_isReading 12 = .ok (.iconst 0, 1) := by decide +kernel
theorem dX7_isReading_13 : decode cX7_isReading 13 = .ok (.sipush 300, 3) := by decide +kernel
theorem dX7_isReading_16 : decode cX7_isReading 16 = .ok (.invokestatic 35, 3) := by decide +kernel
theorem dX7_isReading_19 : decode cX7_isReading 19 = .ok (.ifCond .eq 17, 3) := by decide +kernel
theorem dX7_isReading_22 : decode cX7_isReading 22 = .ok (.iload_n 2, 1) := by decide +kernel
theorem dX7_isReading_23 : decode cX7_isReading 23 = .ok (.iconst 0, 1) := by decide +kernel
theorem dX7_isReading_24 : decode cX7_isReading 24 = .ok (.bipush 60, 2) := by decide +kernel
theorem dX7_isReading_26 : decode cX7_isReading 26 = .ok (.invokestatic 35, 3) := by decide +kernel
theorem dX7_isReading_29 : decode cX7_isReading 29 = .ok (.ifCond .eq 7, 3) := by decide +kernel
theorem dX7_isReading_32 : decode cX7_isReading 32 = .ok (.iconst 1, 1) := by decide +kernel
theorem dX7_isReading_33 : decode cX7_isReading 33 = .ok (.goto 4, 3) := by decide +kernel
theorem dX7_isReading_36 : decode cX7_isReading 36 = .ok (.iconst 0, 1) := by decide +kernel
theorem dX7_isReading_37 : decode cX7_isReading 37 = .ok (.ireturn, 1) := by decide +kernel
theorem dX7_judges_0 : decode cX7_judges 0 = .ok (.bipush 100, 2) := by decide +kernel
theorem dX7_judges_2 : decode cX7_judges 2 = .ok (.bipush 6, 2) := by decide +kernel
theorem dX7_judges_4 : decode cX7_judges 4 = .ok (.aload_n 0, 1) := by decide +kernel
theorem dX7_judges_5 : decode cX7_judges 5 = .ok (.getfield 7, 3) := by decide +kernel
theorem dX7_judges_8 : decode cX7_judges 8 = .ok (.bipush 8, 2) := by decide +kernel
theorem dX7_judges_10 : decode cX7_judges 10 = .ok (.aload_n 0, 1) := by decide +kernel
theorem dX7_judges_11 : decode cX7_judges 11 = .ok (.iload_n 1, 1) := by decide +kernel
theorem dX7_judges_12 : decode cX7_judges 12 = .ok (.invokevirtual 56, 3) := by decide +kernel
theorem dX7_judges_15 : decode cX7_judges 15 = .ok (.iadd, 1) := by decide +kernel
theorem dX7_judges_16 : decode cX7_judges 16 = .ok (.iaload, 1) := by decide +kernel
theorem dX7_judges_17 : decode cX7_judges 17 = .ok (.imul, 1) := by decide +kernel
theorem dX7_judges_18 : decode cX7_judges 18 = .ok (.iadd, 1) := by decide +kernel
theorem dX7_judges_19 : decode cX7_judges 19 = .ok (.istore 5, 2) := by decide +kernel
theorem dX7_judges_21 : decode cX7_judges 21 = .ok (.aload_n 0, 1) := by decide +kernel
theorem dX7_judges_22 : decode cX7_judges 22 = .ok (.iload_n 1, 1) := by decide +kernel
theorem dX7_judges_23 : decode cX7_judges 23 = .ok (.iconst 1, 1) := by decide +kernel
theorem dX7_judges_24 : decode cX7_judges 24 = .ok (.invokevirtual 39, 3) := by decide +kernel
theorem dX7_judges_27 : decode cX7_judges 27 = .ok (.istore 6, 2) := by decide +kernel
theorem dX7_judges_29 : decode cX7_judges 29 = .ok (.iload_n 2, 1) := by decide +kernel
theorem dX7_judges_30 : decode cX7_judges 30 = .ok (.iload_n 3, 1) := by decide +kernel
theorem dX7_judges_31 : decode cX7_judges 31 = .ok (.isub, 1) := by decide +kernel
theorem dX7_judges_32 : decode cX7_judges 32 = .ok (.istore 7, 2) := by decide +kernel
theorem dX7_judges_34 : decode cX7_judges 34 = .ok (.iload_n 2, 1) := by decide +kernel
theorem dX7_judges_35 : decode cX7_judges 35 = .ok (.iload 5, 2) := by decide +kernel
theorem dX7_judges_37 : decode cX7_judges 37 = .ok (.iconst 2, 1) := by decide +kernel
theorem dX7_judges_38 : decode cX7_judges 38 = .ok (.idiv, 1) := by decide +kernel
theorem dX7_judges_39 : decode cX7_judges 39 = .ok (.if_icmp .ge 5, 3) := by decide +kernel
theorem dX7_judges_42 : decode cX7_judges 42 = .ok (.iconst 5, 1) := by decide +kernel
theorem dX7_judges_43 : decode cX7_judges 43 = .ok (.ireturn, 1) := by decide +kernel
theorem dX7_judges_44 : decode cX7_judges 44 = .ok (.iload 4, 2) := by decide +kernel
theorem dX7_judges_46 : decode cX7_judges 46 = .ok (.ifCond .ne 12, 3) := by decide +kernel
theorem dX7_judges_49 : decode cX7_judges 49 = .ok (.iload 7, 2) := by decide +kernel
theorem dX7_judges_51 : decode cX7_judges 51 = .ok (.bipush 40, 2) := by decide +kernel
theorem dX7_judges_53 : decode cX7_judges 53 = .ok (.if_icmp .lt 5, 3) := by decide +kernel
theorem dX7_judges_56 : decode cX7_judges 56 = .ok (.iconst 4, 1) := by decide +kernel
theorem dX7_judges_57 : decode cX7_judges 57 = .ok (.ireturn, 1) := by decide +kernel
theorem dX7_judges_58 : decode cX7_judges 58 = .ok (.iload 6, 2) := by decide +kernel
theorem dX7_judges_60 : decode cX7_judges 60 = .ok (.ifCond .ne 18, 3) := by decide +kernel
theorem dX7_judges_63 : decode cX7_judges 63 = .ok (.iload 4, 2) := by decide +kernel
theorem dX7_judges_65 : decode cX7_judges 65 = .ok (.bipush 30, 2) := by decide +kernel
theorem dX7_judges_67 : decode cX7_judges 67 = .ok (.if_icmp .lt 7, 3) := by decide +kernel
theorem dX7_judges_70 : decode cX7_judges 70 = .ok (.iconst 1, 1) := by decide +kernel
theorem dX7_judges_71 : decode cX7_judges 71 = .ok (.goto 45, 3) := by decide +kernel
theorem dX7_judges_74 : decode cX7_judges 74 = .ok (.iconst 0, 1) := by decide +kernel
theorem dX7_judges_75 : decode cX7_judges 75 = .ok (.goto 41, 3) := by decide +kernel
theorem dX7_judges_78 : decode cX7_judges 78 = .ok (.iload 6, 2) := by decide +kernel
theorem dX7_judges_80 : decode cX7_judges 80 = .ok (.iconst 1, 1) := by decide +kernel
theorem dX7_judges_81 : decode cX7_judges 81 = .ok (.if_icmp .ne 17, 3) := by decide +kernel
theorem dX7_judges_84 : decode cX7_judges 84 = .ok (.iload 7, 2) := by decide +kernel
theorem dX7_judges_86 : decode cX7_judges 86 = .ok (.iconst 5, 1) := by decide +kernel
theorem dX7_judges_87 : decode cX7_judges 87 = .ok (.if_icmp .gt 7, 3) := by decide +kernel
theorem dX7_judges_90 : decode cX7_judges 90 = .ok (.iconst 1, 1) := by decide +kernel
theorem dX7_judges_91 : decode cX7_judges 91 = .ok (.goto 25, 3) := by decide +kernel
theorem dX7_judges_94 : decode cX7_judges 94 = .ok (.iconst 0, 1) := by decide +kernel
theorem dX7_judges_95 : decode cX7_judges 95 = .ok (.goto 21, 3) := by decide +kernel
theorem dX7_judges_98 : decode cX7_judges 98 = .ok (.iload 4, 2) := by decide +kernel
theorem dX7_judges_100 : decode cX7_judges 100 = .ok (.bipush 40, 2) := by decide +kernel
theorem dX7_judges_102 : decode cX7_judges 102 = .ok (.if_icmp .ge 9, 3) := by decide +kernel
theorem dX7_judges_105 : decode cX7_judges 105 = .ok (.iload 7, 2) := by decide +kernel
theorem dX7_judges_107 : decode cX7_judges 107 = .ok (.iconst 2, 1) := by decide +kernel
theorem dX7_judges_108 : decode cX7_judges 108 = .ok (.if_icmp .gt 7, 3) := by decide +kernel
theorem dX7_judges_111 : decode cX7_judges 111 = .ok (.iconst 1, 1) := by decide +kernel
theorem dX7_judges_112 : decode cX7_judges 112 = .ok (.goto 4, 3) := by decide +kernel
theorem dX7_judges_115 : decode cX7_judges 115 = .ok (.iconst 0, 1) := by decide +kernel
theorem dX7_judges_116 : decode cX7_judges 116 = .ok (.istore 8, 2) := by decide +kernel
theorem dX7_judges_118 : decode cX7_judges 118 = .ok (.iload 6, 2) := by decide +kernel
theorem dX7_judges_120 : decode cX7_judges 120 = .ok (.ifCond .ne 18, 3) := by decide +kernel
theorem dX7_judges_123 : decode cX7_judges 123 = .ok (.iload 4, 2) := by decide +kernel
theorem dX7_judges_125 : decode cX7_judges 125 = .ok (.bipush 15, 2) := by decide +kernel
theorem dX7_judges_127 : decode cX7_judges 127 = .ok (.if_icmp .lt 7, 3) := by decide +kernel
theorem dX7_judges_130 : decode cX7_judges 130 = .ok (.iconst 1, 1) := by decide +kernel
theorem dX7_judges_131 : decode cX7_judges 131 = .ok (.goto 40, 3) := by decide +kernel
theorem dX7_judges_134 : decode cX7_judges 134 = .ok (.iconst 0, 1) := by decide +kernel
theorem dX7_judges_135 : decode cX7_judges 135 = .ok (.goto 36, 3) := by decide +kernel
theorem dX7_judges_138 : decode cX7_judges 138 = .ok (.iload 6, 2) := by decide +kernel
theorem dX7_judges_140 : decode cX7_judges 140 = .ok (.iconst 1, 1) := by decide +kernel
theorem dX7_judges_141 : decode cX7_judges 141 = .ok (.if_icmp .ne 18, 3) := by decide +kernel
theorem dX7_judges_144 : decode cX7_judges 144 = .ok (.iload 7, 2) := by decide +kernel
theorem dX7_judges_146 : decode cX7_judges 146 = .ok (.bipush 15, 2) := by decide +kernel
theorem dX7_judges_148 : decode cX7_judges 148 = .ok (.if_icmp .gt 7, 3) := by decide +kernel
theorem dX7_judges_151 : decode cX7_judges 151 = .ok (.iconst 1, 1) := by decide +kernel
theorem dX7_judges_152 : decode cX7_judges 152 = .ok (.goto 19, 3) := by decide +kernel
theorem dX7_judges_155 : decode cX7_judges 155 = .ok (.iconst 0, 1) := by decide +kernel
theorem dX7_judges_156 : decode cX7_judges 156 = .ok (.goto 15, 3) := by decide +kernel
theorem dX7_judges_159 : decode cX7_judges 159 = .ok (.iload 4, 2) := by decide +kernel
theorem dX7_judges_161 : decode cX7_judges 161 = .ok (.bipush 20, 2) := by decide +kernel
theorem dX7_judges_163 : decode cX7_judges 163 = .ok (.if_icmp .lt 7, 3) := by decide +kernel
theorem dX7_judges_166 : decode cX7_judges 166 = .ok (.iconst 1, 1) := by decide +kernel
theorem dX7_judges_167 : decode cX7_judges 167 = .ok (.goto 4, 3) := by decide +kernel
theorem dX7_judges_170 : decode cX7_judges 170 = .ok (.iconst 0, 1) := by decide +kernel
theorem dX7_judges_171 : decode cX7_judges 171 = .ok (.istore 9, 2) := by decide +kernel
theorem dX7_judges_173 : decode cX7_judges 173 = .ok (.iload 8, 2) := by decide +kernel
theorem dX7_judges_175 : decode cX7_judges 175 = .ok (.ifCond .eq 7, 3) := by decide +kernel
theorem dX7_judges_178 : decode cX7_judges 178 = .ok (.iconst 3, 1) := by decide +kernel
theorem dX7_judges_179 : decode cX7_judges 179 = .ok (.goto 13, 3) := by decide +kernel
theorem dX7_judges_182 : decode cX7_judges 182 = .ok (.iload 9, 2) := by decide +kernel
theorem dX7_judges_184 : decode cX7_judges 184 = .ok (.ifCond .eq 7, 3) := by decide +kernel
theorem dX7_judges_187 : decode cX7_judges 187 = .ok (.iconst 2, 1) := by decide +kernel
theorem dX7_judges_188 : decode cX7_judges 188 = .ok (.goto 4, 3) := by decide +kernel
theorem dX7_judges_191 : decode cX7_judges 191 = .ok (.iconst 1, 1) := by decide +kernel
theorem dX7_judges_192 : decode cX7_judges 192 = .ok (.ireturn, 1) := by decide +kernel
theorem dX7_reads_0 : decode cX7_reads 0 = .ok (.aload_n 0, 1) := by decide +kernel
theorem dX7_reads_1 : decode cX7_reads 1 = .ok (.getfield 7, 3) := by decide +kernel
theorem dX7_reads_4 : decode cX7_reads 4 = .ok (.bipush 19, 2) := by decide +kernel
theorem dX7_reads_6 : decode cX7_reads 6 = .ok (.bipush 7, 2) := by decide +kernel
theorem dX7_reads_8 : decode cX7_reads 8 = .ok (.iload_n 1, 1) := by decide +kernel
theorem dX7_reads_9 : decode cX7_reads 9 = .ok (.imul, 1) := by decide +kernel
theorem dX7_reads_10 : decode cX7_reads 10 = .ok (.iadd, 1) := by decide +kernel
theorem dX7_reads_11 : decode cX7_reads 11 = .ok (.iconst 5, 1) := by decide +kernel
theorem dX7_reads_12 : decode cX7_reads 12 = .ok (.iadd, 1) := by decide +kernel
theorem dX7_reads_13 : decode cX7_reads 13 = .ok (.aload_n 0, 1) := by decide +kernel
theorem dX7_reads_14 : decode cX7_reads 14 = .ok (.iload_n 1, 1) := by decide +kernel
theorem dX7_reads_15 : decode cX7_reads 15 = .ok (.iload_n 2, 1) := by decide +kernel
theorem dX7_reads_16 : decode cX7_reads 16 = .ok (.iload_n 3, 1) := by decide +kernel
theorem dX7_reads_17 : decode cX7_reads 17 = .ok (.iload 4, 2) := by decide +kernel
theorem dX7_reads_19 : decode cX7_reads 19 = .ok (.invokevirtual 60, 3) := by decide +kernel
theorem dX7_reads_22 : decode cX7_reads 22 = .ok (.iastore, 1) := by decide +kernel
theorem dX7_reads_23 : decode cX7_reads 23 = .ok (.aload_n 0, 1) := by decide +kernel
theorem dX7_reads_24 : decode cX7_reads 24 = .ok (.getfield 7, 3) := by decide +kernel
theorem dX7_reads_27 : decode cX7_reads 27 = .ok (.bipush 19, 2) := by decide +kernel
theorem dX7_reads_29 : decode cX7_reads 29 = .ok (.bipush 7, 2) := by decide +kernel
theorem dX7_reads_31 : decode cX7_reads 31 = .ok (.iload_n 1, 1) := by decide +kernel
theorem dX7_reads_32 : decode cX7_reads 32 = .ok (.imul, 1) := by decide +kernel
theorem dX7_reads_33 : decode cX7_reads 33 = .ok (.iadd, 1) := by decide +kernel
theorem dX7_reads_34 : decode cX7_reads 34 = .ok (.bipush 6, 2) := by decide +kernel
theorem dX7_reads_36 : decode cX7_reads 36 = .ok (.iadd, 1) := by decide +kernel
theorem dX7_reads_37 : decode cX7_reads 37 = .ok (.aload_n 0, 1) := by decide +kernel
theorem dX7_reads_38 : decode cX7_reads 38 = .ok (.getfield 7, 3) := by decide +kernel
theorem dX7_reads_41 : decode cX7_reads 41 = .ok (.iconst 5, 1) := by decide +kernel
theorem dX7_reads_42 : decode cX7_reads 42 = .ok (.iaload, 1) := by decide +kernel
theorem dX7_reads_43 : decode cX7_reads 43 = .ok (.iastore, 1) := by decide +kernel
theorem dX7_reads_44 : decode cX7_reads 44 = .ok (.return_, 1) := by decide +kernel
theorem dX7_read_0 : decode cX7_read 0 = .ok (.aload_n 0, 1) := by decide +kernel
theorem dX7_read_1 : decode cX7_read 1 = .ok (.iload_n 1, 1) := by decide +kernel
theorem dX7_read_2 : decode cX7_read 2 = .ok (.invokevirtual 53, 3) := by decide +kernel
theorem dX7_read_5 : decode cX7_read 5 = .ok (.ifCond .ne 6, 3) := by decide +kernel
theorem dX7_read_8 : decode cX7_read 8 = .ok (.bipush (-2), 2) := by decide +kernel
theorem dX7_read_10 : decode cX7_read 10 = .ok (.ireturn, 1) := by decide +kernel
theorem dX7_read_11 : decode cX7_read 11 = .ok (.iload_n 2, 1) := by decide +kernel
theorem dX7_read_12 : decode cX7_read 12 = .ok (.iload_n 3, 1) := by decide +kernel
theorem dX7_read_13 : decode cX7_read 13 = .ok (.iload 4, 2) := by decide +kernel
theorem dX7_read_15 : decode cX7_read 15 = .ok (.invokestatic 64, 3) := by decide +kernel
theorem dX7_read_18 : decode cX7_read 18 = .ok (.ifCond .ne 6, 3) := by decide +kernel
theorem dX7_read_21 : decode cX7_read 21 = .ok (.bipush (-3), 2) := by decide +kernel
theorem dX7_read_23 : decode cX7_read 23 = .ok (.ireturn, 1) := by decide +kernel
theorem dX7_read_24 : decode cX7_read 24 = .ok (.aload_n 0, 1) := by decide +kernel
theorem dX7_read_25 : decode cX7_read 25 = .ok (.invokevirtual 47, 3) := by decide +kernel
theorem dX7_read_28 : decode cX7_read 28 = .ok (.aload_n 0, 1) := by decide +kernel
theorem dX7_read_29 : decode cX7_read 29 = .ok (.iload_n 1, 1) := by decide +kernel
theorem dX7_read_30 : decode cX7_read 30 = .ok (.iload_n 2, 1) := by decide +kernel
theorem dX7_read_31 : decode cX7_read 31 = .ok (.iload_n 3, 1) := by decide +kernel
theorem dX7_read_32 : decode cX7_read 32 = .ok (.iload 4, 2) := by decide +kernel
theorem dX7_read_34 : decode cX7_read 34 = .ok (.invokevirtual 67, 3) := by decide +kernel
theorem dX7_read_37 : decode cX7_read 37 = .ok (.aload_n 0, 1) := by decide +kernel
theorem dX7_read_38 : decode cX7_read 38 = .ok (.iload_n 1, 1) := by decide +kernel
theorem dX7_read_39 : decode cX7_read 39 = .ok (.iconst 5, 1) := by decide +kernel
theorem dX7_read_40 : decode cX7_read 40 = .ok (.invokevirtual 39, 3) := by decide +kernel
theorem dX7_read_43 : decode cX7_read 43 = .ok (.ireturn, 1) := by decide +kernel
theorem dX7_judge_0 : decode cX7_judge 0 = .ok (.aload_n 0, 1) := by decide +kernel
theorem dX7_judge_1 : decode cX7_judge 1 = .ok (.iload_n 1, 1) := by decide +kernel
theorem dX7_judge_2 : decode cX7_judge 2 = .ok (.invokevirtual 53, 3) := by decide +kernel
theorem dX7_judge_5 : decode cX7_judge 5 = .ok (.ifCond .ne 6, 3) := by decide +kernel
theorem dX7_judge_8 : decode cX7_judge 8 = .ok (.bipush (-2), 2) := by decide +kernel
theorem dX7_judge_10 : decode cX7_judge 10 = .ok (.ireturn, 1) := by decide +kernel
theorem dX7_judge_11 : decode cX7_judge 11 = .ok (.iload_n 2, 1) := by decide +kernel
theorem dX7_judge_12 : decode cX7_judge 12 = .ok (.iload_n 3, 1) := by decide +kernel
theorem dX7_judge_13 : decode cX7_judge 13 = .ok (.iload 4, 2) := by decide +kernel
theorem dX7_judge_15 : decode cX7_judge 15 = .ok (.invokestatic 64, 3) := by decide +kernel
theorem dX7_judge_18 : decode cX7_judge 18 = .ok (.ifCond .eq 15, 3) := by decide +kernel
theorem dX7_judge_21 : decode cX7_judge 21 = .ok (.aload_n 0, 1) := by decide +kernel
theorem dX7_judge_22 : decode cX7_judge 22 = .ok (.iload_n 1, 1) := by decide +kernel
theorem dX7_judge_23 : decode cX7_judge 23 = .ok (.iload_n 2, 1) := by decide +kernel
theorem dX7_judge_24 : decode cX7_judge 24 = .ok (.iload_n 3, 1) := by decide +kernel
theorem dX7_judge_25 : decode cX7_judge 25 = .ok (.iload 4, 2) := by decide +kernel
theorem dX7_judge_27 : decode cX7_judge 27 = .ok (.invokevirtual 60, 3) := by decide +kernel
theorem dX7_judge_30 : decode cX7_judge 30 = .ok (.goto 5, 3) := by decide +kernel
theorem dX7_judge_33 : decode cX7_judge 33 = .ok (.bipush (-3), 2) := by decide +kernel
theorem dX7_judge_35 : decode cX7_judge 35 = .ok (.ireturn, 1) := by decide +kernel
theorem dX7_pass_0 : decode cX7_pass 0 = .ok (.iload_n 1, 1) := by decide +kernel
theorem dX7_pass_1 : decode cX7_pass 1 = .ok (.iconst 1, 1) := by decide +kernel
theorem dX7_pass_2 : decode cX7_pass 2 = .ok (.bipush 100, 2) := by decide +kernel
theorem dX7_pass_4 : decode cX7_pass 4 = .ok (.invokestatic 35, 3) := by decide +kernel
theorem dX7_pass_7 : decode cX7_pass 7 = .ok (.ifCond .ne 6, 3) := by decide +kernel
theorem dX7_pass_10 : decode cX7_pass 10 = .ok (.bipush (-3), 2) := by decide +kernel
theorem dX7_pass_12 : decode cX7_pass 12 = .ok (.ireturn, 1) := by decide +kernel
theorem dX7_pass_13 : decode cX7_pass 13 = .ok (.aload_n 0, 1) := by decide +kernel
theorem dX7_pass_14 : decode cX7_pass 14 = .ok (.getfield 7, 3) := by decide +kernel
theorem dX7_pass_17 : decode cX7_pass 17 = .ok (.iconst 5, 1) := by decide +kernel
theorem dX7_pass_18 : decode cX7_pass 18 = .ok (.iaload, 1) := by decide +kernel
theorem dX7_pass_19 : decode cX7_pass 19 = .ok (.iload_n 1, 1) := by decide +kernel
theorem dX7_pass_20 : decode cX7_pass 20 = .ok (.iadd, 1) := by decide +kernel
theorem dX7_pass_21 : decode cX7_pass 21 = .ok (.sipush 10000, 3) := by decide +kernel
theorem dX7_pass_24 : decode cX7_pass 24 = .ok (.if_icmp .le 6, 3) := by decide +kernel
theorem dX7_pass_27 : decode cX7_pass 27 = .ok (.bipush (-5), 2) := by decide +kernel
theorem dX7_pass_29 : decode cX7_pass 29 = .ok (.ireturn, 1) := by decide +kernel
theorem dX7_pass_30 : decode cX7_pass 30 = .ok (.aload_n 0, 1) := by decide +kernel
theorem dX7_pass_31 : decode cX7_pass 31 = .ok (.invokevirtual 47, 3) := by decide +kernel
theorem dX7_pass_34 : decode cX7_pass 34 = .ok (.aload_n 0, 1) := by decide +kernel
theorem dX7_pass_35 : decode cX7_pass 35 = .ok (.getfield 7, 3) := by decide +kernel
theorem dX7_pass_38 : decode cX7_pass 38 = .ok (.iconst 5, 1) := by decide +kernel
theorem dX7_pass_39 : decode cX7_pass 39 = .ok (.dup2, 1) := by decide +kernel
theorem dX7_pass_40 : decode cX7_pass 40 = .ok (.iaload, 1) := by decide +kernel
theorem dX7_pass_41 : decode cX7_pass 41 = .ok (.iload_n 1, 1) := by decide +kernel
theorem dX7_pass_42 : decode cX7_pass 42 = .ok (.iadd, 1) := by decide +kernel
theorem dX7_pass_43 : decode cX7_pass 43 = .ok (.iastore, 1) := by decide +kernel
theorem dX7_pass_44 : decode cX7_pass 44 = .ok (.iconst 0, 1) := by decide +kernel
theorem dX7_pass_45 : decode cX7_pass 45 = .ok (.istore_n 2, 1) := by decide +kernel
theorem dX7_pass_46 : decode cX7_pass 46 = .ok (.iload_n 2, 1) := by decide +kernel
theorem dX7_pass_47 : decode cX7_pass 47 = .ok (.aload_n 0, 1) := by decide +kernel
theorem dX7_pass_48 : decode cX7_pass 48 = .ok (.getfield 7, 3) := by decide +kernel
theorem dX7_pass_51 : decode cX7_pass 51 = .ok (.iconst 1, 1) := by decide +kernel
theorem dX7_pass_52 : decode cX7_pass 52 = .ok (.iaload, 1) := by decide +kernel
theorem dX7_pass_53 : decode cX7_pass 53 = .ok (.if_icmp .ge 35, 3) := by decide +kernel
theorem dX7_pass_56 : decode cX7_pass 56 = .ok (.aload_n 0, 1) := by decide +kernel
theorem dX7_pass_57 : decode cX7_pass 57 = .ok (.getfield 13, 3) := by decide +kernel
theorem dX7_pass_60 : decode cX7_pass 60 = .ok (.iload_n 2, 1) := by decide +kernel
theorem dX7_pass_61 : decode cX7_pass 61 = .ok (.dup2, 1) := by decide +kernel
theorem dX7_pass_62 : decode cX7_pass 62 = .ok (.laload, 1) := by decide +kernel
theorem dX7_pass_63 : decode cX7_pass 63 = .ok (.aload_n 0, 1) := by decide +kernel
theorem dX7_pass_64 : decode cX7_pass 64 = .ok (.iload_n 2, 1) := by decide +kernel
theorem dX7_pass_65 : decode cX7_pass 65 = .ok (.invokevirtual 71, 3) := by decide +kernel
theorem dX7_pass_68 : decode cX7_pass 68 = .ok (.i2l, 1) := by decide +kernel
theorem dX7_pass_69 : decode cX7_pass 69 = .ok (.aload_n 0, 1) := by decide +kernel
theorem dX7_pass_70 : decode cX7_pass 70 = .ok (.getfield 7, 3) := by decide +kernel
theorem dX7_pass_73 : decode cX7_pass 73 = .ok (.iconst 2, 1) := by decide +kernel
theorem dX7_pass_74 : decode cX7_pass 74 = .ok (.iaload, 1) := by decide +kernel
theorem dX7_pass_75 : decode cX7_pass 75 = .ok (.i2l, 1) := by decide +kernel
theorem dX7_pass_76 : decode cX7_pass 76 = .ok (.lmul, 1) := by decide +kernel
theorem dX7_pass_77 : decode cX7_pass 77 = .ok (.iload_n 1, 1) := by decide +kernel
theorem dX7_pass_78 : decode cX7_pass 78 = .ok (.i2l, 1) := by decide +kernel
theorem dX7_pass_79 : decode cX7_pass 79 = .ok (.lmul, 1) := by decide +kernel
theorem dX7_pass_80 : decode cX7_pass 80 = .ok (.ladd, 1) := by decide +kernel
theorem dX7_pass_81 : decode cX7_pass 81 = .ok (.lastore, 1) := by decide +kernel
theorem dX7_pass_82 : decode cX7_pass 82 = .ok (.iinc 2 1, 3) := by decide +kernel
theorem dX7_pass_85 : decode cX7_pass 85 = .ok (.goto (-39), 3) := by decide +kernel
theorem dX7_pass_88 : decode cX7_pass 88 = .ok (.aload_n 0, 1) := by decide +kernel
theorem dX7_pass_89 : decode cX7_pass 89 = .ok (.getfield 7, 3) := by decide +kernel
theorem dX7_pass_92 : decode cX7_pass 92 = .ok (.iconst 5, 1) := by decide +kernel
theorem dX7_pass_93 : decode cX7_pass 93 = .ok (.iaload, 1) := by decide +kernel
theorem dX7_pass_94 : decode cX7_pass 94 = .ok (.ireturn, 1) := by decide +kernel
theorem dX7_inState_0 : decode cX7_inState 0 = .ok (.iload_n 1, 1) := by decide +kernel
theorem dX7_inState_1 : decode cX7_inState 1 = .ok (.iconst 0, 1) := by decide +kernel
theorem dX7_inState_2 : decode cX7_inState 2 = .ok (.iconst 5, 1) := by decide +kernel
theorem dX7_inState_3 : decode cX7_inState 3 = .ok (.invokestatic 35, 3) := by decide +kernel
theorem dX7_inState_6 : decode cX7_inState 6 = .ok (.ifCond .ne 6, 3) := by decide +kernel
theorem dX7_inState_9 : decode cX7_inState 9 = .ok (.bipush (-3), 2) := by decide +kernel
theorem dX7_inState_11 : decode cX7_inState 11 = .ok (.ireturn, 1) := by decide +kernel
theorem dX7_inState_12 : decode cX7_inState 12 = .ok (.iconst 0, 1) := by decide +kernel
theorem dX7_inState_13 : decode cX7_inState 13 = .ok (.istore_n 2, 1) := by decide +kernel
theorem dX7_inState_14 : decode cX7_inState 14 = .ok (.iconst 0, 1) := by decide +kernel
theorem dX7_inState_15 : decode cX7_inState 15 = .ok (.istore_n 3, 1) := by decide +kernel
theorem dX7_inState_16 : decode cX7_inState 16 = .ok (.iload_n 3, 1) := by decide +kernel
theorem dX7_inState_17 : decode cX7_inState 17 = .ok (.aload_n 0, 1) := by decide +kernel
theorem dX7_inState_18 : decode cX7_inState 18 = .ok (.getfield 7, 3) := by decide +kernel
theorem dX7_inState_21 : decode cX7_inState 21 = .ok (.iconst 1, 1) := by decide +kernel
theorem dX7_inState_22 : decode cX7_inState 22 = .ok (.iaload, 1) := by decide +kernel
theorem dX7_inState_23 : decode cX7_inState 23 = .ok (.if_icmp .ge 27, 3) := by decide +kernel
theorem dX7_inState_26 : decode cX7_inState 26 = .ok (.iload_n 2, 1) := by decide +kernel
theorem dX7_inState_27 : decode cX7_inState 27 = .ok (.aload_n 0, 1) := by decide +kernel
theorem dX7_inState_28 : decode cX7_inState 28 = .ok (.iload_n 3, 1) := by decide +kernel
theorem dX7_inState_29 : decode cX7_inState 29 = .ok (.iconst 5, 1) := by decide +kernel
theorem dX7_inState_30 : decode cX7_inState 30 = .ok (.invokevirtual 39, 3) := by decide +kernel
theorem dX7_inState_33 : decode cX7_inState 33 = .ok (.iload_n 1, 1) := by decide +kernel
theorem dX7_inState_34 : decode cX7_inState 34 = .ok (.if_icmp .ne 7, 3) := by decide +kernel
theorem dX7_inState_37 : decode cX7_inState 37 = .ok (.iconst 1, 1) := by decide +kernel
theorem dX7_inState_38 : decode cX7_inState 38 = .ok (.goto 4, 3) := by decide +kernel
theorem dX7_inState_41 : decode cX7_inState 41 = .ok (.iconst 0, 1) := by decide +kernel
theorem dX7_inState_42 : decode cX7_inState 42 = .ok (.iadd, 1) := by decide +kernel
theorem dX7_inState_43 : decode cX7_inState 43 = .ok (.istore_n 2, 1) := by decide +kernel
theorem dX7_inState_44 : decode cX7_inState 44 = .ok (.iinc 3 1, 3) := by decide +kernel
theorem dX7_inState_47 : decode cX7_inState 47 = .ok (.goto (-31), 3) := by decide +kernel
theorem dX7_inState_50 : decode cX7_inState 50 = .ok (.iload_n 2, 1) := by decide +kernel
theorem dX7_inState_51 : decode cX7_inState 51 = .ok (.ireturn, 1) := by decide +kernel
theorem dX7_lossOf_0 : decode cX7_lossOf 0 = .ok (.aload_n 0, 1) := by decide +kernel
theorem dX7_lossOf_1 : decode cX7_lossOf 1 = .ok (.iload_n 1, 1) := by decide +kernel
theorem dX7_lossOf_2 : decode cX7_lossOf 2 = .ok (.iconst 2, 1) := by decide +kernel
theorem dX7_lossOf_3 : decode cX7_lossOf 3 = .ok (.invokevirtual 39, 3) := by decide +kernel
theorem dX7_lossOf_6 : decode cX7_lossOf 6 = .ok (.aload_n 0, 1) := by decide +kernel
theorem dX7_lossOf_7 : decode cX7_lossOf 7 = .ok (.iload_n 1, 1) := by decide +kernel
theorem dX7_lossOf_8 : decode cX7_lossOf 8 = .ok (.iconst 2, 1) := by decide +kernel
theorem dX7_lossOf_9 : decode cX7_lossOf 9 = .ok (.invokevirtual 39, 3) := by decide +kernel
theorem dX7_lossOf_12 : decode cX7_lossOf 12 = .ok (.imul, 1) := by decide +kernel
theorem dX7_lossOf_13 : decode cX7_lossOf 13 = .ok (.aload_n 0, 1) := by decide +kernel
theorem dX7_lossOf_14 : decode cX7_lossOf 14 = .ok (.getfield 7, 3) := by decide +kernel
theorem dX7_lossOf_17 : decode cX7_lossOf 17 = .ok (.bipush 8, 2) := by decide +kernel
theorem dX7_lossOf_19 : decode cX7_lossOf 19 = .ok (.aload_n 0, 1) := by decide +kernel
theorem dX7_lossOf_20 : decode cX7_lossOf 20 = .ok (.iload_n 1, 1) := by decide +kernel
theorem dX7_lossOf_21 : decode cX7_lossOf 21 = .ok (.invokevirtual 56, 3) := by decide +kernel
theorem dX7_lossOf_24 : decode cX7_lossOf 24 = .ok (.iadd, 1) := by decide +kernel
theorem dX7_lossOf_25 : decode cX7_lossOf 25 = .ok (.iaload, 1) := by decide +kernel
theorem dX7_lossOf_26 : decode cX7_lossOf 26 = .ok (.iconst 1, 1) := by decide +kernel
theorem dX7_lossOf_27 : decode cX7_lossOf 27 = .ok (.iadd, 1) := by decide +kernel
theorem dX7_lossOf_28 : decode cX7_lossOf 28 = .ok (.imul, 1) := by decide +kernel
theorem dX7_lossOf_29 : decode cX7_lossOf 29 = .ok (.bipush 10, 2) := by decide +kernel
theorem dX7_lossOf_31 : decode cX7_lossOf 31 = .ok (.imul, 1) := by decide +kernel
theorem dX7_lossOf_32 : decode cX7_lossOf 32 = .ok (.istore_n 2, 1) := by decide +kernel
theorem dX7_lossOf_33 : decode cX7_lossOf 33 = .ok (.aload_n 0, 1) := by decide +kernel
theorem dX7_lossOf_34 : decode cX7_lossOf 34 = .ok (.iload_n 1, 1) := by decide +kernel
theorem dX7_lossOf_35 : decode cX7_lossOf 35 = .ok (.iconst 5, 1) := by decide +kernel
theorem dX7_lossOf_36 : decode cX7_lossOf 36 = .ok (.invokevirtual 39, 3) := by decide +kernel
theorem dX7_lossOf_39 : decode cX7_lossOf 39 = .ok (.iconst 3, 1) := by decide +kernel
theorem dX7_lossOf_40 : decode cX7_lossOf 40 = .ok (.if_icmp .ne 7, 3) := by decide +kernel
theorem dX7_lossOf_43 : decode cX7_lossOf 43 = .ok (.iload_n 2, 1) := by decide +kernel
theorem dX7_lossOf_44 : decode cX7_lossOf 44 = .ok (.goto 20, 3) := by decide +kernel
theorem dX7_lossOf_47 : decode cX7_lossOf 47 = .ok (.aload_n 0, 1) := by decide +kernel
theorem dX7_lossOf_48 : decode cX7_lossOf 48 = .ok (.iload_n 1, 1) := by decide +kernel
theorem dX7_lossOf_49 : decode cX7_lossOf 49 = .ok (.iconst 5, 1) := by decide +kernel
theorem dX7_lossOf_50 : decode cX7_lossOf 50 = .ok (.invokevirtual 39, 3) := by decide +kernel
theorem dX7_lossOf_53 : decode cX7_lossOf 53 = .ok (.iconst 2, 1) := by decide +kernel
theorem dX7_lossOf_54 : decode cX7_lossOf 54 = .ok (.if_icmp .ne 9, 3) := by decide +kernel
theorem dX7_lossOf_57 : decode cX7_lossOf 57 = .ok (.iload_n 2, 1) := by decide +kernel
theorem dX7_lossOf_58 : decode cX7_lossOf 58 = .ok (.iconst 4, 1) := by decide +kernel
theorem dX7_lossOf_59 : decode cX7_lossOf 59 = .ok (.idiv, 1) := by decide +kernel
theorem dX7_lossOf_60 : decode cX7_lossOf 60 = .ok (.goto 4, 3) := by decide +kernel
theorem dX7_lossOf_63 : decode cX7_lossOf 63 = .ok (.iconst 0, 1) := by decide +kernel
theorem dX7_lossOf_64 : decode cX7_lossOf 64 = .ok (.ireturn, 1) := by decide +kernel
theorem dX7_loss_0 : decode cX7_loss 0 = .ok (.aload_n 0, 1) := by decide +kernel
theorem dX7_loss_1 : decode cX7_loss 1 = .ok (.iload_n 1, 1) := by decide +kernel
theorem dX7_loss_2 : decode cX7_loss 2 = .ok (.invokevirtual 53, 3) := by decide +kernel
theorem dX7_loss_5 : decode cX7_loss 5 = .ok (.ifCond .eq 11, 3) := by decide +kernel
theorem dX7_loss_8 : decode cX7_loss 8 = .ok (.aload_n 0, 1) := by decide +kernel
theorem dX7_loss_9 : decode cX7_loss 9 = .ok (.iload_n 1, 1) := by decide +kernel
theorem dX7_loss_10 : decode cX7_loss 10 = .ok (.invokevirtual 71, 3) := by decide +kernel
theorem dX7_loss_13 : decode cX7_loss 13 = .ok (.goto 5, 3) := by decide +kernel
theorem dX7_loss_16 : decode cX7_loss 16 = .ok (.bipush (-2), 2) := by decide +kernel
theorem dX7_loss_18 : decode cX7_loss 18 = .ok (.ireturn, 1) := by decide +kernel
theorem dX7_lineLoss_0 : decode cX7_lineLoss 0 = .ok (.aload_n 0, 1) := by decide +kernel
theorem dX7_lineLoss_1 : decode cX7_lineLoss 1 = .ok (.iload_n 1, 1) := by decide +kernel
theorem dX7_lineLoss_2 : decode cX7_lineLoss 2 = .ok (.invokevirtual 50, 3) := by decide +kernel
theorem dX7_lineLoss_5 : decode cX7_lineLoss 5 = .ok (.ifCond .ne 6, 3) := by decide +kernel
theorem dX7_lineLoss_8 : decode cX7_lineLoss 8 = .ok (.bipush (-2), 2) := by decide +kernel
theorem dX7_lineLoss_10 : decode cX7_lineLoss 10 = .ok (.ireturn, 1) := by decide +kernel
theorem dX7_lineLoss_11 : decode cX7_lineLoss 11 = .ok (.iconst 0, 1) := by decide +kernel
theorem dX7_lineLoss_12 : decode cX7_lineLoss 12 = .ok (.istore_n 2, 1) := by decide +kernel
theorem dX7_lineLoss_13 : decode cX7_lineLoss 13 = .ok (.iconst 0, 1) := by decide +kernel
theorem dX7_lineLoss_14 : decode cX7_lineLoss 14 = .ok (.istore_n 3, 1) := by decide +kernel
theorem dX7_lineLoss_15 : decode cX7_lineLoss 15 = .ok (.iload_n 3, 1) := by decide +kernel
theorem dX7_lineLoss_16 : decode cX7_lineLoss 16 = .ok (.aload_n 0, 1) := by decide +kernel
theorem dX7_lineLoss_17 : decode cX7_lineLoss 17 = .ok (.getfield 7, 3) := by decide +kernel
theorem dX7_lineLoss_20 : decode cX7_lineLoss 20 = .ok (.iconst 1, 1) := by decide +kernel
theorem dX7_lineLoss_21 : decode cX7_lineLoss 21 = .ok (.iaload, 1) := by decide +kernel
theorem dX7_lineLoss_22 : decode cX7_lineLoss 22 = .ok (.if_icmp .ge 31, 3) := by decide +kernel
theorem dX7_lineLoss_25 : decode cX7_lineLoss 25 = .ok (.iload_n 2, 1) := by decide +kernel
theorem dX7_lineLoss_26 : decode cX7_lineLoss 26 = .ok (.aload_n 0, 1) := by decide +kernel
theorem dX7_lineLoss_27 : decode cX7_lineLoss 27 = .ok (.iload_n 3, 1) := by decide +kernel
theorem dX7_lineLoss_28 : decode cX7_lineLoss 28 = .ok (.iconst 0, 1) := by decide +kernel
theorem dX7_lineLoss_29 : decode cX7_lineLoss 29 = .ok (.invokevirtual 39, 3) := by decide +kernel
theorem dX7_lineLoss_32 : decode cX7_lineLoss 32 = .ok (.iload_n 1, 1) := by decide +kernel
theorem dX7_lineLoss_33 : decode cX7_lineLoss 33 = .ok (.if_icmp .ne 11, 3) := by decide +kernel
theorem dX7_lineLoss_36 : decode cX7_lineLoss 36 = .ok (.aload_n 0, 1) := by decide +kernel
theorem dX7_lineLoss_37 : decode cX7_lineLoss 37 = .ok (.iload_n 3, 1) := by decide +kernel
theorem dX7_lineLoss_38 : decode cX7_lineLoss 38 = .ok (.invokevirtual 71, 3) := by decide +kernel
theorem dX7_lineLoss_41 : decode cX7_lineLoss 41 = .ok (.goto 4, 3) := by decide +kernel
theorem dX7_lineLoss_44 : decode cX7_lineLoss 44 = .ok (.iconst 0, 1) := by decide +kernel
theorem dX7_lineLoss_45 : decode cX7_lineLoss 45 = .ok (.iadd, 1) := by decide +kernel
theorem dX7_lineLoss_46 : decode cX7_lineLoss 46 = .ok (.istore_n 2, 1) := by decide +kernel
theorem dX7_lineLoss_47 : decode cX7_lineLoss 47 = .ok (.iinc 3 1, 3) := by decide +kernel
theorem dX7_lineLoss_50 : decode cX7_lineLoss 50 = .ok (.goto (-35), 3) := by decide +kernel
theorem dX7_lineLoss_53 : decode cX7_lineLoss 53 = .ok (.iload_n 2, 1) := by decide +kernel
theorem dX7_lineLoss_54 : decode cX7_lineLoss 54 = .ok (.ireturn, 1) := by decide +kernel
theorem dX7_headerLoss_0 : decode cX7_headerLoss 0 = .ok (.iload_n 1, 1) := by decide +kernel
theorem dX7_headerLoss_1 : decode cX7_headerLoss 1 = .ok (.invokestatic 43, 3) := by decide +kernel
theorem dX7_headerLoss_4 : decode cX7_headerLoss 4 = .ok (.ifCond .ne 6, 3) := by decide +kernel
theorem dX7_headerLoss_7 : decode cX7_headerLoss 7 = .ok (.bipush (-2), 2) := by decide +kernel
theorem dX7_headerLoss_9 : decode cX7_headerLoss 9 = .ok (.ireturn, 1) := by decide +kernel
theorem dX7_headerLoss_10 : decode cX7_headerLoss 10 = .ok (.iconst 0, 1) := by decide +kernel
theorem dX7_headerLoss_11 : decode cX7_headerLoss 11 = .ok (.istore_n 2, 1) := by decide +kernel
theorem dX7_headerLoss_12 : decode cX7_headerLoss 12 = .ok (.iconst 0, 1) := by decide +kernel
theorem dX7_headerLoss_13 : decode cX7_headerLoss 13 = .ok (.istore_n 3, 1) := by decide +kernel
theorem dX7_headerLoss_14 : decode cX7_headerLoss 14 = .ok (.iload_n 3, 1) := by decide +kernel
theorem dX7_headerLoss_15 : decode cX7_headerLoss 15 = .ok (.aload_n 0, 1) := by decide +kernel
theorem dX7_headerLoss_16 : decode cX7_headerLoss 16 = .ok (.getfield 7, 3) := by decide +kernel
theorem dX7_headerLoss_19 : decode cX7_headerLoss 19 = .ok (.iconst 1, 1) := by decide +kernel
theorem dX7_headerLoss_20 : decode cX7_headerLoss 20 = .ok (.iaload, 1) := by decide +kernel
theorem dX7_headerLoss_21 : decode cX7_headerLoss 21 = .ok (.if_icmp .ge 30, 3) := by decide +kernel
theorem dX7_headerLoss_24 : decode cX7_headerLoss 24 = .ok (.iload_n 2, 1) := by decide +kernel
theorem dX7_headerLoss_25 : decode cX7_headerLoss 25 = .ok (.aload_n 0, 1) := by decide +kernel
theorem dX7_headerLoss_26 : decode cX7_headerLoss 26 = .ok (.iload_n 3, 1) := by decide +kernel
theorem dX7_headerLoss_27 : decode cX7_headerLoss 27 = .ok (.invokevirtual 56, 3) := by decide +kernel
theorem dX7_headerLoss_30 : decode cX7_headerLoss 30 = .ok (.iload_n 1, 1) := by decide +kernel
theorem dX7_headerLoss_31 : decode cX7_headerLoss 31 = .ok (.if_icmp .ne 11, 3) := by decide +kernel
theorem dX7_headerLoss_34 : decode cX7_headerLoss 34 = .ok (.aload_n 0, 1) := by decide +kernel
theorem dX7_headerLoss_35 : decode cX7_headerLoss 35 = .ok (.iload_n 3, 1) := by decide +kernel
theorem dX7_headerLoss_36 : decode cX7_headerLoss 36 = .ok (.invokevirtual 71, 3) := by decide +kernel
theorem dX7_headerLoss_39 : decode cX7_headerLoss 39 = .ok (.goto 4, 3) := by decide +kernel
theorem dX7_headerLoss_42 : decode cX7_headerLoss 42 = .ok (.iconst 0, 1) := by decide +kernel
theorem dX7_headerLoss_43 : decode cX7_headerLoss 43 = .ok (.iadd, 1) := by decide +kernel
theorem dX7_headerLoss_44 : decode cX7_headerLoss 44 = .ok (.istore_n 2, 1) := by decide +kernel
theorem dX7_headerLoss_45 : decode cX7_headerLoss 45 = .ok (.iinc 3 1, 3) := by decide +kernel
theorem dX7_headerLoss_48 : decode cX7_headerLoss 48 = .ok (.goto (-34), 3) := by decide +kernel
theorem dX7_headerLoss_51 : decode cX7_headerLoss 51 = .ok (.iload_n 2, 1) := by decide +kernel
theorem dX7_headerLoss_52 : decode cX7_headerLoss 52 = .ok (.ireturn, 1) := by decide +kernel
theorem dX7_lost_0 : decode cX7_lost 0 = .ok (.iload_n 1, 1) := by decide +kernel
theorem dX7_lost_1 : decode cX7_lost 1 = .ok (.iconst (-1), 1) := by decide +kernel
theorem dX7_lost_2 : decode cX7_lost 2 = .ok (.if_icmp .eq 24, 3) := by decide +kernel
theorem dX7_lost_5 : decode cX7_lost 5 = .ok (.aload_n 0, 1) := by decide +kernel
theorem dX7_lost_6 : decode cX7_lost 6 = .ok (.iload_n 1, 1) := by decide +kernel
theorem dX7_lost_7 : decode cX7_lost 7 = .ok (.invokevirtual 53, 3) := by decide +kernel
theorem dX7_lost_10 : decode cX7_lost 10 = .ok (.ifCond .eq 12, 3) := by decide +kernel
theorem dX7_lost_13 : decode cX7_lost 13 = .ok (.aload_n 0, 1) := by decide +kernel
theorem dX7_lost_14 : decode cX7_lost 14 = .ok (.getfield 13, 3) := by decide +kernel
theorem dX7_lost_17 : decode cX7_lost 17 = .ok (.iload_n 1, 1) := by decide +kernel
theorem dX7_lost_18 : decode cX7_lost 18 = .ok (.laload, 1) := by decide +kernel
theorem dX7_lost_19 : decode cX7_lost 19 = .ok (.goto 6, 3) := by decide +kernel
theorem dX7_lost_22 : decode cX7_lost 22 = .ok (.ldc2_w 74, 3) := by decide +kernel
theorem dX7_lost_25 : decode cX7_lost 25 = .ok (.lreturn, 1) := by decide +kernel
theorem dX7_lost_26 : decode cX7_lost 26 = .ok (.lconst 0, 1) := by decide +kernel
theorem dX7_lost_27 : decode cX7_lost 27 = .ok (.lstore_n 2, 1) := by decide +kernel
theorem dX7_lost_28 : decode cX7_lost 28 = .ok (.iconst 0, 1) := by decide +kernel
theorem dX7_lost_29 : decode cX7_lost 29 = .ok (.istore 4, 2) := by decide +kernel
theorem dX7_lost_31 : decode cX7_lost 31 = .ok (.iload 4, 2) := by decide +kernel
theorem dX7_lost_33 : decode cX7_lost 33 = .ok (.aload_n 0, 1) := by decide +kernel
theorem dX7_lost_34 : decode cX7_lost 34 = .ok (.getfield 7, 3) := by decide +kernel
theorem dX7_lost_37 : decode cX7_lost 37 = .ok (.iconst 1, 1) := by decide +kernel
theorem dX7_lost_38 : decode cX7_lost 38 = .ok (.iaload, 1) := by decide +kernel
theorem dX7_lost_39 : decode cX7_lost 39 = .ok (.if_icmp .ge 19, 3) := by decide +kernel
theorem dX7_lost_42 : decode cX7_lost 42 = .ok (.lload_n 2, 1) := by decide +kernel
theorem dX7_lost_43 : decode cX7_lost 43 = .ok (.aload_n 0, 1) := by decide +kernel
theorem dX7_lost_44 : decode cX7_lost 44 = .ok (.getfield 13, 3) := by decide +kernel
theorem dX7_lost_47 : decode cX7_lost 47 = .ok (.iload 4, 2) := by decide +kernel
theorem dX7_lost_49 : decode cX7_lost 49 = .ok (.laload, 1) := by decide +kernel
theorem dX7_lost_50 : decode cX7_lost 50 = .ok (.ladd, 1) := by decide +kernel
theorem dX7_lost_51 : decode cX7_lost 51 = .ok (.lstore_n 2, 1) := by decide +kernel
theorem dX7_lost_52 : decode cX7_lost 52 = .ok (.iinc 4 1, 3) := by decide +kernel
theorem dX7_lost_55 : decode cX7_lost 55 = .ok (.goto (-24), 3) := by decide +kernel
theorem dX7_lost_58 : decode cX7_lost 58 = .ok (.lload_n 2, 1) := by decide +kernel
theorem dX7_lost_59 : decode cX7_lost 59 = .ok (.lreturn, 1) := by decide +kernel
theorem dX7_worth_0 : decode cX7_worth 0 = .ok (.aload_n 0, 1) := by decide +kernel
theorem dX7_worth_1 : decode cX7_worth 1 = .ok (.iload_n 1, 1) := by decide +kernel
theorem dX7_worth_2 : decode cX7_worth 2 = .ok (.invokevirtual 71, 3) := by decide +kernel
theorem dX7_worth_5 : decode cX7_worth 5 = .ok (.i2l, 1) := by decide +kernel
theorem dX7_worth_6 : decode cX7_worth 6 = .ok (.aload_n 0, 1) := by decide +kernel
theorem dX7_worth_7 : decode cX7_worth 7 = .ok (.getfield 7, 3) := by decide +kernel
theorem dX7_worth_10 : decode cX7_worth 10 = .ok (.iconst 2, 1) := by decide +kernel
theorem dX7_worth_11 : decode cX7_worth 11 = .ok (.iaload, 1) := by decide +kernel
theorem dX7_worth_12 : decode cX7_worth 12 = .ok (.i2l, 1) := by decide +kernel
theorem dX7_worth_13 : decode cX7_worth 13 = .ok (.lmul, 1) := by decide +kernel
theorem dX7_worth_14 : decode cX7_worth 14 = .ok (.aload_n 0, 1) := by decide +kernel
theorem dX7_worth_15 : decode cX7_worth 15 = .ok (.getfield 7, 3) := by decide +kernel
theorem dX7_worth_18 : decode cX7_worth 18 = .ok (.iconst 3, 1) := by decide +kernel
theorem dX7_worth_19 : decode cX7_worth 19 = .ok (.iaload, 1) := by decide +kernel
theorem dX7_worth_20 : decode cX7_worth 20 = .ok (.i2l, 1) := by decide +kernel
theorem dX7_worth_21 : decode cX7_worth 21 = .ok (.lmul, 1) := by decide +kernel
theorem dX7_worth_22 : decode cX7_worth 22 = .ok (.lreturn, 1) := by decide +kernel
theorem dX7_saves_0 : decode cX7_saves 0 = .ok (.aload_n 0, 1) := by decide +kernel
theorem dX7_saves_1 : decode cX7_saves 1 = .ok (.iload_n 1, 1) := by decide +kernel
theorem dX7_saves_2 : decode cX7_saves 2 = .ok (.invokevirtual 53, 3) := by decide +kernel
theorem dX7_saves_5 : decode cX7_saves 5 = .ok (.ifCond .eq 15, 3) := by decide +kernel
theorem dX7_saves_8 : decode cX7_saves 8 = .ok (.aload_n 0, 1) := by decide +kernel
theorem dX7_saves_9 : decode cX7_saves 9 = .ok (.iload_n 1, 1) := by decide +kernel
theorem dX7_saves_10 : decode cX7_saves 10 = .ok (.invokevirtual 76, 3) := by decide +kernel
theorem dX7_saves_13 : decode cX7_saves 13 = .ok (.ldc2_w 80, 3) := by decide +kernel
theorem dX7_saves_16 : decode cX7_saves 16 = .ok (.ldiv, 1) := by decide +kernel
theorem dX7_saves_17 : decode cX7_saves 17 = .ok (.goto 6, 3) := by decide +kernel
theorem dX7_saves_20 : decode cX7_saves 20 = .ok (.ldc2_w 74, 3) := by decide +kernel
theorem dX7_saves_23 : decode cX7_saves 23 = .ok (.lreturn, 1) := by decide +kernel
theorem dX7_costOf_0 : decode cX7_costOf 0 = .ok (.aload_n 0, 1) := by decide +kernel
theorem dX7_costOf_1 : decode cX7_costOf 1 = .ok (.iload_n 1, 1) := by decide +kernel
theorem dX7_costOf_2 : decode cX7_costOf 2 = .ok (.iconst 1, 1) := by decide +kernel
theorem dX7_costOf_3 : decode cX7_costOf 3 = .ok (.invokevirtual 39, 3) := by decide +kernel
theorem dX7_costOf_6 : decode cX7_costOf 6 = .ok (.iconst 2, 1) := by decide +kernel
theorem dX7_costOf_7 : decode cX7_costOf 7 = .ok (.if_icmp .ne 18, 3) := by decide +kernel
theorem dX7_costOf_10 : decode cX7_costOf 10 = .ok (.bipush 30, 2) := by decide +kernel
theorem dX7_costOf_12 : decode cX7_costOf 12 = .ok (.bipush 10, 2) := by decide +kernel
theorem dX7_costOf_14 : decode cX7_costOf 14 = .ok (.aload_n 0, 1) := by decide +kernel
theorem dX7_costOf_15 : decode cX7_costOf 15 = .ok (.iload_n 1, 1) := by decide +kernel
theorem dX7_costOf_16 : decode cX7_costOf 16 = .ok (.iconst 2, 1) := by decide +kernel
theorem dX7_costOf_17 : decode cX7_costOf 17 = .ok (.invokevirtual 39, 3) := by decide +kernel
theorem dX7_costOf_20 : decode cX7_costOf 20 = .ok (.imul, 1) := by decide +kernel
theorem dX7_costOf_21 : decode cX7_costOf 21 = .ok (.iadd, 1) := by decide +kernel
theorem dX7_costOf_22 : decode cX7_costOf 22 = .ok (.goto 15, 3) := by decide +kernel
theorem dX7_costOf_25 : decode cX7_costOf 25 = .ok (.bipush 50, 2) := by decide +kernel
theorem dX7_costOf_27 : decode cX7_costOf 27 = .ok (.bipush 20, 2) := by decide +kernel
theorem dX7_costOf_29 : decode cX7_costOf 29 = .ok (.aload_n 0, 1) := by decide +kernel
theorem dX7_costOf_30 : decode cX7_costOf 30 = .ok (.iload_n 1, 1) := by decide +kernel
theorem dX7_costOf_31 : decode cX7_costOf 31 = .ok (.iconst 2, 1) := by decide +kernel
theorem dX7_costOf_32 : decode cX7_costOf 32 = .ok (.invokevirtual 39, 3) := by decide +kernel
theorem dX7_costOf_35 : decode cX7_costOf 35 = .ok (.imul, 1) := by decide +kernel
theorem dX7_costOf_36 : decode cX7_costOf 36 = .ok (.iadd, 1) := by decide +kernel
theorem dX7_costOf_37 : decode cX7_costOf 37 = .ok (.ireturn, 1) := by decide +kernel
theorem dX7_repairCost_0 : decode cX7_repairCost 0 = .ok (.aload_n 0, 1) := by decide +kernel
theorem dX7_repairCost_1 : decode cX7_repairCost 1 = .ok (.iload_n 1, 1) := by decide +kernel
theorem dX7_repairCost_2 : decode cX7_repairCost 2 = .ok (.invokevirtual 53, 3) := by decide +kernel
theorem dX7_repairCost_5 : decode cX7_repairCost 5 = .ok (.ifCond .eq 11, 3) := by decide +kernel
theorem dX7_repairCost_8 : decode cX7_repairCost 8 = .ok (.aload_n 0, 1) := by decide +kernel
theorem dX7_repairCost_9 : decode cX7_repairCost 9 = .ok (.iload_n 1, 1) := by decide +kernel
theorem dX7_repairCost_10 : decode cX7_repairCost 10 = .ok (.invokevirtual 82, 3) := by decide +kernel
theorem dX7_repairCost_13 : decode cX7_repairCost 13 = .ok (.goto 5, 3) := by decide +kernel
theorem dX7_repairCost_16 : decode cX7_repairCost 16 = .ok (.bipush (-2), 2) := by decide +kernel
theorem dX7_repairCost_18 : decode cX7_repairCost 18 = .ok (.ireturn, 1) := by decide +kernel
theorem dX7_paysBack_0 : decode cX7_paysBack 0 = .ok (.aload_n 0, 1) := by decide +kernel
theorem dX7_paysBack_1 : decode cX7_paysBack 1 = .ok (.iload_n 1, 1) := by decide +kernel
theorem dX7_paysBack_2 : decode cX7_paysBack 2 = .ok (.invokevirtual 76, 3) := by decide +kernel
theorem dX7_paysBack_5 : decode cX7_paysBack 5 = .ok (.lstore_n 2, 1) := by decide +kernel
theorem dX7_paysBack_6 : decode cX7_paysBack 6 = .ok (.lload_n 2, 1) := by decide +kernel
theorem dX7_paysBack_7 : decode cX7_paysBack 7 = .ok (.lconst 0, 1) := by decide +kernel
theorem dX7_paysBack_8 : decode cX7_paysBack 8 = .ok (.lcmp, 1) := by decide +kernel
theorem dX7_paysBack_9 : decode cX7_paysBack 9 = .ok (.ifCond .ne 9, 3) := by decide +kernel
theorem dX7_paysBack_12 : decode cX7_paysBack 12 = .ok (.ldc2_w 85, 3) := by decide +kernel
theorem dX7_paysBack_15 : decode cX7_paysBack 15 = .ok (.goto 19, 3) := by decide +kernel
theorem dX7_paysBack_18 : decode cX7_paysBack 18 = .ok (.ldc2_w 80, 3) := by decide +kernel
theorem dX7_paysBack_21 : decode cX7_paysBack 21 = .ok (.aload_n 0, 1) := by decide +kernel
theorem dX7_paysBack_22 : decode cX7_paysBack 22 = .ok (.iload_n 1, 1) := by decide +kernel
theorem dX7_paysBack_23 : decode cX7_paysBack 23 = .ok (.invokevirtual 82, 3) := by decide +kernel
theorem dX7_paysBack_26 : decode cX7_paysBack 26 = .ok (.i2l, 1) := by decide +kernel
theorem dX7_paysBack_27 : decode cX7_paysBack 27 = .ok (.lmul, 1) := by decide +kernel
theorem dX7_paysBack_28 : decode cX7_paysBack 28 = .ok (.lload_n 2, 1) := by decide +kernel
theorem dX7_paysBack_29 : decode cX7_paysBack 29 = .ok (.ladd, 1) := by decide +kernel
theorem dX7_paysBack_30 : decode cX7_paysBack 30 = .ok (.lconst 1, 1) := by decide +kernel
theorem dX7_paysBack_31 : decode cX7_paysBack 31 = .ok (.lsub, 1) := by decide +kernel
theorem dX7_paysBack_32 : decode cX7_paysBack 32 = .ok (.lload_n 2, 1) := by decide +kernel
theorem dX7_paysBack_33 : decode cX7_paysBack 33 = .ok (.ldiv, 1) := by decide +kernel
theorem dX7_paysBack_34 : decode cX7_paysBack 34 = .ok (.lreturn, 1) := by decide +kernel
theorem dX7_payback_0 : decode cX7_payback 0 = .ok (.aload_n 0, 1) := by decide +kernel
theorem dX7_payback_1 : decode cX7_payback 1 = .ok (.iload_n 1, 1) := by decide +kernel
theorem dX7_payback_2 : decode cX7_payback 2 = .ok (.invokevirtual 53, 3) := by decide +kernel
theorem dX7_payback_5 : decode cX7_payback 5 = .ok (.ifCond .eq 11, 3) := by decide +kernel
theorem dX7_payback_8 : decode cX7_payback 8 = .ok (.aload_n 0, 1) := by decide +kernel
theorem dX7_payback_9 : decode cX7_payback 9 = .ok (.iload_n 1, 1) := by decide +kernel
theorem dX7_payback_10 : decode cX7_payback 10 = .ok (.invokevirtual 87, 3) := by decide +kernel
theorem dX7_payback_13 : decode cX7_payback 13 = .ok (.goto 6, 3) := by decide +kernel
theorem dX7_payback_16 : decode cX7_payback 16 = .ok (.ldc2_w 74, 3) := by decide +kernel
theorem dX7_payback_19 : decode cX7_payback 19 = .ok (.lreturn, 1) := by decide +kernel
theorem dX7_isAhead_0 : decode cX7_isAhead 0 = .ok (.aload_n 0, 1) := by decide +kernel
theorem dX7_isAhead_1 : decode cX7_isAhead 1 = .ok (.iload_n 1, 1) := by decide +kernel
theorem dX7_isAhead_2 : decode cX7_isAhead 2 = .ok (.invokevirtual 87, 3) := by decide +kernel
theorem dX7_isAhead_5 : decode cX7_isAhead 5 = .ok (.aload_n 0, 1) := by decide +kernel
theorem dX7_isAhead_6 : decode cX7_isAhead 6 = .ok (.iload_n 2, 1) := by decide +kernel
theorem dX7_isAhead_7 : decode cX7_isAhead 7 = .ok (.invokevirtual 87, 3) := by decide +kernel
theorem dX7_isAhead_10 : decode cX7_isAhead 10 = .ok (.lcmp, 1) := by decide +kernel
theorem dX7_isAhead_11 : decode cX7_isAhead 11 = .ok (.ifCond .eq 23, 3) := by decide +kernel
theorem dX7_isAhead_14 : decode cX7_isAhead 14 = .ok (.aload_n 0, 1) := by decide +kernel
theorem dX7_isAhead_15 : decode cX7_isAhead 15 = .ok (.iload_n 1, 1) := by decide +kernel
theorem dX7_isAhead_16 : decode cX7_isAhead 16 = .ok (.invokevirtual 87, 3) := by decide +kernel
theorem dX7_isAhead_19 : decode cX7_isAhead 19 = .ok (.aload_n 0, 1) := by decide +kernel
theorem dX7_isAhead_20 : decode cX7_isAhead 20 = .ok (.iload_n 2, 1) := by decide +kernel
theorem dX7_isAhead_21 : decode cX7_isAhead 21 = .ok (.invokevirtual 87, 3) := by decide +kernel
theorem dX7_isAhead_24 : decode cX7_isAhead 24 = .ok (.lcmp, 1) := by decide +kernel
theorem dX7_isAhead_25 : decode cX7_isAhead 25 = .ok (.ifCond .ge 7, 3) := by decide +kernel
theorem dX7_isAhead_28 : decode cX7_isAhead 28 = .ok (.iconst 1, 1) := by decide +kernel
theorem dX7_isAhead_29 : decode cX7_isAhead 29 = .ok (.goto 4, 3) := by decide +kernel
theorem dX7_isAhead_32 : decode cX7_isAhead 32 = .ok (.iconst 0, 1) := by decide +kernel
theorem dX7_isAhead_33 : decode cX7_isAhead 33 = .ok (.ireturn, 1) := by decide +kernel
theorem dX7_isAhead_34 : decode cX7_isAhead 34 = .ok (.aload_n 0, 1) := by decide +kernel
theorem dX7_isAhead_35 : decode cX7_isAhead 35 = .ok (.iload_n 1, 1) := by decide +kernel
theorem dX7_isAhead_36 : decode cX7_isAhead 36 = .ok (.invokevirtual 71, 3) := by decide +kernel
theorem dX7_isAhead_39 : decode cX7_isAhead 39 = .ok (.aload_n 0, 1) := by decide +kernel
theorem dX7_isAhead_40 : decode cX7_isAhead 40 = .ok (.iload_n 2, 1) := by decide +kernel
theorem dX7_isAhead_41 : decode cX7_isAhead 41 = .ok (.invokevirtual 71, 3) := by decide +kernel
theorem dX7_isAhead_44 : decode cX7_isAhead 44 = .ok (.if_icmp .gt 21, 3) := by decide +kernel
theorem dX7_isAhead_47 : decode cX7_isAhead 47 = .ok (.aload_n 0, 1) := by decide +kernel
theorem dX7_isAhead_48 : decode cX7_isAhead 48 = .ok (.iload_n 1, 1) := by decide +kernel
theorem dX7_isAhead_49 : decode cX7_isAhead 49 = .ok (.invokevirtual 71, 3) := by decide +kernel
theorem dX7_isAhead_52 : decode cX7_isAhead 52 = .ok (.aload_n 0, 1) := by decide +kernel
theorem dX7_isAhead_53 : decode cX7_isAhead 53 = .ok (.iload_n 2, 1) := by decide +kernel
theorem dX7_isAhead_54 : decode cX7_isAhead 54 = .ok (.invokevirtual 71, 3) := by decide +kernel
theorem dX7_isAhead_57 : decode cX7_isAhead 57 = .ok (.if_icmp .ne 12, 3) := by decide +kernel
theorem dX7_isAhead_60 : decode cX7_isAhead 60 = .ok (.iload_n 1, 1) := by decide +kernel
theorem dX7_isAhead_61 : decode cX7_isAhead 61 = .ok (.iload_n 2, 1) := by decide +kernel
theorem dX7_isAhead_62 : decode cX7_isAhead 62 = .ok (.if_icmp .ge 7, 3) := by decide +kernel
theorem dX7_isAhead_65 : decode cX7_isAhead 65 = .ok (.iconst 1, 1) := by decide +kernel
theorem dX7_isAhead_66 : decode cX7_isAhead 66 = .ok (.goto 4, 3) := by decide +kernel
theorem dX7_isAhead_69 : decode cX7_isAhead 69 = .ok (.iconst 0, 1) := by decide +kernel
theorem dX7_isAhead_70 : decode cX7_isAhead 70 = .ok (.ireturn, 1) := by decide +kernel
theorem dX7_ranked_0 : decode cX7_ranked 0 = .ok (.iconst 0, 1) := by decide +kernel
theorem dX7_ranked_1 : decode cX7_ranked 1 = .ok (.istore_n 2, 1) := by decide +kernel
theorem dX7_ranked_2 : decode cX7_ranked 2 = .ok (.iload_n 2, 1) := by decide +kernel
theorem dX7_ranked_3 : decode cX7_ranked 3 = .ok (.aload_n 0, 1) := by decide +kernel
theorem dX7_ranked_4 : decode cX7_ranked 4 = .ok (.getfield 7, 3) := by decide +kernel
theorem dX7_ranked_7 : decode cX7_ranked 7 = .ok (.iconst 1, 1) := by decide +kernel
theorem dX7_ranked_8 : decode cX7_ranked 8 = .ok (.iaload, 1) := by decide +kernel
theorem dX7_ranked_9 : decode cX7_ranked 9 = .ok (.if_icmp .ge 79, 3) := by decide +kernel
theorem dX7_ranked_12 : decode cX7_ranked 12 = .ok (.iconst 0, 1) := by decide +kernel
theorem dX7_ranked_13 : decode cX7_ranked 13 = .ok (.istore_n 3, 1) := by decide +kernel
theorem dX7_ranked_14 : decode cX7_ranked 14 = .ok (.iconst 0, 1) := by decide +kernel
theorem dX7_ranked_15 : decode cX7_ranked 15 = .ok (.istore 4, 2) := by decide +kernel
theorem dX7_ranked_17 : decode cX7_ranked 17 = .ok (.iload 4, 2) := by decide +kernel
theorem dX7_ranked_19 : decode cX7_ranked 19 = .ok (.aload_n 0, 1) := by decide +kernel
theorem dX7_ranked_20 : decode cX7_ranked 20 = .ok (.getfield 7, 3) := by decide +kernel
theorem dX7_ranked_23 : decode cX7_ranked 23 = .ok (.iconst 1, 1) := by decide +kernel
theorem dX7_ranked_24 : decode cX7_ranked 24 = .ok (.iaload, 1) := by decide +kernel
theorem dX7_ranked_25 : decode cX7_ranked 25 = .ok (.if_icmp .ge 42, 3) := by decide +kernel
theorem dX7_ranked_28 : decode cX7_ranked 28 = .ok (.iload_n 3, 1) := by decide +kernel
theorem dX7_ranked_29 : decode cX7_ranked 29 = .ok (.iload 4, 2) := by decide +kernel
theorem dX7_ranked_31 : decode cX7_ranked 31 = .ok (.iload_n 2, 1) := by decide +kernel
theorem dX7_ranked_32 : decode cX7_ranked 32 = .ok (.if_icmp .eq 26, 3) := by decide +kernel
theorem dX7_ranked_35 : decode cX7_ranked 35 = .ok (.aload_n 0, 1) := by decide +kernel
theorem dX7_ranked_36 : decode cX7_ranked 36 = .ok (.iload 4, 2) := by decide +kernel
theorem dX7_ranked_38 : decode cX7_ranked 38 = .ok (.invokevirtual 71, 3) := by decide +kernel
theorem dX7_ranked_41 : decode cX7_ranked 41 = .ok (.ifCond .le 17, 3) := by decide +kernel
theorem dX7_ranked_44 : decode cX7_ranked 44 = .ok (.aload_n 0, 1) := by decide +kernel
theorem dX7_ranked_45 : decode cX7_ranked 45 = .ok (.iload 4, 2) := by decide +kernel
theorem dX7_ranked_47 : decode cX7_ranked 47 = .ok (.iload_n 2, 1) := by decide +kernel
theorem dX7_ranked_48 : decode cX7_ranked 48 = .ok (.invokevirtual 90, 3) := by decide +kernel
theorem dX7_ranked_51 : decode cX7_ranked 51 = .ok (.ifCond .eq 7, 3) := by decide +kernel
theorem dX7_ranked_54 : decode cX7_ranked 54 = .ok (.iconst 1, 1) := by decide +kernel
theorem dX7_ranked_55 : decode cX7_ranked 55 = .ok (.goto 4, 3) := by decide +kernel
theorem dX7_ranked_58 : decode cX7_ranked 58 = .ok (.iconst 0, 1) := by decide +kernel
theorem dX7_ranked_59 : decode cX7_ranked 59 = .ok (.iadd, 1) := by decide +kernel
theorem dX7_ranked_60 : decode cX7_ranked 60 = .ok (.istore_n 3, 1) := by decide +kernel
theorem dX7_ranked_61 : decode cX7_ranked 61 = .ok (.iinc 4 1, 3) := by decide +kernel
theorem dX7_ranked_64 : decode cX7_ranked 64 = .ok (.goto (-47), 3) := by decide +kernel
theorem dX7_ranked_67 : decode cX7_ranked 67 = .ok (.aload_n 0, 1) := by decide +kernel
theorem dX7_ranked_68 : decode cX7_ranked 68 = .ok (.iload_n 2, 1) := by decide +kernel
theorem dX7_ranked_69 : decode cX7_ranked 69 = .ok (.invokevirtual 71, 3) := by decide +kernel
theorem dX7_ranked_72 : decode cX7_ranked 72 = .ok (.ifCond .le 10, 3) := by decide +kernel
theorem dX7_ranked_75 : decode cX7_ranked 75 = .ok (.iload_n 3, 1) := by decide +kernel
theorem dX7_ranked_76 : decode cX7_ranked 76 = .ok (.iload_n 1, 1) := by decide +kernel
theorem dX7_ranked_77 : decode cX7_ranked 77 = .ok (.if_icmp .ne 5, 3) := by decide +kernel
theorem dX7_ranked_80 : decode cX7_ranked 80 = .ok (.iload_n 2, 1) := by decide +kernel
theorem dX7_ranked_81 : decode cX7_ranked 81 = .ok (.ireturn, 1) := by decide +kernel
theorem dX7_ranked_82 : decode cX7_ranked 82 = .ok (.iinc 2 1, 3) := by decide +kernel
theorem dX7_ranked_85 : decode cX7_ranked 85 = .ok (.goto (-83), 3) := by decide +kernel
theorem dX7_ranked_88 : decode cX7_ranked 88 = .ok (.iconst (-1), 1) := by decide +kernel
theorem dX7_ranked_89 : decode cX7_ranked 89 = .ok (.ireturn, 1) := by decide +kernel
theorem dX7_order_0 : decode cX7_order 0 = .ok (.iload_n 1, 1) := by decide +kernel
theorem dX7_order_1 : decode cX7_order 1 = .ok (.ifCond .ge 8, 3) := by decide +kernel
theorem dX7_order_4 : decode cX7_order 4 = .ok (.bipush (-3), 2) := by decide +kernel
theorem dX7_order_6 : decode cX7_order 6 = .ok (.goto 8, 3) := by decide +kernel
theorem dX7_order_9 : decode cX7_order 9 = .ok (.aload_n 0, 1) := by decide +kernel
theorem dX7_order_10 : decode cX7_order 10 = .ok (.iload_n 1, 1) := by decide +kernel
theorem dX7_order_11 : decode cX7_order 11 = .ok (.invokevirtual 94, 3) := by decide +kernel
theorem dX7_order_14 : decode cX7_order 14 = .ok (.ireturn, 1) := by decide +kernel
theorem dX7_repairs_0 : decode cX7_repairs 0 = .ok (.aload_n 0, 1) := by decide +kernel
theorem dX7_repairs_1 : decode cX7_repairs 1 = .ok (.getfield 7, 3) := by decide +kernel
theorem dX7_repairs_4 : decode cX7_repairs 4 = .ok (.bipush 19, 2) := by decide +kernel
theorem dX7_repairs_6 : decode cX7_repairs 6 = .ok (.bipush 7, 2) := by decide +kernel
theorem dX7_repairs_8 : decode cX7_repairs 8 = .ok (.iload_n 1, 1) := by decide +kernel
theorem dX7_repairs_9 : decode cX7_repairs 9 = .ok (.imul, 1) := by decide +kernel
theorem dX7_repairs_10 : decode cX7_repairs 10 = .ok (.iadd, 1) := by decide +kernel
theorem dX7_repairs_11 : decode cX7_repairs 11 = .ok (.iconst 5, 1) := by decide +kernel
theorem dX7_repairs_12 : decode cX7_repairs 12 = .ok (.iadd, 1) := by decide +kernel
theorem dX7_repairs_13 : decode cX7_repairs 13 = .ok (.iconst 1, 1) := by decide +kernel
theorem dX7_repairs_14 : decode cX7_repairs 14 = .ok (.iastore, 1) := by decide +kernel
theorem dX7_repairs_15 : decode cX7_repairs 15 = .ok (.aload_n 0, 1) := by decide +kernel
theorem dX7_repairs_16 : decode cX7_repairs 16 = .ok (.getfield 7, 3) := by decide +kernel
theorem dX7_repairs_19 : decode cX7_repairs 19 = .ok (.bipush 6, 2) := by decide +kernel
theorem dX7_repairs_21 : decode cX7_repairs 21 = .ok (.dup2, 1) := by decide +kernel
theorem dX7_repairs_22 : decode cX7_repairs 22 = .ok (.iaload, 1) := by decide +kernel
theorem dX7_repairs_23 : decode cX7_repairs 23 = .ok (.aload_n 0, 1) := by decide +kernel
theorem dX7_repairs_24 : decode cX7_repairs 24 = .ok (.iload_n 1, 1) := by decide +kernel
theorem dX7_repairs_25 : decode cX7_repairs 25 = .ok (.invokevirtual 82, 3) := by decide +kernel
theorem dX7_repairs_28 : decode cX7_repairs 28 = .ok (.iadd, 1) := by decide +kernel
theorem dX7_repairs_29 : decode cX7_repairs 29 = .ok (.iastore, 1) := by decide +kernel
theorem dX7_repairs_30 : decode cX7_repairs 30 = .ok (.aload_n 0, 1) := by decide +kernel
theorem dX7_repairs_31 : decode cX7_repairs 31 = .ok (.getfield 7, 3) := by decide +kernel
theorem dX7_repairs_34 : decode cX7_repairs 34 = .ok (.bipush 7, 2) := by decide +kernel
theorem dX7_repairs_36 : decode cX7_repairs 36 = .ok (.dup2, 1) := by decide +kernel
theorem dX7_repairs_37 : decode cX7_repairs 37 = .ok (.iaload, 1) := by decide +kernel
theorem dX7_repairs_38 : decode cX7_repairs 38 = .ok (.iconst 1, 1) := by decide +kernel
theorem dX7_repairs_39 : decode cX7_repairs 39 = .ok (.iadd, 1) := by decide +kernel
theorem dX7_repairs_40 : decode cX7_repairs 40 = .ok (.iastore, 1) := by decide +kernel
theorem dX7_repairs_41 : decode cX7_repairs 41 = .ok (.return_, 1) := by decide +kernel
theorem dX7_repair_0 : decode cX7_repair 0 = .ok (.aload_n 0, 1) := by decide +kernel
theorem dX7_repair_1 : decode cX7_repair 1 = .ok (.iload_n 1, 1) := by decide +kernel
theorem dX7_repair_2 : decode cX7_repair 2 = .ok (.invokevirtual 53, 3) := by decide +kernel
theorem dX7_repair_5 : decode cX7_repair 5 = .ok (.ifCond .ne 6, 3) := by decide +kernel
theorem dX7_repair_8 : decode cX7_repair 8 = .ok (.bipush (-2), 2) := by decide +kernel
theorem dX7_repair_10 : decode cX7_repair 10 = .ok (.ireturn, 1) := by decide +kernel
theorem dX7_repair_11 : decode cX7_repair 11 = .ok (.aload_n 0, 1) := by decide +kernel
theorem dX7_repair_12 : decode cX7_repair 12 = .ok (.iload_n 1, 1) := by decide +kernel
theorem dX7_repair_13 : decode cX7_repair 13 = .ok (.iconst 5, 1) := by decide +kernel
theorem dX7_repair_14 : decode cX7_repair 14 = .ok (.invokevirtual 39, 3) := by decide +kernel
theorem dX7_repair_17 : decode cX7_repair 17 = .ok (.iconst 2, 1) := by decide +kernel
theorem dX7_repair_18 : decode cX7_repair 18 = .ok (.if_icmp .ge 6, 3) := by decide +kernel
theorem dX7_repair_21 : decode cX7_repair 21 = .ok (.bipush (-4), 2) := by decide +kernel
theorem dX7_repair_23 : decode cX7_repair 23 = .ok (.ireturn, 1) := by decide +kernel
theorem dX7_repair_24 : decode cX7_repair 24 = .ok (.aload_n 0, 1) := by decide +kernel
theorem dX7_repair_25 : decode cX7_repair 25 = .ok (.invokevirtual 47, 3) := by decide +kernel
theorem dX7_repair_28 : decode cX7_repair 28 = .ok (.aload_n 0, 1) := by decide +kernel
theorem dX7_repair_29 : decode cX7_repair 29 = .ok (.iload_n 1, 1) := by decide +kernel
theorem dX7_repair_30 : decode cX7_repair 30 = .ok (.invokevirtual 97, 3) := by decide +kernel
theorem dX7_repair_33 : decode cX7_repair 33 = .ok (.aload_n 0, 1) := by decide +kernel
theorem dX7_repair_34 : decode cX7_repair 34 = .ok (.iload_n 1, 1) := by decide +kernel
theorem dX7_repair_35 : decode cX7_repair 35 = .ok (.invokevirtual 82, 3) := by decide +kernel
theorem dX7_repair_38 : decode cX7_repair 38 = .ok (.ireturn, 1) := by decide +kernel
theorem dX7_repairAll_0 : decode cX7_repairAll 0 = .ok (.iload_n 1, 1) := by decide +kernel
theorem dX7_repairAll_1 : decode cX7_repairAll 1 = .ok (.iconst 0, 1) := by decide +kernel
theorem dX7_repairAll_2 : decode cX7_repairAll 2 = .ok (.sipush 10000, 3) := by decide +kernel
theorem dX7_repairAll_5 : decode cX7_repairAll 5 = .ok (.invokestatic 35, 3) := by decide +kernel
theorem dX7_repairAll_8 : decode cX7_repairAll 8 = .ok (.ifCond .ne 6, 3) := by decide +kernel
theorem dX7_repairAll_11 : decode cX7_repairAll 11 = .ok (.bipush (-3), 2) := by decide +kernel
theorem dX7_repairAll_13 : decode cX7_repairAll 13 = .ok (.ireturn, 1) := by decide +kernel
theorem dX7_repairAll_14 : decode cX7_repairAll 14 = .ok (.aload_n 0, 1) := by decide +kernel
theorem dX7_repairAll_15 : decode cX7_repairAll 15 = .ok (.invokevirtual 47, 3) := by decide +kernel
theorem dX7_repairAll_18 : decode cX7_repairAll 18 = .ok (.iload_n 1, 1) := by decide +kernel
theorem dX7_repairAll_19 : decode cX7_repairAll 19 = .ok (.istore_n 2, 1) := by decide +kernel
theorem dX7_repairAll_20 : decode cX7_repairAll 20 = .ok (.iconst 0, 1) := by decide +kernel
theorem dX7_repairAll_21 : decode cX7_repairAll 21 = .ok (.istore_n 3, 1) := by decide +kernel
theorem dX7_repairAll_22 : decode cX7_repairAll 22 = .ok (.aload_n 0, 1) := by decide +kernel
theorem dX7_repairAll_23 : decode cX7_repairAll 23 = .ok (.iconst 0, 1) := by decide +kernel
theorem dX7_repairAll_24 : decode cX7_repairAll 24 = .ok (.invokevirtual 94, 3) := by decide +kernel
theorem dX7_repairAll_27 : decode cX7_repairAll 27 = .ok (.istore 4, 2) := by decide +kernel
theorem dX7_repairAll_29 : decode cX7_repairAll 29 = .ok (.iload 4, 2) := by decide +kernel
theorem dX7_repairAll_31 : decode cX7_repairAll 31 = .ok (.iconst (-1), 1) := by decide +kernel
theorem dX7_repairAll_32 : decode cX7_repairAll 32 = .ok (.if_icmp .eq 41, 3) := by decide +kernel
theorem dX7_repairAll_35 : decode cX7_repairAll 35 = .ok (.aload_n 0, 1) := by decide +kernel
theorem dX7_repairAll_36 : decode cX7_repairAll 36 = .ok (.iload 4, 2) := by decide +kernel
theorem dX7_repairAll_38 : decode cX7_repairAll 38 = .ok (.invokevirtual 82, 3) := by decide +kernel
theorem dX7_repairAll_41 : decode cX7_repairAll 41 = .ok (.iload_n 2, 1) := by decide +kernel
theorem dX7_repairAll_42 : decode cX7_repairAll 42 = .ok (.if_icmp .gt 31, 3) := by decide +kernel
theorem dX7_repairAll_45 : decode cX7_repairAll 45 = .ok (.iload_n 2, 1) := by decide +kernel
theorem dX7_repairAll_46 : decode cX7_repairAll 46 = .ok (.aload_n 0, 1) := by decide +kernel
theorem dX7_repairAll_47 : decode cX7_repairAll 47 = .ok (.iload 4, 2) := by decide +kernel
theorem dX7_repairAll_49 : decode cX7_repairAll 49 = .ok (.invokevirtual 82, 3) := by decide +kernel
theorem dX7_repairAll_52 : decode cX7_repairAll 52 = .ok (.isub, 1) := by decide +kernel
theorem dX7_repairAll_53 : decode cX7_repairAll 53 = .ok (.istore_n 2, 1) := by decide +kernel
theorem dX7_repairAll_54 : decode cX7_repairAll 54 = .ok (.aload_n 0, 1) := by decide +kernel
theorem dX7_repairAll_55 : decode cX7_repairAll 55 = .ok (.iload 4, 2) := by decide +kernel
theorem dX7_repairAll_57 : decode cX7_repairAll 57 = .ok (.invokevirtual 97, 3) := by decide +kernel
theorem dX7_repairAll_60 : decode cX7_repairAll 60 = .ok (.iinc 3 1, 3) := by decide +kernel
theorem dX7_repairAll_63 : decode cX7_repairAll 63 = .ok (.aload_n 0, 1) := by decide +kernel
theorem dX7_repairAll_64 : decode cX7_repairAll 64 = .ok (.iconst 0, 1) := by decide +kernel
theorem dX7_repairAll_65 : decode cX7_repairAll 65 = .ok (.invokevirtual 94, 3) := by decide +kernel
theorem dX7_repairAll_68 : decode cX7_repairAll 68 = .ok (.istore 4, 2) := by decide +kernel
theorem dX7_repairAll_70 : decode cX7_repairAll 70 = .ok (.goto (-41), 3) := by decide +kernel
theorem dX7_repairAll_73 : decode cX7_repairAll 73 = .ok (.iload_n 3, 1) := by decide +kernel
theorem dX7_repairAll_74 : decode cX7_repairAll 74 = .ok (.ireturn, 1) := by decide +kernel
theorem dX7_due_0 : decode cX7_due 0 = .ok (.aload_n 0, 1) := by decide +kernel
theorem dX7_due_1 : decode cX7_due 1 = .ok (.iload_n 1, 1) := by decide +kernel
theorem dX7_due_2 : decode cX7_due 2 = .ok (.bipush 6, 2) := by decide +kernel
theorem dX7_due_4 : decode cX7_due 4 = .ok (.invokevirtual 39, 3) := by decide +kernel
theorem dX7_due_7 : decode cX7_due 7 = .ok (.iconst (-1), 1) := by decide +kernel
theorem dX7_due_8 : decode cX7_due 8 = .ok (.if_icmp .eq 36, 3) := by decide +kernel
theorem dX7_due_11 : decode cX7_due 11 = .ok (.aload_n 0, 1) := by decide +kernel
theorem dX7_due_12 : decode cX7_due 12 = .ok (.iload_n 1, 1) := by decide +kernel
theorem dX7_due_13 : decode cX7_due 13 = .ok (.iconst 5, 1) := by decide +kernel
theorem dX7_due_14 : decode cX7_due 14 = .ok (.invokevirtual 39, 3) := by decide +kernel
theorem dX7_due_17 : decode cX7_due 17 = .ok (.iconst 1, 1) := by decide +kernel
theorem dX7_due_18 : decode cX7_due 18 = .ok (.if_icmp .ne 26, 3) := by decide +kernel
theorem dX7_due_21 : decode cX7_due 21 = .ok (.aload_n 0, 1) := by decide +kernel
theorem dX7_due_22 : decode cX7_due 22 = .ok (.getfield 7, 3) := by decide +kernel
theorem dX7_due_25 : decode cX7_due 25 = .ok (.iconst 5, 1) := by decide +kernel
theorem dX7_due_26 : decode cX7_due 26 = .ok (.iaload, 1) := by decide +kernel
theorem dX7_due_27 : decode cX7_due 27 = .ok (.aload_n 0, 1) := by decide +kernel
theorem dX7_due_28 : decode cX7_due 28 = .ok (.iload_n 1, 1) := by decide +kernel
theorem dX7_due_29 : decode cX7_due 29 = .ok (.bipush 6, 2) := by decide +kernel
theorem dX7_due_31 : decode cX7_due 31 = .ok (.invokevirtual 39, 3) := by decide +kernel
theorem dX7_due_34 : decode cX7_due 34 = .ok (.isub, 1) := by decide +kernel
theorem dX7_due_35 : decode cX7_due 35 = .ok (.aload_n 0, 1) := by decide +kernel
theorem dX7_due_36 : decode cX7_due 36 = .ok (.getfield 7, 3) := by decide +kernel
theorem dX7_due_39 : decode cX7_due 39 = .ok (.iconst 4, 1) := by decide +kernel
theorem dX7_due_40 : decode cX7_due 40 = .ok (.iaload, 1) := by decide +kernel
theorem dX7_due_41 : decode cX7_due 41 = .ok (.if_icmp .lt 7, 3) := by decide +kernel
theorem dX7_due_44 : decode cX7_due 44 = .ok (.iconst 1, 1) := by decide +kernel
theorem dX7_due_45 : decode cX7_due 45 = .ok (.goto 4, 3) := by decide +kernel
theorem dX7_due_48 : decode cX7_due 48 = .ok (.iconst 0, 1) := by decide +kernel
theorem dX7_due_49 : decode cX7_due 49 = .ok (.ireturn, 1) := by decide +kernel
theorem dX7_isDue_0 : decode cX7_isDue 0 = .ok (.aload_n 0, 1) := by decide +kernel
theorem dX7_isDue_1 : decode cX7_isDue 1 = .ok (.iload_n 1, 1) := by decide +kernel
theorem dX7_isDue_2 : decode cX7_isDue 2 = .ok (.invokevirtual 53, 3) := by decide +kernel
theorem dX7_isDue_5 : decode cX7_isDue 5 = .ok (.ifCond .ne 8, 3) := by decide +kernel
theorem dX7_isDue_8 : decode cX7_isDue 8 = .ok (.bipush (-2), 2) := by decide +kernel
theorem dX7_isDue_10 : decode cX7_isDue 10 = .ok (.goto 16, 3) := by decide +kernel
theorem dX7_isDue_13 : decode cX7_isDue 13 = .ok (.aload_n 0, 1) := by decide +kernel
theorem dX7_isDue_14 : decode cX7_isDue 14 = .ok (.iload_n 1, 1) := by decide +kernel
theorem dX7_isDue_15 : decode cX7_isDue 15 = .ok (.invokevirtual 101, 3) := by decide +kernel
theorem dX7_isDue_18 : decode cX7_isDue 18 = .ok (.ifCond .eq 7, 3) := by decide +kernel
theorem dX7_isDue_21 : decode cX7_isDue 21 = .ok (.iconst 1, 1) := by decide +kernel
theorem dX7_isDue_22 : decode cX7_isDue 22 = .ok (.goto 4, 3) := by decide +kernel
theorem dX7_isDue_25 : decode cX7_isDue 25 = .ok (.iconst 0, 1) := by decide +kernel
theorem dX7_isDue_26 : decode cX7_isDue 26 = .ok (.ireturn, 1) := by decide +kernel
theorem dX7_size_0 : decode cX7_size 0 = .ok (.iload_n 0, 1) := by decide +kernel
theorem dX7_size_1 : decode cX7_size 1 = .ok (.ifCond .ge 8, 3) := by decide +kernel
theorem dX7_size_4 : decode cX7_size 4 = .ok (.iload_n 0, 1) := by decide +kernel
theorem dX7_size_5 : decode cX7_size 5 = .ok (.ineg, 1) := by decide +kernel
theorem dX7_size_6 : decode cX7_size 6 = .ok (.goto 4, 3) := by decide +kernel
theorem dX7_size_9 : decode cX7_size 9 = .ok (.iload_n 0, 1) := by decide +kernel
theorem dX7_size_10 : decode cX7_size 10 = .ok (.ireturn, 1) := by decide +kernel
theorem dX7_walks_0 : decode cX7_walks 0 = .ok (.iconst 0, 1) := by decide +kernel
theorem dX7_walks_1 : decode cX7_walks 1 = .ok (.istore_n 1, 1) := by decide +kernel
theorem dX7_walks_2 : decode cX7_walks 2 = .ok (.iconst 0, 1) := by decide +kernel
theorem dX7_walks_3 : decode cX7_walks 3 = .ok (.istore_n 2, 1) := by decide +kernel
theorem dX7_walks_4 : decode cX7_walks 4 = .ok (.aload_n 0, 1) := by decide +kernel
theorem dX7_walks_5 : decode cX7_walks 5 = .ok (.iconst 0, 1) := by decide +kernel
theorem dX7_walks_6 : decode cX7_walks 6 = .ok (.putfield 104, 3) := by decide +kernel
theorem dX7_walks_9 : decode cX7_walks 9 = .ok (.aload_n 0, 1) := by decide +kernel
theorem dX7_walks_10 : decode cX7_walks 10 = .ok (.iconst 0, 1) := by decide +kernel
theorem dX7_walks_11 : decode cX7_walks 11 = .ok (.putfield 107, 3) := by decide +kernel
theorem dX7_walks_14 : decode cX7_walks 14 = .ok (.iconst 0, 1) := by decide +kernel
theorem dX7_walks_15 : decode cX7_walks 15 = .ok (.istore_n 3, 1) := by decide +kernel
theorem dX7_walks_16 : decode cX7_walks 16 = .ok (.iload_n 3, 1) := by decide +kernel
theorem dX7_walks_17 : decode cX7_walks 17 = .ok (.aload_n 0, 1) := by decide +kernel
theorem dX7_walks_18 : decode cX7_walks 18 = .ok (.getfield 7, 3) := by decide +kernel
theorem dX7_walks_21 : decode cX7_walks 21 = .ok (.iconst 1, 1) := by decide +kernel
theorem dX7_walks_22 : decode cX7_walks 22 = .ok (.iaload, 1) := by decide +kernel
theorem dX7_walks_23 : decode cX7_walks 23 = .ok (.if_icmp .ge 28, 3) := by decide +kernel
theorem dX7_walks_26 : decode cX7_walks 26 = .ok (.aload_n 0, 1) := by decide +kernel
theorem dX7_walks_27 : decode cX7_walks 27 = .ok (.getfield 17, 3) := by decide +kernel
theorem dX7_walks_30 : decode cX7_walks 30 = .ok (.iload_n 3, 1) := by decide +kernel
theorem dX7_walks_31 : decode cX7_walks 31 = .ok (.aload_n 0, 1) := by decide +kernel
theorem dX7_walks_32 : decode cX7_walks 32 = .ok (.iload_n 3, 1) := by decide +kernel
theorem dX7_walks_33 : decode cX7_walks 33 = .ok (.invokevirtual 101, 3) := by decide +kernel
theorem dX7_walks_36 : decode cX7_walks 36 = .ok (.ifCond .ne 7, 3) := by decide +kernel
theorem dX7_walks_39 : decode cX7_walks 39 = .ok (.iconst 1, 1) := by decide +kernel
theorem dX7_walks_40 : decode cX7_walks 40 = .ok (.goto 4, 3) := by decide +kernel
theorem dX7_walks_43 : decode cX7_walks 43 = .ok (.iconst 0, 1) := by decide +kernel
theorem dX7_walks_44 : decode cX7_walks 44 = .ok (.bastore, 1) := by decide +kernel
theorem dX7_walks_45 : decode cX7_walks 45 = .ok (.iinc 3 1, 3) := by decide +kernel
theorem dX7_walks_48 : decode cX7_walks 48 = .ok (.goto (-32), 3) := by decide +kernel
theorem dX7_walks_51 : decode cX7_walks 51 = .ok (.iconst 0, 1) := by decide +kernel
theorem dX7_walks_52 : decode cX7_walks 52 = .ok (.istore_n 3, 1) := by decide +kernel
theorem dX7_walks_53 : decode cX7_walks 53 = .ok (.iload_n 3, 1) := by decide +kernel
theorem dX7_walks_54 : decode cX7_walks 54 = .ok (.iconst (-1), 1) := by decide +kernel
theorem dX7_walks_55 : decode cX7_walks 55 = .ok (.if_icmp .eq 144, 3) := by decide +kernel
theorem dX7_walks_58 : decode cX7_walks 58 = .ok (.iconst (-1), 1) := by decide +kernel
theorem dX7_walks_59 : decode cX7_walks 59 = .ok (.istore_n 3, 1) := by decide +kernel
theorem dX7_walks_60 : decode cX7_walks 60 = .ok (.iconst 0, 1) := by decide +kernel
theorem dX7_walks_61 : decode cX7_walks 61 = .ok (.istore 4, 2) := by decide +kernel
theorem dX7_walks_63 : decode cX7_walks 63 = .ok (.iconst 0, 1) := by decide +kernel
theorem dX7_walks_64 : decode cX7_walks 64 = .ok (.istore 5, 2) := by decide +kernel
theorem dX7_walks_66 : decode cX7_walks 66 = .ok (.iload 5, 2) := by decide +kernel
theorem dX7_walks_68 : decode cX7_walks 68 = .ok (.aload_n 0, 1) := by decide +kernel
theorem dX7_walks_69 : decode cX7_walks 69 = .ok (.getfield 7, 3) := by decide +kernel
theorem dX7_walks_72 : decode cX7_walks 72 = .ok (.iconst 1, 1) := by decide +kernel
theorem dX7_walks_73 : decode cX7_walks 73 = .ok (.iaload, 1) := by decide +kernel
theorem dX7_walks_74 : decode cX7_walks 74 = .ok (.if_icmp .ge 65, 3) := by decide +kernel
theorem dX7_walks_77 : decode cX7_walks 77 = .ok (.aload_n 0, 1) := by decide +kernel
theorem dX7_walks_78 : decode cX7_walks 78 = .ok (.iload 5, 2) := by decide +kernel
theorem dX7_walks_80 : decode cX7_walks 80 = .ok (.iconst 3, 1) := by decide +kernel
theorem dX7_walks_81 : decode cX7_walks 81 = .ok (.invokevirtual 39, 3) := by decide +kernel
theorem dX7_walks_84 : decode cX7_walks 84 = .ok (.iload_n 1, 1) := by decide +kernel
theorem dX7_walks_85 : decode cX7_walks 85 = .ok (.isub, 1) := by decide +kernel
theorem dX7_walks_86 : decode cX7_walks 86 = .ok (.invokestatic 110, 3) := by decide +kernel
theorem dX7_walks_89 : decode cX7_walks 89 = .ok (.aload_n 0, 1) := by decide +kernel
theorem dX7_walks_90 : decode cX7_walks 90 = .ok (.iload 5, 2) := by decide +kernel
theorem dX7_walks_92 : decode cX7_walks 92 = .ok (.iconst 4, 1) := by decide +kernel
theorem dX7_walks_93 : decode cX7_walks 93 = .ok (.invokevirtual 39, 3) := by decide +kernel
theorem dX7_walks_96 : decode cX7_walks 96 = .ok (.iload_n 2, 1) := by decide +kernel
theorem dX7_walks_97 : decode cX7_walks 97 = .ok (.isub, 1) := by decide +kernel
theorem dX7_walks_98 : decode cX7_walks 98 = .ok (.invokestatic 110, 3) := by decide +kernel
theorem dX7_walks_101 : decode cX7_walks 101 = .ok (.iadd, 1) := by decide +kernel
theorem dX7_walks_102 : decode cX7_walks 102 = .ok (.istore 6, 2) := by decide +kernel
theorem dX7_walks_104 : decode cX7_walks 104 = .ok (.aload_n 0, 1) := by decide +kernel
theorem dX7_walks_105 : decode cX7_walks 105 = .ok (.getfield 17, 3) := by decide +kernel
theorem dX7_walks_108 : decode cX7_walks 108 = .ok (.iload 5, 2) := by decide +kernel
theorem dX7_walks_110 : decode cX7_walks 110 = .ok (.baload, 1) := by decide +kernel
theorem dX7_walks_111 : decode cX7_walks 111 = .ok (.ifCond .ne 22, 3) := by decide +kernel
theorem dX7_walks_114 : decode cX7_walks 114 = .ok (.iload_n 3, 1) := by decide +kernel
theorem dX7_walks_115 : decode cX7_walks 115 = .ok (.iconst (-1), 1) := by decide +kernel
theorem dX7_walks_116 : decode cX7_walks 116 = .ok (.if_icmp .eq 10, 3) := by decide +kernel
theorem dX7_walks_119 : decode cX7_walks 119 = .ok (.iload 6, 2) := by decide +kernel
theorem dX7_walks_121 : decode cX7_walks 121 = .ok (.iload 4, 2) := by decide +kernel
theorem dX7_walks_123 : decode cX7_walks 123 = .ok (.if_icmp .ge 10, 3) := by decide +kernel
theorem dX7_walks_126 : decode cX7_walks 126 = .ok (.iload 5, 2) := by decide +kernel
theorem dX7_walks_128 : decode cX7_walks 128 = .ok (.istore_n 3, 1) := by decide +kernel
theorem dX7_walks_129 : decode cX7_walks 129 = .ok (.iload 6, 2) := by decide +kernel
theorem dX7_walks_131 : decode cX7_walks 131 = .ok (.istore 4, 2) := by decide +kernel
theorem dX7_walks_133 : decode cX7_walks 133 = .ok (.iinc 5 1, 3) := by decide +kernel
theorem dX7_walks_136 : decode cX7_walks 136 = .ok (.goto (-70), 3) := by decide +kernel
theorem dX7_walks_139 : decode cX7_walks 139 = .ok (.iload_n 3, 1) := by decide +kernel
theorem dX7_walks_140 : decode cX7_walks 140 = .ok (.iconst (-1), 1) := by decide +kernel
theorem dX7_walks_141 : decode cX7_walks 141 = .ok (.if_icmp .eq 55, 3) := by decide +kernel
theorem dX7_walks_144 : decode cX7_walks 144 = .ok (.aload_n 0, 1) := by decide +kernel
theorem dX7_walks_145 : decode cX7_walks 145 = .ok (.getfield 17, 3) := by decide +kernel
theorem dX7_walks_148 : decode cX7_walks 148 = .ok (.iload_n 3, 1) := by decide +kernel
theorem dX7_walks_149 : decode cX7_walks 149 = .ok (.iconst 1, 1) := by decide +kernel
theorem dX7_walks_150 : decode cX7_walks 150 = .ok (.bastore, 1) := by decide +kernel
theorem dX7_walks_151 : decode cX7_walks 151 = .ok (.aload_n 0, 1) := by decide +kernel
theorem dX7_walks_152 : decode cX7_walks 152 = .ok (.getfield 21, 3) := by decide +kernel
theorem dX7_walks_155 : decode cX7_walks 155 = .ok (.aload_n 0, 1) := by decide +kernel
theorem dX7_walks_156 : decode cX7_walks 156 = .ok (.getfield 107, 3) := by decide +kernel
theorem dX7_walks_159 : decode cX7_walks 159 = .ok (.iload_n 3, 1) := by decide +kernel
theorem dX7_walks_160 : decode cX7_walks 160 = .ok (.iastore, 1) := by decide +kernel
theorem dX7_walks_161 : decode cX7_walks 161 = .ok (.aload_n 0, 1) := by decide +kernel
theorem dX7_walks_162 : decode cX7_walks 162 = .ok (.dup, 1) := by decide +kernel
theorem dX7_walks_163 : decode cX7_walks 163 = .ok (.getfield 107, 3) := by decide +kernel
theorem dX7_walks_166 : decode cX7_walks 166 = .ok (.iconst 1, 1) := by decide +kernel
theorem dX7_walks_167 : decode cX7_walks 167 = .ok (.iadd, 1) := by decide +kernel
theorem dX7_walks_168 : decode cX7_walks 168 = .ok (.putfield 107, 3) := by decide +kernel
theorem dX7_walks_171 : decode cX7_walks 171 = .ok (.aload_n 0, 1) := by decide +kernel
theorem dX7_walks_172 : decode cX7_walks 172 = .ok (.dup, 1) := by decide +kernel
theorem dX7_walks_173 : decode cX7_walks 173 = .ok (.getfield 104, 3) := by decide +kernel
theorem dX7_walks_176 : decode cX7_walks 176 = .ok (.iload 4, 2) := by decide +kernel
theorem dX7_walks_178 : decode cX7_walks 178 = .ok (.iadd, 1) := by decide +kernel
theorem dX7_walks_179 : decode cX7_walks 179 = .ok (.putfield 104, 3) := by decide +kernel
theorem dX7_walks_182 : decode cX7_walks 182 = .ok (.aload_n 0, 1) := by decide +kernel
theorem dX7_walks_183 : decode cX7_walks 183 = .ok (.iload_n 3, 1) := by decide +kernel
theorem dX7_walks_184 : decode cX7_walks 184 = .ok (.iconst 3, 1) := by decide +kernel
theorem dX7_walks_185 : decode cX7_walks 185 = .ok (.invokevirtual 39, 3) := by decide +kernel
theorem dX7_walks_188 : decode cX7_walks 188 = .ok (.istore_n 1, 1) := by decide +kernel
theorem dX7_walks_189 : decode cX7_walks 189 = .ok (.aload_n 0, 1) := by decide +kernel
theorem dX7_walks_190 : decode cX7_walks 190 = .ok (.iload_n 3, 1) := by decide +kernel
theorem dX7_walks_191 : decode cX7_walks 191 = .ok (.iconst 4, 1) := by decide +kernel
theorem dX7_walks_192 : decode cX7_walks 192 = .ok (.invokevirtual 39, 3) := by decide +kernel
theorem dX7_walks_195 : decode cX7_walks 195 = .ok (.istore_n 2, 1) := by decide +kernel
theorem dX7_walks_196 : decode cX7_walks 196 = .ok (.goto (-143), 3) := by decide +kernel
theorem dX7_walks_199 : decode cX7_walks 199 = .ok (.aload_n 0, 1) := by decide +kernel
theorem dX7_walks_200 : decode cX7_walks 200 = .ok (.dup, 1) := by decide +kernel
theorem dX7_walks_201 : decode cX7_walks 201 = .ok (.getfield 104, 3) := by decide +kernel
theorem dX7_walks_204 : decode cX7_walks 204 = .ok (.iload_n 1, 1) := by decide +kernel
theorem dX7_walks_205 : decode cX7_walks 205 = .ok (.iload_n 2, 1) := by decide +kernel
theorem dX7_walks_206 : decode cX7_walks 206 = .ok (.iadd, 1) := by decide +kernel
theorem dX7_walks_207 : decode cX7_walks 207 = .ok (.iadd, 1) := by decide +kernel
theorem dX7_walks_208 : decode cX7_walks 208 = .ok (.putfield 104, 3) := by decide +kernel
theorem dX7_walks_211 : decode cX7_walks 211 = .ok (.return_, 1) := by decide +kernel
theorem dX7_round_0 : decode cX7_round 0 = .ok (.iload_n 1, 1) := by decide +kernel
theorem dX7_round_1 : decode cX7_round 1 = .ok (.ifCond .ge 6, 3) := by decide +kernel
theorem dX7_round_4 : decode cX7_round 4 = .ok (.bipush (-3), 2) := by decide +kernel
theorem dX7_round_6 : decode cX7_round 6 = .ok (.ireturn, 1) := by decide +kernel
theorem dX7_round_7 : decode cX7_round 7 = .ok (.aload_n 0, 1) := by decide +kernel
theorem dX7_round_8 : decode cX7_round 8 = .ok (.invokevirtual 113, 3) := by decide +kernel
theorem dX7_round_11 : decode cX7_round 11 = .ok (.iload_n 1, 1) := by decide +kernel
theorem dX7_round_12 : decode cX7_round 12 = .ok (.aload_n 0, 1) := by decide +kernel
theorem dX7_round_13 : decode cX7_round 13 = .ok (.getfield 107, 3) := by decide +kernel
theorem dX7_round_16 : decode cX7_round 16 = .ok (.if_icmp .ge 12, 3) := by decide +kernel
theorem dX7_round_19 : decode cX7_round 19 = .ok (.aload_n 0, 1) := by decide +kernel
theorem dX7_round_20 : decode cX7_round 20 = .ok (.getfield 21, 3) := by decide +kernel
theorem dX7_round_23 : decode cX7_round 23 = .ok (.iload_n 1, 1) := by decide +kernel
theorem dX7_round_24 : decode cX7_round 24 = .ok (.iaload, 1) := by decide +kernel
theorem dX7_round_25 : decode cX7_round 25 = .ok (.goto 4, 3) := by decide +kernel
theorem dX7_round_28 : decode cX7_round 28 = .ok (.iconst (-1), 1) := by decide +kernel
theorem dX7_round_29 : decode cX7_round 29 = .ok (.ireturn, 1) := by decide +kernel
theorem dX7_roundLength_0 : decode cX7_roundLength 0 = .ok (.aload_n 0, 1) := by decide +kernel
theorem dX7_roundLength_1 : decode cX7_roundLength 1 = .ok (.invokevirtual 113, 3) := by decide +kernel
theorem dX7_roundLength_4 : decode cX7_roundLength 4 = .ok (.aload_n 0, 1) := by decide +kernel
theorem dX7_roundLength_5 : decode cX7_roundLength 5 = .ok (.getfield 104, 3) := by decide +kernel
theorem dX7_roundLength_8 : decode cX7_roundLength 8 = .ok (.ireturn, 1) := by decide +kernel
theorem dX7_dueOn_0 : decode cX7_dueOn 0 = .ok (.aload_n 0, 1) := by decide +kernel
theorem dX7_dueOn_1 : decode cX7_dueOn 1 = .ok (.iload_n 1, 1) := by decide +kernel
theorem dX7_dueOn_2 : decode cX7_dueOn 2 = .ok (.invokevirtual 53, 3) := by decide +kernel
theorem dX7_dueOn_5 : decode cX7_dueOn 5 = .ok (.ifCond .ne 6, 3) := by decide +kernel
theorem dX7_dueOn_8 : decode cX7_dueOn 8 = .ok (.bipush (-2), 2) := by decide +kernel
theorem dX7_dueOn_10 : decode cX7_dueOn 10 = .ok (.ireturn, 1) := by decide +kernel
theorem dX7_dueOn_11 : decode cX7_dueOn 11 = .ok (.aload_n 0, 1) := by decide +kernel
theorem dX7_dueOn_12 : decode cX7_dueOn 12 = .ok (.iload_n 1, 1) := by decide +kernel
theorem dX7_dueOn_13 : decode cX7_dueOn 13 = .ok (.invokevirtual 101, 3) := by decide +kernel
theorem dX7_dueOn_16 : decode cX7_dueOn 16 = .ok (.ifCond .eq 12, 3) := by decide +kernel
theorem dX7_dueOn_19 : decode cX7_dueOn 19 = .ok (.aload_n 0, 1) := by decide +kernel
theorem dX7_dueOn_20 : decode cX7_dueOn 20 = .ok (.getfield 7, 3) := by decide +kernel
theorem dX7_dueOn_23 : decode cX7_dueOn 23 = .ok (.iconst 5, 1) := by decide +kernel
theorem dX7_dueOn_24 : decode cX7_dueOn 24 = .ok (.iaload, 1) := by decide +kernel
theorem dX7_dueOn_25 : decode cX7_dueOn 25 = .ok (.goto 17, 3) := by decide +kernel
theorem dX7_dueOn_28 : decode cX7_dueOn 28 = .ok (.aload_n 0, 1) := by decide +kernel
theorem dX7_dueOn_29 : decode cX7_dueOn 29 = .ok (.iload_n 1, 1) := by decide +kernel
theorem dX7_dueOn_30 : decode cX7_dueOn 30 = .ok (.bipush 6, 2) := by decide +kernel
theorem dX7_dueOn_32 : decode cX7_dueOn 32 = .ok (.invokevirtual 39, 3) := by decide +kernel
theorem dX7_dueOn_35 : decode cX7_dueOn 35 = .ok (.aload_n 0, 1) := by decide +kernel
theorem dX7_dueOn_36 : decode cX7_dueOn 36 = .ok (.getfield 7, 3) := by decide +kernel
theorem dX7_dueOn_39 : decode cX7_dueOn 39 = .ok (.iconst 4, 1) := by decide +kernel
theorem dX7_dueOn_40 : decode cX7_dueOn 40 = .ok (.iaload, 1) := by decide +kernel
theorem dX7_dueOn_41 : decode cX7_dueOn 41 = .ok (.iadd, 1) := by decide +kernel
theorem dX7_dueOn_42 : decode cX7_dueOn 42 = .ok (.ireturn, 1) := by decide +kernel
theorem dX7_undo_0 : decode cX7_undo 0 = .ok (.aload_n 0, 1) := by decide +kernel
theorem dX7_undo_1 : decode cX7_undo 1 = .ok (.getfield 27, 3) := by decide +kernel
theorem dX7_undo_4 : decode cX7_undo 4 = .ok (.ifCond .ne 6, 3) := by decide +kernel
theorem dX7_undo_7 : decode cX7_undo 7 = .ok (.bipush (-4), 2) := by decide +kernel
theorem dX7_undo_9 : decode cX7_undo 9 = .ok (.ireturn, 1) := by decide +kernel
theorem dX7_undo_10 : decode cX7_undo 10 = .ok (.aload_n 0, 1) := by decide +kernel
theorem dX7_undo_11 : decode cX7_undo 11 = .ok (.aload_n 0, 1) := by decide +kernel
theorem dX7_undo_12 : decode cX7_undo 12 = .ok (.getfield 27, 3) := by decide +kernel
theorem dX7_undo_15 : decode cX7_undo 15 = .ok (.iconst 0, 1) := by decide +kernel
theorem dX7_undo_16 : decode cX7_undo 16 = .ok (.invokevirtual 31, 3) := by decide +kernel
theorem dX7_undo_19 : decode cX7_undo 19 = .ok (.aload_n 0, 1) := by decide +kernel
theorem dX7_undo_20 : decode cX7_undo 20 = .ok (.dup, 1) := by decide +kernel
theorem dX7_undo_21 : decode cX7_undo 21 = .ok (.getfield 27, 3) := by decide +kernel
theorem dX7_undo_24 : decode cX7_undo 24 = .ok (.iconst 1, 1) := by decide +kernel
theorem dX7_undo_25 : decode cX7_undo 25 = .ok (.isub, 1) := by decide +kernel
theorem dX7_undo_26 : decode cX7_undo 26 = .ok (.putfield 27, 3) := by decide +kernel
theorem dX7_undo_29 : decode cX7_undo 29 = .ok (.aload_n 0, 1) := by decide +kernel
theorem dX7_undo_30 : decode cX7_undo 30 = .ok (.getfield 27, 3) := by decide +kernel
theorem dX7_undo_33 : decode cX7_undo 33 = .ok (.ireturn, 1) := by decide +kernel
theorem dX7_type_0 : decode cX7_type 0 = .ok (.iload_n 1, 1) := by decide +kernel
theorem dX7_type_1 : decode cX7_type 1 = .ok (.iconst 0, 1) := by decide +kernel
theorem dX7_type_2 : decode cX7_type 2 = .ok (.sipush 255, 3) := by decide +kernel
theorem dX7_type_5 : decode cX7_type 5 = .ok (.invokestatic 35, 3) := by decide +kernel
theorem dX7_type_8 : decode cX7_type 8 = .ok (.ifCond .ne 6, 3) := by decide +kernel
theorem dX7_type_11 : decode cX7_type 11 = .ok (.bipush (-3), 2) := by decide +kernel
theorem dX7_type_13 : decode cX7_type 13 = .ok (.ireturn, 1) := by decide +kernel
theorem dX7_type_14 : decode cX7_type 14 = .ok (.aload_n 0, 1) := by decide +kernel
theorem dX7_type_15 : decode cX7_type 15 = .ok (.getfield 116, 3) := by decide +kernel
theorem dX7_type_18 : decode cX7_type 18 = .ok (.bipush 100, 2) := by decide +kernel
theorem dX7_type_20 : decode cX7_type 20 = .ok (.if_icmp .ne 6, 3) := by decide +kernel
theorem dX7_type_23 : decode cX7_type 23 = .ok (.bipush (-5), 2) := by decide +kernel
theorem dX7_type_25 : decode cX7_type 25 = .ok (.ireturn, 1) := by decide +kernel
theorem dX7_type_26 : decode cX7_type 26 = .ok (.aload_n 0, 1) := by decide +kernel
theorem dX7_type_27 : decode cX7_type 27 = .ok (.getfield 24, 3) := by decide +kernel
theorem dX7_type_30 : decode cX7_type 30 = .ok (.aload_n 0, 1) := by decide +kernel
theorem dX7_type_31 : decode cX7_type 31 = .ok (.getfield 116, 3) := by decide +kernel
theorem dX7_type_34 : decode cX7_type 34 = .ok (.iload_n 1, 1) := by decide +kernel
theorem dX7_type_35 : decode cX7_type 35 = .ok (.iastore, 1) := by decide +kernel
theorem dX7_type_36 : decode cX7_type 36 = .ok (.aload_n 0, 1) := by decide +kernel
theorem dX7_type_37 : decode cX7_type 37 = .ok (.dup, 1) := by decide +kernel
theorem dX7_type_38 : decode cX7_type 38 = .ok (.getfield 116, 3) := by decide +kernel
theorem dX7_type_41 : decode cX7_type 41 = .ok (.iconst 1, 1) := by decide +kernel
theorem dX7_type_42 : decode cX7_type 42 = .ok (.iadd, 1) := by decide +kernel
theorem dX7_type_43 : decode cX7_type 43 = .ok (.putfield 116, 3) := by decide +kernel
theorem dX7_type_46 : decode cX7_type 46 = .ok (.aload_n 0, 1) := by decide +kernel
theorem dX7_type_47 : decode cX7_type 47 = .ok (.getfield 116, 3) := by decide +kernel
theorem dX7_type_50 : decode cX7_type 50 = .ok (.ireturn, 1) := by decide +kernel
theorem dX7_clearText_0 : decode cX7_clearText 0 = .ok (.aload_n 0, 1) := by decide +kernel
theorem dX7_clearText_1 : decode cX7_clearText 1 = .ok (.getfield 116, 3) := by decide +kernel
theorem dX7_clearText_4 : decode cX7_clearText 4 = .ok (.istore_n 1, 1) := by decide +kernel
theorem dX7_clearText_5 : decode cX7_clearText 5 = .ok (.aload_n 0, 1) := by decide +kernel
theorem dX7_clearText_6 : decode cX7_clearText 6 = .ok (.iconst 0, 1) := by decide +kernel
theorem dX7_clearText_7 : decode cX7_clearText 7 = .ok (.putfield 116, 3) := by decide +kernel
theorem dX7_clearText_10 : decode cX7_clearText 10 = .ok (.iload_n 1, 1) := by decide +kernel
theorem dX7_clearText_11 : decode cX7_clearText 11 = .ok (.ireturn, 1) := by decide +kernel
theorem dX7_here_0 : decode cX7_here 0 = .ok (.aload_n 0, 1) := by decide +kernel
theorem dX7_here_1 : decode cX7_here 1 = .ok (.getfield 119, 3) := by decide +kernel
theorem dX7_here_4 : decode cX7_here 4 = .ok (.aload_n 0, 1) := by decide +kernel
theorem dX7_here_5 : decode cX7_here 5 = .ok (.getfield 116, 3) := by decide +kernel
theorem dX7_here_8 : decode cX7_here 8 = .ok (.if_icmp .ge 30, 3) := by decide +kernel
theorem dX7_here_11 : decode cX7_here 11 = .ok (.aload_n 0, 1) := by decide +kernel
theorem dX7_here_12 : decode cX7_here 12 = .ok (.getfield 24, 3) := by decide +kernel
theorem dX7_here_15 : decode cX7_here 15 = .ok (.aload_n 0, 1) := by decide +kernel
theorem dX7_here_16 : decode cX7_here 16 = .ok (.getfield 119, 3) := by decide +kernel
theorem dX7_here_19 : decode cX7_here 19 = .ok (.iaload, 1) := by decide +kernel
theorem dX7_here_20 : decode cX7_here 20 = .ok (.bipush 32, 2) := by decide +kernel
theorem dX7_here_22 : decode cX7_here 22 = .ok (.if_icmp .ne 16, 3) := by decide +kernel
theorem dX7_here_25 : decode cX7_here 25 = .ok (.aload_n 0, 1) := by decide +kernel
theorem dX7_here_26 : decode cX7_here 26 = .ok (.dup, 1) := by decide +kernel
theorem dX7_here_27 : decode cX7_here 27 = .ok (.getfield 119, 3) := by decide +kernel
theorem dX7_here_30 : decode cX7_here 30 = .ok (.iconst 1, 1) := by decide +kernel
theorem dX7_here_31 : decode cX7_here 31 = .ok (.iadd, 1) := by decide +kernel
theorem dX7_here_32 : decode cX7_here 32 = .ok (.putfield 119, 3) := by decide +kernel
theorem dX7_here_35 : decode cX7_here 35 = .ok (.goto (-35), 3) := by decide +kernel
theorem dX7_here_38 : decode cX7_here 38 = .ok (.aload_n 0, 1) := by decide +kernel
theorem dX7_here_39 : decode cX7_here 39 = .ok (.getfield 119, 3) := by decide +kernel
theorem dX7_here_42 : decode cX7_here 42 = .ok (.aload_n 0, 1) := by decide +kernel
theorem dX7_here_43 : decode cX7_here 43 = .ok (.getfield 116, 3) := by decide +kernel
theorem dX7_here_46 : decode cX7_here 46 = .ok (.if_icmp .ge 15, 3) := by decide +kernel
theorem dX7_here_49 : decode cX7_here 49 = .ok (.aload_n 0, 1) := by decide +kernel
theorem dX7_here_50 : decode cX7_here 50 = .ok (.getfield 24, 3) := by decide +kernel
theorem dX7_here_53 : decode cX7_here 53 = .ok (.aload_n 0, 1) := by decide +kernel
theorem dX7_here_54 : decode cX7_here 54 = .ok (.getfield 119, 3) := by decide +kernel
theorem dX7_here_57 : decode cX7_here 57 = .ok (.iaload, 1) := by decide +kernel
theorem dX7_here_58 : decode cX7_here 58 = .ok (.goto 4, 3) := by decide +kernel
theorem dX7_here_61 : decode cX7_here 61 = .ok (.iconst (-1), 1) := by decide +kernel
theorem dX7_here_62 : decode cX7_here 62 = .ok (.ireturn, 1) := by decide +kernel
theorem dX7_sign_0 : decode cX7_sign 0 = .ok (.aload_n 0, 1) := by decide +kernel
theorem dX7_sign_1 : decode cX7_sign 1 = .ok (.invokevirtual 122, 3) := by decide +kernel
theorem dX7_sign_4 : decode cX7_sign 4 = .ok (.iload_n 1, 1) := by decide +kernel
theorem dX7_sign_5 : decode cX7_sign 5 = .ok (.if_icmp .ne 7, 3) := by decide +kernel
theorem dX7_sign_8 : decode cX7_sign 8 = .ok (.iconst 1, 1) := by decide +kernel
theorem dX7_sign_9 : decode cX7_sign 9 = .ok (.goto 4, 3) := by decide +kernel
theorem dX7_sign_12 : decode cX7_sign 12 = .ok (.iconst 0, 1) := by decide +kernel
theorem dX7_sign_13 : decode cX7_sign 13 = .ok (.istore_n 2, 1) := by decide +kernel
theorem dX7_sign_14 : decode cX7_sign 14 = .ok (.aload_n 0, 1) := by decide +kernel
theorem dX7_sign_15 : decode cX7_sign 15 = .ok (.dup, 1) := by decide +kernel
theorem dX7_sign_16 : decode cX7_sign 16 = .ok (.getfield 119, 3) := by decide +kernel
theorem dX7_sign_19 : decode cX7_sign 19 = .ok (.iload_n 2, 1) := by decide +kernel
theorem dX7_sign_20 : decode cX7_sign 20 = .ok (.ifCond .eq 7, 3) := by decide +kernel
theorem dX7_sign_23 : decode cX7_sign 23 = .ok (.iconst 1, 1) := by decide +kernel
theorem dX7_sign_24 : decode cX7_sign 24 = .ok (.goto 4, 3) := by decide +kernel
theorem dX7_sign_27 : decode cX7_sign 27 = .ok (.iconst 0, 1) := by decide +kernel
theorem dX7_sign_28 : decode cX7_sign 28 = .ok (.iadd, 1) := by decide +kernel
theorem dX7_sign_29 : decode cX7_sign 29 = .ok (.putfield 119, 3) := by decide +kernel
theorem dX7_sign_32 : decode cX7_sign 32 = .ok (.iload_n 2, 1) := by decide +kernel
theorem dX7_sign_33 : decode cX7_sign 33 = .ok (.ireturn, 1) := by decide +kernel
theorem dX7_readsNumber_0 : decode cX7_readsNumber 0 = .ok (.aload_n 0, 1) := by decide +kernel
theorem dX7_readsNumber_1 : decode cX7_readsNumber 1 = .ok (.invokevirtual 122, 3) := by decide +kernel
theorem dX7_readsNumber_4 : decode cX7_readsNumber 4 = .ok (.istore_n 2, 1) := by decide +kernel
theorem dX7_readsNumber_5 : decode cX7_readsNumber 5 = .ok (.aload_n 0, 1) := by decide +kernel
theorem dX7_readsNumber_6 : decode cX7_readsNumber 6 = .ok (.getfield 119, 3) := by decide +kernel
theorem dX7_readsNumber_9 : decode cX7_readsNumber 9 = .ok (.istore_n 3, 1) := by decide +kernel
theorem dX7_readsNumber_10 : decode cX7_readsNumber 10 = .ok (.iconst 0, 1) := by decide +kernel
theorem dX7_readsNumber_11 : decode cX7_readsNumber 11 = .ok (.istore 4, 2) := by decide +kernel
theorem dX7_readsNumber_13 : decode cX7_readsNumber 13 = .ok (.iload_n 2, 1) := by decide +kernel
theorem dX7_readsNumber_14 : decode cX7_readsNumber 14 = .ok (.ifCond .lt 65, 3) := by decide +kernel
theorem dX7_readsNumber_17 : decode cX7_readsNumber 17 = .ok (.iload_n 3, 1) := by decide +kernel
theorem dX7_readsNumber_18 : decode cX7_readsNumber 18 = .ok (.aload_n 0, 1) := by decide +kernel
theorem dX7_readsNumber_19 : decode cX7_readsNumber 19 = .ok (.getfield 116, 3) := by decide +kernel
theorem dX7_readsNumber_22 : decode cX7_readsNumber 22 = .ok (.if_icmp .ge 57, 3) := by decide +kernel
theorem dX7_readsNumber_25 : decode cX7_readsNumber 25 = .ok (.aload_n 0, 1) := by decide +kernel
theorem dX7_readsNumber_26 : decode cX7_readsNumber 26 = .ok (.getfield 24, 3) := by decide +kernel
theorem dX7_readsNumber_29 : decode cX7_readsNumber 29 = .ok (.iload_n 3, 1) := by decide +kernel
theorem dX7_readsNumber_30 : decode cX7_readsNumber 30 = .ok (.iaload, 1) := by decide +kernel
theorem dX7_readsNumber_31 : decode cX7_readsNumber 31 = .ok (.bipush 48, 2) := by decide +kernel
theorem dX7_readsNumber_33 : decode cX7_readsNumber 33 = .ok (.bipush 57, 2) := by decide +kernel
theorem dX7_readsNumber_35 : decode cX7_readsNumber 35 = .ok (.invokestatic 35, 3) := by decide +kernel
theorem dX7_readsNumber_38 : decode cX7_readsNumber 38 = .ok (.ifCond .eq 41, 3) := by decide +kernel
theorem dX7_readsNumber_41 : decode cX7_readsNumber 41 = .ok (.iload_n 3, 1) := by decide +kernel
theorem dX7_readsNumber_42 : decode cX7_readsNumber 42 = .ok (.aload_n 0, 1) := by decide +kernel
theorem dX7_readsNumber_43 : decode cX7_readsNumber 43 = .ok (.getfield 119, 3) := by decide +kernel
theorem dX7_readsNumber_46 : decode cX7_readsNumber 46 = .ok (.isub, 1) := by decide +kernel
theorem dX7_readsNumber_47 : decode cX7_readsNumber 47 = .ok (.iconst 4, 1) := by decide +kernel
theorem dX7_readsNumber_48 : decode cX7_readsNumber 48 = .ok (.if_icmp .ge 21, 3) := by decide +kernel
theorem dX7_readsNumber_51 : decode cX7_readsNumber 51 = .ok (.bipush 10, 2) := by decide +kernel
theorem dX7_readsNumber_53 : decode cX7_readsNumber 53 = .ok (.iload 4, 2) := by decide +kernel
theorem dX7_readsNumber_55 : decode cX7_readsNumber 55 = .ok (.imul, 1) := by decide +kernel
theorem dX7_readsNumber_56 : decode cX7_readsNumber 56 = .ok (.aload_n 0, 1) := by decide +kernel
theorem dX7_readsNumber_57 : decode cX7_readsNumber 57 = .ok (.getfield 24, 3) := by decide +kernel
theorem dX7_readsNumber_60 : decode cX7_readsNumber 60 = .ok (.iload_n 3, 1) := by decide +kernel
theorem dX7_readsNumber_61 : decode cX7_readsNumber 61 = .ok (.iaload, 1) := by decide +kernel
theorem dX7_readsNumber_62 : decode cX7_readsNumber 62 = .ok (.iadd, 1) := by decide +kernel
theorem dX7_readsNumber_63 : decode cX7_readsNumber 63 = .ok (.bipush 48, 2) := by decide +kernel
theorem dX7_readsNumber_65 : decode cX7_readsNumber 65 = .ok (.isub, 1) := by decide +kernel
theorem dX7_readsNumber_66 : decode cX7_readsNumber 66 = .ok (.goto 5, 3) := by decide +kernel
theorem dX7_readsNumber_69 : decode cX7_readsNumber 69 = .ok (.iload 4, 2) := by decide +kernel
theorem dX7_readsNumber_71 : decode cX7_readsNumber 71 = .ok (.istore 4, 2) := by decide +kernel
theorem dX7_readsNumber_73 : decode cX7_readsNumber 73 = .ok (.iinc 3 1, 3) := by decide +kernel
theorem dX7_readsNumber_76 : decode cX7_readsNumber 76 = .ok (.goto (-63), 3) := by decide +kernel
theorem dX7_readsNumber_79 : decode cX7_readsNumber 79 = .ok (.iload_n 3, 1) := by decide +kernel
theorem dX7_readsNumber_80 : decode cX7_readsNumber 80 = .ok (.aload_n 0, 1) := by decide +kernel
theorem dX7_readsNumber_81 : decode cX7_readsNumber 81 = .ok (.getfield 119, 3) := by decide +kernel
theorem dX7_readsNumber_84 : decode cX7_readsNumber 84 = .ok (.if_icmp .eq 19, 3) := by decide +kernel
theorem dX7_readsNumber_87 : decode cX7_readsNumber 87 = .ok (.iload_n 3, 1) := by decide +kernel
theorem dX7_readsNumber_88 : decode cX7_readsNumber 88 = .ok (.aload_n 0, 1) := by decide +kernel
theorem dX7_readsNumber_89 : decode cX7_readsNumber 89 = .ok (.getfield 119, 3) := by decide +kernel
theorem dX7_readsNumber_92 : decode cX7_readsNumber 92 = .ok (.isub, 1) := by decide +kernel
theorem dX7_readsNumber_93 : decode cX7_readsNumber 93 = .ok (.iconst 3, 1) := by decide +kernel
theorem dX7_readsNumber_94 : decode cX7_readsNumber 94 = .ok (.if_icmp .gt 9, 3) := by decide +kernel
theorem dX7_readsNumber_97 : decode cX7_readsNumber 97 = .ok (.iload 4, 2) := by decide +kernel
theorem dX7_readsNumber_99 : decode cX7_readsNumber 99 = .ok (.iload_n 1, 1) := by decide +kernel
theorem dX7_readsNumber_100 : decode cX7_readsNumber 100 = .ok (.if_icmp .le 5, 3) := by decide +kernel
theorem dX7_readsNumber_103 : decode cX7_readsNumber 103 = .ok (.iconst 0, 1) := by decide +kernel
theorem dX7_readsNumber_104 : decode cX7_readsNumber 104 = .ok (.ireturn, 1) := by decide +kernel
theorem dX7_readsNumber_105 : decode cX7_readsNumber 105 = .ok (.aload_n 0, 1) := by decide +kernel
theorem dX7_readsNumber_106 : decode cX7_readsNumber 106 = .ok (.iload_n 3, 1) := by decide +kernel
theorem dX7_readsNumber_107 : decode cX7_readsNumber 107 = .ok (.putfield 119, 3) := by decide +kernel
theorem dX7_readsNumber_110 : decode cX7_readsNumber 110 = .ok (.aload_n 0, 1) := by decide +kernel
theorem dX7_readsNumber_111 : decode cX7_readsNumber 111 = .ok (.iload 4, 2) := by decide +kernel
theorem dX7_readsNumber_113 : decode cX7_readsNumber 113 = .ok (.putfield 126, 3) := by decide +kernel
theorem dX7_readsNumber_116 : decode cX7_readsNumber 116 = .ok (.iconst 1, 1) := by decide +kernel
theorem dX7_readsNumber_117 : decode cX7_readsNumber 117 = .ok (.ireturn, 1) := by decide +kernel
theorem dX7_readsReading_0 : decode cX7_readsReading 0 = .ok (.aload_n 0, 1) := by decide +kernel
theorem dX7_readsReading_1 : decode cX7_readsReading 1 = .ok (.aload_n 0, 1) := by decide +kernel
theorem dX7_readsReading_2 : decode cX7_readsReading 2 = .ok (.getfield 7, 3) := by decide +kernel
theorem dX7_readsReading_5 : decode cX7_readsReading 5 = .ok (.iconst 1, 1) := by decide +kernel
theorem dX7_readsReading_6 : decode cX7_readsReading 6 = .ok (.iaload, 1) := by decide +kernel
theorem dX7_readsReading_7 : decode cX7_readsReading 7 = .ok (.iconst 1, 1) := by decide +kernel
theorem dX7_readsReading_8 : decode cX7_readsReading 8 = .ok (.isub, 1) := by decide +kernel
theorem dX7_readsReading_9 : decode cX7_readsReading 9 = .ok (.invokevirtual 129, 3) := by decide +kernel
theorem dX7_readsReading_12 : decode cX7_readsReading 12 = .ok (.ifCond .ne 5, 3) := by decide +kernel
theorem dX7_readsReading_15 : decode cX7_readsReading 15 = .ok (.iconst 0, 1) := by decide +kernel
theorem dX7_readsReading_16 : decode cX7_readsReading 16 = .ok (.ireturn, 1) := by decide +kernel
theorem dX7_readsReading_17 : decode cX7_readsReading 17 = .ok (.aload_n 0, 1) := by decide +kernel
theorem dX7_readsReading_18 : decode cX7_readsReading 18 = .ok (.getfield 126, 3) := by decide +kernel
theorem dX7_readsReading_21 : decode cX7_readsReading 21 = .ok (.istore_n 2, 1) := by decide +kernel
theorem dX7_readsReading_22 : decode cX7_readsReading 22 = .ok (.aload_n 0, 1) := by decide +kernel
theorem dX7_readsReading_23 : decode cX7_readsReading 23 = .ok (.bipush 58, 2) := by decide +kernel
theorem dX7_readsReading_25 : decode cX7_readsReading 25 = .ok (.invokevirtual 132, 3) := by decide +kernel
theorem dX7_readsReading_28 : decode cX7_readsReading 28 = .ok (.ifCond .eq 13, 3) := by decide +kernel
theorem dX7_readsReading_31 : decode cX7_readsReading 31 = .ok (.aload_n 0, 1) := by decide +kernel
theorem dX7_readsReading_32 : decode cX7_readsReading 32 = .ok (.sipush 300, 3) := by decide +kernel
theorem dX7_readsReading_35 : decode cX7_readsReading 35 = .ok (.invokevirtual 129, 3) := by decide +kernel
theorem dX7_readsReading_38 : decode cX7_readsReading 38 = .ok (.ifCond .ne 5, 3) := by decide +kernel
theorem dX7_readsReading_41 : decode cX7_readsReading 41 = .ok (.iconst 0, 1) := by decide +kernel
theorem dX7_readsReading_42 : decode cX7_readsReading 42 = .ok (.ireturn, 1) := by decide +kernel
theorem dX7_readsReading_43 : decode cX7_readsReading 43 = .ok (.aload_n 0, 1) := by decide +kernel
theorem dX7_readsReading_44 : decode cX7_readsReading 44 = .ok (.getfield 126, 3) := by decide +kernel
theorem dX7_readsReading_47 : decode cX7_readsReading 47 = .ok (.istore_n 3, 1) := by decide +kernel
theorem dX7_readsReading_48 : decode cX7_readsReading 48 = .ok (.aload_n 0, 1) := by decide +kernel
theorem dX7_readsReading_49 : decode cX7_readsReading 49 = .ok (.bipush 47, 2) := by decide +kernel
theorem dX7_readsReading_51 : decode cX7_readsReading 51 = .ok (.invokevirtual 132, 3) := by decide +kernel
theorem dX7_readsReading_54 : decode cX7_readsReading 54 = .ok (.ifCond .eq 13, 3) := by decide +kernel
theorem dX7_readsReading_57 : decode cX7_readsReading 57 = .ok (.aload_n 0, 1) := by decide +kernel
theorem dX7_readsReading_58 : decode cX7_readsReading 58 = .ok (.sipush 300, 3) := by decide +kernel
theorem dX7_readsReading_61 : decode cX7_readsReading 61 = .ok (.invokevirtual 129, 3) := by decide +kernel
theorem dX7_readsReading_64 : decode cX7_readsReading 64 = .ok (.ifCond .ne 5, 3) := by decide +kernel
theorem dX7_readsReading_67 : decode cX7_readsReading 67 = .ok (.iconst 0, 1) := by decide +kernel
theorem dX7_readsReading_68 : decode cX7_readsReading 68 = .ok (.ireturn, 1) := by decide +kernel
theorem dX7_readsReading_69 : decode cX7_readsReading 69 = .ok (.aload_n 0, 1) := by decide +kernel
theorem dX7_readsReading_70 : decode cX7_readsReading 70 = .ok (.getfield 126, 3) := by decide +kernel
theorem dX7_readsReading_73 : decode cX7_readsReading 73 = .ok (.istore 4, 2) := by decide +kernel
theorem dX7_readsReading_75 : decode cX7_readsReading 75 = .ok (.aload_n 0, 1) := by decide +kernel
theorem dX7_readsReading_76 : decode cX7_readsReading 76 = .ok (.iconst 0, 1) := by decide +kernel
theorem dX7_readsReading_77 : decode cX7_readsReading 77 = .ok (.putfield 126, 3) := by decide +kernel
theorem dX7_readsReading_80 : decode cX7_readsReading 80 = .ok (.aload_n 0, 1) := by decide +kernel
theorem dX7_readsReading_81 : decode cX7_readsReading 81 = .ok (.bipush 64, 2) := by decide +kernel
theorem dX7_readsReading_83 : decode cX7_readsReading 83 = .ok (.invokevirtual 132, 3) := by decide +kernel
theorem dX7_readsReading_86 : decode cX7_readsReading 86 = .ok (.ifCond .eq 14, 3) := by decide +kernel
theorem dX7_readsReading_89 : decode cX7_readsReading 89 = .ok (.aload_n 0, 1) := by decide +kernel
theorem dX7_readsReading_90 : decode cX7_readsReading 90 = .ok (.bipush 60, 2) := by decide +kernel
theorem dX7_readsReading_92 : decode cX7_readsReading 92 = .ok (.invokevirtual 129, 3) := by decide +kernel
theorem dX7_readsReading_95 : decode cX7_readsReading 95 = .ok (.ifCond .ne 5, 3) := by decide +kernel
theorem dX7_readsReading_98 : decode cX7_readsReading 98 = .ok (.iconst 0, 1) := by decide +kernel
theorem dX7_readsReading_99 : decode cX7_readsReading 99 = .ok (.ireturn, 1) := by decide +kernel
theorem dX7_readsReading_100 : decode cX7_readsReading 100 = .ok (.aload_n 0, 1) := by decide +kernel
theorem dX7_readsReading_101 : decode cX7_readsReading 101 = .ok (.dup, 1) := by decide +kernel
theorem dX7_readsReading_102 : decode cX7_readsReading 102 = .ok (.getfield 135, 3) := by decide +kernel
theorem dX7_readsReading_105 : decode cX7_readsReading 105 = .ok (.iconst 1, 1) := by decide +kernel
theorem dX7_readsReading_106 : decode cX7_readsReading 106 = .ok (.iadd, 1) := by decide +kernel
theorem dX7_readsReading_107 : decode cX7_readsReading 107 = .ok (.putfield 135, 3) := by decide +kernel
theorem dX7_readsReading_110 : decode cX7_readsReading 110 = .ok (.iload_n 1, 1) := by decide +kernel
theorem dX7_readsReading_111 : decode cX7_readsReading 111 = .ok (.ifCond .eq 15, 3) := by decide +kernel
theorem dX7_readsReading_114 : decode cX7_readsReading 114 = .ok (.aload_n 0, 1) := by decide +kernel
theorem dX7_readsReading_115 : decode cX7_readsReading 115 = .ok (.iload_n 2, 1) := by decide +kernel
theorem dX7_readsReading_116 : decode cX7_readsReading 116 = .ok (.iload_n 3, 1) := by decide +kernel
theorem dX7_readsReading_117 : decode cX7_readsReading 117 = .ok (.iload 4, 2) := by decide +kernel
theorem dX7_readsReading_119 : decode cX7_readsReading 119 = .ok (.aload_n 0, 1) := by decide +kernel
theorem dX7_readsReading_120 : decode cX7_readsReading 120 = .ok (.getfield 126, 3) := by decide +kernel
theorem dX7_readsReading_123 : decode cX7_readsReading 123 = .ok (.invokevirtual 67, 3) := by decide +kernel
theorem dX7_readsReading_126 : decode cX7_readsReading 126 = .ok (.iconst 1, 1) := by decide +kernel
theorem dX7_readsReading_127 : decode cX7_readsReading 127 = .ok (.ireturn, 1) := by decide +kernel
theorem dX7_readsText_0 : decode cX7_readsText 0 = .ok (.aload_n 0, 1) := by decide +kernel
theorem dX7_readsText_1 : decode cX7_readsText 1 = .ok (.iconst 0, 1) := by decide +kernel
theorem dX7_readsText_2 : decode cX7_readsText 2 = .ok (.putfield 119, 3) := by decide +kernel
theorem dX7_readsText_5 : decode cX7_readsText 5 = .ok (.aload_n 0, 1) := by decide +kernel
theorem dX7_readsText_6 : decode cX7_readsText 6 = .ok (.iconst 0, 1) := by decide +kernel
theorem dX7_readsText_7 : decode cX7_readsText 7 = .ok (.putfield 135, 3) := by decide +kernel
theorem dX7_readsText_10 : decode cX7_readsText 10 = .ok (.aload_n 0, 1) := by decide +kernel
theorem dX7_readsText_11 : decode cX7_readsText 11 = .ok (.iload_n 1, 1) := by decide +kernel
theorem dX7_readsText_12 : decode cX7_readsText 12 = .ok (.invokevirtual 138, 3) := by decide +kernel
theorem dX7_readsText_15 : decode cX7_readsText 15 = .ok (.istore_n 2, 1) := by decide +kernel
theorem dX7_readsText_16 : decode cX7_readsText 16 = .ok (.aload_n 0, 1) := by decide +kernel
theorem dX7_readsText_17 : decode cX7_readsText 17 = .ok (.invokevirtual 122, 3) := by decide +kernel
theorem dX7_readsText_20 : decode cX7_readsText 20 = .ok (.istore_n 3, 1) := by decide +kernel
theorem dX7_readsText_21 : decode cX7_readsText 21 = .ok (.iload_n 2, 1) := by decide +kernel
theorem dX7_readsText_22 : decode cX7_readsText 22 = .ok (.ifCond .eq 39, 3) := by decide +kernel
theorem dX7_readsText_25 : decode cX7_readsText 25 = .ok (.iload_n 3, 1) := by decide +kernel
theorem dX7_readsText_26 : decode cX7_readsText 26 = .ok (.iconst (-1), 1) := by decide +kernel
theorem dX7_readsText_27 : decode cX7_readsText 27 = .ok (.if_icmp .eq 34, 3) := by decide +kernel
theorem dX7_readsText_30 : decode cX7_readsText 30 = .ok (.aload_n 0, 1) := by decide +kernel
theorem dX7_readsText_31 : decode cX7_readsText 31 = .ok (.bipush 59, 2) := by decide +kernel
theorem dX7_readsText_33 : decode cX7_readsText 33 = .ok (.invokevirtual 132, 3) := by decide +kernel
theorem dX7_readsText_36 : decode cX7_readsText 36 = .ok (.ifCond .eq 15, 3) := by decide +kernel
theorem dX7_readsText_39 : decode cX7_readsText 39 = .ok (.aload_n 0, 1) := by decide +kernel
theorem dX7_readsText_40 : decode cX7_readsText 40 = .ok (.iload_n 1, 1) := by decide +kernel
theorem dX7_readsText_41 : decode cX7_readsText 41 = .ok (.invokevirtual 138, 3) := by decide +kernel
theorem dX7_readsText_44 : decode cX7_readsText 44 = .ok (.ifCond .eq 7, 3) := by decide +kernel
theorem dX7_readsText_47 : decode cX7_readsText 47 = .ok (.iconst 1, 1) := by decide +kernel
theorem dX7_readsText_48 : decode cX7_readsText 48 = .ok (.goto 4, 3) := by decide +kernel
theorem dX7_readsText_51 : decode cX7_readsText 51 = .ok (.iconst 0, 1) := by decide +kernel
theorem dX7_readsText_52 : decode cX7_readsText 52 = .ok (.istore_n 2, 1) := by decide +kernel
theorem dX7_readsText_53 : decode cX7_readsText 53 = .ok (.aload_n 0, 1) := by decide +kernel
theorem dX7_readsText_54 : decode cX7_readsText 54 = .ok (.invokevirtual 122, 3) := by decide +kernel
theorem dX7_readsText_57 : decode cX7_readsText 57 = .ok (.istore_n 3, 1) := by decide +kernel
theorem dX7_readsText_58 : decode cX7_readsText 58 = .ok (.goto (-37), 3) := by decide +kernel
theorem dX7_readsText_61 : decode cX7_readsText 61 = .ok (.iload_n 2, 1) := by decide +kernel
theorem dX7_readsText_62 : decode cX7_readsText 62 = .ok (.ireturn, 1) := by decide +kernel
theorem dX7_textFault_0 : decode cX7_textFault 0 = .ok (.aload_n 0, 1) := by decide +kernel
theorem dX7_textFault_1 : decode cX7_textFault 1 = .ok (.iconst 0, 1) := by decide +kernel
theorem dX7_textFault_2 : decode cX7_textFault 2 = .ok (.invokevirtual 142, 3) := by decide +kernel
theorem dX7_textFault_5 : decode cX7_textFault 5 = .ok (.ifCond .eq 7, 3) := by decide +kernel
theorem dX7_textFault_8 : decode cX7_textFault 8 = .ok (.iconst (-1), 1) := by decide +kernel
theorem dX7_textFault_9 : decode cX7_textFault 9 = .ok (.goto 7, 3) := by decide +kernel
theorem dX7_textFault_12 : decode cX7_textFault 12 = .ok (.aload_n 0, 1) := by decide +kernel
theorem dX7_textFault_13 : decode cX7_textFault 13 = .ok (.getfield 119, 3) := by decide +kernel
theorem dX7_textFault_16 : decode cX7_textFault 16 = .ok (.ireturn, 1) := by decide +kernel
theorem dX7_readAll_0 : decode cX7_readAll 0 = .ok (.aload_n 0, 1) := by decide +kernel
theorem dX7_readAll_1 : decode cX7_readAll 1 = .ok (.iconst 0, 1) := by decide +kernel
theorem dX7_readAll_2 : decode cX7_readAll 2 = .ok (.invokevirtual 142, 3) := by decide +kernel
theorem dX7_readAll_5 : decode cX7_readAll 5 = .ok (.ifCond .ne 6, 3) := by decide +kernel
theorem dX7_readAll_8 : decode cX7_readAll 8 = .ok (.bipush (-4), 2) := by decide +kernel
theorem dX7_readAll_10 : decode cX7_readAll 10 = .ok (.ireturn, 1) := by decide +kernel
theorem dX7_readAll_11 : decode cX7_readAll 11 = .ok (.aload_n 0, 1) := by decide +kernel
theorem dX7_readAll_12 : decode cX7_readAll 12 = .ok (.invokevirtual 47, 3) := by decide +kernel
theorem dX7_readAll_15 : decode cX7_readAll 15 = .ok (.aload_n 0, 1) := by decide +kernel
theorem dX7_readAll_16 : decode cX7_readAll 16 = .ok (.iconst 1, 1) := by decide +kernel
theorem dX7_readAll_17 : decode cX7_readAll 17 = .ok (.invokevirtual 142, 3) := by decide +kernel
theorem dX7_readAll_20 : decode cX7_readAll 20 = .ok (.istore_n 1, 1) := by decide +kernel
theorem dX7_readAll_21 : decode cX7_readAll 21 = .ok (.aload_n 0, 1) := by decide +kernel
theorem dX7_readAll_22 : decode cX7_readAll 22 = .ok (.getfield 135, 3) := by decide +kernel
theorem dX7_readAll_25 : decode cX7_readAll 25 = .ok (.ireturn, 1) := by decide +kernel
theorem dX7_note_0 : decode cX7_note 0 = .ok (.aload_n 0, 1) := by decide +kernel
theorem dX7_note_1 : decode cX7_note 1 = .ok (.ldc2_w 145, 3) := by decide +kernel
theorem dX7_note_4 : decode cX7_note 4 = .ok (.aload_n 0, 1) := by decide +kernel
theorem dX7_note_5 : decode cX7_note 5 = .ok (.getfield 147, 3) := by decide +kernel
theorem dX7_note_8 : decode cX7_note 8 = .ok (.lmul, 1) := by decide +kernel
theorem dX7_note_9 : decode cX7_note 9 = .ok (.lload_n 1, 1) := by decide +kernel
theorem dX7_note_10 : decode cX7_note 10 = .ok (.ladd, 1) := by decide +kernel
theorem dX7_note_11 : decode cX7_note 11 = .ok (.putfield 147, 3) := by decide +kernel
theorem dX7_note_14 : decode cX7_note 14 = .ok (.return_, 1) := by decide +kernel
theorem dX7_digest_0 : decode cX7_digest 0 = .ok (.aload_n 0, 1) := by decide +kernel
theorem dX7_digest_1 : decode cX7_digest 1 = .ok (.ldc2_w 151, 3) := by decide +kernel
theorem dX7_digest_4 : decode cX7_digest 4 = .ok (.putfield 147, 3) := by decide +kernel
theorem dX7_digest_7 : decode cX7_digest 7 = .ok (.iconst 0, 1) := by decide +kernel
theorem dX7_digest_8 : decode cX7_digest 8 = .ok (.istore_n 1, 1) := by decide +kernel
theorem dX7_digest_9 : decode cX7_digest 9 = .ok (.iload_n 1, 1) := by decide +kernel
theorem dX7_digest_10 : decode cX7_digest 10 = .ok (.bipush 11, 2) := by decide +kernel
theorem dX7_digest_12 : decode cX7_digest 12 = .ok (.aload_n 0, 1) := by decide +kernel
theorem dX7_digest_13 : decode cX7_digest 13 = .ok (.getfield 7, 3) := by decide +kernel
theorem dX7_digest_16 : decode cX7_digest 16 = .ok (.iconst 0, 1) := by decide +kernel
theorem dX7_digest_17 : decode cX7_digest 17 = .ok (.iaload, 1) := by decide +kernel
theorem dX7_digest_18 : decode cX7_digest 18 = .ok (.iadd, 1) := by decide +kernel
theorem dX7_digest_19 : decode cX7_digest 19 = .ok (.if_icmp .ge 20, 3) := by decide +kernel
theorem dX7_digest_22 : decode cX7_digest 22 = .ok (.aload_n 0, 1) := by decide +kernel
theorem dX7_digest_23 : decode cX7_digest 23 = .ok (.aload_n 0, 1) := by decide +kernel
theorem dX7_digest_24 : decode cX7_digest 24 = .ok (.getfield 7, 3) := by decide +kernel
theorem dX7_digest_27 : decode cX7_digest 27 = .ok (.iload_n 1, 1) := by decide +kernel
theorem dX7_digest_28 : decode cX7_digest 28 = .ok (.iaload, 1) := by decide +kernel
theorem dX7_digest_29 : decode cX7_digest 29 = .ok (.i2l, 1) := by decide +kernel
theorem dX7_digest_30 : decode cX7_digest 30 = .ok (.invokevirtual 153, 3) := by decide +kernel
theorem dX7_digest_33 : decode cX7_digest 33 = .ok (.iinc 1 1, 3) := by decide +kernel
theorem dX7_digest_36 : decode cX7_digest 36 = .ok (.goto (-27), 3) := by decide +kernel
theorem dX7_digest_39 : decode cX7_digest 39 = .ok (.iconst 0, 1) := by decide +kernel
theorem dX7_digest_40 : decode cX7_digest 40 = .ok (.istore_n 1, 1) := by decide +kernel
theorem dX7_digest_41 : decode cX7_digest 41 = .ok (.iload_n 1, 1) := by decide +kernel
theorem dX7_digest_42 : decode cX7_digest 42 = .ok (.aload_n 0, 1) := by decide +kernel
theorem dX7_digest_43 : decode cX7_digest 43 = .ok (.getfield 7, 3) := by decide +kernel
theorem dX7_digest_46 : decode cX7_digest 46 = .ok (.iconst 1, 1) := by decide +kernel
theorem dX7_digest_47 : decode cX7_digest 47 = .ok (.iaload, 1) := by decide +kernel
theorem dX7_digest_48 : decode cX7_digest 48 = .ok (.if_icmp .ge 44, 3) := by decide +kernel
theorem dX7_digest_51 : decode cX7_digest 51 = .ok (.iconst 0, 1) := by decide +kernel
theorem dX7_digest_52 : decode cX7_digest 52 = .ok (.istore_n 2, 1) := by decide +kernel
theorem dX7_digest_53 : decode cX7_digest 53 = .ok (.iload_n 2, 1) := by decide +kernel
theorem dX7_digest_54 : decode cX7_digest 54 = .ok (.bipush 7, 2) := by decide +kernel
theorem dX7_digest_56 : decode cX7_digest 56 = .ok (.if_icmp .ge 20, 3) := by decide +kernel
theorem dX7_digest_59 : decode cX7_digest 59 = .ok (.aload_n 0, 1) := by decide +kernel
theorem dX7_digest_60 : decode cX7_digest 60 = .ok (.aload_n 0, 1) := by decide +kernel
theorem dX7_digest_61 : decode cX7_digest 61 = .ok (.iload_n 1, 1) := by decide +kernel
theorem dX7_digest_62 : decode cX7_digest 62 = .ok (.iload_n 2, 1) := by decide +kernel
theorem dX7_digest_63 : decode cX7_digest 63 = .ok (.invokevirtual 39, 3) := by decide +kernel
theorem dX7_digest_66 : decode cX7_digest 66 = .ok (.i2l, 1) := by decide +kernel
theorem dX7_digest_67 : decode cX7_digest 67 = .ok (.invokevirtual 153, 3) := by decide +kernel
theorem dX7_digest_70 : decode cX7_digest 70 = .ok (.iinc 2 1, 3) := by decide +kernel
theorem dX7_digest_73 : decode cX7_digest 73 = .ok (.goto (-20), 3) := by decide +kernel
theorem dX7_digest_76 : decode cX7_digest 76 = .ok (.aload_n 0, 1) := by decide +kernel
theorem dX7_digest_77 : decode cX7_digest 77 = .ok (.aload_n 0, 1) := by decide +kernel
theorem dX7_digest_78 : decode cX7_digest 78 = .ok (.getfield 13, 3) := by decide +kernel
theorem dX7_digest_81 : decode cX7_digest 81 = .ok (.iload_n 1, 1) := by decide +kernel
theorem dX7_digest_82 : decode cX7_digest 82 = .ok (.laload, 1) := by decide +kernel
theorem dX7_digest_83 : decode cX7_digest 83 = .ok (.invokevirtual 153, 3) := by decide +kernel
theorem dX7_digest_86 : decode cX7_digest 86 = .ok (.iinc 1 1, 3) := by decide +kernel
theorem dX7_digest_89 : decode cX7_digest 89 = .ok (.goto (-48), 3) := by decide +kernel
theorem dX7_digest_92 : decode cX7_digest 92 = .ok (.aload_n 0, 1) := by decide +kernel
theorem dX7_digest_93 : decode cX7_digest 93 = .ok (.getfield 147, 3) := by decide +kernel
theorem dX7_digest_96 : decode cX7_digest 96 = .ok (.lreturn, 1) := by decide +kernel
