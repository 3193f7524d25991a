theorem dX6_init_0 : decode cX6_init 0 = .ok (.aload_n 0, 1) := by decide +kernel
theorem dX6_init_1 : decode cX6_init 1 = .ok (.invokespecial 1, 3) := by decide +kernel
theorem dX6_init_4 : decode cX6_init 4 = .ok (.aload_n 0, 1) := by decide +kernel
theorem dX6_init_5 : decode cX6_init 5 = .ok (.new 7, 3) := by decide +kernel
theorem dX6_init_8 : decode cX6_init 8 = .ok (.dup, 1) := by decide +kernel
theorem dX6_init_9 : decode cX6_init 9 = .ok (.invokespecial 9, 3) := by decide +kernel
theorem dX6_init_12 : decode cX6_init 12 = .ok (.putfield 10, 3) := by decide +kernel
theorem dX6_init_15 : decode cX6_init 15 = .ok (.aload_n 0, 1) := by decide +kernel
theorem dX6_init_16 : decode cX6_init 16 = .ok (.new 16, 3) := by decide +kernel
theorem dX6_init_19 : decode cX6_init 19 = .ok (.dup, 1) := by decide +kernel
theorem dX6_init_20 : decode cX6_init 20 = .ok (.invokespecial 18, 3) := by decide +kernel
theorem dX6_init_23 : decode cX6_init 23 = .ok (.putfield 19, 3) := by decide +kernel
theorem dX6_init_26 : decode cX6_init 26 = .ok (.aload_n 0, 1) := by decide +kernel
theorem dX6_init_27 : decode cX6_init 27 = .ok (.new 23, 3) := by decide +kernel
theorem dX6_init_30 : decode cX6_init 30 = .ok (.dup, 1) := by decide +kernel
theorem dX6_init_31 : decode cX6_init 31 = .ok (.invokespecial 25, 3) := by decide +kernel
theorem dX6_init_34 : decode cX6_init 34 = .ok (.putfield 26, 3) := by decide +kernel
theorem dX6_init_37 : decode cX6_init 37 = .ok (.aload_n 0, 1) := by decide +kernel
theorem dX6_init_38 : decode cX6_init 38 = .ok (.new 30, 3) := by decide +kernel
theorem dX6_init_41 : decode cX6_init 41 = .ok (.dup, 1) := by decide +kernel
theorem dX6_init_42 : decode cX6_init 42 = .ok (.invokespecial 32, 3) := by decide +kernel
theorem dX6_init_45 : decode cX6_init 45 = .ok (.putfield 33, 3) := by decide +kernel
theorem dX6_init_48 : decode cX6_init 48 = .ok (.aload_n 0, 1) := by decide +kernel
theorem dX6_init_49 : decode cX6_init 49 = .ok (.new 37, 3) := by decide +kernel
theorem dX6_init_52 : decode cX6_init 52 = .ok (.dup, 1) := by decide +kernel
theorem dX6_init_53 : decode cX6_init 53 = .ok (.invokespecial 39, 3) := by decide +kernel
theorem dX6_init_56 : decode cX6_init 56 = .ok (.putfield 40, 3) := by decide +kernel
theorem dX6_init_59 : decode cX6_init 59 = .ok (.return_, 1) := by decide +kernel
theorem dX6_setPressure_0 : decode cX6_setPressure 0 = .ok (.aload_n 0, 1) := by decide +kernel
theorem dX6_setPressure_1 : decode cX6_setPressure 1 = .ok (.getfield 10, 3) := by decide +kernel
theorem dX6_setPressure_4 : decode cX6_setPressure 4 = .ok (.iload_n 1, 1) := by decide +kernel
theorem dX6_setPressure_5 : decode cX6_setPressure 5 = .ok (.invokevirtual 44, 3) := by decide +kernel
theorem dX6_setPressure_8 : decode cX6_setPressure 8 = .ok (.ifCond .ne 6, 3) := by decide +kernel
theorem dX6_setPressure_11 : decode cX6_setPressure 11 = .ok (.bipush (-2), 2) := by decide +kernel
theorem dX6_setPressure_13 : decode cX6_setPressure 13 = .ok (.ireturn, 1) := by decide +kernel
theorem dX6_setPressure_14 : decode cX6_setPressure 14 = .ok (.iload_n 2, 1) := by decide +kernel
theorem dX6_setPressure_15 : decode cX6_setPressure 15 = .ok (.iconst 1, 1) := by decide +kernel
theorem dX6_setPressure_16 : decode cX6_setPressure 16 = .ok (.bipush 20, 2) := by decide +kernel
theorem dX6_setPressure_18 : decode cX6_setPressure 18 = .ok (.invokestatic 48, 3) := by decide +kernel
theorem dX6_setPressure_21 : decode cX6_setPressure 21 = .ok (.ifCond .ne 6, 3) := by decide +kernel
theorem dX6_setPressure_24 : decode cX6_setPressure 24 = .ok (.bipush (-3), 2) := by decide +kernel
theorem dX6_setPressure_26 : decode cX6_setPressure 26 = .ok (.ireturn, 1) := by decide +kernel
theorem dX6_setPressure_27 : decode cX6_setPressure 27 = .ok (.aload_n 0, 1) := by decide +kernel
theorem dX6_setPressure_28 : decode cX6_setPressure 28 = .ok (.getfield 19, 3) := by decide +kernel
theorem dX6_setPressure_31 : decode cX6_setPressure 31 = .ok (.aload_n 0, 1) := by decide +kernel
theorem dX6_setPressure_32 : decode cX6_setPressure 32 = .ok (.getfield 10, 3) := by decide +kernel
theorem dX6_setPressure_35 : decode cX6_setPressure 35 = .ok (.invokevirtual 52, 3) := by decide +kernel
theorem dX6_setPressure_38 : decode cX6_setPressure 38 = .ok (.aload_n 0, 1) := by decide +kernel
theorem dX6_setPressure_39 : decode cX6_setPressure 39 = .ok (.getfield 10, 3) := by decide +kernel
theorem dX6_setPressure_42 : decode cX6_setPressure 42 = .ok (.getfield 56, 3) := by decide +kernel
theorem dX6_setPressure_45 : decode cX6_setPressure 45 = .ok (.iload_n 1, 1) := by decide +kernel
theorem dX6_setPressure_46 : decode cX6_setPressure 46 = .ok (.iaload, 1) := by decide +kernel
theorem dX6_setPressure_47 : decode cX6_setPressure 47 = .ok (.istore_n 3, 1) := by decide +kernel
theorem dX6_setPressure_48 : decode cX6_setPressure 48 = .ok (.aload_n 0, 1) := by decide +kernel
theorem dX6_setPressure_49 : decode cX6_setPressure 49 = .ok (.getfield 10, 3) := by decide +kernel
theorem dX6_setPressure_52 : decode cX6_setPressure 52 = .ok (.getfield 56, 3) := by decide +kernel
theorem dX6_setPressure_55 : decode cX6_setPressure 55 = .ok (.iload_n 1, 1) := by decide +kernel
theorem dX6_setPressure_56 : decode cX6_setPressure 56 = .ok (.iload_n 2, 1) := by decide +kernel
theorem dX6_setPressure_57 : decode cX6_setPressure 57 = .ok (.iastore, 1) := by decide +kernel
theorem dX6_setPressure_58 : decode cX6_setPressure 58 = .ok (.iload_n 3, 1) := by decide +kernel
theorem dX6_setPressure_59 : decode cX6_setPressure 59 = .ok (.ireturn, 1) := by decide +kernel
theorem dX6_addLine_0 : decode cX6_addLine 0 = .ok (.aload_n 0, 1) := by decide +kernel
theorem dX6_addLine_1 : decode cX6_addLine 1 = .ok (.getfield 10, 3) := by decide +kernel
theorem dX6_addLine_4 : decode cX6_addLine 4 = .ok (.iload_n 1, 1) := by decide +kernel
theorem dX6_addLine_5 : decode cX6_addLine 5 = .ok (.invokevirtual 44, 3) := by decide +kernel
theorem dX6_addLine_8 : decode cX6_addLine 8 = .ok (.ifCond .ne 6, 3) := by decide +kernel
theorem dX6_addLine_11 : decode cX6_addLine 11 = .ok (.bipush (-2), 2) := by decide +kernel
theorem dX6_addLine_13 : decode cX6_addLine 13 = .ok (.ireturn, 1) := by decide +kernel
theorem dX6_addLine_14 : decode cX6_addLine 14 = .ok (.aload_n 0, 1) := by decide +kernel
theorem dX6_addLine_15 : decode cX6_addLine 15 = .ok (.getfield 10, 3) := by decide +kernel
theorem dX6_addLine_18 : decode cX6_addLine 18 = .ok (.getfield 60, 3) := by decide +kernel
theorem dX6_addLine_21 : decode cX6_addLine 21 = .ok (.bipush 8, 2) := by decide +kernel
theorem dX6_addLine_23 : decode cX6_addLine 23 = .ok (.if_icmp .lt 6, 3) := by decide +kernel
theorem dX6_addLine_26 : decode cX6_addLine 26 = .ok (.bipush (-5), 2) := by decide +kernel
theorem dX6_addLine_28 : decode cX6_addLine 28 = .ok (.ireturn, 1) := by decide +kernel
theorem dX6_addLine_29 : decode cX6_addLine 29 = .ok (.aload_n 0, 1) := by decide +kernel
theorem dX6_addLine_30 : decode cX6_addLine 30 = .ok (.getfield 19, 3) := by decide +kernel
theorem dX6_addLine_33 : decode cX6_addLine 33 = .ok (.aload_n 0, 1) := by decide +kernel
theorem dX6_addLine_34 : decode cX6_addLine 34 = .ok (.getfield 10, 3) := by decide +kernel
theorem dX6_addLine_37 : decode cX6_addLine 37 = .ok (.invokevirtual 52, 3) := by decide +kernel
theorem dX6_addLine_40 : decode cX6_addLine 40 = .ok (.aload_n 0, 1) := by decide +kernel
theorem dX6_addLine_41 : decode cX6_addLine 41 = .ok (.getfield 10, 3) := by decide +kernel
theorem dX6_addLine_44 : decode cX6_addLine 44 = .ok (.getfield 60, 3) := by decide +kernel
theorem dX6_addLine_47 : decode cX6_addLine 47 = .ok (.istore_n 2, 1) := by decide +kernel
theorem dX6_addLine_48 : decode cX6_addLine 48 = .ok (.aload_n 0, 1) := by decide +kernel
theorem dX6_addLine_49 : decode cX6_addLine 49 = .ok (.getfield 10, 3) := by decide +kernel
theorem dX6_addLine_52 : decode cX6_addLine 52 = .ok (.getfield 64, 3) := by decide +kernel
theorem dX6_addLine_55 : decode cX6_addLine 55 = .ok (.iload_n 2, 1) := by decide +kernel
theorem dX6_addLine_56 : decode cX6_addLine 56 = .ok (.iload_n 1, 1) := by decide +kernel
theorem dX6_addLine_57 : decode cX6_addLine 57 = .ok (.iastore, 1) := by decide +kernel
theorem dX6_addLine_58 : decode cX6_addLine 58 = .ok (.aload_n 0, 1) := by decide +kernel
theorem dX6_addLine_59 : decode cX6_addLine 59 = .ok (.getfield 10, 3) := by decide +kernel
theorem dX6_addLine_62 : decode cX6_addLine 62 = .ok (.dup, 1) := by decide +kernel
theorem dX6_addLine_63 : decode cX6_addLine 63 = .ok (.getfield 60, 3) := by decide +kernel
theorem dX6_addLine_66 : decode cX6_addLine 66 = .ok (.iconst 1, 1) := by decide +kernel
theorem dX6_addLine_67 : decode cX6_addLine 67 = .ok (.iadd, 1) := by decide +kernel
theorem dX6_addLine_68 : decode cX6_addLine 68 = .ok (.putfield 60, 3) := by decide +kernel
theorem dX6_addLine_71 : decode cX6_addLine 71 = .ok (.iload_n 2, 1) := by decide +kernel
theorem dX6_addLine_72 : decode cX6_addLine 72 = .ok (.ireturn, 1) := by decide +kernel
theorem dX6_addTrap_0 : decode cX6_addTrap 0 = .ok (.aload_n 0, 1) := by decide +kernel
theorem dX6_addTrap_1 : decode cX6_addTrap 1 = .ok (.getfield 10, 3) := by decide +kernel
theorem dX6_addTrap_4 : decode cX6_addTrap 4 = .ok (.iload_n 1, 1) := by decide +kernel
theorem dX6_addTrap_5 : decode cX6_addTrap 5 = .ok (.invokevirtual 67, 3) := by decide +kernel
theorem dX6_addTrap_8 : decode cX6_addTrap 8 = .ok (.ifCond .ne 6, 3) := by decide +kernel
theorem dX6_addTrap_11 : decode cX6_addTrap 11 = .ok (.bipush (-2), 2) := by decide +kernel
theorem dX6_addTrap_13 : decode cX6_addTrap 13 = .ok (.ireturn, 1) := by decide +kernel
theorem dX6_addTrap_14 : decode cX6_addTrap 14 = .ok (.iload_n 2, 1) := by decide +kernel
theorem dX6_addTrap_15 : decode cX6_addTrap 15 = .ok (.iconst 0, 1) := by decide +kernel
theorem dX6_addTrap_16 : decode cX6_addTrap 16 = .ok (.iconst 2, 1) := by decide +kernel
theorem dX6_addTrap_17 : decode cX6_addTrap 17 = .ok (.invokestatic 48, 3) := by decide +kernel
theorem dX6_addTrap_20 : decode cX6_addTrap 20 = .ok (.ifCond .eq 35, 3) := by decide +kernel
theorem dX6_addTrap_23 : decode cX6_addTrap 23 = .ok (.iload_n 3, 1) := by decide +kernel
theorem dX6_addTrap_24 : decode cX6_addTrap 24 = .ok (.iconst 1, 1) := by decide +kernel
theorem dX6_addTrap_25 : decode cX6_addTrap 25 = .ok (.bipush 9, 2) := by decide +kernel
theorem dX6_addTrap_27 : decode cX6_addTrap 27 = .ok (.invokestatic 48, 3) := by decide +kernel
theorem dX6_addTrap_30 : decode cX6_addTrap 30 = .ok (.ifCond .eq 25, 3) := by decide +kernel
theorem dX6_addTrap_33 : decode cX6_addTrap 33 = .ok (.iload 4, 2) := by decide +kernel
theorem dX6_addTrap_35 : decode cX6_addTrap 35 = .ok (.iconst 0, 1) := by decide +kernel
theorem dX6_addTrap_36 : decode cX6_addTrap 36 = .ok (.bipush 50, 2) := by decide +kernel
theorem dX6_addTrap_38 : decode cX6_addTrap 38 = .ok (.invokestatic 48, 3) := by decide +kernel
theorem dX6_addTrap_41 : decode cX6_addTrap 41 = .ok (.ifCond .eq 14, 3) := by decide +kernel
theorem dX6_addTrap_44 : decode cX6_addTrap 44 = .ok (.iload 5, 2) := by decide +kernel
theorem dX6_addTrap_46 : decode cX6_addTrap 46 = .ok (.iconst 0, 1) := by decide +kernel
theorem dX6_addTrap_47 : decode cX6_addTrap 47 = .ok (.bipush 50, 2) := by decide +kernel
theorem dX6_addTrap_49 : decode cX6_addTrap 49 = .ok (.invokestatic 48, 3) := by decide +kernel
theorem dX6_addTrap_52 : decode cX6_addTrap 52 = .ok (.ifCond .ne 6, 3) := by decide +kernel
theorem dX6_addTrap_55 : decode cX6_addTrap 55 = .ok (.bipush (-3), 2) := by decide +kernel
theorem dX6_addTrap_57 : decode cX6_addTrap 57 = .ok (.ireturn, 1) := by decide +kernel
theorem dX6_addTrap_58 : decode cX6_addTrap 58 = .ok (.aload_n 0, 1) := by decide +kernel
theorem dX6_addTrap_59 : decode cX6_addTrap 59 = .ok (.getfield 10, 3) := by decide +kernel
theorem dX6_addTrap_62 : decode cX6_addTrap 62 = .ok (.getfield 70, 3) := by decide +kernel
theorem dX6_addTrap_65 : decode cX6_addTrap 65 = .ok (.bipush 16, 2) := by decide +kernel
theorem dX6_addTrap_67 : decode cX6_addTrap 67 = .ok (.if_icmp .lt 6, 3) := by decide +kernel
theorem dX6_addTrap_70 : decode cX6_addTrap 70 = .ok (.bipush (-5), 2) := by decide +kernel
theorem dX6_addTrap_72 : decode cX6_addTrap 72 = .ok (.ireturn, 1) := by decide +kernel
theorem dX6_addTrap_73 : decode cX6_addTrap 73 = .ok (.aload_n 0, 1) := by decide +kernel
theorem dX6_addTrap_74 : decode cX6_addTrap 74 = .ok (.getfield 19, 3) := by decide +kernel
theorem dX6_addTrap_77 : decode cX6_addTrap 77 = .ok (.aload_n 0, 1) := by decide +kernel
theorem dX6_addTrap_78 : decode cX6_addTrap 78 = .ok (.getfield 10, 3) := by decide +kernel
theorem dX6_addTrap_81 : decode cX6_addTrap 81 = .ok (.invokevirtual 52, 3) := by decide +kernel
theorem dX6_addTrap_84 : decode cX6_addTrap 84 = .ok (.aload_n 0, 1) := by decide +kernel
theorem dX6_addTrap_85 : decode cX6_addTrap 85 = .ok (.getfield 10, 3) := by decide +kernel
theorem dX6_addTrap_88 : decode cX6_addTrap 88 = .ok (.getfield 70, 3) := by decide +kernel
theorem dX6_addTrap_91 : decode cX6_addTrap 91 = .ok (.istore 6, 2) := by decide +kernel
theorem dX6_addTrap_93 : decode cX6_addTrap 93 = .ok (.aload_n 0, 1) := by decide +kernel
theorem dX6_addTrap_94 : decode cX6_addTrap 94 = .ok (.getfield 10, 3) := by decide +kernel
theorem dX6_addTrap_97 : decode cX6_addTrap 97 = .ok (.getfield 73, 3) := by decide +kernel
theorem dX6_addTrap_100 : decode cX6_addTrap 100 = .ok (.iload 6, 2) := by decide +kernel
theorem dX6_addTrap_102 : decode cX6_addTrap 102 = .ok (.aaload, 1) := by decide +kernel
theorem dX6_addTrap_103 : decode cX6_addTrap 103 = .ok (.iload_n 1, 1) := by decide +kernel
theorem dX6_addTrap_104 : decode cX6_addTrap 104 = .ok (.iload_n 2, 1) := by decide +kernel
theorem dX6_addTrap_105 : decode cX6_addTrap 105 = .ok (.iload_n 3, 1) := by decide +kernel
theorem dX6_addTrap_106 : decode cX6_addTrap 106 = .ok (.iload 4, 2) := by decide +kernel
theorem dX6_addTrap_108 : decode cX6_addTrap 108 = .ok (.iload 5, 2) := by decide +kernel
theorem dX6_addTrap_110 : decode cX6_addTrap 110 = .ok (.invokevirtual 77, 3) := by decide +kernel
theorem dX6_addTrap_113 : decode cX6_addTrap 113 = .ok (.aload_n 0, 1) := by decide +kernel
theorem dX6_addTrap_114 : decode cX6_addTrap 114 = .ok (.getfield 10, 3) := by decide +kernel
theorem dX6_addTrap_117 : decode cX6_addTrap 117 = .ok (.dup, 1) := by decide +kernel
theorem dX6_addTrap_118 : decode cX6_addTrap 118 = .ok (.getfield 70, 3) := by decide +kernel
theorem dX6_addTrap_121 : decode cX6_addTrap 121 = .ok (.iconst 1, 1) := by decide +kernel
theorem dX6_addTrap_122 : decode cX6_addTrap 122 = .ok (.iadd, 1) := by decide +kernel
theorem dX6_addTrap_123 : decode cX6_addTrap 123 = .ok (.putfield 70, 3) := by decide +kernel
theorem dX6_addTrap_126 : decode cX6_addTrap 126 = .ok (.iload 6, 2) := by decide +kernel
theorem dX6_addTrap_128 : decode cX6_addTrap 128 = .ok (.ireturn, 1) := by decide +kernel
theorem dX6_moveLine_0 : decode cX6_moveLine 0 = .ok (.aload_n 0, 1) := by decide +kernel
theorem dX6_moveLine_1 : decode cX6_moveLine 1 = .ok (.getfield 10, 3) := by decide +kernel
theorem dX6_moveLine_4 : decode cX6_moveLine 4 = .ok (.iload_n 1, 1) := by decide +kernel
theorem dX6_moveLine_5 : decode cX6_moveLine 5 = .ok (.invokevirtual 67, 3) := by decide +kernel
theorem dX6_moveLine_8 : decode cX6_moveLine 8 = .ok (.ifCond .eq 14, 3) := by decide +kernel
theorem dX6_moveLine_11 : decode cX6_moveLine 11 = .ok (.aload_n 0, 1) := by decide +kernel
theorem dX6_moveLine_12 : decode cX6_moveLine 12 = .ok (.getfield 10, 3) := by decide +kernel
theorem dX6_moveLine_15 : decode cX6_moveLine 15 = .ok (.iload_n 2, 1) := by decide +kernel
theorem dX6_moveLine_16 : decode cX6_moveLine 16 = .ok (.invokevirtual 44, 3) := by decide +kernel
theorem dX6_moveLine_19 : decode cX6_moveLine 19 = .ok (.ifCond .ne 6, 3) := by decide +kernel
theorem dX6_moveLine_22 : decode cX6_moveLine 22 = .ok (.bipush (-2), 2) := by decide +kernel
theorem dX6_moveLine_24 : decode cX6_moveLine 24 = .ok (.ireturn, 1) := by decide +kernel
theorem dX6_moveLine_25 : decode cX6_moveLine 25 = .ok (.aload_n 0, 1) := by decide +kernel
theorem dX6_moveLine_26 : decode cX6_moveLine 26 = .ok (.getfield 19, 3) := by decide +kernel
theorem dX6_moveLine_29 : decode cX6_moveLine 29 = .ok (.aload_n 0, 1) := by decide +kernel
theorem dX6_moveLine_30 : decode cX6_moveLine 30 = .ok (.getfield 10, 3) := by decide +kernel
theorem dX6_moveLine_33 : decode cX6_moveLine 33 = .ok (.invokevirtual 52, 3) := by decide +kernel
theorem dX6_moveLine_36 : decode cX6_moveLine 36 = .ok (.aload_n 0, 1) := by decide +kernel
theorem dX6_moveLine_37 : decode cX6_moveLine 37 = .ok (.getfield 10, 3) := by decide +kernel
theorem dX6_moveLine_40 : decode cX6_moveLine 40 = .ok (.getfield 64, 3) := by decide +kernel
theorem dX6_moveLine_43 : decode cX6_moveLine 43 = .ok (.iload_n 1, 1) := by decide +kernel
theorem dX6_moveLine_44 : decode cX6_moveLine 44 = .ok (.iaload, 1) := by decide +kernel
theorem dX6_moveLine_45 : decode cX6_moveLine 45 = .ok (.istore_n 3, 1) := by decide +kernel
theorem dX6_moveLine_46 : decode cX6_moveLine 46 = .ok (.aload_n 0, 1) := by decide +kernel
theorem dX6_moveLine_47 : decode cX6_moveLine 47 = .ok (.getfield 10, 3) := by decide +kernel
theorem dX6_moveLine_50 : decode cX6_moveLine 50 = .ok (.getfield 64, 3) := by decide +kernel
theorem dX6_moveLine_53 : decode cX6_moveLine 53 = .ok (.iload_n 1, 1) := by decide +kernel
theorem dX6_moveLine_54 : decode cX6_moveLine 54 = .ok (.iload_n 2, 1) := by decide +kernel
theorem dX6_moveLine_55 : decode cX6_moveLine 55 = .ok (.iastore, 1) := by decide +kernel
theorem dX6_moveLine_56 : decode cX6_moveLine 56 = .ok (.iload_n 3, 1) := by decide +kernel
theorem dX6_moveLine_57 : decode cX6_moveLine 57 = .ok (.ireturn, 1) := by decide +kernel
theorem dX6_setWork_0 : decode cX6_setWork 0 = .ok (.iload_n 1, 1) := by decide +kernel
theorem dX6_setWork_1 : decode cX6_setWork 1 = .ok (.iconst 1, 1) := by decide +kernel
theorem dX6_setWork_2 : decode cX6_setWork 2 = .ok (.bipush 24, 2) := by decide +kernel
theorem dX6_setWork_4 : decode cX6_setWork 4 = .ok (.invokestatic 48, 3) := by decide +kernel
theorem dX6_setWork_7 : decode cX6_setWork 7 = .ok (.ifCond .eq 25, 3) := by decide +kernel
theorem dX6_setWork_10 : decode cX6_setWork 10 = .ok (.iload_n 2, 1) := by decide +kernel
theorem dX6_setWork_11 : decode cX6_setWork 11 = .ok (.iconst 1, 1) := by decide +kernel
theorem dX6_setWork_12 : decode cX6_setWork 12 = .ok (.sipush 1000, 3) := by decide +kernel
theorem dX6_setWork_15 : decode cX6_setWork 15 = .ok (.invokestatic 48, 3) := by decide +kernel
theorem dX6_setWork_18 : decode cX6_setWork 18 = .ok (.ifCond .eq 14, 3) := by decide +kernel
theorem dX6_setWork_21 : decode cX6_setWork 21 = .ok (.iload_n 3, 1) := by decide +kernel
theorem dX6_setWork_22 : decode cX6_setWork 22 = .ok (.iconst 1, 1) := by decide +kernel
theorem dX6_setWork_23 : decode cX6_setWork 23 = .ok (.sipush 400, 3) := by decide +kernel
theorem dX6_setWork_26 : decode cX6_setWork 26 = .ok (.invokestatic 48, 3) := by decide +kernel
theorem dX6_setWork_29 : decode cX6_setWork 29 = .ok (.ifCond .ne 6, 3) := by decide +kernel
theorem dX6_setWork_32 : decode cX6_setWork 32 = .ok (.bipush (-3), 2) := by decide +kernel
theorem dX6_setWork_34 : decode cX6_setWork 34 = .ok (.ireturn, 1) := by decide +kernel
theorem dX6_setWork_35 : decode cX6_setWork 35 = .ok (.aload_n 0, 1) := by decide +kernel
theorem dX6_setWork_36 : decode cX6_setWork 36 = .ok (.getfield 19, 3) := by decide +kernel
theorem dX6_setWork_39 : decode cX6_setWork 39 = .ok (.aload_n 0, 1) := by decide +kernel
theorem dX6_setWork_40 : decode cX6_setWork 40 = .ok (.getfield 10, 3) := by decide +kernel
theorem dX6_setWork_43 : decode cX6_setWork 43 = .ok (.invokevirtual 52, 3) := by decide +kernel
theorem dX6_setWork_46 : decode cX6_setWork 46 = .ok (.aload_n 0, 1) := by decide +kernel
theorem dX6_setWork_47 : decode cX6_setWork 47 = .ok (.getfield 10, 3) := by decide +kernel
theorem dX6_setWork_50 : decode cX6_setWork 50 = .ok (.getfield 83, 3) := by decide +kernel
theorem dX6_setWork_53 : decode cX6_setWork 53 = .ok (.istore 4, 2) := by decide +kernel
theorem dX6_setWork_55 : decode cX6_setWork 55 = .ok (.aload_n 0, 1) := by decide +kernel
theorem dX6_setWork_56 : decode cX6_setWork 56 = .ok (.getfield 10, 3) := by decide +kernel
theorem dX6_setWork_59 : decode cX6_setWork 59 = .ok (.iload_n 1, 1) := by decide +kernel
theorem dX6_setWork_60 : decode cX6_setWork 60 = .ok (.putfield 83, 3) := by decide +kernel
theorem dX6_setWork_63 : decode cX6_setWork 63 = .ok (.aload_n 0, 1) := by decide +kernel
theorem dX6_setWork_64 : decode cX6_setWork 64 = .ok (.getfield 10, 3) := by decide +kernel
theorem dX6_setWork_67 : decode cX6_setWork 67 = .ok (.iload_n 2, 1) := by decide +kernel
theorem dX6_setWork_68 : decode cX6_setWork 68 = .ok (.putfield 86, 3) := by decide +kernel
theorem dX6_setWork_71 : decode cX6_setWork 71 = .ok (.aload_n 0, 1) := by decide +kernel
theorem dX6_setWork_72 : decode cX6_setWork 72 = .ok (.getfield 10, 3) := by decide +kernel
theorem dX6_setWork_75 : decode cX6_setWork 75 = .ok (.iload_n 3, 1) := by decide +kernel
theorem dX6_setWork_76 : decode cX6_setWork 76 = .ok (.putfield 89, 3) := by decide +kernel
theorem dX6_setWork_79 : decode cX6_setWork 79 = .ok (.iload 4, 2) := by decide +kernel
theorem dX6_setWork_81 : decode cX6_setWork 81 = .ok (.ireturn, 1) := by decide +kernel
theorem dX6_count_0 : decode cX6_count 0 = .ok (.iload_n 1, 1) := by decide +kernel
theorem dX6_count_1 : decode cX6_count 1 = .ok (.tableswitch 111 0 7 #[47, 55, 63, 71, 79, 87, 95, 103], 47) := by decide +kernel
theorem dX6_count_48 : decode cX6_count 48 = .ok (.aload_n 0, 1) := by decide +kernel
theorem dX6_count_49 : decode cX6_count 49 = .ok (.getfield 10, 3) := by decide +kernel
theorem dX6_count_52 : decode cX6_count 52 = .ok (.getfield 60, 3) := by decide +kernel
theorem dX6_count_55 : decode cX6_count 55 = .ok (.ireturn, 1) := by decide +kernel
theorem dX6_count_56 : decode cX6_count 56 = .ok (.aload_n 0, 1) := by decide +kernel
theorem dX6_count_57 : decode cX6_count 57 = .ok (.getfield 10, 3) := by decide +kernel
theorem dX6_count_60 : decode cX6_count 60 = .ok (.getfield 70, 3) := by decide +kernel
theorem dX6_count_63 : decode cX6_count 63 = .ok (.ireturn, 1) := by decide +kernel
theorem dX6_count_64 : decode cX6_count 64 = .ok (.aload_n 0, 1) := by decide +kernel
theorem dX6_count_65 : decode cX6_count 65 = .ok (.getfield 10, 3) := by decide +kernel
theorem dX6_count_68 : decode cX6_count 68 = .ok (.getfield 83, 3) := by decide +kernel
theorem dX6_count_71 : decode cX6_count 71 = .ok (.ireturn, 1) := by decide +kernel
theorem dX6_count_72 : decode cX6_count 72 = .ok (.aload_n 0, 1) := by decide +kernel
theorem dX6_count_73 : decode cX6_count 73 = .ok (.getfield 10, 3) := by decide +kernel
theorem dX6_count_76 : decode cX6_count 76 = .ok (.getfield 86, 3) := by decide +kernel
theorem dX6_count_79 : decode cX6_count 79 = .ok (.ireturn, 1) := by decide +kernel
theorem dX6_count_80 : decode cX6_count 80 = .ok (.aload_n 0, 1) := by decide +kernel
theorem dX6_count_81 : decode cX6_count 81 = .ok (.getfield 10, 3) := by decide +kernel
theorem dX6_count_84 : decode cX6_count 84 = .ok (.getfield 89, 3) := by decide +kernel
theorem dX6_count_87 : decode cX6_count 87 = .ok (.ireturn, 1) := by decide +kernel
theorem dX6_count_88 : decode cX6_count 88 = .ok (.aload_n 0, 1) := by decide +kernel
theorem dX6_count_89 : decode cX6_count 89 = .ok (.getfield 10, 3) := by decide +kernel
theorem dX6_count_92 : decode cX6_count 92 = .ok (.getfield 92, 3) := by decide +kernel
theorem dX6_count_95 : decode cX6_count 95 = .ok (.ireturn, 1) := by decide +kernel
theorem dX6_count_96 : decode cX6_count 96 = .ok (.aload_n 0, 1) := by decide +kernel
theorem dX6_count_97 : decode cX6_count 97 = .ok (.getfield 10, 3) := by decide +kernel
theorem dX6_count_100 : decode cX6_count 100 = .ok (.getfield 95, 3) := by decide +kernel
theorem dX6_count_103 : decode cX6_count 103 = .ok (.ireturn, 1) := by decide +kernel
theorem dX6_count_104 : decode cX6_count 104 = .ok (.aload_n 0, 1) := by decide +kernel
theorem dX6_count_105 : decode cX6_count 105 = .ok (.getfield 10, 3) := by decide +kernel
theorem dX6_count_108 : decode cX6_count 108 = .ok (.getfield 98, 3) := by decide +kernel
theorem dX6_count_111 : decode cX6_count 111 = .ok (.ireturn, 1) := by decide +kernel
theorem dX6_count_112 : decode cX6_count 112 = .ok (.bipush (-3), 2) := by decide +kernel
theorem dX6_count_114 : decode cX6_count 114 = .ok (.ireturn, 1) := by decide +kernel
theorem dX6_trap_0 : decode cX6_trap 0 = .ok (.aload_n 0, 1) := by decide +kernel
theorem dX6_trap_1 : decode cX6_trap 1 = .ok (.getfield 10, 3) := by decide +kernel
theorem dX6_trap_4 : decode cX6_trap 4 = .ok (.iload_n 1, 1) := by decide +kernel
theorem dX6_trap_5 : decode cX6_trap 5 = .ok (.invokevirtual 101, 3) := by decide +kernel
theorem dX6_trap_8 : decode cX6_trap 8 = .ok (.astore_n 3, 1) := by decide +kernel
theorem dX6_trap_9 : decode cX6_trap 9 = .ok (.aload_n 3, 1) := by decide +kernel
theorem dX6_trap_10 : decode cX6_trap 10 = .ok (.ifnonnull 6, 3) := by decide +kernel
theorem dX6_trap_13 : decode cX6_trap 13 = .ok (.bipush (-2), 2) := by decide +kernel
theorem dX6_trap_15 : decode cX6_trap 15 = .ok (.ireturn, 1) := by decide +kernel
theorem dX6_trap_16 : decode cX6_trap 16 = .ok (.iload_n 2, 1) := by decide +kernel
theorem dX6_trap_17 : decode cX6_trap 17 = .ok (.tableswitch 94 0 7 #[47, 52, 57, 62, 67, 72, 77, 82], 47) := by decide +kernel
theorem dX6_trap_64 : decode cX6_trap 64 = .ok (.aload_n 3, 1) := by decide +kernel
theorem dX6_trap_65 : decode cX6_trap 65 = .ok (.getfield 105, 3) := by decide +kernel
theorem dX6_trap_68 : decode cX6_trap 68 = .ok (.ireturn, 1) := by decide +kernel
theorem dX6_trap_69 : decode cX6_trap 69 = .ok (.aload_n 3, 1) := by decide +kernel
theorem dX6_trap_70 : decode cX6_trap 70 = .ok (.getfield 108, 3) := by decide +kernel
theorem dX6_trap_73 : decode cX6_trap 73 = .ok (.ireturn, 1) := by decide +kernel
theorem dX6_trap_74 : decode cX6_trap 74 = .ok (.aload_n 3, 1) := by decide +kernel
theorem dX6_trap_75 : decode cX6_trap 75 = .ok (.getfield 111, 3) := by decide +kernel
theorem dX6_trap_78 : decode cX6_trap 78 = .ok (.ireturn, 1) := by decide +kernel
theorem dX6_trap_79 : decode cX6_trap 79 = .ok (.aload_n 3, 1) := by decide +kernel
theorem dX6_trap_80 : decode cX6_trap 80 = .ok (.getfield 114, 3) := by decide +kernel
theorem dX6_trap_83 : decode cX6_trap 83 = .ok (.ireturn, 1) := by decide +kernel
theorem dX6_trap_84 : decode cX6_trap 84 = .ok (.aload_n 3, 1) := by decide +kernel
theorem dX6_trap_85 : decode cX6_trap 85 = .ok (.getfield 117, 3) := by decide +kernel
theorem dX6_trap_88 : decode cX6_trap 88 = .ok (.ireturn, 1) := by decide +kernel
theorem dX6_trap_89 : decode cX6_trap 89 = .ok (.aload_n 3, 1) := by decide +kernel
theorem dX6_trap_90 : decode cX6_trap 90 = .ok (.getfield 120, 3) := by decide +kernel
theorem dX6_trap_93 : decode cX6_trap 93 = .ok (.ireturn, 1) := by decide +kernel
theorem dX6_trap_94 : decode cX6_trap 94 = .ok (.aload_n 3, 1) := by decide +kernel
theorem dX6_trap_95 : decode cX6_trap 95 = .ok (.getfield 123, 3) := by decide +kernel
theorem dX6_trap_98 : decode cX6_trap 98 = .ok (.ireturn, 1) := by decide +kernel
theorem dX6_trap_99 : decode cX6_trap 99 = .ok (.aload_n 0, 1) := by decide +kernel
theorem dX6_trap_100 : decode cX6_trap 100 = .ok (.getfield 10, 3) := by decide +kernel
theorem dX6_trap_103 : decode cX6_trap 103 = .ok (.aload_n 3, 1) := by decide +kernel
theorem dX6_trap_104 : decode cX6_trap 104 = .ok (.getfield 105, 3) := by decide +kernel
theorem dX6_trap_107 : decode cX6_trap 107 = .ok (.invokevirtual 126, 3) := by decide +kernel
theorem dX6_trap_110 : decode cX6_trap 110 = .ok (.ireturn, 1) := by decide +kernel
theorem dX6_trap_111 : decode cX6_trap 111 = .ok (.bipush (-3), 2) := by decide +kernel
theorem dX6_trap_113 : decode cX6_trap 113 = .ok (.ireturn, 1) := by decide +kernel
theorem dX6_headerOf_0 : decode cX6_headerOf 0 = .ok (.aload_n 0, 1) := by decide +kernel
theorem dX6_headerOf_1 : decode cX6_headerOf 1 = .ok (.getfield 10, 3) := by decide +kernel
theorem dX6_headerOf_4 : decode cX6_headerOf 4 = .ok (.iload_n 1, 1) := by decide +kernel
theorem dX6_headerOf_5 : decode cX6_headerOf 5 = .ok (.invokevirtual 126, 3) := by decide +kernel
theorem dX6_headerOf_8 : decode cX6_headerOf 8 = .ok (.ireturn, 1) := by decide +kernel
theorem dX6_pressure_0 : decode cX6_pressure 0 = .ok (.aload_n 0, 1) := by decide +kernel
theorem dX6_pressure_1 : decode cX6_pressure 1 = .ok (.getfield 10, 3) := by decide +kernel
theorem dX6_pressure_4 : decode cX6_pressure 4 = .ok (.iload_n 1, 1) := by decide +kernel
theorem dX6_pressure_5 : decode cX6_pressure 5 = .ok (.invokevirtual 130, 3) := by decide +kernel
theorem dX6_pressure_8 : decode cX6_pressure 8 = .ok (.ireturn, 1) := by decide +kernel
theorem dX6_read_0 : decode cX6_read 0 = .ok (.aload_n 0, 1) := by decide +kernel
theorem dX6_read_1 : decode cX6_read 1 = .ok (.iload_n 1, 1) := by decide +kernel
theorem dX6_read_2 : decode cX6_read 2 = .ok (.iload_n 2, 1) := by decide +kernel
theorem dX6_read_3 : decode cX6_read 3 = .ok (.iload_n 3, 1) := by decide +kernel
theorem dX6_read_4 : decode cX6_read 4 = .ok (.iload 4, 2) := by decide +kernel
theorem dX6_read_6 : decode cX6_read 6 = .ok (.invokevirtual 133, 3) := by decide +kernel
theorem dX6_read_9 : decode cX6_read 9 = .ok (.istore 5, 2) := by decide +kernel
theorem dX6_read_11 : decode cX6_read 11 = .ok (.iload 5, 2) := by decide +kernel
theorem dX6_read_13 : decode cX6_read 13 = .ok (.ifCond .ge 6, 3) := by decide +kernel
theorem dX6_read_16 : decode cX6_read 16 = .ok (.iload 5, 2) := by decide +kernel
theorem dX6_read_18 : decode cX6_read 18 = .ok (.ireturn, 1) := by decide +kernel
theorem dX6_read_19 : decode cX6_read 19 = .ok (.aload_n 0, 1) := by decide +kernel
theorem dX6_read_20 : decode cX6_read 20 = .ok (.getfield 19, 3) := by decide +kernel
theorem dX6_read_23 : decode cX6_read 23 = .ok (.aload_n 0, 1) := by decide +kernel
theorem dX6_read_24 : decode cX6_read 24 = .ok (.getfield 10, 3) := by decide +kernel
theorem dX6_read_27 : decode cX6_read 27 = .ok (.invokevirtual 52, 3) := by decide +kernel
theorem dX6_read_30 : decode cX6_read 30 = .ok (.aload_n 0, 1) := by decide +kernel
theorem dX6_read_31 : decode cX6_read 31 = .ok (.getfield 10, 3) := by decide +kernel
theorem dX6_read_34 : decode cX6_read 34 = .ok (.iload_n 1, 1) := by decide +kernel
theorem dX6_read_35 : decode cX6_read 35 = .ok (.iload_n 2, 1) := by decide +kernel
theorem dX6_read_36 : decode cX6_read 36 = .ok (.iload_n 3, 1) := by decide +kernel
theorem dX6_read_37 : decode cX6_read 37 = .ok (.iload 4, 2) := by decide +kernel
theorem dX6_read_39 : decode cX6_read 39 = .ok (.invokevirtual 137, 3) := by decide +kernel
theorem dX6_read_42 : decode cX6_read 42 = .ok (.iload 5, 2) := by decide +kernel
theorem dX6_read_44 : decode cX6_read 44 = .ok (.ireturn, 1) := by decide +kernel
theorem dX6_judge_0 : decode cX6_judge 0 = .ok (.aload_n 0, 1) := by decide +kernel
theorem dX6_judge_1 : decode cX6_judge 1 = .ok (.getfield 10, 3) := by decide +kernel
theorem dX6_judge_4 : decode cX6_judge 4 = .ok (.iload_n 1, 1) := by decide +kernel
theorem dX6_judge_5 : decode cX6_judge 5 = .ok (.invokevirtual 101, 3) := by decide +kernel
theorem dX6_judge_8 : decode cX6_judge 8 = .ok (.astore 5, 2) := by decide +kernel
theorem dX6_judge_10 : decode cX6_judge 10 = .ok (.aload 5, 2) := by decide +kernel
theorem dX6_judge_12 : decode cX6_judge 12 = .ok (.ifnonnull 6, 3) := by decide +kernel
theorem dX6_judge_15 : decode cX6_judge 15 = .ok (.bipush (-2), 2) := by decide +kernel
theorem dX6_judge_17 : decode cX6_judge 17 = .ok (.ireturn, 1) := by decide +kernel
theorem dX6_judge_18 : decode cX6_judge 18 = .ok (.iload_n 2, 1) := by decide +kernel
theorem dX6_judge_19 : decode cX6_judge 19 = .ok (.iconst 0, 1) := by decide +kernel
theorem dX6_judge_20 : decode cX6_judge 20 = .ok (.sipush 300, 3) := by decide +kernel
theorem dX6_judge_23 : decode cX6_judge 23 = .ok (.invokestatic 48, 3) := by decide +kernel
theorem dX6_judge_26 : decode cX6_judge 26 = .ok (.ifCond .eq 25, 3) := by decide +kernel
theorem dX6_judge_29 : decode cX6_judge 29 = .ok (.iload_n 3, 1) := by decide +kernel
theorem dX6_judge_30 : decode cX6_judge 30 = .ok (.iconst 0, 1) := by decide +kernel
theorem dX6_judge_31 : decode cX6_judge 31 = .ok (.sipush 300, 3) := by decide +kernel
theorem dX6_judge_34 : decode cX6_judge 34 = .ok (.invokestatic 48, 3) := by decide +kernel
theorem dX6_judge_37 : decode cX6_judge 37 = .ok (.ifCond .eq 14, 3) := by decide +kernel
theorem dX6_judge_40 : decode cX6_judge 40 = .ok (.iload 4, 2) := by decide +kernel
theorem dX6_judge_42 : decode cX6_judge 42 = .ok (.iconst 0, 1) := by decide +kernel
theorem dX6_judge_43 : decode cX6_judge 43 = .ok (.bipush 60, 2) := by decide +kernel
theorem dX6_judge_45 : decode cX6_judge 45 = .ok (.invokestatic 48, 3) := by decide +kernel
theorem dX6_judge_48 : decode cX6_judge 48 = .ok (.ifCond .ne 6, 3) := by decide +kernel
theorem dX6_judge_51 : decode cX6_judge 51 = .ok (.bipush (-3), 2) := by decide +kernel
theorem dX6_judge_53 : decode cX6_judge 53 = .ok (.ireturn, 1) := by decide +kernel
theorem dX6_judge_54 : decode cX6_judge 54 = .ok (.aload 5, 2) := by decide +kernel
theorem dX6_judge_56 : decode cX6_judge 56 = .ok (.iload_n 2, 1) := by decide +kernel
theorem dX6_judge_57 : decode cX6_judge 57 = .ok (.iload_n 3, 1) := by decide +kernel
theorem dX6_judge_58 : decode cX6_judge 58 = .ok (.iload 4, 2) := by decide +kernel
theorem dX6_judge_60 : decode cX6_judge 60 = .ok (.aload_n 0, 1) := by decide +kernel
theorem dX6_judge_61 : decode cX6_judge 61 = .ok (.getfield 10, 3) := by decide +kernel
theorem dX6_judge_64 : decode cX6_judge 64 = .ok (.aload 5, 2) := by decide +kernel
theorem dX6_judge_66 : decode cX6_judge 66 = .ok (.invokevirtual 141, 3) := by decide +kernel
theorem dX6_judge_69 : decode cX6_judge 69 = .ok (.invokevirtual 145, 3) := by decide +kernel
theorem dX6_judge_72 : decode cX6_judge 72 = .ok (.ireturn, 1) := by decide +kernel
theorem dX6_pass_0 : decode cX6_pass 0 = .ok (.iload_n 1, 1) := by decide +kernel
theorem dX6_pass_1 : decode cX6_pass 1 = .ok (.iconst 1, 1) := by decide +kernel
theorem dX6_pass_2 : decode cX6_pass 2 = .ok (.bipush 100, 2) := by decide +kernel
theorem dX6_pass_4 : decode cX6_pass 4 = .ok (.invokestatic 48, 3) := by decide +kernel
theorem dX6_pass_7 : decode cX6_pass 7 = .ok (.ifCond .ne 6, 3) := by decide +kernel
theorem dX6_pass_10 : decode cX6_pass 10 = .ok (.bipush (-3), 2) := by decide +kernel
theorem dX6_pass_12 : decode cX6_pass 12 = .ok (.ireturn, 1) := by decide +kernel
theorem dX6_pass_13 : decode cX6_pass 13 = .ok (.aload_n 0, 1) := by decide +kernel
theorem dX6_pass_14 : decode cX6_pass 14 = .ok (.getfield 10, 3) := by decide +kernel
theorem dX6_pass_17 : decode cX6_pass 17 = .ok (.getfield 92, 3) := by decide +kernel
theorem dX6_pass_20 : decode cX6_pass 20 = .ok (.iload_n 1, 1) := by decide +kernel
theorem dX6_pass_21 : decode cX6_pass 21 = .ok (.iadd, 1) := by decide +kernel
theorem dX6_pass_22 : decode cX6_pass 22 = .ok (.sipush 10000, 3) := by decide +kernel
theorem dX6_pass_25 : decode cX6_pass 25 = .ok (.if_icmp .le 6, 3) := by decide +kernel
theorem dX6_pass_28 : decode cX6_pass 28 = .ok (.bipush (-5), 2) := by decide +kernel
theorem dX6_pass_30 : decode cX6_pass 30 = .ok (.ireturn, 1) := by decide +kernel
theorem dX6_pass_31 : decode cX6_pass 31 = .ok (.aload_n 0, 1) := by decide +kernel
theorem dX6_pass_32 : decode cX6_pass 32 = .ok (.getfield 19, 3) := by decide +kernel
theorem dX6_pass_35 : decode cX6_pass 35 = .ok (.aload_n 0, 1) := by decide +kernel
theorem dX6_pass_36 : decode cX6_pass 36 = .ok (.getfield 10, 3) := by decide +kernel
theorem dX6_pass_39 : decode cX6_pass 39 = .ok (.invokevirtual 52, 3) := by decide +kernel
theorem dX6_pass_42 : decode cX6_pass 42 = .ok (.aload_n 0, 1) := by decide +kernel
theorem dX6_pass_43 : decode cX6_pass 43 = .ok (.getfield 10, 3) := by decide +kernel
theorem dX6_pass_46 : decode cX6_pass 46 = .ok (.iload_n 1, 1) := by decide +kernel
theorem dX6_pass_47 : decode cX6_pass 47 = .ok (.invokevirtual 148, 3) := by decide +kernel
theorem dX6_pass_50 : decode cX6_pass 50 = .ok (.aload_n 0, 1) := by decide +kernel
theorem dX6_pass_51 : decode cX6_pass 51 = .ok (.getfield 10, 3) := by decide +kernel
theorem dX6_pass_54 : decode cX6_pass 54 = .ok (.getfield 92, 3) := by decide +kernel
theorem dX6_pass_57 : decode cX6_pass 57 = .ok (.ireturn, 1) := by decide +kernel
theorem dX6_inState_0 : decode cX6_inState 0 = .ok (.iload_n 1, 1) := by decide +kernel
theorem dX6_inState_1 : decode cX6_inState 1 = .ok (.iconst 0, 1) := by decide +kernel
theorem dX6_inState_2 : decode cX6_inState 2 = .ok (.iconst 5, 1) := by decide +kernel
theorem dX6_inState_3 : decode cX6_inState 3 = .ok (.invokestatic 48, 3) := by decide +kernel
theorem dX6_inState_6 : decode cX6_inState 6 = .ok (.ifCond .ne 6, 3) := by decide +kernel
theorem dX6_inState_9 : decode cX6_inState 9 = .ok (.bipush (-3), 2) := by decide +kernel
theorem dX6_inState_11 : decode cX6_inState 11 = .ok (.ireturn, 1) := by decide +kernel
theorem dX6_inState_12 : decode cX6_inState 12 = .ok (.aload_n 0, 1) := by decide +kernel
theorem dX6_inState_13 : decode cX6_inState 13 = .ok (.getfield 10, 3) := by decide +kernel
theorem dX6_inState_16 : decode cX6_inState 16 = .ok (.iload_n 1, 1) := by decide +kernel
theorem dX6_inState_17 : decode cX6_inState 17 = .ok (.invokevirtual 152, 3) := by decide +kernel
theorem dX6_inState_20 : decode cX6_inState 20 = .ok (.ireturn, 1) := by decide +kernel
theorem dX6_loss_0 : decode cX6_loss 0 = .ok (.aload_n 0, 1) := by decide +kernel
theorem dX6_loss_1 : decode cX6_loss 1 = .ok (.getfield 10, 3) := by decide +kernel
theorem dX6_loss_4 : decode cX6_loss 4 = .ok (.iload_n 1, 1) := by decide +kernel
theorem dX6_loss_5 : decode cX6_loss 5 = .ok (.invokevirtual 101, 3) := by decide +kernel
theorem dX6_loss_8 : decode cX6_loss 8 = .ok (.astore_n 2, 1) := by decide +kernel
theorem dX6_loss_9 : decode cX6_loss 9 = .ok (.aload_n 2, 1) := by decide +kernel
theorem dX6_loss_10 : decode cX6_loss 10 = .ok (.ifnonnull 8, 3) := by decide +kernel
theorem dX6_loss_13 : decode cX6_loss 13 = .ok (.bipush (-2), 2) := by decide +kernel
theorem dX6_loss_15 : decode cX6_loss 15 = .ok (.goto 11, 3) := by decide +kernel
theorem dX6_loss_18 : decode cX6_loss 18 = .ok (.aload_n 0, 1) := by decide +kernel
theorem dX6_loss_19 : decode cX6_loss 19 = .ok (.getfield 10, 3) := by decide +kernel
theorem dX6_loss_22 : decode cX6_loss 22 = .ok (.aload_n 2, 1) := by decide +kernel
theorem dX6_loss_23 : decode cX6_loss 23 = .ok (.invokevirtual 155, 3) := by decide +kernel
theorem dX6_loss_26 : decode cX6_loss 26 = .ok (.ireturn, 1) := by decide +kernel
theorem dX6_lineLoss_0 : decode cX6_lineLoss 0 = .ok (.aload_n 0, 1) := by decide +kernel
theorem dX6_lineLoss_1 : decode cX6_lineLoss 1 = .ok (.getfield 10, 3) := by decide +kernel
theorem dX6_lineLoss_4 : decode cX6_lineLoss 4 = .ok (.iload_n 1, 1) := by decide +kernel
theorem dX6_lineLoss_5 : decode cX6_lineLoss 5 = .ok (.invokevirtual 67, 3) := by decide +kernel
theorem dX6_lineLoss_8 : decode cX6_lineLoss 8 = .ok (.ifCond .eq 14, 3) := by decide +kernel
theorem dX6_lineLoss_11 : decode cX6_lineLoss 11 = .ok (.aload_n 0, 1) := by decide +kernel
theorem dX6_lineLoss_12 : decode cX6_lineLoss 12 = .ok (.getfield 10, 3) := by decide +kernel
theorem dX6_lineLoss_15 : decode cX6_lineLoss 15 = .ok (.iload_n 1, 1) := by decide +kernel
theorem dX6_lineLoss_16 : decode cX6_lineLoss 16 = .ok (.invokevirtual 158, 3) := by decide +kernel
theorem dX6_lineLoss_19 : decode cX6_lineLoss 19 = .ok (.goto 5, 3) := by decide +kernel
theorem dX6_lineLoss_22 : decode cX6_lineLoss 22 = .ok (.bipush (-2), 2) := by decide +kernel
theorem dX6_lineLoss_24 : decode cX6_lineLoss 24 = .ok (.ireturn, 1) := by decide +kernel
theorem dX6_headerLoss_0 : decode cX6_headerLoss 0 = .ok (.aload_n 0, 1) := by decide +kernel
theorem dX6_headerLoss_1 : decode cX6_headerLoss 1 = .ok (.getfield 10, 3) := by decide +kernel
theorem dX6_headerLoss_4 : decode cX6_headerLoss 4 = .ok (.iload_n 1, 1) := by decide +kernel
theorem dX6_headerLoss_5 : decode cX6_headerLoss 5 = .ok (.invokevirtual 44, 3) := by decide +kernel
theorem dX6_headerLoss_8 : decode cX6_headerLoss 8 = .ok (.ifCond .eq 14, 3) := by decide +kernel
theorem dX6_headerLoss_11 : decode cX6_headerLoss 11 = .ok (.aload_n 0, 1) := by decide +kernel
theorem dX6_headerLoss_12 : decode cX6_headerLoss 12 = .ok (.getfield 10, 3) := by decide +kernel
theorem dX6_headerLoss_15 : decode cX6_headerLoss 15 = .ok (.iload_n 1, 1) := by decide +kernel
theorem dX6_headerLoss_16 : decode cX6_headerLoss 16 = .ok (.invokevirtual 161, 3) := by decide +kernel
theorem dX6_headerLoss_19 : decode cX6_headerLoss 19 = .ok (.goto 5, 3) := by decide +kernel
theorem dX6_headerLoss_22 : decode cX6_headerLoss 22 = .ok (.bipush (-2), 2) := by decide +kernel
theorem dX6_headerLoss_24 : decode cX6_headerLoss 24 = .ok (.ireturn, 1) := by decide +kernel
theorem dX6_lost_0 : decode cX6_lost 0 = .ok (.iload_n 1, 1) := by decide +kernel
theorem dX6_lost_1 : decode cX6_lost 1 = .ok (.iconst (-1), 1) := by decide +kernel
theorem dX6_lost_2 : decode cX6_lost 2 = .ok (.if_icmp .ne 11, 3) := by decide +kernel
theorem dX6_lost_5 : decode cX6_lost 5 = .ok (.aload_n 0, 1) := by decide +kernel
theorem dX6_lost_6 : decode cX6_lost 6 = .ok (.getfield 10, 3) := by decide +kernel
theorem dX6_lost_9 : decode cX6_lost 9 = .ok (.invokevirtual 164, 3) := by decide +kernel
theorem dX6_lost_12 : decode cX6_lost 12 = .ok (.lreturn, 1) := by decide +kernel
theorem dX6_lost_13 : decode cX6_lost 13 = .ok (.aload_n 0, 1) := by decide +kernel
theorem dX6_lost_14 : decode cX6_lost 14 = .ok (.getfield 10, 3) := by decide +kernel
theorem dX6_lost_17 : decode cX6_lost 17 = .ok (.iload_n 1, 1) := by decide +kernel
theorem dX6_lost_18 : decode cX6_lost 18 = .ok (.invokevirtual 101, 3) := by decide +kernel
theorem dX6_lost_21 : decode cX6_lost 21 = .ok (.astore_n 2, 1) := by decide +kernel
theorem dX6_lost_22 : decode cX6_lost 22 = .ok (.aload_n 2, 1) := by decide +kernel
theorem dX6_lost_23 : decode cX6_lost 23 = .ok (.ifnonnull 9, 3) := by decide +kernel
theorem dX6_lost_26 : decode cX6_lost 26 = .ok (.ldc2_w 168, 3) := by decide +kernel
theorem dX6_lost_29 : decode cX6_lost 29 = .ok (.goto 7, 3) := by decide +kernel
theorem dX6_lost_32 : decode cX6_lost 32 = .ok (.aload_n 2, 1) := by decide +kernel
theorem dX6_lost_33 : decode cX6_lost 33 = .ok (.getfield 170, 3) := by decide +kernel
theorem dX6_lost_36 : decode cX6_lost 36 = .ok (.lreturn, 1) := by decide +kernel
theorem dX6_saves_0 : decode cX6_saves 0 = .ok (.aload_n 0, 1) := by decide +kernel
theorem dX6_saves_1 : decode cX6_saves 1 = .ok (.getfield 10, 3) := by decide +kernel
theorem dX6_saves_4 : decode cX6_saves 4 = .ok (.iload_n 1, 1) := by decide +kernel
theorem dX6_saves_5 : decode cX6_saves 5 = .ok (.invokevirtual 101, 3) := by decide +kernel
theorem dX6_saves_8 : decode cX6_saves 8 = .ok (.astore_n 2, 1) := by decide +kernel
theorem dX6_saves_9 : decode cX6_saves 9 = .ok (.aload_n 2, 1) := by decide +kernel
theorem dX6_saves_10 : decode cX6_saves 10 = .ok (.ifnonnull 9, 3) := by decide +kernel
theorem dX6_saves_13 : decode cX6_saves 13 = .ok (.ldc2_w 168, 3) := by decide +kernel
theorem dX6_saves_16 : decode cX6_saves 16 = .ok (.goto 22, 3) := by decide +kernel
theorem dX6_saves_19 : decode cX6_saves 19 = .ok (.aload_n 0, 1) := by decide +kernel
theorem dX6_saves_20 : decode cX6_saves 20 = .ok (.getfield 10, 3) := by decide +kernel
theorem dX6_saves_23 : decode cX6_saves 23 = .ok (.aload_n 0, 1) := by decide +kernel
theorem dX6_saves_24 : decode cX6_saves 24 = .ok (.getfield 10, 3) := by decide +kernel
theorem dX6_saves_27 : decode cX6_saves 27 = .ok (.aload_n 2, 1) := by decide +kernel
theorem dX6_saves_28 : decode cX6_saves 28 = .ok (.invokevirtual 155, 3) := by decide +kernel
theorem dX6_saves_31 : decode cX6_saves 31 = .ok (.invokevirtual 174, 3) := by decide +kernel
theorem dX6_saves_34 : decode cX6_saves 34 = .ok (.ldc2_w 178, 3) := by decide +kernel
theorem dX6_saves_37 : decode cX6_saves 37 = .ok (.ldiv, 1) := by decide +kernel
theorem dX6_saves_38 : decode cX6_saves 38 = .ok (.lreturn, 1) := by decide +kernel
theorem dX6_repairCost_0 : decode cX6_repairCost 0 = .ok (.aload_n 0, 1) := by decide +kernel
theorem dX6_repairCost_1 : decode cX6_repairCost 1 = .ok (.getfield 10, 3) := by decide +kernel
theorem dX6_repairCost_4 : decode cX6_repairCost 4 = .ok (.iload_n 1, 1) := by decide +kernel
theorem dX6_repairCost_5 : decode cX6_repairCost 5 = .ok (.invokevirtual 101, 3) := by decide +kernel
theorem dX6_repairCost_8 : decode cX6_repairCost 8 = .ok (.astore_n 2, 1) := by decide +kernel
theorem dX6_repairCost_9 : decode cX6_repairCost 9 = .ok (.aload_n 2, 1) := by decide +kernel
theorem dX6_repairCost_10 : decode cX6_repairCost 10 = .ok (.ifnonnull 8, 3) := by decide +kernel
theorem dX6_repairCost_13 : decode cX6_repairCost 13 = .ok (.bipush (-2), 2) := by decide +kernel
theorem dX6_repairCost_15 : decode cX6_repairCost 15 = .ok (.goto 7, 3) := by decide +kernel
theorem dX6_repairCost_18 : decode cX6_repairCost 18 = .ok (.aload_n 2, 1) := by decide +kernel
theorem dX6_repairCost_19 : decode cX6_repairCost 19 = .ok (.invokevirtual 180, 3) := by decide +kernel
theorem dX6_repairCost_22 : decode cX6_repairCost 22 = .ok (.ireturn, 1) := by decide +kernel
theorem dX6_payback_0 : decode cX6_payback 0 = .ok (.aload_n 0, 1) := by decide +kernel
theorem dX6_payback_1 : decode cX6_payback 1 = .ok (.getfield 10, 3) := by decide +kernel
theorem dX6_payback_4 : decode cX6_payback 4 = .ok (.iload_n 1, 1) := by decide +kernel
theorem dX6_payback_5 : decode cX6_payback 5 = .ok (.invokevirtual 101, 3) := by decide +kernel
theorem dX6_payback_8 : decode cX6_payback 8 = .ok (.astore_n 2, 1) := by decide +kernel
theorem dX6_payback_9 : decode cX6_payback 9 = .ok (.aload_n 2, 1) := by decide +kernel
theorem dX6_payback_10 : decode cX6_payback 10 = .ok (.ifnonnull 9, 3) := by decide +kernel
theorem dX6_payback_13 : decode cX6_payback 13 = .ok (.ldc2_w 168, 3) := by decide +kernel
theorem dX6_payback_16 : decode cX6_payback 16 = .ok (.goto 11, 3) := by decide +kernel
theorem dX6_payback_19 : decode cX6_payback 19 = .ok (.aload_n 0, 1) := by decide +kernel
theorem dX6_payback_20 : decode cX6_payback 20 = .ok (.getfield 10, 3) := by decide +kernel
theorem dX6_payback_23 : decode cX6_payback 23 = .ok (.aload_n 2, 1) := by decide +kernel
theorem dX6_payback_24 : decode cX6_payback 24 = .ok (.invokevirtual 184, 3) := by decide +kernel
theorem dX6_payback_27 : decode cX6_payback 27 = .ok (.lreturn, 1) := by decide +kernel
theorem dX6_order_0 : decode cX6_order 0 = .ok (.iload_n 1, 1) := by decide +kernel
theorem dX6_order_1 : decode cX6_order 1 = .ok (.ifCond .ge 6, 3) := by decide +kernel
theorem dX6_order_4 : decode cX6_order 4 = .ok (.bipush (-3), 2) := by decide +kernel
theorem dX6_order_6 : decode cX6_order 6 = .ok (.ireturn, 1) := by decide +kernel
theorem dX6_order_7 : decode cX6_order 7 = .ok (.aload_n 0, 1) := by decide +kernel
theorem dX6_order_8 : decode cX6_order 8 = .ok (.getfield 26, 3) := by decide +kernel
theorem dX6_order_11 : decode cX6_order 11 = .ok (.aload_n 0, 1) := by decide +kernel
theorem dX6_order_12 : decode cX6_order 12 = .ok (.getfield 10, 3) := by decide +kernel
theorem dX6_order_15 : decode cX6_order 15 = .ok (.invokevirtual 188, 3) := by decide +kernel
theorem dX6_order_18 : decode cX6_order 18 = .ok (.aload_n 0, 1) := by decide +kernel
theorem dX6_order_19 : decode cX6_order 19 = .ok (.getfield 26, 3) := by decide +kernel
theorem dX6_order_22 : decode cX6_order 22 = .ok (.iload_n 1, 1) := by decide +kernel
theorem dX6_order_23 : decode cX6_order 23 = .ok (.invokevirtual 191, 3) := by decide +kernel
theorem dX6_order_26 : decode cX6_order 26 = .ok (.ireturn, 1) := by decide +kernel
theorem dX6_repair_0 : decode cX6_repair 0 = .ok (.aload_n 0, 1) := by decide +kernel
theorem dX6_repair_1 : decode cX6_repair 1 = .ok (.getfield 10, 3) := by decide +kernel
theorem dX6_repair_4 : decode cX6_repair 4 = .ok (.iload_n 1, 1) := by decide +kernel
theorem dX6_repair_5 : decode cX6_repair 5 = .ok (.invokevirtual 101, 3) := by decide +kernel
theorem dX6_repair_8 : decode cX6_repair 8 = .ok (.astore_n 2, 1) := by decide +kernel
theorem dX6_repair_9 : decode cX6_repair 9 = .ok (.aload_n 2, 1) := by decide +kernel
theorem dX6_repair_10 : decode cX6_repair 10 = .ok (.ifnonnull 6, 3) := by decide +kernel
theorem dX6_repair_13 : decode cX6_repair 13 = .ok (.bipush (-2), 2) := by decide +kernel
theorem dX6_repair_15 : decode cX6_repair 15 = .ok (.ireturn, 1) := by decide +kernel
theorem dX6_repair_16 : decode cX6_repair 16 = .ok (.aload_n 2, 1) := by decide +kernel
theorem dX6_repair_17 : decode cX6_repair 17 = .ok (.getfield 120, 3) := by decide +kernel
theorem dX6_repair_20 : decode cX6_repair 20 = .ok (.ifCond .eq 11, 3) := by decide +kernel
theorem dX6_repair_23 : decode cX6_repair 23 = .ok (.aload_n 2, 1) := by decide +kernel
theorem dX6_repair_24 : decode cX6_repair 24 = .ok (.getfield 120, 3) := by decide +kernel
theorem dX6_repair_27 : decode cX6_repair 27 = .ok (.iconst 1, 1) := by decide +kernel
theorem dX6_repair_28 : decode cX6_repair 28 = .ok (.if_icmp .ne 6, 3) := by decide +kernel
theorem dX6_repair_31 : decode cX6_repair 31 = .ok (.bipush (-4), 2) := by decide +kernel
theorem dX6_repair_33 : decode cX6_repair 33 = .ok (.ireturn, 1) := by decide +kernel
theorem dX6_repair_34 : decode cX6_repair 34 = .ok (.aload_n 0, 1) := by decide +kernel
theorem dX6_repair_35 : decode cX6_repair 35 = .ok (.getfield 19, 3) := by decide +kernel
theorem dX6_repair_38 : decode cX6_repair 38 = .ok (.aload_n 0, 1) := by decide +kernel
theorem dX6_repair_39 : decode cX6_repair 39 = .ok (.getfield 10, 3) := by decide +kernel
theorem dX6_repair_42 : decode cX6_repair 42 = .ok (.invokevirtual 52, 3) := by decide +kernel
theorem dX6_repair_45 : decode cX6_repair 45 = .ok (.aload_n 0, 1) := by decide +kernel
theorem dX6_repair_46 : decode cX6_repair 46 = .ok (.getfield 10, 3) := by decide +kernel
theorem dX6_repair_49 : decode cX6_repair 49 = .ok (.aload_n 2, 1) := by decide +kernel
theorem dX6_repair_50 : decode cX6_repair 50 = .ok (.invokevirtual 194, 3) := by decide +kernel
theorem dX6_repair_53 : decode cX6_repair 53 = .ok (.aload_n 2, 1) := by decide +kernel
theorem dX6_repair_54 : decode cX6_repair 54 = .ok (.invokevirtual 180, 3) := by decide +kernel
theorem dX6_repair_57 : decode cX6_repair 57 = .ok (.ireturn, 1) := by decide +kernel
theorem dX6_repairAll_0 : decode cX6_repairAll 0 = .ok (.iload_n 1, 1) := by decide +kernel
theorem dX6_repairAll_1 : decode cX6_repairAll 1 = .ok (.iconst 0, 1) := by decide +kernel
theorem dX6_repairAll_2 : decode cX6_repairAll 2 = .ok (.sipush 10000, 3) := by decide +kernel
theorem dX6_repairAll_5 : decode cX6_repairAll 5 = .ok (.invokestatic 48, 3) := by decide +kernel
theorem dX6_repairAll_8 : decode cX6_repairAll 8 = .ok (.ifCond .ne 6, 3) := by decide +kernel
theorem dX6_repairAll_11 : decode cX6_repairAll 11 = .ok (.bipush (-3), 2) := by decide +kernel
theorem dX6_repairAll_13 : decode cX6_repairAll 13 = .ok (.ireturn, 1) := by decide +kernel
theorem dX6_repairAll_14 : decode cX6_repairAll 14 = .ok (.aload_n 0, 1) := by decide +kernel
theorem dX6_repairAll_15 : decode cX6_repairAll 15 = .ok (.getfield 19, 3) := by decide +kernel
theorem dX6_repairAll_18 : decode cX6_repairAll 18 = .ok (.aload_n 0, 1) := by decide +kernel
theorem dX6_repairAll_19 : decode cX6_repairAll 19 = .ok (.getfield 10, 3) := by decide +kernel
theorem dX6_repairAll_22 : decode cX6_repairAll 22 = .ok (.invokevirtual 52, 3) := by decide +kernel
theorem dX6_repairAll_25 : decode cX6_repairAll 25 = .ok (.aload_n 0, 1) := by decide +kernel
theorem dX6_repairAll_26 : decode cX6_repairAll 26 = .ok (.getfield 26, 3) := by decide +kernel
theorem dX6_repairAll_29 : decode cX6_repairAll 29 = .ok (.aload_n 0, 1) := by decide +kernel
theorem dX6_repairAll_30 : decode cX6_repairAll 30 = .ok (.getfield 10, 3) := by decide +kernel
theorem dX6_repairAll_33 : decode cX6_repairAll 33 = .ok (.invokevirtual 188, 3) := by decide +kernel
theorem dX6_repairAll_36 : decode cX6_repairAll 36 = .ok (.iload_n 1, 1) := by decide +kernel
theorem dX6_repairAll_37 : decode cX6_repairAll 37 = .ok (.istore_n 2, 1) := by decide +kernel
theorem dX6_repairAll_38 : decode cX6_repairAll 38 = .ok (.iconst 0, 1) := by decide +kernel
theorem dX6_repairAll_39 : decode cX6_repairAll 39 = .ok (.istore_n 3, 1) := by decide +kernel
theorem dX6_repairAll_40 : decode cX6_repairAll 40 = .ok (.iconst 0, 1) := by decide +kernel
theorem dX6_repairAll_41 : decode cX6_repairAll 41 = .ok (.istore 4, 2) := by decide +kernel
theorem dX6_repairAll_43 : decode cX6_repairAll 43 = .ok (.iload 4, 2) := by decide +kernel
theorem dX6_repairAll_45 : decode cX6_repairAll 45 = .ok (.bipush 16, 2) := by decide +kernel
theorem dX6_repairAll_47 : decode cX6_repairAll 47 = .ok (.if_icmp .ge 64, 3) := by decide +kernel
theorem dX6_repairAll_50 : decode cX6_repairAll 50 = .ok (.aload_n 0, 1) := by decide +kernel
theorem dX6_repairAll_51 : decode cX6_repairAll 51 = .ok (.getfield 10, 3) := by decide +kernel
theorem dX6_repairAll_54 : decode cX6_repairAll 54 = .ok (.aload_n 0, 1) := by decide +kernel
theorem dX6_repairAll_55 : decode cX6_repairAll 55 = .ok (.getfield 26, 3) := by decide +kernel
theorem dX6_repairAll_58 : decode cX6_repairAll 58 = .ok (.iload 4, 2) := by decide +kernel
theorem dX6_repairAll_60 : decode cX6_repairAll 60 = .ok (.invokevirtual 191, 3) := by decide +kernel
theorem dX6_repairAll_63 : decode cX6_repairAll 63 = .ok (.invokevirtual 101, 3) := by decide +kernel
theorem dX6_repairAll_66 : decode cX6_repairAll 66 = .ok (.astore 5, 2) := by decide +kernel
theorem dX6_repairAll_68 : decode cX6_repairAll 68 = .ok (.aload 5, 2) := by decide +kernel
theorem dX6_repairAll_70 : decode cX6_repairAll 70 = .ok (.ifnull 41, 3) := by decide +kernel
theorem dX6_repairAll_73 : decode cX6_repairAll 73 = .ok (.aload 5, 2) := by decide +kernel
theorem dX6_repairAll_75 : decode cX6_repairAll 75 = .ok (.invokevirtual 180, 3) := by decide +kernel
theorem dX6_repairAll_78 : decode cX6_repairAll 78 = .ok (.iload_n 2, 1) := by decide +kernel
theorem dX6_repairAll_79 : decode cX6_repairAll 79 = .ok (.if_icmp .le 6, 3) := by decide +kernel
theorem dX6_repairAll_82 : decode cX6_repairAll 82 = .ok (.goto 29, 3) := by decide +kernel
theorem dX6_repairAll_85 : decode cX6_repairAll 85 = .ok (.iload_n 2, 1) := by decide +kernel
theorem dX6_repairAll_86 : decode cX6_repairAll 86 = .ok (.aload 5, 2) := by decide +kernel
theorem dX6_repairAll_88 : decode cX6_repairAll 88 = .ok (.invokevirtual 180, 3) := by decide +kernel
theorem dX6_repairAll_91 : decode cX6_repairAll 91 = .ok (.isub, 1) := by decide +kernel
theorem dX6_repairAll_92 : decode cX6_repairAll 92 = .ok (.istore_n 2, 1) := by decide +kernel
theorem dX6_repairAll_93 : decode cX6_repairAll 93 = .ok (.aload_n 0, 1) := by decide +kernel
theorem dX6_repairAll_94 : decode cX6_repairAll 94 = .ok (.getfield 10, 3) := by decide +kernel
theorem dX6_repairAll_97 : decode cX6_repairAll 97 = .ok (.aload 5, 2) := by decide +kernel
theorem dX6_repairAll_99 : decode cX6_repairAll 99 = .ok (.invokevirtual 194, 3) := by decide +kernel
theorem dX6_repairAll_102 : decode cX6_repairAll 102 = .ok (.iinc 3 1, 3) := by decide +kernel
theorem dX6_repairAll_105 : decode cX6_repairAll 105 = .ok (.iinc 4 1, 3) := by decide +kernel
theorem dX6_repairAll_108 : decode cX6_repairAll 108 = .ok (.goto (-65), 3) := by decide +kernel
theorem dX6_repairAll_111 : decode cX6_repairAll 111 = .ok (.iload_n 3, 1) := by decide +kernel
theorem dX6_repairAll_112 : decode cX6_repairAll 112 = .ok (.ireturn, 1) := by decide +kernel
theorem dX6_isDue_0 : decode cX6_isDue 0 = .ok (.aload_n 0, 1) := by decide +kernel
theorem dX6_isDue_1 : decode cX6_isDue 1 = .ok (.getfield 10, 3) := by decide +kernel
theorem dX6_isDue_4 : decode cX6_isDue 4 = .ok (.iload_n 1, 1) := by decide +kernel
theorem dX6_isDue_5 : decode cX6_isDue 5 = .ok (.invokevirtual 101, 3) := by decide +kernel
theorem dX6_isDue_8 : decode cX6_isDue 8 = .ok (.astore_n 2, 1) := by decide +kernel
theorem dX6_isDue_9 : decode cX6_isDue 9 = .ok (.aload_n 2, 1) := by decide +kernel
theorem dX6_isDue_10 : decode cX6_isDue 10 = .ok (.ifnonnull 6, 3) := by decide +kernel
theorem dX6_isDue_13 : decode cX6_isDue 13 = .ok (.bipush (-2), 2) := by decide +kernel
theorem dX6_isDue_15 : decode cX6_isDue 15 = .ok (.ireturn, 1) := by decide +kernel
theorem dX6_isDue_16 : decode cX6_isDue 16 = .ok (.aload_n 0, 1) := by decide +kernel
theorem dX6_isDue_17 : decode cX6_isDue 17 = .ok (.getfield 10, 3) := by decide +kernel
theorem dX6_isDue_20 : decode cX6_isDue 20 = .ok (.aload_n 2, 1) := by decide +kernel
theorem dX6_isDue_21 : decode cX6_isDue 21 = .ok (.invokevirtual 198, 3) := by decide +kernel
theorem dX6_isDue_24 : decode cX6_isDue 24 = .ok (.ifCond .eq 7, 3) := by decide +kernel
theorem dX6_isDue_27 : decode cX6_isDue 27 = .ok (.iconst 1, 1) := by decide +kernel
theorem dX6_isDue_28 : decode cX6_isDue 28 = .ok (.goto 4, 3) := by decide +kernel
theorem dX6_isDue_31 : decode cX6_isDue 31 = .ok (.iconst 0, 1) := by decide +kernel
theorem dX6_isDue_32 : decode cX6_isDue 32 = .ok (.ireturn, 1) := by decide +kernel
theorem dX6_round_0 : decode cX6_round 0 = .ok (.iload_n 1, 1) := by decide +kernel
theorem dX6_round_1 : decode cX6_round 1 = .ok (.ifCond .ge 6, 3) := by decide +kernel
theorem dX6_round_4 : decode cX6_round 4 = .ok (.bipush (-3), 2) := by decide +kernel
theorem dX6_round_6 : decode cX6_round 6 = .ok (.ireturn, 1) := by decide +kernel
theorem dX6_round_7 : decode cX6_round 7 = .ok (.aload_n 0, 1) := by decide +kernel
theorem dX6_round_8 : decode cX6_round 8 = .ok (.getfield 33, 3) := by decide +kernel
theorem dX6_round_11 : decode cX6_round 11 = .ok (.aload_n 0, 1) := by decide +kernel
theorem dX6_round_12 : decode cX6_round 12 = .ok (.getfield 10, 3) := by decide +kernel
theorem dX6_round_15 : decode cX6_round 15 = .ok (.invokevirtual 202, 3) := by decide +kernel
theorem dX6_round_18 : decode cX6_round 18 = .ok (.aload_n 0, 1) := by decide +kernel
theorem dX6_round_19 : decode cX6_round 19 = .ok (.getfield 33, 3) := by decide +kernel
theorem dX6_round_22 : decode cX6_round 22 = .ok (.iload_n 1, 1) := by decide +kernel
theorem dX6_round_23 : decode cX6_round 23 = .ok (.invokevirtual 205, 3) := by decide +kernel
theorem dX6_round_26 : decode cX6_round 26 = .ok (.ireturn, 1) := by decide +kernel
theorem dX6_roundLength_0 : decode cX6_roundLength 0 = .ok (.aload_n 0, 1) := by decide +kernel
theorem dX6_roundLength_1 : decode cX6_roundLength 1 = .ok (.getfield 33, 3) := by decide +kernel
theorem dX6_roundLength_4 : decode cX6_roundLength 4 = .ok (.aload_n 0, 1) := by decide +kernel
theorem dX6_roundLength_5 : decode cX6_roundLength 5 = .ok (.getfield 10, 3) := by decide +kernel
theorem dX6_roundLength_8 : decode cX6_roundLength 8 = .ok (.invokevirtual 202, 3) := by decide +kernel
theorem dX6_roundLength_11 : decode cX6_roundLength 11 = .ok (.aload_n 0, 1) := by decide +kernel
theorem dX6_roundLength_12 : decode cX6_roundLength 12 = .ok (.getfield 33, 3) := by decide +kernel
theorem dX6_roundLength_15 : decode cX6_roundLength 15 = .ok (.getfield 208, 3) := by decide +kernel
theorem dX6_roundLength_18 : decode cX6_roundLength 18 = .ok (.ireturn, 1) := by decide +kernel
theorem dX6_dueOn_0 : decode cX6_dueOn 0 = .ok (.aload_n 0, 1) := by decide +kernel
theorem dX6_dueOn_1 : decode cX6_dueOn 1 = .ok (.getfield 10, 3) := by decide +kernel
theorem dX6_dueOn_4 : decode cX6_dueOn 4 = .ok (.iload_n 1, 1) := by decide +kernel
theorem dX6_dueOn_5 : decode cX6_dueOn 5 = .ok (.invokevirtual 101, 3) := by decide +kernel
theorem dX6_dueOn_8 : decode cX6_dueOn 8 = .ok (.astore_n 2, 1) := by decide +kernel
theorem dX6_dueOn_9 : decode cX6_dueOn 9 = .ok (.aload_n 2, 1) := by decide +kernel
theorem dX6_dueOn_10 : decode cX6_dueOn 10 = .ok (.ifnonnull 6, 3) := by decide +kernel
theorem dX6_dueOn_13 : decode cX6_dueOn 13 = .ok (.bipush (-2), 2) := by decide +kernel
theorem dX6_dueOn_15 : decode cX6_dueOn 15 = .ok (.ireturn, 1) := by decide +kernel
theorem dX6_dueOn_16 : decode cX6_dueOn 16 = .ok (.aload_n 0, 1) := by decide +kernel
theorem dX6_dueOn_17 : decode cX6_dueOn 17 = .ok (.getfield 10, 3) := by decide +kernel
theorem dX6_dueOn_20 : decode cX6_dueOn 20 = .ok (.aload_n 2, 1) := by decide +kernel
theorem dX6_dueOn_21 : decode cX6_dueOn 21 = .ok (.invokevirtual 198, 3) := by decide +kernel
theorem dX6_dueOn_24 : decode cX6_dueOn 24 = .ok (.ifCond .eq 13, 3) := by decide +kernel
theorem dX6_dueOn_27 : decode cX6_dueOn 27 = .ok (.aload_n 0, 1) := by decide +kernel
theorem dX6_dueOn_28 : decode cX6_dueOn 28 = .ok (.getfield 10, 3) := by decide +kernel
theorem dX6_dueOn_31 : decode cX6_dueOn 31 = .ok (.getfield 92, 3) := by decide +kernel
theorem dX6_dueOn_34 : decode cX6_dueOn 34 = .ok (.goto 15, 3) := by decide +kernel
theorem dX6_dueOn_37 : decode cX6_dueOn 37 = .ok (.aload_n 2, 1) := by decide +kernel
theorem dX6_dueOn_38 : decode cX6_dueOn 38 = .ok (.getfield 123, 3) := by decide +kernel
theorem dX6_dueOn_41 : decode cX6_dueOn 41 = .ok (.aload_n 0, 1) := by decide +kernel
theorem dX6_dueOn_42 : decode cX6_dueOn 42 = .ok (.getfield 10, 3) := by decide +kernel
theorem dX6_dueOn_45 : decode cX6_dueOn 45 = .ok (.getfield 89, 3) := by decide +kernel
theorem dX6_dueOn_48 : decode cX6_dueOn 48 = .ok (.iadd, 1) := by decide +kernel
theorem dX6_dueOn_49 : decode cX6_dueOn 49 = .ok (.ireturn, 1) := by decide +kernel
theorem dX6_undo_0 : decode cX6_undo 0 = .ok (.aload_n 0, 1) := by decide +kernel
theorem dX6_undo_1 : decode cX6_undo 1 = .ok (.getfield 19, 3) := by decide +kernel
theorem dX6_undo_4 : decode cX6_undo 4 = .ok (.aload_n 0, 1) := by decide +kernel
theorem dX6_undo_5 : decode cX6_undo 5 = .ok (.getfield 10, 3) := by decide +kernel
theorem dX6_undo_8 : decode cX6_undo 8 = .ok (.invokevirtual 211, 3) := by decide +kernel
theorem dX6_undo_11 : decode cX6_undo 11 = .ok (.ifCond .eq 13, 3) := by decide +kernel
theorem dX6_undo_14 : decode cX6_undo 14 = .ok (.aload_n 0, 1) := by decide +kernel
theorem dX6_undo_15 : decode cX6_undo 15 = .ok (.getfield 19, 3) := by decide +kernel
theorem dX6_undo_18 : decode cX6_undo 18 = .ok (.getfield 215, 3) := by decide +kernel
theorem dX6_undo_21 : decode cX6_undo 21 = .ok (.goto 5, 3) := by decide +kernel
theorem dX6_undo_24 : decode cX6_undo 24 = .ok (.bipush (-4), 2) := by decide +kernel
theorem dX6_undo_26 : decode cX6_undo 26 = .ok (.ireturn, 1) := by decide +kernel
theorem dX6_readAll_0 : decode cX6_readAll 0 = .ok (.aload_n 0, 1) := by decide +kernel
theorem dX6_readAll_1 : decode cX6_readAll 1 = .ok (.getfield 40, 3) := by decide +kernel
theorem dX6_readAll_4 : decode cX6_readAll 4 = .ok (.aload_n 0, 1) := by decide +kernel
theorem dX6_readAll_5 : decode cX6_readAll 5 = .ok (.getfield 10, 3) := by decide +kernel
theorem dX6_readAll_8 : decode cX6_readAll 8 = .ok (.getfield 70, 3) := by decide +kernel
theorem dX6_readAll_11 : decode cX6_readAll 11 = .ok (.invokevirtual 220, 3) := by decide +kernel
theorem dX6_readAll_14 : decode cX6_readAll 14 = .ok (.iconst (-1), 1) := by decide +kernel
theorem dX6_readAll_15 : decode cX6_readAll 15 = .ok (.if_icmp .eq 6, 3) := by decide +kernel
theorem dX6_readAll_18 : decode cX6_readAll 18 = .ok (.bipush (-4), 2) := by decide +kernel
theorem dX6_readAll_20 : decode cX6_readAll 20 = .ok (.ireturn, 1) := by decide +kernel
theorem dX6_readAll_21 : decode cX6_readAll 21 = .ok (.aload_n 0, 1) := by decide +kernel
theorem dX6_readAll_22 : decode cX6_readAll 22 = .ok (.getfield 19, 3) := by decide +kernel
theorem dX6_readAll_25 : decode cX6_readAll 25 = .ok (.aload_n 0, 1) := by decide +kernel
theorem dX6_readAll_26 : decode cX6_readAll 26 = .ok (.getfield 10, 3) := by decide +kernel
theorem dX6_readAll_29 : decode cX6_readAll 29 = .ok (.invokevirtual 52, 3) := by decide +kernel
theorem dX6_readAll_32 : decode cX6_readAll 32 = .ok (.iconst 0, 1) := by decide +kernel
theorem dX6_readAll_33 : decode cX6_readAll 33 = .ok (.istore_n 1, 1) := by decide +kernel
theorem dX6_readAll_34 : decode cX6_readAll 34 = .ok (.iload_n 1, 1) := by decide +kernel
theorem dX6_readAll_35 : decode cX6_readAll 35 = .ok (.aload_n 0, 1) := by decide +kernel
theorem dX6_readAll_36 : decode cX6_readAll 36 = .ok (.getfield 40, 3) := by decide +kernel
theorem dX6_readAll_39 : decode cX6_readAll 39 = .ok (.getfield 223, 3) := by decide +kernel
theorem dX6_readAll_42 : decode cX6_readAll 42 = .ok (.if_icmp .ge 38, 3) := by decide +kernel
theorem dX6_readAll_45 : decode cX6_readAll 45 = .ok (.aload_n 0, 1) := by decide +kernel
theorem dX6_readAll_46 : decode cX6_readAll 46 = .ok (.getfield 40, 3) := by decide +kernel
theorem dX6_readAll_49 : decode cX6_readAll 49 = .ok (.getfield 226, 3) := by decide +kernel
theorem dX6_readAll_52 : decode cX6_readAll 52 = .ok (.iload_n 1, 1) := by decide +kernel
theorem dX6_readAll_53 : decode cX6_readAll 53 = .ok (.aaload, 1) := by decide +kernel
theorem dX6_readAll_54 : decode cX6_readAll 54 = .ok (.astore_n 2, 1) := by decide +kernel
theorem dX6_readAll_55 : decode cX6_readAll 55 = .ok (.aload_n 0, 1) := by decide +kernel
theorem dX6_readAll_56 : decode cX6_readAll 56 = .ok (.getfield 10, 3) := by decide +kernel
theorem dX6_readAll_59 : decode cX6_readAll 59 = .ok (.aload_n 2, 1) := by decide +kernel
theorem dX6_readAll_60 : decode cX6_readAll 60 = .ok (.iconst 0, 1) := by decide +kernel
theorem dX6_readAll_61 : decode cX6_readAll 61 = .ok (.iaload, 1) := by decide +kernel
theorem dX6_readAll_62 : decode cX6_readAll 62 = .ok (.aload_n 2, 1) := by decide +kernel
theorem dX6_readAll_63 : decode cX6_readAll 63 = .ok (.iconst 1, 1) := by decide +kernel
theorem dX6_readAll_64 : decode cX6_readAll 64 = .ok (.iaload, 1) := by decide +kernel
theorem dX6_readAll_65 : decode cX6_readAll 65 = .ok (.aload_n 2, 1) := by decide +kernel
theorem dX6_readAll_66 : decode cX6_readAll 66 = .ok (.iconst 2, 1) := by decide +kernel
theorem dX6_readAll_67 : decode cX6_readAll 67 = .ok (.iaload, 1) := by decide +kernel
theorem dX6_readAll_68 : decode cX6_readAll 68 = .ok (.aload_n 2, 1) := by decide +kernel
theorem dX6_readAll_69 : decode cX6_readAll 69 = .ok (.iconst 3, 1) := by decide +kernel
theorem dX6_readAll_70 : decode cX6_readAll 70 = .ok (.iaload, 1) := by decide +kernel
theorem dX6_readAll_71 : decode cX6_readAll 71 = .ok (.invokevirtual 137, 3) := by decide +kernel
theorem dX6_readAll_74 : decode cX6_readAll 74 = .ok (.iinc 1 1, 3) := by decide +kernel
theorem dX6_readAll_77 : decode cX6_readAll 77 = .ok (.goto (-43), 3) := by decide +kernel
theorem dX6_readAll_80 : decode cX6_readAll 80 = .ok (.aload_n 0, 1) := by decide +kernel
theorem dX6_readAll_81 : decode cX6_readAll 81 = .ok (.getfield 40, 3) := by decide +kernel
theorem dX6_readAll_84 : decode cX6_readAll 84 = .ok (.getfield 223, 3) := by decide +kernel
theorem dX6_readAll_87 : decode cX6_readAll 87 = .ok (.ireturn, 1) := by decide +kernel
theorem dX6_digest_0 : decode cX6_digest 0 = .ok (.ldc2_w 230, 3) := by decide +kernel
theorem dX6_digest_3 : decode cX6_digest 3 = .ok (.lstore_n 1, 1) := by decide +kernel
theorem dX6_digest_4 : decode cX6_digest 4 = .ok (.iconst 0, 1) := by decide +kernel
theorem dX6_digest_5 : decode cX6_digest 5 = .ok (.istore_n 3, 1) := by decide +kernel
theorem dX6_digest_6 : decode cX6_digest 6 = .ok (.iload_n 3, 1) := by decide +kernel
theorem dX6_digest_7 : decode cX6_digest 7 = .ok (.bipush 7, 2) := by decide +kernel
theorem dX6_digest_9 : decode cX6_digest 9 = .ok (.if_icmp .gt 22, 3) := by decide +kernel
theorem dX6_digest_12 : decode cX6_digest 12 = .ok (.ldc2_w 232, 3) := by decide +kernel
theorem dX6_digest_15 : decode cX6_digest 15 = .ok (.lload_n 1, 1) := by decide +kernel
theorem dX6_digest_16 : decode cX6_digest 16 = .ok (.lmul, 1) := by decide +kernel
theorem dX6_digest_17 : decode cX6_digest 17 = .ok (.aload_n 0, 1) := by decide +kernel
theorem dX6_digest_18 : decode cX6_digest 18 = .ok (.iload_n 3, 1) := by decide +kernel
theorem dX6_digest_19 : decode cX6_digest 19 = .ok (.invokevirtual 234, 3) := by decide +kernel
theorem dX6_digest_22 : decode cX6_digest 22 = .ok (.i2l, 1) := by decide +kernel
theorem dX6_digest_23 : decode cX6_digest 23 = .ok (.ladd, 1) := by decide +kernel
theorem dX6_digest_24 : decode cX6_digest 24 = .ok (.lstore_n 1, 1) := by decide +kernel
theorem dX6_digest_25 : decode cX6_digest 25 = .ok (.iinc 3 1, 3) := by decide +kernel
theorem dX6_digest_28 : decode cX6_digest 28 = .ok (.goto (-22), 3) := by decide +kernel
theorem dX6_digest_31 : decode cX6_digest 31 = .ok (.iconst 0, 1) := by decide +kernel
theorem dX6_digest_32 : decode cX6_digest 32 = .ok (.istore_n 3, 1) := by decide +kernel
theorem dX6_digest_33 : decode cX6_digest 33 = .ok (.iload_n 3, 1) := by decide +kernel
theorem dX6_digest_34 : decode cX6_digest 34 = .ok (.iconst 3, 1) := by decide +kernel
theorem dX6_digest_35 : decode cX6_digest 35 = .ok (.if_icmp .ge 22, 3) := by decide +kernel
theorem dX6_digest_38 : decode cX6_digest 38 = .ok (.ldc2_w 232, 3) := by decide +kernel
theorem dX6_digest_41 : decode cX6_digest 41 = .ok (.lload_n 1, 1) := by decide +kernel
theorem dX6_digest_42 : decode cX6_digest 42 = .ok (.lmul, 1) := by decide +kernel
theorem dX6_digest_43 : decode cX6_digest 43 = .ok (.aload_n 0, 1) := by decide +kernel
theorem dX6_digest_44 : decode cX6_digest 44 = .ok (.iload_n 3, 1) := by decide +kernel
theorem dX6_digest_45 : decode cX6_digest 45 = .ok (.invokevirtual 237, 3) := by decide +kernel
theorem dX6_digest_48 : decode cX6_digest 48 = .ok (.i2l, 1) := by decide +kernel
theorem dX6_digest_49 : decode cX6_digest 49 = .ok (.ladd, 1) := by decide +kernel
theorem dX6_digest_50 : decode cX6_digest 50 = .ok (.lstore_n 1, 1) := by decide +kernel
theorem dX6_digest_51 : decode cX6_digest 51 = .ok (.iinc 3 1, 3) := by decide +kernel
theorem dX6_digest_54 : decode cX6_digest 54 = .ok (.goto (-21), 3) := by decide +kernel
theorem dX6_digest_57 : decode cX6_digest 57 = .ok (.iconst 0, 1) := by decide +kernel
theorem dX6_digest_58 : decode cX6_digest 58 = .ok (.istore_n 3, 1) := by decide +kernel
theorem dX6_digest_59 : decode cX6_digest 59 = .ok (.iload_n 3, 1) := by decide +kernel
theorem dX6_digest_60 : decode cX6_digest 60 = .ok (.aload_n 0, 1) := by decide +kernel
theorem dX6_digest_61 : decode cX6_digest 61 = .ok (.getfield 10, 3) := by decide +kernel
theorem dX6_digest_64 : decode cX6_digest 64 = .ok (.getfield 60, 3) := by decide +kernel
theorem dX6_digest_67 : decode cX6_digest 67 = .ok (.if_icmp .ge 22, 3) := by decide +kernel
theorem dX6_digest_70 : decode cX6_digest 70 = .ok (.ldc2_w 232, 3) := by decide +kernel
theorem dX6_digest_73 : decode cX6_digest 73 = .ok (.lload_n 1, 1) := by decide +kernel
theorem dX6_digest_74 : decode cX6_digest 74 = .ok (.lmul, 1) := by decide +kernel
theorem dX6_digest_75 : decode cX6_digest 75 = .ok (.aload_n 0, 1) := by decide +kernel
theorem dX6_digest_76 : decode cX6_digest 76 = .ok (.iload_n 3, 1) := by decide +kernel
theorem dX6_digest_77 : decode cX6_digest 77 = .ok (.invokevirtual 240, 3) := by decide +kernel
theorem dX6_digest_80 : decode cX6_digest 80 = .ok (.i2l, 1) := by decide +kernel
theorem dX6_digest_81 : decode cX6_digest 81 = .ok (.ladd, 1) := by decide +kernel
theorem dX6_digest_82 : decode cX6_digest 82 = .ok (.lstore_n 1, 1) := by decide +kernel
theorem dX6_digest_83 : decode cX6_digest 83 = .ok (.iinc 3 1, 3) := by decide +kernel
theorem dX6_digest_86 : decode cX6_digest 86 = .ok (.goto (-27), 3) := by decide +kernel
theorem dX6_digest_89 : decode cX6_digest 89 = .ok (.iconst 0, 1) := by decide +kernel
theorem dX6_digest_90 : decode cX6_digest 90 = .ok (.istore_n 3, 1) := by decide +kernel
theorem dX6_digest_91 : decode cX6_digest 91 = .ok (.iload_n 3, 1) := by decide +kernel
theorem dX6_digest_92 : decode cX6_digest 92 = .ok (.aload_n 0, 1) := by decide +kernel
theorem dX6_digest_93 : decode cX6_digest 93 = .ok (.getfield 10, 3) := by decide +kernel
theorem dX6_digest_96 : decode cX6_digest 96 = .ok (.getfield 70, 3) := by decide +kernel
theorem dX6_digest_99 : decode cX6_digest 99 = .ok (.if_icmp .ge 52, 3) := by decide +kernel
theorem dX6_digest_102 : decode cX6_digest 102 = .ok (.iconst 0, 1) := by decide +kernel
theorem dX6_digest_103 : decode cX6_digest 103 = .ok (.istore 4, 2) := by decide +kernel
theorem dX6_digest_105 : decode cX6_digest 105 = .ok (.iload 4, 2) := by decide +kernel
theorem dX6_digest_107 : decode cX6_digest 107 = .ok (.bipush 6, 2) := by decide +kernel
theorem dX6_digest_109 : decode cX6_digest 109 = .ok (.if_icmp .gt 24, 3) := by decide +kernel
theorem dX6_digest_112 : decode cX6_digest 112 = .ok (.ldc2_w 232, 3) := by decide +kernel
theorem dX6_digest_115 : decode cX6_digest 115 = .ok (.lload_n 1, 1) := by decide +kernel
theorem dX6_digest_116 : decode cX6_digest 116 = .ok (.lmul, 1) := by decide +kernel
theorem dX6_digest_117 : decode cX6_digest 117 = .ok (.aload_n 0, 1) := by decide +kernel
theorem dX6_digest_118 : decode cX6_digest 118 = .ok (.iload_n 3, 1) := by decide +kernel
theorem dX6_digest_119 : decode cX6_digest 119 = .ok (.iload 4, 2) := by decide +kernel
theorem dX6_digest_121 : decode cX6_digest 121 = .ok (.invokevirtual 243, 3) := by decide +kernel
theorem dX6_digest_124 : decode cX6_digest 124 = .ok (.i2l, 1) := by decide +kernel
theorem dX6_digest_125 : decode cX6_digest 125 = .ok (.ladd, 1) := by decide +kernel
theorem dX6_digest_126 : decode cX6_digest 126 = .ok (.lstore_n 1, 1) := by decide +kernel
theorem dX6_digest_127 : decode cX6_digest 127 = .ok (.iinc 4 1, 3) := by decide +kernel
theorem dX6_digest_130 : decode cX6_digest 130 = .ok (.goto (-25), 3) := by decide +kernel
theorem dX6_digest_133 : decode cX6_digest 133 = .ok (.ldc2_w 232, 3) := by decide +kernel
theorem dX6_digest_136 : decode cX6_digest 136 = .ok (.lload_n 1, 1) := by decide +kernel
theorem dX6_digest_137 : decode cX6_digest 137 = .ok (.lmul, 1) := by decide +kernel
theorem dX6_digest_138 : decode cX6_digest 138 = .ok (.aload_n 0, 1) := by decide +kernel
theorem dX6_digest_139 : decode cX6_digest 139 = .ok (.iload_n 3, 1) := by decide +kernel
theorem dX6_digest_140 : decode cX6_digest 140 = .ok (.invokevirtual 247, 3) := by decide +kernel
theorem dX6_digest_143 : decode cX6_digest 143 = .ok (.ladd, 1) := by decide +kernel
theorem dX6_digest_144 : decode cX6_digest 144 = .ok (.lstore_n 1, 1) := by decide +kernel
theorem dX6_digest_145 : decode cX6_digest 145 = .ok (.iinc 3 1, 3) := by decide +kernel
theorem dX6_digest_148 : decode cX6_digest 148 = .ok (.goto (-57), 3) := by decide +kernel
theorem dX6_digest_151 : decode cX6_digest 151 = .ok (.lload_n 1, 1) := by decide +kernel
theorem dX6_digest_152 : decode cX6_digest 152 = .ok (.lreturn, 1) := by decide +kernel
theorem dX6_isWithin_0 : decode cX6_isWithin 0 = .ok (.iload_n 0, 1) := by decide +kernel
theorem dX6_isWithin_1 : decode cX6_isWithin 1 = .ok (.iload_n 1, 1) := by decide +kernel
theorem dX6_isWithin_2 : decode cX6_isWithin 2 = .ok (.if_icmp .lt 12, 3) := by decide +kernel
theorem dX6_isWithin_5 : decode cX6_isWithin 5 = .ok (.iload_n 0, 1) := by decide +kernel
theorem dX6_isWithin_6 : decode cX6_isWithin 6 = .ok (.iload_n 2, 1) := by decide +kernel
theorem dX6_isWithin_7 : decode cX6_isWithin 7 = .ok (.if_icmp .gt 7, 3) := by decide +kernel
theorem dX6_isWithin_10 : decode cX6_isWithin 10 = .ok (.iconst 1, 1) := by decide +kernel
theorem dX6_isWithin_11 : decode cX6_isWithin 11 = .ok (.goto 4, 3) := by decide +kernel
theorem dX6_isWithin_14 : decode cX6_isWithin 14 = .ok (.iconst 0, 1) := by decide +kernel
theorem dX6_isWithin_15 : decode cX6_isWithin 15 = .ok (.ireturn, 1) := by decide +kernel
