theorem dX0_init_0 : decode cX0_init 0 = .ok (.aload_n 0, 1) := by decide +kernel
theorem dX0_init_1 : decode cX0_init 1 = .ok (.invokespecial 3, 3) := by decide +kernel
theorem dX0_init_4 : decode cX0_init 4 = .ok (.aload_n 0, 1) := by decide +kernel
theorem dX0_init_5 : decode cX0_init 5 = .ok (.iconst 5, 1) := by decide +kernel
theorem dX0_init_6 : decode cX0_init 6 = .ok (.anewarray 9, 3) := by decide +kernel
theorem dX0_init_9 : decode cX0_init 9 = .ok (.putfield 11, 3) := by decide +kernel
theorem dX0_init_12 : decode cX0_init 12 = .ok (.aload_n 0, 1) := by decide +kernel
theorem dX0_init_13 : decode cX0_init 13 = .ok (.iconst 0, 1) := by decide +kernel
theorem dX0_init_14 : decode cX0_init 14 = .ok (.putfield 17, 3) := by decide +kernel
theorem dX0_init_17 : decode cX0_init 17 = .ok (.iconst 0, 1) := by decide +kernel
theorem dX0_init_18 : decode cX0_init 18 = .ok (.istore_n 1, 1) := by decide +kernel
theorem dX0_init_19 : decode cX0_init 19 = .ok (.iload_n 1, 1) := by decide +kernel
theorem dX0_init_20 : decode cX0_init 20 = .ok (.aload_n 0, 1) := by decide +kernel
theorem dX0_init_21 : decode cX0_init 21 = .ok (.getfield 11, 3) := by decide +kernel
theorem dX0_init_24 : decode cX0_init 24 = .ok (.arraylength, 1) := by decide +kernel
theorem dX0_init_25 : decode cX0_init 25 = .ok (.if_icmp .ge 22, 3) := by decide +kernel
theorem dX0_init_28 : decode cX0_init 28 = .ok (.aload_n 0, 1) := by decide +kernel
theorem dX0_init_29 : decode cX0_init 29 = .ok (.getfield 11, 3) := by decide +kernel
theorem dX0_init_32 : decode cX0_init 32 = .ok (.iload_n 1, 1) := by decide +kernel
theorem dX0_init_33 : decode cX0_init 33 = .ok (.new 9, 3) := by decide +kernel
theorem dX0_init_36 : decode cX0_init 36 = .ok (.dup, 1) := by decide +kernel
theorem dX0_init_37 : decode cX0_init 37 = .ok (.invokespecial 21, 3) := by decide +kernel
theorem dX0_init_40 : decode cX0_init 40 = .ok (.aastore, 1) := by decide +kernel
theorem dX0_init_41 : decode cX0_init 41 = .ok (.iinc 1 1, 3) := by decide +kernel
theorem dX0_init_44 : decode cX0_init 44 = .ok (.goto (-25), 3) := by decide +kernel
theorem dX0_init_47 : decode cX0_init 47 = .ok (.return_, 1) := by decide +kernel
theorem dX0_keep_0 : decode cX0_keep 0 = .ok (.aload_n 0, 1) := by decide +kernel
theorem dX0_keep_1 : decode cX0_keep 1 = .ok (.getfield 17, 3) := by decide +kernel
theorem dX0_keep_4 : decode cX0_keep 4 = .ok (.iconst 5, 1) := by decide +kernel
theorem dX0_keep_5 : decode cX0_keep 5 = .ok (.if_icmp .lt 7, 3) := by decide +kernel
theorem dX0_keep_8 : decode cX0_keep 8 = .ok (.aload_n 0, 1) := by decide +kernel
theorem dX0_keep_9 : decode cX0_keep 9 = .ok (.invokevirtual 22, 3) := by decide +kernel
theorem dX0_keep_12 : decode cX0_keep 12 = .ok (.aload_n 0, 1) := by decide +kernel
theorem dX0_keep_13 : decode cX0_keep 13 = .ok (.getfield 11, 3) := by decide +kernel
theorem dX0_keep_16 : decode cX0_keep 16 = .ok (.aload_n 0, 1) := by decide +kernel
theorem dX0_keep_17 : decode cX0_keep 17 = .ok (.getfield 17, 3) := by decide +kernel
theorem dX0_keep_20 : decode cX0_keep 20 = .ok (.aaload, 1) := by decide +kernel
theorem dX0_keep_21 : decode cX0_keep 21 = .ok (.aload_n 1, 1) := by decide +kernel
theorem dX0_keep_22 : decode cX0_keep 22 = .ok (.invokevirtual 25, 3) := by decide +kernel
theorem dX0_keep_25 : decode cX0_keep 25 = .ok (.aload_n 0, 1) := by decide +kernel
theorem dX0_keep_26 : decode cX0_keep 26 = .ok (.dup, 1) := by decide +kernel
theorem dX0_keep_27 : decode cX0_keep 27 = .ok (.getfield 17, 3) := by decide +kernel
theorem dX0_keep_30 : decode cX0_keep 30 = .ok (.iconst 1, 1) := by decide +kernel
theorem dX0_keep_31 : decode cX0_keep 31 = .ok (.iadd, 1) := by decide +kernel
theorem dX0_keep_32 : decode cX0_keep 32 = .ok (.putfield 17, 3) := by decide +kernel
theorem dX0_keep_35 : decode cX0_keep 35 = .ok (.return_, 1) := by decide +kernel
theorem dX0_dropOldest_0 : decode cX0_dropOldest 0 = .ok (.aload_n 0, 1) := by decide +kernel
theorem dX0_dropOldest_1 : decode cX0_dropOldest 1 = .ok (.getfield 11, 3) := by decide +kernel
theorem dX0_dropOldest_4 : decode cX0_dropOldest 4 = .ok (.iconst 0, 1) := by decide +kernel
theorem dX0_dropOldest_5 : decode cX0_dropOldest 5 = .ok (.aaload, 1) := by decide +kernel
theorem dX0_dropOldest_6 : decode cX0_dropOldest 6 = .ok (.astore_n 1, 1) := by decide +kernel
theorem dX0_dropOldest_7 : decode cX0_dropOldest 7 = .ok (.iconst 1, 1) := by decide +kernel
theorem dX0_dropOldest_8 : decode cX0_dropOldest 8 = .ok (.istore_n 2, 1) := by decide +kernel
theorem dX0_dropOldest_9 : decode cX0_dropOldest 9 = .ok (.iload_n 2, 1) := by decide +kernel
theorem dX0_dropOldest_10 : decode cX0_dropOldest 10 = .ok (.iconst 5, 1) := by decide +kernel
theorem dX0_dropOldest_11 : decode cX0_dropOldest 11 = .ok (.if_icmp .ge 23, 3) := by decide +kernel
theorem dX0_dropOldest_14 : decode cX0_dropOldest 14 = .ok (.aload_n 0, 1) := by decide +kernel
theorem dX0_dropOldest_15 : decode cX0_dropOldest 15 = .ok (.getfield 11, 3) := by decide +kernel
theorem dX0_dropOldest_18 : decode cX0_dropOldest 18 = .ok (.iload_n 2, 1) := by decide +kernel
theorem dX0_dropOldest_19 : decode cX0_dropOldest 19 = .ok (.iconst 1, 1) := by decide +kernel
theorem dX0_dropOldest_20 : decode cX0_dropOldest 20 = .ok (.isub, 1) := by decide +kernel
theorem dX0_dropOldest_21 : decode cX0_dropOldest 21 = .ok (.aload_n 0, 1) := by decide +kernel
theorem dX0_dropOldest_22 : decode cX0_dropOldest 22 = .ok (.getfield 11, 3) := by decide +kernel
theorem dX0_dropOldest_25 : decode cX0_dropOldest 25 = .ok (.iload_n 2, 1) := by decide +kernel
theorem dX0_dropOldest_26 : decode cX0_dropOldest 26 = .ok (.aaload, 1) := by decide +kernel
theorem dX0_dropOldest_27 : decode cX0_dropOldest 27 = .ok (.aastore, 1) := by decide +kernel
theorem dX0_dropOldest_28 : decode cX0_dropOldest 28 = .ok (.iinc 2 1, 3) := by decide +kernel
theorem dX0_dropOldest_31 : decode cX0_dropOldest 31 = .ok (.goto (-22), 3) := by decide +kernel
theorem dX0_dropOldest_34 : decode cX0_dropOldest 34 = .ok (.aload_n 0, 1) := by decide +kernel
theorem dX0_dropOldest_35 : decode cX0_dropOldest 35 = .ok (.getfield 11, 3) := by decide +kernel
theorem dX0_dropOldest_38 : decode cX0_dropOldest 38 = .ok (.iconst 4, 1) := by decide +kernel
theorem dX0_dropOldest_39 : decode cX0_dropOldest 39 = .ok (.aload_n 1, 1) := by decide +kernel
theorem dX0_dropOldest_40 : decode cX0_dropOldest 40 = .ok (.aastore, 1) := by decide +kernel
theorem dX0_dropOldest_41 : decode cX0_dropOldest 41 = .ok (.aload_n 0, 1) := by decide +kernel
theorem dX0_dropOldest_42 : decode cX0_dropOldest 42 = .ok (.iconst 4, 1) := by decide +kernel
theorem dX0_dropOldest_43 : decode cX0_dropOldest 43 = .ok (.putfield 17, 3) := by decide +kernel
theorem dX0_dropOldest_46 : decode cX0_dropOldest 46 = .ok (.return_, 1) := by decide +kernel
theorem dX0_takeBack_0 : decode cX0_takeBack 0 = .ok (.aload_n 0, 1) := by decide +kernel
theorem dX0_takeBack_1 : decode cX0_takeBack 1 = .ok (.getfield 17, 3) := by decide +kernel
theorem dX0_takeBack_4 : decode cX0_takeBack 4 = .ok (.ifCond .gt 5, 3) := by decide +kernel
theorem dX0_takeBack_7 : decode cX0_takeBack 7 = .ok (.iconst 0, 1) := by decide +kernel
theorem dX0_takeBack_8 : decode cX0_takeBack 8 = .ok (.ireturn, 1) := by decide +kernel
theorem dX0_takeBack_9 : decode cX0_takeBack 9 = .ok (.aload_n 0, 1) := by decide +kernel
theorem dX0_takeBack_10 : decode cX0_takeBack 10 = .ok (.dup, 1) := by decide +kernel
theorem dX0_takeBack_11 : decode cX0_takeBack 11 = .ok (.getfield 17, 3) := by decide +kernel
theorem dX0_takeBack_14 : decode cX0_takeBack 14 = .ok (.iconst 1, 1) := by decide +kernel
theorem dX0_takeBack_15 : decode cX0_takeBack 15 = .ok (.isub, 1) := by decide +kernel
theorem dX0_takeBack_16 : decode cX0_takeBack 16 = .ok (.putfield 17, 3) := by decide +kernel
theorem dX0_takeBack_19 : decode cX0_takeBack 19 = .ok (.aload_n 1, 1) := by decide +kernel
theorem dX0_takeBack_20 : decode cX0_takeBack 20 = .ok (.aload_n 0, 1) := by decide +kernel
theorem dX0_takeBack_21 : decode cX0_takeBack 21 = .ok (.getfield 11, 3) := by decide +kernel
theorem dX0_takeBack_24 : decode cX0_takeBack 24 = .ok (.aload_n 0, 1) := by decide +kernel
theorem dX0_takeBack_25 : decode cX0_takeBack 25 = .ok (.getfield 17, 3) := by decide +kernel
theorem dX0_takeBack_28 : decode cX0_takeBack 28 = .ok (.aaload, 1) := by decide +kernel
theorem dX0_takeBack_29 : decode cX0_takeBack 29 = .ok (.invokevirtual 25, 3) := by decide +kernel
theorem dX0_takeBack_32 : decode cX0_takeBack 32 = .ok (.iconst 1, 1) := by decide +kernel
theorem dX0_takeBack_33 : decode cX0_takeBack 33 = .ok (.ireturn, 1) := by decide +kernel
theorem dX1_init_0 : decode cX1_init 0 = .ok (.aload_n 0, 1) := by decide +kernel
theorem dX1_init_1 : decode cX1_init 1 = .ok (.invokespecial 3, 3) := by decide +kernel
theorem dX1_init_4 : decode cX1_init 4 = .ok (.aload_n 0, 1) := by decide +kernel
theorem dX1_init_5 : decode cX1_init 5 = .ok (.iconst 3, 1) := by decide +kernel
theorem dX1_init_6 : decode cX1_init 6 = .ok (.newarray .int, 2) := by decide +kernel
theorem dX1_init_8 : decode cX1_init 8 = .ok (.putfield 9, 3) := by decide +kernel
theorem dX1_init_11 : decode cX1_init 11 = .ok (.aload_n 0, 1) := by decide +kernel
theorem dX1_init_12 : decode cX1_init 12 = .ok (.bipush 8, 2) := by decide +kernel
theorem dX1_init_14 : decode cX1_init 14 = .ok (.newarray .int, 2) := by decide +kernel
theorem dX1_init_16 : decode cX1_init 16 = .ok (.putfield 15, 3) := by decide +kernel
theorem dX1_init_19 : decode cX1_init 19 = .ok (.aload_n 0, 1) := by decide +kernel
theorem dX1_init_20 : decode cX1_init 20 = .ok (.bipush 16, 2) := by decide +kernel
theorem dX1_init_22 : decode cX1_init 22 = .ok (.anewarray 18, 3) := by decide +kernel
theorem dX1_init_25 : decode cX1_init 25 = .ok (.putfield 20, 3) := by decide +kernel
theorem dX1_init_28 : decode cX1_init 28 = .ok (.aload_n 0, 1) := by decide +kernel
theorem dX1_init_29 : decode cX1_init 29 = .ok (.iconst 0, 1) := by decide +kernel
theorem dX1_init_30 : decode cX1_init 30 = .ok (.putfield 24, 3) := by decide +kernel
theorem dX1_init_33 : decode cX1_init 33 = .ok (.aload_n 0, 1) := by decide +kernel
theorem dX1_init_34 : decode cX1_init 34 = .ok (.iconst 0, 1) := by decide +kernel
theorem dX1_init_35 : decode cX1_init 35 = .ok (.putfield 28, 3) := by decide +kernel
theorem dX1_init_38 : decode cX1_init 38 = .ok (.aload_n 0, 1) := by decide +kernel
theorem dX1_init_39 : decode cX1_init 39 = .ok (.bipush 24, 2) := by decide +kernel
theorem dX1_init_41 : decode cX1_init 41 = .ok (.putfield 31, 3) := by decide +kernel
theorem dX1_init_44 : decode cX1_init 44 = .ok (.aload_n 0, 1) := by decide +kernel
theorem dX1_init_45 : decode cX1_init 45 = .ok (.bipush 20, 2) := by decide +kernel
theorem dX1_init_47 : decode cX1_init 47 = .ok (.putfield 34, 3) := by decide +kernel
theorem dX1_init_50 : decode cX1_init 50 = .ok (.aload_n 0, 1) := by decide +kernel
theorem dX1_init_51 : decode cX1_init 51 = .ok (.bipush 90, 2) := by decide +kernel
theorem dX1_init_53 : decode cX1_init 53 = .ok (.putfield 37, 3) := by decide +kernel
theorem dX1_init_56 : decode cX1_init 56 = .ok (.aload_n 0, 1) := by decide +kernel
theorem dX1_init_57 : decode cX1_init 57 = .ok (.iconst 0, 1) := by decide +kernel
theorem dX1_init_58 : decode cX1_init 58 = .ok (.putfield 40, 3) := by decide +kernel
theorem dX1_init_61 : decode cX1_init 61 = .ok (.aload_n 0, 1) := by decide +kernel
theorem dX1_init_62 : decode cX1_init 62 = .ok (.iconst 0, 1) := by decide +kernel
theorem dX1_init_63 : decode cX1_init 63 = .ok (.putfield 43, 3) := by decide +kernel
theorem dX1_init_66 : decode cX1_init 66 = .ok (.aload_n 0, 1) := by decide +kernel
theorem dX1_init_67 : decode cX1_init 67 = .ok (.iconst 0, 1) := by decide +kernel
theorem dX1_init_68 : decode cX1_init 68 = .ok (.putfield 46, 3) := by decide +kernel
theorem dX1_init_71 : decode cX1_init 71 = .ok (.aload_n 0, 1) := by decide +kernel
theorem dX1_init_72 : decode cX1_init 72 = .ok (.getfield 9, 3) := by decide +kernel
theorem dX1_init_75 : decode cX1_init 75 = .ok (.bipush 10, 2) := by decide +kernel
theorem dX1_init_77 : decode cX1_init 77 = .ok (.invokestatic 49, 3) := by decide +kernel
theorem dX1_init_80 : decode cX1_init 80 = .ok (.iconst 0, 1) := by decide +kernel
theorem dX1_init_81 : decode cX1_init 81 = .ok (.istore_n 1, 1) := by decide +kernel
theorem dX1_init_82 : decode cX1_init 82 = .ok (.iload_n 1, 1) := by decide +kernel
theorem dX1_init_83 : decode cX1_init 83 = .ok (.aload_n 0, 1) := by decide +kernel
theorem dX1_init_84 : decode cX1_init 84 = .ok (.getfield 20, 3) := by decide +kernel
theorem dX1_init_87 : decode cX1_init 87 = .ok (.arraylength, 1) := by decide +kernel
theorem dX1_init_88 : decode cX1_init 88 = .ok (.if_icmp .ge 22, 3) := by decide +kernel
theorem dX1_init_91 : decode cX1_init 91 = .ok (.aload_n 0, 1) := by decide +kernel
theorem dX1_init_92 : decode cX1_init 92 = .ok (.getfield 20, 3) := by decide +kernel
theorem dX1_init_95 : decode cX1_init 95 = .ok (.iload_n 1, 1) := by decide +kernel
theorem dX1_init_96 : decode cX1_init 96 = .ok (.new 18, 3) := by decide +kernel
theorem dX1_init_99 : decode cX1_init 99 = .ok (.dup, 1) := by decide +kernel
theorem dX1_init_100 : decode cX1_init 100 = .ok (.invokespecial 55, 3) := by decide +kernel
theorem dX1_init_103 : decode cX1_init 103 = .ok (.aastore, 1) := by decide +kernel
theorem dX1_init_104 : decode cX1_init 104 = .ok (.iinc 1 1, 3) := by decide +kernel
theorem dX1_init_107 : decode cX1_init 107 = .ok (.goto (-25), 3) := by decide +kernel
theorem dX1_init_110 : decode cX1_init 110 = .ok (.return_, 1) := by decide +kernel
theorem dX1_copyFrom_0 : decode cX1_copyFrom 0 = .ok (.aload_n 1, 1) := by decide +kernel
theorem dX1_copyFrom_1 : decode cX1_copyFrom 1 = .ok (.getfield 9, 3) := by decide +kernel
theorem dX1_copyFrom_4 : decode cX1_copyFrom 4 = .ok (.iconst 0, 1) := by decide +kernel
theorem dX1_copyFrom_5 : decode cX1_copyFrom 5 = .ok (.aload_n 0, 1) := by decide +kernel
theorem dX1_copyFrom_6 : decode cX1_copyFrom 6 = .ok (.getfield 9, 3) := by decide +kernel
theorem dX1_copyFrom_9 : decode cX1_copyFrom 9 = .ok (.iconst 0, 1) := by decide +kernel
theorem dX1_copyFrom_10 : decode cX1_copyFrom 10 = .ok (.iconst 3, 1) := by decide +kernel
theorem dX1_copyFrom_11 : decode cX1_copyFrom 11 = .ok (.invokestatic 56, 3) := by decide +kernel
theorem dX1_copyFrom_14 : decode cX1_copyFrom 14 = .ok (.aload_n 1, 1) := by decide +kernel
theorem dX1_copyFrom_15 : decode cX1_copyFrom 15 = .ok (.getfield 15, 3) := by decide +kernel
theorem dX1_copyFrom_18 : decode cX1_copyFrom 18 = .ok (.iconst 0, 1) := by decide +kernel
theorem dX1_copyFrom_19 : decode cX1_copyFrom 19 = .ok (.aload_n 0, 1) := by decide +kernel
theorem dX1_copyFrom_20 : decode cX1_copyFrom 20 = .ok (.getfield 15, 3) := by decide +kernel
theorem dX1_copyFrom_23 : decode cX1_copyFrom 23 = .ok (.iconst 0, 1) := by decide +kernel
theorem dX1_copyFrom_24 : decode cX1_copyFrom 24 = .ok (.bipush 8, 2) := by decide +kernel
theorem dX1_copyFrom_26 : decode cX1_copyFrom 26 = .ok (.invokestatic 56, 3) := by decide +kernel
theorem dX1_copyFrom_29 : decode cX1_copyFrom 29 = .ok (.iconst 0, 1) := by decide +kernel
theorem dX1_copyFrom_30 : decode cX1_copyFrom 30 = .ok (.istore_n 2, 1) := by decide +kernel
theorem dX1_copyFrom_31 : decode cX1_copyFrom 31 = .ok (.iload_n 2, 1) := by decide +kernel
theorem dX1_copyFrom_32 : decode cX1_copyFrom 32 = .ok (.bipush 16, 2) := by decide +kernel
theorem dX1_copyFrom_34 : decode cX1_copyFrom 34 = .ok (.if_icmp .ge 24, 3) := by decide +kernel
theorem dX1_copyFrom_37 : decode cX1_copyFrom 37 = .ok (.aload_n 0, 1) := by decide +kernel
theorem dX1_copyFrom_38 : decode cX1_copyFrom 38 = .ok (.getfield 20, 3) := by decide +kernel
theorem dX1_copyFrom_41 : decode cX1_copyFrom 41 = .ok (.iload_n 2, 1) := by decide +kernel
theorem dX1_copyFrom_42 : decode cX1_copyFrom 42 = .ok (.aaload, 1) := by decide +kernel
theorem dX1_copyFrom_43 : decode cX1_copyFrom 43 = .ok (.aload_n 1, 1) := by decide +kernel
theorem dX1_copyFrom_44 : decode cX1_copyFrom 44 = .ok (.getfield 20, 3) := by decide +kernel
theorem dX1_copyFrom_47 : decode cX1_copyFrom 47 = .ok (.iload_n 2, 1) := by decide +kernel
theorem dX1_copyFrom_48 : decode cX1_copyFrom 48 = .ok (.aaload, 1) := by decide +kernel
theorem dX1_copyFrom_49 : decode cX1_copyFrom 49 = .ok (.invokevirtual 62, 3) := by decide +kernel
theorem dX1_copyFrom_52 : decode cX1_copyFrom 52 = .ok (.iinc 2 1, 3) := by decide +kernel
theorem dX1_copyFrom_55 : decode cX1_copyFrom 55 = .ok (.goto (-24), 3) := by decide +kernel
theorem dX1_copyFrom_58 : decode cX1_copyFrom 58 = .ok (.aload_n 0, 1) := by decide +kernel
theorem dX1_copyFrom_59 : decode cX1_copyFrom 59 = .ok (.aload_n 1, 1) := by decide +kernel
theorem dX1_copyFrom_60 : decode cX1_copyFrom 60 = .ok (.getfield 24, 3) := by decide +kernel
theorem dX1_copyFrom_63 : decode cX1_copyFrom 63 = .ok (.putfield 24, 3) := by decide +kernel
theorem dX1_copyFrom_66 : decode cX1_copyFrom 66 = .ok (.aload_n 0, 1) := by decide +kernel
theorem dX1_copyFrom_67 : decode cX1_copyFrom 67 = .ok (.aload_n 1, 1) := by decide +kernel
theorem dX1_copyFrom_68 : decode cX1_copyFrom 68 = .ok (.getfield 28, 3) := by decide +kernel
theorem dX1_copyFrom_71 : decode cX1_copyFrom 71 = .ok (.putfield 28, 3) := by decide +kernel
theorem dX1_copyFrom_74 : decode cX1_copyFrom 74 = .ok (.aload_n 0, 1) := by decide +kernel
theorem dX1_copyFrom_75 : decode cX1_copyFrom 75 = .ok (.aload_n 1, 1) := by decide +kernel
theorem dX1_copyFrom_76 : decode cX1_copyFrom 76 = .ok (.getfield 31, 3) := by decide +kernel
theorem dX1_copyFrom_79 : decode cX1_copyFrom 79 = .ok (.putfield 31, 3) := by decide +kernel
theorem dX1_copyFrom_82 : decode cX1_copyFrom 82 = .ok (.aload_n 0, 1) := by decide +kernel
theorem dX1_copyFrom_83 : decode cX1_copyFrom 83 = .ok (.aload_n 1, 1) := by decide +kernel
theorem dX1_copyFrom_84 : decode cX1_copyFrom 84 = .ok (.getfield 34, 3) := by decide +kernel
theorem dX1_copyFrom_87 : decode cX1_copyFrom 87 = .ok (.putfield 34, 3) := by decide +kernel
theorem dX1_copyFrom_90 : decode cX1_copyFrom 90 = .ok (.aload_n 0, 1) := by decide +kernel
theorem dX1_copyFrom_91 : decode cX1_copyFrom 91 = .ok (.aload_n 1, 1) := by decide +kernel
theorem dX1_copyFrom_92 : decode cX1_copyFrom 92 = .ok (.getfield 37, 3) := by decide +kernel
theorem dX1_copyFrom_95 : decode cX1_copyFrom 95 = .ok (.putfield 37, 3) := by decide +kernel
theorem dX1_copyFrom_98 : decode cX1_copyFrom 98 = .ok (.aload_n 0, 1) := by decide +kernel
theorem dX1_copyFrom_99 : decode cX1_copyFrom 99 = .ok (.aload_n 1, 1) := by decide +kernel
theorem dX1_copyFrom_100 : decode cX1_copyFrom 100 = .ok (.getfield 40, 3) := by decide +kernel
theorem dX1_copyFrom_103 : decode cX1_copyFrom 103 = .ok (.putfield 40, 3) := by decide +kernel
theorem dX1_copyFrom_106 : decode cX1_copyFrom 106 = .ok (.aload_n 0, 1) := by decide +kernel
theorem dX1_copyFrom_107 : decode cX1_copyFrom 107 = .ok (.aload_n 1, 1) := by decide +kernel
theorem dX1_copyFrom_108 : decode cX1_copyFrom 108 = .ok (.getfield 43, 3) := by decide +kernel
theorem dX1_copyFrom_111 : decode cX1_copyFrom 111 = .ok (.putfield 43, 3) := by decide +kernel
theorem dX1_copyFrom_114 : decode cX1_copyFrom 114 = .ok (.aload_n 0, 1) := by decide +kernel
theorem dX1_copyFrom_115 : decode cX1_copyFrom 115 = .ok (.aload_n 1, 1) := by decide +kernel
theorem dX1_copyFrom_116 : decode cX1_copyFrom 116 = .ok (.getfield 46, 3) := by decide +kernel
theorem dX1_copyFrom_119 : decode cX1_copyFrom 119 = .ok (.putfield 46, 3) := by decide +kernel
theorem dX1_copyFrom_122 : decode cX1_copyFrom 122 = .ok (.return_, 1) := by decide +kernel
theorem dX1_hasHeader_0 : decode cX1_hasHeader 0 = .ok (.iload_n 1, 1) := by decide +kernel
theorem dX1_hasHeader_1 : decode cX1_hasHeader 1 = .ok (.ifCond .lt 12, 3) := by decide +kernel
theorem dX1_hasHeader_4 : decode cX1_hasHeader 4 = .ok (.iload_n 1, 1) := by decide +kernel
theorem dX1_hasHeader_5 : decode cX1_hasHeader 5 = .ok (.iconst 3, 1) := by decide +kernel
theorem dX1_hasHeader_6 : decode cX1_hasHeader 6 = .ok (.if_icmp .ge 7, 3) := by decide +kernel
theorem dX1_hasHeader_9 : decode cX1_hasHeader 9 = .ok (.iconst 1, 1) := by decide +kernel
theorem dX1_hasHeader_10 : decode cX1_hasHeader 10 = .ok (.goto 4, 3) := by decide +kernel
theorem dX1_hasHeader_13 : decode cX1_hasHeader 13 = .ok (.iconst 0, 1) := by decide +kernel
theorem dX1_hasHeader_14 : decode cX1_hasHeader 14 = .ok (.ireturn, 1) := by decide +kernel
theorem dX1_hasLine_0 : decode cX1_hasLine 0 = .ok (.iload_n 1, 1) := by decide +kernel
theorem dX1_hasLine_1 : decode cX1_hasLine 1 = .ok (.ifCond .lt 15, 3) := by decide +kernel
theorem dX1_hasLine_4 : decode cX1_hasLine 4 = .ok (.iload_n 1, 1) := by decide +kernel
theorem dX1_hasLine_5 : decode cX1_hasLine 5 = .ok (.aload_n 0, 1) := by decide +kernel
theorem dX1_hasLine_6 : decode cX1_hasLine 6 = .ok (.getfield 24, 3) := by decide +kernel
theorem dX1_hasLine_9 : decode cX1_hasLine 9 = .ok (.if_icmp .ge 7, 3) := by decide +kernel
theorem dX1_hasLine_12 : decode cX1_hasLine 12 = .ok (.iconst 1, 1) := by decide +kernel
theorem dX1_hasLine_13 : decode cX1_hasLine 13 = .ok (.goto 4, 3) := by decide +kernel
theorem dX1_hasLine_16 : decode cX1_hasLine 16 = .ok (.iconst 0, 1) := by decide +kernel
theorem dX1_hasLine_17 : decode cX1_hasLine 17 = .ok (.ireturn, 1) := by decide +kernel
theorem dX1_trapAt_0 : decode cX1_trapAt 0 = .ok (.iload_n 1, 1) := by decide +kernel
theorem dX1_trapAt_1 : decode cX1_trapAt 1 = .ok (.ifCond .lt 20, 3) := by decide +kernel
theorem dX1_trapAt_4 : decode cX1_trapAt 4 = .ok (.iload_n 1, 1) := by decide +kernel
theorem dX1_trapAt_5 : decode cX1_trapAt 5 = .ok (.aload_n 0, 1) := by decide +kernel
theorem dX1_trapAt_6 : decode cX1_trapAt 6 = .ok (.getfield 28, 3) := by decide +kernel
theorem dX1_trapAt_9 : decode cX1_trapAt 9 = .ok (.if_icmp .ge 12, 3) := by decide +kernel
theorem dX1_trapAt_12 : decode cX1_trapAt 12 = .ok (.aload_n 0, 1) := by decide +kernel
theorem dX1_trapAt_13 : decode cX1_trapAt 13 = .ok (.getfield 20, 3) := by decide +kernel
theorem dX1_trapAt_16 : decode cX1_trapAt 16 = .ok (.iload_n 1, 1) := by decide +kernel
theorem dX1_trapAt_17 : decode cX1_trapAt 17 = .ok (.aaload, 1) := by decide +kernel
theorem dX1_trapAt_18 : decode cX1_trapAt 18 = .ok (.goto 4, 3) := by decide +kernel
theorem dX1_trapAt_21 : decode cX1_trapAt 21 = .ok (.aconst_null, 1) := by decide +kernel
theorem dX1_trapAt_22 : decode cX1_trapAt 22 = .ok (.areturn, 1) := by decide +kernel
theorem dX1_headerOfLine_0 : decode cX1_headerOfLine 0 = .ok (.aload_n 0, 1) := by decide +kernel
theorem dX1_headerOfLine_1 : decode cX1_headerOfLine 1 = .ok (.iload_n 1, 1) := by decide +kernel
theorem dX1_headerOfLine_2 : decode cX1_headerOfLine 2 = .ok (.invokevirtual 66, 3) := by decide +kernel
theorem dX1_headerOfLine_5 : decode cX1_headerOfLine 5 = .ok (.ifCond .eq 12, 3) := by decide +kernel
theorem dX1_headerOfLine_8 : decode cX1_headerOfLine 8 = .ok (.aload_n 0, 1) := by decide +kernel
theorem dX1_headerOfLine_9 : decode cX1_headerOfLine 9 = .ok (.getfield 15, 3) := by decide +kernel
theorem dX1_headerOfLine_12 : decode cX1_headerOfLine 12 = .ok (.iload_n 1, 1) := by decide +kernel
theorem dX1_headerOfLine_13 : decode cX1_headerOfLine 13 = .ok (.iaload, 1) := by decide +kernel
theorem dX1_headerOfLine_14 : decode cX1_headerOfLine 14 = .ok (.goto 5, 3) := by decide +kernel
theorem dX1_headerOfLine_17 : decode cX1_headerOfLine 17 = .ok (.bipush (-2), 2) := by decide +kernel
theorem dX1_headerOfLine_19 : decode cX1_headerOfLine 19 = .ok (.ireturn, 1) := by decide +kernel
theorem dX1_pressureOfHeader_0 : decode cX1_pressureOfHeader 0 = .ok (.aload_n 0, 1) := by decide +kernel
theorem dX1_pressureOfHeader_1 : decode cX1_pressureOfHeader 1 = .ok (.iload_n 1, 1) := by decide +kernel
theorem dX1_pressureOfHeader_2 : decode cX1_pressureOfHeader 2 = .ok (.invokevirtual 70, 3) := by decide +kernel
theorem dX1_pressureOfHeader_5 : decode cX1_pressureOfHeader 5 = .ok (.ifCond .eq 12, 3) := by decide +kernel
theorem dX1_pressureOfHeader_8 : decode cX1_pressureOfHeader 8 = .ok (.aload_n 0, 1) := by decide +kernel
theorem dX1_pressureOfHeader_9 : decode cX1_pressureOfHeader 9 = .ok (.getfield 9, 3) := by decide +kernel
theorem dX1_pressureOfHeader_12 : decode cX1_pressureOfHeader 12 = .ok (.iload_n 1, 1) := by decide +kernel
theorem dX1_pressureOfHeader_13 : decode cX1_pressureOfHeader 13 = .ok (.iaload, 1) := by decide +kernel
theorem dX1_pressureOfHeader_14 : decode cX1_pressureOfHeader 14 = .ok (.goto 5, 3) := by decide +kernel
theorem dX1_pressureOfHeader_17 : decode cX1_pressureOfHeader 17 = .ok (.bipush (-2), 2) := by decide +kernel
theorem dX1_pressureOfHeader_19 : decode cX1_pressureOfHeader 19 = .ok (.ireturn, 1) := by decide +kernel
theorem dX1_pressureAt_0 : decode cX1_pressureAt 0 = .ok (.aload_n 0, 1) := by decide +kernel
theorem dX1_pressureAt_1 : decode cX1_pressureAt 1 = .ok (.aload_n 0, 1) := by decide +kernel
theorem dX1_pressureAt_2 : decode cX1_pressureAt 2 = .ok (.aload_n 1, 1) := by decide +kernel
theorem dX1_pressureAt_3 : decode cX1_pressureAt 3 = .ok (.getfield 73, 3) := by decide +kernel
theorem dX1_pressureAt_6 : decode cX1_pressureAt 6 = .ok (.invokevirtual 76, 3) := by decide +kernel
theorem dX1_pressureAt_9 : decode cX1_pressureAt 9 = .ok (.invokevirtual 80, 3) := by decide +kernel
theorem dX1_pressureAt_12 : decode cX1_pressureAt 12 = .ok (.ireturn, 1) := by decide +kernel
theorem dX1_takeReading_0 : decode cX1_takeReading 0 = .ok (.aload_n 0, 1) := by decide +kernel
theorem dX1_takeReading_1 : decode cX1_takeReading 1 = .ok (.iload_n 1, 1) := by decide +kernel
theorem dX1_takeReading_2 : decode cX1_takeReading 2 = .ok (.invokevirtual 83, 3) := by decide +kernel
theorem dX1_takeReading_5 : decode cX1_takeReading 5 = .ok (.astore 5, 2) := by decide +kernel
theorem dX1_takeReading_7 : decode cX1_takeReading 7 = .ok (.aload 5, 2) := by decide +kernel
theorem dX1_takeReading_9 : decode cX1_takeReading 9 = .ok (.ifnull 32, 3) := by decide +kernel
theorem dX1_takeReading_12 : decode cX1_takeReading 12 = .ok (.aload 5, 2) := by decide +kernel
theorem dX1_takeReading_14 : decode cX1_takeReading 14 = .ok (.aload 5, 2) := by decide +kernel
theorem dX1_takeReading_16 : decode cX1_takeReading 16 = .ok (.iload_n 2, 1) := by decide +kernel
theorem dX1_takeReading_17 : decode cX1_takeReading 17 = .ok (.iload_n 3, 1) := by decide +kernel
theorem dX1_takeReading_18 : decode cX1_takeReading 18 = .ok (.iload 4, 2) := by decide +kernel
theorem dX1_takeReading_20 : decode cX1_takeReading 20 = .ok (.aload_n 0, 1) := by decide +kernel
theorem dX1_takeReading_21 : decode cX1_takeReading 21 = .ok (.aload 5, 2) := by decide +kernel
theorem dX1_takeReading_23 : decode cX1_takeReading 23 = .ok (.invokevirtual 87, 3) := by decide +kernel
theorem dX1_takeReading_26 : decode cX1_takeReading 26 = .ok (.invokevirtual 91, 3) := by decide +kernel
theorem dX1_takeReading_29 : decode cX1_takeReading 29 = .ok (.putfield 95, 3) := by decide +kernel
theorem dX1_takeReading_32 : decode cX1_takeReading 32 = .ok (.aload 5, 2) := by decide +kernel
theorem dX1_takeReading_34 : decode cX1_takeReading 34 = .ok (.aload_n 0, 1) := by decide +kernel
theorem dX1_takeReading_35 : decode cX1_takeReading 35 = .ok (.getfield 40, 3) := by decide +kernel
theorem dX1_takeReading_38 : decode cX1_takeReading 38 = .ok (.putfield 98, 3) := by decide +kernel
theorem dX1_takeReading_41 : decode cX1_takeReading 41 = .ok (.return_, 1) := by decide +kernel
theorem dX1_letPass_0 : decode cX1_letPass 0 = .ok (.iconst 0, 1) := by decide +kernel
theorem dX1_letPass_1 : decode cX1_letPass 1 = .ok (.istore_n 2, 1) := by decide +kernel
theorem dX1_letPass_2 : decode cX1_letPass 2 = .ok (.iload_n 2, 1) := by decide +kernel
theorem dX1_letPass_3 : decode cX1_letPass 3 = .ok (.aload_n 0, 1) := by decide +kernel
theorem dX1_letPass_4 : decode cX1_letPass 4 = .ok (.getfield 28, 3) := by decide +kernel
theorem dX1_letPass_7 : decode cX1_letPass 7 = .ok (.if_icmp .ge 43, 3) := by decide +kernel
theorem dX1_letPass_10 : decode cX1_letPass 10 = .ok (.aload_n 0, 1) := by decide +kernel
theorem dX1_letPass_11 : decode cX1_letPass 11 = .ok (.getfield 20, 3) := by decide +kernel
theorem dX1_letPass_14 : decode cX1_letPass 14 = .ok (.iload_n 2, 1) := by decide +kernel
theorem dX1_letPass_15 : decode cX1_letPass 15 = .ok (.aaload, 1) := by decide +kernel
theorem dX1_letPass_16 : decode cX1_letPass 16 = .ok (.dup, 1) := by decide +kernel
theorem dX1_letPass_17 : decode cX1_letPass 17 = .ok (.getfield 101, 3) := by decide +kernel
theorem dX1_letPass_20 : decode cX1_letPass 20 = .ok (.aload_n 0, 1) := by decide +kernel
theorem dX1_letPass_21 : decode cX1_letPass 21 = .ok (.aload_n 0, 1) := by decide +kernel
theorem dX1_letPass_22 : decode cX1_letPass 22 = .ok (.getfield 20, 3) := by decide +kernel
theorem dX1_letPass_25 : decode cX1_letPass 25 = .ok (.iload_n 2, 1) := by decide +kernel
theorem dX1_letPass_26 : decode cX1_letPass 26 = .ok (.aaload, 1) := by decide +kernel
theorem dX1_letPass_27 : decode cX1_letPass 27 = .ok (.invokevirtual 105, 3) := by decide +kernel
theorem dX1_letPass_30 : decode cX1_letPass 30 = .ok (.i2l, 1) := by decide +kernel
theorem dX1_letPass_31 : decode cX1_letPass 31 = .ok (.aload_n 0, 1) := by decide +kernel
theorem dX1_letPass_32 : decode cX1_letPass 32 = .ok (.getfield 31, 3) := by decide +kernel
theorem dX1_letPass_35 : decode cX1_letPass 35 = .ok (.i2l, 1) := by decide +kernel
theorem dX1_letPass_36 : decode cX1_letPass 36 = .ok (.lmul, 1) := by decide +kernel
theorem dX1_letPass_37 : decode cX1_letPass 37 = .ok (.iload_n 1, 1) := by decide +kernel
theorem dX1_letPass_38 : decode cX1_letPass 38 = .ok (.i2l, 1) := by decide +kernel
theorem dX1_letPass_39 : decode cX1_letPass 39 = .ok (.lmul, 1) := by decide +kernel
theorem dX1_letPass_40 : decode cX1_letPass 40 = .ok (.ladd, 1) := by decide +kernel
theorem dX1_letPass_41 : decode cX1_letPass 41 = .ok (.putfield 101, 3) := by decide +kernel
theorem dX1_letPass_44 : decode cX1_letPass 44 = .ok (.iinc 2 1, 3) := by decide +kernel
theorem dX1_letPass_47 : decode cX1_letPass 47 = .ok (.goto (-45), 3) := by decide +kernel
theorem dX1_letPass_50 : decode cX1_letPass 50 = .ok (.aload_n 0, 1) := by decide +kernel
theorem dX1_letPass_51 : decode cX1_letPass 51 = .ok (.dup, 1) := by decide +kernel
theorem dX1_letPass_52 : decode cX1_letPass 52 = .ok (.getfield 40, 3) := by decide +kernel
theorem dX1_letPass_55 : decode cX1_letPass 55 = .ok (.iload_n 1, 1) := by decide +kernel
theorem dX1_letPass_56 : decode cX1_letPass 56 = .ok (.iadd, 1) := by decide +kernel
theorem dX1_letPass_57 : decode cX1_letPass 57 = .ok (.putfield 40, 3) := by decide +kernel
theorem dX1_letPass_60 : decode cX1_letPass 60 = .ok (.return_, 1) := by decide +kernel
theorem dX1_trapsInState_0 : decode cX1_trapsInState 0 = .ok (.iconst 0, 1) := by decide +kernel
theorem dX1_trapsInState_1 : decode cX1_trapsInState 1 = .ok (.istore_n 2, 1) := by decide +kernel
theorem dX1_trapsInState_2 : decode cX1_trapsInState 2 = .ok (.iconst 0, 1) := by decide +kernel
theorem dX1_trapsInState_3 : decode cX1_trapsInState 3 = .ok (.istore_n 3, 1) := by decide +kernel
theorem dX1_trapsInState_4 : decode cX1_trapsInState 4 = .ok (.iload_n 3, 1) := by decide +kernel
theorem dX1_trapsInState_5 : decode cX1_trapsInState 5 = .ok (.aload_n 0, 1) := by decide +kernel
theorem dX1_trapsInState_6 : decode cX1_trapsInState 6 = .ok (.getfield 28, 3) := by decide +kernel
theorem dX1_trapsInState_9 : decode cX1_trapsInState 9 = .ok (.if_icmp .ge 25, 3) := by decide +kernel
theorem dX1_trapsInState_12 : decode cX1_trapsInState 12 = .ok (.aload_n 0, 1) := by decide +kernel
theorem dX1_trapsInState_13 : decode cX1_trapsInState 13 = .ok (.getfield 20, 3) := by decide +kernel
theorem dX1_trapsInState_16 : decode cX1_trapsInState 16 = .ok (.iload_n 3, 1) := by decide +kernel
theorem dX1_trapsInState_17 : decode cX1_trapsInState 17 = .ok (.aaload, 1) := by decide +kernel
theorem dX1_trapsInState_18 : decode cX1_trapsInState 18 = .ok (.getfield 95, 3) := by decide +kernel
theorem dX1_trapsInState_21 : decode cX1_trapsInState 21 = .ok (.iload_n 1, 1) := by decide +kernel
theorem dX1_trapsInState_22 : decode cX1_trapsInState 22 = .ok (.if_icmp .ne 6, 3) := by decide +kernel
theorem dX1_trapsInState_25 : decode cX1_trapsInState 25 = .ok (.iinc 2 1, 3) := by decide +kernel
theorem dX1_trapsInState_28 : decode cX1_trapsInState 28 = .ok (.iinc 3 1, 3) := by decide +kernel
theorem dX1_trapsInState_31 : decode cX1_trapsInState 31 = .ok (.goto (-27), 3) := by decide +kernel
theorem dX1_trapsInState_34 : decode cX1_trapsInState 34 = .ok (.iload_n 2, 1) := by decide +kernel
theorem dX1_trapsInState_35 : decode cX1_trapsInState 35 = .ok (.ireturn, 1) := by decide +kernel
theorem dX1_lossOf_0 : decode cX1_lossOf 0 = .ok (.aload_n 1, 1) := by decide +kernel
theorem dX1_lossOf_1 : decode cX1_lossOf 1 = .ok (.aload_n 0, 1) := by decide +kernel
theorem dX1_lossOf_2 : decode cX1_lossOf 2 = .ok (.aload_n 1, 1) := by decide +kernel
theorem dX1_lossOf_3 : decode cX1_lossOf 3 = .ok (.invokevirtual 87, 3) := by decide +kernel
theorem dX1_lossOf_6 : decode cX1_lossOf 6 = .ok (.invokevirtual 108, 3) := by decide +kernel
theorem dX1_lossOf_9 : decode cX1_lossOf 9 = .ok (.ireturn, 1) := by decide +kernel
theorem dX1_lossOfLine_0 : decode cX1_lossOfLine 0 = .ok (.iconst 0, 1) := by decide +kernel
theorem dX1_lossOfLine_1 : decode cX1_lossOfLine 1 = .ok (.istore_n 2, 1) := by decide +kernel
theorem dX1_lossOfLine_2 : decode cX1_lossOfLine 2 = .ok (.iconst 0, 1) := by decide +kernel
theorem dX1_lossOfLine_3 : decode cX1_lossOfLine 3 = .ok (.istore_n 3, 1) := by decide +kernel
theorem dX1_lossOfLine_4 : decode cX1_lossOfLine 4 = .ok (.iload_n 3, 1) := by decide +kernel
theorem dX1_lossOfLine_5 : decode cX1_lossOfLine 5 = .ok (.aload_n 0, 1) := by decide +kernel
theorem dX1_lossOfLine_6 : decode cX1_lossOfLine 6 = .ok (.getfield 28, 3) := by decide +kernel
theorem dX1_lossOfLine_9 : decode cX1_lossOfLine 9 = .ok (.if_icmp .ge 35, 3) := by decide +kernel
theorem dX1_lossOfLine_12 : decode cX1_lossOfLine 12 = .ok (.aload_n 0, 1) := by decide +kernel
theorem dX1_lossOfLine_13 : decode cX1_lossOfLine 13 = .ok (.getfield 20, 3) := by decide +kernel
theorem dX1_lossOfLine_16 : decode cX1_lossOfLine 16 = .ok (.iload_n 3, 1) := by decide +kernel
theorem dX1_lossOfLine_17 : decode cX1_lossOfLine 17 = .ok (.aaload, 1) := by decide +kernel
theorem dX1_lossOfLine_18 : decode cX1_lossOfLine 18 = .ok (.getfield 73, 3) := by decide +kernel
theorem dX1_lossOfLine_21 : decode cX1_lossOfLine 21 = .ok (.iload_n 1, 1) := by decide +kernel
theorem dX1_lossOfLine_22 : decode cX1_lossOfLine 22 = .ok (.if_icmp .ne 16, 3) := by decide +kernel
theorem dX1_lossOfLine_25 : decode cX1_lossOfLine 25 = .ok (.iload_n 2, 1) := by decide +kernel
theorem dX1_lossOfLine_26 : decode cX1_lossOfLine 26 = .ok (.aload_n 0, 1) := by decide +kernel
theorem dX1_lossOfLine_27 : decode cX1_lossOfLine 27 = .ok (.aload_n 0, 1) := by decide +kernel
theorem dX1_lossOfLine_28 : decode cX1_lossOfLine 28 = .ok (.getfield 20, 3) := by decide +kernel
theorem dX1_lossOfLine_31 : decode cX1_lossOfLine 31 = .ok (.iload_n 3, 1) := by decide +kernel
theorem dX1_lossOfLine_32 : decode cX1_lossOfLine 32 = .ok (.aaload, 1) := by decide +kernel
theorem dX1_lossOfLine_33 : decode cX1_lossOfLine 33 = .ok (.invokevirtual 105, 3) := by decide +kernel
theorem dX1_lossOfLine_36 : decode cX1_lossOfLine 36 = .ok (.iadd, 1) := by decide +kernel
theorem dX1_lossOfLine_37 : decode cX1_lossOfLine 37 = .ok (.istore_n 2, 1) := by decide +kernel
theorem dX1_lossOfLine_38 : decode cX1_lossOfLine 38 = .ok (.iinc 3 1, 3) := by decide +kernel
theorem dX1_lossOfLine_41 : decode cX1_lossOfLine 41 = .ok (.goto (-37), 3) := by decide +kernel
theorem dX1_lossOfLine_44 : decode cX1_lossOfLine 44 = .ok (.iload_n 2, 1) := by decide +kernel
theorem dX1_lossOfLine_45 : decode cX1_lossOfLine 45 = .ok (.ireturn, 1) := by decide +kernel
theorem dX1_lossOfHeader_0 : decode cX1_lossOfHeader 0 = .ok (.iconst 0, 1) := by decide +kernel
theorem dX1_lossOfHeader_1 : decode cX1_lossOfHeader 1 = .ok (.istore_n 2, 1) := by decide +kernel
theorem dX1_lossOfHeader_2 : decode cX1_lossOfHeader 2 = .ok (.iconst 0, 1) := by decide +kernel
theorem dX1_lossOfHeader_3 : decode cX1_lossOfHeader 3 = .ok (.istore_n 3, 1) := by decide +kernel
theorem dX1_lossOfHeader_4 : decode cX1_lossOfHeader 4 = .ok (.iload_n 3, 1) := by decide +kernel
theorem dX1_lossOfHeader_5 : decode cX1_lossOfHeader 5 = .ok (.aload_n 0, 1) := by decide +kernel
theorem dX1_lossOfHeader_6 : decode cX1_lossOfHeader 6 = .ok (.getfield 28, 3) := by decide +kernel
theorem dX1_lossOfHeader_9 : decode cX1_lossOfHeader 9 = .ok (.if_icmp .ge 39, 3) := by decide +kernel
theorem dX1_lossOfHeader_12 : decode cX1_lossOfHeader 12 = .ok (.aload_n 0, 1) := by decide +kernel
theorem dX1_lossOfHeader_13 : decode cX1_lossOfHeader 13 = .ok (.aload_n 0, 1) := by decide +kernel
theorem dX1_lossOfHeader_14 : decode cX1_lossOfHeader 14 = .ok (.getfield 20, 3) := by decide +kernel
theorem dX1_lossOfHeader_17 : decode cX1_lossOfHeader 17 = .ok (.iload_n 3, 1) := by decide +kernel
theorem dX1_lossOfHeader_18 : decode cX1_lossOfHeader 18 = .ok (.aaload, 1) := by decide +kernel
theorem dX1_lossOfHeader_19 : decode cX1_lossOfHeader 19 = .ok (.getfield 73, 3) := by decide +kernel
theorem dX1_lossOfHeader_22 : decode cX1_lossOfHeader 22 = .ok (.invokevirtual 76, 3) := by decide +kernel
theorem dX1_lossOfHeader_25 : decode cX1_lossOfHeader 25 = .ok (.iload_n 1, 1) := by decide +kernel
theorem dX1_lossOfHeader_26 : decode cX1_lossOfHeader 26 = .ok (.if_icmp .ne 16, 3) := by decide +kernel
theorem dX1_lossOfHeader_29 : decode cX1_lossOfHeader 29 = .ok (.iload_n 2, 1) := by decide +kernel
theorem dX1_lossOfHeader_30 : decode cX1_lossOfHeader 30 = .ok (.aload_n 0, 1) := by decide +kernel
theorem dX1_lossOfHeader_31 : decode cX1_lossOfHeader 31 = .ok (.aload_n 0, 1) := by decide +kernel
theorem dX1_lossOfHeader_32 : decode cX1_lossOfHeader 32 = .ok (.getfield 20, 3) := by decide +kernel
theorem dX1_lossOfHeader_35 : decode cX1_lossOfHeader 35 = .ok (.iload_n 3, 1) := by decide +kernel
theorem dX1_lossOfHeader_36 : decode cX1_lossOfHeader 36 = .ok (.aaload, 1) := by decide +kernel
theorem dX1_lossOfHeader_37 : decode cX1_lossOfHeader 37 = .ok (.invokevirtual 105, 3) := by decide +kernel
theorem dX1_lossOfHeader_40 : decode cX1_lossOfHeader 40 = .ok (.iadd, 1) := by decide +kernel
theorem dX1_lossOfHeader_41 : decode cX1_lossOfHeader 41 = .ok (.istore_n 2, 1) := by decide +kernel
theorem dX1_lossOfHeader_42 : decode cX1_lossOfHeader 42 = .ok (.iinc 3 1, 3) := by decide +kernel
theorem dX1_lossOfHeader_45 : decode cX1_lossOfHeader 45 = .ok (.goto (-41), 3) := by decide +kernel
theorem dX1_lossOfHeader_48 : decode cX1_lossOfHeader 48 = .ok (.iload_n 2, 1) := by decide +kernel
theorem dX1_lossOfHeader_49 : decode cX1_lossOfHeader 49 = .ok (.ireturn, 1) := by decide +kernel
theorem dX1_lostByAll_0 : decode cX1_lostByAll 0 = .ok (.lconst 0, 1) := by decide +kernel
theorem dX1_lostByAll_1 : decode cX1_lostByAll 1 = .ok (.lstore_n 1, 1) := by decide +kernel
theorem dX1_lostByAll_2 : decode cX1_lostByAll 2 = .ok (.iconst 0, 1) := by decide +kernel
theorem dX1_lostByAll_3 : decode cX1_lostByAll 3 = .ok (.istore_n 3, 1) := by decide +kernel
theorem dX1_lostByAll_4 : decode cX1_lostByAll 4 = .ok (.iload_n 3, 1) := by decide +kernel
theorem dX1_lostByAll_5 : decode cX1_lostByAll 5 = .ok (.aload_n 0, 1) := by decide +kernel
theorem dX1_lostByAll_6 : decode cX1_lostByAll 6 = .ok (.getfield 28, 3) := by decide +kernel
theorem dX1_lostByAll_9 : decode cX1_lostByAll 9 = .ok (.if_icmp .ge 21, 3) := by decide +kernel
theorem dX1_lostByAll_12 : decode cX1_lostByAll 12 = .ok (.lload_n 1, 1) := by decide +kernel
theorem dX1_lostByAll_13 : decode cX1_lostByAll 13 = .ok (.aload_n 0, 1) := by decide +kernel
theorem dX1_lostByAll_14 : decode cX1_lostByAll 14 = .ok (.getfield 20, 3) := by decide +kernel
theorem dX1_lostByAll_17 : decode cX1_lostByAll 17 = .ok (.iload_n 3, 1) := by decide +kernel
theorem dX1_lostByAll_18 : decode cX1_lostByAll 18 = .ok (.aaload, 1) := by decide +kernel
theorem dX1_lostByAll_19 : decode cX1_lostByAll 19 = .ok (.getfield 101, 3) := by decide +kernel
theorem dX1_lostByAll_22 : decode cX1_lostByAll 22 = .ok (.ladd, 1) := by decide +kernel
theorem dX1_lostByAll_23 : decode cX1_lostByAll 23 = .ok (.lstore_n 1, 1) := by decide +kernel
theorem dX1_lostByAll_24 : decode cX1_lostByAll 24 = .ok (.iinc 3 1, 3) := by decide +kernel
theorem dX1_lostByAll_27 : decode cX1_lostByAll 27 = .ok (.goto (-23), 3) := by decide +kernel
theorem dX1_lostByAll_30 : decode cX1_lostByAll 30 = .ok (.lload_n 1, 1) := by decide +kernel
theorem dX1_lostByAll_31 : decode cX1_lostByAll 31 = .ok (.lreturn, 1) := by decide +kernel
theorem dX1_priceADay_0 : decode cX1_priceADay 0 = .ok (.iload_n 1, 1) := by decide +kernel
theorem dX1_priceADay_1 : decode cX1_priceADay 1 = .ok (.i2l, 1) := by decide +kernel
theorem dX1_priceADay_2 : decode cX1_priceADay 2 = .ok (.aload_n 0, 1) := by decide +kernel
theorem dX1_priceADay_3 : decode cX1_priceADay 3 = .ok (.getfield 31, 3) := by decide +kernel
theorem dX1_priceADay_6 : decode cX1_priceADay 6 = .ok (.i2l, 1) := by decide +kernel
theorem dX1_priceADay_7 : decode cX1_priceADay 7 = .ok (.lmul, 1) := by decide +kernel
theorem dX1_priceADay_8 : decode cX1_priceADay 8 = .ok (.aload_n 0, 1) := by decide +kernel
theorem dX1_priceADay_9 : decode cX1_priceADay 9 = .ok (.getfield 34, 3) := by decide +kernel
theorem dX1_priceADay_12 : decode cX1_priceADay 12 = .ok (.i2l, 1) := by decide +kernel
theorem dX1_priceADay_13 : decode cX1_priceADay 13 = .ok (.lmul, 1) := by decide +kernel
theorem dX1_priceADay_14 : decode cX1_priceADay 14 = .ok (.lreturn, 1) := by decide +kernel
theorem dX1_paybackOf_0 : decode cX1_paybackOf 0 = .ok (.aload_n 0, 1) := by decide +kernel
theorem dX1_paybackOf_1 : decode cX1_paybackOf 1 = .ok (.aload_n 0, 1) := by decide +kernel
theorem dX1_paybackOf_2 : decode cX1_paybackOf 2 = .ok (.aload_n 1, 1) := by decide +kernel
theorem dX1_paybackOf_3 : decode cX1_paybackOf 3 = .ok (.invokevirtual 105, 3) := by decide +kernel
theorem dX1_paybackOf_6 : decode cX1_paybackOf 6 = .ok (.invokevirtual 111, 3) := by decide +kernel
theorem dX1_paybackOf_9 : decode cX1_paybackOf 9 = .ok (.lstore_n 2, 1) := by decide +kernel
theorem dX1_paybackOf_10 : decode cX1_paybackOf 10 = .ok (.lload_n 2, 1) := by decide +kernel
theorem dX1_paybackOf_11 : decode cX1_paybackOf 11 = .ok (.lconst 0, 1) := by decide +kernel
theorem dX1_paybackOf_12 : decode cX1_paybackOf 12 = .ok (.lcmp, 1) := by decide +kernel
theorem dX1_paybackOf_13 : decode cX1_paybackOf 13 = .ok (.ifCond .gt 7, 3) := by decide +kernel
theorem dX1_paybackOf_16 : decode cX1_paybackOf 16 = .ok (.ldc2_w 115, 3) := by decide +kernel
theorem dX1_paybackOf_19 : decode cX1_paybackOf 19 = .ok (.lreturn, 1) := by decide +kernel
theorem dX1_paybackOf_20 : decode cX1_paybackOf 20 = .ok (.ldc2_w 117, 3) := by decide +kernel
theorem dX1_paybackOf_23 : decode cX1_paybackOf 23 = .ok (.aload_n 1, 1) := by decide +kernel
theorem dX1_paybackOf_24 : decode cX1_paybackOf 24 = .ok (.invokevirtual 119, 3) := by decide +kernel
theorem dX1_paybackOf_27 : decode cX1_paybackOf 27 = .ok (.i2l, 1) := by decide +kernel
theorem dX1_paybackOf_28 : decode cX1_paybackOf 28 = .ok (.lmul, 1) := by decide +kernel
theorem dX1_paybackOf_29 : decode cX1_paybackOf 29 = .ok (.lload_n 2, 1) := by decide +kernel
theorem dX1_paybackOf_30 : decode cX1_paybackOf 30 = .ok (.ladd, 1) := by decide +kernel
theorem dX1_paybackOf_31 : decode cX1_paybackOf 31 = .ok (.lconst 1, 1) := by decide +kernel
theorem dX1_paybackOf_32 : decode cX1_paybackOf 32 = .ok (.lsub, 1) := by decide +kernel
theorem dX1_paybackOf_33 : decode cX1_paybackOf 33 = .ok (.lload_n 2, 1) := by decide +kernel
theorem dX1_paybackOf_34 : decode cX1_paybackOf 34 = .ok (.ldiv, 1) := by decide +kernel
theorem dX1_paybackOf_35 : decode cX1_paybackOf 35 = .ok (.lreturn, 1) := by decide +kernel
theorem dX1_mend_0 : decode cX1_mend 0 = .ok (.aload_n 1, 1) := by decide +kernel
theorem dX1_mend_1 : decode cX1_mend 1 = .ok (.iconst 1, 1) := by decide +kernel
theorem dX1_mend_2 : decode cX1_mend 2 = .ok (.putfield 95, 3) := by decide +kernel
theorem dX1_mend_5 : decode cX1_mend 5 = .ok (.aload_n 0, 1) := by decide +kernel
theorem dX1_mend_6 : decode cX1_mend 6 = .ok (.dup, 1) := by decide +kernel
theorem dX1_mend_7 : decode cX1_mend 7 = .ok (.getfield 43, 3) := by decide +kernel
theorem dX1_mend_10 : decode cX1_mend 10 = .ok (.aload_n 1, 1) := by decide +kernel
theorem dX1_mend_11 : decode cX1_mend 11 = .ok (.invokevirtual 119, 3) := by decide +kernel
theorem dX1_mend_14 : decode cX1_mend 14 = .ok (.iadd, 1) := by decide +kernel
theorem dX1_mend_15 : decode cX1_mend 15 = .ok (.putfield 43, 3) := by decide +kernel
theorem dX1_mend_18 : decode cX1_mend 18 = .ok (.aload_n 0, 1) := by decide +kernel
theorem dX1_mend_19 : decode cX1_mend 19 = .ok (.dup, 1) := by decide +kernel
theorem dX1_mend_20 : decode cX1_mend 20 = .ok (.getfield 46, 3) := by decide +kernel
theorem dX1_mend_23 : decode cX1_mend 23 = .ok (.iconst 1, 1) := by decide +kernel
theorem dX1_mend_24 : decode cX1_mend 24 = .ok (.iadd, 1) := by decide +kernel
theorem dX1_mend_25 : decode cX1_mend 25 = .ok (.putfield 46, 3) := by decide +kernel
theorem dX1_mend_28 : decode cX1_mend 28 = .ok (.return_, 1) := by decide +kernel
theorem dX1_needsVisit_0 : decode cX1_needsVisit 0 = .ok (.aload_n 1, 1) := by decide +kernel
theorem dX1_needsVisit_1 : decode cX1_needsVisit 1 = .ok (.getfield 98, 3) := by decide +kernel
theorem dX1_needsVisit_4 : decode cX1_needsVisit 4 = .ok (.iconst (-1), 1) := by decide +kernel
theorem dX1_needsVisit_5 : decode cX1_needsVisit 5 = .ok (.if_icmp .eq 27, 3) := by decide +kernel
theorem dX1_needsVisit_8 : decode cX1_needsVisit 8 = .ok (.aload_n 1, 1) := by decide +kernel
theorem dX1_needsVisit_9 : decode cX1_needsVisit 9 = .ok (.getfield 95, 3) := by decide +kernel
theorem dX1_needsVisit_12 : decode cX1_needsVisit 12 = .ok (.iconst 1, 1) := by decide +kernel
theorem dX1_needsVisit_13 : decode cX1_needsVisit 13 = .ok (.if_icmp .ne 19, 3) := by decide +kernel
theorem dX1_needsVisit_16 : decode cX1_needsVisit 16 = .ok (.aload_n 0, 1) := by decide +kernel
theorem dX1_needsVisit_17 : decode cX1_needsVisit 17 = .ok (.getfield 40, 3) := by decide +kernel
theorem dX1_needsVisit_20 : decode cX1_needsVisit 20 = .ok (.aload_n 1, 1) := by decide +kernel
theorem dX1_needsVisit_21 : decode cX1_needsVisit 21 = .ok (.getfield 98, 3) := by decide +kernel
theorem dX1_needsVisit_24 : decode cX1_needsVisit 24 = .ok (.isub, 1) := by decide +kernel
theorem dX1_needsVisit_25 : decode cX1_needsVisit 25 = .ok (.aload_n 0, 1) := by decide +kernel
theorem dX1_needsVisit_26 : decode cX1_needsVisit 26 = .ok (.getfield 37, 3) := by decide +kernel
theorem dX1_needsVisit_29 : decode cX1_needsVisit 29 = .ok (.if_icmp .lt 7, 3) := by decide +kernel
theorem dX1_needsVisit_32 : decode cX1_needsVisit 32 = .ok (.iconst 1, 1) := by decide +kernel
theorem dX1_needsVisit_33 : decode cX1_needsVisit 33 = .ok (.goto 4, 3) := by decide +kernel
theorem dX1_needsVisit_36 : decode cX1_needsVisit 36 = .ok (.iconst 0, 1) := by decide +kernel
theorem dX1_needsVisit_37 : decode cX1_needsVisit 37 = .ok (.ireturn, 1) := by decide +kernel
theorem dX2_init_0 : decode cX2_init 0 = .ok (.aload_n 0, 1) := by decide +kernel
theorem dX2_init_1 : decode cX2_init 1 = .ok (.invokespecial 3, 3) := by decide +kernel
theorem dX2_init_4 : decode cX2_init 4 = .ok (.aload_n 0, 1) := by decide +kernel
theorem dX2_init_5 : decode cX2_init 5 = .ok (.bipush 100, 2) := by decide +kernel
theorem dX2_init_7 : decode cX2_init 7 = .ok (.newarray .int, 2) := by decide +kernel
theorem dX2_init_9 : decode cX2_init 9 = .ok (.putfield 9, 3) := by decide +kernel
theorem dX2_init_12 : decode cX2_init 12 = .ok (.aload_n 0, 1) := by decide +kernel
theorem dX2_init_13 : decode cX2_init 13 = .ok (.bipush 20, 2) := by decide +kernel
theorem dX2_init_15 : decode cX2_init 15 = .ok (.iconst 4, 1) := by decide +kernel
theorem dX2_init_16 : decode cX2_init 16 = .ok (.multianewarray 15 2, 4) := by decide +kernel
theorem dX2_init_20 : decode cX2_init 20 = .ok (.putfield 17, 3) := by decide +kernel
theorem dX2_init_23 : decode cX2_init 23 = .ok (.aload_n 0, 1) := by decide +kernel
theorem dX2_init_24 : decode cX2_init 24 = .ok (.iconst 0, 1) := by decide +kernel
theorem dX2_init_25 : decode cX2_init 25 = .ok (.putfield 20, 3) := by decide +kernel
theorem dX2_init_28 : decode cX2_init 28 = .ok (.aload_n 0, 1) := by decide +kernel
theorem dX2_init_29 : decode cX2_init 29 = .ok (.iconst 0, 1) := by decide +kernel
theorem dX2_init_30 : decode cX2_init 30 = .ok (.putfield 24, 3) := by decide +kernel
theorem dX2_init_33 : decode cX2_init 33 = .ok (.aload_n 0, 1) := by decide +kernel
theorem dX2_init_34 : decode cX2_init 34 = .ok (.iconst 0, 1) := by decide +kernel
theorem dX2_init_35 : decode cX2_init 35 = .ok (.putfield 27, 3) := by decide +kernel
theorem dX2_init_38 : decode cX2_init 38 = .ok (.return_, 1) := by decide +kernel
theorem dX2_faultFor_0 : decode cX2_faultFor 0 = .ok (.aload_n 0, 1) := by decide +kernel
theorem dX2_faultFor_1 : decode cX2_faultFor 1 = .ok (.iload_n 1, 1) := by decide +kernel
theorem dX2_faultFor_2 : decode cX2_faultFor 2 = .ok (.invokevirtual 30, 3) := by decide +kernel
theorem dX2_faultFor_5 : decode cX2_faultFor 5 = .ok (.ifCond .eq 7, 3) := by decide +kernel
theorem dX2_faultFor_8 : decode cX2_faultFor 8 = .ok (.iconst (-1), 1) := by decide +kernel
theorem dX2_faultFor_9 : decode cX2_faultFor 9 = .ok (.goto 7, 3) := by decide +kernel
theorem dX2_faultFor_12 : decode cX2_faultFor 12 = .ok (.aload_n 0, 1) := by decide +kernel
theorem dX2_faultFor_13 : decode cX2_faultFor 13 = .ok (.getfield 27, 3) := by decide +kernel
theorem dX2_faultFor_16 : decode cX2_faultFor 16 = .ok (.ireturn, 1) := by decide +kernel
theorem dX2_scanList_0 : decode cX2_scanList 0 = .ok (.aload_n 0, 1) := by decide +kernel
theorem dX2_scanList_1 : decode cX2_scanList 1 = .ok (.iconst 0, 1) := by decide +kernel
theorem dX2_scanList_2 : decode cX2_scanList 2 = .ok (.putfield 27, 3) := by decide +kernel
theorem dX2_scanList_5 : decode cX2_scanList 5 = .ok (.aload_n 0, 1) := by decide +kernel
theorem dX2_scanList_6 : decode cX2_scanList 6 = .ok (.iconst 0, 1) := by decide +kernel
theorem dX2_scanList_7 : decode cX2_scanList 7 = .ok (.putfield 24, 3) := by decide +kernel
theorem dX2_scanList_10 : decode cX2_scanList 10 = .ok (.iconst 1, 1) := by decide +kernel
theorem dX2_scanList_11 : decode cX2_scanList 11 = .ok (.istore_n 2, 1) := by decide +kernel
theorem dX2_scanList_12 : decode cX2_scanList 12 = .ok (.iload_n 2, 1) := by decide +kernel
theorem dX2_scanList_13 : decode cX2_scanList 13 = .ok (.ifCond .eq 51, 3) := by decide +kernel
theorem dX2_scanList_16 : decode cX2_scanList 16 = .ok (.aload_n 0, 1) := by decide +kernel
theorem dX2_scanList_17 : decode cX2_scanList 17 = .ok (.getfield 24, 3) := by decide +kernel
theorem dX2_scanList_20 : decode cX2_scanList 20 = .ok (.bipush 20, 2) := by decide +kernel
theorem dX2_scanList_22 : decode cX2_scanList 22 = .ok (.if_icmp .ge 42, 3) := by decide +kernel
theorem dX2_scanList_25 : decode cX2_scanList 25 = .ok (.aload_n 0, 1) := by decide +kernel
theorem dX2_scanList_26 : decode cX2_scanList 26 = .ok (.aload_n 0, 1) := by decide +kernel
theorem dX2_scanList_27 : decode cX2_scanList 27 = .ok (.getfield 17, 3) := by decide +kernel
theorem dX2_scanList_30 : decode cX2_scanList 30 = .ok (.aload_n 0, 1) := by decide +kernel
theorem dX2_scanList_31 : decode cX2_scanList 31 = .ok (.getfield 24, 3) := by decide +kernel
theorem dX2_scanList_34 : decode cX2_scanList 34 = .ok (.aaload, 1) := by decide +kernel
theorem dX2_scanList_35 : decode cX2_scanList 35 = .ok (.iload_n 1, 1) := by decide +kernel
theorem dX2_scanList_36 : decode cX2_scanList 36 = .ok (.invokevirtual 34, 3) := by decide +kernel
theorem dX2_scanList_39 : decode cX2_scanList 39 = .ok (.ifCond .ne 5, 3) := by decide +kernel
theorem dX2_scanList_42 : decode cX2_scanList 42 = .ok (.iconst 0, 1) := by decide +kernel
theorem dX2_scanList_43 : decode cX2_scanList 43 = .ok (.ireturn, 1) := by decide +kernel
theorem dX2_scanList_44 : decode cX2_scanList 44 = .ok (.aload_n 0, 1) := by decide +kernel
theorem dX2_scanList_45 : decode cX2_scanList 45 = .ok (.dup, 1) := by decide +kernel
theorem dX2_scanList_46 : decode cX2_scanList 46 = .ok (.getfield 24, 3) := by decide +kernel
theorem dX2_scanList_49 : decode cX2_scanList 49 = .ok (.iconst 1, 1) := by decide +kernel
theorem dX2_scanList_50 : decode cX2_scanList 50 = .ok (.iadd, 1) := by decide +kernel
theorem dX2_scanList_51 : decode cX2_scanList 51 = .ok (.putfield 24, 3) := by decide +kernel
theorem dX2_scanList_54 : decode cX2_scanList 54 = .ok (.aload_n 0, 1) := by decide +kernel
theorem dX2_scanList_55 : decode cX2_scanList 55 = .ok (.bipush 59, 2) := by decide +kernel
theorem dX2_scanList_57 : decode cX2_scanList 57 = .ok (.invokevirtual 38, 3) := by decide +kernel
theorem dX2_scanList_60 : decode cX2_scanList 60 = .ok (.istore_n 2, 1) := by decide +kernel
theorem dX2_scanList_61 : decode cX2_scanList 61 = .ok (.goto (-49), 3) := by decide +kernel
theorem dX2_scanList_64 : decode cX2_scanList 64 = .ok (.aload_n 0, 1) := by decide +kernel
theorem dX2_scanList_65 : decode cX2_scanList 65 = .ok (.getfield 27, 3) := by decide +kernel
theorem dX2_scanList_68 : decode cX2_scanList 68 = .ok (.aload_n 0, 1) := by decide +kernel
theorem dX2_scanList_69 : decode cX2_scanList 69 = .ok (.getfield 20, 3) := by decide +kernel
theorem dX2_scanList_72 : decode cX2_scanList 72 = .ok (.if_icmp .lt 7, 3) := by decide +kernel
theorem dX2_scanList_75 : decode cX2_scanList 75 = .ok (.iconst 1, 1) := by decide +kernel
theorem dX2_scanList_76 : decode cX2_scanList 76 = .ok (.goto 4, 3) := by decide +kernel
theorem dX2_scanList_79 : decode cX2_scanList 79 = .ok (.iconst 0, 1) := by decide +kernel
theorem dX2_scanList_80 : decode cX2_scanList 80 = .ok (.ireturn, 1) := by decide +kernel
theorem dX2_scanReading_0 : decode cX2_scanReading 0 = .ok (.aload_n 1, 1) := by decide +kernel
theorem dX2_scanReading_1 : decode cX2_scanReading 1 = .ok (.iconst 3, 1) := by decide +kernel
theorem dX2_scanReading_2 : decode cX2_scanReading 2 = .ok (.iconst 0, 1) := by decide +kernel
theorem dX2_scanReading_3 : decode cX2_scanReading 3 = .ok (.iastore, 1) := by decide +kernel
theorem dX2_scanReading_4 : decode cX2_scanReading 4 = .ok (.aload_n 0, 1) := by decide +kernel
theorem dX2_scanReading_5 : decode cX2_scanReading 5 = .ok (.aload_n 1, 1) := by decide +kernel
theorem dX2_scanReading_6 : decode cX2_scanReading 6 = .ok (.iconst 0, 1) := by decide +kernel
theorem dX2_scanReading_7 : decode cX2_scanReading 7 = .ok (.iload_n 2, 1) := by decide +kernel
theorem dX2_scanReading_8 : decode cX2_scanReading 8 = .ok (.iconst 1, 1) := by decide +kernel
theorem dX2_scanReading_9 : decode cX2_scanReading 9 = .ok (.isub, 1) := by decide +kernel
theorem dX2_scanReading_10 : decode cX2_scanReading 10 = .ok (.invokevirtual 42, 3) := by decide +kernel
theorem dX2_scanReading_13 : decode cX2_scanReading 13 = .ok (.ifCond .eq 69, 3) := by decide +kernel
theorem dX2_scanReading_16 : decode cX2_scanReading 16 = .ok (.aload_n 0, 1) := by decide +kernel
theorem dX2_scanReading_17 : decode cX2_scanReading 17 = .ok (.bipush 58, 2) := by decide +kernel
theorem dX2_scanReading_19 : decode cX2_scanReading 19 = .ok (.invokevirtual 38, 3) := by decide +kernel
theorem dX2_scanReading_22 : decode cX2_scanReading 22 = .ok (.ifCond .eq 60, 3) := by decide +kernel
theorem dX2_scanReading_25 : decode cX2_scanReading 25 = .ok (.aload_n 0, 1) := by decide +kernel
theorem dX2_scanReading_26 : decode cX2_scanReading 26 = .ok (.aload_n 1, 1) := by decide +kernel
theorem dX2_scanReading_27 : decode cX2_scanReading 27 = .ok (.iconst 1, 1) := by decide +kernel
theorem dX2_scanReading_28 : decode cX2_scanReading 28 = .ok (.sipush 300, 3) := by decide +kernel
theorem dX2_scanReading_31 : decode cX2_scanReading 31 = .ok (.invokevirtual 42, 3) := by decide +kernel
theorem dX2_scanReading_34 : decode cX2_scanReading 34 = .ok (.ifCond .eq 48, 3) := by decide +kernel
theorem dX2_scanReading_37 : decode cX2_scanReading 37 = .ok (.aload_n 0, 1) := by decide +kernel
theorem dX2_scanReading_38 : decode cX2_scanReading 38 = .ok (.bipush 47, 2) := by decide +kernel
theorem dX2_scanReading_40 : decode cX2_scanReading 40 = .ok (.invokevirtual 38, 3) := by decide +kernel
theorem dX2_scanReading_43 : decode cX2_scanReading 43 = .ok (.ifCond .eq 39, 3) := by decide +kernel
theorem dX2_scanReading_46 : decode cX2_scanReading 46 = .ok (.aload_n 0, 1) := by decide +kernel
theorem dX2_scanReading_47 : decode cX2_scanReading 47 = .ok (.aload_n 1, 1) := by decide +kernel
theorem dX2_scanReading_48 : decode cX2_scanReading 48 = .ok (.iconst 2, 1) := by decide +kernel
theorem dX2_scanReading_49 : decode cX2_scanReading 49 = .ok (.sipush 300, 3) := by decide +kernel
theorem dX2_scanReading_52 : decode cX2_scanReading 52 = .ok (.invokevirtual 42, 3) := by decide +kernel
theorem dX2_scanReading_55 : decode cX2_scanReading 55 = .ok (.ifCond .eq 27, 3) := by decide +kernel
theorem dX2_scanReading_58 : decode cX2_scanReading 58 = .ok (.aload_n 0, 1) := by decide +kernel
theorem dX2_scanReading_59 : decode cX2_scanReading 59 = .ok (.bipush 64, 2) := by decide +kernel
theorem dX2_scanReading_61 : decode cX2_scanReading 61 = .ok (.invokevirtual 38, 3) := by decide +kernel
theorem dX2_scanReading_64 : decode cX2_scanReading 64 = .ok (.ifCond .eq 14, 3) := by decide +kernel
theorem dX2_scanReading_67 : decode cX2_scanReading 67 = .ok (.aload_n 0, 1) := by decide +kernel
theorem dX2_scanReading_68 : decode cX2_scanReading 68 = .ok (.aload_n 1, 1) := by decide +kernel
theorem dX2_scanReading_69 : decode cX2_scanReading 69 = .ok (.iconst 3, 1) := by decide +kernel
theorem dX2_scanReading_70 : decode cX2_scanReading 70 = .ok (.bipush 60, 2) := by decide +kernel
theorem dX2_scanReading_72 : decode cX2_scanReading 72 = .ok (.invokevirtual 42, 3) := by decide +kernel
theorem dX2_scanReading_75 : decode cX2_scanReading 75 = .ok (.ifCond .eq 7, 3) := by decide +kernel
theorem dX2_scanReading_78 : decode cX2_scanReading 78 = .ok (.iconst 1, 1) := by decide +kernel
theorem dX2_scanReading_79 : decode cX2_scanReading 79 = .ok (.goto 4, 3) := by decide +kernel
theorem dX2_scanReading_82 : decode cX2_scanReading 82 = .ok (.iconst 0, 1) := by decide +kernel
theorem dX2_scanReading_83 : decode cX2_scanReading 83 = .ok (.ireturn, 1) := by decide +kernel
theorem dX2_scanSign_0 : decode cX2_scanSign 0 = .ok (.aload_n 0, 1) := by decide +kernel
theorem dX2_scanSign_1 : decode cX2_scanSign 1 = .ok (.invokevirtual 46, 3) := by decide +kernel
theorem dX2_scanSign_4 : decode cX2_scanSign 4 = .ok (.aload_n 0, 1) := by decide +kernel
theorem dX2_scanSign_5 : decode cX2_scanSign 5 = .ok (.getfield 27, 3) := by decide +kernel
theorem dX2_scanSign_8 : decode cX2_scanSign 8 = .ok (.aload_n 0, 1) := by decide +kernel
theorem dX2_scanSign_9 : decode cX2_scanSign 9 = .ok (.getfield 20, 3) := by decide +kernel
theorem dX2_scanSign_12 : decode cX2_scanSign 12 = .ok (.if_icmp .ge 28, 3) := by decide +kernel
theorem dX2_scanSign_15 : decode cX2_scanSign 15 = .ok (.aload_n 0, 1) := by decide +kernel
theorem dX2_scanSign_16 : decode cX2_scanSign 16 = .ok (.getfield 9, 3) := by decide +kernel
theorem dX2_scanSign_19 : decode cX2_scanSign 19 = .ok (.aload_n 0, 1) := by decide +kernel
theorem dX2_scanSign_20 : decode cX2_scanSign 20 = .ok (.getfield 27, 3) := by decide +kernel
theorem dX2_scanSign_23 : decode cX2_scanSign 23 = .ok (.iaload, 1) := by decide +kernel
theorem dX2_scanSign_24 : decode cX2_scanSign 24 = .ok (.iload_n 1, 1) := by decide +kernel
theorem dX2_scanSign_25 : decode cX2_scanSign 25 = .ok (.if_icmp .ne 15, 3) := by decide +kernel
theorem dX2_scanSign_28 : decode cX2_scanSign 28 = .ok (.aload_n 0, 1) := by decide +kernel
theorem dX2_scanSign_29 : decode cX2_scanSign 29 = .ok (.dup, 1) := by decide +kernel
theorem dX2_scanSign_30 : decode cX2_scanSign 30 = .ok (.getfield 27, 3) := by decide +kernel
theorem dX2_scanSign_33 : decode cX2_scanSign 33 = .ok (.iconst 1, 1) := by decide +kernel
theorem dX2_scanSign_34 : decode cX2_scanSign 34 = .ok (.iadd, 1) := by decide +kernel
theorem dX2_scanSign_35 : decode cX2_scanSign 35 = .ok (.putfield 27, 3) := by decide +kernel
theorem dX2_scanSign_38 : decode cX2_scanSign 38 = .ok (.iconst 1, 1) := by decide +kernel
theorem dX2_scanSign_39 : decode cX2_scanSign 39 = .ok (.ireturn, 1) := by decide +kernel
theorem dX2_scanSign_40 : decode cX2_scanSign 40 = .ok (.iconst 0, 1) := by decide +kernel
theorem dX2_scanSign_41 : decode cX2_scanSign 41 = .ok (.ireturn, 1) := by decide +kernel
theorem dX2_scanNumber_0 : decode cX2_scanNumber 0 = .ok (.aload_n 0, 1) := by decide +kernel
theorem dX2_scanNumber_1 : decode cX2_scanNumber 1 = .ok (.invokevirtual 46, 3) := by decide +kernel
theorem dX2_scanNumber_4 : decode cX2_scanNumber 4 = .ok (.aload_n 0, 1) := by decide +kernel
theorem dX2_scanNumber_5 : decode cX2_scanNumber 5 = .ok (.getfield 27, 3) := by decide +kernel
theorem dX2_scanNumber_8 : decode cX2_scanNumber 8 = .ok (.istore 4, 2) := by decide +kernel
theorem dX2_scanNumber_10 : decode cX2_scanNumber 10 = .ok (.iconst 0, 1) := by decide +kernel
theorem dX2_scanNumber_11 : decode cX2_scanNumber 11 = .ok (.istore 5, 2) := by decide +kernel
theorem dX2_scanNumber_13 : decode cX2_scanNumber 13 = .ok (.aload_n 0, 1) := by decide +kernel
theorem dX2_scanNumber_14 : decode cX2_scanNumber 14 = .ok (.getfield 27, 3) := by decide +kernel
theorem dX2_scanNumber_17 : decode cX2_scanNumber 17 = .ok (.aload_n 0, 1) := by decide +kernel
theorem dX2_scanNumber_18 : decode cX2_scanNumber 18 = .ok (.getfield 20, 3) := by decide +kernel
theorem dX2_scanNumber_21 : decode cX2_scanNumber 21 = .ok (.if_icmp .ge 51, 3) := by decide +kernel
theorem dX2_scanNumber_24 : decode cX2_scanNumber 24 = .ok (.aload_n 0, 1) := by decide +kernel
theorem dX2_scanNumber_25 : decode cX2_scanNumber 25 = .ok (.getfield 9, 3) := by decide +kernel
theorem dX2_scanNumber_28 : decode cX2_scanNumber 28 = .ok (.aload_n 0, 1) := by decide +kernel
theorem dX2_scanNumber_29 : decode cX2_scanNumber 29 = .ok (.getfield 27, 3) := by decide +kernel
theorem dX2_scanNumber_32 : decode cX2_scanNumber 32 = .ok (.iaload, 1) := by decide +kernel
theorem dX2_scanNumber_33 : decode cX2_scanNumber 33 = .ok (.invokestatic 49, 3) := by decide +kernel
theorem dX2_scanNumber_36 : decode cX2_scanNumber 36 = .ok (.ifCond .eq 36, 3) := by decide +kernel
theorem dX2_scanNumber_39 : decode cX2_scanNumber 39 = .ok (.bipush 10, 2) := by decide +kernel
theorem dX2_scanNumber_41 : decode cX2_scanNumber 41 = .ok (.iload 5, 2) := by decide +kernel
theorem dX2_scanNumber_43 : decode cX2_scanNumber 43 = .ok (.imul, 1) := by decide +kernel
theorem dX2_scanNumber_44 : decode cX2_scanNumber 44 = .ok (.aload_n 0, 1) := by decide +kernel
theorem dX2_scanNumber_45 : decode cX2_scanNumber 45 = .ok (.getfield 9, 3) := by decide +kernel
theorem dX2_scanNumber_48 : decode cX2_scanNumber 48 = .ok (.aload_n 0, 1) := by decide +kernel
theorem dX2_scanNumber_49 : decode cX2_scanNumber 49 = .ok (.getfield 27, 3) := by decide +kernel
theorem dX2_scanNumber_52 : decode cX2_scanNumber 52 = .ok (.iaload, 1) := by decide +kernel
theorem dX2_scanNumber_53 : decode cX2_scanNumber 53 = .ok (.iadd, 1) := by decide +kernel
theorem dX2_scanNumber_54 : decode cX2_scanNumber 54 = .ok (.bipush 48, 2) := by decide +kernel
theorem dX2_scanNumber_56 : decode cX2_scanNumber 56 = .ok (.isub, 1) := by decide +kernel
theorem dX2_scanNumber_57 : decode cX2_scanNumber 57 = .ok (.istore 5, 2) := by decide +kernel
theorem dX2_scanNumber_59 : decode cX2_scanNumber 59 = .ok (.aload_n 0, 1) := by decide +kernel
theorem dX2_scanNumber_60 : decode cX2_scanNumber 60 = .ok (.dup, 1) := by decide +kernel
theorem dX2_scanNumber_61 : decode cX2_scanNumber 61 = .ok (.getfield 27, 3) := by decide +kernel
theorem dX2_scanNumber_64 : decode cX2_scanNumber 64 = .ok (.iconst 1, 1) := by decide +kernel
theorem dX2_scanNumber_65 : decode cX2_scanNumber 65 = .ok (.iadd, 1) := by decide +kernel
theorem dX2_scanNumber_66 : decode cX2_scanNumber 66 = .ok (.putfield 27, 3) := by decide +kernel
theorem dX2_scanNumber_69 : decode cX2_scanNumber 69 = .ok (.goto (-56), 3) := by decide +kernel
theorem dX2_scanNumber_72 : decode cX2_scanNumber 72 = .ok (.aload_n 0, 1) := by decide +kernel
theorem dX2_scanNumber_73 : decode cX2_scanNumber 73 = .ok (.getfield 27, 3) := by decide +kernel
theorem dX2_scanNumber_76 : decode cX2_scanNumber 76 = .ok (.iload 4, 2) := by decide +kernel
theorem dX2_scanNumber_78 : decode cX2_scanNumber 78 = .ok (.isub, 1) := by decide +kernel
theorem dX2_scanNumber_79 : decode cX2_scanNumber 79 = .ok (.istore 6, 2) := by decide +kernel
theorem dX2_scanNumber_81 : decode cX2_scanNumber 81 = .ok (.iload 6, 2) := by decide +kernel
theorem dX2_scanNumber_83 : decode cX2_scanNumber 83 = .ok (.iconst 1, 1) := by decide +kernel
theorem dX2_scanNumber_84 : decode cX2_scanNumber 84 = .ok (.iconst 3, 1) := by decide +kernel
theorem dX2_scanNumber_85 : decode cX2_scanNumber 85 = .ok (.invokestatic 52, 3) := by decide +kernel
theorem dX2_scanNumber_88 : decode cX2_scanNumber 88 = .ok (.ifCond .eq 9, 3) := by decide +kernel
theorem dX2_scanNumber_91 : decode cX2_scanNumber 91 = .ok (.iload 5, 2) := by decide +kernel
theorem dX2_scanNumber_93 : decode cX2_scanNumber 93 = .ok (.iload_n 3, 1) := by decide +kernel
theorem dX2_scanNumber_94 : decode cX2_scanNumber 94 = .ok (.if_icmp .le 11, 3) := by decide +kernel
theorem dX2_scanNumber_97 : decode cX2_scanNumber 97 = .ok (.aload_n 0, 1) := by decide +kernel
theorem dX2_scanNumber_98 : decode cX2_scanNumber 98 = .ok (.iload 4, 2) := by decide +kernel
theorem dX2_scanNumber_100 : decode cX2_scanNumber 100 = .ok (.putfield 27, 3) := by decide +kernel
theorem dX2_scanNumber_103 : decode cX2_scanNumber 103 = .ok (.iconst 0, 1) := by decide +kernel
theorem dX2_scanNumber_104 : decode cX2_scanNumber 104 = .ok (.ireturn, 1) := by decide +kernel
theorem dX2_scanNumber_105 : decode cX2_scanNumber 105 = .ok (.aload_n 1, 1) := by decide +kernel
theorem dX2_scanNumber_106 : decode cX2_scanNumber 106 = .ok (.iload_n 2, 1) := by decide +kernel
theorem dX2_scanNumber_107 : decode cX2_scanNumber 107 = .ok (.iload 5, 2) := by decide +kernel
theorem dX2_scanNumber_109 : decode cX2_scanNumber 109 = .ok (.iastore, 1) := by decide +kernel
theorem dX2_scanNumber_110 : decode cX2_scanNumber 110 = .ok (.iconst 1, 1) := by decide +kernel
theorem dX2_scanNumber_111 : decode cX2_scanNumber 111 = .ok (.ireturn, 1) := by decide +kernel
theorem dX2_skipBlanks_0 : decode cX2_skipBlanks 0 = .ok (.aload_n 0, 1) := by decide +kernel
theorem dX2_skipBlanks_1 : decode cX2_skipBlanks 1 = .ok (.getfield 27, 3) := by decide +kernel
theorem dX2_skipBlanks_4 : decode cX2_skipBlanks 4 = .ok (.aload_n 0, 1) := by decide +kernel
theorem dX2_skipBlanks_5 : decode cX2_skipBlanks 5 = .ok (.getfield 20, 3) := by decide +kernel
theorem dX2_skipBlanks_8 : decode cX2_skipBlanks 8 = .ok (.if_icmp .ge 30, 3) := by decide +kernel
theorem dX2_skipBlanks_11 : decode cX2_skipBlanks 11 = .ok (.aload_n 0, 1) := by decide +kernel
theorem dX2_skipBlanks_12 : decode cX2_skipBlanks 12 = .ok (.getfield 9, 3) := by decide +kernel
theorem dX2_skipBlanks_15 : decode cX2_skipBlanks 15 = .ok (.aload_n 0, 1) := by decide +kernel
theorem dX2_skipBlanks_16 : decode cX2_skipBlanks 16 = .ok (.getfield 27, 3) := by decide +kernel
theorem dX2_skipBlanks_19 : decode cX2_skipBlanks 19 = .ok (.iaload, 1) := by decide +kernel
theorem dX2_skipBlanks_20 : decode cX2_skipBlanks 20 = .ok (.bipush 32, 2) := by decide +kernel
theorem dX2_skipBlanks_22 : decode cX2_skipBlanks 22 = .ok (.if_icmp .ne 16, 3) := by decide +kernel
theorem dX2_skipBlanks_25 : decode cX2_skipBlanks 25 = .ok (.aload_n 0, 1) := by decide +kernel
theorem dX2_skipBlanks_26 : decode cX2_skipBlanks 26 = .ok (.dup, 1) := by decide +kernel
theorem dX2_skipBlanks_27 : decode cX2_skipBlanks 27 = .ok (.getfield 27, 3) := by decide +kernel
theorem dX2_skipBlanks_30 : decode cX2_skipBlanks 30 = .ok (.iconst 1, 1) := by decide +kernel
theorem dX2_skipBlanks_31 : decode cX2_skipBlanks 31 = .ok (.iadd, 1) := by decide +kernel
theorem dX2_skipBlanks_32 : decode cX2_skipBlanks 32 = .ok (.putfield 27, 3) := by decide +kernel
theorem dX2_skipBlanks_35 : decode cX2_skipBlanks 35 = .ok (.goto (-35), 3) := by decide +kernel
theorem dX2_skipBlanks_38 : decode cX2_skipBlanks 38 = .ok (.return_, 1) := by decide +kernel
theorem dX2_isDigit_0 : decode cX2_isDigit 0 = .ok (.iload_n 0, 1) := by decide +kernel
theorem dX2_isDigit_1 : decode cX2_isDigit 1 = .ok (.bipush 48, 2) := by decide +kernel
theorem dX2_isDigit_3 : decode cX2_isDigit 3 = .ok (.bipush 57, 2) := by decide +kernel
theorem dX2_isDigit_5 : decode cX2_isDigit 5 = .ok (.invokestatic 52, 3) := by decide +kernel
theorem dX2_isDigit_8 : decode cX2_isDigit 8 = .ok (.ireturn, 1) := by decide +kernel
theorem dX3_init_0 : decode cX3_init 0 = .ok (.aload_n 0, 1) := by decide +kernel
theorem dX3_init_1 : decode cX3_init 1 = .ok (.invokespecial 3, 3) := by decide +kernel
theorem dX3_init_4 : decode cX3_init 4 = .ok (.aload_n 0, 1) := by decide +kernel
theorem dX3_init_5 : decode cX3_init 5 = .ok (.bipush 16, 2) := by decide +kernel
theorem dX3_init_7 : decode cX3_init 7 = .ok (.newarray .int, 2) := by decide +kernel
theorem dX3_init_9 : decode cX3_init 9 = .ok (.putfield 9, 3) := by decide +kernel
theorem dX3_init_12 : decode cX3_init 12 = .ok (.aload_n 0, 1) := by decide +kernel
theorem dX3_init_13 : decode cX3_init 13 = .ok (.bipush 16, 2) := by decide +kernel
theorem dX3_init_15 : decode cX3_init 15 = .ok (.newarray .int, 2) := by decide +kernel
theorem dX3_init_17 : decode cX3_init 17 = .ok (.putfield 15, 3) := by decide +kernel
theorem dX3_init_20 : decode cX3_init 20 = .ok (.aload_n 0, 1) := by decide +kernel
theorem dX3_init_21 : decode cX3_init 21 = .ok (.bipush 16, 2) := by decide +kernel
theorem dX3_init_23 : decode cX3_init 23 = .ok (.newarray .long, 2) := by decide +kernel
theorem dX3_init_25 : decode cX3_init 25 = .ok (.putfield 18, 3) := by decide +kernel
theorem dX3_init_28 : decode cX3_init 28 = .ok (.aload_n 0, 1) := by decide +kernel
theorem dX3_init_29 : decode cX3_init 29 = .ok (.iconst 0, 1) := by decide +kernel
theorem dX3_init_30 : decode cX3_init 30 = .ok (.putfield 22, 3) := by decide +kernel
theorem dX3_init_33 : decode cX3_init 33 = .ok (.return_, 1) := by decide +kernel
theorem dX3_rankTraps_0 : decode cX3_rankTraps 0 = .ok (.aload_n 0, 1) := by decide +kernel
theorem dX3_rankTraps_1 : decode cX3_rankTraps 1 = .ok (.iconst 0, 1) := by decide +kernel
theorem dX3_rankTraps_2 : decode cX3_rankTraps 2 = .ok (.putfield 22, 3) := by decide +kernel
theorem dX3_rankTraps_5 : decode cX3_rankTraps 5 = .ok (.iconst 0, 1) := by decide +kernel
theorem dX3_rankTraps_6 : decode cX3_rankTraps 6 = .ok (.istore_n 2, 1) := by decide +kernel
theorem dX3_rankTraps_7 : decode cX3_rankTraps 7 = .ok (.iload_n 2, 1) := by decide +kernel
theorem dX3_rankTraps_8 : decode cX3_rankTraps 8 = .ok (.aload_n 1, 1) := by decide +kernel
theorem dX3_rankTraps_9 : decode cX3_rankTraps 9 = .ok (.getfield 26, 3) := by decide +kernel
theorem dX3_rankTraps_12 : decode cX3_rankTraps 12 = .ok (.if_icmp .ge 55, 3) := by decide +kernel
theorem dX3_rankTraps_15 : decode cX3_rankTraps 15 = .ok (.aload_n 0, 1) := by decide +kernel
theorem dX3_rankTraps_16 : decode cX3_rankTraps 16 = .ok (.getfield 15, 3) := by decide +kernel
theorem dX3_rankTraps_19 : decode cX3_rankTraps 19 = .ok (.iload_n 2, 1) := by decide +kernel
theorem dX3_rankTraps_20 : decode cX3_rankTraps 20 = .ok (.aload_n 1, 1) := by decide +kernel
theorem dX3_rankTraps_21 : decode cX3_rankTraps 21 = .ok (.aload_n 1, 1) := by decide +kernel
theorem dX3_rankTraps_22 : decode cX3_rankTraps 22 = .ok (.getfield 31, 3) := by decide +kernel
theorem dX3_rankTraps_25 : decode cX3_rankTraps 25 = .ok (.iload_n 2, 1) := by decide +kernel
theorem dX3_rankTraps_26 : decode cX3_rankTraps 26 = .ok (.aaload, 1) := by decide +kernel
theorem dX3_rankTraps_27 : decode cX3_rankTraps 27 = .ok (.invokevirtual 35, 3) := by decide +kernel
theorem dX3_rankTraps_30 : decode cX3_rankTraps 30 = .ok (.iastore, 1) := by decide +kernel
theorem dX3_rankTraps_31 : decode cX3_rankTraps 31 = .ok (.aload_n 0, 1) := by decide +kernel
theorem dX3_rankTraps_32 : decode cX3_rankTraps 32 = .ok (.getfield 18, 3) := by decide +kernel
theorem dX3_rankTraps_35 : decode cX3_rankTraps 35 = .ok (.iload_n 2, 1) := by decide +kernel
theorem dX3_rankTraps_36 : decode cX3_rankTraps 36 = .ok (.aload_n 1, 1) := by decide +kernel
theorem dX3_rankTraps_37 : decode cX3_rankTraps 37 = .ok (.aload_n 1, 1) := by decide +kernel
theorem dX3_rankTraps_38 : decode cX3_rankTraps 38 = .ok (.getfield 31, 3) := by decide +kernel
theorem dX3_rankTraps_41 : decode cX3_rankTraps 41 = .ok (.iload_n 2, 1) := by decide +kernel
theorem dX3_rankTraps_42 : decode cX3_rankTraps 42 = .ok (.aaload, 1) := by decide +kernel
theorem dX3_rankTraps_43 : decode cX3_rankTraps 43 = .ok (.invokevirtual 39, 3) := by decide +kernel
theorem dX3_rankTraps_46 : decode cX3_rankTraps 46 = .ok (.lastore, 1) := by decide +kernel
theorem dX3_rankTraps_47 : decode cX3_rankTraps 47 = .ok (.aload_n 0, 1) := by decide +kernel
theorem dX3_rankTraps_48 : decode cX3_rankTraps 48 = .ok (.getfield 15, 3) := by decide +kernel
theorem dX3_rankTraps_51 : decode cX3_rankTraps 51 = .ok (.iload_n 2, 1) := by decide +kernel
theorem dX3_rankTraps_52 : decode cX3_rankTraps 52 = .ok (.iaload, 1) := by decide +kernel
theorem dX3_rankTraps_53 : decode cX3_rankTraps 53 = .ok (.ifCond .le 8, 3) := by decide +kernel
theorem dX3_rankTraps_56 : decode cX3_rankTraps 56 = .ok (.aload_n 0, 1) := by decide +kernel
theorem dX3_rankTraps_57 : decode cX3_rankTraps 57 = .ok (.iload_n 2, 1) := by decide +kernel
theorem dX3_rankTraps_58 : decode cX3_rankTraps 58 = .ok (.invokevirtual 43, 3) := by decide +kernel
theorem dX3_rankTraps_61 : decode cX3_rankTraps 61 = .ok (.iinc 2 1, 3) := by decide +kernel
theorem dX3_rankTraps_64 : decode cX3_rankTraps 64 = .ok (.goto (-57), 3) := by decide +kernel
theorem dX3_rankTraps_67 : decode cX3_rankTraps 67 = .ok (.return_, 1) := by decide +kernel
theorem dX3_trapAtRank_0 : decode cX3_trapAtRank 0 = .ok (.iload_n 1, 1) := by decide +kernel
theorem dX3_trapAtRank_1 : decode cX3_trapAtRank 1 = .ok (.ifCond .lt 20, 3) := by decide +kernel
theorem dX3_trapAtRank_4 : decode cX3_trapAtRank 4 = .ok (.iload_n 1, 1) := by decide +kernel
theorem dX3_trapAtRank_5 : decode cX3_trapAtRank 5 = .ok (.aload_n 0, 1) := by decide +kernel
theorem dX3_trapAtRank_6 : decode cX3_trapAtRank 6 = .ok (.getfield 22, 3) := by decide +kernel
theorem dX3_trapAtRank_9 : decode cX3_trapAtRank 9 = .ok (.if_icmp .ge 12, 3) := by decide +kernel
theorem dX3_trapAtRank_12 : decode cX3_trapAtRank 12 = .ok (.aload_n 0, 1) := by decide +kernel
theorem dX3_trapAtRank_13 : decode cX3_trapAtRank 13 = .ok (.getfield 9, 3) := by decide +kernel
theorem dX3_trapAtRank_16 : decode cX3_trapAtRank 16 = .ok (.iload_n 1, 1) := by decide +kernel
theorem dX3_trapAtRank_17 : decode cX3_trapAtRank 17 = .ok (.iaload, 1) := by decide +kernel
theorem dX3_trapAtRank_18 : decode cX3_trapAtRank 18 = .ok (.goto 4, 3) := by decide +kernel
theorem dX3_trapAtRank_21 : decode cX3_trapAtRank 21 = .ok (.iconst (-1), 1) := by decide +kernel
theorem dX3_trapAtRank_22 : decode cX3_trapAtRank 22 = .ok (.ireturn, 1) := by decide +kernel
theorem dX3_insert_0 : decode cX3_insert 0 = .ok (.aload_n 0, 1) := by decide +kernel
theorem dX3_insert_1 : decode cX3_insert 1 = .ok (.getfield 22, 3) := by decide +kernel
theorem dX3_insert_4 : decode cX3_insert 4 = .ok (.istore_n 2, 1) := by decide +kernel
theorem dX3_insert_5 : decode cX3_insert 5 = .ok (.iload_n 2, 1) := by decide +kernel
theorem dX3_insert_6 : decode cX3_insert 6 = .ok (.ifCond .le 39, 3) := by decide +kernel
theorem dX3_insert_9 : decode cX3_insert 9 = .ok (.aload_n 0, 1) := by decide +kernel
theorem dX3_insert_10 : decode cX3_insert 10 = .ok (.iload_n 1, 1) := by decide +kernel
theorem dX3_insert_11 : decode cX3_insert 11 = .ok (.aload_n 0, 1) := by decide +kernel
theorem dX3_insert_12 : decode cX3_insert 12 = .ok (.getfield 9, 3) := by decide +kernel
theorem dX3_insert_15 : decode cX3_insert 15 = .ok (.iload_n 2, 1) := by decide +kernel
theorem dX3_insert_16 : decode cX3_insert 16 = .ok (.iconst 1, 1) := by decide +kernel
theorem dX3_insert_17 : decode cX3_insert 17 = .ok (.isub, 1) := by decide +kernel
theorem dX3_insert_18 : decode cX3_insert 18 = .ok (.iaload, 1) := by decide +kernel
theorem dX3_insert_19 : decode cX3_insert 19 = .ok (.invokevirtual 47, 3) := by decide +kernel
theorem dX3_insert_22 : decode cX3_insert 22 = .ok (.ifCond .eq 23, 3) := by decide +kernel
theorem dX3_insert_25 : decode cX3_insert 25 = .ok (.aload_n 0, 1) := by decide +kernel
theorem dX3_insert_26 : decode cX3_insert 26 = .ok (.getfield 9, 3) := by decide +kernel
theorem dX3_insert_29 : decode cX3_insert 29 = .ok (.iload_n 2, 1) := by decide +kernel
theorem dX3_insert_30 : decode cX3_insert 30 = .ok (.aload_n 0, 1) := by decide +kernel
theorem dX3_insert_31 : decode cX3_insert 31 = .ok (.getfield 9, 3) := by decide +kernel
theorem dX3_insert_34 : decode cX3_insert 34 = .ok (.iload_n 2, 1) := by decide +kernel
theorem dX3_insert_35 : decode cX3_insert 35 = .ok (.iconst 1, 1) := by decide +kernel
theorem dX3_insert_36 : decode cX3_insert 36 = .ok (.isub, 1) := by decide +kernel
theorem dX3_insert_37 : decode cX3_insert 37 = .ok (.iaload, 1) := by decide +kernel
theorem dX3_insert_38 : decode cX3_insert 38 = .ok (.iastore, 1) := by decide +kernel
theorem dX3_insert_39 : decode cX3_insert 39 = .ok (.iinc 2 (-1), 3) := by decide +kernel
theorem dX3_insert_42 : decode cX3_insert 42 = .ok (.goto (-37), 3) := by decide +kernel
theorem dX3_insert_45 : decode cX3_insert 45 = .ok (.aload_n 0, 1) := by decide +kernel
theorem dX3_insert_46 : decode cX3_insert 46 = .ok (.getfield 9, 3) := by decide +kernel
theorem dX3_insert_49 : decode cX3_insert 49 = .ok (.iload_n 2, 1) := by decide +kernel
theorem dX3_insert_50 : decode cX3_insert 50 = .ok (.iload_n 1, 1) := by decide +kernel
theorem dX3_insert_51 : decode cX3_insert 51 = .ok (.iastore, 1) := by decide +kernel
theorem dX3_insert_52 : decode cX3_insert 52 = .ok (.aload_n 0, 1) := by decide +kernel
theorem dX3_insert_53 : decode cX3_insert 53 = .ok (.dup, 1) := by decide +kernel
theorem dX3_insert_54 : decode cX3_insert 54 = .ok (.getfield 22, 3) := by decide +kernel
theorem dX3_insert_57 : decode cX3_insert 57 = .ok (.iconst 1, 1) := by decide +kernel
theorem dX3_insert_58 : decode cX3_insert 58 = .ok (.iadd, 1) := by decide +kernel
theorem dX3_insert_59 : decode cX3_insert 59 = .ok (.putfield 22, 3) := by decide +kernel
theorem dX3_insert_62 : decode cX3_insert 62 = .ok (.return_, 1) := by decide +kernel
theorem dX3_isBetter_0 : decode cX3_isBetter 0 = .ok (.aload_n 0, 1) := by decide +kernel
theorem dX3_isBetter_1 : decode cX3_isBetter 1 = .ok (.getfield 18, 3) := by decide +kernel
theorem dX3_isBetter_4 : decode cX3_isBetter 4 = .ok (.iload_n 1, 1) := by decide +kernel
theorem dX3_isBetter_5 : decode cX3_isBetter 5 = .ok (.laload, 1) := by decide +kernel
theorem dX3_isBetter_6 : decode cX3_isBetter 6 = .ok (.aload_n 0, 1) := by decide +kernel
theorem dX3_isBetter_7 : decode cX3_isBetter 7 = .ok (.getfield 18, 3) := by decide +kernel
theorem dX3_isBetter_10 : decode cX3_isBetter 10 = .ok (.iload_n 2, 1) := by decide +kernel
theorem dX3_isBetter_11 : decode cX3_isBetter 11 = .ok (.laload, 1) := by decide +kernel
theorem dX3_isBetter_12 : decode cX3_isBetter 12 = .ok (.lcmp, 1) := by decide +kernel
theorem dX3_isBetter_13 : decode cX3_isBetter 13 = .ok (.ifCond .eq 25, 3) := by decide +kernel
theorem dX3_isBetter_16 : decode cX3_isBetter 16 = .ok (.aload_n 0, 1) := by decide +kernel
theorem dX3_isBetter_17 : decode cX3_isBetter 17 = .ok (.getfield 18, 3) := by decide +kernel
theorem dX3_isBetter_20 : decode cX3_isBetter 20 = .ok (.iload_n 1, 1) := by decide +kernel
theorem dX3_isBetter_21 : decode cX3_isBetter 21 = .ok (.laload, 1) := by decide +kernel
theorem dX3_isBetter_22 : decode cX3_isBetter 22 = .ok (.aload_n 0, 1) := by decide +kernel
theorem dX3_isBetter_23 : decode cX3_isBetter 23 = .ok (.getfield 18, 3) := by decide +kernel
theorem dX3_isBetter_26 : decode cX3_isBetter 26 = .ok (.iload_n 2, 1) := by decide +kernel
theorem dX3_isBetter_27 : decode cX3_isBetter 27 = .ok (.laload, 1) := by decide +kernel
theorem dX3_isBetter_28 : decode cX3_isBetter 28 = .ok (.lcmp, 1) := by decide +kernel
theorem dX3_isBetter_29 : decode cX3_isBetter 29 = .ok (.ifCond .ge 7, 3) := by decide +kernel
theorem dX3_isBetter_32 : decode cX3_isBetter 32 = .ok (.iconst 1, 1) := by decide +kernel
theorem dX3_isBetter_33 : decode cX3_isBetter 33 = .ok (.goto 4, 3) := by decide +kernel
theorem dX3_isBetter_36 : decode cX3_isBetter 36 = .ok (.iconst 0, 1) := by decide +kernel
theorem dX3_isBetter_37 : decode cX3_isBetter 37 = .ok (.ireturn, 1) := by decide +kernel
theorem dX3_isBetter_38 : decode cX3_isBetter 38 = .ok (.aload_n 0, 1) := by decide +kernel
theorem dX3_isBetter_39 : decode cX3_isBetter 39 = .ok (.getfield 15, 3) := by decide +kernel
theorem dX3_isBetter_42 : decode cX3_isBetter 42 = .ok (.iload_n 1, 1) := by decide +kernel
theorem dX3_isBetter_43 : decode cX3_isBetter 43 = .ok (.iaload, 1) := by decide +kernel
theorem dX3_isBetter_44 : decode cX3_isBetter 44 = .ok (.aload_n 0, 1) := by decide +kernel
theorem dX3_isBetter_45 : decode cX3_isBetter 45 = .ok (.getfield 15, 3) := by decide +kernel
theorem dX3_isBetter_48 : decode cX3_isBetter 48 = .ok (.iload_n 2, 1) := by decide +kernel
theorem dX3_isBetter_49 : decode cX3_isBetter 49 = .ok (.iaload, 1) := by decide +kernel
theorem dX3_isBetter_50 : decode cX3_isBetter 50 = .ok (.if_icmp .le 7, 3) := by decide +kernel
theorem dX3_isBetter_53 : decode cX3_isBetter 53 = .ok (.iconst 1, 1) := by decide +kernel
theorem dX3_isBetter_54 : decode cX3_isBetter 54 = .ok (.goto 4, 3) := by decide +kernel
theorem dX3_isBetter_57 : decode cX3_isBetter 57 = .ok (.iconst 0, 1) := by decide +kernel
theorem dX3_isBetter_58 : decode cX3_isBetter 58 = .ok (.ireturn, 1) := by decide +kernel
theorem dX4_init_0 : decode cX4_init 0 = .ok (.aload_n 0, 1) := by decide +kernel
theorem dX4_init_1 : decode cX4_init 1 = .ok (.invokespecial 3, 3) := by decide +kernel
theorem dX4_init_4 : decode cX4_init 4 = .ok (.aload_n 0, 1) := by decide +kernel
theorem dX4_init_5 : decode cX4_init 5 = .ok (.bipush 16, 2) := by decide +kernel
theorem dX4_init_7 : decode cX4_init 7 = .ok (.newarray .int, 2) := by decide +kernel
theorem dX4_init_9 : decode cX4_init 9 = .ok (.putfield 9, 3) := by decide +kernel
theorem dX4_init_12 : decode cX4_init 12 = .ok (.aload_n 0, 1) := by decide +kernel
theorem dX4_init_13 : decode cX4_init 13 = .ok (.bipush 16, 2) := by decide +kernel
theorem dX4_init_15 : decode cX4_init 15 = .ok (.newarray .boolean, 2) := by decide +kernel
theorem dX4_init_17 : decode cX4_init 17 = .ok (.putfield 15, 3) := by decide +kernel
theorem dX4_init_20 : decode cX4_init 20 = .ok (.aload_n 0, 1) := by decide +kernel
theorem dX4_init_21 : decode cX4_init 21 = .ok (.iconst 0, 1) := by decide +kernel
theorem dX4_init_22 : decode cX4_init 22 = .ok (.putfield 19, 3) := by decide +kernel
theorem dX4_init_25 : decode cX4_init 25 = .ok (.aload_n 0, 1) := by decide +kernel
theorem dX4_init_26 : decode cX4_init 26 = .ok (.iconst 0, 1) := by decide +kernel
theorem dX4_init_27 : decode cX4_init 27 = .ok (.putfield 23, 3) := by decide +kernel
theorem dX4_init_30 : decode cX4_init 30 = .ok (.return_, 1) := by decide +kernel
theorem dX4_plan_0 : decode cX4_plan 0 = .ok (.aload_n 0, 1) := by decide +kernel
theorem dX4_plan_1 : decode cX4_plan 1 = .ok (.iconst 0, 1) := by decide +kernel
theorem dX4_plan_2 : decode cX4_plan 2 = .ok (.putfield 19, 3) := by decide +kernel
theorem dX4_plan_5 : decode cX4_plan 5 = .ok (.aload_n 0, 1) := by decide +kernel
theorem dX4_plan_6 : decode cX4_plan 6 = .ok (.iconst 0, 1) := by decide +kernel
theorem dX4_plan_7 : decode cX4_plan 7 = .ok (.putfield 23, 3) := by decide +kernel
theorem dX4_plan_10 : decode cX4_plan 10 = .ok (.iconst 0, 1) := by decide +kernel
theorem dX4_plan_11 : decode cX4_plan 11 = .ok (.istore_n 2, 1) := by decide +kernel
theorem dX4_plan_12 : decode cX4_plan 12 = .ok (.iload_n 2, 1) := by decide +kernel
theorem dX4_plan_13 : decode cX4_plan 13 = .ok (.aload_n 1, 1) := by decide +kernel
theorem dX4_plan_14 : decode cX4_plan 14 = .ok (.getfield 26, 3) := by decide +kernel
theorem dX4_plan_17 : decode cX4_plan 17 = .ok (.if_icmp .ge 25, 3) := by decide +kernel
theorem dX4_plan_20 : decode cX4_plan 20 = .ok (.aload_n 0, 1) := by decide +kernel
theorem dX4_plan_21 : decode cX4_plan 21 = .ok (.getfield 15, 3) := by decide +kernel
theorem dX4_plan_24 : decode cX4_plan 24 = .ok (.iload_n 2, 1) := by decide +kernel
theorem dX4_plan_25 : decode cX4_plan 25 = .ok (.aload_n 1, 1) := by decide +kernel
theorem dX4_plan_26 : decode cX4_plan 26 = .ok (.aload_n 1, 1) := by decide +kernel
theorem dX4_plan_27 : decode cX4_plan 27 = .ok (.getfield 31, 3) := by decide +kernel
theorem dX4_plan_30 : decode cX4_plan 30 = .ok (.iload_n 2, 1) := by decide +kernel
theorem dX4_plan_31 : decode cX4_plan 31 = .ok (.aaload, 1) := by decide +kernel
theorem dX4_plan_32 : decode cX4_plan 32 = .ok (.invokevirtual 35, 3) := by decide +kernel
theorem dX4_plan_35 : decode cX4_plan 35 = .ok (.bastore, 1) := by decide +kernel
theorem dX4_plan_36 : decode cX4_plan 36 = .ok (.iinc 2 1, 3) := by decide +kernel
theorem dX4_plan_39 : decode cX4_plan 39 = .ok (.goto (-27), 3) := by decide +kernel
theorem dX4_plan_42 : decode cX4_plan 42 = .ok (.iconst 0, 1) := by decide +kernel
theorem dX4_plan_43 : decode cX4_plan 43 = .ok (.istore_n 2, 1) := by decide +kernel
theorem dX4_plan_44 : decode cX4_plan 44 = .ok (.iconst 0, 1) := by decide +kernel
theorem dX4_plan_45 : decode cX4_plan 45 = .ok (.istore_n 3, 1) := by decide +kernel
theorem dX4_plan_46 : decode cX4_plan 46 = .ok (.iconst 0, 1) := by decide +kernel
theorem dX4_plan_47 : decode cX4_plan 47 = .ok (.istore 4, 2) := by decide +kernel
theorem dX4_plan_49 : decode cX4_plan 49 = .ok (.iload 4, 2) := by decide +kernel
theorem dX4_plan_51 : decode cX4_plan 51 = .ok (.aload_n 1, 1) := by decide +kernel
theorem dX4_plan_52 : decode cX4_plan 52 = .ok (.getfield 26, 3) := by decide +kernel
theorem dX4_plan_55 : decode cX4_plan 55 = .ok (.if_icmp .ge 91, 3) := by decide +kernel
theorem dX4_plan_58 : decode cX4_plan 58 = .ok (.aload_n 0, 1) := by decide +kernel
theorem dX4_plan_59 : decode cX4_plan 59 = .ok (.aload_n 1, 1) := by decide +kernel
theorem dX4_plan_60 : decode cX4_plan 60 = .ok (.iload_n 2, 1) := by decide +kernel
theorem dX4_plan_61 : decode cX4_plan 61 = .ok (.iload_n 3, 1) := by decide +kernel
theorem dX4_plan_62 : decode cX4_plan 62 = .ok (.invokevirtual 39, 3) := by decide +kernel
theorem dX4_plan_65 : decode cX4_plan 65 = .ok (.istore 5, 2) := by decide +kernel
theorem dX4_plan_67 : decode cX4_plan 67 = .ok (.iload 5, 2) := by decide +kernel
theorem dX4_plan_69 : decode cX4_plan 69 = .ok (.iconst (-1), 1) := by decide +kernel
theorem dX4_plan_70 : decode cX4_plan 70 = .ok (.if_icmp .ne 6, 3) := by decide +kernel
theorem dX4_plan_73 : decode cX4_plan 73 = .ok (.goto 73, 3) := by decide +kernel
theorem dX4_plan_76 : decode cX4_plan 76 = .ok (.aload_n 1, 1) := by decide +kernel
theorem dX4_plan_77 : decode cX4_plan 77 = .ok (.getfield 31, 3) := by decide +kernel
theorem dX4_plan_80 : decode cX4_plan 80 = .ok (.iload 5, 2) := by decide +kernel
theorem dX4_plan_82 : decode cX4_plan 82 = .ok (.aaload, 1) := by decide +kernel
theorem dX4_plan_83 : decode cX4_plan 83 = .ok (.astore 6, 2) := by decide +kernel
theorem dX4_plan_85 : decode cX4_plan 85 = .ok (.aload_n 0, 1) := by decide +kernel
theorem dX4_plan_86 : decode cX4_plan 86 = .ok (.dup, 1) := by decide +kernel
theorem dX4_plan_87 : decode cX4_plan 87 = .ok (.getfield 23, 3) := by decide +kernel
theorem dX4_plan_90 : decode cX4_plan 90 = .ok (.aload 6, 2) := by decide +kernel
theorem dX4_plan_92 : decode cX4_plan 92 = .ok (.iload_n 2, 1) := by decide +kernel
theorem dX4_plan_93 : decode cX4_plan 93 = .ok (.iload_n 3, 1) := by decide +kernel
theorem dX4_plan_94 : decode cX4_plan 94 = .ok (.invokevirtual 43, 3) := by decide +kernel
theorem dX4_plan_97 : decode cX4_plan 97 = .ok (.iadd, 1) := by decide +kernel
theorem dX4_plan_98 : decode cX4_plan 98 = .ok (.putfield 23, 3) := by decide +kernel
theorem dX4_plan_101 : decode cX4_plan 101 = .ok (.aload 6, 2) := by decide +kernel
theorem dX4_plan_103 : decode cX4_plan 103 = .ok (.getfield 49, 3) := by decide +kernel
theorem dX4_plan_106 : decode cX4_plan 106 = .ok (.istore_n 2, 1) := by decide +kernel
theorem dX4_plan_107 : decode cX4_plan 107 = .ok (.aload 6, 2) := by decide +kernel
theorem dX4_plan_109 : decode cX4_plan 109 = .ok (.getfield 52, 3) := by decide +kernel
theorem dX4_plan_112 : decode cX4_plan 112 = .ok (.istore_n 3, 1) := by decide +kernel
theorem dX4_plan_113 : decode cX4_plan 113 = .ok (.aload_n 0, 1) := by decide +kernel
theorem dX4_plan_114 : decode cX4_plan 114 = .ok (.getfield 15, 3) := by decide +kernel
theorem dX4_plan_117 : decode cX4_plan 117 = .ok (.iload 5, 2) := by decide +kernel
theorem dX4_plan_119 : decode cX4_plan 119 = .ok (.iconst 0, 1) := by decide +kernel
theorem dX4_plan_120 : decode cX4_plan 120 = .ok (.bastore, 1) := by decide +kernel
theorem dX4_plan_121 : decode cX4_plan 121 = .ok (.aload_n 0, 1) := by decide +kernel
theorem dX4_plan_122 : decode cX4_plan 122 = .ok (.getfield 9, 3) := by decide +kernel
theorem dX4_plan_125 : decode cX4_plan 125 = .ok (.iload 4, 2) := by decide +kernel
theorem dX4_plan_127 : decode cX4_plan 127 = .ok (.iload 5, 2) := by decide +kernel
theorem dX4_plan_129 : decode cX4_plan 129 = .ok (.iastore, 1) := by decide +kernel
theorem dX4_plan_130 : decode cX4_plan 130 = .ok (.aload_n 0, 1) := by decide +kernel
theorem dX4_plan_131 : decode cX4_plan 131 = .ok (.dup, 1) := by decide +kernel
theorem dX4_plan_132 : decode cX4_plan 132 = .ok (.getfield 19, 3) := by decide +kernel
theorem dX4_plan_135 : decode cX4_plan 135 = .ok (.iconst 1, 1) := by decide +kernel
theorem dX4_plan_136 : decode cX4_plan 136 = .ok (.iadd, 1) := by decide +kernel
theorem dX4_plan_137 : decode cX4_plan 137 = .ok (.putfield 19, 3) := by decide +kernel
theorem dX4_plan_140 : decode cX4_plan 140 = .ok (.iinc 4 1, 3) := by decide +kernel
theorem dX4_plan_143 : decode cX4_plan 143 = .ok (.goto (-94), 3) := by decide +kernel
theorem dX4_plan_146 : decode cX4_plan 146 = .ok (.aload_n 0, 1) := by decide +kernel
theorem dX4_plan_147 : decode cX4_plan 147 = .ok (.dup, 1) := by decide +kernel
theorem dX4_plan_148 : decode cX4_plan 148 = .ok (.getfield 23, 3) := by decide +kernel
theorem dX4_plan_151 : decode cX4_plan 151 = .ok (.iload_n 2, 1) := by decide +kernel
theorem dX4_plan_152 : decode cX4_plan 152 = .ok (.iconst 0, 1) := by decide +kernel
theorem dX4_plan_153 : decode cX4_plan 153 = .ok (.isub, 1) := by decide +kernel
theorem dX4_plan_154 : decode cX4_plan 154 = .ok (.invokestatic 55, 3) := by decide +kernel
theorem dX4_plan_157 : decode cX4_plan 157 = .ok (.iload_n 3, 1) := by decide +kernel
theorem dX4_plan_158 : decode cX4_plan 158 = .ok (.iconst 0, 1) := by decide +kernel
theorem dX4_plan_159 : decode cX4_plan 159 = .ok (.isub, 1) := by decide +kernel
theorem dX4_plan_160 : decode cX4_plan 160 = .ok (.invokestatic 55, 3) := by decide +kernel
theorem dX4_plan_163 : decode cX4_plan 163 = .ok (.iadd, 1) := by decide +kernel
theorem dX4_plan_164 : decode cX4_plan 164 = .ok (.iadd, 1) := by decide +kernel
theorem dX4_plan_165 : decode cX4_plan 165 = .ok (.putfield 23, 3) := by decide +kernel
theorem dX4_plan_168 : decode cX4_plan 168 = .ok (.return_, 1) := by decide +kernel
theorem dX4_stopAt_0 : decode cX4_stopAt 0 = .ok (.iload_n 1, 1) := by decide +kernel
theorem dX4_stopAt_1 : decode cX4_stopAt 1 = .ok (.ifCond .lt 20, 3) := by decide +kernel
theorem dX4_stopAt_4 : decode cX4_stopAt 4 = .ok (.iload_n 1, 1) := by decide +kernel
theorem dX4_stopAt_5 : decode cX4_stopAt 5 = .ok (.aload_n 0, 1) := by decide +kernel
theorem dX4_stopAt_6 : decode cX4_stopAt 6 = .ok (.getfield 19, 3) := by decide +kernel
theorem dX4_stopAt_9 : decode cX4_stopAt 9 = .ok (.if_icmp .ge 12, 3) := by decide +kernel
theorem dX4_stopAt_12 : decode cX4_stopAt 12 = .ok (.aload_n 0, 1) := by decide +kernel
theorem dX4_stopAt_13 : decode cX4_stopAt 13 = .ok (.getfield 9, 3) := by decide +kernel
theorem dX4_stopAt_16 : decode cX4_stopAt 16 = .ok (.iload_n 1, 1) := by decide +kernel
theorem dX4_stopAt_17 : decode cX4_stopAt 17 = .ok (.iaload, 1) := by decide +kernel
theorem dX4_stopAt_18 : decode cX4_stopAt 18 = .ok (.goto 4, 3) := by decide +kernel
theorem dX4_stopAt_21 : decode cX4_stopAt 21 = .ok (.iconst (-1), 1) := by decide +kernel
theorem dX4_stopAt_22 : decode cX4_stopAt 22 = .ok (.ireturn, 1) := by decide +kernel
theorem dX4_nearestWaiting_0 : decode cX4_nearestWaiting 0 = .ok (.iconst (-1), 1) := by decide +kernel
theorem dX4_nearestWaiting_1 : decode cX4_nearestWaiting 1 = .ok (.istore 4, 2) := by decide +kernel
theorem dX4_nearestWaiting_3 : decode cX4_nearestWaiting 3 = .ok (.iconst 0, 1) := by decide +kernel
theorem dX4_nearestWaiting_4 : decode cX4_nearestWaiting 4 = .ok (.istore 5, 2) := by decide +kernel
theorem dX4_nearestWaiting_6 : decode cX4_nearestWaiting 6 = .ok (.iconst 0, 1) := by decide +kernel
theorem dX4_nearestWaiting_7 : decode cX4_nearestWaiting 7 = .ok (.istore 6, 2) := by decide +kernel
theorem dX4_nearestWaiting_9 : decode cX4_nearestWaiting 9 = .ok (.iload 6, 2) := by decide +kernel
theorem dX4_nearestWaiting_11 : decode cX4_nearestWaiting 11 = .ok (.aload_n 1, 1) := by decide +kernel
theorem dX4_nearestWaiting_12 : decode cX4_nearestWaiting 12 = .ok (.getfield 26, 3) := by decide +kernel
theorem dX4_nearestWaiting_15 : decode cX4_nearestWaiting 15 = .ok (.if_icmp .ge 54, 3) := by decide +kernel
theorem dX4_nearestWaiting_18 : decode cX4_nearestWaiting 18 = .ok (.aload_n 1, 1) := by decide +kernel
theorem dX4_nearestWaiting_19 : decode cX4_nearestWaiting 19 = .ok (.getfield 31, 3) := by decide +kernel
theorem dX4_nearestWaiting_22 : decode cX4_nearestWaiting 22 = .ok (.iload 6, 2) := by decide +kernel
theorem dX4_nearestWaiting_24 : decode cX4_nearestWaiting 24 = .ok (.aaload, 1) := by decide +kernel
theorem dX4_nearestWaiting_25 : decode cX4_nearestWaiting 25 = .ok (.iload_n 2, 1) := by decide +kernel
theorem dX4_nearestWaiting_26 : decode cX4_nearestWaiting 26 = .ok (.iload_n 3, 1) := by decide +kernel
theorem dX4_nearestWaiting_27 : decode cX4_nearestWaiting 27 = .ok (.invokevirtual 43, 3) := by decide +kernel
theorem dX4_nearestWaiting_30 : decode cX4_nearestWaiting 30 = .ok (.istore 7, 2) := by decide +kernel
theorem dX4_nearestWaiting_32 : decode cX4_nearestWaiting 32 = .ok (.aload_n 0, 1) := by decide +kernel
theorem dX4_nearestWaiting_33 : decode cX4_nearestWaiting 33 = .ok (.getfield 15, 3) := by decide +kernel
theorem dX4_nearestWaiting_36 : decode cX4_nearestWaiting 36 = .ok (.iload 6, 2) := by decide +kernel
theorem dX4_nearestWaiting_38 : decode cX4_nearestWaiting 38 = .ok (.baload, 1) := by decide +kernel
theorem dX4_nearestWaiting_39 : decode cX4_nearestWaiting 39 = .ok (.ifCond .eq 24, 3) := by decide +kernel
theorem dX4_nearestWaiting_42 : decode cX4_nearestWaiting 42 = .ok (.iload 4, 2) := by decide +kernel
theorem dX4_nearestWaiting_44 : decode cX4_nearestWaiting 44 = .ok (.iconst (-1), 1) := by decide +kernel
theorem dX4_nearestWaiting_45 : decode cX4_nearestWaiting 45 = .ok (.if_icmp .eq 10, 3) := by decide +kernel
theorem dX4_nearestWaiting_48 : decode cX4_nearestWaiting 48 = .ok (.iload 7, 2) := by decide +kernel
theorem dX4_nearestWaiting_50 : decode cX4_nearestWaiting 50 = .ok (.iload 5, 2) := by decide +kernel
theorem dX4_nearestWaiting_52 : decode cX4_nearestWaiting 52 = .ok (.if_icmp .ge 11, 3) := by decide +kernel
theorem dX4_nearestWaiting_55 : decode cX4_nearestWaiting 55 = .ok (.iload 6, 2) := by decide +kernel
theorem dX4_nearestWaiting_57 : decode cX4_nearestWaiting 57 = .ok (.istore 4, 2) := by decide +kernel
theorem dX4_nearestWaiting_59 : decode cX4_nearestWaiting 59 = .ok (.iload 7, 2) := by decide +kernel
theorem dX4_nearestWaiting_61 : decode cX4_nearestWaiting 61 = .ok (.istore 5, 2) := by decide +kernel
theorem dX4_nearestWaiting_63 : decode cX4_nearestWaiting 63 = .ok (.iinc 6 1, 3) := by decide +kernel
theorem dX4_nearestWaiting_66 : decode cX4_nearestWaiting 66 = .ok (.goto (-57), 3) := by decide +kernel
theorem dX4_nearestWaiting_69 : decode cX4_nearestWaiting 69 = .ok (.iload 4, 2) := by decide +kernel
theorem dX4_nearestWaiting_71 : decode cX4_nearestWaiting 71 = .ok (.ireturn, 1) := by decide +kernel
theorem dX5_init_0 : decode cX5_init 0 = .ok (.aload_n 0, 1) := by decide +kernel
theorem dX5_init_1 : decode cX5_init 1 = .ok (.invokespecial 3, 3) := by decide +kernel
theorem dX5_init_4 : decode cX5_init 4 = .ok (.aload_n 0, 1) := by decide +kernel
theorem dX5_init_5 : decode cX5_init 5 = .ok (.iconst 0, 1) := by decide +kernel
theorem dX5_init_6 : decode cX5_init 6 = .ok (.putfield 9, 3) := by decide +kernel
theorem dX5_init_9 : decode cX5_init 9 = .ok (.aload_n 0, 1) := by decide +kernel
theorem dX5_init_10 : decode cX5_init 10 = .ok (.iconst (-1), 1) := by decide +kernel
theorem dX5_init_11 : decode cX5_init 11 = .ok (.putfield 15, 3) := by decide +kernel
theorem dX5_init_14 : decode cX5_init 14 = .ok (.aload_n 0, 1) := by decide +kernel
theorem dX5_init_15 : decode cX5_init 15 = .ok (.lconst 0, 1) := by decide +kernel
theorem dX5_init_16 : decode cX5_init 16 = .ok (.putfield 18, 3) := by decide +kernel
theorem dX5_init_19 : decode cX5_init 19 = .ok (.return_, 1) := by decide +kernel
theorem dX5_install_0 : decode cX5_install 0 = .ok (.aload_n 0, 1) := by decide +kernel
theorem dX5_install_1 : decode cX5_install 1 = .ok (.iload_n 1, 1) := by decide +kernel
theorem dX5_install_2 : decode cX5_install 2 = .ok (.putfield 22, 3) := by decide +kernel
theorem dX5_install_5 : decode cX5_install 5 = .ok (.aload_n 0, 1) := by decide +kernel
theorem dX5_install_6 : decode cX5_install 6 = .ok (.iload_n 2, 1) := by decide +kernel
theorem dX5_install_7 : decode cX5_install 7 = .ok (.putfield 25, 3) := by decide +kernel
theorem dX5_install_10 : decode cX5_install 10 = .ok (.aload_n 0, 1) := by decide +kernel
theorem dX5_install_11 : decode cX5_install 11 = .ok (.iload_n 3, 1) := by decide +kernel
theorem dX5_install_12 : decode cX5_install 12 = .ok (.putfield 28, 3) := by decide +kernel
theorem dX5_install_15 : decode cX5_install 15 = .ok (.aload_n 0, 1) := by decide +kernel
theorem dX5_install_16 : decode cX5_install 16 = .ok (.iload 4, 2) := by decide +kernel
theorem dX5_install_18 : decode cX5_install 18 = .ok (.putfield 31, 3) := by decide +kernel
theorem dX5_install_21 : decode cX5_install 21 = .ok (.aload_n 0, 1) := by decide +kernel
theorem dX5_install_22 : decode cX5_install 22 = .ok (.iload 5, 2) := by decide +kernel
theorem dX5_install_24 : decode cX5_install 24 = .ok (.putfield 34, 3) := by decide +kernel
theorem dX5_install_27 : decode cX5_install 27 = .ok (.return_, 1) := by decide +kernel
theorem dX5_copyFrom_0 : decode cX5_copyFrom 0 = .ok (.aload_n 0, 1) := by decide +kernel
theorem dX5_copyFrom_1 : decode cX5_copyFrom 1 = .ok (.aload_n 1, 1) := by decide +kernel
theorem dX5_copyFrom_2 : decode cX5_copyFrom 2 = .ok (.getfield 22, 3) := by decide +kernel
theorem dX5_copyFrom_5 : decode cX5_copyFrom 5 = .ok (.putfield 22, 3) := by decide +kernel
theorem dX5_copyFrom_8 : decode cX5_copyFrom 8 = .ok (.aload_n 0, 1) := by decide +kernel
theorem dX5_copyFrom_9 : decode cX5_copyFrom 9 = .ok (.aload_n 1, 1) := by decide +kernel
theorem dX5_copyFrom_10 : decode cX5_copyFrom 10 = .ok (.getfield 25, 3) := by decide +kernel
theorem dX5_copyFrom_13 : decode cX5_copyFrom 13 = .ok (.putfield 25, 3) := by decide +kernel
theorem dX5_copyFrom_16 : decode cX5_copyFrom 16 = .ok (.aload_n 0, 1) := by decide +kernel
theorem dX5_copyFrom_17 : decode cX5_copyFrom 17 = .ok (.aload_n 1, 1) := by decide +kernel
theorem dX5_copyFrom_18 : decode cX5_copyFrom 18 = .ok (.getfield 28, 3) := by decide +kernel
theorem dX5_copyFrom_21 : decode cX5_copyFrom 21 = .ok (.putfield 28, 3) := by decide +kernel
theorem dX5_copyFrom_24 : decode cX5_copyFrom 24 = .ok (.aload_n 0, 1) := by decide +kernel
theorem dX5_copyFrom_25 : decode cX5_copyFrom 25 = .ok (.aload_n 1, 1) := by decide +kernel
theorem dX5_copyFrom_26 : decode cX5_copyFrom 26 = .ok (.getfield 31, 3) := by decide +kernel
theorem dX5_copyFrom_29 : decode cX5_copyFrom 29 = .ok (.putfield 31, 3) := by decide +kernel
theorem dX5_copyFrom_32 : decode cX5_copyFrom 32 = .ok (.aload_n 0, 1) := by decide +kernel
theorem dX5_copyFrom_33 : decode cX5_copyFrom 33 = .ok (.aload_n 1, 1) := by decide +kernel
theorem dX5_copyFrom_34 : decode cX5_copyFrom 34 = .ok (.getfield 34, 3) := by decide +kernel
theorem dX5_copyFrom_37 : decode cX5_copyFrom 37 = .ok (.putfield 34, 3) := by decide +kernel
theorem dX5_copyFrom_40 : decode cX5_copyFrom 40 = .ok (.aload_n 0, 1) := by decide +kernel
theorem dX5_copyFrom_41 : decode cX5_copyFrom 41 = .ok (.aload_n 1, 1) := by decide +kernel
theorem dX5_copyFrom_42 : decode cX5_copyFrom 42 = .ok (.getfield 9, 3) := by decide +kernel
theorem dX5_copyFrom_45 : decode cX5_copyFrom 45 = .ok (.putfield 9, 3) := by decide +kernel
theorem dX5_copyFrom_48 : decode cX5_copyFrom 48 = .ok (.aload_n 0, 1) := by decide +kernel
theorem dX5_copyFrom_49 : decode cX5_copyFrom 49 = .ok (.aload_n 1, 1) := by decide +kernel
theorem dX5_copyFrom_50 : decode cX5_copyFrom 50 = .ok (.getfield 15, 3) := by decide +kernel
theorem dX5_copyFrom_53 : decode cX5_copyFrom 53 = .ok (.putfield 15, 3) := by decide +kernel
theorem dX5_copyFrom_56 : decode cX5_copyFrom 56 = .ok (.aload_n 0, 1) := by decide +kernel
theorem dX5_copyFrom_57 : decode cX5_copyFrom 57 = .ok (.aload_n 1, 1) := by decide +kernel
theorem dX5_copyFrom_58 : decode cX5_copyFrom 58 = .ok (.getfield 18, 3) := by decide +kernel
theorem dX5_copyFrom_61 : decode cX5_copyFrom 61 = .ok (.putfield 18, 3) := by decide +kernel
theorem dX5_copyFrom_64 : decode cX5_copyFrom 64 = .ok (.return_, 1) := by decide +kernel
theorem dX5_judged_0 : decode cX5_judged 0 = .ok (.bipush 100, 2) := by decide +kernel
theorem dX5_judged_2 : decode cX5_judged 2 = .ok (.bipush 6, 2) := by decide +kernel
theorem dX5_judged_4 : decode cX5_judged 4 = .ok (.iload 4, 2) := by decide +kernel
theorem dX5_judged_6 : decode cX5_judged 6 = .ok (.imul, 1) := by decide +kernel
theorem dX5_judged_7 : decode cX5_judged 7 = .ok (.iadd, 1) := by decide +kernel
theorem dX5_judged_8 : decode cX5_judged 8 = .ok (.istore 5, 2) := by decide +kernel
theorem dX5_judged_10 : decode cX5_judged 10 = .ok (.iload_n 1, 1) := by decide +kernel
theorem dX5_judged_11 : decode cX5_judged 11 = .ok (.iload 5, 2) := by decide +kernel
theorem dX5_judged_13 : decode cX5_judged 13 = .ok (.iconst 2, 1) := by decide +kernel
theorem dX5_judged_14 : decode cX5_judged 14 = .ok (.idiv, 1) := by decide +kernel
theorem dX5_judged_15 : decode cX5_judged 15 = .ok (.if_icmp .ge 5, 3) := by decide +kernel
theorem dX5_judged_18 : decode cX5_judged 18 = .ok (.iconst 5, 1) := by decide +kernel
theorem dX5_judged_19 : decode cX5_judged 19 = .ok (.ireturn, 1) := by decide +kernel
theorem dX5_judged_20 : decode cX5_judged 20 = .ok (.iload_n 3, 1) := by decide +kernel
theorem dX5_judged_21 : decode cX5_judged 21 = .ok (.ifCond .ne 13, 3) := by decide +kernel
theorem dX5_judged_24 : decode cX5_judged 24 = .ok (.iload_n 2, 1) := by decide +kernel
theorem dX5_judged_25 : decode cX5_judged 25 = .ok (.iload_n 1, 1) := by decide +kernel
theorem dX5_judged_26 : decode cX5_judged 26 = .ok (.bipush 40, 2) := by decide +kernel
theorem dX5_judged_28 : decode cX5_judged 28 = .ok (.isub, 1) := by decide +kernel
theorem dX5_judged_29 : decode cX5_judged 29 = .ok (.if_icmp .gt 5, 3) := by decide +kernel
theorem dX5_judged_32 : decode cX5_judged 32 = .ok (.iconst 4, 1) := by decide +kernel
theorem dX5_judged_33 : decode cX5_judged 33 = .ok (.ireturn, 1) := by decide +kernel
theorem dX5_judged_34 : decode cX5_judged 34 = .ok (.aload_n 0, 1) := by decide +kernel
theorem dX5_judged_35 : decode cX5_judged 35 = .ok (.getfield 25, 3) := by decide +kernel
theorem dX5_judged_38 : decode cX5_judged 38 = .ok (.lookupswitch 37 #[(0, 26), (1, 31)], 26) := by decide +kernel
theorem dX5_judged_64 : decode cX5_judged 64 = .ok (.iload_n 3, 1) := by decide +kernel
theorem dX5_judged_65 : decode cX5_judged 65 = .ok (.invokestatic 37, 3) := by decide +kernel
theorem dX5_judged_68 : decode cX5_judged 68 = .ok (.ireturn, 1) := by decide +kernel
theorem dX5_judged_69 : decode cX5_judged 69 = .ok (.iload_n 1, 1) := by decide +kernel
theorem dX5_judged_70 : decode cX5_judged 70 = .ok (.iload_n 2, 1) := by decide +kernel
theorem dX5_judged_71 : decode cX5_judged 71 = .ok (.invokestatic 41, 3) := by decide +kernel
theorem dX5_judged_74 : decode cX5_judged 74 = .ok (.ireturn, 1) := by decide +kernel
theorem dX5_judged_75 : decode cX5_judged 75 = .ok (.iload_n 1, 1) := by decide +kernel
theorem dX5_judged_76 : decode cX5_judged 76 = .ok (.iload_n 2, 1) := by decide +kernel
theorem dX5_judged_77 : decode cX5_judged 77 = .ok (.iload_n 3, 1) := by decide +kernel
theorem dX5_judged_78 : decode cX5_judged 78 = .ok (.invokestatic 45, 3) := by decide +kernel
theorem dX5_judged_81 : decode cX5_judged 81 = .ok (.ireturn, 1) := by decide +kernel
theorem dX5_judgedAsBucket_0 : decode cX5_judgedAsBucket 0 = .ok (.iload_n 0, 1) := by decide +kernel
theorem dX5_judgedAsBucket_1 : decode cX5_judgedAsBucket 1 = .ok (.bipush 30, 2) := by decide +kernel
theorem dX5_judgedAsBucket_3 : decode cX5_judgedAsBucket 3 = .ok (.if_icmp .lt 5, 3) := by decide +kernel
theorem dX5_judgedAsBucket_6 : decode cX5_judgedAsBucket 6 = .ok (.iconst 3, 1) := by decide +kernel
theorem dX5_judgedAsBucket_7 : decode cX5_judgedAsBucket 7 = .ok (.ireturn, 1) := by decide +kernel
theorem dX5_judgedAsBucket_8 : decode cX5_judgedAsBucket 8 = .ok (.iload_n 0, 1) := by decide +kernel
theorem dX5_judgedAsBucket_9 : decode cX5_judgedAsBucket 9 = .ok (.bipush 15, 2) := by decide +kernel
theorem dX5_judgedAsBucket_11 : decode cX5_judgedAsBucket 11 = .ok (.if_icmp .lt 7, 3) := by decide +kernel
theorem dX5_judgedAsBucket_14 : decode cX5_judgedAsBucket 14 = .ok (.iconst 2, 1) := by decide +kernel
theorem dX5_judgedAsBucket_15 : decode cX5_judgedAsBucket 15 = .ok (.goto 4, 3) := by decide +kernel
theorem dX5_judgedAsBucket_18 : decode cX5_judgedAsBucket 18 = .ok (.iconst 1, 1) := by decide +kernel
theorem dX5_judgedAsBucket_19 : decode cX5_judgedAsBucket 19 = .ok (.ireturn, 1) := by decide +kernel
theorem dX5_judgedAsThermostatic_0 : decode cX5_judgedAsThermostatic 0 = .ok (.iload_n 1, 1) := by decide +kernel
theorem dX5_judgedAsThermostatic_1 : decode cX5_judgedAsThermostatic 1 = .ok (.iload_n 0, 1) := by decide +kernel
theorem dX5_judgedAsThermostatic_2 : decode cX5_judgedAsThermostatic 2 = .ok (.iconst 5, 1) := by decide +kernel
theorem dX5_judgedAsThermostatic_3 : decode cX5_judgedAsThermostatic 3 = .ok (.isub, 1) := by decide +kernel
theorem dX5_judgedAsThermostatic_4 : decode cX5_judgedAsThermostatic 4 = .ok (.if_icmp .lt 5, 3) := by decide +kernel
theorem dX5_judgedAsThermostatic_7 : decode cX5_judgedAsThermostatic 7 = .ok (.iconst 3, 1) := by decide +kernel
theorem dX5_judgedAsThermostatic_8 : decode cX5_judgedAsThermostatic 8 = .ok (.ireturn, 1) := by decide +kernel
theorem dX5_judgedAsThermostatic_9 : decode cX5_judgedAsThermostatic 9 = .ok (.iload_n 1, 1) := by decide +kernel
theorem dX5_judgedAsThermostatic_10 : decode cX5_judgedAsThermostatic 10 = .ok (.iload_n 0, 1) := by decide +kernel
theorem dX5_judgedAsThermostatic_11 : decode cX5_judgedAsThermostatic 11 = .ok (.bipush 15, 2) := by decide +kernel
theorem dX5_judgedAsThermostatic_13 : decode cX5_judgedAsThermostatic 13 = .ok (.isub, 1) := by decide +kernel
theorem dX5_judgedAsThermostatic_14 : decode cX5_judgedAsThermostatic 14 = .ok (.if_icmp .lt 7, 3) := by decide +kernel
theorem dX5_judgedAsThermostatic_17 : decode cX5_judgedAsThermostatic 17 = .ok (.iconst 2, 1) := by decide +kernel
theorem dX5_judgedAsThermostatic_18 : decode cX5_judgedAsThermostatic 18 = .ok (.goto 4, 3) := by decide +kernel
theorem dX5_judgedAsThermostatic_21 : decode cX5_judgedAsThermostatic 21 = .ok (.iconst 1, 1) := by decide +kernel
theorem dX5_judgedAsThermostatic_22 : decode cX5_judgedAsThermostatic 22 = .ok (.ireturn, 1) := by decide +kernel
theorem dX5_judgedAsDisc_0 : decode cX5_judgedAsDisc 0 = .ok (.iload_n 2, 1) := by decide +kernel
theorem dX5_judgedAsDisc_1 : decode cX5_judgedAsDisc 1 = .ok (.bipush 40, 2) := by decide +kernel
theorem dX5_judgedAsDisc_3 : decode cX5_judgedAsDisc 3 = .ok (.if_icmp .ge 10, 3) := by decide +kernel
theorem dX5_judgedAsDisc_6 : decode cX5_judgedAsDisc 6 = .ok (.iload_n 1, 1) := by decide +kernel
theorem dX5_judgedAsDisc_7 : decode cX5_judgedAsDisc 7 = .ok (.iload_n 0, 1) := by decide +kernel
theorem dX5_judgedAsDisc_8 : decode cX5_judgedAsDisc 8 = .ok (.iconst 2, 1) := by decide +kernel
theorem dX5_judgedAsDisc_9 : decode cX5_judgedAsDisc 9 = .ok (.isub, 1) := by decide +kernel
theorem dX5_judgedAsDisc_10 : decode cX5_judgedAsDisc 10 = .ok (.if_icmp .lt 5, 3) := by decide +kernel
theorem dX5_judgedAsDisc_13 : decode cX5_judgedAsDisc 13 = .ok (.iconst 3, 1) := by decide +kernel
theorem dX5_judgedAsDisc_14 : decode cX5_judgedAsDisc 14 = .ok (.ireturn, 1) := by decide +kernel
theorem dX5_judgedAsDisc_15 : decode cX5_judgedAsDisc 15 = .ok (.iload_n 2, 1) := by decide +kernel
theorem dX5_judgedAsDisc_16 : decode cX5_judgedAsDisc 16 = .ok (.bipush 20, 2) := by decide +kernel
theorem dX5_judgedAsDisc_18 : decode cX5_judgedAsDisc 18 = .ok (.if_icmp .lt 7, 3) := by decide +kernel
theorem dX5_judgedAsDisc_21 : decode cX5_judgedAsDisc 21 = .ok (.iconst 2, 1) := by decide +kernel
theorem dX5_judgedAsDisc_22 : decode cX5_judgedAsDisc 22 = .ok (.goto 4, 3) := by decide +kernel
theorem dX5_judgedAsDisc_25 : decode cX5_judgedAsDisc 25 = .ok (.iconst 1, 1) := by decide +kernel
theorem dX5_judgedAsDisc_26 : decode cX5_judgedAsDisc 26 = .ok (.ireturn, 1) := by decide +kernel
theorem dX5_lossUnder_0 : decode cX5_lossUnder 0 = .ok (.aload_n 0, 1) := by decide +kernel
theorem dX5_lossUnder_1 : decode cX5_lossUnder 1 = .ok (.getfield 28, 3) := by decide +kernel
theorem dX5_lossUnder_4 : decode cX5_lossUnder 4 = .ok (.aload_n 0, 1) := by decide +kernel
theorem dX5_lossUnder_5 : decode cX5_lossUnder 5 = .ok (.getfield 28, 3) := by decide +kernel
theorem dX5_lossUnder_8 : decode cX5_lossUnder 8 = .ok (.imul, 1) := by decide +kernel
theorem dX5_lossUnder_9 : decode cX5_lossUnder 9 = .ok (.iload_n 1, 1) := by decide +kernel
theorem dX5_lossUnder_10 : decode cX5_lossUnder 10 = .ok (.iconst 1, 1) := by decide +kernel
theorem dX5_lossUnder_11 : decode cX5_lossUnder 11 = .ok (.iadd, 1) := by decide +kernel
theorem dX5_lossUnder_12 : decode cX5_lossUnder 12 = .ok (.imul, 1) := by decide +kernel
theorem dX5_lossUnder_13 : decode cX5_lossUnder 13 = .ok (.bipush 10, 2) := by decide +kernel
theorem dX5_lossUnder_15 : decode cX5_lossUnder 15 = .ok (.imul, 1) := by decide +kernel
theorem dX5_lossUnder_16 : decode cX5_lossUnder 16 = .ok (.istore_n 2, 1) := by decide +kernel
theorem dX5_lossUnder_17 : decode cX5_lossUnder 17 = .ok (.aload_n 0, 1) := by decide +kernel
theorem dX5_lossUnder_18 : decode cX5_lossUnder 18 = .ok (.getfield 9, 3) := by decide +kernel
theorem dX5_lossUnder_21 : decode cX5_lossUnder 21 = .ok (.lookupswitch 33 #[(2, 27), (3, 31)], 27) := by decide +kernel
theorem dX5_lossUnder_48 : decode cX5_lossUnder 48 = .ok (.iload_n 2, 1) := by decide +kernel
theorem dX5_lossUnder_49 : decode cX5_lossUnder 49 = .ok (.iconst 4, 1) := by decide +kernel
theorem dX5_lossUnder_50 : decode cX5_lossUnder 50 = .ok (.idiv, 1) := by decide +kernel
theorem dX5_lossUnder_51 : decode cX5_lossUnder 51 = .ok (.ireturn, 1) := by decide +kernel
theorem dX5_lossUnder_52 : decode cX5_lossUnder 52 = .ok (.iload_n 2, 1) := by decide +kernel
theorem dX5_lossUnder_53 : decode cX5_lossUnder 53 = .ok (.ireturn, 1) := by decide +kernel
theorem dX5_lossUnder_54 : decode cX5_lossUnder 54 = .ok (.iconst 0, 1) := by decide +kernel
theorem dX5_lossUnder_55 : decode cX5_lossUnder 55 = .ok (.ireturn, 1) := by decide +kernel
theorem dX5_costOfRepair_0 : decode cX5_costOfRepair 0 = .ok (.aload_n 0, 1) := by decide +kernel
theorem dX5_costOfRepair_1 : decode cX5_costOfRepair 1 = .ok (.getfield 25, 3) := by decide +kernel
theorem dX5_costOfRepair_4 : decode cX5_costOfRepair 4 = .ok (.iconst 2, 1) := by decide +kernel
theorem dX5_costOfRepair_5 : decode cX5_costOfRepair 5 = .ok (.if_icmp .ne 16, 3) := by decide +kernel
theorem dX5_costOfRepair_8 : decode cX5_costOfRepair 8 = .ok (.bipush 30, 2) := by decide +kernel
theorem dX5_costOfRepair_10 : decode cX5_costOfRepair 10 = .ok (.bipush 10, 2) := by decide +kernel
theorem dX5_costOfRepair_12 : decode cX5_costOfRepair 12 = .ok (.aload_n 0, 1) := by decide +kernel
theorem dX5_costOfRepair_13 : decode cX5_costOfRepair 13 = .ok (.getfield 28, 3) := by decide +kernel
theorem dX5_costOfRepair_16 : decode cX5_costOfRepair 16 = .ok (.imul, 1) := by decide +kernel
theorem dX5_costOfRepair_17 : decode cX5_costOfRepair 17 = .ok (.iadd, 1) := by decide +kernel
theorem dX5_costOfRepair_18 : decode cX5_costOfRepair 18 = .ok (.goto 13, 3) := by decide +kernel
theorem dX5_costOfRepair_21 : decode cX5_costOfRepair 21 = .ok (.bipush 50, 2) := by decide +kernel
theorem dX5_costOfRepair_23 : decode cX5_costOfRepair 23 = .ok (.bipush 20, 2) := by decide +kernel
theorem dX5_costOfRepair_25 : decode cX5_costOfRepair 25 = .ok (.aload_n 0, 1) := by decide +kernel
theorem dX5_costOfRepair_26 : decode cX5_costOfRepair 26 = .ok (.getfield 28, 3) := by decide +kernel
theorem dX5_costOfRepair_29 : decode cX5_costOfRepair 29 = .ok (.imul, 1) := by decide +kernel
theorem dX5_costOfRepair_30 : decode cX5_costOfRepair 30 = .ok (.iadd, 1) := by decide +kernel
theorem dX5_costOfRepair_31 : decode cX5_costOfRepair 31 = .ok (.ireturn, 1) := by decide +kernel
theorem dX5_wayFrom_0 : decode cX5_wayFrom 0 = .ok (.aload_n 0, 1) := by decide +kernel
theorem dX5_wayFrom_1 : decode cX5_wayFrom 1 = .ok (.getfield 31, 3) := by decide +kernel
theorem dX5_wayFrom_4 : decode cX5_wayFrom 4 = .ok (.iload_n 1, 1) := by decide +kernel
theorem dX5_wayFrom_5 : decode cX5_wayFrom 5 = .ok (.isub, 1) := by decide +kernel
theorem dX5_wayFrom_6 : decode cX5_wayFrom 6 = .ok (.invokestatic 49, 3) := by decide +kernel
theorem dX5_wayFrom_9 : decode cX5_wayFrom 9 = .ok (.aload_n 0, 1) := by decide +kernel
theorem dX5_wayFrom_10 : decode cX5_wayFrom 10 = .ok (.getfield 34, 3) := by decide +kernel
theorem dX5_wayFrom_13 : decode cX5_wayFrom 13 = .ok (.iload_n 2, 1) := by decide +kernel
theorem dX5_wayFrom_14 : decode cX5_wayFrom 14 = .ok (.isub, 1) := by decide +kernel
theorem dX5_wayFrom_15 : decode cX5_wayFrom 15 = .ok (.invokestatic 49, 3) := by decide +kernel
theorem dX5_wayFrom_18 : decode cX5_wayFrom 18 = .ok (.iadd, 1) := by decide +kernel
theorem dX5_wayFrom_19 : decode cX5_wayFrom 19 = .ok (.ireturn, 1) := by decide +kernel
theorem dJ9_abs_0f7a4_0 : decode cJ9_abs_0f7a4 0 = .ok (.iload_n 0, 1) := by decide +kernel
theorem dJ9_abs_0f7a4_1 : decode cJ9_abs_0f7a4 1 = .ok (.ifCond .ge 8, 3) := by decide +kernel
theorem dJ9_abs_0f7a4_4 : decode cJ9_abs_0f7a4 4 = .ok (.iload_n 0, 1) := by decide +kernel
theorem dJ9_abs_0f7a4_5 : decode cJ9_abs_0f7a4 5 = .ok (.ineg, 1) := by decide +kernel
theorem dJ9_abs_0f7a4_6 : decode cJ9_abs_0f7a4 6 = .ok (.goto 4, 3) := by decide +kernel
theorem dJ9_abs_0f7a4_9 : decode cJ9_abs_0f7a4 9 = .ok (.iload_n 0, 1) := by decide +kernel
theorem dJ9_abs_0f7a4_10 : decode cJ9_abs_0f7a4 10 = .ok (.ireturn, 1) := by decide +kernel
theorem dJ7_fill_53178_0 : decode cJ7_fill_53178 0 = .ok (.iconst 0, 1) := by decide +kernel
theorem dJ7_fill_53178_1 : decode cJ7_fill_53178 1 = .ok (.istore_n 2, 1) := by decide +kernel
theorem dJ7_fill_53178_2 : decode cJ7_fill_53178 2 = .ok (.aload_n 0, 1) := by decide +kernel
theorem dJ7_fill_53178_3 : decode cJ7_fill_53178 3 = .ok (.arraylength, 1) := by decide +kernel
theorem dJ7_fill_53178_4 : decode cJ7_fill_53178 4 = .ok (.istore_n 3, 1) := by decide +kernel
theorem dJ7_fill_53178_5 : decode cJ7_fill_53178 5 = .ok (.iload_n 2, 1) := by decide +kernel
theorem dJ7_fill_53178_6 : decode cJ7_fill_53178 6 = .ok (.iload_n 3, 1) := by decide +kernel
theorem dJ7_fill_53178_7 : decode cJ7_fill_53178 7 = .ok (.if_icmp .ge 13, 3) := by decide +kernel
theorem dJ7_fill_53178_10 : decode cJ7_fill_53178 10 = .ok (.aload_n 0, 1) := by decide +kernel
theorem dJ7_fill_53178_11 : decode cJ7_fill_53178 11 = .ok (.iload_n 2, 1) := by decide +kernel
theorem dJ7_fill_53178_12 : decode cJ7_fill_53178 12 = .ok (.iload_n 1, 1) := by decide +kernel
theorem dJ7_fill_53178_13 : decode cJ7_fill_53178 13 = .ok (.iastore, 1) := by decide +kernel
theorem dJ7_fill_53178_14 : decode cJ7_fill_53178 14 = .ok (.iinc 2 1, 3) := by decide +kernel
theorem dJ7_fill_53178_17 : decode cJ7_fill_53178 17 = .ok (.goto (-12), 3) := by decide +kernel
theorem dJ7_fill_53178_20 : decode cJ7_fill_53178 20 = .ok (.return_, 1) := by decide +kernel
