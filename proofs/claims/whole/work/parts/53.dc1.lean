/-! ===== what stands at each place: the class but its face, and what it calls of the JDK ===== -/
theorem dX0_init_0 : decode cX0_init 0 = .ok (.aload_n 0, 1) := by decide +kernel
theorem dX0_init_1 : decode cX0_init 1 = .ok (.invokespecial 3, 3) := by decide +kernel
theorem dX0_init_4 : decode cX0_init 4 = .ok (.aload_n 0, 1) := by decide +kernel
theorem dX0_init_5 : decode cX0_init 5 = .ok (.bipush 12, 2) := by decide +kernel
theorem dX0_init_7 : decode cX0_init 7 = .ok (.newarray .int, 2) := by decide +kernel
theorem dX0_init_9 : decode cX0_init 9 = .ok (.putfield 9, 3) := by decide +kernel
theorem dX0_init_12 : decode cX0_init 12 = .ok (.aload_n 0, 1) := by decide +kernel
theorem dX0_init_13 : decode cX0_init 13 = .ok (.bipush 12, 2) := by decide +kernel
theorem dX0_init_15 : decode cX0_init 15 = .ok (.newarray .int, 2) := by decide +kernel
theorem dX0_init_17 : decode cX0_init 17 = .ok (.putfield 15, 3) := by decide +kernel
theorem dX0_init_20 : decode cX0_init 20 = .ok (.aload_n 0, 1) := by decide +kernel
theorem dX0_init_21 : decode cX0_init 21 = .ok (.iconst 0, 1) := by decide +kernel
theorem dX0_init_22 : decode cX0_init 22 = .ok (.putfield 18, 3) := by decide +kernel
theorem dX0_init_25 : decode cX0_init 25 = .ok (.return_, 1) := by decide +kernel
theorem dX0_readFrom_0 : decode cX0_readFrom 0 = .ok (.aload_n 0, 1) := by decide +kernel
theorem dX0_readFrom_1 : decode cX0_readFrom 1 = .ok (.iconst 0, 1) := by decide +kernel
theorem dX0_readFrom_2 : decode cX0_readFrom 2 = .ok (.putfield 18, 3) := by decide +kernel
theorem dX0_readFrom_5 : decode cX0_readFrom 5 = .ok (.iconst 0, 1) := by decide +kernel
theorem dX0_readFrom_6 : decode cX0_readFrom 6 = .ok (.istore_n 2, 1) := by decide +kernel
theorem dX0_readFrom_7 : decode cX0_readFrom 7 = .ok (.iload_n 2, 1) := by decide +kernel
theorem dX0_readFrom_8 : decode cX0_readFrom 8 = .ok (.bipush 12, 2) := by decide +kernel
theorem dX0_readFrom_10 : decode cX0_readFrom 10 = .ok (.if_icmp .gt 28, 3) := by decide +kernel
theorem dX0_readFrom_13 : decode cX0_readFrom 13 = .ok (.aload_n 1, 1) := by decide +kernel
theorem dX0_readFrom_14 : decode cX0_readFrom 14 = .ok (.getfield 22, 3) := by decide +kernel
theorem dX0_readFrom_17 : decode cX0_readFrom 17 = .ok (.ifCond .ne 5, 3) := by decide +kernel
theorem dX0_readFrom_20 : decode cX0_readFrom 20 = .ok (.iconst 1, 1) := by decide +kernel
theorem dX0_readFrom_21 : decode cX0_readFrom 21 = .ok (.ireturn, 1) := by decide +kernel
theorem dX0_readFrom_22 : decode cX0_readFrom 22 = .ok (.aload_n 0, 1) := by decide +kernel
theorem dX0_readFrom_23 : decode cX0_readFrom 23 = .ok (.aload_n 1, 1) := by decide +kernel
theorem dX0_readFrom_24 : decode cX0_readFrom 24 = .ok (.invokevirtual 27, 3) := by decide +kernel
theorem dX0_readFrom_27 : decode cX0_readFrom 27 = .ok (.ifCond .ne 5, 3) := by decide +kernel
theorem dX0_readFrom_30 : decode cX0_readFrom 30 = .ok (.iconst 0, 1) := by decide +kernel
theorem dX0_readFrom_31 : decode cX0_readFrom 31 = .ok (.ireturn, 1) := by decide +kernel
theorem dX0_readFrom_32 : decode cX0_readFrom 32 = .ok (.iinc 2 1, 3) := by decide +kernel
theorem dX0_readFrom_35 : decode cX0_readFrom 35 = .ok (.goto (-28), 3) := by decide +kernel
theorem dX0_readFrom_38 : decode cX0_readFrom 38 = .ok (.iconst 0, 1) := by decide +kernel
theorem dX0_readFrom_39 : decode cX0_readFrom 39 = .ok (.ireturn, 1) := by decide +kernel
theorem dX0_readLine_0 : decode cX0_readLine 0 = .ok (.aload_n 1, 1) := by decide +kernel
theorem dX0_readLine_1 : decode cX0_readLine 1 = .ok (.iconst 0, 1) := by decide +kernel
theorem dX0_readLine_2 : decode cX0_readLine 2 = .ok (.bipush 99, 2) := by decide +kernel
theorem dX0_readLine_4 : decode cX0_readLine 4 = .ok (.invokevirtual 31, 3) := by decide +kernel
theorem dX0_readLine_7 : decode cX0_readLine 7 = .ok (.ifCond .ne 5, 3) := by decide +kernel
theorem dX0_readLine_10 : decode cX0_readLine 10 = .ok (.iconst 0, 1) := by decide +kernel
theorem dX0_readLine_11 : decode cX0_readLine 11 = .ok (.ireturn, 1) := by decide +kernel
theorem dX0_readLine_12 : decode cX0_readLine 12 = .ok (.aload_n 1, 1) := by decide +kernel
theorem dX0_readLine_13 : decode cX0_readLine 13 = .ok (.getfield 35, 3) := by decide +kernel
theorem dX0_readLine_16 : decode cX0_readLine 16 = .ok (.istore_n 2, 1) := by decide +kernel
theorem dX0_readLine_17 : decode cX0_readLine 17 = .ok (.aload_n 0, 1) := by decide +kernel
theorem dX0_readLine_18 : decode cX0_readLine 18 = .ok (.iload_n 2, 1) := by decide +kernel
theorem dX0_readLine_19 : decode cX0_readLine 19 = .ok (.invokevirtual 38, 3) := by decide +kernel
theorem dX0_readLine_22 : decode cX0_readLine 22 = .ok (.ifCond .eq 9, 3) := by decide +kernel
theorem dX0_readLine_25 : decode cX0_readLine 25 = .ok (.aload_n 1, 1) := by decide +kernel
theorem dX0_readLine_26 : decode cX0_readLine 26 = .ok (.iconst 2, 1) := by decide +kernel
theorem dX0_readLine_27 : decode cX0_readLine 27 = .ok (.invokevirtual 42, 3) := by decide +kernel
theorem dX0_readLine_30 : decode cX0_readLine 30 = .ok (.ireturn, 1) := by decide +kernel
theorem dX0_readLine_31 : decode cX0_readLine 31 = .ok (.aload_n 0, 1) := by decide +kernel
theorem dX0_readLine_32 : decode cX0_readLine 32 = .ok (.getfield 18, 3) := by decide +kernel
theorem dX0_readLine_35 : decode cX0_readLine 35 = .ok (.bipush 12, 2) := by decide +kernel
theorem dX0_readLine_37 : decode cX0_readLine 37 = .ok (.if_icmp .lt 9, 3) := by decide +kernel
theorem dX0_readLine_40 : decode cX0_readLine 40 = .ok (.aload_n 1, 1) := by decide +kernel
theorem dX0_readLine_41 : decode cX0_readLine 41 = .ok (.iconst 3, 1) := by decide +kernel
theorem dX0_readLine_42 : decode cX0_readLine 42 = .ok (.invokevirtual 42, 3) := by decide +kernel
theorem dX0_readLine_45 : decode cX0_readLine 45 = .ok (.ireturn, 1) := by decide +kernel
theorem dX0_readLine_46 : decode cX0_readLine 46 = .ok (.aload_n 1, 1) := by decide +kernel
theorem dX0_readLine_47 : decode cX0_readLine 47 = .ok (.invokevirtual 45, 3) := by decide +kernel
theorem dX0_readLine_50 : decode cX0_readLine 50 = .ok (.aload_n 1, 1) := by decide +kernel
theorem dX0_readLine_51 : decode cX0_readLine 51 = .ok (.iconst 0, 1) := by decide +kernel
theorem dX0_readLine_52 : decode cX0_readLine 52 = .ok (.iconst 1, 1) := by decide +kernel
theorem dX0_readLine_53 : decode cX0_readLine 53 = .ok (.invokevirtual 48, 3) := by decide +kernel
theorem dX0_readLine_56 : decode cX0_readLine 56 = .ok (.istore_n 3, 1) := by decide +kernel
theorem dX0_readLine_57 : decode cX0_readLine 57 = .ok (.iload_n 3, 1) := by decide +kernel
theorem dX0_readLine_58 : decode cX0_readLine 58 = .ok (.iconst (-1), 1) := by decide +kernel
theorem dX0_readLine_59 : decode cX0_readLine 59 = .ok (.if_icmp .eq 12, 3) := by decide +kernel
theorem dX0_readLine_62 : decode cX0_readLine 62 = .ok (.aload_n 1, 1) := by decide +kernel
theorem dX0_readLine_63 : decode cX0_readLine 63 = .ok (.bipush 59, 2) := by decide +kernel
theorem dX0_readLine_65 : decode cX0_readLine 65 = .ok (.invokevirtual 52, 3) := by decide +kernel
theorem dX0_readLine_68 : decode cX0_readLine 68 = .ok (.ifCond .ne 5, 3) := by decide +kernel
theorem dX0_readLine_71 : decode cX0_readLine 71 = .ok (.iconst 0, 1) := by decide +kernel
theorem dX0_readLine_72 : decode cX0_readLine 72 = .ok (.ireturn, 1) := by decide +kernel
theorem dX0_readLine_73 : decode cX0_readLine 73 = .ok (.aload_n 0, 1) := by decide +kernel
theorem dX0_readLine_74 : decode cX0_readLine 74 = .ok (.getfield 9, 3) := by decide +kernel
theorem dX0_readLine_77 : decode cX0_readLine 77 = .ok (.aload_n 0, 1) := by decide +kernel
theorem dX0_readLine_78 : decode cX0_readLine 78 = .ok (.getfield 18, 3) := by decide +kernel
theorem dX0_readLine_81 : decode cX0_readLine 81 = .ok (.iload_n 2, 1) := by decide +kernel
theorem dX0_readLine_82 : decode cX0_readLine 82 = .ok (.iastore, 1) := by decide +kernel
theorem dX0_readLine_83 : decode cX0_readLine 83 = .ok (.aload_n 0, 1) := by decide +kernel
theorem dX0_readLine_84 : decode cX0_readLine 84 = .ok (.getfield 15, 3) := by decide +kernel
theorem dX0_readLine_87 : decode cX0_readLine 87 = .ok (.aload_n 0, 1) := by decide +kernel
theorem dX0_readLine_88 : decode cX0_readLine 88 = .ok (.getfield 18, 3) := by decide +kernel
theorem dX0_readLine_91 : decode cX0_readLine 91 = .ok (.iload_n 3, 1) := by decide +kernel
theorem dX0_readLine_92 : decode cX0_readLine 92 = .ok (.iastore, 1) := by decide +kernel
theorem dX0_readLine_93 : decode cX0_readLine 93 = .ok (.aload_n 0, 1) := by decide +kernel
theorem dX0_readLine_94 : decode cX0_readLine 94 = .ok (.dup, 1) := by decide +kernel
theorem dX0_readLine_95 : decode cX0_readLine 95 = .ok (.getfield 18, 3) := by decide +kernel
theorem dX0_readLine_98 : decode cX0_readLine 98 = .ok (.iconst 1, 1) := by decide +kernel
theorem dX0_readLine_99 : decode cX0_readLine 99 = .ok (.iadd, 1) := by decide +kernel
theorem dX0_readLine_100 : decode cX0_readLine 100 = .ok (.putfield 18, 3) := by decide +kernel
theorem dX0_readLine_103 : decode cX0_readLine 103 = .ok (.iconst 1, 1) := by decide +kernel
theorem dX0_readLine_104 : decode cX0_readLine 104 = .ok (.ireturn, 1) := by decide +kernel
theorem dX0_tells_0 : decode cX0_tells 0 = .ok (.iconst 0, 1) := by decide +kernel
theorem dX0_tells_1 : decode cX0_tells 1 = .ok (.istore_n 2, 1) := by decide +kernel
theorem dX0_tells_2 : decode cX0_tells 2 = .ok (.iload_n 2, 1) := by decide +kernel
theorem dX0_tells_3 : decode cX0_tells 3 = .ok (.aload_n 0, 1) := by decide +kernel
theorem dX0_tells_4 : decode cX0_tells 4 = .ok (.getfield 18, 3) := by decide +kernel
theorem dX0_tells_7 : decode cX0_tells 7 = .ok (.if_icmp .ge 21, 3) := by decide +kernel
theorem dX0_tells_10 : decode cX0_tells 10 = .ok (.aload_n 0, 1) := by decide +kernel
theorem dX0_tells_11 : decode cX0_tells 11 = .ok (.getfield 9, 3) := by decide +kernel
theorem dX0_tells_14 : decode cX0_tells 14 = .ok (.iload_n 2, 1) := by decide +kernel
theorem dX0_tells_15 : decode cX0_tells 15 = .ok (.iaload, 1) := by decide +kernel
theorem dX0_tells_16 : decode cX0_tells 16 = .ok (.iload_n 1, 1) := by decide +kernel
theorem dX0_tells_17 : decode cX0_tells 17 = .ok (.if_icmp .ne 5, 3) := by decide +kernel
theorem dX0_tells_20 : decode cX0_tells 20 = .ok (.iconst 1, 1) := by decide +kernel
theorem dX0_tells_21 : decode cX0_tells 21 = .ok (.ireturn, 1) := by decide +kernel
theorem dX0_tells_22 : decode cX0_tells 22 = .ok (.iinc 2 1, 3) := by decide +kernel
theorem dX0_tells_25 : decode cX0_tells 25 = .ok (.goto (-23), 3) := by decide +kernel
theorem dX0_tells_28 : decode cX0_tells 28 = .ok (.iconst 0, 1) := by decide +kernel
theorem dX0_tells_29 : decode cX0_tells 29 = .ok (.ireturn, 1) := by decide +kernel
theorem dX1_init_0 : decode cX1_init 0 = .ok (.aload_n 0, 1) := by decide +kernel
theorem dX1_init_1 : decode cX1_init 1 = .ok (.invokespecial 3, 3) := by decide +kernel
theorem dX1_init_4 : decode cX1_init 4 = .ok (.aload_n 0, 1) := by decide +kernel
theorem dX1_init_5 : decode cX1_init 5 = .ok (.bipush 20, 2) := by decide +kernel
theorem dX1_init_7 : decode cX1_init 7 = .ok (.newarray .int, 2) := by decide +kernel
theorem dX1_init_9 : decode cX1_init 9 = .ok (.putfield 9, 3) := by decide +kernel
theorem dX1_init_12 : decode cX1_init 12 = .ok (.aload_n 0, 1) := by decide +kernel
theorem dX1_init_13 : decode cX1_init 13 = .ok (.bipush 20, 2) := by decide +kernel
theorem dX1_init_15 : decode cX1_init 15 = .ok (.newarray .int, 2) := by decide +kernel
theorem dX1_init_17 : decode cX1_init 17 = .ok (.putfield 15, 3) := by decide +kernel
theorem dX1_init_20 : decode cX1_init 20 = .ok (.aload_n 0, 1) := by decide +kernel
theorem dX1_init_21 : decode cX1_init 21 = .ok (.bipush 20, 2) := by decide +kernel
theorem dX1_init_23 : decode cX1_init 23 = .ok (.newarray .int, 2) := by decide +kernel
theorem dX1_init_25 : decode cX1_init 25 = .ok (.putfield 18, 3) := by decide +kernel
theorem dX1_init_28 : decode cX1_init 28 = .ok (.aload_n 0, 1) := by decide +kernel
theorem dX1_init_29 : decode cX1_init 29 = .ok (.bipush 20, 2) := by decide +kernel
theorem dX1_init_31 : decode cX1_init 31 = .ok (.newarray .int, 2) := by decide +kernel
theorem dX1_init_33 : decode cX1_init 33 = .ok (.putfield 21, 3) := by decide +kernel
theorem dX1_init_36 : decode cX1_init 36 = .ok (.aload_n 0, 1) := by decide +kernel
theorem dX1_init_37 : decode cX1_init 37 = .ok (.iconst 0, 1) := by decide +kernel
theorem dX1_init_38 : decode cX1_init 38 = .ok (.putfield 24, 3) := by decide +kernel
theorem dX1_init_41 : decode cX1_init 41 = .ok (.aload_n 0, 1) := by decide +kernel
theorem dX1_init_42 : decode cX1_init 42 = .ok (.iconst 3, 1) := by decide +kernel
theorem dX1_init_43 : decode cX1_init 43 = .ok (.bipush 106, 2) := by decide +kernel
theorem dX1_init_45 : decode cX1_init 45 = .ok (.multianewarray 28 2, 4) := by decide +kernel
theorem dX1_init_49 : decode cX1_init 49 = .ok (.putfield 30, 3) := by decide +kernel
theorem dX1_init_52 : decode cX1_init 52 = .ok (.aload_n 0, 1) := by decide +kernel
theorem dX1_init_53 : decode cX1_init 53 = .ok (.iconst 3, 1) := by decide +kernel
theorem dX1_init_54 : decode cX1_init 54 = .ok (.newarray .int, 2) := by decide +kernel
theorem dX1_init_56 : decode cX1_init 56 = .ok (.putfield 33, 3) := by decide +kernel
theorem dX1_init_59 : decode cX1_init 59 = .ok (.aload_n 0, 1) := by decide +kernel
theorem dX1_init_60 : decode cX1_init 60 = .ok (.iconst 0, 1) := by decide +kernel
theorem dX1_init_61 : decode cX1_init 61 = .ok (.putfield 36, 3) := by decide +kernel
theorem dX1_init_64 : decode cX1_init 64 = .ok (.return_, 1) := by decide +kernel
theorem dX1_forgetAll_0 : decode cX1_forgetAll 0 = .ok (.aload_n 0, 1) := by decide +kernel
theorem dX1_forgetAll_1 : decode cX1_forgetAll 1 = .ok (.iconst 0, 1) := by decide +kernel
theorem dX1_forgetAll_2 : decode cX1_forgetAll 2 = .ok (.putfield 24, 3) := by decide +kernel
theorem dX1_forgetAll_5 : decode cX1_forgetAll 5 = .ok (.aload_n 0, 1) := by decide +kernel
theorem dX1_forgetAll_6 : decode cX1_forgetAll 6 = .ok (.iconst 0, 1) := by decide +kernel
theorem dX1_forgetAll_7 : decode cX1_forgetAll 7 = .ok (.putfield 36, 3) := by decide +kernel
theorem dX1_forgetAll_10 : decode cX1_forgetAll 10 = .ok (.return_, 1) := by decide +kernel
theorem dX1_make_0 : decode cX1_make 0 = .ok (.aload_n 0, 1) := by decide +kernel
theorem dX1_make_1 : decode cX1_make 1 = .ok (.getfield 24, 3) := by decide +kernel
theorem dX1_make_4 : decode cX1_make 4 = .ok (.bipush 20, 2) := by decide +kernel
theorem dX1_make_6 : decode cX1_make 6 = .ok (.if_icmp .lt 5, 3) := by decide +kernel
theorem dX1_make_9 : decode cX1_make 9 = .ok (.iconst 0, 1) := by decide +kernel
theorem dX1_make_10 : decode cX1_make 10 = .ok (.ireturn, 1) := by decide +kernel
theorem dX1_make_11 : decode cX1_make 11 = .ok (.aload_n 0, 1) := by decide +kernel
theorem dX1_make_12 : decode cX1_make 12 = .ok (.getfield 9, 3) := by decide +kernel
theorem dX1_make_15 : decode cX1_make 15 = .ok (.aload_n 0, 1) := by decide +kernel
theorem dX1_make_16 : decode cX1_make 16 = .ok (.getfield 24, 3) := by decide +kernel
theorem dX1_make_19 : decode cX1_make 19 = .ok (.iload_n 2, 1) := by decide +kernel
theorem dX1_make_20 : decode cX1_make 20 = .ok (.iastore, 1) := by decide +kernel
theorem dX1_make_21 : decode cX1_make 21 = .ok (.aload_n 0, 1) := by decide +kernel
theorem dX1_make_22 : decode cX1_make 22 = .ok (.getfield 15, 3) := by decide +kernel
theorem dX1_make_25 : decode cX1_make 25 = .ok (.aload_n 0, 1) := by decide +kernel
theorem dX1_make_26 : decode cX1_make 26 = .ok (.getfield 24, 3) := by decide +kernel
theorem dX1_make_29 : decode cX1_make 29 = .ok (.iload_n 3, 1) := by decide +kernel
theorem dX1_make_30 : decode cX1_make 30 = .ok (.iastore, 1) := by decide +kernel
theorem dX1_make_31 : decode cX1_make 31 = .ok (.aload_n 0, 1) := by decide +kernel
theorem dX1_make_32 : decode cX1_make 32 = .ok (.getfield 18, 3) := by decide +kernel
theorem dX1_make_35 : decode cX1_make 35 = .ok (.aload_n 0, 1) := by decide +kernel
theorem dX1_make_36 : decode cX1_make 36 = .ok (.getfield 24, 3) := by decide +kernel
theorem dX1_make_39 : decode cX1_make 39 = .ok (.aload_n 1, 1) := by decide +kernel
theorem dX1_make_40 : decode cX1_make 40 = .ok (.iload_n 2, 1) := by decide +kernel
theorem dX1_make_41 : decode cX1_make 41 = .ok (.iload_n 3, 1) := by decide +kernel
theorem dX1_make_42 : decode cX1_make 42 = .ok (.invokestatic 39, 3) := by decide +kernel
theorem dX1_make_45 : decode cX1_make 45 = .ok (.iastore, 1) := by decide +kernel
theorem dX1_make_46 : decode cX1_make 46 = .ok (.aload_n 0, 1) := by decide +kernel
theorem dX1_make_47 : decode cX1_make 47 = .ok (.getfield 21, 3) := by decide +kernel
theorem dX1_make_50 : decode cX1_make 50 = .ok (.aload_n 0, 1) := by decide +kernel
theorem dX1_make_51 : decode cX1_make 51 = .ok (.getfield 24, 3) := by decide +kernel
theorem dX1_make_54 : decode cX1_make 54 = .ok (.aload_n 1, 1) := by decide +kernel
theorem dX1_make_55 : decode cX1_make 55 = .ok (.iload_n 2, 1) := by decide +kernel
theorem dX1_make_56 : decode cX1_make 56 = .ok (.iload_n 3, 1) := by decide +kernel
theorem dX1_make_57 : decode cX1_make 57 = .ok (.invokestatic 43, 3) := by decide +kernel
theorem dX1_make_60 : decode cX1_make 60 = .ok (.iastore, 1) := by decide +kernel
theorem dX1_make_61 : decode cX1_make 61 = .ok (.aload_n 0, 1) := by decide +kernel
theorem dX1_make_62 : decode cX1_make 62 = .ok (.dup, 1) := by decide +kernel
theorem dX1_make_63 : decode cX1_make 63 = .ok (.getfield 24, 3) := by decide +kernel
theorem dX1_make_66 : decode cX1_make 66 = .ok (.iconst 1, 1) := by decide +kernel
theorem dX1_make_67 : decode cX1_make 67 = .ok (.iadd, 1) := by decide +kernel
theorem dX1_make_68 : decode cX1_make 68 = .ok (.putfield 24, 3) := by decide +kernel
theorem dX1_make_71 : decode cX1_make 71 = .ok (.aload_n 1, 1) := by decide +kernel
theorem dX1_make_72 : decode cX1_make 72 = .ok (.iload_n 2, 1) := by decide +kernel
theorem dX1_make_73 : decode cX1_make 73 = .ok (.iload_n 3, 1) := by decide +kernel
theorem dX1_make_74 : decode cX1_make 74 = .ok (.iload 4, 2) := by decide +kernel
theorem dX1_make_76 : decode cX1_make 76 = .ok (.iload 5, 2) := by decide +kernel
theorem dX1_make_78 : decode cX1_make 78 = .ok (.invokestatic 46, 3) := by decide +kernel
theorem dX1_make_81 : decode cX1_make 81 = .ok (.iconst 1, 1) := by decide +kernel
theorem dX1_make_82 : decode cX1_make 82 = .ok (.ireturn, 1) := by decide +kernel
theorem dX1_takeBack_0 : decode cX1_takeBack 0 = .ok (.aload_n 0, 1) := by decide +kernel
theorem dX1_takeBack_1 : decode cX1_takeBack 1 = .ok (.getfield 24, 3) := by decide +kernel
theorem dX1_takeBack_4 : decode cX1_takeBack 4 = .ok (.ifCond .gt 5, 3) := by decide +kernel
theorem dX1_takeBack_7 : decode cX1_takeBack 7 = .ok (.iconst 0, 1) := by decide +kernel
theorem dX1_takeBack_8 : decode cX1_takeBack 8 = .ok (.ireturn, 1) := by decide +kernel
theorem dX1_takeBack_9 : decode cX1_takeBack 9 = .ok (.aload_n 0, 1) := by decide +kernel
theorem dX1_takeBack_10 : decode cX1_takeBack 10 = .ok (.dup, 1) := by decide +kernel
theorem dX1_takeBack_11 : decode cX1_takeBack 11 = .ok (.getfield 24, 3) := by decide +kernel
theorem dX1_takeBack_14 : decode cX1_takeBack 14 = .ok (.iconst 1, 1) := by decide +kernel
theorem dX1_takeBack_15 : decode cX1_takeBack 15 = .ok (.isub, 1) := by decide +kernel
theorem dX1_takeBack_16 : decode cX1_takeBack 16 = .ok (.putfield 24, 3) := by decide +kernel
theorem dX1_takeBack_19 : decode cX1_takeBack 19 = .ok (.aload_n 1, 1) := by decide +kernel
theorem dX1_takeBack_20 : decode cX1_takeBack 20 = .ok (.aload_n 0, 1) := by decide +kernel
theorem dX1_takeBack_21 : decode cX1_takeBack 21 = .ok (.getfield 9, 3) := by decide +kernel
theorem dX1_takeBack_24 : decode cX1_takeBack 24 = .ok (.aload_n 0, 1) := by decide +kernel
theorem dX1_takeBack_25 : decode cX1_takeBack 25 = .ok (.getfield 24, 3) := by decide +kernel
theorem dX1_takeBack_28 : decode cX1_takeBack 28 = .ok (.iaload, 1) := by decide +kernel
theorem dX1_takeBack_29 : decode cX1_takeBack 29 = .ok (.aload_n 0, 1) := by decide +kernel
theorem dX1_takeBack_30 : decode cX1_takeBack 30 = .ok (.getfield 15, 3) := by decide +kernel
theorem dX1_takeBack_33 : decode cX1_takeBack 33 = .ok (.aload_n 0, 1) := by decide +kernel
theorem dX1_takeBack_34 : decode cX1_takeBack 34 = .ok (.getfield 24, 3) := by decide +kernel
theorem dX1_takeBack_37 : decode cX1_takeBack 37 = .ok (.iaload, 1) := by decide +kernel
theorem dX1_takeBack_38 : decode cX1_takeBack 38 = .ok (.aload_n 0, 1) := by decide +kernel
theorem dX1_takeBack_39 : decode cX1_takeBack 39 = .ok (.getfield 18, 3) := by decide +kernel
theorem dX1_takeBack_42 : decode cX1_takeBack 42 = .ok (.aload_n 0, 1) := by decide +kernel
theorem dX1_takeBack_43 : decode cX1_takeBack 43 = .ok (.getfield 24, 3) := by decide +kernel
theorem dX1_takeBack_46 : decode cX1_takeBack 46 = .ok (.iaload, 1) := by decide +kernel
theorem dX1_takeBack_47 : decode cX1_takeBack 47 = .ok (.aload_n 0, 1) := by decide +kernel
theorem dX1_takeBack_48 : decode cX1_takeBack 48 = .ok (.getfield 21, 3) := by decide +kernel
theorem dX1_takeBack_51 : decode cX1_takeBack 51 = .ok (.aload_n 0, 1) := by decide +kernel
theorem dX1_takeBack_52 : decode cX1_takeBack 52 = .ok (.getfield 24, 3) := by decide +kernel
theorem dX1_takeBack_55 : decode cX1_takeBack 55 = .ok (.iaload, 1) := by decide +kernel
theorem dX1_takeBack_56 : decode cX1_takeBack 56 = .ok (.invokestatic 46, 3) := by decide +kernel
theorem dX1_takeBack_59 : decode cX1_takeBack 59 = .ok (.iconst 1, 1) := by decide +kernel
theorem dX1_takeBack_60 : decode cX1_takeBack 60 = .ok (.ireturn, 1) := by decide +kernel
theorem dX1_firstOf_0 : decode cX1_firstOf 0 = .ok (.iload_n 1, 1) := by decide +kernel
theorem dX1_firstOf_1 : decode cX1_firstOf 1 = .ok (.lookupswitch 41 #[(0, 27), (1, 34)], 27) := by decide +kernel
theorem dX1_firstOf_28 : decode cX1_firstOf 28 = .ok (.aload_n 0, 1) := by decide +kernel
theorem dX1_firstOf_29 : decode cX1_firstOf 29 = .ok (.getfield 50, 3) := by decide +kernel
theorem dX1_firstOf_32 : decode cX1_firstOf 32 = .ok (.iload_n 2, 1) := by decide +kernel
theorem dX1_firstOf_33 : decode cX1_firstOf 33 = .ok (.iaload, 1) := by decide +kernel
theorem dX1_firstOf_34 : decode cX1_firstOf 34 = .ok (.ireturn, 1) := by decide +kernel
theorem dX1_firstOf_35 : decode cX1_firstOf 35 = .ok (.aload_n 0, 1) := by decide +kernel
theorem dX1_firstOf_36 : decode cX1_firstOf 36 = .ok (.getfield 55, 3) := by decide +kernel
theorem dX1_firstOf_39 : decode cX1_firstOf 39 = .ok (.iload_n 2, 1) := by decide +kernel
theorem dX1_firstOf_40 : decode cX1_firstOf 40 = .ok (.iaload, 1) := by decide +kernel
theorem dX1_firstOf_41 : decode cX1_firstOf 41 = .ok (.ireturn, 1) := by decide +kernel
theorem dX1_firstOf_42 : decode cX1_firstOf 42 = .ok (.aload_n 0, 1) := by decide +kernel
theorem dX1_firstOf_43 : decode cX1_firstOf 43 = .ok (.getfield 58, 3) := by decide +kernel
theorem dX1_firstOf_46 : decode cX1_firstOf 46 = .ok (.ireturn, 1) := by decide +kernel
theorem dX1_secondOf_0 : decode cX1_secondOf 0 = .ok (.iload_n 1, 1) := by decide +kernel
theorem dX1_secondOf_1 : decode cX1_secondOf 1 = .ok (.lookupswitch 41 #[(0, 27), (1, 34)], 27) := by decide +kernel
theorem dX1_secondOf_28 : decode cX1_secondOf 28 = .ok (.aload_n 0, 1) := by decide +kernel
theorem dX1_secondOf_29 : decode cX1_secondOf 29 = .ok (.getfield 61, 3) := by decide +kernel
theorem dX1_secondOf_32 : decode cX1_secondOf 32 = .ok (.iload_n 2, 1) := by decide +kernel
theorem dX1_secondOf_33 : decode cX1_secondOf 33 = .ok (.iaload, 1) := by decide +kernel
theorem dX1_secondOf_34 : decode cX1_secondOf 34 = .ok (.ireturn, 1) := by decide +kernel
theorem dX1_secondOf_35 : decode cX1_secondOf 35 = .ok (.aload_n 0, 1) := by decide +kernel
theorem dX1_secondOf_36 : decode cX1_secondOf 36 = .ok (.getfield 64, 3) := by decide +kernel
theorem dX1_secondOf_39 : decode cX1_secondOf 39 = .ok (.iload_n 2, 1) := by decide +kernel
theorem dX1_secondOf_40 : decode cX1_secondOf 40 = .ok (.iaload, 1) := by decide +kernel
theorem dX1_secondOf_41 : decode cX1_secondOf 41 = .ok (.ireturn, 1) := by decide +kernel
theorem dX1_secondOf_42 : decode cX1_secondOf 42 = .ok (.aload_n 0, 1) := by decide +kernel
theorem dX1_secondOf_43 : decode cX1_secondOf 43 = .ok (.getfield 67, 3) := by decide +kernel
theorem dX1_secondOf_46 : decode cX1_secondOf 46 = .ok (.ireturn, 1) := by decide +kernel
theorem dX1_put_0 : decode cX1_put 0 = .ok (.iload_n 1, 1) := by decide +kernel
theorem dX1_put_1 : decode cX1_put 1 = .ok (.lookupswitch 63 #[(0, 27), (1, 45)], 27) := by decide +kernel
theorem dX1_put_28 : decode cX1_put 28 = .ok (.aload_n 0, 1) := by decide +kernel
theorem dX1_put_29 : decode cX1_put 29 = .ok (.getfield 50, 3) := by decide +kernel
theorem dX1_put_32 : decode cX1_put 32 = .ok (.iload_n 2, 1) := by decide +kernel
theorem dX1_put_33 : decode cX1_put 33 = .ok (.iload_n 3, 1) := by decide +kernel
theorem dX1_put_34 : decode cX1_put 34 = .ok (.iastore, 1) := by decide +kernel
theorem dX1_put_35 : decode cX1_put 35 = .ok (.aload_n 0, 1) := by decide +kernel
theorem dX1_put_36 : decode cX1_put 36 = .ok (.getfield 61, 3) := by decide +kernel
theorem dX1_put_39 : decode cX1_put 39 = .ok (.iload_n 2, 1) := by decide +kernel
theorem dX1_put_40 : decode cX1_put 40 = .ok (.iload 4, 2) := by decide +kernel
theorem dX1_put_42 : decode cX1_put 42 = .ok (.iastore, 1) := by decide +kernel
theorem dX1_put_43 : decode cX1_put 43 = .ok (.goto 32, 3) := by decide +kernel
theorem dX1_put_46 : decode cX1_put 46 = .ok (.aload_n 0, 1) := by decide +kernel
theorem dX1_put_47 : decode cX1_put 47 = .ok (.getfield 55, 3) := by decide +kernel
theorem dX1_put_50 : decode cX1_put 50 = .ok (.iload_n 2, 1) := by decide +kernel
theorem dX1_put_51 : decode cX1_put 51 = .ok (.iload_n 3, 1) := by decide +kernel
theorem dX1_put_52 : decode cX1_put 52 = .ok (.iastore, 1) := by decide +kernel
theorem dX1_put_53 : decode cX1_put 53 = .ok (.aload_n 0, 1) := by decide +kernel
theorem dX1_put_54 : decode cX1_put 54 = .ok (.getfield 64, 3) := by decide +kernel
theorem dX1_put_57 : decode cX1_put 57 = .ok (.iload_n 2, 1) := by decide +kernel
theorem dX1_put_58 : decode cX1_put 58 = .ok (.iload 4, 2) := by decide +kernel
theorem dX1_put_60 : decode cX1_put 60 = .ok (.iastore, 1) := by decide +kernel
theorem dX1_put_61 : decode cX1_put 61 = .ok (.goto 14, 3) := by decide +kernel
theorem dX1_put_64 : decode cX1_put 64 = .ok (.aload_n 0, 1) := by decide +kernel
theorem dX1_put_65 : decode cX1_put 65 = .ok (.iload_n 3, 1) := by decide +kernel
theorem dX1_put_66 : decode cX1_put 66 = .ok (.putfield 58, 3) := by decide +kernel
theorem dX1_put_69 : decode cX1_put 69 = .ok (.aload_n 0, 1) := by decide +kernel
theorem dX1_put_70 : decode cX1_put 70 = .ok (.iload 4, 2) := by decide +kernel
theorem dX1_put_72 : decode cX1_put 72 = .ok (.putfield 67, 3) := by decide +kernel
theorem dX1_put_75 : decode cX1_put 75 = .ok (.return_, 1) := by decide +kernel
theorem dX1_keepImage_0 : decode cX1_keepImage 0 = .ok (.aload_n 0, 1) := by decide +kernel
theorem dX1_keepImage_1 : decode cX1_keepImage 1 = .ok (.getfield 36, 3) := by decide +kernel
theorem dX1_keepImage_4 : decode cX1_keepImage 4 = .ok (.iconst 3, 1) := by decide +kernel
theorem dX1_keepImage_5 : decode cX1_keepImage 5 = .ok (.if_icmp .lt 5, 3) := by decide +kernel
theorem dX1_keepImage_8 : decode cX1_keepImage 8 = .ok (.iconst 0, 1) := by decide +kernel
theorem dX1_keepImage_9 : decode cX1_keepImage 9 = .ok (.ireturn, 1) := by decide +kernel
theorem dX1_keepImage_10 : decode cX1_keepImage 10 = .ok (.aload_n 0, 1) := by decide +kernel
theorem dX1_keepImage_11 : decode cX1_keepImage 11 = .ok (.getfield 30, 3) := by decide +kernel
theorem dX1_keepImage_14 : decode cX1_keepImage 14 = .ok (.aload_n 0, 1) := by decide +kernel
theorem dX1_keepImage_15 : decode cX1_keepImage 15 = .ok (.getfield 36, 3) := by decide +kernel
theorem dX1_keepImage_18 : decode cX1_keepImage 18 = .ok (.aaload, 1) := by decide +kernel
theorem dX1_keepImage_19 : decode cX1_keepImage 19 = .ok (.astore_n 2, 1) := by decide +kernel
theorem dX1_keepImage_20 : decode cX1_keepImage 20 = .ok (.iconst 0, 1) := by decide +kernel
theorem dX1_keepImage_21 : decode cX1_keepImage 21 = .ok (.istore_n 3, 1) := by decide +kernel
theorem dX1_keepImage_22 : decode cX1_keepImage 22 = .ok (.aload_n 2, 1) := by decide +kernel
theorem dX1_keepImage_23 : decode cX1_keepImage 23 = .ok (.iload_n 3, 1) := by decide +kernel
theorem dX1_keepImage_24 : decode cX1_keepImage 24 = .ok (.aload_n 1, 1) := by decide +kernel
theorem dX1_keepImage_25 : decode cX1_keepImage 25 = .ok (.getfield 50, 3) := by decide +kernel
theorem dX1_keepImage_28 : decode cX1_keepImage 28 = .ok (.invokestatic 70, 3) := by decide +kernel
theorem dX1_keepImage_31 : decode cX1_keepImage 31 = .ok (.istore_n 3, 1) := by decide +kernel
theorem dX1_keepImage_32 : decode cX1_keepImage 32 = .ok (.aload_n 2, 1) := by decide +kernel
theorem dX1_keepImage_33 : decode cX1_keepImage 33 = .ok (.iload_n 3, 1) := by decide +kernel
theorem dX1_keepImage_34 : decode cX1_keepImage 34 = .ok (.aload_n 1, 1) := by decide +kernel
theorem dX1_keepImage_35 : decode cX1_keepImage 35 = .ok (.getfield 61, 3) := by decide +kernel
theorem dX1_keepImage_38 : decode cX1_keepImage 38 = .ok (.invokestatic 70, 3) := by decide +kernel
theorem dX1_keepImage_41 : decode cX1_keepImage 41 = .ok (.istore_n 3, 1) := by decide +kernel
theorem dX1_keepImage_42 : decode cX1_keepImage 42 = .ok (.aload_n 2, 1) := by decide +kernel
theorem dX1_keepImage_43 : decode cX1_keepImage 43 = .ok (.iload_n 3, 1) := by decide +kernel
theorem dX1_keepImage_44 : decode cX1_keepImage 44 = .ok (.aload_n 1, 1) := by decide +kernel
theorem dX1_keepImage_45 : decode cX1_keepImage 45 = .ok (.getfield 55, 3) := by decide +kernel
theorem dX1_keepImage_48 : decode cX1_keepImage 48 = .ok (.invokestatic 70, 3) := by decide +kernel
theorem dX1_keepImage_51 : decode cX1_keepImage 51 = .ok (.istore_n 3, 1) := by decide +kernel
theorem dX1_keepImage_52 : decode cX1_keepImage 52 = .ok (.aload_n 2, 1) := by decide +kernel
theorem dX1_keepImage_53 : decode cX1_keepImage 53 = .ok (.iload_n 3, 1) := by decide +kernel
theorem dX1_keepImage_54 : decode cX1_keepImage 54 = .ok (.aload_n 1, 1) := by decide +kernel
theorem dX1_keepImage_55 : decode cX1_keepImage 55 = .ok (.getfield 64, 3) := by decide +kernel
theorem dX1_keepImage_58 : decode cX1_keepImage 58 = .ok (.invokestatic 70, 3) := by decide +kernel
theorem dX1_keepImage_61 : decode cX1_keepImage 61 = .ok (.istore_n 3, 1) := by decide +kernel
theorem dX1_keepImage_62 : decode cX1_keepImage 62 = .ok (.aload_n 2, 1) := by decide +kernel
theorem dX1_keepImage_63 : decode cX1_keepImage 63 = .ok (.iload_n 3, 1) := by decide +kernel
theorem dX1_keepImage_64 : decode cX1_keepImage 64 = .ok (.aload_n 0, 1) := by decide +kernel
theorem dX1_keepImage_65 : decode cX1_keepImage 65 = .ok (.getfield 9, 3) := by decide +kernel
theorem dX1_keepImage_68 : decode cX1_keepImage 68 = .ok (.invokestatic 70, 3) := by decide +kernel
theorem dX1_keepImage_71 : decode cX1_keepImage 71 = .ok (.istore_n 3, 1) := by decide +kernel
theorem dX1_keepImage_72 : decode cX1_keepImage 72 = .ok (.aload_n 2, 1) := by decide +kernel
theorem dX1_keepImage_73 : decode cX1_keepImage 73 = .ok (.iload_n 3, 1) := by decide +kernel
theorem dX1_keepImage_74 : decode cX1_keepImage 74 = .ok (.aload_n 0, 1) := by decide +kernel
theorem dX1_keepImage_75 : decode cX1_keepImage 75 = .ok (.getfield 15, 3) := by decide +kernel
theorem dX1_keepImage_78 : decode cX1_keepImage 78 = .ok (.invokestatic 70, 3) := by decide +kernel
theorem dX1_keepImage_81 : decode cX1_keepImage 81 = .ok (.istore_n 3, 1) := by decide +kernel
theorem dX1_keepImage_82 : decode cX1_keepImage 82 = .ok (.aload_n 2, 1) := by decide +kernel
theorem dX1_keepImage_83 : decode cX1_keepImage 83 = .ok (.iload_n 3, 1) := by decide +kernel
theorem dX1_keepImage_84 : decode cX1_keepImage 84 = .ok (.aload_n 0, 1) := by decide +kernel
theorem dX1_keepImage_85 : decode cX1_keepImage 85 = .ok (.getfield 18, 3) := by decide +kernel
theorem dX1_keepImage_88 : decode cX1_keepImage 88 = .ok (.invokestatic 70, 3) := by decide +kernel
theorem dX1_keepImage_91 : decode cX1_keepImage 91 = .ok (.istore_n 3, 1) := by decide +kernel
theorem dX1_keepImage_92 : decode cX1_keepImage 92 = .ok (.aload_n 2, 1) := by decide +kernel
theorem dX1_keepImage_93 : decode cX1_keepImage 93 = .ok (.iload_n 3, 1) := by decide +kernel
theorem dX1_keepImage_94 : decode cX1_keepImage 94 = .ok (.aload_n 0, 1) := by decide +kernel
theorem dX1_keepImage_95 : decode cX1_keepImage 95 = .ok (.getfield 21, 3) := by decide +kernel
theorem dX1_keepImage_98 : decode cX1_keepImage 98 = .ok (.invokestatic 70, 3) := by decide +kernel
theorem dX1_keepImage_101 : decode cX1_keepImage 101 = .ok (.istore_n 3, 1) := by decide +kernel
theorem dX1_keepImage_102 : decode cX1_keepImage 102 = .ok (.aload_n 2, 1) := by decide +kernel
theorem dX1_keepImage_103 : decode cX1_keepImage 103 = .ok (.iload_n 3, 1) := by decide +kernel
theorem dX1_keepImage_104 : decode cX1_keepImage 104 = .ok (.aload_n 1, 1) := by decide +kernel
theorem dX1_keepImage_105 : decode cX1_keepImage 105 = .ok (.getfield 58, 3) := by decide +kernel
theorem dX1_keepImage_108 : decode cX1_keepImage 108 = .ok (.iastore, 1) := by decide +kernel
theorem dX1_keepImage_109 : decode cX1_keepImage 109 = .ok (.aload_n 2, 1) := by decide +kernel
theorem dX1_keepImage_110 : decode cX1_keepImage 110 = .ok (.iload_n 3, 1) := by decide +kernel
theorem dX1_keepImage_111 : decode cX1_keepImage 111 = .ok (.iconst 1, 1) := by decide +kernel
theorem dX1_keepImage_112 : decode cX1_keepImage 112 = .ok (.iadd, 1) := by decide +kernel
theorem dX1_keepImage_113 : decode cX1_keepImage 113 = .ok (.aload_n 1, 1) := by decide +kernel
theorem dX1_keepImage_114 : decode cX1_keepImage 114 = .ok (.getfield 67, 3) := by decide +kernel
theorem dX1_keepImage_117 : decode cX1_keepImage 117 = .ok (.iastore, 1) := by decide +kernel
theorem dX1_keepImage_118 : decode cX1_keepImage 118 = .ok (.aload_n 0, 1) := by decide +kernel
theorem dX1_keepImage_119 : decode cX1_keepImage 119 = .ok (.getfield 33, 3) := by decide +kernel
theorem dX1_keepImage_122 : decode cX1_keepImage 122 = .ok (.aload_n 0, 1) := by decide +kernel
theorem dX1_keepImage_123 : decode cX1_keepImage 123 = .ok (.getfield 36, 3) := by decide +kernel
theorem dX1_keepImage_126 : decode cX1_keepImage 126 = .ok (.aload_n 0, 1) := by decide +kernel
theorem dX1_keepImage_127 : decode cX1_keepImage 127 = .ok (.getfield 24, 3) := by decide +kernel
theorem dX1_keepImage_130 : decode cX1_keepImage 130 = .ok (.iastore, 1) := by decide +kernel
theorem dX1_keepImage_131 : decode cX1_keepImage 131 = .ok (.aload_n 0, 1) := by decide +kernel
theorem dX1_keepImage_132 : decode cX1_keepImage 132 = .ok (.dup, 1) := by decide +kernel
theorem dX1_keepImage_133 : decode cX1_keepImage 133 = .ok (.getfield 36, 3) := by decide +kernel
theorem dX1_keepImage_136 : decode cX1_keepImage 136 = .ok (.iconst 1, 1) := by decide +kernel
theorem dX1_keepImage_137 : decode cX1_keepImage 137 = .ok (.iadd, 1) := by decide +kernel
theorem dX1_keepImage_138 : decode cX1_keepImage 138 = .ok (.putfield 36, 3) := by decide +kernel
theorem dX1_keepImage_141 : decode cX1_keepImage 141 = .ok (.iconst 1, 1) := by decide +kernel
theorem dX1_keepImage_142 : decode cX1_keepImage 142 = .ok (.ireturn, 1) := by decide +kernel
theorem dX1_bringBack_0 : decode cX1_bringBack 0 = .ok (.aload_n 0, 1) := by decide +kernel
theorem dX1_bringBack_1 : decode cX1_bringBack 1 = .ok (.getfield 36, 3) := by decide +kernel
theorem dX1_bringBack_4 : decode cX1_bringBack 4 = .ok (.ifCond .gt 5, 3) := by decide +kernel
theorem dX1_bringBack_7 : decode cX1_bringBack 7 = .ok (.iconst 0, 1) := by decide +kernel
theorem dX1_bringBack_8 : decode cX1_bringBack 8 = .ok (.ireturn, 1) := by decide +kernel
theorem dX1_bringBack_9 : decode cX1_bringBack 9 = .ok (.aload_n 0, 1) := by decide +kernel
theorem dX1_bringBack_10 : decode cX1_bringBack 10 = .ok (.dup, 1) := by decide +kernel
theorem dX1_bringBack_11 : decode cX1_bringBack 11 = .ok (.getfield 36, 3) := by decide +kernel
theorem dX1_bringBack_14 : decode cX1_bringBack 14 = .ok (.iconst 1, 1) := by decide +kernel
theorem dX1_bringBack_15 : decode cX1_bringBack 15 = .ok (.isub, 1) := by decide +kernel
theorem dX1_bringBack_16 : decode cX1_bringBack 16 = .ok (.putfield 36, 3) := by decide +kernel
theorem dX1_bringBack_19 : decode cX1_bringBack 19 = .ok (.aload_n 0, 1) := by decide +kernel
theorem dX1_bringBack_20 : decode cX1_bringBack 20 = .ok (.getfield 30, 3) := by decide +kernel
theorem dX1_bringBack_23 : decode cX1_bringBack 23 = .ok (.aload_n 0, 1) := by decide +kernel
theorem dX1_bringBack_24 : decode cX1_bringBack 24 = .ok (.getfield 36, 3) := by decide +kernel
theorem dX1_bringBack_27 : decode cX1_bringBack 27 = .ok (.aaload, 1) := by decide +kernel
theorem dX1_bringBack_28 : decode cX1_bringBack 28 = .ok (.astore_n 2, 1) := by decide +kernel
theorem dX1_bringBack_29 : decode cX1_bringBack 29 = .ok (.iconst 0, 1) := by decide +kernel
theorem dX1_bringBack_30 : decode cX1_bringBack 30 = .ok (.istore_n 3, 1) := by decide +kernel
theorem dX1_bringBack_31 : decode cX1_bringBack 31 = .ok (.aload_n 2, 1) := by decide +kernel
theorem dX1_bringBack_32 : decode cX1_bringBack 32 = .ok (.iload_n 3, 1) := by decide +kernel
theorem dX1_bringBack_33 : decode cX1_bringBack 33 = .ok (.aload_n 1, 1) := by decide +kernel
theorem dX1_bringBack_34 : decode cX1_bringBack 34 = .ok (.getfield 50, 3) := by decide +kernel
theorem dX1_bringBack_37 : decode cX1_bringBack 37 = .ok (.invokestatic 74, 3) := by decide +kernel
theorem dX1_bringBack_40 : decode cX1_bringBack 40 = .ok (.istore_n 3, 1) := by decide +kernel
theorem dX1_bringBack_41 : decode cX1_bringBack 41 = .ok (.aload_n 2, 1) := by decide +kernel
theorem dX1_bringBack_42 : decode cX1_bringBack 42 = .ok (.iload_n 3, 1) := by decide +kernel
theorem dX1_bringBack_43 : decode cX1_bringBack 43 = .ok (.aload_n 1, 1) := by decide +kernel
theorem dX1_bringBack_44 : decode cX1_bringBack 44 = .ok (.getfield 61, 3) := by decide +kernel
theorem dX1_bringBack_47 : decode cX1_bringBack 47 = .ok (.invokestatic 74, 3) := by decide +kernel
theorem dX1_bringBack_50 : decode cX1_bringBack 50 = .ok (.istore_n 3, 1) := by decide +kernel
theorem dX1_bringBack_51 : decode cX1_bringBack 51 = .ok (.aload_n 2, 1) := by decide +kernel
theorem dX1_bringBack_52 : decode cX1_bringBack 52 = .ok (.iload_n 3, 1) := by decide +kernel
theorem dX1_bringBack_53 : decode cX1_bringBack 53 = .ok (.aload_n 1, 1) := by decide +kernel
theorem dX1_bringBack_54 : decode cX1_bringBack 54 = .ok (.getfield 55, 3) := by decide +kernel
theorem dX1_bringBack_57 : decode cX1_bringBack 57 = .ok (.invokestatic 74, 3) := by decide +kernel
theorem dX1_bringBack_60 : decode cX1_bringBack 60 = .ok (.istore_n 3, 1) := by decide +kernel
theorem dX1_bringBack_61 : decode cX1_bringBack 61 = .ok (.aload_n 2, 1) := by decide +kernel
theorem dX1_bringBack_62 : decode cX1_bringBack 62 = .ok (.iload_n 3, 1) := by decide +kernel
theorem dX1_bringBack_63 : decode cX1_bringBack 63 = .ok (.aload_n 1, 1) := by decide +kernel
theorem dX1_bringBack_64 : decode cX1_bringBack 64 = .ok (.getfield 64, 3) := by decide +kernel
theorem dX1_bringBack_67 : decode cX1_bringBack 67 = .ok (.invokestatic 74, 3) := by decide +kernel
theorem dX1_bringBack_70 : decode cX1_bringBack 70 = .ok (.istore_n 3, 1) := by decide +kernel
theorem dX1_bringBack_71 : decode cX1_bringBack 71 = .ok (.aload_n 2, 1) := by decide +kernel
theorem dX1_bringBack_72 : decode cX1_bringBack 72 = .ok (.iload_n 3, 1) := by decide +kernel
theorem dX1_bringBack_73 : decode cX1_bringBack 73 = .ok (.aload_n 0, 1) := by decide +kernel
theorem dX1_bringBack_74 : decode cX1_bringBack 74 = .ok (.getfield 9, 3) := by decide +kernel
theorem dX1_bringBack_77 : decode cX1_bringBack 77 = .ok (.invokestatic 74, 3) := by decide +kernel
theorem dX1_bringBack_80 : decode cX1_bringBack 80 = .ok (.istore_n 3, 1) := by decide +kernel
theorem dX1_bringBack_81 : decode cX1_bringBack 81 = .ok (.aload_n 2, 1) := by decide +kernel
theorem dX1_bringBack_82 : decode cX1_bringBack 82 = .ok (.iload_n 3, 1) := by decide +kernel
theorem dX1_bringBack_83 : decode cX1_bringBack 83 = .ok (.aload_n 0, 1) := by decide +kernel
theorem dX1_bringBack_84 : decode cX1_bringBack 84 = .ok (.getfield 15, 3) := by decide +kernel
theorem dX1_bringBack_87 : decode cX1_bringBack 87 = .ok (.invokestatic 74, 3) := by decide +kernel
theorem dX1_bringBack_90 : decode cX1_bringBack 90 = .ok (.istore_n 3, 1) := by decide +kernel
theorem dX1_bringBack_91 : decode cX1_bringBack 91 = .ok (.aload_n 2, 1) := by decide +kernel
theorem dX1_bringBack_92 : decode cX1_bringBack 92 = .ok (.iload_n 3, 1) := by decide +kernel
theorem dX1_bringBack_93 : decode cX1_bringBack 93 = .ok (.aload_n 0, 1) := by decide +kernel
theorem dX1_bringBack_94 : decode cX1_bringBack 94 = .ok (.getfield 18, 3) := by decide +kernel
theorem dX1_bringBack_97 : decode cX1_bringBack 97 = .ok (.invokestatic 74, 3) := by decide +kernel
theorem dX1_bringBack_100 : decode cX1_bringBack 100 = .ok (.istore_n 3, 1) := by decide +kernel
theorem dX1_bringBack_101 : decode cX1_bringBack 101 = .ok (.aload_n 2, 1) := by decide +kernel
theorem dX1_bringBack_102 : decode cX1_bringBack 102 = .ok (.iload_n 3, 1) := by decide +kernel
theorem dX1_bringBack_103 : decode cX1_bringBack 103 = .ok (.aload_n 0, 1) := by decide +kernel
theorem dX1_bringBack_104 : decode cX1_bringBack 104 = .ok (.getfield 21, 3) := by decide +kernel
theorem dX1_bringBack_107 : decode cX1_bringBack 107 = .ok (.invokestatic 74, 3) := by decide +kernel
theorem dX1_bringBack_110 : decode cX1_bringBack 110 = .ok (.istore_n 3, 1) := by decide +kernel
theorem dX1_bringBack_111 : decode cX1_bringBack 111 = .ok (.aload_n 1, 1) := by decide +kernel
theorem dX1_bringBack_112 : decode cX1_bringBack 112 = .ok (.aload_n 2, 1) := by decide +kernel
theorem dX1_bringBack_113 : decode cX1_bringBack 113 = .ok (.iload_n 3, 1) := by decide +kernel
theorem dX1_bringBack_114 : decode cX1_bringBack 114 = .ok (.iaload, 1) := by decide +kernel
theorem dX1_bringBack_115 : decode cX1_bringBack 115 = .ok (.putfield 58, 3) := by decide +kernel
theorem dX1_bringBack_118 : decode cX1_bringBack 118 = .ok (.aload_n 1, 1) := by decide +kernel
theorem dX1_bringBack_119 : decode cX1_bringBack 119 = .ok (.aload_n 2, 1) := by decide +kernel
theorem dX1_bringBack_120 : decode cX1_bringBack 120 = .ok (.iload_n 3, 1) := by decide +kernel
theorem dX1_bringBack_121 : decode cX1_bringBack 121 = .ok (.iconst 1, 1) := by decide +kernel
theorem dX1_bringBack_122 : decode cX1_bringBack 122 = .ok (.iadd, 1) := by decide +kernel
theorem dX1_bringBack_123 : decode cX1_bringBack 123 = .ok (.iaload, 1) := by decide +kernel
theorem dX1_bringBack_124 : decode cX1_bringBack 124 = .ok (.putfield 67, 3) := by decide +kernel
theorem dX1_bringBack_127 : decode cX1_bringBack 127 = .ok (.aload_n 0, 1) := by decide +kernel
theorem dX1_bringBack_128 : decode cX1_bringBack 128 = .ok (.aload_n 0, 1) := by decide +kernel
theorem dX1_bringBack_129 : decode cX1_bringBack 129 = .ok (.getfield 33, 3) := by decide +kernel
theorem dX1_bringBack_132 : decode cX1_bringBack 132 = .ok (.aload_n 0, 1) := by decide +kernel
theorem dX1_bringBack_133 : decode cX1_bringBack 133 = .ok (.getfield 36, 3) := by decide +kernel
theorem dX1_bringBack_136 : decode cX1_bringBack 136 = .ok (.iaload, 1) := by decide +kernel
theorem dX1_bringBack_137 : decode cX1_bringBack 137 = .ok (.putfield 24, 3) := by decide +kernel
theorem dX1_bringBack_140 : decode cX1_bringBack 140 = .ok (.iconst 1, 1) := by decide +kernel
theorem dX1_bringBack_141 : decode cX1_bringBack 141 = .ok (.ireturn, 1) := by decide +kernel
theorem dX1_copyTo_0 : decode cX1_copyTo 0 = .ok (.aload_n 2, 1) := by decide +kernel
theorem dX1_copyTo_1 : decode cX1_copyTo 1 = .ok (.iconst 0, 1) := by decide +kernel
theorem dX1_copyTo_2 : decode cX1_copyTo 2 = .ok (.aload_n 0, 1) := by decide +kernel
theorem dX1_copyTo_3 : decode cX1_copyTo 3 = .ok (.iload_n 1, 1) := by decide +kernel
theorem dX1_copyTo_4 : decode cX1_copyTo 4 = .ok (.aload_n 2, 1) := by decide +kernel
theorem dX1_copyTo_5 : decode cX1_copyTo 5 = .ok (.arraylength, 1) := by decide +kernel
theorem dX1_copyTo_6 : decode cX1_copyTo 6 = .ok (.invokestatic 77, 3) := by decide +kernel
theorem dX1_copyTo_9 : decode cX1_copyTo 9 = .ok (.iload_n 1, 1) := by decide +kernel
theorem dX1_copyTo_10 : decode cX1_copyTo 10 = .ok (.aload_n 2, 1) := by decide +kernel
theorem dX1_copyTo_11 : decode cX1_copyTo 11 = .ok (.arraylength, 1) := by decide +kernel
theorem dX1_copyTo_12 : decode cX1_copyTo 12 = .ok (.iadd, 1) := by decide +kernel
theorem dX1_copyTo_13 : decode cX1_copyTo 13 = .ok (.ireturn, 1) := by decide +kernel
theorem dX1_copyFrom_0 : decode cX1_copyFrom 0 = .ok (.aload_n 0, 1) := by decide +kernel
theorem dX1_copyFrom_1 : decode cX1_copyFrom 1 = .ok (.iload_n 1, 1) := by decide +kernel
theorem dX1_copyFrom_2 : decode cX1_copyFrom 2 = .ok (.aload_n 2, 1) := by decide +kernel
theorem dX1_copyFrom_3 : decode cX1_copyFrom 3 = .ok (.iconst 0, 1) := by decide +kernel
theorem dX1_copyFrom_4 : decode cX1_copyFrom 4 = .ok (.aload_n 2, 1) := by decide +kernel
theorem dX1_copyFrom_5 : decode cX1_copyFrom 5 = .ok (.arraylength, 1) := by decide +kernel
theorem dX1_copyFrom_6 : decode cX1_copyFrom 6 = .ok (.invokestatic 77, 3) := by decide +kernel
theorem dX1_copyFrom_9 : decode cX1_copyFrom 9 = .ok (.iload_n 1, 1) := by decide +kernel
theorem dX1_copyFrom_10 : decode cX1_copyFrom 10 = .ok (.aload_n 2, 1) := by decide +kernel
theorem dX1_copyFrom_11 : decode cX1_copyFrom 11 = .ok (.arraylength, 1) := by decide +kernel
theorem dX1_copyFrom_12 : decode cX1_copyFrom 12 = .ok (.iadd, 1) := by decide +kernel
theorem dX1_copyFrom_13 : decode cX1_copyFrom 13 = .ok (.ireturn, 1) := by decide +kernel
theorem dX2_init_0 : decode cX2_init 0 = .ok (.aload_n 0, 1) := by decide +kernel
theorem dX2_init_1 : decode cX2_init 1 = .ok (.invokespecial 3, 3) := by decide +kernel
theorem dX2_init_4 : decode cX2_init 4 = .ok (.aload_n 0, 1) := by decide +kernel
theorem dX2_init_5 : decode cX2_init 5 = .ok (.sipush 150, 3) := by decide +kernel
theorem dX2_init_8 : decode cX2_init 8 = .ok (.newarray .int, 2) := by decide +kernel
theorem dX2_init_10 : decode cX2_init 10 = .ok (.putfield 9, 3) := by decide +kernel
theorem dX2_init_13 : decode cX2_init 13 = .ok (.aload_n 0, 1) := by decide +kernel
theorem dX2_init_14 : decode cX2_init 14 = .ok (.iconst 0, 1) := by decide +kernel
theorem dX2_init_15 : decode cX2_init 15 = .ok (.putfield 15, 3) := by decide +kernel
theorem dX2_init_18 : decode cX2_init 18 = .ok (.aload_n 0, 1) := by decide +kernel
theorem dX2_init_19 : decode cX2_init 19 = .ok (.bipush 40, 2) := by decide +kernel
theorem dX2_init_21 : decode cX2_init 21 = .ok (.newarray .int, 2) := by decide +kernel
theorem dX2_init_23 : decode cX2_init 23 = .ok (.putfield 19, 3) := by decide +kernel
theorem dX2_init_26 : decode cX2_init 26 = .ok (.return_, 1) := by decide +kernel
theorem dX2_add_0 : decode cX2_add 0 = .ok (.aload_n 0, 1) := by decide +kernel
theorem dX2_add_1 : decode cX2_add 1 = .ok (.getfield 15, 3) := by decide +kernel
theorem dX2_add_4 : decode cX2_add 4 = .ok (.aload_n 0, 1) := by decide +kernel
theorem dX2_add_5 : decode cX2_add 5 = .ok (.getfield 9, 3) := by decide +kernel
theorem dX2_add_8 : decode cX2_add 8 = .ok (.arraylength, 1) := by decide +kernel
theorem dX2_add_9 : decode cX2_add 9 = .ok (.if_icmp .ge 23, 3) := by decide +kernel
theorem dX2_add_12 : decode cX2_add 12 = .ok (.aload_n 0, 1) := by decide +kernel
theorem dX2_add_13 : decode cX2_add 13 = .ok (.getfield 9, 3) := by decide +kernel
theorem dX2_add_16 : decode cX2_add 16 = .ok (.aload_n 0, 1) := by decide +kernel
theorem dX2_add_17 : decode cX2_add 17 = .ok (.getfield 15, 3) := by decide +kernel
theorem dX2_add_20 : decode cX2_add 20 = .ok (.iload_n 1, 1) := by decide +kernel
theorem dX2_add_21 : decode cX2_add 21 = .ok (.iastore, 1) := by decide +kernel
theorem dX2_add_22 : decode cX2_add 22 = .ok (.aload_n 0, 1) := by decide +kernel
theorem dX2_add_23 : decode cX2_add 23 = .ok (.dup, 1) := by decide +kernel
theorem dX2_add_24 : decode cX2_add 24 = .ok (.getfield 15, 3) := by decide +kernel
theorem dX2_add_27 : decode cX2_add 27 = .ok (.iconst 1, 1) := by decide +kernel
theorem dX2_add_28 : decode cX2_add 28 = .ok (.iadd, 1) := by decide +kernel
theorem dX2_add_29 : decode cX2_add 29 = .ok (.putfield 15, 3) := by decide +kernel
theorem dX2_add_32 : decode cX2_add 32 = .ok (.return_, 1) := by decide +kernel
theorem dX2_becomeUsualLaw_0 : decode cX2_becomeUsualLaw 0 = .ok (.aload_n 0, 1) := by decide +kernel
theorem dX2_becomeUsualLaw_1 : decode cX2_becomeUsualLaw 1 = .ok (.iconst 0, 1) := by decide +kernel
theorem dX2_becomeUsualLaw_2 : decode cX2_becomeUsualLaw 2 = .ok (.putfield 15, 3) := by decide +kernel
theorem dX2_becomeUsualLaw_5 : decode cX2_becomeUsualLaw 5 = .ok (.aload_n 0, 1) := by decide +kernel
theorem dX2_becomeUsualLaw_6 : decode cX2_becomeUsualLaw 6 = .ok (.bipush 100, 2) := by decide +kernel
theorem dX2_becomeUsualLaw_8 : decode cX2_becomeUsualLaw 8 = .ok (.invokevirtual 22, 3) := by decide +kernel
theorem dX2_becomeUsualLaw_11 : decode cX2_becomeUsualLaw 11 = .ok (.aload_n 0, 1) := by decide +kernel
theorem dX2_becomeUsualLaw_12 : decode cX2_becomeUsualLaw 12 = .ok (.bipush 101, 2) := by decide +kernel
theorem dX2_becomeUsualLaw_14 : decode cX2_becomeUsualLaw 14 = .ok (.invokevirtual 22, 3) := by decide +kernel
theorem dX2_becomeUsualLaw_17 : decode cX2_becomeUsualLaw 17 = .ok (.aload_n 0, 1) := by decide +kernel
theorem dX2_becomeUsualLaw_18 : decode cX2_becomeUsualLaw 18 = .ok (.iconst 1, 1) := by decide +kernel
theorem dX2_becomeUsualLaw_19 : decode cX2_becomeUsualLaw 19 = .ok (.invokevirtual 22, 3) := by decide +kernel
theorem dX2_becomeUsualLaw_22 : decode cX2_becomeUsualLaw 22 = .ok (.aload_n 0, 1) := by decide +kernel
theorem dX2_becomeUsualLaw_23 : decode cX2_becomeUsualLaw 23 = .ok (.bipush 102, 2) := by decide +kernel
theorem dX2_becomeUsualLaw_25 : decode cX2_becomeUsualLaw 25 = .ok (.invokevirtual 22, 3) := by decide +kernel
theorem dX2_becomeUsualLaw_28 : decode cX2_becomeUsualLaw 28 = .ok (.aload_n 0, 1) := by decide +kernel
theorem dX2_becomeUsualLaw_29 : decode cX2_becomeUsualLaw 29 = .ok (.sipush 1001, 3) := by decide +kernel
theorem dX2_becomeUsualLaw_32 : decode cX2_becomeUsualLaw 32 = .ok (.invokevirtual 22, 3) := by decide +kernel
theorem dX2_becomeUsualLaw_35 : decode cX2_becomeUsualLaw 35 = .ok (.aload_n 0, 1) := by decide +kernel
theorem dX2_becomeUsualLaw_36 : decode cX2_becomeUsualLaw 36 = .ok (.iconst 0, 1) := by decide +kernel
theorem dX2_becomeUsualLaw_37 : decode cX2_becomeUsualLaw 37 = .ok (.invokevirtual 22, 3) := by decide +kernel
theorem dX2_becomeUsualLaw_40 : decode cX2_becomeUsualLaw 40 = .ok (.aload_n 0, 1) := by decide +kernel
theorem dX2_becomeUsualLaw_41 : decode cX2_becomeUsualLaw 41 = .ok (.iconst 3, 1) := by decide +kernel
theorem dX2_becomeUsualLaw_42 : decode cX2_becomeUsualLaw 42 = .ok (.invokevirtual 22, 3) := by decide +kernel
theorem dX2_becomeUsualLaw_45 : decode cX2_becomeUsualLaw 45 = .ok (.return_, 1) := by decide +kernel
theorem dX2_becomeUsualRule_0 : decode cX2_becomeUsualRule 0 = .ok (.aload_n 0, 1) := by decide +kernel
theorem dX2_becomeUsualRule_1 : decode cX2_becomeUsualRule 1 = .ok (.iconst 0, 1) := by decide +kernel
theorem dX2_becomeUsualRule_2 : decode cX2_becomeUsualRule 2 = .ok (.putfield 15, 3) := by decide +kernel
theorem dX2_becomeUsualRule_5 : decode cX2_becomeUsualRule 5 = .ok (.aload_n 0, 1) := by decide +kernel
theorem dX2_becomeUsualRule_6 : decode cX2_becomeUsualRule 6 = .ok (.bipush 108, 2) := by decide +kernel
theorem dX2_becomeUsualRule_8 : decode cX2_becomeUsualRule 8 = .ok (.invokevirtual 22, 3) := by decide +kernel
theorem dX2_becomeUsualRule_11 : decode cX2_becomeUsualRule 11 = .ok (.aload_n 0, 1) := by decide +kernel
theorem dX2_becomeUsualRule_12 : decode cX2_becomeUsualRule 12 = .ok (.sipush 1012, 3) := by decide +kernel
theorem dX2_becomeUsualRule_15 : decode cX2_becomeUsualRule 15 = .ok (.invokevirtual 22, 3) := by decide +kernel
theorem dX2_becomeUsualRule_18 : decode cX2_becomeUsualRule 18 = .ok (.aload_n 0, 1) := by decide +kernel
theorem dX2_becomeUsualRule_19 : decode cX2_becomeUsualRule 19 = .ok (.iconst 1, 1) := by decide +kernel
theorem dX2_becomeUsualRule_20 : decode cX2_becomeUsualRule 20 = .ok (.invokevirtual 22, 3) := by decide +kernel
theorem dX2_becomeUsualRule_23 : decode cX2_becomeUsualRule 23 = .ok (.return_, 1) := by decide +kernel
theorem dX2_readFrom_0 : decode cX2_readFrom 0 = .ok (.aload_n 0, 1) := by decide +kernel
theorem dX2_readFrom_1 : decode cX2_readFrom 1 = .ok (.iconst 0, 1) := by decide +kernel
theorem dX2_readFrom_2 : decode cX2_readFrom 2 = .ok (.putfield 15, 3) := by decide +kernel
theorem dX2_readFrom_5 : decode cX2_readFrom 5 = .ok (.aload_n 0, 1) := by decide +kernel
theorem dX2_readFrom_6 : decode cX2_readFrom 6 = .ok (.aload_n 1, 1) := by decide +kernel
theorem dX2_readFrom_7 : decode cX2_readFrom 7 = .ok (.iconst 0, 1) := by decide +kernel
theorem dX2_readFrom_8 : decode cX2_readFrom 8 = .ok (.invokevirtual 26, 3) := by decide +kernel
theorem dX2_readFrom_11 : decode cX2_readFrom 11 = .ok (.ifCond .ne 5, 3) := by decide +kernel
theorem dX2_readFrom_14 : decode cX2_readFrom 14 = .ok (.iconst 0, 1) := by decide +kernel
theorem dX2_readFrom_15 : decode cX2_readFrom 15 = .ok (.ireturn, 1) := by decide +kernel
theorem dX2_readFrom_16 : decode cX2_readFrom 16 = .ok (.aload_n 1, 1) := by decide +kernel
theorem dX2_readFrom_17 : decode cX2_readFrom 17 = .ok (.getfield 30, 3) := by decide +kernel
theorem dX2_readFrom_20 : decode cX2_readFrom 20 = .ok (.ifCond .eq 11, 3) := by decide +kernel
theorem dX2_readFrom_23 : decode cX2_readFrom 23 = .ok (.aload_n 1, 1) := by decide +kernel
theorem dX2_readFrom_24 : decode cX2_readFrom 24 = .ok (.iconst 1, 1) := by decide +kernel
theorem dX2_readFrom_25 : decode cX2_readFrom 25 = .ok (.invokevirtual 35, 3) := by decide +kernel
theorem dX2_readFrom_28 : decode cX2_readFrom 28 = .ok (.ifCond .eq 7, 3) := by decide +kernel
theorem dX2_readFrom_31 : decode cX2_readFrom 31 = .ok (.iconst 1, 1) := by decide +kernel
theorem dX2_readFrom_32 : decode cX2_readFrom 32 = .ok (.goto 4, 3) := by decide +kernel
theorem dX2_readFrom_35 : decode cX2_readFrom 35 = .ok (.iconst 0, 1) := by decide +kernel
theorem dX2_readFrom_36 : decode cX2_readFrom 36 = .ok (.ireturn, 1) := by decide +kernel
theorem dX2_readSum_0 : decode cX2_readSum 0 = .ok (.aload_n 0, 1) := by decide +kernel
theorem dX2_readSum_1 : decode cX2_readSum 1 = .ok (.aload_n 1, 1) := by decide +kernel
theorem dX2_readSum_2 : decode cX2_readSum 2 = .ok (.iload_n 2, 1) := by decide +kernel
theorem dX2_readSum_3 : decode cX2_readSum 3 = .ok (.invokevirtual 39, 3) := by decide +kernel
theorem dX2_readSum_6 : decode cX2_readSum 6 = .ok (.ifCond .ne 5, 3) := by decide +kernel
theorem dX2_readSum_9 : decode cX2_readSum 9 = .ok (.iconst 0, 1) := by decide +kernel
theorem dX2_readSum_10 : decode cX2_readSum 10 = .ok (.ireturn, 1) := by decide +kernel
theorem dX2_readSum_11 : decode cX2_readSum 11 = .ok (.iconst 0, 1) := by decide +kernel
theorem dX2_readSum_12 : decode cX2_readSum 12 = .ok (.istore_n 3, 1) := by decide +kernel
theorem dX2_readSum_13 : decode cX2_readSum 13 = .ok (.iload_n 3, 1) := by decide +kernel
theorem dX2_readSum_14 : decode cX2_readSum 14 = .ok (.sipush 150, 3) := by decide +kernel
theorem dX2_readSum_17 : decode cX2_readSum 17 = .ok (.if_icmp .ge 62, 3) := by decide +kernel
theorem dX2_readSum_20 : decode cX2_readSum 20 = .ok (.aload_n 1, 1) := by decide +kernel
theorem dX2_readSum_21 : decode cX2_readSum 21 = .ok (.bipush 43, 2) := by decide +kernel
theorem dX2_readSum_23 : decode cX2_readSum 23 = .ok (.invokevirtual 42, 3) := by decide +kernel
theorem dX2_readSum_26 : decode cX2_readSum 26 = .ok (.istore 4, 2) := by decide +kernel
theorem dX2_readSum_28 : decode cX2_readSum 28 = .ok (.iload 4, 2) := by decide +kernel
theorem dX2_readSum_30 : decode cX2_readSum 30 = .ok (.ifCond .ne 14, 3) := by decide +kernel
theorem dX2_readSum_33 : decode cX2_readSum 33 = .ok (.aload_n 1, 1) := by decide +kernel
theorem dX2_readSum_34 : decode cX2_readSum 34 = .ok (.bipush 45, 2) := by decide +kernel
theorem dX2_readSum_36 : decode cX2_readSum 36 = .ok (.invokevirtual 42, 3) := by decide +kernel
theorem dX2_readSum_39 : decode cX2_readSum 39 = .ok (.ifCond .ne 5, 3) := by decide +kernel
theorem dX2_readSum_42 : decode cX2_readSum 42 = .ok (.iconst 1, 1) := by decide +kernel
theorem dX2_readSum_43 : decode cX2_readSum 43 = .ok (.ireturn, 1) := by decide +kernel
theorem dX2_readSum_44 : decode cX2_readSum 44 = .ok (.aload_n 1, 1) := by decide +kernel
theorem dX2_readSum_45 : decode cX2_readSum 45 = .ok (.invokevirtual 46, 3) := by decide +kernel
theorem dX2_readSum_48 : decode cX2_readSum 48 = .ok (.aload_n 0, 1) := by decide +kernel
theorem dX2_readSum_49 : decode cX2_readSum 49 = .ok (.aload_n 1, 1) := by decide +kernel
theorem dX2_readSum_50 : decode cX2_readSum 50 = .ok (.iload_n 2, 1) := by decide +kernel
theorem dX2_readSum_51 : decode cX2_readSum 51 = .ok (.invokevirtual 39, 3) := by decide +kernel
theorem dX2_readSum_54 : decode cX2_readSum 54 = .ok (.ifCond .ne 5, 3) := by decide +kernel
theorem dX2_readSum_57 : decode cX2_readSum 57 = .ok (.iconst 0, 1) := by decide +kernel
theorem dX2_readSum_58 : decode cX2_readSum 58 = .ok (.ireturn, 1) := by decide +kernel
theorem dX2_readSum_59 : decode cX2_readSum 59 = .ok (.aload_n 0, 1) := by decide +kernel
theorem dX2_readSum_60 : decode cX2_readSum 60 = .ok (.iload 4, 2) := by decide +kernel
theorem dX2_readSum_62 : decode cX2_readSum 62 = .ok (.ifCond .eq 7, 3) := by decide +kernel
theorem dX2_readSum_65 : decode cX2_readSum 65 = .ok (.iconst 0, 1) := by decide +kernel
theorem dX2_readSum_66 : decode cX2_readSum 66 = .ok (.goto 4, 3) := by decide +kernel
theorem dX2_readSum_69 : decode cX2_readSum 69 = .ok (.iconst 1, 1) := by decide +kernel
theorem dX2_readSum_70 : decode cX2_readSum 70 = .ok (.invokevirtual 22, 3) := by decide +kernel
theorem dX2_readSum_73 : decode cX2_readSum 73 = .ok (.iinc 3 1, 3) := by decide +kernel
theorem dX2_readSum_76 : decode cX2_readSum 76 = .ok (.goto (-63), 3) := by decide +kernel
theorem dX2_readSum_79 : decode cX2_readSum 79 = .ok (.iconst 1, 1) := by decide +kernel
theorem dX2_readSum_80 : decode cX2_readSum 80 = .ok (.ireturn, 1) := by decide +kernel
theorem dX2_readProduct_0 : decode cX2_readProduct 0 = .ok (.aload_n 0, 1) := by decide +kernel
theorem dX2_readProduct_1 : decode cX2_readProduct 1 = .ok (.aload_n 1, 1) := by decide +kernel
theorem dX2_readProduct_2 : decode cX2_readProduct 2 = .ok (.iload_n 2, 1) := by decide +kernel
theorem dX2_readProduct_3 : decode cX2_readProduct 3 = .ok (.invokevirtual 49, 3) := by decide +kernel
theorem dX2_readProduct_6 : decode cX2_readProduct 6 = .ok (.ifCond .ne 5, 3) := by decide +kernel
theorem dX2_readProduct_9 : decode cX2_readProduct 9 = .ok (.iconst 0, 1) := by decide +kernel
theorem dX2_readProduct_10 : decode cX2_readProduct 10 = .ok (.ireturn, 1) := by decide +kernel
theorem dX2_readProduct_11 : decode cX2_readProduct 11 = .ok (.iconst 0, 1) := by decide +kernel
theorem dX2_readProduct_12 : decode cX2_readProduct 12 = .ok (.istore_n 3, 1) := by decide +kernel
theorem dX2_readProduct_13 : decode cX2_readProduct 13 = .ok (.iload_n 3, 1) := by decide +kernel
theorem dX2_readProduct_14 : decode cX2_readProduct 14 = .ok (.sipush 150, 3) := by decide +kernel
theorem dX2_readProduct_17 : decode cX2_readProduct 17 = .ok (.if_icmp .ge 62, 3) := by decide +kernel
theorem dX2_readProduct_20 : decode cX2_readProduct 20 = .ok (.aload_n 1, 1) := by decide +kernel
theorem dX2_readProduct_21 : decode cX2_readProduct 21 = .ok (.bipush 42, 2) := by decide +kernel
theorem dX2_readProduct_23 : decode cX2_readProduct 23 = .ok (.invokevirtual 42, 3) := by decide +kernel
theorem dX2_readProduct_26 : decode cX2_readProduct 26 = .ok (.istore 4, 2) := by decide +kernel
theorem dX2_readProduct_28 : decode cX2_readProduct 28 = .ok (.iload 4, 2) := by decide +kernel
theorem dX2_readProduct_30 : decode cX2_readProduct 30 = .ok (.ifCond .ne 14, 3) := by decide +kernel
theorem dX2_readProduct_33 : decode cX2_readProduct 33 = .ok (.aload_n 1, 1) := by decide +kernel
theorem dX2_readProduct_34 : decode cX2_readProduct 34 = .ok (.bipush 47, 2) := by decide +kernel
theorem dX2_readProduct_36 : decode cX2_readProduct 36 = .ok (.invokevirtual 42, 3) := by decide +kernel
theorem dX2_readProduct_39 : decode cX2_readProduct 39 = .ok (.ifCond .ne 5, 3) := by decide +kernel
theorem dX2_readProduct_42 : decode cX2_readProduct 42 = .ok (.iconst 1, 1) := by decide +kernel
theorem dX2_readProduct_43 : decode cX2_readProduct 43 = .ok (.ireturn, 1) := by decide +kernel
theorem dX2_readProduct_44 : decode cX2_readProduct 44 = .ok (.aload_n 1, 1) := by decide +kernel
theorem dX2_readProduct_45 : decode cX2_readProduct 45 = .ok (.invokevirtual 46, 3) := by decide +kernel
theorem dX2_readProduct_48 : decode cX2_readProduct 48 = .ok (.aload_n 0, 1) := by decide +kernel
theorem dX2_readProduct_49 : decode cX2_readProduct 49 = .ok (.aload_n 1, 1) := by decide +kernel
theorem dX2_readProduct_50 : decode cX2_readProduct 50 = .ok (.iload_n 2, 1) := by decide +kernel
theorem dX2_readProduct_51 : decode cX2_readProduct 51 = .ok (.invokevirtual 49, 3) := by decide +kernel
theorem dX2_readProduct_54 : decode cX2_readProduct 54 = .ok (.ifCond .ne 5, 3) := by decide +kernel
theorem dX2_readProduct_57 : decode cX2_readProduct 57 = .ok (.iconst 0, 1) := by decide +kernel
theorem dX2_readProduct_58 : decode cX2_readProduct 58 = .ok (.ireturn, 1) := by decide +kernel
theorem dX2_readProduct_59 : decode cX2_readProduct 59 = .ok (.aload_n 0, 1) := by decide +kernel
theorem dX2_readProduct_60 : decode cX2_readProduct 60 = .ok (.iload 4, 2) := by decide +kernel
theorem dX2_readProduct_62 : decode cX2_readProduct 62 = .ok (.ifCond .eq 7, 3) := by decide +kernel
theorem dX2_readProduct_65 : decode cX2_readProduct 65 = .ok (.iconst 2, 1) := by decide +kernel
theorem dX2_readProduct_66 : decode cX2_readProduct 66 = .ok (.goto 4, 3) := by decide +kernel
theorem dX2_readProduct_69 : decode cX2_readProduct 69 = .ok (.iconst 3, 1) := by decide +kernel
theorem dX2_readProduct_70 : decode cX2_readProduct 70 = .ok (.invokevirtual 22, 3) := by decide +kernel
theorem dX2_readProduct_73 : decode cX2_readProduct 73 = .ok (.iinc 3 1, 3) := by decide +kernel
theorem dX2_readProduct_76 : decode cX2_readProduct 76 = .ok (.goto (-63), 3) := by decide +kernel
theorem dX2_readProduct_79 : decode cX2_readProduct 79 = .ok (.iconst 1, 1) := by decide +kernel
theorem dX2_readProduct_80 : decode cX2_readProduct 80 = .ok (.ireturn, 1) := by decide +kernel
theorem dX2_readUnit_0 : decode cX2_readUnit 0 = .ok (.aload_n 1, 1) := by decide +kernel
theorem dX2_readUnit_1 : decode cX2_readUnit 1 = .ok (.getfield 30, 3) := by decide +kernel
theorem dX2_readUnit_4 : decode cX2_readUnit 4 = .ok (.iconst 1, 1) := by decide +kernel
theorem dX2_readUnit_5 : decode cX2_readUnit 5 = .ok (.if_icmp .ne 32, 3) := by decide +kernel
theorem dX2_readUnit_8 : decode cX2_readUnit 8 = .ok (.aload_n 1, 1) := by decide +kernel
theorem dX2_readUnit_9 : decode cX2_readUnit 9 = .ok (.iconst 0, 1) := by decide +kernel
theorem dX2_readUnit_10 : decode cX2_readUnit 10 = .ok (.sipush 999, 3) := by decide +kernel
theorem dX2_readUnit_13 : decode cX2_readUnit 13 = .ok (.invokevirtual 52, 3) := by decide +kernel
theorem dX2_readUnit_16 : decode cX2_readUnit 16 = .ok (.istore_n 3, 1) := by decide +kernel
theorem dX2_readUnit_17 : decode cX2_readUnit 17 = .ok (.aload_n 0, 1) := by decide +kernel
theorem dX2_readUnit_18 : decode cX2_readUnit 18 = .ok (.sipush 1000, 3) := by decide +kernel
theorem dX2_readUnit_21 : decode cX2_readUnit 21 = .ok (.iload_n 3, 1) := by decide +kernel
theorem dX2_readUnit_22 : decode cX2_readUnit 22 = .ok (.iadd, 1) := by decide +kernel
theorem dX2_readUnit_23 : decode cX2_readUnit 23 = .ok (.invokevirtual 22, 3) := by decide +kernel
theorem dX2_readUnit_26 : decode cX2_readUnit 26 = .ok (.iload_n 3, 1) := by decide +kernel
theorem dX2_readUnit_27 : decode cX2_readUnit 27 = .ok (.iconst (-1), 1) := by decide +kernel
theorem dX2_readUnit_28 : decode cX2_readUnit 28 = .ok (.if_icmp .eq 7, 3) := by decide +kernel
theorem dX2_readUnit_31 : decode cX2_readUnit 31 = .ok (.iconst 1, 1) := by decide +kernel
theorem dX2_readUnit_32 : decode cX2_readUnit 32 = .ok (.goto 4, 3) := by decide +kernel
theorem dX2_readUnit_35 : decode cX2_readUnit 35 = .ok (.iconst 0, 1) := by decide +kernel
theorem dX2_readUnit_36 : decode cX2_readUnit 36 = .ok (.ireturn, 1) := by decide +kernel
theorem dX2_readUnit_37 : decode cX2_readUnit 37 = .ok (.aload_n 1, 1) := by decide +kernel
theorem dX2_readUnit_38 : decode cX2_readUnit 38 = .ok (.invokestatic 56, 3) := by decide +kernel
theorem dX2_readUnit_41 : decode cX2_readUnit 41 = .ok (.istore_n 3, 1) := by decide +kernel
theorem dX2_readUnit_42 : decode cX2_readUnit 42 = .ok (.iload_n 3, 1) := by decide +kernel
theorem dX2_readUnit_43 : decode cX2_readUnit 43 = .ok (.iconst (-1), 1) := by decide +kernel
theorem dX2_readUnit_44 : decode cX2_readUnit 44 = .ok (.if_icmp .eq 17, 3) := by decide +kernel
theorem dX2_readUnit_47 : decode cX2_readUnit 47 = .ok (.aload_n 1, 1) := by decide +kernel
theorem dX2_readUnit_48 : decode cX2_readUnit 48 = .ok (.invokevirtual 46, 3) := by decide +kernel
theorem dX2_readUnit_51 : decode cX2_readUnit 51 = .ok (.aload_n 0, 1) := by decide +kernel
theorem dX2_readUnit_52 : decode cX2_readUnit 52 = .ok (.bipush 100, 2) := by decide +kernel
theorem dX2_readUnit_54 : decode cX2_readUnit 54 = .ok (.iload_n 3, 1) := by decide +kernel
theorem dX2_readUnit_55 : decode cX2_readUnit 55 = .ok (.iadd, 1) := by decide +kernel
theorem dX2_readUnit_56 : decode cX2_readUnit 56 = .ok (.invokevirtual 22, 3) := by decide +kernel
theorem dX2_readUnit_59 : decode cX2_readUnit 59 = .ok (.iconst 1, 1) := by decide +kernel
theorem dX2_readUnit_60 : decode cX2_readUnit 60 = .ok (.ireturn, 1) := by decide +kernel
theorem dX2_readUnit_61 : decode cX2_readUnit 61 = .ok (.aload_n 1, 1) := by decide +kernel
theorem dX2_readUnit_62 : decode cX2_readUnit 62 = .ok (.ldc 60, 2) := by decide +kernel
theorem dX2_readUnit_64 : decode cX2_readUnit 64 = .ok (.invokevirtual 62, 3) := by decide +kernel
theorem dX2_readUnit_67 : decode cX2_readUnit 67 = .ok (.istore 4, 2) := by decide +kernel
theorem dX2_readUnit_69 : decode cX2_readUnit 69 = .ok (.aload_n 1, 1) := by decide +kernel
theorem dX2_readUnit_70 : decode cX2_readUnit 70 = .ok (.ldc 66, 2) := by decide +kernel
theorem dX2_readUnit_72 : decode cX2_readUnit 72 = .ok (.invokevirtual 62, 3) := by decide +kernel
theorem dX2_readUnit_75 : decode cX2_readUnit 75 = .ok (.istore 5, 2) := by decide +kernel
theorem dX2_readUnit_77 : decode cX2_readUnit 77 = .ok (.aload_n 1, 1) := by decide +kernel
theorem dX2_readUnit_78 : decode cX2_readUnit 78 = .ok (.bipush 40, 2) := by decide +kernel
theorem dX2_readUnit_80 : decode cX2_readUnit 80 = .ok (.invokevirtual 42, 3) := by decide +kernel
theorem dX2_readUnit_83 : decode cX2_readUnit 83 = .ok (.istore 6, 2) := by decide +kernel
theorem dX2_readUnit_85 : decode cX2_readUnit 85 = .ok (.iload 4, 2) := by decide +kernel
theorem dX2_readUnit_87 : decode cX2_readUnit 87 = .ok (.ifCond .ne 19, 3) := by decide +kernel
theorem dX2_readUnit_90 : decode cX2_readUnit 90 = .ok (.iload 5, 2) := by decide +kernel
theorem dX2_readUnit_92 : decode cX2_readUnit 92 = .ok (.ifCond .ne 14, 3) := by decide +kernel
theorem dX2_readUnit_95 : decode cX2_readUnit 95 = .ok (.iload 6, 2) := by decide +kernel
theorem dX2_readUnit_97 : decode cX2_readUnit 97 = .ok (.ifCond .ne 9, 3) := by decide +kernel
theorem dX2_readUnit_100 : decode cX2_readUnit 100 = .ok (.aload_n 1, 1) := by decide +kernel
theorem dX2_readUnit_101 : decode cX2_readUnit 101 = .ok (.iconst 1, 1) := by decide +kernel
theorem dX2_readUnit_102 : decode cX2_readUnit 102 = .ok (.invokevirtual 35, 3) := by decide +kernel
theorem dX2_readUnit_105 : decode cX2_readUnit 105 = .ok (.ireturn, 1) := by decide +kernel
theorem dX2_readUnit_106 : decode cX2_readUnit 106 = .ok (.iload_n 2, 1) := by decide +kernel
theorem dX2_readUnit_107 : decode cX2_readUnit 107 = .ok (.bipush 6, 2) := by decide +kernel
theorem dX2_readUnit_109 : decode cX2_readUnit 109 = .ok (.if_icmp .lt 9, 3) := by decide +kernel
theorem dX2_readUnit_112 : decode cX2_readUnit 112 = .ok (.aload_n 1, 1) := by decide +kernel
theorem dX2_readUnit_113 : decode cX2_readUnit 113 = .ok (.iconst 3, 1) := by decide +kernel
theorem dX2_readUnit_114 : decode cX2_readUnit 114 = .ok (.invokevirtual 35, 3) := by decide +kernel
theorem dX2_readUnit_117 : decode cX2_readUnit 117 = .ok (.ireturn, 1) := by decide +kernel
theorem dX2_readUnit_118 : decode cX2_readUnit 118 = .ok (.aload_n 1, 1) := by decide +kernel
theorem dX2_readUnit_119 : decode cX2_readUnit 119 = .ok (.invokevirtual 46, 3) := by decide +kernel
theorem dX2_readUnit_122 : decode cX2_readUnit 122 = .ok (.iload 6, 2) := by decide +kernel
theorem dX2_readUnit_124 : decode cX2_readUnit 124 = .ok (.ifCond .eq 29, 3) := by decide +kernel
theorem dX2_readUnit_127 : decode cX2_readUnit 127 = .ok (.aload_n 0, 1) := by decide +kernel
theorem dX2_readUnit_128 : decode cX2_readUnit 128 = .ok (.aload_n 1, 1) := by decide +kernel
theorem dX2_readUnit_129 : decode cX2_readUnit 129 = .ok (.iload_n 2, 1) := by decide +kernel
theorem dX2_readUnit_130 : decode cX2_readUnit 130 = .ok (.iconst 1, 1) := by decide +kernel
theorem dX2_readUnit_131 : decode cX2_readUnit 131 = .ok (.iadd, 1) := by decide +kernel
theorem dX2_readUnit_132 : decode cX2_readUnit 132 = .ok (.invokevirtual 26, 3) := by decide +kernel
theorem dX2_readUnit_135 : decode cX2_readUnit 135 = .ok (.ifCond .eq 16, 3) := by decide +kernel
theorem dX2_readUnit_138 : decode cX2_readUnit 138 = .ok (.aload_n 1, 1) := by decide +kernel
theorem dX2_readUnit_139 : decode cX2_readUnit 139 = .ok (.bipush 41, 2) := by decide +kernel
theorem dX2_readUnit_141 : decode cX2_readUnit 141 = .ok (.invokevirtual 68, 3) := by decide +kernel
theorem dX2_readUnit_144 : decode cX2_readUnit 144 = .ok (.ifCond .eq 7, 3) := by decide +kernel
theorem dX2_readUnit_147 : decode cX2_readUnit 147 = .ok (.iconst 1, 1) := by decide +kernel
theorem dX2_readUnit_148 : decode cX2_readUnit 148 = .ok (.goto 4, 3) := by decide +kernel
theorem dX2_readUnit_151 : decode cX2_readUnit 151 = .ok (.iconst 0, 1) := by decide +kernel
theorem dX2_readUnit_152 : decode cX2_readUnit 152 = .ok (.ireturn, 1) := by decide +kernel
theorem dX2_readUnit_153 : decode cX2_readUnit 153 = .ok (.aload_n 0, 1) := by decide +kernel
theorem dX2_readUnit_154 : decode cX2_readUnit 154 = .ok (.aload_n 1, 1) := by decide +kernel
theorem dX2_readUnit_155 : decode cX2_readUnit 155 = .ok (.iload_n 2, 1) := by decide +kernel
theorem dX2_readUnit_156 : decode cX2_readUnit 156 = .ok (.iconst 1, 1) := by decide +kernel
theorem dX2_readUnit_157 : decode cX2_readUnit 157 = .ok (.iadd, 1) := by decide +kernel
theorem dX2_readUnit_158 : decode cX2_readUnit 158 = .ok (.iload 4, 2) := by decide +kernel
theorem dX2_readUnit_160 : decode cX2_readUnit 160 = .ok (.ifCond .eq 7, 3) := by decide +kernel
theorem dX2_readUnit_163 : decode cX2_readUnit 163 = .ok (.iconst 4, 1) := by decide +kernel
theorem dX2_readUnit_164 : decode cX2_readUnit 164 = .ok (.goto 4, 3) := by decide +kernel
theorem dX2_readUnit_167 : decode cX2_readUnit 167 = .ok (.iconst 5, 1) := by decide +kernel
theorem dX2_readUnit_168 : decode cX2_readUnit 168 = .ok (.invokevirtual 71, 3) := by decide +kernel
theorem dX2_readUnit_171 : decode cX2_readUnit 171 = .ok (.ireturn, 1) := by decide +kernel
theorem dX2_readPair_0 : decode cX2_readPair 0 = .ok (.aload_n 1, 1) := by decide +kernel
theorem dX2_readPair_1 : decode cX2_readPair 1 = .ok (.bipush 91, 2) := by decide +kernel
theorem dX2_readPair_3 : decode cX2_readPair 3 = .ok (.invokevirtual 68, 3) := by decide +kernel
theorem dX2_readPair_6 : decode cX2_readPair 6 = .ok (.ifCond .eq 12, 3) := by decide +kernel
theorem dX2_readPair_9 : decode cX2_readPair 9 = .ok (.aload_n 0, 1) := by decide +kernel
theorem dX2_readPair_10 : decode cX2_readPair 10 = .ok (.aload_n 1, 1) := by decide +kernel
theorem dX2_readPair_11 : decode cX2_readPair 11 = .ok (.iload_n 2, 1) := by decide +kernel
theorem dX2_readPair_12 : decode cX2_readPair 12 = .ok (.invokevirtual 26, 3) := by decide +kernel
theorem dX2_readPair_15 : decode cX2_readPair 15 = .ok (.ifCond .ne 5, 3) := by decide +kernel
theorem dX2_readPair_18 : decode cX2_readPair 18 = .ok (.iconst 0, 1) := by decide +kernel
theorem dX2_readPair_19 : decode cX2_readPair 19 = .ok (.ireturn, 1) := by decide +kernel
theorem dX2_readPair_20 : decode cX2_readPair 20 = .ok (.aload_n 1, 1) := by decide +kernel
theorem dX2_readPair_21 : decode cX2_readPair 21 = .ok (.bipush 44, 2) := by decide +kernel
theorem dX2_readPair_23 : decode cX2_readPair 23 = .ok (.invokevirtual 68, 3) := by decide +kernel
theorem dX2_readPair_26 : decode cX2_readPair 26 = .ok (.ifCond .eq 12, 3) := by decide +kernel
theorem dX2_readPair_29 : decode cX2_readPair 29 = .ok (.aload_n 0, 1) := by decide +kernel
theorem dX2_readPair_30 : decode cX2_readPair 30 = .ok (.aload_n 1, 1) := by decide +kernel
theorem dX2_readPair_31 : decode cX2_readPair 31 = .ok (.iload_n 2, 1) := by decide +kernel
theorem dX2_readPair_32 : decode cX2_readPair 32 = .ok (.invokevirtual 26, 3) := by decide +kernel
theorem dX2_readPair_35 : decode cX2_readPair 35 = .ok (.ifCond .ne 5, 3) := by decide +kernel
theorem dX2_readPair_38 : decode cX2_readPair 38 = .ok (.iconst 0, 1) := by decide +kernel
theorem dX2_readPair_39 : decode cX2_readPair 39 = .ok (.ireturn, 1) := by decide +kernel
theorem dX2_readPair_40 : decode cX2_readPair 40 = .ok (.aload_n 0, 1) := by decide +kernel
theorem dX2_readPair_41 : decode cX2_readPair 41 = .ok (.iload_n 3, 1) := by decide +kernel
theorem dX2_readPair_42 : decode cX2_readPair 42 = .ok (.invokevirtual 22, 3) := by decide +kernel
theorem dX2_readPair_45 : decode cX2_readPair 45 = .ok (.aload_n 1, 1) := by decide +kernel
theorem dX2_readPair_46 : decode cX2_readPair 46 = .ok (.bipush 93, 2) := by decide +kernel
theorem dX2_readPair_48 : decode cX2_readPair 48 = .ok (.invokevirtual 68, 3) := by decide +kernel
theorem dX2_readPair_51 : decode cX2_readPair 51 = .ok (.ireturn, 1) := by decide +kernel
theorem dX2_variableOf_0 : decode cX2_variableOf 0 = .ok (.aload_n 0, 1) := by decide +kernel
theorem dX2_variableOf_1 : decode cX2_variableOf 1 = .ok (.getfield 30, 3) := by decide +kernel
theorem dX2_variableOf_4 : decode cX2_variableOf 4 = .ok (.iconst 2, 1) := by decide +kernel
theorem dX2_variableOf_5 : decode cX2_variableOf 5 = .ok (.if_icmp .eq 5, 3) := by decide +kernel
theorem dX2_variableOf_8 : decode cX2_variableOf 8 = .ok (.iconst (-1), 1) := by decide +kernel
theorem dX2_variableOf_9 : decode cX2_variableOf 9 = .ok (.ireturn, 1) := by decide +kernel
theorem dX2_variableOf_10 : decode cX2_variableOf 10 = .ok (.aload_n 0, 1) := by decide +kernel
theorem dX2_variableOf_11 : decode cX2_variableOf 11 = .ok (.ldc 75, 2) := by decide +kernel
theorem dX2_variableOf_13 : decode cX2_variableOf 13 = .ok (.invokevirtual 62, 3) := by decide +kernel
theorem dX2_variableOf_16 : decode cX2_variableOf 16 = .ok (.ifCond .eq 5, 3) := by decide +kernel
theorem dX2_variableOf_19 : decode cX2_variableOf 19 = .ok (.iconst 0, 1) := by decide +kernel
theorem dX2_variableOf_20 : decode cX2_variableOf 20 = .ok (.ireturn, 1) := by decide +kernel
theorem dX2_variableOf_21 : decode cX2_variableOf 21 = .ok (.aload_n 0, 1) := by decide +kernel
theorem dX2_variableOf_22 : decode cX2_variableOf 22 = .ok (.ldc 77, 2) := by decide +kernel
theorem dX2_variableOf_24 : decode cX2_variableOf 24 = .ok (.invokevirtual 62, 3) := by decide +kernel
theorem dX2_variableOf_27 : decode cX2_variableOf 27 = .ok (.ifCond .eq 5, 3) := by decide +kernel
theorem dX2_variableOf_30 : decode cX2_variableOf 30 = .ok (.iconst 1, 1) := by decide +kernel
theorem dX2_variableOf_31 : decode cX2_variableOf 31 = .ok (.ireturn, 1) := by decide +kernel
theorem dX2_variableOf_32 : decode cX2_variableOf 32 = .ok (.aload_n 0, 1) := by decide +kernel
theorem dX2_variableOf_33 : decode cX2_variableOf 33 = .ok (.ldc 79, 2) := by decide +kernel
theorem dX2_variableOf_35 : decode cX2_variableOf 35 = .ok (.invokevirtual 62, 3) := by decide +kernel
theorem dX2_variableOf_38 : decode cX2_variableOf 38 = .ok (.ifCond .eq 5, 3) := by decide +kernel
theorem dX2_variableOf_41 : decode cX2_variableOf 41 = .ok (.iconst 2, 1) := by decide +kernel
theorem dX2_variableOf_42 : decode cX2_variableOf 42 = .ok (.ireturn, 1) := by decide +kernel
theorem dX2_variableOf_43 : decode cX2_variableOf 43 = .ok (.aload_n 0, 1) := by decide +kernel
theorem dX2_variableOf_44 : decode cX2_variableOf 44 = .ok (.ldc 81, 2) := by decide +kernel
theorem dX2_variableOf_46 : decode cX2_variableOf 46 = .ok (.invokevirtual 62, 3) := by decide +kernel
theorem dX2_variableOf_49 : decode cX2_variableOf 49 = .ok (.ifCond .eq 5, 3) := by decide +kernel
theorem dX2_variableOf_52 : decode cX2_variableOf 52 = .ok (.iconst 3, 1) := by decide +kernel
theorem dX2_variableOf_53 : decode cX2_variableOf 53 = .ok (.ireturn, 1) := by decide +kernel
theorem dX2_variableOf_54 : decode cX2_variableOf 54 = .ok (.aload_n 0, 1) := by decide +kernel
theorem dX2_variableOf_55 : decode cX2_variableOf 55 = .ok (.ldc 83, 2) := by decide +kernel
theorem dX2_variableOf_57 : decode cX2_variableOf 57 = .ok (.invokevirtual 62, 3) := by decide +kernel
theorem dX2_variableOf_60 : decode cX2_variableOf 60 = .ok (.ifCond .eq 5, 3) := by decide +kernel
theorem dX2_variableOf_63 : decode cX2_variableOf 63 = .ok (.iconst 4, 1) := by decide +kernel
theorem dX2_variableOf_64 : decode cX2_variableOf 64 = .ok (.ireturn, 1) := by decide +kernel
theorem dX2_variableOf_65 : decode cX2_variableOf 65 = .ok (.aload_n 0, 1) := by decide +kernel
theorem dX2_variableOf_66 : decode cX2_variableOf 66 = .ok (.ldc 85, 2) := by decide +kernel
theorem dX2_variableOf_68 : decode cX2_variableOf 68 = .ok (.invokevirtual 62, 3) := by decide +kernel
theorem dX2_variableOf_71 : decode cX2_variableOf 71 = .ok (.ifCond .eq 5, 3) := by decide +kernel
theorem dX2_variableOf_74 : decode cX2_variableOf 74 = .ok (.iconst 5, 1) := by decide +kernel
theorem dX2_variableOf_75 : decode cX2_variableOf 75 = .ok (.ireturn, 1) := by decide +kernel
theorem dX2_variableOf_76 : decode cX2_variableOf 76 = .ok (.aload_n 0, 1) := by decide +kernel
theorem dX2_variableOf_77 : decode cX2_variableOf 77 = .ok (.invokestatic 87, 3) := by decide +kernel
theorem dX2_variableOf_80 : decode cX2_variableOf 80 = .ok (.ireturn, 1) := by decide +kernel
theorem dX2_variableOfMeeting_0 : decode cX2_variableOfMeeting 0 = .ok (.aload_n 0, 1) := by decide +kernel
theorem dX2_variableOfMeeting_1 : decode cX2_variableOfMeeting 1 = .ok (.ldc 90, 2) := by decide +kernel
theorem dX2_variableOfMeeting_3 : decode cX2_variableOfMeeting 3 = .ok (.invokevirtual 62, 3) := by decide +kernel
theorem dX2_variableOfMeeting_6 : decode cX2_variableOfMeeting 6 = .ok (.ifCond .eq 6, 3) := by decide +kernel
theorem dX2_variableOfMeeting_9 : decode cX2_variableOfMeeting 9 = .ok (.bipush 6, 2) := by decide +kernel
theorem dX2_variableOfMeeting_11 : decode cX2_variableOfMeeting 11 = .ok (.ireturn, 1) := by decide +kernel
theorem dX2_variableOfMeeting_12 : decode cX2_variableOfMeeting 12 = .ok (.aload_n 0, 1) := by decide +kernel
theorem dX2_variableOfMeeting_13 : decode cX2_variableOfMeeting 13 = .ok (.ldc 92, 2) := by decide +kernel
theorem dX2_variableOfMeeting_15 : decode cX2_variableOfMeeting 15 = .ok (.invokevirtual 62, 3) := by decide +kernel
theorem dX2_variableOfMeeting_18 : decode cX2_variableOfMeeting 18 = .ok (.ifCond .eq 6, 3) := by decide +kernel
theorem dX2_variableOfMeeting_21 : decode cX2_variableOfMeeting 21 = .ok (.bipush 7, 2) := by decide +kernel
theorem dX2_variableOfMeeting_23 : decode cX2_variableOfMeeting 23 = .ok (.ireturn, 1) := by decide +kernel
theorem dX2_variableOfMeeting_24 : decode cX2_variableOfMeeting 24 = .ok (.aload_n 0, 1) := by decide +kernel
theorem dX2_variableOfMeeting_25 : decode cX2_variableOfMeeting 25 = .ok (.ldc 94, 2) := by decide +kernel
theorem dX2_variableOfMeeting_27 : decode cX2_variableOfMeeting 27 = .ok (.invokevirtual 62, 3) := by decide +kernel
theorem dX2_variableOfMeeting_30 : decode cX2_variableOfMeeting 30 = .ok (.ifCond .eq 6, 3) := by decide +kernel
theorem dX2_variableOfMeeting_33 : decode cX2_variableOfMeeting 33 = .ok (.bipush 8, 2) := by decide +kernel
theorem dX2_variableOfMeeting_35 : decode cX2_variableOfMeeting 35 = .ok (.ireturn, 1) := by decide +kernel
theorem dX2_variableOfMeeting_36 : decode cX2_variableOfMeeting 36 = .ok (.aload_n 0, 1) := by decide +kernel
theorem dX2_variableOfMeeting_37 : decode cX2_variableOfMeeting 37 = .ok (.ldc 96, 2) := by decide +kernel
theorem dX2_variableOfMeeting_39 : decode cX2_variableOfMeeting 39 = .ok (.invokevirtual 62, 3) := by decide +kernel
theorem dX2_variableOfMeeting_42 : decode cX2_variableOfMeeting 42 = .ok (.ifCond .eq 6, 3) := by decide +kernel
theorem dX2_variableOfMeeting_45 : decode cX2_variableOfMeeting 45 = .ok (.bipush 9, 2) := by decide +kernel
theorem dX2_variableOfMeeting_47 : decode cX2_variableOfMeeting 47 = .ok (.ireturn, 1) := by decide +kernel
theorem dX2_variableOfMeeting_48 : decode cX2_variableOfMeeting 48 = .ok (.aload_n 0, 1) := by decide +kernel
theorem dX2_variableOfMeeting_49 : decode cX2_variableOfMeeting 49 = .ok (.ldc 98, 2) := by decide +kernel
theorem dX2_variableOfMeeting_51 : decode cX2_variableOfMeeting 51 = .ok (.invokevirtual 62, 3) := by decide +kernel
theorem dX2_variableOfMeeting_54 : decode cX2_variableOfMeeting 54 = .ok (.ifCond .eq 6, 3) := by decide +kernel
theorem dX2_variableOfMeeting_57 : decode cX2_variableOfMeeting 57 = .ok (.bipush 10, 2) := by decide +kernel
theorem dX2_variableOfMeeting_59 : decode cX2_variableOfMeeting 59 = .ok (.ireturn, 1) := by decide +kernel
theorem dX2_variableOfMeeting_60 : decode cX2_variableOfMeeting 60 = .ok (.aload_n 0, 1) := by decide +kernel
theorem dX2_variableOfMeeting_61 : decode cX2_variableOfMeeting 61 = .ok (.ldc 100, 2) := by decide +kernel
theorem dX2_variableOfMeeting_63 : decode cX2_variableOfMeeting 63 = .ok (.invokevirtual 62, 3) := by decide +kernel
theorem dX2_variableOfMeeting_66 : decode cX2_variableOfMeeting 66 = .ok (.ifCond .eq 8, 3) := by decide +kernel
theorem dX2_variableOfMeeting_69 : decode cX2_variableOfMeeting 69 = .ok (.bipush 11, 2) := by decide +kernel
theorem dX2_variableOfMeeting_71 : decode cX2_variableOfMeeting 71 = .ok (.goto 4, 3) := by decide +kernel
theorem dX2_variableOfMeeting_74 : decode cX2_variableOfMeeting 74 = .ok (.iconst (-1), 1) := by decide +kernel
theorem dX2_variableOfMeeting_75 : decode cX2_variableOfMeeting 75 = .ok (.ireturn, 1) := by decide +kernel
theorem dX2_valueBy_0 : decode cX2_valueBy 0 = .ok (.iconst 0, 1) := by decide +kernel
theorem dX2_valueBy_1 : decode cX2_valueBy 1 = .ok (.istore_n 2, 1) := by decide +kernel
theorem dX2_valueBy_2 : decode cX2_valueBy 2 = .ok (.iconst 0, 1) := by decide +kernel
theorem dX2_valueBy_3 : decode cX2_valueBy 3 = .ok (.istore_n 3, 1) := by decide +kernel
theorem dX2_valueBy_4 : decode cX2_valueBy 4 = .ok (.iload_n 3, 1) := by decide +kernel
theorem dX2_valueBy_5 : decode cX2_valueBy 5 = .ok (.aload_n 0, 1) := by decide +kernel
theorem dX2_valueBy_6 : decode cX2_valueBy 6 = .ok (.getfield 15, 3) := by decide +kernel
theorem dX2_valueBy_9 : decode cX2_valueBy 9 = .ok (.if_icmp .ge 103, 3) := by decide +kernel
theorem dX2_valueBy_12 : decode cX2_valueBy 12 = .ok (.aload_n 0, 1) := by decide +kernel
theorem dX2_valueBy_13 : decode cX2_valueBy 13 = .ok (.getfield 9, 3) := by decide +kernel
theorem dX2_valueBy_16 : decode cX2_valueBy 16 = .ok (.iload_n 3, 1) := by decide +kernel
theorem dX2_valueBy_17 : decode cX2_valueBy 17 = .ok (.iaload, 1) := by decide +kernel
theorem dX2_valueBy_18 : decode cX2_valueBy 18 = .ok (.istore 4, 2) := by decide +kernel
theorem dX2_valueBy_20 : decode cX2_valueBy 20 = .ok (.iload 4, 2) := by decide +kernel
theorem dX2_valueBy_22 : decode cX2_valueBy 22 = .ok (.bipush 100, 2) := by decide +kernel
theorem dX2_valueBy_24 : decode cX2_valueBy 24 = .ok (.if_icmp .ge 41, 3) := by decide +kernel
theorem dX2_valueBy_27 : decode cX2_valueBy 27 = .ok (.iload_n 2, 1) := by decide +kernel
theorem dX2_valueBy_28 : decode cX2_valueBy 28 = .ok (.iconst 2, 1) := by decide +kernel
theorem dX2_valueBy_29 : decode cX2_valueBy 29 = .ok (.if_icmp .lt 77, 3) := by decide +kernel
theorem dX2_valueBy_32 : decode cX2_valueBy 32 = .ok (.iinc 2 (-1), 3) := by decide +kernel
theorem dX2_valueBy_35 : decode cX2_valueBy 35 = .ok (.aload_n 0, 1) := by decide +kernel
theorem dX2_valueBy_36 : decode cX2_valueBy 36 = .ok (.getfield 19, 3) := by decide +kernel
theorem dX2_valueBy_39 : decode cX2_valueBy 39 = .ok (.iload_n 2, 1) := by decide +kernel
theorem dX2_valueBy_40 : decode cX2_valueBy 40 = .ok (.iconst 1, 1) := by decide +kernel
theorem dX2_valueBy_41 : decode cX2_valueBy 41 = .ok (.isub, 1) := by decide +kernel
theorem dX2_valueBy_42 : decode cX2_valueBy 42 = .ok (.iload 4, 2) := by decide +kernel
theorem dX2_valueBy_44 : decode cX2_valueBy 44 = .ok (.aload_n 0, 1) := by decide +kernel
theorem dX2_valueBy_45 : decode cX2_valueBy 45 = .ok (.getfield 19, 3) := by decide +kernel
theorem dX2_valueBy_48 : decode cX2_valueBy 48 = .ok (.iload_n 2, 1) := by decide +kernel
theorem dX2_valueBy_49 : decode cX2_valueBy 49 = .ok (.iconst 1, 1) := by decide +kernel
theorem dX2_valueBy_50 : decode cX2_valueBy 50 = .ok (.isub, 1) := by decide +kernel
theorem dX2_valueBy_51 : decode cX2_valueBy 51 = .ok (.iaload, 1) := by decide +kernel
theorem dX2_valueBy_52 : decode cX2_valueBy 52 = .ok (.aload_n 0, 1) := by decide +kernel
theorem dX2_valueBy_53 : decode cX2_valueBy 53 = .ok (.getfield 19, 3) := by decide +kernel
theorem dX2_valueBy_56 : decode cX2_valueBy 56 = .ok (.iload_n 2, 1) := by decide +kernel
theorem dX2_valueBy_57 : decode cX2_valueBy 57 = .ok (.iaload, 1) := by decide +kernel
theorem dX2_valueBy_58 : decode cX2_valueBy 58 = .ok (.invokestatic 102, 3) := by decide +kernel
theorem dX2_valueBy_61 : decode cX2_valueBy 61 = .ok (.iastore, 1) := by decide +kernel
theorem dX2_valueBy_62 : decode cX2_valueBy 62 = .ok (.goto 44, 3) := by decide +kernel
theorem dX2_valueBy_65 : decode cX2_valueBy 65 = .ok (.iload_n 2, 1) := by decide +kernel
theorem dX2_valueBy_66 : decode cX2_valueBy 66 = .ok (.bipush 40, 2) := by decide +kernel
theorem dX2_valueBy_68 : decode cX2_valueBy 68 = .ok (.if_icmp .ge 38, 3) := by decide +kernel
theorem dX2_valueBy_71 : decode cX2_valueBy 71 = .ok (.aload_n 0, 1) := by decide +kernel
theorem dX2_valueBy_72 : decode cX2_valueBy 72 = .ok (.getfield 19, 3) := by decide +kernel
theorem dX2_valueBy_75 : decode cX2_valueBy 75 = .ok (.iload_n 2, 1) := by decide +kernel
theorem dX2_valueBy_76 : decode cX2_valueBy 76 = .ok (.iload 4, 2) := by decide +kernel
theorem dX2_valueBy_78 : decode cX2_valueBy 78 = .ok (.sipush 1000, 3) := by decide +kernel
theorem dX2_valueBy_81 : decode cX2_valueBy 81 = .ok (.if_icmp .lt 12, 3) := by decide +kernel
theorem dX2_valueBy_84 : decode cX2_valueBy 84 = .ok (.iload 4, 2) := by decide +kernel
theorem dX2_valueBy_86 : decode cX2_valueBy 86 = .ok (.sipush 1000, 3) := by decide +kernel
theorem dX2_valueBy_89 : decode cX2_valueBy 89 = .ok (.isub, 1) := by decide +kernel
theorem dX2_valueBy_90 : decode cX2_valueBy 90 = .ok (.goto 12, 3) := by decide +kernel
theorem dX2_valueBy_93 : decode cX2_valueBy 93 = .ok (.aload_n 1, 1) := by decide +kernel
theorem dX2_valueBy_94 : decode cX2_valueBy 94 = .ok (.iload 4, 2) := by decide +kernel
theorem dX2_valueBy_96 : decode cX2_valueBy 96 = .ok (.bipush 100, 2) := by decide +kernel
theorem dX2_valueBy_98 : decode cX2_valueBy 98 = .ok (.isub, 1) := by decide +kernel
theorem dX2_valueBy_99 : decode cX2_valueBy 99 = .ok (.invokestatic 106, 3) := by decide +kernel
theorem dX2_valueBy_102 : decode cX2_valueBy 102 = .ok (.iastore, 1) := by decide +kernel
theorem dX2_valueBy_103 : decode cX2_valueBy 103 = .ok (.iinc 2 1, 3) := by decide +kernel
theorem dX2_valueBy_106 : decode cX2_valueBy 106 = .ok (.iinc 3 1, 3) := by decide +kernel
theorem dX2_valueBy_109 : decode cX2_valueBy 109 = .ok (.goto (-105), 3) := by decide +kernel
theorem dX2_valueBy_112 : decode cX2_valueBy 112 = .ok (.iload_n 2, 1) := by decide +kernel
theorem dX2_valueBy_113 : decode cX2_valueBy 113 = .ok (.ifCond .le 12, 3) := by decide +kernel
theorem dX2_valueBy_116 : decode cX2_valueBy 116 = .ok (.aload_n 0, 1) := by decide +kernel
theorem dX2_valueBy_117 : decode cX2_valueBy 117 = .ok (.getfield 19, 3) := by decide +kernel
theorem dX2_valueBy_120 : decode cX2_valueBy 120 = .ok (.iconst 0, 1) := by decide +kernel
theorem dX2_valueBy_121 : decode cX2_valueBy 121 = .ok (.iaload, 1) := by decide +kernel
theorem dX2_valueBy_122 : decode cX2_valueBy 122 = .ok (.goto 4, 3) := by decide +kernel
theorem dX2_valueBy_125 : decode cX2_valueBy 125 = .ok (.iconst 0, 1) := by decide +kernel
theorem dX2_valueBy_126 : decode cX2_valueBy 126 = .ok (.ireturn, 1) := by decide +kernel
theorem dX2_variableBy_0 : decode cX2_variableBy 0 = .ok (.iload_n 1, 1) := by decide +kernel
theorem dX2_variableBy_1 : decode cX2_variableBy 1 = .ok (.ifCond .lt 15, 3) := by decide +kernel
theorem dX2_variableBy_4 : decode cX2_variableBy 4 = .ok (.iload_n 1, 1) := by decide +kernel
theorem dX2_variableBy_5 : decode cX2_variableBy 5 = .ok (.aload_n 0, 1) := by decide +kernel
theorem dX2_variableBy_6 : decode cX2_variableBy 6 = .ok (.arraylength, 1) := by decide +kernel
theorem dX2_variableBy_7 : decode cX2_variableBy 7 = .ok (.if_icmp .ge 9, 3) := by decide +kernel
theorem dX2_variableBy_10 : decode cX2_variableBy 10 = .ok (.aload_n 0, 1) := by decide +kernel
theorem dX2_variableBy_11 : decode cX2_variableBy 11 = .ok (.iload_n 1, 1) := by decide +kernel
theorem dX2_variableBy_12 : decode cX2_variableBy 12 = .ok (.iaload, 1) := by decide +kernel
theorem dX2_variableBy_13 : decode cX2_variableBy 13 = .ok (.goto 4, 3) := by decide +kernel
theorem dX2_variableBy_16 : decode cX2_variableBy 16 = .ok (.iconst 0, 1) := by decide +kernel
theorem dX2_variableBy_17 : decode cX2_variableBy 17 = .ok (.ireturn, 1) := by decide +kernel
theorem dX2_joined_0 : decode cX2_joined 0 = .ok (.iload_n 0, 1) := by decide +kernel
theorem dX2_joined_1 : decode cX2_joined 1 = .ok (.tableswitch 70 0 4 #[35, 39, 43, 47, 59], 35) := by decide +kernel
theorem dX2_joined_36 : decode cX2_joined 36 = .ok (.iload_n 1, 1) := by decide +kernel
theorem dX2_joined_37 : decode cX2_joined 37 = .ok (.iload_n 2, 1) := by decide +kernel
theorem dX2_joined_38 : decode cX2_joined 38 = .ok (.iadd, 1) := by decide +kernel
theorem dX2_joined_39 : decode cX2_joined 39 = .ok (.ireturn, 1) := by decide +kernel
theorem dX2_joined_40 : decode cX2_joined 40 = .ok (.iload_n 1, 1) := by decide +kernel
theorem dX2_joined_41 : decode cX2_joined 41 = .ok (.iload_n 2, 1) := by decide +kernel
theorem dX2_joined_42 : decode cX2_joined 42 = .ok (.isub, 1) := by decide +kernel
theorem dX2_joined_43 : decode cX2_joined 43 = .ok (.ireturn, 1) := by decide +kernel
theorem dX2_joined_44 : decode cX2_joined 44 = .ok (.iload_n 1, 1) := by decide +kernel
theorem dX2_joined_45 : decode cX2_joined 45 = .ok (.iload_n 2, 1) := by decide +kernel
theorem dX2_joined_46 : decode cX2_joined 46 = .ok (.imul, 1) := by decide +kernel
theorem dX2_joined_47 : decode cX2_joined 47 = .ok (.ireturn, 1) := by decide +kernel
theorem dX2_joined_48 : decode cX2_joined 48 = .ok (.iload_n 2, 1) := by decide +kernel
theorem dX2_joined_49 : decode cX2_joined 49 = .ok (.ifCond .ne 7, 3) := by decide +kernel
theorem dX2_joined_52 : decode cX2_joined 52 = .ok (.iconst 0, 1) := by decide +kernel
theorem dX2_joined_53 : decode cX2_joined 53 = .ok (.goto 6, 3) := by decide +kernel
theorem dX2_joined_56 : decode cX2_joined 56 = .ok (.iload_n 1, 1) := by decide +kernel
theorem dX2_joined_57 : decode cX2_joined 57 = .ok (.iload_n 2, 1) := by decide +kernel
theorem dX2_joined_58 : decode cX2_joined 58 = .ok (.idiv, 1) := by decide +kernel
theorem dX2_joined_59 : decode cX2_joined 59 = .ok (.ireturn, 1) := by decide +kernel
theorem dX2_joined_60 : decode cX2_joined 60 = .ok (.iload_n 1, 1) := by decide +kernel
theorem dX2_joined_61 : decode cX2_joined 61 = .ok (.iload_n 2, 1) := by decide +kernel
theorem dX2_joined_62 : decode cX2_joined 62 = .ok (.if_icmp .ge 7, 3) := by decide +kernel
theorem dX2_joined_65 : decode cX2_joined 65 = .ok (.iload_n 1, 1) := by decide +kernel
theorem dX2_joined_66 : decode cX2_joined 66 = .ok (.goto 4, 3) := by decide +kernel
theorem dX2_joined_69 : decode cX2_joined 69 = .ok (.iload_n 2, 1) := by decide +kernel
theorem dX2_joined_70 : decode cX2_joined 70 = .ok (.ireturn, 1) := by decide +kernel
theorem dX2_joined_71 : decode cX2_joined 71 = .ok (.iload_n 1, 1) := by decide +kernel
theorem dX2_joined_72 : decode cX2_joined 72 = .ok (.iload_n 2, 1) := by decide +kernel
theorem dX2_joined_73 : decode cX2_joined 73 = .ok (.if_icmp .le 7, 3) := by decide +kernel
theorem dX2_joined_76 : decode cX2_joined 76 = .ok (.iload_n 1, 1) := by decide +kernel
theorem dX2_joined_77 : decode cX2_joined 77 = .ok (.goto 4, 3) := by decide +kernel
theorem dX2_joined_80 : decode cX2_joined 80 = .ok (.iload_n 2, 1) := by decide +kernel
theorem dX2_joined_81 : decode cX2_joined 81 = .ok (.ireturn, 1) := by decide +kernel
theorem dX3_init_0 : decode cX3_init 0 = .ok (.aload_n 0, 1) := by decide +kernel
theorem dX3_init_1 : decode cX3_init 1 = .ok (.invokespecial 3, 3) := by decide +kernel
theorem dX3_init_4 : decode cX3_init 4 = .ok (.aload_n 0, 1) := by decide +kernel
theorem dX3_init_5 : decode cX3_init 5 = .ok (.sipush 441, 3) := by decide +kernel
theorem dX3_init_8 : decode cX3_init 8 = .ok (.newarray .int, 2) := by decide +kernel
theorem dX3_init_10 : decode cX3_init 10 = .ok (.putfield 11, 3) := by decide +kernel
theorem dX3_init_13 : decode cX3_init 13 = .ok (.aload_n 0, 1) := by decide +kernel
theorem dX3_init_14 : decode cX3_init 14 = .ok (.sipush 441, 3) := by decide +kernel
theorem dX3_init_17 : decode cX3_init 17 = .ok (.newarray .int, 2) := by decide +kernel
theorem dX3_init_19 : decode cX3_init 19 = .ok (.putfield 15, 3) := by decide +kernel
theorem dX3_init_22 : decode cX3_init 22 = .ok (.return_, 1) := by decide +kernel
theorem dX3_isPair_0 : decode cX3_isPair 0 = .ok (.iload_n 0, 1) := by decide +kernel
theorem dX3_isPair_1 : decode cX3_isPair 1 = .ok (.ifCond .lt 23, 3) := by decide +kernel
theorem dX3_isPair_4 : decode cX3_isPair 4 = .ok (.iload_n 0, 1) := by decide +kernel
theorem dX3_isPair_5 : decode cX3_isPair 5 = .ok (.bipush 21, 2) := by decide +kernel
theorem dX3_isPair_7 : decode cX3_isPair 7 = .ok (.if_icmp .ge 17, 3) := by decide +kernel
theorem dX3_isPair_10 : decode cX3_isPair 10 = .ok (.iload_n 1, 1) := by decide +kernel
theorem dX3_isPair_11 : decode cX3_isPair 11 = .ok (.ifCond .lt 13, 3) := by decide +kernel
theorem dX3_isPair_14 : decode cX3_isPair 14 = .ok (.iload_n 1, 1) := by decide +kernel
theorem dX3_isPair_15 : decode cX3_isPair 15 = .ok (.bipush 21, 2) := by decide +kernel
theorem dX3_isPair_17 : decode cX3_isPair 17 = .ok (.if_icmp .ge 7, 3) := by decide +kernel
theorem dX3_isPair_20 : decode cX3_isPair 20 = .ok (.iconst 1, 1) := by decide +kernel
theorem dX3_isPair_21 : decode cX3_isPair 21 = .ok (.goto 4, 3) := by decide +kernel
theorem dX3_isPair_24 : decode cX3_isPair 24 = .ok (.iconst 0, 1) := by decide +kernel
theorem dX3_isPair_25 : decode cX3_isPair 25 = .ok (.ireturn, 1) := by decide +kernel
theorem dX3_put_0 : decode cX3_put 0 = .ok (.iload_n 1, 1) := by decide +kernel
theorem dX3_put_1 : decode cX3_put 1 = .ok (.iload_n 2, 1) := by decide +kernel
theorem dX3_put_2 : decode cX3_put 2 = .ok (.invokestatic 18, 3) := by decide +kernel
theorem dX3_put_5 : decode cX3_put 5 = .ok (.ifCond .eq 28, 3) := by decide +kernel
theorem dX3_put_8 : decode cX3_put 8 = .ok (.aload_n 0, 1) := by decide +kernel
theorem dX3_put_9 : decode cX3_put 9 = .ok (.getfield 11, 3) := by decide +kernel
theorem dX3_put_12 : decode cX3_put 12 = .ok (.iload_n 1, 1) := by decide +kernel
theorem dX3_put_13 : decode cX3_put 13 = .ok (.bipush 21, 2) := by decide +kernel
theorem dX3_put_15 : decode cX3_put 15 = .ok (.imul, 1) := by decide +kernel
theorem dX3_put_16 : decode cX3_put 16 = .ok (.iload_n 2, 1) := by decide +kernel
theorem dX3_put_17 : decode cX3_put 17 = .ok (.iadd, 1) := by decide +kernel
theorem dX3_put_18 : decode cX3_put 18 = .ok (.iload_n 3, 1) := by decide +kernel
theorem dX3_put_19 : decode cX3_put 19 = .ok (.iastore, 1) := by decide +kernel
theorem dX3_put_20 : decode cX3_put 20 = .ok (.aload_n 0, 1) := by decide +kernel
theorem dX3_put_21 : decode cX3_put 21 = .ok (.getfield 15, 3) := by decide +kernel
theorem dX3_put_24 : decode cX3_put 24 = .ok (.iload_n 1, 1) := by decide +kernel
theorem dX3_put_25 : decode cX3_put 25 = .ok (.bipush 21, 2) := by decide +kernel
theorem dX3_put_27 : decode cX3_put 27 = .ok (.imul, 1) := by decide +kernel
theorem dX3_put_28 : decode cX3_put 28 = .ok (.iload_n 2, 1) := by decide +kernel
theorem dX3_put_29 : decode cX3_put 29 = .ok (.iadd, 1) := by decide +kernel
theorem dX3_put_30 : decode cX3_put 30 = .ok (.iload 4, 2) := by decide +kernel
theorem dX3_put_32 : decode cX3_put 32 = .ok (.iastore, 1) := by decide +kernel
theorem dX3_put_33 : decode cX3_put 33 = .ok (.return_, 1) := by decide +kernel
theorem dX3_copy_0 : decode cX3_copy 0 = .ok (.iload_n 3, 1) := by decide +kernel
theorem dX3_copy_1 : decode cX3_copy 1 = .ok (.iload 4, 2) := by decide +kernel
theorem dX3_copy_3 : decode cX3_copy 3 = .ok (.invokestatic 18, 3) := by decide +kernel
theorem dX3_copy_6 : decode cX3_copy 6 = .ok (.ifCond .eq 32, 3) := by decide +kernel
theorem dX3_copy_9 : decode cX3_copy 9 = .ok (.iload_n 3, 1) := by decide +kernel
theorem dX3_copy_10 : decode cX3_copy 10 = .ok (.bipush 21, 2) := by decide +kernel
theorem dX3_copy_12 : decode cX3_copy 12 = .ok (.imul, 1) := by decide +kernel
theorem dX3_copy_13 : decode cX3_copy 13 = .ok (.iload 4, 2) := by decide +kernel
theorem dX3_copy_15 : decode cX3_copy 15 = .ok (.iadd, 1) := by decide +kernel
theorem dX3_copy_16 : decode cX3_copy 16 = .ok (.istore 5, 2) := by decide +kernel
theorem dX3_copy_18 : decode cX3_copy 18 = .ok (.aload_n 0, 1) := by decide +kernel
theorem dX3_copy_19 : decode cX3_copy 19 = .ok (.iload_n 1, 1) := by decide +kernel
theorem dX3_copy_20 : decode cX3_copy 20 = .ok (.iload_n 2, 1) := by decide +kernel
theorem dX3_copy_21 : decode cX3_copy 21 = .ok (.aload_n 0, 1) := by decide +kernel
theorem dX3_copy_22 : decode cX3_copy 22 = .ok (.getfield 11, 3) := by decide +kernel
theorem dX3_copy_25 : decode cX3_copy 25 = .ok (.iload 5, 2) := by decide +kernel
theorem dX3_copy_27 : decode cX3_copy 27 = .ok (.iaload, 1) := by decide +kernel
theorem dX3_copy_28 : decode cX3_copy 28 = .ok (.aload_n 0, 1) := by decide +kernel
theorem dX3_copy_29 : decode cX3_copy 29 = .ok (.getfield 15, 3) := by decide +kernel
theorem dX3_copy_32 : decode cX3_copy 32 = .ok (.iload 5, 2) := by decide +kernel
theorem dX3_copy_34 : decode cX3_copy 34 = .ok (.iaload, 1) := by decide +kernel
theorem dX3_copy_35 : decode cX3_copy 35 = .ok (.invokevirtual 22, 3) := by decide +kernel
theorem dX3_copy_38 : decode cX3_copy 38 = .ok (.return_, 1) := by decide +kernel
theorem dX3_isRest_0 : decode cX3_isRest 0 = .ok (.iload_n 1, 1) := by decide +kernel
theorem dX3_isRest_1 : decode cX3_isRest 1 = .ok (.bipush 21, 2) := by decide +kernel
theorem dX3_isRest_3 : decode cX3_isRest 3 = .ok (.imul, 1) := by decide +kernel
theorem dX3_isRest_4 : decode cX3_isRest 4 = .ok (.iload_n 2, 1) := by decide +kernel
theorem dX3_isRest_5 : decode cX3_isRest 5 = .ok (.iadd, 1) := by decide +kernel
theorem dX3_isRest_6 : decode cX3_isRest 6 = .ok (.istore 4, 2) := by decide +kernel
theorem dX3_isRest_8 : decode cX3_isRest 8 = .ok (.iconst 0, 1) := by decide +kernel
theorem dX3_isRest_9 : decode cX3_isRest 9 = .ok (.istore 5, 2) := by decide +kernel
theorem dX3_isRest_11 : decode cX3_isRest 11 = .ok (.iload 5, 2) := by decide +kernel
theorem dX3_isRest_13 : decode cX3_isRest 13 = .ok (.iload_n 3, 1) := by decide +kernel
theorem dX3_isRest_14 : decode cX3_isRest 14 = .ok (.if_icmp .ge 62, 3) := by decide +kernel
theorem dX3_isRest_17 : decode cX3_isRest 17 = .ok (.iload 5, 2) := by decide +kernel
theorem dX3_isRest_19 : decode cX3_isRest 19 = .ok (.bipush 21, 2) := by decide +kernel
theorem dX3_isRest_21 : decode cX3_isRest 21 = .ok (.if_icmp .ge 55, 3) := by decide +kernel
theorem dX3_isRest_24 : decode cX3_isRest 24 = .ok (.aload_n 0, 1) := by decide +kernel
theorem dX3_isRest_25 : decode cX3_isRest 25 = .ok (.getfield 11, 3) := by decide +kernel
theorem dX3_isRest_28 : decode cX3_isRest 28 = .ok (.iload 5, 2) := by decide +kernel
theorem dX3_isRest_30 : decode cX3_isRest 30 = .ok (.bipush 21, 2) := by decide +kernel
theorem dX3_isRest_32 : decode cX3_isRest 32 = .ok (.imul, 1) := by decide +kernel
theorem dX3_isRest_33 : decode cX3_isRest 33 = .ok (.iload_n 2, 1) := by decide +kernel
theorem dX3_isRest_34 : decode cX3_isRest 34 = .ok (.iadd, 1) := by decide +kernel
theorem dX3_isRest_35 : decode cX3_isRest 35 = .ok (.iaload, 1) := by decide +kernel
theorem dX3_isRest_36 : decode cX3_isRest 36 = .ok (.aload_n 0, 1) := by decide +kernel
theorem dX3_isRest_37 : decode cX3_isRest 37 = .ok (.getfield 11, 3) := by decide +kernel
theorem dX3_isRest_40 : decode cX3_isRest 40 = .ok (.iload 4, 2) := by decide +kernel
theorem dX3_isRest_42 : decode cX3_isRest 42 = .ok (.iaload, 1) := by decide +kernel
theorem dX3_isRest_43 : decode cX3_isRest 43 = .ok (.if_icmp .lt 25, 3) := by decide +kernel
theorem dX3_isRest_46 : decode cX3_isRest 46 = .ok (.aload_n 0, 1) := by decide +kernel
theorem dX3_isRest_47 : decode cX3_isRest 47 = .ok (.getfield 15, 3) := by decide +kernel
theorem dX3_isRest_50 : decode cX3_isRest 50 = .ok (.iload_n 1, 1) := by decide +kernel
theorem dX3_isRest_51 : decode cX3_isRest 51 = .ok (.bipush 21, 2) := by decide +kernel
theorem dX3_isRest_53 : decode cX3_isRest 53 = .ok (.imul, 1) := by decide +kernel
theorem dX3_isRest_54 : decode cX3_isRest 54 = .ok (.iload 5, 2) := by decide +kernel
theorem dX3_isRest_56 : decode cX3_isRest 56 = .ok (.iadd, 1) := by decide +kernel
theorem dX3_isRest_57 : decode cX3_isRest 57 = .ok (.iaload, 1) := by decide +kernel
theorem dX3_isRest_58 : decode cX3_isRest 58 = .ok (.aload_n 0, 1) := by decide +kernel
theorem dX3_isRest_59 : decode cX3_isRest 59 = .ok (.getfield 15, 3) := by decide +kernel
theorem dX3_isRest_62 : decode cX3_isRest 62 = .ok (.iload 4, 2) := by decide +kernel
theorem dX3_isRest_64 : decode cX3_isRest 64 = .ok (.iaload, 1) := by decide +kernel
theorem dX3_isRest_65 : decode cX3_isRest 65 = .ok (.if_icmp .ge 5, 3) := by decide +kernel
theorem dX3_isRest_68 : decode cX3_isRest 68 = .ok (.iconst 0, 1) := by decide +kernel
theorem dX3_isRest_69 : decode cX3_isRest 69 = .ok (.ireturn, 1) := by decide +kernel
theorem dX3_isRest_70 : decode cX3_isRest 70 = .ok (.iinc 5 1, 3) := by decide +kernel
theorem dX3_isRest_73 : decode cX3_isRest 73 = .ok (.goto (-62), 3) := by decide +kernel
theorem dX3_isRest_76 : decode cX3_isRest 76 = .ok (.iconst 1, 1) := by decide +kernel
theorem dX3_isRest_77 : decode cX3_isRest 77 = .ok (.ireturn, 1) := by decide +kernel
theorem dX3_restsOf_0 : decode cX3_restsOf 0 = .ok (.iconst 0, 1) := by decide +kernel
theorem dX3_restsOf_1 : decode cX3_restsOf 1 = .ok (.istore_n 2, 1) := by decide +kernel
theorem dX3_restsOf_2 : decode cX3_restsOf 2 = .ok (.iconst 0, 1) := by decide +kernel
theorem dX3_restsOf_3 : decode cX3_restsOf 3 = .ok (.istore_n 3, 1) := by decide +kernel
theorem dX3_restsOf_4 : decode cX3_restsOf 4 = .ok (.iload_n 3, 1) := by decide +kernel
theorem dX3_restsOf_5 : decode cX3_restsOf 5 = .ok (.iload_n 1, 1) := by decide +kernel
theorem dX3_restsOf_6 : decode cX3_restsOf 6 = .ok (.if_icmp .ge 56, 3) := by decide +kernel
theorem dX3_restsOf_9 : decode cX3_restsOf 9 = .ok (.iload_n 3, 1) := by decide +kernel
theorem dX3_restsOf_10 : decode cX3_restsOf 10 = .ok (.bipush 21, 2) := by decide +kernel
theorem dX3_restsOf_12 : decode cX3_restsOf 12 = .ok (.if_icmp .ge 50, 3) := by decide +kernel
theorem dX3_restsOf_15 : decode cX3_restsOf 15 = .ok (.iconst 0, 1) := by decide +kernel
theorem dX3_restsOf_16 : decode cX3_restsOf 16 = .ok (.istore 4, 2) := by decide +kernel
theorem dX3_restsOf_18 : decode cX3_restsOf 18 = .ok (.iload 4, 2) := by decide +kernel
theorem dX3_restsOf_20 : decode cX3_restsOf 20 = .ok (.iload_n 1, 1) := by decide +kernel
theorem dX3_restsOf_21 : decode cX3_restsOf 21 = .ok (.if_icmp .ge 35, 3) := by decide +kernel
theorem dX3_restsOf_24 : decode cX3_restsOf 24 = .ok (.iload 4, 2) := by decide +kernel
theorem dX3_restsOf_26 : decode cX3_restsOf 26 = .ok (.bipush 21, 2) := by decide +kernel
theorem dX3_restsOf_28 : decode cX3_restsOf 28 = .ok (.if_icmp .ge 28, 3) := by decide +kernel
theorem dX3_restsOf_31 : decode cX3_restsOf 31 = .ok (.iload_n 2, 1) := by decide +kernel
theorem dX3_restsOf_32 : decode cX3_restsOf 32 = .ok (.aload_n 0, 1) := by decide +kernel
theorem dX3_restsOf_33 : decode cX3_restsOf 33 = .ok (.iload_n 3, 1) := by decide +kernel
theorem dX3_restsOf_34 : decode cX3_restsOf 34 = .ok (.iload 4, 2) := by decide +kernel
theorem dX3_restsOf_36 : decode cX3_restsOf 36 = .ok (.iload_n 1, 1) := by decide +kernel
theorem dX3_restsOf_37 : decode cX3_restsOf 37 = .ok (.invokevirtual 26, 3) := by decide +kernel
theorem dX3_restsOf_40 : decode cX3_restsOf 40 = .ok (.ifCond .eq 7, 3) := by decide +kernel
theorem dX3_restsOf_43 : decode cX3_restsOf 43 = .ok (.iconst 1, 1) := by decide +kernel
theorem dX3_restsOf_44 : decode cX3_restsOf 44 = .ok (.goto 4, 3) := by decide +kernel
theorem dX3_restsOf_47 : decode cX3_restsOf 47 = .ok (.iconst 0, 1) := by decide +kernel
theorem dX3_restsOf_48 : decode cX3_restsOf 48 = .ok (.iadd, 1) := by decide +kernel
theorem dX3_restsOf_49 : decode cX3_restsOf 49 = .ok (.istore_n 2, 1) := by decide +kernel
theorem dX3_restsOf_50 : decode cX3_restsOf 50 = .ok (.iinc 4 1, 3) := by decide +kernel
theorem dX3_restsOf_53 : decode cX3_restsOf 53 = .ok (.goto (-35), 3) := by decide +kernel
theorem dX3_restsOf_56 : decode cX3_restsOf 56 = .ok (.iinc 3 1, 3) := by decide +kernel
theorem dX3_restsOf_59 : decode cX3_restsOf 59 = .ok (.goto (-55), 3) := by decide +kernel
theorem dX3_restsOf_62 : decode cX3_restsOf 62 = .ok (.iload_n 2, 1) := by decide +kernel
theorem dX3_restsOf_63 : decode cX3_restsOf 63 = .ok (.ireturn, 1) := by decide +kernel
theorem dX3_firstRest_0 : decode cX3_firstRest 0 = .ok (.iconst 0, 1) := by decide +kernel
theorem dX3_firstRest_1 : decode cX3_firstRest 1 = .ok (.istore_n 2, 1) := by decide +kernel
theorem dX3_firstRest_2 : decode cX3_firstRest 2 = .ok (.iload_n 2, 1) := by decide +kernel
theorem dX3_firstRest_3 : decode cX3_firstRest 3 = .ok (.iload_n 1, 1) := by decide +kernel
theorem dX3_firstRest_4 : decode cX3_firstRest 4 = .ok (.if_icmp .ge 51, 3) := by decide +kernel
theorem dX3_firstRest_7 : decode cX3_firstRest 7 = .ok (.iload_n 2, 1) := by decide +kernel
theorem dX3_firstRest_8 : decode cX3_firstRest 8 = .ok (.bipush 21, 2) := by decide +kernel
theorem dX3_firstRest_10 : decode cX3_firstRest 10 = .ok (.if_icmp .ge 45, 3) := by decide +kernel
theorem dX3_firstRest_13 : decode cX3_firstRest 13 = .ok (.iconst 0, 1) := by decide +kernel
theorem dX3_firstRest_14 : decode cX3_firstRest 14 = .ok (.istore_n 3, 1) := by decide +kernel
theorem dX3_firstRest_15 : decode cX3_firstRest 15 = .ok (.iload_n 3, 1) := by decide +kernel
theorem dX3_firstRest_16 : decode cX3_firstRest 16 = .ok (.iload_n 1, 1) := by decide +kernel
theorem dX3_firstRest_17 : decode cX3_firstRest 17 = .ok (.if_icmp .ge 32, 3) := by decide +kernel
theorem dX3_firstRest_20 : decode cX3_firstRest 20 = .ok (.iload_n 3, 1) := by decide +kernel
theorem dX3_firstRest_21 : decode cX3_firstRest 21 = .ok (.bipush 21, 2) := by decide +kernel
theorem dX3_firstRest_23 : decode cX3_firstRest 23 = .ok (.if_icmp .ge 26, 3) := by decide +kernel
theorem dX3_firstRest_26 : decode cX3_firstRest 26 = .ok (.aload_n 0, 1) := by decide +kernel
theorem dX3_firstRest_27 : decode cX3_firstRest 27 = .ok (.iload_n 2, 1) := by decide +kernel
theorem dX3_firstRest_28 : decode cX3_firstRest 28 = .ok (.iload_n 3, 1) := by decide +kernel
theorem dX3_firstRest_29 : decode cX3_firstRest 29 = .ok (.iload_n 1, 1) := by decide +kernel
theorem dX3_firstRest_30 : decode cX3_firstRest 30 = .ok (.invokevirtual 26, 3) := by decide +kernel
theorem dX3_firstRest_33 : decode cX3_firstRest 33 = .ok (.ifCond .eq 10, 3) := by decide +kernel
theorem dX3_firstRest_36 : decode cX3_firstRest 36 = .ok (.iload_n 2, 1) := by decide +kernel
theorem dX3_firstRest_37 : decode cX3_firstRest 37 = .ok (.bipush 21, 2) := by decide +kernel
theorem dX3_firstRest_39 : decode cX3_firstRest 39 = .ok (.imul, 1) := by decide +kernel
theorem dX3_firstRest_40 : decode cX3_firstRest 40 = .ok (.iload_n 3, 1) := by decide +kernel
theorem dX3_firstRest_41 : decode cX3_firstRest 41 = .ok (.iadd, 1) := by decide +kernel
theorem dX3_firstRest_42 : decode cX3_firstRest 42 = .ok (.ireturn, 1) := by decide +kernel
theorem dX3_firstRest_43 : decode cX3_firstRest 43 = .ok (.iinc 3 1, 3) := by decide +kernel
theorem dX3_firstRest_46 : decode cX3_firstRest 46 = .ok (.goto (-31), 3) := by decide +kernel
theorem dX3_firstRest_49 : decode cX3_firstRest 49 = .ok (.iinc 2 1, 3) := by decide +kernel
theorem dX3_firstRest_52 : decode cX3_firstRest 52 = .ok (.goto (-50), 3) := by decide +kernel
theorem dX3_firstRest_55 : decode cX3_firstRest 55 = .ok (.iconst (-1), 1) := by decide +kernel
theorem dX3_firstRest_56 : decode cX3_firstRest 56 = .ok (.ireturn, 1) := by decide +kernel
theorem dX3_kindest_0 : decode cX3_kindest 0 = .ok (.iconst 0, 1) := by decide +kernel
theorem dX3_kindest_1 : decode cX3_kindest 1 = .ok (.istore_n 2, 1) := by decide +kernel
theorem dX3_kindest_2 : decode cX3_kindest 2 = .ok (.iconst 0, 1) := by decide +kernel
theorem dX3_kindest_3 : decode cX3_kindest 3 = .ok (.istore_n 3, 1) := by decide +kernel
theorem dX3_kindest_4 : decode cX3_kindest 4 = .ok (.iload_n 3, 1) := by decide +kernel
theorem dX3_kindest_5 : decode cX3_kindest 5 = .ok (.iload_n 1, 1) := by decide +kernel
theorem dX3_kindest_6 : decode cX3_kindest 6 = .ok (.if_icmp .ge 64, 3) := by decide +kernel
theorem dX3_kindest_9 : decode cX3_kindest 9 = .ok (.iload_n 3, 1) := by decide +kernel
theorem dX3_kindest_10 : decode cX3_kindest 10 = .ok (.bipush 21, 2) := by decide +kernel
theorem dX3_kindest_12 : decode cX3_kindest 12 = .ok (.if_icmp .ge 58, 3) := by decide +kernel
theorem dX3_kindest_15 : decode cX3_kindest 15 = .ok (.iconst 0, 1) := by decide +kernel
theorem dX3_kindest_16 : decode cX3_kindest 16 = .ok (.istore 4, 2) := by decide +kernel
theorem dX3_kindest_18 : decode cX3_kindest 18 = .ok (.iload 4, 2) := by decide +kernel
theorem dX3_kindest_20 : decode cX3_kindest 20 = .ok (.iload_n 1, 1) := by decide +kernel
theorem dX3_kindest_21 : decode cX3_kindest 21 = .ok (.if_icmp .ge 43, 3) := by decide +kernel
theorem dX3_kindest_24 : decode cX3_kindest 24 = .ok (.iload 4, 2) := by decide +kernel
theorem dX3_kindest_26 : decode cX3_kindest 26 = .ok (.bipush 21, 2) := by decide +kernel
theorem dX3_kindest_28 : decode cX3_kindest 28 = .ok (.if_icmp .ge 36, 3) := by decide +kernel
theorem dX3_kindest_31 : decode cX3_kindest 31 = .ok (.aload_n 0, 1) := by decide +kernel
theorem dX3_kindest_32 : decode cX3_kindest 32 = .ok (.iload_n 3, 1) := by decide +kernel
theorem dX3_kindest_33 : decode cX3_kindest 33 = .ok (.bipush 21, 2) := by decide +kernel
theorem dX3_kindest_35 : decode cX3_kindest 35 = .ok (.imul, 1) := by decide +kernel
theorem dX3_kindest_36 : decode cX3_kindest 36 = .ok (.iload 4, 2) := by decide +kernel
theorem dX3_kindest_38 : decode cX3_kindest 38 = .ok (.iadd, 1) := by decide +kernel
theorem dX3_kindest_39 : decode cX3_kindest 39 = .ok (.invokevirtual 30, 3) := by decide +kernel
theorem dX3_kindest_42 : decode cX3_kindest 42 = .ok (.aload_n 0, 1) := by decide +kernel
theorem dX3_kindest_43 : decode cX3_kindest 43 = .ok (.iload_n 2, 1) := by decide +kernel
theorem dX3_kindest_44 : decode cX3_kindest 44 = .ok (.invokevirtual 30, 3) := by decide +kernel
theorem dX3_kindest_47 : decode cX3_kindest 47 = .ok (.if_icmp .ge 11, 3) := by decide +kernel
theorem dX3_kindest_50 : decode cX3_kindest 50 = .ok (.iload_n 3, 1) := by decide +kernel
theorem dX3_kindest_51 : decode cX3_kindest 51 = .ok (.bipush 21, 2) := by decide +kernel
theorem dX3_kindest_53 : decode cX3_kindest 53 = .ok (.imul, 1) := by decide +kernel
theorem dX3_kindest_54 : decode cX3_kindest 54 = .ok (.iload 4, 2) := by decide +kernel
theorem dX3_kindest_56 : decode cX3_kindest 56 = .ok (.iadd, 1) := by decide +kernel
theorem dX3_kindest_57 : decode cX3_kindest 57 = .ok (.istore_n 2, 1) := by decide +kernel
theorem dX3_kindest_58 : decode cX3_kindest 58 = .ok (.iinc 4 1, 3) := by decide +kernel
theorem dX3_kindest_61 : decode cX3_kindest 61 = .ok (.goto (-43), 3) := by decide +kernel
theorem dX3_kindest_64 : decode cX3_kindest 64 = .ok (.iinc 3 1, 3) := by decide +kernel
theorem dX3_kindest_67 : decode cX3_kindest 67 = .ok (.goto (-63), 3) := by decide +kernel
theorem dX3_kindest_70 : decode cX3_kindest 70 = .ok (.iload_n 2, 1) := by decide +kernel
theorem dX3_kindest_71 : decode cX3_kindest 71 = .ok (.ireturn, 1) := by decide +kernel
theorem dX3_together_0 : decode cX3_together 0 = .ok (.iload_n 1, 1) := by decide +kernel
theorem dX3_together_1 : decode cX3_together 1 = .ok (.ifCond .lt 28, 3) := by decide +kernel
theorem dX3_together_4 : decode cX3_together 4 = .ok (.iload_n 1, 1) := by decide +kernel
theorem dX3_together_5 : decode cX3_together 5 = .ok (.aload_n 0, 1) := by decide +kernel
theorem dX3_together_6 : decode cX3_together 6 = .ok (.getfield 11, 3) := by decide +kernel
theorem dX3_together_9 : decode cX3_together 9 = .ok (.arraylength, 1) := by decide +kernel
theorem dX3_together_10 : decode cX3_together 10 = .ok (.if_icmp .ge 19, 3) := by decide +kernel
theorem dX3_together_13 : decode cX3_together 13 = .ok (.aload_n 0, 1) := by decide +kernel
theorem dX3_together_14 : decode cX3_together 14 = .ok (.getfield 11, 3) := by decide +kernel
theorem dX3_together_17 : decode cX3_together 17 = .ok (.iload_n 1, 1) := by decide +kernel
theorem dX3_together_18 : decode cX3_together 18 = .ok (.iaload, 1) := by decide +kernel
theorem dX3_together_19 : decode cX3_together 19 = .ok (.aload_n 0, 1) := by decide +kernel
theorem dX3_together_20 : decode cX3_together 20 = .ok (.getfield 15, 3) := by decide +kernel
theorem dX3_together_23 : decode cX3_together 23 = .ok (.iload_n 1, 1) := by decide +kernel
theorem dX3_together_24 : decode cX3_together 24 = .ok (.iaload, 1) := by decide +kernel
theorem dX3_together_25 : decode cX3_together 25 = .ok (.iadd, 1) := by decide +kernel
theorem dX3_together_26 : decode cX3_together 26 = .ok (.goto 4, 3) := by decide +kernel
theorem dX3_together_29 : decode cX3_together 29 = .ok (.iconst 0, 1) := by decide +kernel
theorem dX3_together_30 : decode cX3_together 30 = .ok (.ireturn, 1) := by decide +kernel
theorem dX4_init_0 : decode cX4_init 0 = .ok (.aload_n 0, 1) := by decide +kernel
theorem dX4_init_1 : decode cX4_init 1 = .ok (.invokespecial 3, 3) := by decide +kernel
theorem dX4_init_4 : decode cX4_init 4 = .ok (.aload_n 0, 1) := by decide +kernel
theorem dX4_init_5 : decode cX4_init 5 = .ok (.new 9, 3) := by decide +kernel
theorem dX4_init_8 : decode cX4_init 8 = .ok (.dup, 1) := by decide +kernel
theorem dX4_init_9 : decode cX4_init 9 = .ok (.iconst 0, 1) := by decide +kernel
theorem dX4_init_10 : decode cX4_init 10 = .ok (.invokespecial 11, 3) := by decide +kernel
theorem dX4_init_13 : decode cX4_init 13 = .ok (.putfield 14, 3) := by decide +kernel
theorem dX4_init_16 : decode cX4_init 16 = .ok (.aload_n 0, 1) := by decide +kernel
theorem dX4_init_17 : decode cX4_init 17 = .ok (.new 9, 3) := by decide +kernel
theorem dX4_init_20 : decode cX4_init 20 = .ok (.dup, 1) := by decide +kernel
theorem dX4_init_21 : decode cX4_init 21 = .ok (.iconst 1, 1) := by decide +kernel
theorem dX4_init_22 : decode cX4_init 22 = .ok (.invokespecial 11, 3) := by decide +kernel
theorem dX4_init_25 : decode cX4_init 25 = .ok (.putfield 20, 3) := by decide +kernel
theorem dX4_init_28 : decode cX4_init 28 = .ok (.aload_n 0, 1) := by decide +kernel
theorem dX4_init_29 : decode cX4_init 29 = .ok (.bipush 99, 2) := by decide +kernel
theorem dX4_init_31 : decode cX4_init 31 = .ok (.newarray .int, 2) := by decide +kernel
theorem dX4_init_33 : decode cX4_init 33 = .ok (.putfield 23, 3) := by decide +kernel
theorem dX4_init_36 : decode cX4_init 36 = .ok (.aload_n 0, 1) := by decide +kernel
theorem dX4_init_37 : decode cX4_init 37 = .ok (.iconst 0, 1) := by decide +kernel
theorem dX4_init_38 : decode cX4_init 38 = .ok (.putfield 27, 3) := by decide +kernel
theorem dX4_init_41 : decode cX4_init 41 = .ok (.aload_n 0, 1) := by decide +kernel
theorem dX4_init_42 : decode cX4_init 42 = .ok (.iconst (-1), 1) := by decide +kernel
theorem dX4_init_43 : decode cX4_init 43 = .ok (.putfield 31, 3) := by decide +kernel
theorem dX4_init_46 : decode cX4_init 46 = .ok (.return_, 1) := by decide +kernel
theorem dX4_tripOf_0 : decode cX4_tripOf 0 = .ok (.iload_n 1, 1) := by decide +kernel
theorem dX4_tripOf_1 : decode cX4_tripOf 1 = .ok (.ifCond .ne 10, 3) := by decide +kernel
theorem dX4_tripOf_4 : decode cX4_tripOf 4 = .ok (.aload_n 0, 1) := by decide +kernel
theorem dX4_tripOf_5 : decode cX4_tripOf 5 = .ok (.getfield 14, 3) := by decide +kernel
theorem dX4_tripOf_8 : decode cX4_tripOf 8 = .ok (.goto 7, 3) := by decide +kernel
theorem dX4_tripOf_11 : decode cX4_tripOf 11 = .ok (.aload_n 0, 1) := by decide +kernel
theorem dX4_tripOf_12 : decode cX4_tripOf 12 = .ok (.getfield 20, 3) := by decide +kernel
theorem dX4_tripOf_15 : decode cX4_tripOf 15 = .ok (.areturn, 1) := by decide +kernel
theorem dX4_run_0 : decode cX4_run 0 = .ok (.aload_n 1, 1) := by decide +kernel
theorem dX4_run_1 : decode cX4_run 1 = .ok (.getfield 34, 3) := by decide +kernel
theorem dX4_run_4 : decode cX4_run 4 = .ok (.astore 4, 2) := by decide +kernel
theorem dX4_run_6 : decode cX4_run 6 = .ok (.aload_n 0, 1) := by decide +kernel
theorem dX4_run_7 : decode cX4_run 7 = .ok (.getfield 14, 3) := by decide +kernel
theorem dX4_run_10 : decode cX4_run 10 = .ok (.aload 4, 2) := by decide +kernel
theorem dX4_run_12 : decode cX4_run 12 = .ok (.invokevirtual 40, 3) := by decide +kernel
theorem dX4_run_15 : decode cX4_run 15 = .ok (.aload_n 0, 1) := by decide +kernel
theorem dX4_run_16 : decode cX4_run 16 = .ok (.getfield 20, 3) := by decide +kernel
theorem dX4_run_19 : decode cX4_run 19 = .ok (.aload 4, 2) := by decide +kernel
theorem dX4_run_21 : decode cX4_run 21 = .ok (.invokevirtual 40, 3) := by decide +kernel
theorem dX4_run_24 : decode cX4_run 24 = .ok (.aload_n 0, 1) := by decide +kernel
theorem dX4_run_25 : decode cX4_run 25 = .ok (.iconst (-1), 1) := by decide +kernel
theorem dX4_run_26 : decode cX4_run 26 = .ok (.putfield 31, 3) := by decide +kernel
theorem dX4_run_29 : decode cX4_run 29 = .ok (.aload_n 0, 1) := by decide +kernel
theorem dX4_run_30 : decode cX4_run 30 = .ok (.iconst 0, 1) := by decide +kernel
theorem dX4_run_31 : decode cX4_run 31 = .ok (.putfield 27, 3) := by decide +kernel
theorem dX4_run_34 : decode cX4_run 34 = .ok (.aload_n 0, 1) := by decide +kernel
theorem dX4_run_35 : decode cX4_run 35 = .ok (.getfield 27, 3) := by decide +kernel
theorem dX4_run_38 : decode cX4_run 38 = .ok (.bipush 99, 2) := by decide +kernel
theorem dX4_run_40 : decode cX4_run 40 = .ok (.if_icmp .ge 214, 3) := by decide +kernel
theorem dX4_run_43 : decode cX4_run 43 = .ok (.aload_n 0, 1) := by decide +kernel
theorem dX4_run_44 : decode cX4_run 44 = .ok (.getfield 14, 3) := by decide +kernel
theorem dX4_run_47 : decode cX4_run 47 = .ok (.aload 4, 2) := by decide +kernel
theorem dX4_run_49 : decode cX4_run 49 = .ok (.invokevirtual 44, 3) := by decide +kernel
theorem dX4_run_52 : decode cX4_run 52 = .ok (.ifCond .ne 15, 3) := by decide +kernel
theorem dX4_run_55 : decode cX4_run 55 = .ok (.aload_n 0, 1) := by decide +kernel
theorem dX4_run_56 : decode cX4_run 56 = .ok (.getfield 20, 3) := by decide +kernel
theorem dX4_run_59 : decode cX4_run 59 = .ok (.aload 4, 2) := by decide +kernel
theorem dX4_run_61 : decode cX4_run 61 = .ok (.invokevirtual 44, 3) := by decide +kernel
theorem dX4_run_64 : decode cX4_run 64 = .ok (.ifCond .eq 190, 3) := by decide +kernel
theorem dX4_run_67 : decode cX4_run 67 = .ok (.aload_n 0, 1) := by decide +kernel
theorem dX4_run_68 : decode cX4_run 68 = .ok (.aload 4, 2) := by decide +kernel
theorem dX4_run_70 : decode cX4_run 70 = .ok (.aload_n 0, 1) := by decide +kernel
theorem dX4_run_71 : decode cX4_run 71 = .ok (.getfield 27, 3) := by decide +kernel
theorem dX4_run_74 : decode cX4_run 74 = .ok (.invokevirtual 48, 3) := by decide +kernel
theorem dX4_run_77 : decode cX4_run 77 = .ok (.aload_n 0, 1) := by decide +kernel
theorem dX4_run_78 : decode cX4_run 78 = .ok (.aload_n 1, 1) := by decide +kernel
theorem dX4_run_79 : decode cX4_run 79 = .ok (.aload_n 0, 1) := by decide +kernel
theorem dX4_run_80 : decode cX4_run 80 = .ok (.getfield 14, 3) := by decide +kernel
theorem dX4_run_83 : decode cX4_run 83 = .ok (.iload_n 2, 1) := by decide +kernel
theorem dX4_run_84 : decode cX4_run 84 = .ok (.invokevirtual 52, 3) := by decide +kernel
theorem dX4_run_87 : decode cX4_run 87 = .ok (.istore 5, 2) := by decide +kernel
theorem dX4_run_89 : decode cX4_run 89 = .ok (.aload_n 0, 1) := by decide +kernel
theorem dX4_run_90 : decode cX4_run 90 = .ok (.aload_n 1, 1) := by decide +kernel
theorem dX4_run_91 : decode cX4_run 91 = .ok (.aload_n 0, 1) := by decide +kernel
theorem dX4_run_92 : decode cX4_run 92 = .ok (.getfield 20, 3) := by decide +kernel
theorem dX4_run_95 : decode cX4_run 95 = .ok (.iload_n 3, 1) := by decide +kernel
theorem dX4_run_96 : decode cX4_run 96 = .ok (.invokevirtual 52, 3) := by decide +kernel
theorem dX4_run_99 : decode cX4_run 99 = .ok (.istore 6, 2) := by decide +kernel
theorem dX4_run_101 : decode cX4_run 101 = .ok (.aload_n 0, 1) := by decide +kernel
theorem dX4_run_102 : decode cX4_run 102 = .ok (.getfield 14, 3) := by decide +kernel
theorem dX4_run_105 : decode cX4_run 105 = .ok (.iload 5, 2) := by decide +kernel
theorem dX4_run_107 : decode cX4_run 107 = .ok (.putfield 56, 3) := by decide +kernel
theorem dX4_run_110 : decode cX4_run 110 = .ok (.aload_n 0, 1) := by decide +kernel
theorem dX4_run_111 : decode cX4_run 111 = .ok (.getfield 20, 3) := by decide +kernel
theorem dX4_run_114 : decode cX4_run 114 = .ok (.iload 6, 2) := by decide +kernel
theorem dX4_run_116 : decode cX4_run 116 = .ok (.putfield 56, 3) := by decide +kernel
theorem dX4_run_119 : decode cX4_run 119 = .ok (.aload_n 0, 1) := by decide +kernel
theorem dX4_run_120 : decode cX4_run 120 = .ok (.aload_n 0, 1) := by decide +kernel
theorem dX4_run_121 : decode cX4_run 121 = .ok (.getfield 14, 3) := by decide +kernel
theorem dX4_run_124 : decode cX4_run 124 = .ok (.invokevirtual 59, 3) := by decide +kernel
theorem dX4_run_127 : decode cX4_run 127 = .ok (.istore 7, 2) := by decide +kernel
theorem dX4_run_129 : decode cX4_run 129 = .ok (.aload_n 0, 1) := by decide +kernel
theorem dX4_run_130 : decode cX4_run 130 = .ok (.aload_n 0, 1) := by decide +kernel
theorem dX4_run_131 : decode cX4_run 131 = .ok (.getfield 20, 3) := by decide +kernel
theorem dX4_run_134 : decode cX4_run 134 = .ok (.invokevirtual 59, 3) := by decide +kernel
theorem dX4_run_137 : decode cX4_run 137 = .ok (.istore 8, 2) := by decide +kernel
theorem dX4_run_139 : decode cX4_run 139 = .ok (.aload_n 0, 1) := by decide +kernel
theorem dX4_run_140 : decode cX4_run 140 = .ok (.getfield 14, 3) := by decide +kernel
theorem dX4_run_143 : decode cX4_run 143 = .ok (.iload 8, 2) := by decide +kernel
theorem dX4_run_145 : decode cX4_run 145 = .ok (.aload 4, 2) := by decide +kernel
theorem dX4_run_147 : decode cX4_run 147 = .ok (.aload_n 0, 1) := by decide +kernel
theorem dX4_run_148 : decode cX4_run 148 = .ok (.getfield 14, 3) := by decide +kernel
theorem dX4_run_151 : decode cX4_run 151 = .ok (.getfield 63, 3) := by decide +kernel
theorem dX4_run_154 : decode cX4_run 154 = .ok (.invokevirtual 66, 3) := by decide +kernel
theorem dX4_run_157 : decode cX4_run 157 = .ok (.invokevirtual 72, 3) := by decide +kernel
theorem dX4_run_160 : decode cX4_run 160 = .ok (.aload_n 0, 1) := by decide +kernel
theorem dX4_run_161 : decode cX4_run 161 = .ok (.getfield 20, 3) := by decide +kernel
theorem dX4_run_164 : decode cX4_run 164 = .ok (.iload 7, 2) := by decide +kernel
theorem dX4_run_166 : decode cX4_run 166 = .ok (.aload 4, 2) := by decide +kernel
theorem dX4_run_168 : decode cX4_run 168 = .ok (.aload_n 0, 1) := by decide +kernel
theorem dX4_run_169 : decode cX4_run 169 = .ok (.getfield 20, 3) := by decide +kernel
theorem dX4_run_172 : decode cX4_run 172 = .ok (.getfield 63, 3) := by decide +kernel
theorem dX4_run_175 : decode cX4_run 175 = .ok (.invokevirtual 66, 3) := by decide +kernel
theorem dX4_run_178 : decode cX4_run 178 = .ok (.invokevirtual 72, 3) := by decide +kernel
theorem dX4_run_181 : decode cX4_run 181 = .ok (.aload_n 0, 1) := by decide +kernel
theorem dX4_run_182 : decode cX4_run 182 = .ok (.aload_n 1, 1) := by decide +kernel
theorem dX4_run_183 : decode cX4_run 183 = .ok (.aload_n 0, 1) := by decide +kernel
theorem dX4_run_184 : decode cX4_run 184 = .ok (.getfield 14, 3) := by decide +kernel
theorem dX4_run_187 : decode cX4_run 187 = .ok (.iload 7, 2) := by decide +kernel
theorem dX4_run_189 : decode cX4_run 189 = .ok (.invokevirtual 76, 3) := by decide +kernel
theorem dX4_run_192 : decode cX4_run 192 = .ok (.aload_n 0, 1) := by decide +kernel
theorem dX4_run_193 : decode cX4_run 193 = .ok (.aload_n 1, 1) := by decide +kernel
theorem dX4_run_194 : decode cX4_run 194 = .ok (.aload_n 0, 1) := by decide +kernel
theorem dX4_run_195 : decode cX4_run 195 = .ok (.getfield 20, 3) := by decide +kernel
theorem dX4_run_198 : decode cX4_run 198 = .ok (.iload 8, 2) := by decide +kernel
theorem dX4_run_200 : decode cX4_run 200 = .ok (.invokevirtual 76, 3) := by decide +kernel
theorem dX4_run_203 : decode cX4_run 203 = .ok (.aload_n 0, 1) := by decide +kernel
theorem dX4_run_204 : decode cX4_run 204 = .ok (.getfield 14, 3) := by decide +kernel
theorem dX4_run_207 : decode cX4_run 207 = .ok (.dup, 1) := by decide +kernel
theorem dX4_run_208 : decode cX4_run 208 = .ok (.getfield 80, 3) := by decide +kernel
theorem dX4_run_211 : decode cX4_run 211 = .ok (.aload_n 0, 1) := by decide +kernel
theorem dX4_run_212 : decode cX4_run 212 = .ok (.getfield 14, 3) := by decide +kernel
theorem dX4_run_215 : decode cX4_run 215 = .ok (.getfield 83, 3) := by decide +kernel
theorem dX4_run_218 : decode cX4_run 218 = .ok (.iadd, 1) := by decide +kernel
theorem dX4_run_219 : decode cX4_run 219 = .ok (.putfield 80, 3) := by decide +kernel
theorem dX4_run_222 : decode cX4_run 222 = .ok (.aload_n 0, 1) := by decide +kernel
theorem dX4_run_223 : decode cX4_run 223 = .ok (.getfield 20, 3) := by decide +kernel
theorem dX4_run_226 : decode cX4_run 226 = .ok (.dup, 1) := by decide +kernel
theorem dX4_run_227 : decode cX4_run 227 = .ok (.getfield 80, 3) := by decide +kernel
theorem dX4_run_230 : decode cX4_run 230 = .ok (.aload_n 0, 1) := by decide +kernel
theorem dX4_run_231 : decode cX4_run 231 = .ok (.getfield 20, 3) := by decide +kernel
theorem dX4_run_234 : decode cX4_run 234 = .ok (.getfield 83, 3) := by decide +kernel
theorem dX4_run_237 : decode cX4_run 237 = .ok (.isub, 1) := by decide +kernel
theorem dX4_run_238 : decode cX4_run 238 = .ok (.putfield 80, 3) := by decide +kernel
theorem dX4_run_241 : decode cX4_run 241 = .ok (.aload_n 0, 1) := by decide +kernel
theorem dX4_run_242 : decode cX4_run 242 = .ok (.dup, 1) := by decide +kernel
theorem dX4_run_243 : decode cX4_run 243 = .ok (.getfield 27, 3) := by decide +kernel
theorem dX4_run_246 : decode cX4_run 246 = .ok (.iconst 1, 1) := by decide +kernel
theorem dX4_run_247 : decode cX4_run 247 = .ok (.iadd, 1) := by decide +kernel
theorem dX4_run_248 : decode cX4_run 248 = .ok (.putfield 27, 3) := by decide +kernel
theorem dX4_run_251 : decode cX4_run 251 = .ok (.goto (-217), 3) := by decide +kernel
theorem dX4_run_254 : decode cX4_run 254 = .ok (.return_, 1) := by decide +kernel
theorem dX4_measure_0 : decode cX4_measure 0 = .ok (.aload_n 0, 1) := by decide +kernel
theorem dX4_measure_1 : decode cX4_measure 1 = .ok (.getfield 20, 3) := by decide +kernel
theorem dX4_measure_4 : decode cX4_measure 4 = .ok (.getfield 80, 3) := by decide +kernel
theorem dX4_measure_7 : decode cX4_measure 7 = .ok (.aload_n 0, 1) := by decide +kernel
theorem dX4_measure_8 : decode cX4_measure 8 = .ok (.getfield 14, 3) := by decide +kernel
theorem dX4_measure_11 : decode cX4_measure 11 = .ok (.getfield 80, 3) := by decide +kernel
theorem dX4_measure_14 : decode cX4_measure 14 = .ok (.isub, 1) := by decide +kernel
theorem dX4_measure_15 : decode cX4_measure 15 = .ok (.istore_n 3, 1) := by decide +kernel
theorem dX4_measure_16 : decode cX4_measure 16 = .ok (.aload_n 1, 1) := by decide +kernel
theorem dX4_measure_17 : decode cX4_measure 17 = .ok (.getfield 86, 3) := by decide +kernel
theorem dX4_measure_20 : decode cX4_measure 20 = .ok (.iconst 2, 1) := by decide +kernel
theorem dX4_measure_21 : decode cX4_measure 21 = .ok (.if_icmp .ne 20, 3) := by decide +kernel
theorem dX4_measure_24 : decode cX4_measure 24 = .ok (.aload_n 0, 1) := by decide +kernel
theorem dX4_measure_25 : decode cX4_measure 25 = .ok (.getfield 31, 3) := by decide +kernel
theorem dX4_measure_28 : decode cX4_measure 28 = .ok (.iconst (-1), 1) := by decide +kernel
theorem dX4_measure_29 : decode cX4_measure 29 = .ok (.if_icmp .ne 12, 3) := by decide +kernel
theorem dX4_measure_32 : decode cX4_measure 32 = .ok (.iload_n 3, 1) := by decide +kernel
theorem dX4_measure_33 : decode cX4_measure 33 = .ok (.ifCond .gt 8, 3) := by decide +kernel
theorem dX4_measure_36 : decode cX4_measure 36 = .ok (.aload_n 0, 1) := by decide +kernel
theorem dX4_measure_37 : decode cX4_measure 37 = .ok (.iload_n 2, 1) := by decide +kernel
theorem dX4_measure_38 : decode cX4_measure 38 = .ok (.putfield 31, 3) := by decide +kernel
theorem dX4_measure_41 : decode cX4_measure 41 = .ok (.aload_n 0, 1) := by decide +kernel
theorem dX4_measure_42 : decode cX4_measure 42 = .ok (.getfield 14, 3) := by decide +kernel
theorem dX4_measure_45 : decode cX4_measure 45 = .ok (.aload_n 1, 1) := by decide +kernel
theorem dX4_measure_46 : decode cX4_measure 46 = .ok (.invokevirtual 44, 3) := by decide +kernel
theorem dX4_measure_49 : decode cX4_measure 49 = .ok (.ifCond .eq 18, 3) := by decide +kernel
theorem dX4_measure_52 : decode cX4_measure 52 = .ok (.aload_n 0, 1) := by decide +kernel
theorem dX4_measure_53 : decode cX4_measure 53 = .ok (.getfield 20, 3) := by decide +kernel
theorem dX4_measure_56 : decode cX4_measure 56 = .ok (.aload_n 1, 1) := by decide +kernel
theorem dX4_measure_57 : decode cX4_measure 57 = .ok (.invokevirtual 44, 3) := by decide +kernel
theorem dX4_measure_60 : decode cX4_measure 60 = .ok (.ifCond .eq 7, 3) := by decide +kernel
theorem dX4_measure_63 : decode cX4_measure 63 = .ok (.iconst 1, 1) := by decide +kernel
theorem dX4_measure_64 : decode cX4_measure 64 = .ok (.goto 4, 3) := by decide +kernel
theorem dX4_measure_67 : decode cX4_measure 67 = .ok (.iconst 0, 1) := by decide +kernel
theorem dX4_measure_68 : decode cX4_measure 68 = .ok (.istore 4, 2) := by decide +kernel
theorem dX4_measure_70 : decode cX4_measure 70 = .ok (.iload 4, 2) := by decide +kernel
theorem dX4_measure_72 : decode cX4_measure 72 = .ok (.ifCond .eq 36, 3) := by decide +kernel
theorem dX4_measure_75 : decode cX4_measure 75 = .ok (.aload_n 0, 1) := by decide +kernel
theorem dX4_measure_76 : decode cX4_measure 76 = .ok (.getfield 31, 3) := by decide +kernel
theorem dX4_measure_79 : decode cX4_measure 79 = .ok (.iconst (-1), 1) := by decide +kernel
theorem dX4_measure_80 : decode cX4_measure 80 = .ok (.if_icmp .ne 28, 3) := by decide +kernel
theorem dX4_measure_83 : decode cX4_measure 83 = .ok (.aload_n 1, 1) := by decide +kernel
theorem dX4_measure_84 : decode cX4_measure 84 = .ok (.aload_n 0, 1) := by decide +kernel
theorem dX4_measure_85 : decode cX4_measure 85 = .ok (.getfield 14, 3) := by decide +kernel
theorem dX4_measure_88 : decode cX4_measure 88 = .ok (.getfield 80, 3) := by decide +kernel
theorem dX4_measure_91 : decode cX4_measure 91 = .ok (.aload_n 0, 1) := by decide +kernel
theorem dX4_measure_92 : decode cX4_measure 92 = .ok (.getfield 20, 3) := by decide +kernel
theorem dX4_measure_95 : decode cX4_measure 95 = .ok (.getfield 80, 3) := by decide +kernel
theorem dX4_measure_98 : decode cX4_measure 98 = .ok (.invokevirtual 89, 3) := by decide +kernel
theorem dX4_measure_101 : decode cX4_measure 101 = .ok (.ifCond .ne 7, 3) := by decide +kernel
theorem dX4_measure_104 : decode cX4_measure 104 = .ok (.iconst 1, 1) := by decide +kernel
theorem dX4_measure_105 : decode cX4_measure 105 = .ok (.goto 4, 3) := by decide +kernel
theorem dX4_measure_108 : decode cX4_measure 108 = .ok (.iconst 0, 1) := by decide +kernel
theorem dX4_measure_109 : decode cX4_measure 109 = .ok (.istore 5, 2) := by decide +kernel
theorem dX4_measure_111 : decode cX4_measure 111 = .ok (.iload_n 2, 1) := by decide +kernel
theorem dX4_measure_112 : decode cX4_measure 112 = .ok (.ifCond .lt 25, 3) := by decide +kernel
theorem dX4_measure_115 : decode cX4_measure 115 = .ok (.iload_n 2, 1) := by decide +kernel
theorem dX4_measure_116 : decode cX4_measure 116 = .ok (.bipush 99, 2) := by decide +kernel
theorem dX4_measure_118 : decode cX4_measure 118 = .ok (.if_icmp .ge 19, 3) := by decide +kernel
theorem dX4_measure_121 : decode cX4_measure 121 = .ok (.aload_n 0, 1) := by decide +kernel
theorem dX4_measure_122 : decode cX4_measure 122 = .ok (.getfield 23, 3) := by decide +kernel
theorem dX4_measure_125 : decode cX4_measure 125 = .ok (.iload_n 2, 1) := by decide +kernel
theorem dX4_measure_126 : decode cX4_measure 126 = .ok (.iload 5, 2) := by decide +kernel
theorem dX4_measure_128 : decode cX4_measure 128 = .ok (.ifCond .eq 7, 3) := by decide +kernel
theorem dX4_measure_131 : decode cX4_measure 131 = .ok (.iload_n 3, 1) := by decide +kernel
theorem dX4_measure_132 : decode cX4_measure 132 = .ok (.goto 4, 3) := by decide +kernel
theorem dX4_measure_135 : decode cX4_measure 135 = .ok (.iconst 0, 1) := by decide +kernel
theorem dX4_measure_136 : decode cX4_measure 136 = .ok (.iastore, 1) := by decide +kernel
theorem dX4_measure_137 : decode cX4_measure 137 = .ok (.return_, 1) := by decide +kernel
theorem dX4_beamsOf_0 : decode cX4_beamsOf 0 = .ok (.aload_n 2, 1) := by decide +kernel
theorem dX4_beamsOf_1 : decode cX4_beamsOf 1 = .ok (.aload_n 1, 1) := by decide +kernel
theorem dX4_beamsOf_2 : decode cX4_beamsOf 2 = .ok (.getfield 34, 3) := by decide +kernel
theorem dX4_beamsOf_5 : decode cX4_beamsOf 5 = .ok (.invokevirtual 44, 3) := by decide +kernel
theorem dX4_beamsOf_8 : decode cX4_beamsOf 8 = .ok (.ifCond .ne 8, 3) := by decide +kernel
theorem dX4_beamsOf_11 : decode cX4_beamsOf 11 = .ok (.aload_n 2, 1) := by decide +kernel
theorem dX4_beamsOf_12 : decode cX4_beamsOf 12 = .ok (.getfield 56, 3) := by decide +kernel
theorem dX4_beamsOf_15 : decode cX4_beamsOf 15 = .ok (.ireturn, 1) := by decide +kernel
theorem dX4_beamsOf_16 : decode cX4_beamsOf 16 = .ok (.iload_n 3, 1) := by decide +kernel
theorem dX4_beamsOf_17 : decode cX4_beamsOf 17 = .ok (.iconst (-1), 1) := by decide +kernel
theorem dX4_beamsOf_18 : decode cX4_beamsOf 18 = .ok (.if_icmp .eq 13, 3) := by decide +kernel
theorem dX4_beamsOf_21 : decode cX4_beamsOf 21 = .ok (.aload_n 0, 1) := by decide +kernel
theorem dX4_beamsOf_22 : decode cX4_beamsOf 22 = .ok (.iload_n 3, 1) := by decide +kernel
theorem dX4_beamsOf_23 : decode cX4_beamsOf 23 = .ok (.aload_n 0, 1) := by decide +kernel
theorem dX4_beamsOf_24 : decode cX4_beamsOf 24 = .ok (.getfield 27, 3) := by decide +kernel
theorem dX4_beamsOf_27 : decode cX4_beamsOf 27 = .ok (.invokevirtual 93, 3) := by decide +kernel
theorem dX4_beamsOf_30 : decode cX4_beamsOf 30 = .ok (.ireturn, 1) := by decide +kernel
theorem dX4_beamsOf_31 : decode cX4_beamsOf 31 = .ok (.aload_n 0, 1) := by decide +kernel
theorem dX4_beamsOf_32 : decode cX4_beamsOf 32 = .ok (.aload_n 1, 1) := by decide +kernel
theorem dX4_beamsOf_33 : decode cX4_beamsOf 33 = .ok (.aload_n 2, 1) := by decide +kernel
theorem dX4_beamsOf_34 : decode cX4_beamsOf 34 = .ok (.invokevirtual 97, 3) := by decide +kernel
theorem dX4_beamsOf_37 : decode cX4_beamsOf 37 = .ok (.aload_n 1, 1) := by decide +kernel
theorem dX4_beamsOf_38 : decode cX4_beamsOf 38 = .ok (.aload_n 2, 1) := by decide +kernel
theorem dX4_beamsOf_39 : decode cX4_beamsOf 39 = .ok (.getfield 101, 3) := by decide +kernel
theorem dX4_beamsOf_42 : decode cX4_beamsOf 42 = .ok (.invokevirtual 104, 3) := by decide +kernel
theorem dX4_beamsOf_45 : decode cX4_beamsOf 45 = .ok (.ireturn, 1) := by decide +kernel
theorem dX4_dazzles_0 : decode cX4_dazzles 0 = .ok (.aload_n 0, 1) := by decide +kernel
theorem dX4_dazzles_1 : decode cX4_dazzles 1 = .ok (.aload_n 0, 1) := by decide +kernel
theorem dX4_dazzles_2 : decode cX4_dazzles 2 = .ok (.getfield 27, 3) := by decide +kernel
theorem dX4_dazzles_5 : decode cX4_dazzles 5 = .ok (.invokevirtual 107, 3) := by decide +kernel
theorem dX4_dazzles_8 : decode cX4_dazzles 8 = .ok (.istore_n 2, 1) := by decide +kernel
theorem dX4_dazzles_9 : decode cX4_dazzles 9 = .ok (.iload_n 2, 1) := by decide +kernel
theorem dX4_dazzles_10 : decode cX4_dazzles 10 = .ok (.ifCond .le 29, 3) := by decide +kernel
theorem dX4_dazzles_13 : decode cX4_dazzles 13 = .ok (.iload_n 2, 1) := by decide +kernel
theorem dX4_dazzles_14 : decode cX4_dazzles 14 = .ok (.bipush 15, 2) := by decide +kernel
theorem dX4_dazzles_16 : decode cX4_dazzles 16 = .ok (.if_icmp .gt 23, 3) := by decide +kernel
theorem dX4_dazzles_19 : decode cX4_dazzles 19 = .ok (.aload_n 1, 1) := by decide +kernel
theorem dX4_dazzles_20 : decode cX4_dazzles 20 = .ok (.getfield 56, 3) := by decide +kernel
theorem dX4_dazzles_23 : decode cX4_dazzles 23 = .ok (.iconst 1, 1) := by decide +kernel
theorem dX4_dazzles_24 : decode cX4_dazzles 24 = .ok (.if_icmp .eq 11, 3) := by decide +kernel
theorem dX4_dazzles_27 : decode cX4_dazzles 27 = .ok (.aload_n 1, 1) := by decide +kernel
theorem dX4_dazzles_28 : decode cX4_dazzles 28 = .ok (.getfield 110, 3) := by decide +kernel
theorem dX4_dazzles_31 : decode cX4_dazzles 31 = .ok (.iconst 5, 1) := by decide +kernel
theorem dX4_dazzles_32 : decode cX4_dazzles 32 = .ok (.if_icmp .lt 7, 3) := by decide +kernel
theorem dX4_dazzles_35 : decode cX4_dazzles 35 = .ok (.iconst 1, 1) := by decide +kernel
theorem dX4_dazzles_36 : decode cX4_dazzles 36 = .ok (.goto 4, 3) := by decide +kernel
theorem dX4_dazzles_39 : decode cX4_dazzles 39 = .ok (.iconst 0, 1) := by decide +kernel
theorem dX4_dazzles_40 : decode cX4_dazzles 40 = .ok (.ireturn, 1) := by decide +kernel
theorem dX4_keep_0 : decode cX4_keep 0 = .ok (.aload_n 2, 1) := by decide +kernel
theorem dX4_keep_1 : decode cX4_keep 1 = .ok (.aload_n 1, 1) := by decide +kernel
theorem dX4_keep_2 : decode cX4_keep 2 = .ok (.getfield 34, 3) := by decide +kernel
theorem dX4_keep_5 : decode cX4_keep 5 = .ok (.invokevirtual 44, 3) := by decide +kernel
theorem dX4_keep_8 : decode cX4_keep 8 = .ok (.ifCond .eq 26, 3) := by decide +kernel
theorem dX4_keep_11 : decode cX4_keep 11 = .ok (.aload_n 0, 1) := by decide +kernel
theorem dX4_keep_12 : decode cX4_keep 12 = .ok (.aload_n 1, 1) := by decide +kernel
theorem dX4_keep_13 : decode cX4_keep 13 = .ok (.aload_n 2, 1) := by decide +kernel
theorem dX4_keep_14 : decode cX4_keep 14 = .ok (.invokevirtual 97, 3) := by decide +kernel
theorem dX4_keep_17 : decode cX4_keep 17 = .ok (.aload_n 2, 1) := by decide +kernel
theorem dX4_keep_18 : decode cX4_keep 18 = .ok (.aload_n 1, 1) := by decide +kernel
theorem dX4_keep_19 : decode cX4_keep 19 = .ok (.getfield 34, 3) := by decide +kernel
theorem dX4_keep_22 : decode cX4_keep 22 = .ok (.aload_n 0, 1) := by decide +kernel
theorem dX4_keep_23 : decode cX4_keep 23 = .ok (.getfield 27, 3) := by decide +kernel
theorem dX4_keep_26 : decode cX4_keep 26 = .ok (.aload_n 1, 1) := by decide +kernel
theorem dX4_keep_27 : decode cX4_keep 27 = .ok (.invokevirtual 113, 3) := by decide +kernel
theorem dX4_keep_30 : decode cX4_keep 30 = .ok (.iload_n 3, 1) := by decide +kernel
theorem dX4_keep_31 : decode cX4_keep 31 = .ok (.invokevirtual 117, 3) := by decide +kernel
theorem dX4_keep_34 : decode cX4_keep 34 = .ok (.return_, 1) := by decide +kernel
theorem dX4_tellValues_0 : decode cX4_tellValues 0 = .ok (.aload_n 1, 1) := by decide +kernel
theorem dX4_tellValues_1 : decode cX4_tellValues 1 = .ok (.getfield 34, 3) := by decide +kernel
theorem dX4_tellValues_4 : decode cX4_tellValues 4 = .ok (.astore_n 3, 1) := by decide +kernel
theorem dX4_tellValues_5 : decode cX4_tellValues 5 = .ok (.aload_n 1, 1) := by decide +kernel
theorem dX4_tellValues_6 : decode cX4_tellValues 6 = .ok (.getfield 120, 3) := by decide +kernel
theorem dX4_tellValues_9 : decode cX4_tellValues 9 = .ok (.astore 4, 2) := by decide +kernel
theorem dX4_tellValues_11 : decode cX4_tellValues 11 = .ok (.aload 4, 2) := by decide +kernel
theorem dX4_tellValues_13 : decode cX4_tellValues 13 = .ok (.iconst 0, 1) := by decide +kernel
theorem dX4_tellValues_14 : decode cX4_tellValues 14 = .ok (.aload_n 3, 1) := by decide +kernel
theorem dX4_tellValues_15 : decode cX4_tellValues 15 = .ok (.aload_n 2, 1) := by decide +kernel
theorem dX4_tellValues_16 : decode cX4_tellValues 16 = .ok (.getfield 56, 3) := by decide +kernel
theorem dX4_tellValues_19 : decode cX4_tellValues 19 = .ok (.invokevirtual 123, 3) := by decide +kernel
theorem dX4_tellValues_22 : decode cX4_tellValues 22 = .ok (.iastore, 1) := by decide +kernel
theorem dX4_tellValues_23 : decode cX4_tellValues 23 = .ok (.aload 4, 2) := by decide +kernel
theorem dX4_tellValues_25 : decode cX4_tellValues 25 = .ok (.iconst 1, 1) := by decide +kernel
theorem dX4_tellValues_26 : decode cX4_tellValues 26 = .ok (.aload_n 3, 1) := by decide +kernel
theorem dX4_tellValues_27 : decode cX4_tellValues 27 = .ok (.getfield 126, 3) := by decide +kernel
theorem dX4_tellValues_30 : decode cX4_tellValues 30 = .ok (.iastore, 1) := by decide +kernel
theorem dX4_tellValues_31 : decode cX4_tellValues 31 = .ok (.aload 4, 2) := by decide +kernel
theorem dX4_tellValues_33 : decode cX4_tellValues 33 = .ok (.iconst 2, 1) := by decide +kernel
theorem dX4_tellValues_34 : decode cX4_tellValues 34 = .ok (.aload_n 2, 1) := by decide +kernel
theorem dX4_tellValues_35 : decode cX4_tellValues 35 = .ok (.getfield 129, 3) := by decide +kernel
theorem dX4_tellValues_38 : decode cX4_tellValues 38 = .ok (.iastore, 1) := by decide +kernel
theorem dX4_tellValues_39 : decode cX4_tellValues 39 = .ok (.aload 4, 2) := by decide +kernel
theorem dX4_tellValues_41 : decode cX4_tellValues 41 = .ok (.iconst 3, 1) := by decide +kernel
theorem dX4_tellValues_42 : decode cX4_tellValues 42 = .ok (.aload_n 2, 1) := by decide +kernel
theorem dX4_tellValues_43 : decode cX4_tellValues 43 = .ok (.getfield 63, 3) := by decide +kernel
theorem dX4_tellValues_46 : decode cX4_tellValues 46 = .ok (.iastore, 1) := by decide +kernel
theorem dX4_tellValues_47 : decode cX4_tellValues 47 = .ok (.aload 4, 2) := by decide +kernel
theorem dX4_tellValues_49 : decode cX4_tellValues 49 = .ok (.iconst 4, 1) := by decide +kernel
theorem dX4_tellValues_50 : decode cX4_tellValues 50 = .ok (.aload_n 3, 1) := by decide +kernel
theorem dX4_tellValues_51 : decode cX4_tellValues 51 = .ok (.aload_n 2, 1) := by decide +kernel
theorem dX4_tellValues_52 : decode cX4_tellValues 52 = .ok (.getfield 80, 3) := by decide +kernel
theorem dX4_tellValues_55 : decode cX4_tellValues 55 = .ok (.invokevirtual 132, 3) := by decide +kernel
theorem dX4_tellValues_58 : decode cX4_tellValues 58 = .ok (.iastore, 1) := by decide +kernel
theorem dX4_tellValues_59 : decode cX4_tellValues 59 = .ok (.aload 4, 2) := by decide +kernel
theorem dX4_tellValues_61 : decode cX4_tellValues 61 = .ok (.iconst 5, 1) := by decide +kernel
theorem dX4_tellValues_62 : decode cX4_tellValues 62 = .ok (.aload_n 2, 1) := by decide +kernel
theorem dX4_tellValues_63 : decode cX4_tellValues 63 = .ok (.getfield 110, 3) := by decide +kernel
theorem dX4_tellValues_66 : decode cX4_tellValues 66 = .ok (.iastore, 1) := by decide +kernel
theorem dX4_tellValues_67 : decode cX4_tellValues 67 = .ok (.aload 4, 2) := by decide +kernel
theorem dX4_tellValues_69 : decode cX4_tellValues 69 = .ok (.bipush 6, 2) := by decide +kernel
theorem dX4_tellValues_71 : decode cX4_tellValues 71 = .ok (.aload_n 2, 1) := by decide +kernel
theorem dX4_tellValues_72 : decode cX4_tellValues 72 = .ok (.getfield 83, 3) := by decide +kernel
theorem dX4_tellValues_75 : decode cX4_tellValues 75 = .ok (.iastore, 1) := by decide +kernel
theorem dX4_tellValues_76 : decode cX4_tellValues 76 = .ok (.aload 4, 2) := by decide +kernel
theorem dX4_tellValues_78 : decode cX4_tellValues 78 = .ok (.bipush 7, 2) := by decide +kernel
theorem dX4_tellValues_80 : decode cX4_tellValues 80 = .ok (.aload_n 0, 1) := by decide +kernel
theorem dX4_tellValues_81 : decode cX4_tellValues 81 = .ok (.getfield 27, 3) := by decide +kernel
theorem dX4_tellValues_84 : decode cX4_tellValues 84 = .ok (.iastore, 1) := by decide +kernel
theorem dX4_tellValues_85 : decode cX4_tellValues 85 = .ok (.aload 4, 2) := by decide +kernel
theorem dX4_tellValues_87 : decode cX4_tellValues 87 = .ok (.bipush 8, 2) := by decide +kernel
theorem dX4_tellValues_89 : decode cX4_tellValues 89 = .ok (.aload_n 0, 1) := by decide +kernel
theorem dX4_tellValues_90 : decode cX4_tellValues 90 = .ok (.aload_n 0, 1) := by decide +kernel
theorem dX4_tellValues_91 : decode cX4_tellValues 91 = .ok (.getfield 27, 3) := by decide +kernel
theorem dX4_tellValues_94 : decode cX4_tellValues 94 = .ok (.invokevirtual 135, 3) := by decide +kernel
theorem dX4_tellValues_97 : decode cX4_tellValues 97 = .ok (.iastore, 1) := by decide +kernel
theorem dX4_tellValues_98 : decode cX4_tellValues 98 = .ok (.aload 4, 2) := by decide +kernel
theorem dX4_tellValues_100 : decode cX4_tellValues 100 = .ok (.bipush 9, 2) := by decide +kernel
theorem dX4_tellValues_102 : decode cX4_tellValues 102 = .ok (.aload_n 0, 1) := by decide +kernel
theorem dX4_tellValues_103 : decode cX4_tellValues 103 = .ok (.getfield 31, 3) := by decide +kernel
theorem dX4_tellValues_106 : decode cX4_tellValues 106 = .ok (.iconst (-1), 1) := by decide +kernel
theorem dX4_tellValues_107 : decode cX4_tellValues 107 = .ok (.if_icmp .eq 7, 3) := by decide +kernel
theorem dX4_tellValues_110 : decode cX4_tellValues 110 = .ok (.iconst 1, 1) := by decide +kernel
theorem dX4_tellValues_111 : decode cX4_tellValues 111 = .ok (.goto 4, 3) := by decide +kernel
theorem dX4_tellValues_114 : decode cX4_tellValues 114 = .ok (.iconst 0, 1) := by decide +kernel
theorem dX4_tellValues_115 : decode cX4_tellValues 115 = .ok (.iastore, 1) := by decide +kernel
theorem dX4_tellValues_116 : decode cX4_tellValues 116 = .ok (.aload 4, 2) := by decide +kernel
theorem dX4_tellValues_118 : decode cX4_tellValues 118 = .ok (.bipush 10, 2) := by decide +kernel
theorem dX4_tellValues_120 : decode cX4_tellValues 120 = .ok (.aload_n 0, 1) := by decide +kernel
theorem dX4_tellValues_121 : decode cX4_tellValues 121 = .ok (.aload_n 0, 1) := by decide +kernel
theorem dX4_tellValues_122 : decode cX4_tellValues 122 = .ok (.getfield 27, 3) := by decide +kernel
theorem dX4_tellValues_125 : decode cX4_tellValues 125 = .ok (.invokevirtual 138, 3) := by decide +kernel
theorem dX4_tellValues_128 : decode cX4_tellValues 128 = .ok (.ifCond .eq 19, 3) := by decide +kernel
theorem dX4_tellValues_131 : decode cX4_tellValues 131 = .ok (.aload_n 0, 1) := by decide +kernel
theorem dX4_tellValues_132 : decode cX4_tellValues 132 = .ok (.iconst 1, 1) := by decide +kernel
theorem dX4_tellValues_133 : decode cX4_tellValues 133 = .ok (.aload_n 2, 1) := by decide +kernel
theorem dX4_tellValues_134 : decode cX4_tellValues 134 = .ok (.getfield 101, 3) := by decide +kernel
theorem dX4_tellValues_137 : decode cX4_tellValues 137 = .ok (.isub, 1) := by decide +kernel
theorem dX4_tellValues_138 : decode cX4_tellValues 138 = .ok (.invokevirtual 142, 3) := by decide +kernel
theorem dX4_tellValues_141 : decode cX4_tellValues 141 = .ok (.getfield 56, 3) := by decide +kernel
theorem dX4_tellValues_144 : decode cX4_tellValues 144 = .ok (.goto 4, 3) := by decide +kernel
theorem dX4_tellValues_147 : decode cX4_tellValues 147 = .ok (.iconst 0, 1) := by decide +kernel
theorem dX4_tellValues_148 : decode cX4_tellValues 148 = .ok (.iastore, 1) := by decide +kernel
theorem dX4_tellValues_149 : decode cX4_tellValues 149 = .ok (.aload 4, 2) := by decide +kernel
theorem dX4_tellValues_151 : decode cX4_tellValues 151 = .ok (.bipush 11, 2) := by decide +kernel
theorem dX4_tellValues_153 : decode cX4_tellValues 153 = .ok (.aload_n 2, 1) := by decide +kernel
theorem dX4_tellValues_154 : decode cX4_tellValues 154 = .ok (.getfield 56, 3) := by decide +kernel
theorem dX4_tellValues_157 : decode cX4_tellValues 157 = .ok (.iastore, 1) := by decide +kernel
theorem dX4_tellValues_158 : decode cX4_tellValues 158 = .ok (.return_, 1) := by decide +kernel
theorem dX4_apartIn_0 : decode cX4_apartIn 0 = .ok (.iload_n 1, 1) := by decide +kernel
theorem dX4_apartIn_1 : decode cX4_apartIn 1 = .ok (.ifCond .lt 18, 3) := by decide +kernel
theorem dX4_apartIn_4 : decode cX4_apartIn 4 = .ok (.iload_n 1, 1) := by decide +kernel
theorem dX4_apartIn_5 : decode cX4_apartIn 5 = .ok (.bipush 99, 2) := by decide +kernel
theorem dX4_apartIn_7 : decode cX4_apartIn 7 = .ok (.if_icmp .ge 12, 3) := by decide +kernel
theorem dX4_apartIn_10 : decode cX4_apartIn 10 = .ok (.aload_n 0, 1) := by decide +kernel
theorem dX4_apartIn_11 : decode cX4_apartIn 11 = .ok (.getfield 23, 3) := by decide +kernel
theorem dX4_apartIn_14 : decode cX4_apartIn 14 = .ok (.iload_n 1, 1) := by decide +kernel
theorem dX4_apartIn_15 : decode cX4_apartIn 15 = .ok (.iaload, 1) := by decide +kernel
theorem dX4_apartIn_16 : decode cX4_apartIn 16 = .ok (.goto 4, 3) := by decide +kernel
theorem dX4_apartIn_19 : decode cX4_apartIn 19 = .ok (.iconst 0, 1) := by decide +kernel
theorem dX4_apartIn_20 : decode cX4_apartIn 20 = .ok (.ireturn, 1) := by decide +kernel
theorem dX4_inView_0 : decode cX4_inView 0 = .ok (.aload_n 0, 1) := by decide +kernel
theorem dX4_inView_1 : decode cX4_inView 1 = .ok (.iload_n 1, 1) := by decide +kernel
theorem dX4_inView_2 : decode cX4_inView 2 = .ok (.invokevirtual 107, 3) := by decide +kernel
theorem dX4_inView_5 : decode cX4_inView 5 = .ok (.ifCond .le 7, 3) := by decide +kernel
theorem dX4_inView_8 : decode cX4_inView 8 = .ok (.iconst 1, 1) := by decide +kernel
theorem dX4_inView_9 : decode cX4_inView 9 = .ok (.goto 4, 3) := by decide +kernel
theorem dX4_inView_12 : decode cX4_inView 12 = .ok (.iconst 0, 1) := by decide +kernel
theorem dX4_inView_13 : decode cX4_inView 13 = .ok (.ireturn, 1) := by decide +kernel
theorem dX4_far_0 : decode cX4_far 0 = .ok (.aload_n 0, 1) := by decide +kernel
theorem dX4_far_1 : decode cX4_far 1 = .ok (.iload_n 1, 1) := by decide +kernel
theorem dX4_far_2 : decode cX4_far 2 = .ok (.invokevirtual 107, 3) := by decide +kernel
theorem dX4_far_5 : decode cX4_far 5 = .ok (.istore_n 2, 1) := by decide +kernel
theorem dX4_far_6 : decode cX4_far 6 = .ok (.iload_n 2, 1) := by decide +kernel
theorem dX4_far_7 : decode cX4_far 7 = .ok (.ifCond .le 7, 3) := by decide +kernel
theorem dX4_far_10 : decode cX4_far 10 = .ok (.iload_n 2, 1) := by decide +kernel
theorem dX4_far_11 : decode cX4_far 11 = .ok (.goto 5, 3) := by decide +kernel
theorem dX4_far_14 : decode cX4_far 14 = .ok (.bipush 99, 2) := by decide +kernel
theorem dX4_far_16 : decode cX4_far 16 = .ok (.ireturn, 1) := by decide +kernel
theorem dX4_beamsBy_0 : decode cX4_beamsBy 0 = .ok (.aload_n 0, 1) := by decide +kernel
theorem dX4_beamsBy_1 : decode cX4_beamsBy 1 = .ok (.iload_n 2, 1) := by decide +kernel
theorem dX4_beamsBy_2 : decode cX4_beamsBy 2 = .ok (.invokevirtual 135, 3) := by decide +kernel
theorem dX4_beamsBy_5 : decode cX4_beamsBy 5 = .ok (.iload_n 1, 1) := by decide +kernel
theorem dX4_beamsBy_6 : decode cX4_beamsBy 6 = .ok (.isub, 1) := by decide +kernel
theorem dX4_beamsBy_7 : decode cX4_beamsBy 7 = .ok (.ifCond .le 7, 3) := by decide +kernel
theorem dX4_beamsBy_10 : decode cX4_beamsBy 10 = .ok (.iconst 1, 1) := by decide +kernel
theorem dX4_beamsBy_11 : decode cX4_beamsBy 11 = .ok (.goto 4, 3) := by decide +kernel
theorem dX4_beamsBy_14 : decode cX4_beamsBy 14 = .ok (.iconst 0, 1) := by decide +kernel
theorem dX4_beamsBy_15 : decode cX4_beamsBy 15 = .ok (.ireturn, 1) := by decide +kernel
theorem dX4_everApartBy_0 : decode cX4_everApartBy 0 = .ok (.iconst 0, 1) := by decide +kernel
theorem dX4_everApartBy_1 : decode cX4_everApartBy 1 = .ok (.istore_n 2, 1) := by decide +kernel
theorem dX4_everApartBy_2 : decode cX4_everApartBy 2 = .ok (.iload_n 2, 1) := by decide +kernel
theorem dX4_everApartBy_3 : decode cX4_everApartBy 3 = .ok (.aload_n 0, 1) := by decide +kernel
theorem dX4_everApartBy_4 : decode cX4_everApartBy 4 = .ok (.getfield 27, 3) := by decide +kernel
theorem dX4_everApartBy_7 : decode cX4_everApartBy 7 = .ok (.if_icmp .ge 21, 3) := by decide +kernel
theorem dX4_everApartBy_10 : decode cX4_everApartBy 10 = .ok (.aload_n 0, 1) := by decide +kernel
theorem dX4_everApartBy_11 : decode cX4_everApartBy 11 = .ok (.getfield 23, 3) := by decide +kernel
theorem dX4_everApartBy_14 : decode cX4_everApartBy 14 = .ok (.iload_n 2, 1) := by decide +kernel
theorem dX4_everApartBy_15 : decode cX4_everApartBy 15 = .ok (.iaload, 1) := by decide +kernel
theorem dX4_everApartBy_16 : decode cX4_everApartBy 16 = .ok (.iload_n 1, 1) := by decide +kernel
theorem dX4_everApartBy_17 : decode cX4_everApartBy 17 = .ok (.if_icmp .ne 5, 3) := by decide +kernel
theorem dX4_everApartBy_20 : decode cX4_everApartBy 20 = .ok (.iconst 1, 1) := by decide +kernel
theorem dX4_everApartBy_21 : decode cX4_everApartBy 21 = .ok (.ireturn, 1) := by decide +kernel
theorem dX4_everApartBy_22 : decode cX4_everApartBy 22 = .ok (.iinc 2 1, 3) := by decide +kernel
theorem dX4_everApartBy_25 : decode cX4_everApartBy 25 = .ok (.goto (-23), 3) := by decide +kernel
theorem dX4_everApartBy_28 : decode cX4_everApartBy 28 = .ok (.iconst 0, 1) := by decide +kernel
theorem dX4_everApartBy_29 : decode cX4_everApartBy 29 = .ok (.ireturn, 1) := by decide +kernel
theorem dX4_hitBy_0 : decode cX4_hitBy 0 = .ok (.iload_n 2, 1) := by decide +kernel
theorem dX4_hitBy_1 : decode cX4_hitBy 1 = .ok (.aload_n 1, 1) := by decide +kernel
theorem dX4_hitBy_2 : decode cX4_hitBy 2 = .ok (.getfield 86, 3) := by decide +kernel
theorem dX4_hitBy_5 : decode cX4_hitBy 5 = .ok (.if_icmp .ge 22, 3) := by decide +kernel
theorem dX4_hitBy_8 : decode cX4_hitBy 8 = .ok (.aload_n 0, 1) := by decide +kernel
theorem dX4_hitBy_9 : decode cX4_hitBy 9 = .ok (.iload_n 2, 1) := by decide +kernel
theorem dX4_hitBy_10 : decode cX4_hitBy 10 = .ok (.invokevirtual 142, 3) := by decide +kernel
theorem dX4_hitBy_13 : decode cX4_hitBy 13 = .ok (.aload_n 1, 1) := by decide +kernel
theorem dX4_hitBy_14 : decode cX4_hitBy 14 = .ok (.iload_n 3, 1) := by decide +kernel
theorem dX4_hitBy_15 : decode cX4_hitBy 15 = .ok (.iload 4, 2) := by decide +kernel
theorem dX4_hitBy_17 : decode cX4_hitBy 17 = .ok (.invokevirtual 146, 3) := by decide +kernel
theorem dX4_hitBy_20 : decode cX4_hitBy 20 = .ok (.ifCond .eq 7, 3) := by decide +kernel
theorem dX4_hitBy_23 : decode cX4_hitBy 23 = .ok (.iconst 1, 1) := by decide +kernel
theorem dX4_hitBy_24 : decode cX4_hitBy 24 = .ok (.goto 4, 3) := by decide +kernel
theorem dX4_hitBy_27 : decode cX4_hitBy 27 = .ok (.iconst 0, 1) := by decide +kernel
theorem dX4_hitBy_28 : decode cX4_hitBy 28 = .ok (.ireturn, 1) := by decide +kernel
theorem dX4_hitByCars_0 : decode cX4_hitByCars 0 = .ok (.aload_n 0, 1) := by decide +kernel
theorem dX4_hitByCars_1 : decode cX4_hitByCars 1 = .ok (.aload_n 1, 1) := by decide +kernel
theorem dX4_hitByCars_2 : decode cX4_hitByCars 2 = .ok (.iconst 0, 1) := by decide +kernel
theorem dX4_hitByCars_3 : decode cX4_hitByCars 3 = .ok (.iload_n 2, 1) := by decide +kernel
theorem dX4_hitByCars_4 : decode cX4_hitByCars 4 = .ok (.iload_n 3, 1) := by decide +kernel
theorem dX4_hitByCars_5 : decode cX4_hitByCars 5 = .ok (.invokevirtual 150, 3) := by decide +kernel
theorem dX4_hitByCars_8 : decode cX4_hitByCars 8 = .ok (.aload_n 0, 1) := by decide +kernel
theorem dX4_hitByCars_9 : decode cX4_hitByCars 9 = .ok (.aload_n 1, 1) := by decide +kernel
theorem dX4_hitByCars_10 : decode cX4_hitByCars 10 = .ok (.iconst 1, 1) := by decide +kernel
theorem dX4_hitByCars_11 : decode cX4_hitByCars 11 = .ok (.iload_n 2, 1) := by decide +kernel
theorem dX4_hitByCars_12 : decode cX4_hitByCars 12 = .ok (.iload_n 3, 1) := by decide +kernel
theorem dX4_hitByCars_13 : decode cX4_hitByCars 13 = .ok (.invokevirtual 150, 3) := by decide +kernel
theorem dX4_hitByCars_16 : decode cX4_hitByCars 16 = .ok (.iadd, 1) := by decide +kernel
theorem dX4_hitByCars_17 : decode cX4_hitByCars 17 = .ok (.ireturn, 1) := by decide +kernel
theorem dX4_hitBits_0 : decode cX4_hitBits 0 = .ok (.aload_n 0, 1) := by decide +kernel
theorem dX4_hitBits_1 : decode cX4_hitBits 1 = .ok (.iload_n 2, 1) := by decide +kernel
theorem dX4_hitBits_2 : decode cX4_hitBits 2 = .ok (.invokevirtual 142, 3) := by decide +kernel
theorem dX4_hitBits_5 : decode cX4_hitBits 5 = .ok (.astore_n 3, 1) := by decide +kernel
theorem dX4_hitBits_6 : decode cX4_hitBits 6 = .ok (.iconst 0, 1) := by decide +kernel
theorem dX4_hitBits_7 : decode cX4_hitBits 7 = .ok (.istore 4, 2) := by decide +kernel
theorem dX4_hitBits_9 : decode cX4_hitBits 9 = .ok (.iconst 0, 1) := by decide +kernel
theorem dX4_hitBits_10 : decode cX4_hitBits 10 = .ok (.istore 5, 2) := by decide +kernel
theorem dX4_hitBits_12 : decode cX4_hitBits 12 = .ok (.iload 5, 2) := by decide +kernel
theorem dX4_hitBits_14 : decode cX4_hitBits 14 = .ok (.aload_n 1, 1) := by decide +kernel
theorem dX4_hitBits_15 : decode cX4_hitBits 15 = .ok (.getfield 154, 3) := by decide +kernel
theorem dX4_hitBits_18 : decode cX4_hitBits 18 = .ok (.if_icmp .ge 40, 3) := by decide +kernel
theorem dX4_hitBits_21 : decode cX4_hitBits 21 = .ok (.aload_n 3, 1) := by decide +kernel
theorem dX4_hitBits_22 : decode cX4_hitBits 22 = .ok (.aload_n 1, 1) := by decide +kernel
theorem dX4_hitBits_23 : decode cX4_hitBits 23 = .ok (.aload_n 1, 1) := by decide +kernel
theorem dX4_hitBits_24 : decode cX4_hitBits 24 = .ok (.getfield 157, 3) := by decide +kernel
theorem dX4_hitBits_27 : decode cX4_hitBits 27 = .ok (.iload 5, 2) := by decide +kernel
theorem dX4_hitBits_29 : decode cX4_hitBits 29 = .ok (.iaload, 1) := by decide +kernel
theorem dX4_hitBits_30 : decode cX4_hitBits 30 = .ok (.aload_n 1, 1) := by decide +kernel
theorem dX4_hitBits_31 : decode cX4_hitBits 31 = .ok (.getfield 160, 3) := by decide +kernel
theorem dX4_hitBits_34 : decode cX4_hitBits 34 = .ok (.iload 5, 2) := by decide +kernel
theorem dX4_hitBits_36 : decode cX4_hitBits 36 = .ok (.iaload, 1) := by decide +kernel
theorem dX4_hitBits_37 : decode cX4_hitBits 37 = .ok (.invokevirtual 146, 3) := by decide +kernel
theorem dX4_hitBits_40 : decode cX4_hitBits 40 = .ok (.ifCond .eq 12, 3) := by decide +kernel
theorem dX4_hitBits_43 : decode cX4_hitBits 43 = .ok (.iload 4, 2) := by decide +kernel
theorem dX4_hitBits_45 : decode cX4_hitBits 45 = .ok (.iconst 1, 1) := by decide +kernel
theorem dX4_hitBits_46 : decode cX4_hitBits 46 = .ok (.iload 5, 2) := by decide +kernel
theorem dX4_hitBits_48 : decode cX4_hitBits 48 = .ok (.ishl, 1) := by decide +kernel
theorem dX4_hitBits_49 : decode cX4_hitBits 49 = .ok (.ior, 1) := by decide +kernel
theorem dX4_hitBits_50 : decode cX4_hitBits 50 = .ok (.istore 4, 2) := by decide +kernel
theorem dX4_hitBits_52 : decode cX4_hitBits 52 = .ok (.iinc 5 1, 3) := by decide +kernel
theorem dX4_hitBits_55 : decode cX4_hitBits 55 = .ok (.goto (-43), 3) := by decide +kernel
theorem dX4_hitBits_58 : decode cX4_hitBits 58 = .ok (.iload 4, 2) := by decide +kernel
theorem dX4_hitBits_60 : decode cX4_hitBits 60 = .ok (.ireturn, 1) := by decide +kernel
theorem dX4_hitCount_0 : decode cX4_hitCount 0 = .ok (.aload_n 0, 1) := by decide +kernel
theorem dX4_hitCount_1 : decode cX4_hitCount 1 = .ok (.aload_n 1, 1) := by decide +kernel
theorem dX4_hitCount_2 : decode cX4_hitCount 2 = .ok (.iload_n 2, 1) := by decide +kernel
theorem dX4_hitCount_3 : decode cX4_hitCount 3 = .ok (.invokevirtual 163, 3) := by decide +kernel
theorem dX4_hitCount_6 : decode cX4_hitCount 6 = .ok (.invokestatic 167, 3) := by decide +kernel
theorem dX4_hitCount_9 : decode cX4_hitCount 9 = .ok (.ireturn, 1) := by decide +kernel
theorem dX4_costOf_0 : decode cX4_costOf 0 = .ok (.bipush 10, 2) := by decide +kernel
theorem dX4_costOf_2 : decode cX4_costOf 2 = .ok (.aload_n 0, 1) := by decide +kernel
theorem dX4_costOf_3 : decode cX4_costOf 3 = .ok (.aload_n 1, 1) := by decide +kernel
theorem dX4_costOf_4 : decode cX4_costOf 4 = .ok (.iload_n 2, 1) := by decide +kernel
theorem dX4_costOf_5 : decode cX4_costOf 5 = .ok (.invokevirtual 163, 3) := by decide +kernel
theorem dX4_costOf_8 : decode cX4_costOf 8 = .ok (.invokestatic 167, 3) := by decide +kernel
theorem dX4_costOf_11 : decode cX4_costOf 11 = .ok (.imul, 1) := by decide +kernel
theorem dX4_costOf_12 : decode cX4_costOf 12 = .ok (.aload_n 0, 1) := by decide +kernel
theorem dX4_costOf_13 : decode cX4_costOf 13 = .ok (.iload_n 2, 1) := by decide +kernel
theorem dX4_costOf_14 : decode cX4_costOf 14 = .ok (.invokevirtual 142, 3) := by decide +kernel
theorem dX4_costOf_17 : decode cX4_costOf 17 = .ok (.invokevirtual 172, 3) := by decide +kernel
theorem dX4_costOf_20 : decode cX4_costOf 20 = .ok (.iadd, 1) := by decide +kernel
theorem dX4_costOf_21 : decode cX4_costOf 21 = .ok (.ireturn, 1) := by decide +kernel
theorem dX5_init_0 : decode cX5_init 0 = .ok (.aload_n 0, 1) := by decide +kernel
theorem dX5_init_1 : decode cX5_init 1 = .ok (.invokespecial 3, 3) := by decide +kernel
theorem dX5_init_4 : decode cX5_init 4 = .ok (.aload_n 0, 1) := by decide +kernel
theorem dX5_init_5 : decode cX5_init 5 = .ok (.bipush 40, 2) := by decide +kernel
theorem dX5_init_7 : decode cX5_init 7 = .ok (.putfield 9, 3) := by decide +kernel
theorem dX5_init_10 : decode cX5_init 10 = .ok (.aload_n 0, 1) := by decide +kernel
theorem dX5_init_11 : decode cX5_init 11 = .ok (.bipush 6, 2) := by decide +kernel
theorem dX5_init_13 : decode cX5_init 13 = .ok (.newarray .int, 2) := by decide +kernel
theorem dX5_init_15 : decode cX5_init 15 = .ok (.putfield 15, 3) := by decide +kernel
theorem dX5_init_18 : decode cX5_init 18 = .ok (.aload_n 0, 1) := by decide +kernel
theorem dX5_init_19 : decode cX5_init 19 = .ok (.iconst 0, 1) := by decide +kernel
theorem dX5_init_20 : decode cX5_init 20 = .ok (.putfield 19, 3) := by decide +kernel
theorem dX5_init_23 : decode cX5_init 23 = .ok (.aload_n 0, 1) := by decide +kernel
theorem dX5_init_24 : decode cX5_init 24 = .ok (.iconst 0, 1) := by decide +kernel
theorem dX5_init_25 : decode cX5_init 25 = .ok (.putfield 22, 3) := by decide +kernel
theorem dX5_init_28 : decode cX5_init 28 = .ok (.aload_n 0, 1) := by decide +kernel
theorem dX5_init_29 : decode cX5_init 29 = .ok (.bipush 60, 2) := by decide +kernel
theorem dX5_init_31 : decode cX5_init 31 = .ok (.newarray .int, 2) := by decide +kernel
theorem dX5_init_33 : decode cX5_init 33 = .ok (.putfield 25, 3) := by decide +kernel
theorem dX5_init_36 : decode cX5_init 36 = .ok (.aload_n 0, 1) := by decide +kernel
theorem dX5_init_37 : decode cX5_init 37 = .ok (.iconst 0, 1) := by decide +kernel
theorem dX5_init_38 : decode cX5_init 38 = .ok (.putfield 28, 3) := by decide +kernel
theorem dX5_init_41 : decode cX5_init 41 = .ok (.aload_n 0, 1) := by decide +kernel
theorem dX5_init_42 : decode cX5_init 42 = .ok (.bipush 10, 2) := by decide +kernel
theorem dX5_init_44 : decode cX5_init 44 = .ok (.newarray .int, 2) := by decide +kernel
theorem dX5_init_46 : decode cX5_init 46 = .ok (.putfield 31, 3) := by decide +kernel
theorem dX5_init_49 : decode cX5_init 49 = .ok (.aload_n 0, 1) := by decide +kernel
theorem dX5_init_50 : decode cX5_init 50 = .ok (.bipush 10, 2) := by decide +kernel
theorem dX5_init_52 : decode cX5_init 52 = .ok (.newarray .int, 2) := by decide +kernel
theorem dX5_init_54 : decode cX5_init 54 = .ok (.putfield 34, 3) := by decide +kernel
theorem dX5_init_57 : decode cX5_init 57 = .ok (.aload_n 0, 1) := by decide +kernel
theorem dX5_init_58 : decode cX5_init 58 = .ok (.iconst 0, 1) := by decide +kernel
theorem dX5_init_59 : decode cX5_init 59 = .ok (.putfield 37, 3) := by decide +kernel
theorem dX5_init_62 : decode cX5_init 62 = .ok (.aload_n 0, 1) := by decide +kernel
theorem dX5_init_63 : decode cX5_init 63 = .ok (.iconst 0, 1) := by decide +kernel
theorem dX5_init_64 : decode cX5_init 64 = .ok (.putfield 40, 3) := by decide +kernel
theorem dX5_init_67 : decode cX5_init 67 = .ok (.aload_n 0, 1) := by decide +kernel
theorem dX5_init_68 : decode cX5_init 68 = .ok (.iconst 4, 1) := by decide +kernel
theorem dX5_init_69 : decode cX5_init 69 = .ok (.putfield 43, 3) := by decide +kernel
theorem dX5_init_72 : decode cX5_init 72 = .ok (.aload_n 0, 1) := by decide +kernel
theorem dX5_init_73 : decode cX5_init 73 = .ok (.bipush 20, 2) := by decide +kernel
theorem dX5_init_75 : decode cX5_init 75 = .ok (.putfield 46, 3) := by decide +kernel
theorem dX5_init_78 : decode cX5_init 78 = .ok (.aload_n 0, 1) := by decide +kernel
theorem dX5_init_79 : decode cX5_init 79 = .ok (.bipush 6, 2) := by decide +kernel
theorem dX5_init_81 : decode cX5_init 81 = .ok (.putfield 49, 3) := by decide +kernel
theorem dX5_init_84 : decode cX5_init 84 = .ok (.aload_n 0, 1) := by decide +kernel
theorem dX5_init_85 : decode cX5_init 85 = .ok (.iconst 2, 1) := by decide +kernel
theorem dX5_init_86 : decode cX5_init 86 = .ok (.newarray .int, 2) := by decide +kernel
theorem dX5_init_88 : decode cX5_init 88 = .ok (.putfield 52, 3) := by decide +kernel
theorem dX5_init_91 : decode cX5_init 91 = .ok (.aload_n 0, 1) := by decide +kernel
theorem dX5_init_92 : decode cX5_init 92 = .ok (.iconst 2, 1) := by decide +kernel
theorem dX5_init_93 : decode cX5_init 93 = .ok (.newarray .int, 2) := by decide +kernel
theorem dX5_init_95 : decode cX5_init 95 = .ok (.putfield 55, 3) := by decide +kernel
theorem dX5_init_98 : decode cX5_init 98 = .ok (.aload_n 0, 1) := by decide +kernel
theorem dX5_init_99 : decode cX5_init 99 = .ok (.iconst 2, 1) := by decide +kernel
theorem dX5_init_100 : decode cX5_init 100 = .ok (.newarray .int, 2) := by decide +kernel
theorem dX5_init_102 : decode cX5_init 102 = .ok (.putfield 58, 3) := by decide +kernel
theorem dX5_init_105 : decode cX5_init 105 = .ok (.aload_n 0, 1) := by decide +kernel
theorem dX5_init_106 : decode cX5_init 106 = .ok (.iconst 0, 1) := by decide +kernel
theorem dX5_init_107 : decode cX5_init 107 = .ok (.putfield 61, 3) := by decide +kernel
theorem dX5_init_110 : decode cX5_init 110 = .ok (.return_, 1) := by decide +kernel
theorem dX5_empty_0 : decode cX5_empty 0 = .ok (.aload_n 0, 1) := by decide +kernel
theorem dX5_empty_1 : decode cX5_empty 1 = .ok (.bipush 40, 2) := by decide +kernel
theorem dX5_empty_3 : decode cX5_empty 3 = .ok (.putfield 9, 3) := by decide +kernel
theorem dX5_empty_6 : decode cX5_empty 6 = .ok (.aload_n 0, 1) := by decide +kernel
theorem dX5_empty_7 : decode cX5_empty 7 = .ok (.iconst 0, 1) := by decide +kernel
theorem dX5_empty_8 : decode cX5_empty 8 = .ok (.putfield 19, 3) := by decide +kernel
theorem dX5_empty_11 : decode cX5_empty 11 = .ok (.aload_n 0, 1) := by decide +kernel
theorem dX5_empty_12 : decode cX5_empty 12 = .ok (.iconst 0, 1) := by decide +kernel
theorem dX5_empty_13 : decode cX5_empty 13 = .ok (.putfield 22, 3) := by decide +kernel
theorem dX5_empty_16 : decode cX5_empty 16 = .ok (.iconst 0, 1) := by decide +kernel
theorem dX5_empty_17 : decode cX5_empty 17 = .ok (.istore_n 1, 1) := by decide +kernel
theorem dX5_empty_18 : decode cX5_empty 18 = .ok (.iload_n 1, 1) := by decide +kernel
theorem dX5_empty_19 : decode cX5_empty 19 = .ok (.bipush 60, 2) := by decide +kernel
theorem dX5_empty_21 : decode cX5_empty 21 = .ok (.if_icmp .ge 16, 3) := by decide +kernel
theorem dX5_empty_24 : decode cX5_empty 24 = .ok (.aload_n 0, 1) := by decide +kernel
theorem dX5_empty_25 : decode cX5_empty 25 = .ok (.getfield 25, 3) := by decide +kernel
theorem dX5_empty_28 : decode cX5_empty 28 = .ok (.iload_n 1, 1) := by decide +kernel
theorem dX5_empty_29 : decode cX5_empty 29 = .ok (.iconst 0, 1) := by decide +kernel
theorem dX5_empty_30 : decode cX5_empty 30 = .ok (.iastore, 1) := by decide +kernel
theorem dX5_empty_31 : decode cX5_empty 31 = .ok (.iinc 1 1, 3) := by decide +kernel
theorem dX5_empty_34 : decode cX5_empty 34 = .ok (.goto (-16), 3) := by decide +kernel
theorem dX5_empty_37 : decode cX5_empty 37 = .ok (.aload_n 0, 1) := by decide +kernel
theorem dX5_empty_38 : decode cX5_empty 38 = .ok (.iconst 0, 1) := by decide +kernel
theorem dX5_empty_39 : decode cX5_empty 39 = .ok (.putfield 28, 3) := by decide +kernel
theorem dX5_empty_42 : decode cX5_empty 42 = .ok (.aload_n 0, 1) := by decide +kernel
theorem dX5_empty_43 : decode cX5_empty 43 = .ok (.iconst 0, 1) := by decide +kernel
theorem dX5_empty_44 : decode cX5_empty 44 = .ok (.putfield 37, 3) := by decide +kernel
theorem dX5_empty_47 : decode cX5_empty 47 = .ok (.aload_n 0, 1) := by decide +kernel
theorem dX5_empty_48 : decode cX5_empty 48 = .ok (.iconst 0, 1) := by decide +kernel
theorem dX5_empty_49 : decode cX5_empty 49 = .ok (.putfield 40, 3) := by decide +kernel
theorem dX5_empty_52 : decode cX5_empty 52 = .ok (.aload_n 0, 1) := by decide +kernel
theorem dX5_empty_53 : decode cX5_empty 53 = .ok (.iconst 4, 1) := by decide +kernel
theorem dX5_empty_54 : decode cX5_empty 54 = .ok (.putfield 43, 3) := by decide +kernel
theorem dX5_empty_57 : decode cX5_empty 57 = .ok (.aload_n 0, 1) := by decide +kernel
theorem dX5_empty_58 : decode cX5_empty 58 = .ok (.bipush 20, 2) := by decide +kernel
theorem dX5_empty_60 : decode cX5_empty 60 = .ok (.putfield 46, 3) := by decide +kernel
theorem dX5_empty_63 : decode cX5_empty 63 = .ok (.aload_n 0, 1) := by decide +kernel
theorem dX5_empty_64 : decode cX5_empty 64 = .ok (.bipush 6, 2) := by decide +kernel
theorem dX5_empty_66 : decode cX5_empty 66 = .ok (.putfield 49, 3) := by decide +kernel
theorem dX5_empty_69 : decode cX5_empty 69 = .ok (.aload_n 0, 1) := by decide +kernel
theorem dX5_empty_70 : decode cX5_empty 70 = .ok (.iconst 0, 1) := by decide +kernel
theorem dX5_empty_71 : decode cX5_empty 71 = .ok (.putfield 61, 3) := by decide +kernel
theorem dX5_empty_74 : decode cX5_empty 74 = .ok (.return_, 1) := by decide +kernel
theorem dX5_readFrom_0 : decode cX5_readFrom 0 = .ok (.aload_n 0, 1) := by decide +kernel
theorem dX5_readFrom_1 : decode cX5_readFrom 1 = .ok (.invokevirtual 64, 3) := by decide +kernel
theorem dX5_readFrom_4 : decode cX5_readFrom 4 = .ok (.iconst 0, 1) := by decide +kernel
theorem dX5_readFrom_5 : decode cX5_readFrom 5 = .ok (.istore_n 2, 1) := by decide +kernel
theorem dX5_readFrom_6 : decode cX5_readFrom 6 = .ok (.iload_n 2, 1) := by decide +kernel
theorem dX5_readFrom_7 : decode cX5_readFrom 7 = .ok (.bipush 60, 2) := by decide +kernel
theorem dX5_readFrom_9 : decode cX5_readFrom 9 = .ok (.if_icmp .gt 92, 3) := by decide +kernel
theorem dX5_readFrom_12 : decode cX5_readFrom 12 = .ok (.aload_n 1, 1) := by decide +kernel
theorem dX5_readFrom_13 : decode cX5_readFrom 13 = .ok (.getfield 67, 3) := by decide +kernel
theorem dX5_readFrom_16 : decode cX5_readFrom 16 = .ok (.ifCond .ne 5, 3) := by decide +kernel
theorem dX5_readFrom_19 : decode cX5_readFrom 19 = .ok (.iconst 1, 1) := by decide +kernel
theorem dX5_readFrom_20 : decode cX5_readFrom 20 = .ok (.ireturn, 1) := by decide +kernel
theorem dX5_readFrom_21 : decode cX5_readFrom 21 = .ok (.aload_n 1, 1) := by decide +kernel
theorem dX5_readFrom_22 : decode cX5_readFrom 22 = .ok (.invokestatic 72, 3) := by decide +kernel
theorem dX5_readFrom_25 : decode cX5_readFrom 25 = .ok (.istore_n 3, 1) := by decide +kernel
theorem dX5_readFrom_26 : decode cX5_readFrom 26 = .ok (.iload_n 3, 1) := by decide +kernel
theorem dX5_readFrom_27 : decode cX5_readFrom 27 = .ok (.iconst (-1), 1) := by decide +kernel
theorem dX5_readFrom_28 : decode cX5_readFrom 28 = .ok (.if_icmp .ne 9, 3) := by decide +kernel
theorem dX5_readFrom_31 : decode cX5_readFrom 31 = .ok (.aload_n 1, 1) := by decide +kernel
theorem dX5_readFrom_32 : decode cX5_readFrom 32 = .ok (.iconst 1, 1) := by decide +kernel
theorem dX5_readFrom_33 : decode cX5_readFrom 33 = .ok (.invokevirtual 76, 3) := by decide +kernel
theorem dX5_readFrom_36 : decode cX5_readFrom 36 = .ok (.ireturn, 1) := by decide +kernel
theorem dX5_readFrom_37 : decode cX5_readFrom 37 = .ok (.iload_n 2, 1) := by decide +kernel
theorem dX5_readFrom_38 : decode cX5_readFrom 38 = .ok (.bipush 60, 2) := by decide +kernel
theorem dX5_readFrom_40 : decode cX5_readFrom 40 = .ok (.if_icmp .eq 11, 3) := by decide +kernel
theorem dX5_readFrom_43 : decode cX5_readFrom 43 = .ok (.aload_n 0, 1) := by decide +kernel
theorem dX5_readFrom_44 : decode cX5_readFrom 44 = .ok (.iload_n 3, 1) := by decide +kernel
theorem dX5_readFrom_45 : decode cX5_readFrom 45 = .ok (.invokevirtual 80, 3) := by decide +kernel
theorem dX5_readFrom_48 : decode cX5_readFrom 48 = .ok (.ifCond .ne 9, 3) := by decide +kernel
theorem dX5_readFrom_51 : decode cX5_readFrom 51 = .ok (.aload_n 1, 1) := by decide +kernel
theorem dX5_readFrom_52 : decode cX5_readFrom 52 = .ok (.iconst 3, 1) := by decide +kernel
theorem dX5_readFrom_53 : decode cX5_readFrom 53 = .ok (.invokevirtual 76, 3) := by decide +kernel
theorem dX5_readFrom_56 : decode cX5_readFrom 56 = .ok (.ireturn, 1) := by decide +kernel
theorem dX5_readFrom_57 : decode cX5_readFrom 57 = .ok (.iload_n 3, 1) := by decide +kernel
theorem dX5_readFrom_58 : decode cX5_readFrom 58 = .ok (.ifCond .ne 13, 3) := by decide +kernel
theorem dX5_readFrom_61 : decode cX5_readFrom 61 = .ok (.iload_n 2, 1) := by decide +kernel
theorem dX5_readFrom_62 : decode cX5_readFrom 62 = .ok (.ifCond .le 9, 3) := by decide +kernel
theorem dX5_readFrom_65 : decode cX5_readFrom 65 = .ok (.aload_n 1, 1) := by decide +kernel
theorem dX5_readFrom_66 : decode cX5_readFrom 66 = .ok (.iconst 4, 1) := by decide +kernel
theorem dX5_readFrom_67 : decode cX5_readFrom 67 = .ok (.invokevirtual 76, 3) := by decide +kernel
theorem dX5_readFrom_70 : decode cX5_readFrom 70 = .ok (.ireturn, 1) := by decide +kernel
theorem dX5_readFrom_71 : decode cX5_readFrom 71 = .ok (.aload_n 1, 1) := by decide +kernel
theorem dX5_readFrom_72 : decode cX5_readFrom 72 = .ok (.invokevirtual 83, 3) := by decide +kernel
theorem dX5_readFrom_75 : decode cX5_readFrom 75 = .ok (.aload_n 0, 1) := by decide +kernel
theorem dX5_readFrom_76 : decode cX5_readFrom 76 = .ok (.iload_n 3, 1) := by decide +kernel
theorem dX5_readFrom_77 : decode cX5_readFrom 77 = .ok (.aload_n 1, 1) := by decide +kernel
theorem dX5_readFrom_78 : decode cX5_readFrom 78 = .ok (.invokevirtual 86, 3) := by decide +kernel
theorem dX5_readFrom_81 : decode cX5_readFrom 81 = .ok (.ifCond .eq 12, 3) := by decide +kernel
theorem dX5_readFrom_84 : decode cX5_readFrom 84 = .ok (.aload_n 1, 1) := by decide +kernel
theorem dX5_readFrom_85 : decode cX5_readFrom 85 = .ok (.bipush 59, 2) := by decide +kernel
theorem dX5_readFrom_87 : decode cX5_readFrom 87 = .ok (.invokevirtual 90, 3) := by decide +kernel
theorem dX5_readFrom_90 : decode cX5_readFrom 90 = .ok (.ifCond .ne 5, 3) := by decide +kernel
theorem dX5_readFrom_93 : decode cX5_readFrom 93 = .ok (.iconst 0, 1) := by decide +kernel
theorem dX5_readFrom_94 : decode cX5_readFrom 94 = .ok (.ireturn, 1) := by decide +kernel
theorem dX5_readFrom_95 : decode cX5_readFrom 95 = .ok (.iinc 2 1, 3) := by decide +kernel
theorem dX5_readFrom_98 : decode cX5_readFrom 98 = .ok (.goto (-92), 3) := by decide +kernel
theorem dX5_readFrom_101 : decode cX5_readFrom 101 = .ok (.iconst 0, 1) := by decide +kernel
theorem dX5_readFrom_102 : decode cX5_readFrom 102 = .ok (.ireturn, 1) := by decide +kernel
theorem dX5_clauseOf_0 : decode cX5_clauseOf 0 = .ok (.aload_n 0, 1) := by decide +kernel
theorem dX5_clauseOf_1 : decode cX5_clauseOf 1 = .ok (.ldc 94, 2) := by decide +kernel
theorem dX5_clauseOf_3 : decode cX5_clauseOf 3 = .ok (.invokevirtual 96, 3) := by decide +kernel
theorem dX5_clauseOf_6 : decode cX5_clauseOf 6 = .ok (.ifCond .eq 5, 3) := by decide +kernel
theorem dX5_clauseOf_9 : decode cX5_clauseOf 9 = .ok (.iconst 0, 1) := by decide +kernel
theorem dX5_clauseOf_10 : decode cX5_clauseOf 10 = .ok (.ireturn, 1) := by decide +kernel
theorem dX5_clauseOf_11 : decode cX5_clauseOf 11 = .ok (.aload_n 0, 1) := by decide +kernel
theorem dX5_clauseOf_12 : decode cX5_clauseOf 12 = .ok (.ldc 100, 2) := by decide +kernel
theorem dX5_clauseOf_14 : decode cX5_clauseOf 14 = .ok (.invokevirtual 96, 3) := by decide +kernel
theorem dX5_clauseOf_17 : decode cX5_clauseOf 17 = .ok (.ifCond .eq 5, 3) := by decide +kernel
theorem dX5_clauseOf_20 : decode cX5_clauseOf 20 = .ok (.iconst 1, 1) := by decide +kernel
theorem dX5_clauseOf_21 : decode cX5_clauseOf 21 = .ok (.ireturn, 1) := by decide +kernel
theorem dX5_clauseOf_22 : decode cX5_clauseOf 22 = .ok (.aload_n 0, 1) := by decide +kernel
theorem dX5_clauseOf_23 : decode cX5_clauseOf 23 = .ok (.ldc 102, 2) := by decide +kernel
theorem dX5_clauseOf_25 : decode cX5_clauseOf 25 = .ok (.invokevirtual 96, 3) := by decide +kernel
theorem dX5_clauseOf_28 : decode cX5_clauseOf 28 = .ok (.ifCond .eq 5, 3) := by decide +kernel
theorem dX5_clauseOf_31 : decode cX5_clauseOf 31 = .ok (.iconst 2, 1) := by decide +kernel
theorem dX5_clauseOf_32 : decode cX5_clauseOf 32 = .ok (.ireturn, 1) := by decide +kernel
theorem dX5_clauseOf_33 : decode cX5_clauseOf 33 = .ok (.aload_n 0, 1) := by decide +kernel
theorem dX5_clauseOf_34 : decode cX5_clauseOf 34 = .ok (.ldc 103, 2) := by decide +kernel
theorem dX5_clauseOf_36 : decode cX5_clauseOf 36 = .ok (.invokevirtual 96, 3) := by decide +kernel
theorem dX5_clauseOf_39 : decode cX5_clauseOf 39 = .ok (.ifCond .eq 5, 3) := by decide +kernel
theorem dX5_clauseOf_42 : decode cX5_clauseOf 42 = .ok (.iconst 3, 1) := by decide +kernel
theorem dX5_clauseOf_43 : decode cX5_clauseOf 43 = .ok (.ireturn, 1) := by decide +kernel
theorem dX5_clauseOf_44 : decode cX5_clauseOf 44 = .ok (.aload_n 0, 1) := by decide +kernel
theorem dX5_clauseOf_45 : decode cX5_clauseOf 45 = .ok (.ldc 105, 2) := by decide +kernel
theorem dX5_clauseOf_47 : decode cX5_clauseOf 47 = .ok (.invokevirtual 96, 3) := by decide +kernel
theorem dX5_clauseOf_50 : decode cX5_clauseOf 50 = .ok (.ifCond .eq 5, 3) := by decide +kernel
theorem dX5_clauseOf_53 : decode cX5_clauseOf 53 = .ok (.iconst 4, 1) := by decide +kernel
theorem dX5_clauseOf_54 : decode cX5_clauseOf 54 = .ok (.ireturn, 1) := by decide +kernel
theorem dX5_clauseOf_55 : decode cX5_clauseOf 55 = .ok (.aload_n 0, 1) := by decide +kernel
theorem dX5_clauseOf_56 : decode cX5_clauseOf 56 = .ok (.ldc 106, 2) := by decide +kernel
theorem dX5_clauseOf_58 : decode cX5_clauseOf 58 = .ok (.invokevirtual 96, 3) := by decide +kernel
theorem dX5_clauseOf_61 : decode cX5_clauseOf 61 = .ok (.ifCond .eq 5, 3) := by decide +kernel
theorem dX5_clauseOf_64 : decode cX5_clauseOf 64 = .ok (.iconst 5, 1) := by decide +kernel
theorem dX5_clauseOf_65 : decode cX5_clauseOf 65 = .ok (.ireturn, 1) := by decide +kernel
theorem dX5_clauseOf_66 : decode cX5_clauseOf 66 = .ok (.aload_n 0, 1) := by decide +kernel
theorem dX5_clauseOf_67 : decode cX5_clauseOf 67 = .ok (.ldc 107, 2) := by decide +kernel
theorem dX5_clauseOf_69 : decode cX5_clauseOf 69 = .ok (.invokevirtual 96, 3) := by decide +kernel
theorem dX5_clauseOf_72 : decode cX5_clauseOf 72 = .ok (.ifCond .eq 6, 3) := by decide +kernel
theorem dX5_clauseOf_75 : decode cX5_clauseOf 75 = .ok (.bipush 6, 2) := by decide +kernel
theorem dX5_clauseOf_77 : decode cX5_clauseOf 77 = .ok (.ireturn, 1) := by decide +kernel
theorem dX5_clauseOf_78 : decode cX5_clauseOf 78 = .ok (.aload_n 0, 1) := by decide +kernel
theorem dX5_clauseOf_79 : decode cX5_clauseOf 79 = .ok (.ldc 109, 2) := by decide +kernel
theorem dX5_clauseOf_81 : decode cX5_clauseOf 81 = .ok (.invokevirtual 96, 3) := by decide +kernel
theorem dX5_clauseOf_84 : decode cX5_clauseOf 84 = .ok (.ifCond .eq 8, 3) := by decide +kernel
theorem dX5_clauseOf_87 : decode cX5_clauseOf 87 = .ok (.bipush 7, 2) := by decide +kernel
theorem dX5_clauseOf_89 : decode cX5_clauseOf 89 = .ok (.goto 4, 3) := by decide +kernel
theorem dX5_clauseOf_92 : decode cX5_clauseOf 92 = .ok (.iconst (-1), 1) := by decide +kernel
theorem dX5_clauseOf_93 : decode cX5_clauseOf 93 = .ok (.ireturn, 1) := by decide +kernel
theorem dX5_hasRoomFor_0 : decode cX5_hasRoomFor 0 = .ok (.iload_n 1, 1) := by decide +kernel
theorem dX5_hasRoomFor_1 : decode cX5_hasRoomFor 1 = .ok (.tableswitch 101 1 7 #[43, 58, 72, 101, 101, 101, 87], 43) := by decide +kernel
theorem dX5_hasRoomFor_44 : decode cX5_hasRoomFor 44 = .ok (.aload_n 0, 1) := by decide +kernel
theorem dX5_hasRoomFor_45 : decode cX5_hasRoomFor 45 = .ok (.getfield 22, 3) := by decide +kernel
theorem dX5_hasRoomFor_48 : decode cX5_hasRoomFor 48 = .ok (.bipush 6, 2) := by decide +kernel
theorem dX5_hasRoomFor_50 : decode cX5_hasRoomFor 50 = .ok (.if_icmp .ge 7, 3) := by decide +kernel
theorem dX5_hasRoomFor_53 : decode cX5_hasRoomFor 53 = .ok (.iconst 1, 1) := by decide +kernel
theorem dX5_hasRoomFor_54 : decode cX5_hasRoomFor 54 = .ok (.goto 4, 3) := by decide +kernel
theorem dX5_hasRoomFor_57 : decode cX5_hasRoomFor 57 = .ok (.iconst 0, 1) := by decide +kernel
theorem dX5_hasRoomFor_58 : decode cX5_hasRoomFor 58 = .ok (.ireturn, 1) := by decide +kernel
theorem dX5_hasRoomFor_59 : decode cX5_hasRoomFor 59 = .ok (.aload_n 0, 1) := by decide +kernel
theorem dX5_hasRoomFor_60 : decode cX5_hasRoomFor 60 = .ok (.getfield 28, 3) := by decide +kernel
theorem dX5_hasRoomFor_63 : decode cX5_hasRoomFor 63 = .ok (.iconst 4, 1) := by decide +kernel
theorem dX5_hasRoomFor_64 : decode cX5_hasRoomFor 64 = .ok (.if_icmp .ge 7, 3) := by decide +kernel
theorem dX5_hasRoomFor_67 : decode cX5_hasRoomFor 67 = .ok (.iconst 1, 1) := by decide +kernel
theorem dX5_hasRoomFor_68 : decode cX5_hasRoomFor 68 = .ok (.goto 4, 3) := by decide +kernel
theorem dX5_hasRoomFor_71 : decode cX5_hasRoomFor 71 = .ok (.iconst 0, 1) := by decide +kernel
theorem dX5_hasRoomFor_72 : decode cX5_hasRoomFor 72 = .ok (.ireturn, 1) := by decide +kernel
theorem dX5_hasRoomFor_73 : decode cX5_hasRoomFor 73 = .ok (.aload_n 0, 1) := by decide +kernel
theorem dX5_hasRoomFor_74 : decode cX5_hasRoomFor 74 = .ok (.getfield 37, 3) := by decide +kernel
theorem dX5_hasRoomFor_77 : decode cX5_hasRoomFor 77 = .ok (.bipush 10, 2) := by decide +kernel
theorem dX5_hasRoomFor_79 : decode cX5_hasRoomFor 79 = .ok (.if_icmp .ge 7, 3) := by decide +kernel
theorem dX5_hasRoomFor_82 : decode cX5_hasRoomFor 82 = .ok (.iconst 1, 1) := by decide +kernel
theorem dX5_hasRoomFor_83 : decode cX5_hasRoomFor 83 = .ok (.goto 4, 3) := by decide +kernel
theorem dX5_hasRoomFor_86 : decode cX5_hasRoomFor 86 = .ok (.iconst 0, 1) := by decide +kernel
theorem dX5_hasRoomFor_87 : decode cX5_hasRoomFor 87 = .ok (.ireturn, 1) := by decide +kernel
theorem dX5_hasRoomFor_88 : decode cX5_hasRoomFor 88 = .ok (.aload_n 0, 1) := by decide +kernel
theorem dX5_hasRoomFor_89 : decode cX5_hasRoomFor 89 = .ok (.getfield 61, 3) := by decide +kernel
theorem dX5_hasRoomFor_92 : decode cX5_hasRoomFor 92 = .ok (.iconst 2, 1) := by decide +kernel
theorem dX5_hasRoomFor_93 : decode cX5_hasRoomFor 93 = .ok (.if_icmp .ge 7, 3) := by decide +kernel
theorem dX5_hasRoomFor_96 : decode cX5_hasRoomFor 96 = .ok (.iconst 1, 1) := by decide +kernel
theorem dX5_hasRoomFor_97 : decode cX5_hasRoomFor 97 = .ok (.goto 4, 3) := by decide +kernel
theorem dX5_hasRoomFor_100 : decode cX5_hasRoomFor 100 = .ok (.iconst 0, 1) := by decide +kernel
theorem dX5_hasRoomFor_101 : decode cX5_hasRoomFor 101 = .ok (.ireturn, 1) := by decide +kernel
theorem dX5_hasRoomFor_102 : decode cX5_hasRoomFor 102 = .ok (.iconst 1, 1) := by decide +kernel
theorem dX5_hasRoomFor_103 : decode cX5_hasRoomFor 103 = .ok (.ireturn, 1) := by decide +kernel
theorem dX5_readClause_0 : decode cX5_readClause 0 = .ok (.iload_n 1, 1) := by decide +kernel
theorem dX5_readClause_1 : decode cX5_readClause 1 = .ok (.tableswitch 143 0 6 #[43, 69, 75, 81, 87, 112, 137], 43) := by decide +kernel
theorem dX5_readClause_44 : decode cX5_readClause 44 = .ok (.aload_n 0, 1) := by decide +kernel
theorem dX5_readClause_45 : decode cX5_readClause 45 = .ok (.aload_n 2, 1) := by decide +kernel
theorem dX5_readClause_46 : decode cX5_readClause 46 = .ok (.bipush 10, 2) := by decide +kernel
theorem dX5_readClause_48 : decode cX5_readClause 48 = .ok (.bipush 60, 2) := by decide +kernel
theorem dX5_readClause_50 : decode cX5_readClause 50 = .ok (.invokevirtual 111, 3) := by decide +kernel
theorem dX5_readClause_53 : decode cX5_readClause 53 = .ok (.putfield 9, 3) := by decide +kernel
theorem dX5_readClause_56 : decode cX5_readClause 56 = .ok (.aload_n 0, 1) := by decide +kernel
theorem dX5_readClause_57 : decode cX5_readClause 57 = .ok (.getfield 9, 3) := by decide +kernel
theorem dX5_readClause_60 : decode cX5_readClause 60 = .ok (.iconst (-1), 1) := by decide +kernel
theorem dX5_readClause_61 : decode cX5_readClause 61 = .ok (.if_icmp .eq 7, 3) := by decide +kernel
theorem dX5_readClause_64 : decode cX5_readClause 64 = .ok (.iconst 1, 1) := by decide +kernel
theorem dX5_readClause_65 : decode cX5_readClause 65 = .ok (.goto 4, 3) := by decide +kernel
theorem dX5_readClause_68 : decode cX5_readClause 68 = .ok (.iconst 0, 1) := by decide +kernel
theorem dX5_readClause_69 : decode cX5_readClause 69 = .ok (.ireturn, 1) := by decide +kernel
theorem dX5_readClause_70 : decode cX5_readClause 70 = .ok (.aload_n 0, 1) := by decide +kernel
theorem dX5_readClause_71 : decode cX5_readClause 71 = .ok (.aload_n 2, 1) := by decide +kernel
theorem dX5_readClause_72 : decode cX5_readClause 72 = .ok (.invokevirtual 115, 3) := by decide +kernel
theorem dX5_readClause_75 : decode cX5_readClause 75 = .ok (.ireturn, 1) := by decide +kernel
theorem dX5_readClause_76 : decode cX5_readClause 76 = .ok (.aload_n 0, 1) := by decide +kernel
theorem dX5_readClause_77 : decode cX5_readClause 77 = .ok (.aload_n 2, 1) := by decide +kernel
theorem dX5_readClause_78 : decode cX5_readClause 78 = .ok (.invokevirtual 119, 3) := by decide +kernel
theorem dX5_readClause_81 : decode cX5_readClause 81 = .ok (.ireturn, 1) := by decide +kernel
theorem dX5_readClause_82 : decode cX5_readClause 82 = .ok (.aload_n 0, 1) := by decide +kernel
theorem dX5_readClause_83 : decode cX5_readClause 83 = .ok (.aload_n 2, 1) := by decide +kernel
theorem dX5_readClause_84 : decode cX5_readClause 84 = .ok (.invokevirtual 122, 3) := by decide +kernel
theorem dX5_readClause_87 : decode cX5_readClause 87 = .ok (.ireturn, 1) := by decide +kernel
theorem dX5_readClause_88 : decode cX5_readClause 88 = .ok (.aload_n 0, 1) := by decide +kernel
theorem dX5_readClause_89 : decode cX5_readClause 89 = .ok (.aload_n 2, 1) := by decide +kernel
theorem dX5_readClause_90 : decode cX5_readClause 90 = .ok (.iconst 0, 1) := by decide +kernel
theorem dX5_readClause_91 : decode cX5_readClause 91 = .ok (.bipush 9, 2) := by decide +kernel
theorem dX5_readClause_93 : decode cX5_readClause 93 = .ok (.invokevirtual 111, 3) := by decide +kernel
theorem dX5_readClause_96 : decode cX5_readClause 96 = .ok (.putfield 40, 3) := by decide +kernel
theorem dX5_readClause_99 : decode cX5_readClause 99 = .ok (.aload_n 0, 1) := by decide +kernel
theorem dX5_readClause_100 : decode cX5_readClause 100 = .ok (.getfield 40, 3) := by decide +kernel
theorem dX5_readClause_103 : decode cX5_readClause 103 = .ok (.iconst (-1), 1) := by decide +kernel
theorem dX5_readClause_104 : decode cX5_readClause 104 = .ok (.if_icmp .eq 7, 3) := by decide +kernel
theorem dX5_readClause_107 : decode cX5_readClause 107 = .ok (.iconst 1, 1) := by decide +kernel
theorem dX5_readClause_108 : decode cX5_readClause 108 = .ok (.goto 4, 3) := by decide +kernel
theorem dX5_readClause_111 : decode cX5_readClause 111 = .ok (.iconst 0, 1) := by decide +kernel
theorem dX5_readClause_112 : decode cX5_readClause 112 = .ok (.ireturn, 1) := by decide +kernel
theorem dX5_readClause_113 : decode cX5_readClause 113 = .ok (.aload_n 0, 1) := by decide +kernel
theorem dX5_readClause_114 : decode cX5_readClause 114 = .ok (.aload_n 2, 1) := by decide +kernel
theorem dX5_readClause_115 : decode cX5_readClause 115 = .ok (.iconst 0, 1) := by decide +kernel
theorem dX5_readClause_116 : decode cX5_readClause 116 = .ok (.bipush 9, 2) := by decide +kernel
theorem dX5_readClause_118 : decode cX5_readClause 118 = .ok (.invokevirtual 111, 3) := by decide +kernel
theorem dX5_readClause_121 : decode cX5_readClause 121 = .ok (.putfield 43, 3) := by decide +kernel
theorem dX5_readClause_124 : decode cX5_readClause 124 = .ok (.aload_n 0, 1) := by decide +kernel
theorem dX5_readClause_125 : decode cX5_readClause 125 = .ok (.getfield 43, 3) := by decide +kernel
theorem dX5_readClause_128 : decode cX5_readClause 128 = .ok (.iconst (-1), 1) := by decide +kernel
theorem dX5_readClause_129 : decode cX5_readClause 129 = .ok (.if_icmp .eq 7, 3) := by decide +kernel
theorem dX5_readClause_132 : decode cX5_readClause 132 = .ok (.iconst 1, 1) := by decide +kernel
theorem dX5_readClause_133 : decode cX5_readClause 133 = .ok (.goto 4, 3) := by decide +kernel
theorem dX5_readClause_136 : decode cX5_readClause 136 = .ok (.iconst 0, 1) := by decide +kernel
theorem dX5_readClause_137 : decode cX5_readClause 137 = .ok (.ireturn, 1) := by decide +kernel
theorem dX5_readClause_138 : decode cX5_readClause 138 = .ok (.aload_n 0, 1) := by decide +kernel
theorem dX5_readClause_139 : decode cX5_readClause 139 = .ok (.aload_n 2, 1) := by decide +kernel
theorem dX5_readClause_140 : decode cX5_readClause 140 = .ok (.invokevirtual 125, 3) := by decide +kernel
theorem dX5_readClause_143 : decode cX5_readClause 143 = .ok (.ireturn, 1) := by decide +kernel
theorem dX5_readClause_144 : decode cX5_readClause 144 = .ok (.aload_n 0, 1) := by decide +kernel
theorem dX5_readClause_145 : decode cX5_readClause 145 = .ok (.aload_n 2, 1) := by decide +kernel
theorem dX5_readClause_146 : decode cX5_readClause 146 = .ok (.invokevirtual 128, 3) := by decide +kernel
theorem dX5_readClause_149 : decode cX5_readClause 149 = .ok (.ireturn, 1) := by decide +kernel
theorem dX5_readBend_0 : decode cX5_readBend 0 = .ok (.aload_n 1, 1) := by decide +kernel
theorem dX5_readBend_1 : decode cX5_readBend 1 = .ok (.iconst 0, 1) := by decide +kernel
theorem dX5_readBend_2 : decode cX5_readBend 2 = .ok (.aload_n 0, 1) := by decide +kernel
theorem dX5_readBend_3 : decode cX5_readBend 3 = .ok (.getfield 9, 3) := by decide +kernel
theorem dX5_readBend_6 : decode cX5_readBend 6 = .ok (.iconst 1, 1) := by decide +kernel
theorem dX5_readBend_7 : decode cX5_readBend 7 = .ok (.isub, 1) := by decide +kernel
theorem dX5_readBend_8 : decode cX5_readBend 8 = .ok (.invokevirtual 111, 3) := by decide +kernel
theorem dX5_readBend_11 : decode cX5_readBend 11 = .ok (.istore_n 2, 1) := by decide +kernel
theorem dX5_readBend_12 : decode cX5_readBend 12 = .ok (.iload_n 2, 1) := by decide +kernel
theorem dX5_readBend_13 : decode cX5_readBend 13 = .ok (.iconst (-1), 1) := by decide +kernel
theorem dX5_readBend_14 : decode cX5_readBend 14 = .ok (.if_icmp .ne 5, 3) := by decide +kernel
theorem dX5_readBend_17 : decode cX5_readBend 17 = .ok (.iconst 0, 1) := by decide +kernel
theorem dX5_readBend_18 : decode cX5_readBend 18 = .ok (.ireturn, 1) := by decide +kernel
theorem dX5_readBend_19 : decode cX5_readBend 19 = .ok (.aload_n 0, 1) := by decide +kernel
theorem dX5_readBend_20 : decode cX5_readBend 20 = .ok (.dup, 1) := by decide +kernel
theorem dX5_readBend_21 : decode cX5_readBend 21 = .ok (.getfield 22, 3) := by decide +kernel
theorem dX5_readBend_24 : decode cX5_readBend 24 = .ok (.iconst 1, 1) := by decide +kernel
theorem dX5_readBend_25 : decode cX5_readBend 25 = .ok (.iadd, 1) := by decide +kernel
theorem dX5_readBend_26 : decode cX5_readBend 26 = .ok (.putfield 22, 3) := by decide +kernel
theorem dX5_readBend_29 : decode cX5_readBend 29 = .ok (.iconst 0, 1) := by decide +kernel
theorem dX5_readBend_30 : decode cX5_readBend 30 = .ok (.istore_n 3, 1) := by decide +kernel
theorem dX5_readBend_31 : decode cX5_readBend 31 = .ok (.iload_n 3, 1) := by decide +kernel
theorem dX5_readBend_32 : decode cX5_readBend 32 = .ok (.aload_n 0, 1) := by decide +kernel
theorem dX5_readBend_33 : decode cX5_readBend 33 = .ok (.getfield 19, 3) := by decide +kernel
theorem dX5_readBend_36 : decode cX5_readBend 36 = .ok (.if_icmp .ge 21, 3) := by decide +kernel
theorem dX5_readBend_39 : decode cX5_readBend 39 = .ok (.aload_n 0, 1) := by decide +kernel
theorem dX5_readBend_40 : decode cX5_readBend 40 = .ok (.getfield 15, 3) := by decide +kernel
theorem dX5_readBend_43 : decode cX5_readBend 43 = .ok (.iload_n 3, 1) := by decide +kernel
theorem dX5_readBend_44 : decode cX5_readBend 44 = .ok (.iaload, 1) := by decide +kernel
theorem dX5_readBend_45 : decode cX5_readBend 45 = .ok (.iload_n 2, 1) := by decide +kernel
theorem dX5_readBend_46 : decode cX5_readBend 46 = .ok (.if_icmp .ne 5, 3) := by decide +kernel
theorem dX5_readBend_49 : decode cX5_readBend 49 = .ok (.iconst 1, 1) := by decide +kernel
theorem dX5_readBend_50 : decode cX5_readBend 50 = .ok (.ireturn, 1) := by decide +kernel
theorem dX5_readBend_51 : decode cX5_readBend 51 = .ok (.iinc 3 1, 3) := by decide +kernel
theorem dX5_readBend_54 : decode cX5_readBend 54 = .ok (.goto (-23), 3) := by decide +kernel
theorem dX5_readBend_57 : decode cX5_readBend 57 = .ok (.aload_n 0, 1) := by decide +kernel
theorem dX5_readBend_58 : decode cX5_readBend 58 = .ok (.getfield 19, 3) := by decide +kernel
theorem dX5_readBend_61 : decode cX5_readBend 61 = .ok (.bipush 6, 2) := by decide +kernel
theorem dX5_readBend_63 : decode cX5_readBend 63 = .ok (.if_icmp .ge 23, 3) := by decide +kernel
theorem dX5_readBend_66 : decode cX5_readBend 66 = .ok (.aload_n 0, 1) := by decide +kernel
theorem dX5_readBend_67 : decode cX5_readBend 67 = .ok (.getfield 15, 3) := by decide +kernel
theorem dX5_readBend_70 : decode cX5_readBend 70 = .ok (.aload_n 0, 1) := by decide +kernel
theorem dX5_readBend_71 : decode cX5_readBend 71 = .ok (.getfield 19, 3) := by decide +kernel
theorem dX5_readBend_74 : decode cX5_readBend 74 = .ok (.iload_n 2, 1) := by decide +kernel
theorem dX5_readBend_75 : decode cX5_readBend 75 = .ok (.iastore, 1) := by decide +kernel
theorem dX5_readBend_76 : decode cX5_readBend 76 = .ok (.aload_n 0, 1) := by decide +kernel
theorem dX5_readBend_77 : decode cX5_readBend 77 = .ok (.dup, 1) := by decide +kernel
theorem dX5_readBend_78 : decode cX5_readBend 78 = .ok (.getfield 19, 3) := by decide +kernel
theorem dX5_readBend_81 : decode cX5_readBend 81 = .ok (.iconst 1, 1) := by decide +kernel
theorem dX5_readBend_82 : decode cX5_readBend 82 = .ok (.iadd, 1) := by decide +kernel
theorem dX5_readBend_83 : decode cX5_readBend 83 = .ok (.putfield 19, 3) := by decide +kernel
theorem dX5_readBend_86 : decode cX5_readBend 86 = .ok (.iconst 1, 1) := by decide +kernel
theorem dX5_readBend_87 : decode cX5_readBend 87 = .ok (.ireturn, 1) := by decide +kernel
theorem dX5_readWet_0 : decode cX5_readWet 0 = .ok (.aload_n 1, 1) := by decide +kernel
theorem dX5_readWet_1 : decode cX5_readWet 1 = .ok (.iconst 0, 1) := by decide +kernel
theorem dX5_readWet_2 : decode cX5_readWet 2 = .ok (.aload_n 0, 1) := by decide +kernel
theorem dX5_readWet_3 : decode cX5_readWet 3 = .ok (.getfield 9, 3) := by decide +kernel
theorem dX5_readWet_6 : decode cX5_readWet 6 = .ok (.iconst 1, 1) := by decide +kernel
theorem dX5_readWet_7 : decode cX5_readWet 7 = .ok (.isub, 1) := by decide +kernel
theorem dX5_readWet_8 : decode cX5_readWet 8 = .ok (.invokevirtual 111, 3) := by decide +kernel
theorem dX5_readWet_11 : decode cX5_readWet 11 = .ok (.istore_n 2, 1) := by decide +kernel
theorem dX5_readWet_12 : decode cX5_readWet 12 = .ok (.iload_n 2, 1) := by decide +kernel
theorem dX5_readWet_13 : decode cX5_readWet 13 = .ok (.iconst (-1), 1) := by decide +kernel
theorem dX5_readWet_14 : decode cX5_readWet 14 = .ok (.if_icmp .ne 5, 3) := by decide +kernel
theorem dX5_readWet_17 : decode cX5_readWet 17 = .ok (.iconst 0, 1) := by decide +kernel
theorem dX5_readWet_18 : decode cX5_readWet 18 = .ok (.ireturn, 1) := by decide +kernel
theorem dX5_readWet_19 : decode cX5_readWet 19 = .ok (.aload_n 1, 1) := by decide +kernel
theorem dX5_readWet_20 : decode cX5_readWet 20 = .ok (.iload_n 2, 1) := by decide +kernel
theorem dX5_readWet_21 : decode cX5_readWet 21 = .ok (.aload_n 0, 1) := by decide +kernel
theorem dX5_readWet_22 : decode cX5_readWet 22 = .ok (.getfield 9, 3) := by decide +kernel
theorem dX5_readWet_25 : decode cX5_readWet 25 = .ok (.iconst 1, 1) := by decide +kernel
theorem dX5_readWet_26 : decode cX5_readWet 26 = .ok (.isub, 1) := by decide +kernel
theorem dX5_readWet_27 : decode cX5_readWet 27 = .ok (.invokevirtual 111, 3) := by decide +kernel
theorem dX5_readWet_30 : decode cX5_readWet 30 = .ok (.istore_n 3, 1) := by decide +kernel
theorem dX5_readWet_31 : decode cX5_readWet 31 = .ok (.iload_n 3, 1) := by decide +kernel
theorem dX5_readWet_32 : decode cX5_readWet 32 = .ok (.iconst (-1), 1) := by decide +kernel
theorem dX5_readWet_33 : decode cX5_readWet 33 = .ok (.if_icmp .ne 5, 3) := by decide +kernel
theorem dX5_readWet_36 : decode cX5_readWet 36 = .ok (.iconst 0, 1) := by decide +kernel
theorem dX5_readWet_37 : decode cX5_readWet 37 = .ok (.ireturn, 1) := by decide +kernel
theorem dX5_readWet_38 : decode cX5_readWet 38 = .ok (.iload_n 2, 1) := by decide +kernel
theorem dX5_readWet_39 : decode cX5_readWet 39 = .ok (.istore 4, 2) := by decide +kernel
theorem dX5_readWet_41 : decode cX5_readWet 41 = .ok (.iload 4, 2) := by decide +kernel
theorem dX5_readWet_43 : decode cX5_readWet 43 = .ok (.iload_n 3, 1) := by decide +kernel
theorem dX5_readWet_44 : decode cX5_readWet 44 = .ok (.if_icmp .gt 24, 3) := by decide +kernel
theorem dX5_readWet_47 : decode cX5_readWet 47 = .ok (.iload 4, 2) := by decide +kernel
theorem dX5_readWet_49 : decode cX5_readWet 49 = .ok (.bipush 60, 2) := by decide +kernel
theorem dX5_readWet_51 : decode cX5_readWet 51 = .ok (.if_icmp .ge 17, 3) := by decide +kernel
theorem dX5_readWet_54 : decode cX5_readWet 54 = .ok (.aload_n 0, 1) := by decide +kernel
theorem dX5_readWet_55 : decode cX5_readWet 55 = .ok (.getfield 25, 3) := by decide +kernel
theorem dX5_readWet_58 : decode cX5_readWet 58 = .ok (.iload 4, 2) := by decide +kernel
theorem dX5_readWet_60 : decode cX5_readWet 60 = .ok (.iconst 1, 1) := by decide +kernel
theorem dX5_readWet_61 : decode cX5_readWet 61 = .ok (.iastore, 1) := by decide +kernel
theorem dX5_readWet_62 : decode cX5_readWet 62 = .ok (.iinc 4 1, 3) := by decide +kernel
theorem dX5_readWet_65 : decode cX5_readWet 65 = .ok (.goto (-24), 3) := by decide +kernel
theorem dX5_readWet_68 : decode cX5_readWet 68 = .ok (.aload_n 0, 1) := by decide +kernel
theorem dX5_readWet_69 : decode cX5_readWet 69 = .ok (.dup, 1) := by decide +kernel
theorem dX5_readWet_70 : decode cX5_readWet 70 = .ok (.getfield 28, 3) := by decide +kernel
theorem dX5_readWet_73 : decode cX5_readWet 73 = .ok (.iconst 1, 1) := by decide +kernel
theorem dX5_readWet_74 : decode cX5_readWet 74 = .ok (.iadd, 1) := by decide +kernel
theorem dX5_readWet_75 : decode cX5_readWet 75 = .ok (.putfield 28, 3) := by decide +kernel
theorem dX5_readWet_78 : decode cX5_readWet 78 = .ok (.iconst 1, 1) := by decide +kernel
theorem dX5_readWet_79 : decode cX5_readWet 79 = .ok (.ireturn, 1) := by decide +kernel
theorem dX5_readCoat_0 : decode cX5_readCoat 0 = .ok (.aload_n 1, 1) := by decide +kernel
theorem dX5_readCoat_1 : decode cX5_readCoat 1 = .ok (.iconst 0, 1) := by decide +kernel
theorem dX5_readCoat_2 : decode cX5_readCoat 2 = .ok (.aload_n 0, 1) := by decide +kernel
theorem dX5_readCoat_3 : decode cX5_readCoat 3 = .ok (.getfield 9, 3) := by decide +kernel
theorem dX5_readCoat_6 : decode cX5_readCoat 6 = .ok (.iconst 1, 1) := by decide +kernel
theorem dX5_readCoat_7 : decode cX5_readCoat 7 = .ok (.isub, 1) := by decide +kernel
theorem dX5_readCoat_8 : decode cX5_readCoat 8 = .ok (.invokevirtual 111, 3) := by decide +kernel
theorem dX5_readCoat_11 : decode cX5_readCoat 11 = .ok (.istore_n 2, 1) := by decide +kernel
theorem dX5_readCoat_12 : decode cX5_readCoat 12 = .ok (.iload_n 2, 1) := by decide +kernel
theorem dX5_readCoat_13 : decode cX5_readCoat 13 = .ok (.iconst (-1), 1) := by decide +kernel
theorem dX5_readCoat_14 : decode cX5_readCoat 14 = .ok (.if_icmp .ne 5, 3) := by decide +kernel
theorem dX5_readCoat_17 : decode cX5_readCoat 17 = .ok (.iconst 0, 1) := by decide +kernel
theorem dX5_readCoat_18 : decode cX5_readCoat 18 = .ok (.ireturn, 1) := by decide +kernel
theorem dX5_readCoat_19 : decode cX5_readCoat 19 = .ok (.aload_n 1, 1) := by decide +kernel
theorem dX5_readCoat_20 : decode cX5_readCoat 20 = .ok (.iconst 0, 1) := by decide +kernel
theorem dX5_readCoat_21 : decode cX5_readCoat 21 = .ok (.bipush 9, 2) := by decide +kernel
theorem dX5_readCoat_23 : decode cX5_readCoat 23 = .ok (.invokevirtual 111, 3) := by decide +kernel
theorem dX5_readCoat_26 : decode cX5_readCoat 26 = .ok (.istore_n 3, 1) := by decide +kernel
theorem dX5_readCoat_27 : decode cX5_readCoat 27 = .ok (.iload_n 3, 1) := by decide +kernel
theorem dX5_readCoat_28 : decode cX5_readCoat 28 = .ok (.iconst (-1), 1) := by decide +kernel
theorem dX5_readCoat_29 : decode cX5_readCoat 29 = .ok (.if_icmp .eq 12, 3) := by decide +kernel
theorem dX5_readCoat_32 : decode cX5_readCoat 32 = .ok (.aload_n 0, 1) := by decide +kernel
theorem dX5_readCoat_33 : decode cX5_readCoat 33 = .ok (.getfield 37, 3) := by decide +kernel
theorem dX5_readCoat_36 : decode cX5_readCoat 36 = .ok (.bipush 10, 2) := by decide +kernel
theorem dX5_readCoat_38 : decode cX5_readCoat 38 = .ok (.if_icmp .lt 5, 3) := by decide +kernel
theorem dX5_readCoat_41 : decode cX5_readCoat 41 = .ok (.iconst 0, 1) := by decide +kernel
theorem dX5_readCoat_42 : decode cX5_readCoat 42 = .ok (.ireturn, 1) := by decide +kernel
theorem dX5_readCoat_43 : decode cX5_readCoat 43 = .ok (.aload_n 0, 1) := by decide +kernel
theorem dX5_readCoat_44 : decode cX5_readCoat 44 = .ok (.getfield 31, 3) := by decide +kernel
theorem dX5_readCoat_47 : decode cX5_readCoat 47 = .ok (.aload_n 0, 1) := by decide +kernel
theorem dX5_readCoat_48 : decode cX5_readCoat 48 = .ok (.getfield 37, 3) := by decide +kernel
theorem dX5_readCoat_51 : decode cX5_readCoat 51 = .ok (.iload_n 2, 1) := by decide +kernel
theorem dX5_readCoat_52 : decode cX5_readCoat 52 = .ok (.iastore, 1) := by decide +kernel
theorem dX5_readCoat_53 : decode cX5_readCoat 53 = .ok (.aload_n 0, 1) := by decide +kernel
theorem dX5_readCoat_54 : decode cX5_readCoat 54 = .ok (.getfield 34, 3) := by decide +kernel
theorem dX5_readCoat_57 : decode cX5_readCoat 57 = .ok (.aload_n 0, 1) := by decide +kernel
theorem dX5_readCoat_58 : decode cX5_readCoat 58 = .ok (.getfield 37, 3) := by decide +kernel
theorem dX5_readCoat_61 : decode cX5_readCoat 61 = .ok (.iload_n 3, 1) := by decide +kernel
theorem dX5_readCoat_62 : decode cX5_readCoat 62 = .ok (.iastore, 1) := by decide +kernel
theorem dX5_readCoat_63 : decode cX5_readCoat 63 = .ok (.aload_n 0, 1) := by decide +kernel
theorem dX5_readCoat_64 : decode cX5_readCoat 64 = .ok (.dup, 1) := by decide +kernel
theorem dX5_readCoat_65 : decode cX5_readCoat 65 = .ok (.getfield 37, 3) := by decide +kernel
theorem dX5_readCoat_68 : decode cX5_readCoat 68 = .ok (.iconst 1, 1) := by decide +kernel
theorem dX5_readCoat_69 : decode cX5_readCoat 69 = .ok (.iadd, 1) := by decide +kernel
theorem dX5_readCoat_70 : decode cX5_readCoat 70 = .ok (.putfield 37, 3) := by decide +kernel
theorem dX5_readCoat_73 : decode cX5_readCoat 73 = .ok (.iconst 1, 1) := by decide +kernel
theorem dX5_readCoat_74 : decode cX5_readCoat 74 = .ok (.ireturn, 1) := by decide +kernel
theorem dX5_readReach_0 : decode cX5_readReach 0 = .ok (.aload_n 0, 1) := by decide +kernel
theorem dX5_readReach_1 : decode cX5_readReach 1 = .ok (.aload_n 1, 1) := by decide +kernel
theorem dX5_readReach_2 : decode cX5_readReach 2 = .ok (.iconst 1, 1) := by decide +kernel
theorem dX5_readReach_3 : decode cX5_readReach 3 = .ok (.bipush 40, 2) := by decide +kernel
theorem dX5_readReach_5 : decode cX5_readReach 5 = .ok (.invokevirtual 111, 3) := by decide +kernel
theorem dX5_readReach_8 : decode cX5_readReach 8 = .ok (.putfield 46, 3) := by decide +kernel
theorem dX5_readReach_11 : decode cX5_readReach 11 = .ok (.aload_n 0, 1) := by decide +kernel
theorem dX5_readReach_12 : decode cX5_readReach 12 = .ok (.getfield 46, 3) := by decide +kernel
theorem dX5_readReach_15 : decode cX5_readReach 15 = .ok (.iconst (-1), 1) := by decide +kernel
theorem dX5_readReach_16 : decode cX5_readReach 16 = .ok (.if_icmp .ne 5, 3) := by decide +kernel
theorem dX5_readReach_19 : decode cX5_readReach 19 = .ok (.iconst 0, 1) := by decide +kernel
theorem dX5_readReach_20 : decode cX5_readReach 20 = .ok (.ireturn, 1) := by decide +kernel
theorem dX5_readReach_21 : decode cX5_readReach 21 = .ok (.aload_n 0, 1) := by decide +kernel
theorem dX5_readReach_22 : decode cX5_readReach 22 = .ok (.aload_n 1, 1) := by decide +kernel
theorem dX5_readReach_23 : decode cX5_readReach 23 = .ok (.iconst 1, 1) := by decide +kernel
theorem dX5_readReach_24 : decode cX5_readReach 24 = .ok (.bipush 20, 2) := by decide +kernel
theorem dX5_readReach_26 : decode cX5_readReach 26 = .ok (.invokevirtual 111, 3) := by decide +kernel
theorem dX5_readReach_29 : decode cX5_readReach 29 = .ok (.putfield 49, 3) := by decide +kernel
theorem dX5_readReach_32 : decode cX5_readReach 32 = .ok (.aload_n 0, 1) := by decide +kernel
theorem dX5_readReach_33 : decode cX5_readReach 33 = .ok (.getfield 49, 3) := by decide +kernel
theorem dX5_readReach_36 : decode cX5_readReach 36 = .ok (.iconst (-1), 1) := by decide +kernel
theorem dX5_readReach_37 : decode cX5_readReach 37 = .ok (.if_icmp .eq 7, 3) := by decide +kernel
theorem dX5_readReach_40 : decode cX5_readReach 40 = .ok (.iconst 1, 1) := by decide +kernel
theorem dX5_readReach_41 : decode cX5_readReach 41 = .ok (.goto 4, 3) := by decide +kernel
theorem dX5_readReach_44 : decode cX5_readReach 44 = .ok (.iconst 0, 1) := by decide +kernel
theorem dX5_readReach_45 : decode cX5_readReach 45 = .ok (.ireturn, 1) := by decide +kernel
theorem dX5_readCar_0 : decode cX5_readCar 0 = .ok (.aload_n 1, 1) := by decide +kernel
theorem dX5_readCar_1 : decode cX5_readCar 1 = .ok (.bipush 17, 2) := by decide +kernel
theorem dX5_readCar_3 : decode cX5_readCar 3 = .ok (.bipush 99, 2) := by decide +kernel
theorem dX5_readCar_5 : decode cX5_readCar 5 = .ok (.invokevirtual 111, 3) := by decide +kernel
theorem dX5_readCar_8 : decode cX5_readCar 8 = .ok (.istore_n 2, 1) := by decide +kernel
theorem dX5_readCar_9 : decode cX5_readCar 9 = .ok (.iload_n 2, 1) := by decide +kernel
theorem dX5_readCar_10 : decode cX5_readCar 10 = .ok (.iconst (-1), 1) := by decide +kernel
theorem dX5_readCar_11 : decode cX5_readCar 11 = .ok (.if_icmp .ne 5, 3) := by decide +kernel
theorem dX5_readCar_14 : decode cX5_readCar 14 = .ok (.iconst 0, 1) := by decide +kernel
theorem dX5_readCar_15 : decode cX5_readCar 15 = .ok (.ireturn, 1) := by decide +kernel
theorem dX5_readCar_16 : decode cX5_readCar 16 = .ok (.aload_n 1, 1) := by decide +kernel
theorem dX5_readCar_17 : decode cX5_readCar 17 = .ok (.iconst 1, 1) := by decide +kernel
theorem dX5_readCar_18 : decode cX5_readCar 18 = .ok (.iconst 3, 1) := by decide +kernel
theorem dX5_readCar_19 : decode cX5_readCar 19 = .ok (.invokevirtual 111, 3) := by decide +kernel
theorem dX5_readCar_22 : decode cX5_readCar 22 = .ok (.istore_n 3, 1) := by decide +kernel
theorem dX5_readCar_23 : decode cX5_readCar 23 = .ok (.iload_n 3, 1) := by decide +kernel
theorem dX5_readCar_24 : decode cX5_readCar 24 = .ok (.iconst (-1), 1) := by decide +kernel
theorem dX5_readCar_25 : decode cX5_readCar 25 = .ok (.if_icmp .ne 5, 3) := by decide +kernel
theorem dX5_readCar_28 : decode cX5_readCar 28 = .ok (.iconst 0, 1) := by decide +kernel
theorem dX5_readCar_29 : decode cX5_readCar 29 = .ok (.ireturn, 1) := by decide +kernel
theorem dX5_readCar_30 : decode cX5_readCar 30 = .ok (.aload_n 1, 1) := by decide +kernel
theorem dX5_readCar_31 : decode cX5_readCar 31 = .ok (.iconst 0, 1) := by decide +kernel
theorem dX5_readCar_32 : decode cX5_readCar 32 = .ok (.bipush 9, 2) := by decide +kernel
theorem dX5_readCar_34 : decode cX5_readCar 34 = .ok (.invokevirtual 111, 3) := by decide +kernel
theorem dX5_readCar_37 : decode cX5_readCar 37 = .ok (.istore 4, 2) := by decide +kernel
theorem dX5_readCar_39 : decode cX5_readCar 39 = .ok (.iload 4, 2) := by decide +kernel
theorem dX5_readCar_41 : decode cX5_readCar 41 = .ok (.iconst (-1), 1) := by decide +kernel
theorem dX5_readCar_42 : decode cX5_readCar 42 = .ok (.if_icmp .eq 11, 3) := by decide +kernel
theorem dX5_readCar_45 : decode cX5_readCar 45 = .ok (.aload_n 0, 1) := by decide +kernel
theorem dX5_readCar_46 : decode cX5_readCar 46 = .ok (.getfield 61, 3) := by decide +kernel
theorem dX5_readCar_49 : decode cX5_readCar 49 = .ok (.iconst 2, 1) := by decide +kernel
theorem dX5_readCar_50 : decode cX5_readCar 50 = .ok (.if_icmp .lt 5, 3) := by decide +kernel
theorem dX5_readCar_53 : decode cX5_readCar 53 = .ok (.iconst 0, 1) := by decide +kernel
theorem dX5_readCar_54 : decode cX5_readCar 54 = .ok (.ireturn, 1) := by decide +kernel
theorem dX5_readCar_55 : decode cX5_readCar 55 = .ok (.aload_n 0, 1) := by decide +kernel
theorem dX5_readCar_56 : decode cX5_readCar 56 = .ok (.getfield 52, 3) := by decide +kernel
theorem dX5_readCar_59 : decode cX5_readCar 59 = .ok (.aload_n 0, 1) := by decide +kernel
theorem dX5_readCar_60 : decode cX5_readCar 60 = .ok (.getfield 61, 3) := by decide +kernel
theorem dX5_readCar_63 : decode cX5_readCar 63 = .ok (.iload_n 2, 1) := by decide +kernel
theorem dX5_readCar_64 : decode cX5_readCar 64 = .ok (.iastore, 1) := by decide +kernel
theorem dX5_readCar_65 : decode cX5_readCar 65 = .ok (.aload_n 0, 1) := by decide +kernel
theorem dX5_readCar_66 : decode cX5_readCar 66 = .ok (.getfield 55, 3) := by decide +kernel
theorem dX5_readCar_69 : decode cX5_readCar 69 = .ok (.aload_n 0, 1) := by decide +kernel
theorem dX5_readCar_70 : decode cX5_readCar 70 = .ok (.getfield 61, 3) := by decide +kernel
theorem dX5_readCar_73 : decode cX5_readCar 73 = .ok (.iload_n 3, 1) := by decide +kernel
theorem dX5_readCar_74 : decode cX5_readCar 74 = .ok (.iastore, 1) := by decide +kernel
theorem dX5_readCar_75 : decode cX5_readCar 75 = .ok (.aload_n 0, 1) := by decide +kernel
theorem dX5_readCar_76 : decode cX5_readCar 76 = .ok (.getfield 58, 3) := by decide +kernel
theorem dX5_readCar_79 : decode cX5_readCar 79 = .ok (.aload_n 0, 1) := by decide +kernel
theorem dX5_readCar_80 : decode cX5_readCar 80 = .ok (.getfield 61, 3) := by decide +kernel
theorem dX5_readCar_83 : decode cX5_readCar 83 = .ok (.iload 4, 2) := by decide +kernel
theorem dX5_readCar_85 : decode cX5_readCar 85 = .ok (.iastore, 1) := by decide +kernel
theorem dX5_readCar_86 : decode cX5_readCar 86 = .ok (.aload_n 0, 1) := by decide +kernel
theorem dX5_readCar_87 : decode cX5_readCar 87 = .ok (.dup, 1) := by decide +kernel
theorem dX5_readCar_88 : decode cX5_readCar 88 = .ok (.getfield 61, 3) := by decide +kernel
theorem dX5_readCar_91 : decode cX5_readCar 91 = .ok (.iconst 1, 1) := by decide +kernel
theorem dX5_readCar_92 : decode cX5_readCar 92 = .ok (.iadd, 1) := by decide +kernel
theorem dX5_readCar_93 : decode cX5_readCar 93 = .ok (.putfield 61, 3) := by decide +kernel
theorem dX5_readCar_96 : decode cX5_readCar 96 = .ok (.iconst 1, 1) := by decide +kernel
theorem dX5_readCar_97 : decode cX5_readCar 97 = .ok (.ireturn, 1) := by decide +kernel
theorem dX5_startOf_0 : decode cX5_startOf 0 = .ok (.iload_n 1, 1) := by decide +kernel
theorem dX5_startOf_1 : decode cX5_startOf 1 = .ok (.ifCond .ne 7, 3) := by decide +kernel
theorem dX5_startOf_4 : decode cX5_startOf 4 = .ok (.iconst 0, 1) := by decide +kernel
theorem dX5_startOf_5 : decode cX5_startOf 5 = .ok (.goto 9, 3) := by decide +kernel
theorem dX5_startOf_8 : decode cX5_startOf 8 = .ok (.aload_n 0, 1) := by decide +kernel
theorem dX5_startOf_9 : decode cX5_startOf 9 = .ok (.getfield 9, 3) := by decide +kernel
theorem dX5_startOf_12 : decode cX5_startOf 12 = .ok (.iconst 1, 1) := by decide +kernel
theorem dX5_startOf_13 : decode cX5_startOf 13 = .ok (.isub, 1) := by decide +kernel
theorem dX5_startOf_14 : decode cX5_startOf 14 = .ok (.ireturn, 1) := by decide +kernel
theorem dX5_has_0 : decode cX5_has 0 = .ok (.iload_n 1, 1) := by decide +kernel
theorem dX5_has_1 : decode cX5_has 1 = .ok (.ifCond .lt 15, 3) := by decide +kernel
theorem dX5_has_4 : decode cX5_has 4 = .ok (.iload_n 1, 1) := by decide +kernel
theorem dX5_has_5 : decode cX5_has 5 = .ok (.aload_n 0, 1) := by decide +kernel
theorem dX5_has_6 : decode cX5_has 6 = .ok (.getfield 9, 3) := by decide +kernel
theorem dX5_has_9 : decode cX5_has 9 = .ok (.if_icmp .ge 7, 3) := by decide +kernel
theorem dX5_has_12 : decode cX5_has 12 = .ok (.iconst 1, 1) := by decide +kernel
theorem dX5_has_13 : decode cX5_has 13 = .ok (.goto 4, 3) := by decide +kernel
theorem dX5_has_16 : decode cX5_has 16 = .ok (.iconst 0, 1) := by decide +kernel
theorem dX5_has_17 : decode cX5_has 17 = .ok (.ireturn, 1) := by decide +kernel
theorem dX5_wetAt_0 : decode cX5_wetAt 0 = .ok (.aload_n 0, 1) := by decide +kernel
theorem dX5_wetAt_1 : decode cX5_wetAt 1 = .ok (.iload_n 1, 1) := by decide +kernel
theorem dX5_wetAt_2 : decode cX5_wetAt 2 = .ok (.invokevirtual 131, 3) := by decide +kernel
theorem dX5_wetAt_5 : decode cX5_wetAt 5 = .ok (.ifCond .eq 18, 3) := by decide +kernel
theorem dX5_wetAt_8 : decode cX5_wetAt 8 = .ok (.iload_n 1, 1) := by decide +kernel
theorem dX5_wetAt_9 : decode cX5_wetAt 9 = .ok (.bipush 60, 2) := by decide +kernel
theorem dX5_wetAt_11 : decode cX5_wetAt 11 = .ok (.if_icmp .ge 12, 3) := by decide +kernel
theorem dX5_wetAt_14 : decode cX5_wetAt 14 = .ok (.aload_n 0, 1) := by decide +kernel
theorem dX5_wetAt_15 : decode cX5_wetAt 15 = .ok (.getfield 25, 3) := by decide +kernel
theorem dX5_wetAt_18 : decode cX5_wetAt 18 = .ok (.iload_n 1, 1) := by decide +kernel
theorem dX5_wetAt_19 : decode cX5_wetAt 19 = .ok (.iaload, 1) := by decide +kernel
theorem dX5_wetAt_20 : decode cX5_wetAt 20 = .ok (.goto 4, 3) := by decide +kernel
theorem dX5_wetAt_23 : decode cX5_wetAt 23 = .ok (.iconst 0, 1) := by decide +kernel
theorem dX5_wetAt_24 : decode cX5_wetAt 24 = .ok (.ireturn, 1) := by decide +kernel
theorem dX5_wetCells_0 : decode cX5_wetCells 0 = .ok (.iconst 0, 1) := by decide +kernel
theorem dX5_wetCells_1 : decode cX5_wetCells 1 = .ok (.istore_n 1, 1) := by decide +kernel
theorem dX5_wetCells_2 : decode cX5_wetCells 2 = .ok (.iconst 0, 1) := by decide +kernel
theorem dX5_wetCells_3 : decode cX5_wetCells 3 = .ok (.istore_n 2, 1) := by decide +kernel
theorem dX5_wetCells_4 : decode cX5_wetCells 4 = .ok (.iload_n 2, 1) := by decide +kernel
theorem dX5_wetCells_5 : decode cX5_wetCells 5 = .ok (.bipush 60, 2) := by decide +kernel
theorem dX5_wetCells_7 : decode cX5_wetCells 7 = .ok (.if_icmp .ge 18, 3) := by decide +kernel
theorem dX5_wetCells_10 : decode cX5_wetCells 10 = .ok (.iload_n 1, 1) := by decide +kernel
theorem dX5_wetCells_11 : decode cX5_wetCells 11 = .ok (.aload_n 0, 1) := by decide +kernel
theorem dX5_wetCells_12 : decode cX5_wetCells 12 = .ok (.getfield 25, 3) := by decide +kernel
theorem dX5_wetCells_15 : decode cX5_wetCells 15 = .ok (.iload_n 2, 1) := by decide +kernel
theorem dX5_wetCells_16 : decode cX5_wetCells 16 = .ok (.iaload, 1) := by decide +kernel
theorem dX5_wetCells_17 : decode cX5_wetCells 17 = .ok (.iadd, 1) := by decide +kernel
theorem dX5_wetCells_18 : decode cX5_wetCells 18 = .ok (.istore_n 1, 1) := by decide +kernel
theorem dX5_wetCells_19 : decode cX5_wetCells 19 = .ok (.iinc 2 1, 3) := by decide +kernel
theorem dX5_wetCells_22 : decode cX5_wetCells 22 = .ok (.goto (-18), 3) := by decide +kernel
theorem dX5_wetCells_25 : decode cX5_wetCells 25 = .ok (.iload_n 1, 1) := by decide +kernel
theorem dX5_wetCells_26 : decode cX5_wetCells 26 = .ok (.ireturn, 1) := by decide +kernel
theorem dX5_hides_0 : decode cX5_hides 0 = .ok (.iload_n 1, 1) := by decide +kernel
theorem dX5_hides_1 : decode cX5_hides 1 = .ok (.iload_n 2, 1) := by decide +kernel
theorem dX5_hides_2 : decode cX5_hides 2 = .ok (.invokestatic 134, 3) := by decide +kernel
theorem dX5_hides_5 : decode cX5_hides 5 = .ok (.istore_n 3, 1) := by decide +kernel
theorem dX5_hides_6 : decode cX5_hides 6 = .ok (.iload_n 1, 1) := by decide +kernel
theorem dX5_hides_7 : decode cX5_hides 7 = .ok (.iload_n 2, 1) := by decide +kernel
theorem dX5_hides_8 : decode cX5_hides 8 = .ok (.invokestatic 139, 3) := by decide +kernel
theorem dX5_hides_11 : decode cX5_hides 11 = .ok (.istore 4, 2) := by decide +kernel
theorem dX5_hides_13 : decode cX5_hides 13 = .ok (.iconst 0, 1) := by decide +kernel
theorem dX5_hides_14 : decode cX5_hides 14 = .ok (.istore 5, 2) := by decide +kernel
theorem dX5_hides_16 : decode cX5_hides 16 = .ok (.iload 5, 2) := by decide +kernel
theorem dX5_hides_18 : decode cX5_hides 18 = .ok (.aload_n 0, 1) := by decide +kernel
theorem dX5_hides_19 : decode cX5_hides 19 = .ok (.getfield 19, 3) := by decide +kernel
theorem dX5_hides_22 : decode cX5_hides 22 = .ok (.if_icmp .ge 34, 3) := by decide +kernel
theorem dX5_hides_25 : decode cX5_hides 25 = .ok (.aload_n 0, 1) := by decide +kernel
theorem dX5_hides_26 : decode cX5_hides 26 = .ok (.getfield 15, 3) := by decide +kernel
theorem dX5_hides_29 : decode cX5_hides 29 = .ok (.iload 5, 2) := by decide +kernel
theorem dX5_hides_31 : decode cX5_hides 31 = .ok (.iaload, 1) := by decide +kernel
theorem dX5_hides_32 : decode cX5_hides 32 = .ok (.iload_n 3, 1) := by decide +kernel
theorem dX5_hides_33 : decode cX5_hides 33 = .ok (.if_icmp .le 17, 3) := by decide +kernel
theorem dX5_hides_36 : decode cX5_hides 36 = .ok (.aload_n 0, 1) := by decide +kernel
theorem dX5_hides_37 : decode cX5_hides 37 = .ok (.getfield 15, 3) := by decide +kernel
theorem dX5_hides_40 : decode cX5_hides 40 = .ok (.iload 5, 2) := by decide +kernel
theorem dX5_hides_42 : decode cX5_hides 42 = .ok (.iaload, 1) := by decide +kernel
theorem dX5_hides_43 : decode cX5_hides 43 = .ok (.iload 4, 2) := by decide +kernel
theorem dX5_hides_45 : decode cX5_hides 45 = .ok (.if_icmp .ge 5, 3) := by decide +kernel
theorem dX5_hides_48 : decode cX5_hides 48 = .ok (.iconst 1, 1) := by decide +kernel
theorem dX5_hides_49 : decode cX5_hides 49 = .ok (.ireturn, 1) := by decide +kernel
theorem dX5_hides_50 : decode cX5_hides 50 = .ok (.iinc 5 1, 3) := by decide +kernel
theorem dX5_hides_53 : decode cX5_hides 53 = .ok (.goto (-37), 3) := by decide +kernel
theorem dX5_hides_56 : decode cX5_hides 56 = .ok (.iconst 0, 1) := by decide +kernel
theorem dX5_hides_57 : decode cX5_hides 57 = .ok (.ireturn, 1) := by decide +kernel
theorem dX5_reachBy_0 : decode cX5_reachBy 0 = .ok (.iload_n 1, 1) := by decide +kernel
theorem dX5_reachBy_1 : decode cX5_reachBy 1 = .ok (.iconst 1, 1) := by decide +kernel
theorem dX5_reachBy_2 : decode cX5_reachBy 2 = .ok (.if_icmp .ne 10, 3) := by decide +kernel
theorem dX5_reachBy_5 : decode cX5_reachBy 5 = .ok (.aload_n 0, 1) := by decide +kernel
theorem dX5_reachBy_6 : decode cX5_reachBy 6 = .ok (.getfield 46, 3) := by decide +kernel
theorem dX5_reachBy_9 : decode cX5_reachBy 9 = .ok (.goto 7, 3) := by decide +kernel
theorem dX5_reachBy_12 : decode cX5_reachBy 12 = .ok (.aload_n 0, 1) := by decide +kernel
theorem dX5_reachBy_13 : decode cX5_reachBy 13 = .ok (.getfield 49, 3) := by decide +kernel
theorem dX5_reachBy_16 : decode cX5_reachBy 16 = .ok (.ireturn, 1) := by decide +kernel
theorem dX5_blindFor_0 : decode cX5_blindFor 0 = .ok (.aload_n 0, 1) := by decide +kernel
theorem dX5_blindFor_1 : decode cX5_blindFor 1 = .ok (.getfield 43, 3) := by decide +kernel
theorem dX5_blindFor_4 : decode cX5_blindFor 4 = .ok (.iload_n 1, 1) := by decide +kernel
theorem dX5_blindFor_5 : decode cX5_blindFor 5 = .ok (.bipush 20, 2) := by decide +kernel
theorem dX5_blindFor_7 : decode cX5_blindFor 7 = .ok (.idiv, 1) := by decide +kernel
theorem dX5_blindFor_8 : decode cX5_blindFor 8 = .ok (.iadd, 1) := by decide +kernel
theorem dX5_blindFor_9 : decode cX5_blindFor 9 = .ok (.ireturn, 1) := by decide +kernel
theorem dX5_cellOfDraw_0 : decode cX5_cellOfDraw 0 = .ok (.aload_n 0, 1) := by decide +kernel
theorem dX5_cellOfDraw_1 : decode cX5_cellOfDraw 1 = .ok (.getfield 9, 3) := by decide +kernel
theorem dX5_cellOfDraw_4 : decode cX5_cellOfDraw 4 = .ok (.ifCond .le 12, 3) := by decide +kernel
theorem dX5_cellOfDraw_7 : decode cX5_cellOfDraw 7 = .ok (.iload_n 1, 1) := by decide +kernel
theorem dX5_cellOfDraw_8 : decode cX5_cellOfDraw 8 = .ok (.aload_n 0, 1) := by decide +kernel
theorem dX5_cellOfDraw_9 : decode cX5_cellOfDraw 9 = .ok (.getfield 9, 3) := by decide +kernel
theorem dX5_cellOfDraw_12 : decode cX5_cellOfDraw 12 = .ok (.irem, 1) := by decide +kernel
theorem dX5_cellOfDraw_13 : decode cX5_cellOfDraw 13 = .ok (.goto 4, 3) := by decide +kernel
theorem dX5_cellOfDraw_16 : decode cX5_cellOfDraw 16 = .ok (.iconst 0, 1) := by decide +kernel
theorem dX5_cellOfDraw_17 : decode cX5_cellOfDraw 17 = .ok (.ireturn, 1) := by decide +kernel
theorem dX6_init_0 : decode cX6_init 0 = .ok (.aload_n 0, 1) := by decide +kernel
theorem dX6_init_1 : decode cX6_init 1 = .ok (.invokespecial 3, 3) := by decide +kernel
theorem dX6_init_4 : decode cX6_init 4 = .ok (.aload_n 0, 1) := by decide +kernel
theorem dX6_init_5 : decode cX6_init 5 = .ok (.sipush 600, 3) := by decide +kernel
theorem dX6_init_8 : decode cX6_init 8 = .ok (.newarray .int, 2) := by decide +kernel
theorem dX6_init_10 : decode cX6_init 10 = .ok (.putfield 9, 3) := by decide +kernel
theorem dX6_init_13 : decode cX6_init 13 = .ok (.aload_n 0, 1) := by decide +kernel
theorem dX6_init_14 : decode cX6_init 14 = .ok (.iconst 0, 1) := by decide +kernel
theorem dX6_init_15 : decode cX6_init 15 = .ok (.putfield 15, 3) := by decide +kernel
theorem dX6_init_18 : decode cX6_init 18 = .ok (.aload_n 0, 1) := by decide +kernel
theorem dX6_init_19 : decode cX6_init 19 = .ok (.iconst 0, 1) := by decide +kernel
theorem dX6_init_20 : decode cX6_init 20 = .ok (.putfield 19, 3) := by decide +kernel
theorem dX6_init_23 : decode cX6_init 23 = .ok (.aload_n 0, 1) := by decide +kernel
theorem dX6_init_24 : decode cX6_init 24 = .ok (.iconst 0, 1) := by decide +kernel
theorem dX6_init_25 : decode cX6_init 25 = .ok (.putfield 22, 3) := by decide +kernel
theorem dX6_init_28 : decode cX6_init 28 = .ok (.aload_n 0, 1) := by decide +kernel
theorem dX6_init_29 : decode cX6_init 29 = .ok (.iconst 0, 1) := by decide +kernel
theorem dX6_init_30 : decode cX6_init 30 = .ok (.putfield 25, 3) := by decide +kernel
theorem dX6_init_33 : decode cX6_init 33 = .ok (.aload_n 0, 1) := by decide +kernel
theorem dX6_init_34 : decode cX6_init 34 = .ok (.iconst 0, 1) := by decide +kernel
theorem dX6_init_35 : decode cX6_init 35 = .ok (.putfield 28, 3) := by decide +kernel
theorem dX6_init_38 : decode cX6_init 38 = .ok (.aload_n 0, 1) := by decide +kernel
theorem dX6_init_39 : decode cX6_init 39 = .ok (.iconst 0, 1) := by decide +kernel
theorem dX6_init_40 : decode cX6_init 40 = .ok (.putfield 31, 3) := by decide +kernel
theorem dX6_init_43 : decode cX6_init 43 = .ok (.aload_n 0, 1) := by decide +kernel
theorem dX6_init_44 : decode cX6_init 44 = .ok (.iconst 0, 1) := by decide +kernel
theorem dX6_init_45 : decode cX6_init 45 = .ok (.putfield 34, 3) := by decide +kernel
theorem dX6_init_48 : decode cX6_init 48 = .ok (.aload_n 0, 1) := by decide +kernel
theorem dX6_init_49 : decode cX6_init 49 = .ok (.iconst (-1), 1) := by decide +kernel
theorem dX6_init_50 : decode cX6_init 50 = .ok (.putfield 37, 3) := by decide +kernel
theorem dX6_init_53 : decode cX6_init 53 = .ok (.return_, 1) := by decide +kernel
theorem dX6_put_0 : decode cX6_put 0 = .ok (.bipush 24, 2) := by decide +kernel
theorem dX6_put_2 : decode cX6_put 2 = .ok (.istore_n 2, 1) := by decide +kernel
theorem dX6_put_3 : decode cX6_put 3 = .ok (.iload_n 2, 1) := by decide +kernel
theorem dX6_put_4 : decode cX6_put 4 = .ok (.ifCond .lt 45, 3) := by decide +kernel
theorem dX6_put_7 : decode cX6_put 7 = .ok (.aload_n 0, 1) := by decide +kernel
theorem dX6_put_8 : decode cX6_put 8 = .ok (.getfield 15, 3) := by decide +kernel
theorem dX6_put_11 : decode cX6_put 11 = .ok (.sipush 600, 3) := by decide +kernel
theorem dX6_put_14 : decode cX6_put 14 = .ok (.if_icmp .ge 35, 3) := by decide +kernel
theorem dX6_put_17 : decode cX6_put 17 = .ok (.aload_n 0, 1) := by decide +kernel
theorem dX6_put_18 : decode cX6_put 18 = .ok (.getfield 9, 3) := by decide +kernel
theorem dX6_put_21 : decode cX6_put 21 = .ok (.aload_n 0, 1) := by decide +kernel
theorem dX6_put_22 : decode cX6_put 22 = .ok (.getfield 15, 3) := by decide +kernel
theorem dX6_put_25 : decode cX6_put 25 = .ok (.iload_n 1, 1) := by decide +kernel
theorem dX6_put_26 : decode cX6_put 26 = .ok (.iload_n 2, 1) := by decide +kernel
theorem dX6_put_27 : decode cX6_put 27 = .ok (.iushr, 1) := by decide +kernel
theorem dX6_put_28 : decode cX6_put 28 = .ok (.sipush 255, 3) := by decide +kernel
theorem dX6_put_31 : decode cX6_put 31 = .ok (.iand, 1) := by decide +kernel
theorem dX6_put_32 : decode cX6_put 32 = .ok (.iastore, 1) := by decide +kernel
theorem dX6_put_33 : decode cX6_put 33 = .ok (.aload_n 0, 1) := by decide +kernel
theorem dX6_put_34 : decode cX6_put 34 = .ok (.dup, 1) := by decide +kernel
theorem dX6_put_35 : decode cX6_put 35 = .ok (.getfield 15, 3) := by decide +kernel
theorem dX6_put_38 : decode cX6_put 38 = .ok (.iconst 1, 1) := by decide +kernel
theorem dX6_put_39 : decode cX6_put 39 = .ok (.iadd, 1) := by decide +kernel
theorem dX6_put_40 : decode cX6_put 40 = .ok (.putfield 15, 3) := by decide +kernel
theorem dX6_put_43 : decode cX6_put 43 = .ok (.iinc 2 (-8), 3) := by decide +kernel
theorem dX6_put_46 : decode cX6_put 46 = .ok (.goto (-43), 3) := by decide +kernel
theorem dX6_put_49 : decode cX6_put 49 = .ok (.return_, 1) := by decide +kernel
theorem dX6_beginText_0 : decode cX6_beginText 0 = .ok (.aload_n 0, 1) := by decide +kernel
theorem dX6_beginText_1 : decode cX6_beginText 1 = .ok (.iload_n 1, 1) := by decide +kernel
theorem dX6_beginText_2 : decode cX6_beginText 2 = .ok (.sipush 600, 3) := by decide +kernel
theorem dX6_beginText_5 : decode cX6_beginText 5 = .ok (.invokestatic 40, 3) := by decide +kernel
theorem dX6_beginText_8 : decode cX6_beginText 8 = .ok (.putfield 19, 3) := by decide +kernel
theorem dX6_beginText_11 : decode cX6_beginText 11 = .ok (.aload_n 0, 1) := by decide +kernel
theorem dX6_beginText_12 : decode cX6_beginText 12 = .ok (.iconst 0, 1) := by decide +kernel
theorem dX6_beginText_13 : decode cX6_beginText 13 = .ok (.putfield 15, 3) := by decide +kernel
theorem dX6_beginText_16 : decode cX6_beginText 16 = .ok (.aload_n 0, 1) := by decide +kernel
theorem dX6_beginText_17 : decode cX6_beginText 17 = .ok (.iconst 0, 1) := by decide +kernel
theorem dX6_beginText_18 : decode cX6_beginText 18 = .ok (.putfield 22, 3) := by decide +kernel
theorem dX6_beginText_21 : decode cX6_beginText 21 = .ok (.aload_n 0, 1) := by decide +kernel
theorem dX6_beginText_22 : decode cX6_beginText 22 = .ok (.iconst 0, 1) := by decide +kernel
theorem dX6_beginText_23 : decode cX6_beginText 23 = .ok (.putfield 34, 3) := by decide +kernel
theorem dX6_beginText_26 : decode cX6_beginText 26 = .ok (.aload_n 0, 1) := by decide +kernel
theorem dX6_beginText_27 : decode cX6_beginText 27 = .ok (.iconst (-1), 1) := by decide +kernel
theorem dX6_beginText_28 : decode cX6_beginText 28 = .ok (.putfield 37, 3) := by decide +kernel
theorem dX6_beginText_31 : decode cX6_beginText 31 = .ok (.aload_n 0, 1) := by decide +kernel
theorem dX6_beginText_32 : decode cX6_beginText 32 = .ok (.invokevirtual 46, 3) := by decide +kernel
theorem dX6_beginText_35 : decode cX6_beginText 35 = .ok (.return_, 1) := by decide +kernel
theorem dX6_answerOfFault_0 : decode cX6_answerOfFault 0 = .ok (.aload_n 0, 1) := by decide +kernel
theorem dX6_answerOfFault_1 : decode cX6_answerOfFault 1 = .ok (.getfield 34, 3) := by decide +kernel
theorem dX6_answerOfFault_4 : decode cX6_answerOfFault 4 = .ok (.bipush 10, 2) := by decide +kernel
theorem dX6_answerOfFault_6 : decode cX6_answerOfFault 6 = .ok (.isub, 1) := by decide +kernel
theorem dX6_answerOfFault_7 : decode cX6_answerOfFault 7 = .ok (.ireturn, 1) := by decide +kernel
theorem dX6_fail_0 : decode cX6_fail 0 = .ok (.aload_n 0, 1) := by decide +kernel
theorem dX6_fail_1 : decode cX6_fail 1 = .ok (.getfield 34, 3) := by decide +kernel
theorem dX6_fail_4 : decode cX6_fail 4 = .ok (.ifCond .ne 16, 3) := by decide +kernel
theorem dX6_fail_7 : decode cX6_fail 7 = .ok (.aload_n 0, 1) := by decide +kernel
theorem dX6_fail_8 : decode cX6_fail 8 = .ok (.iload_n 1, 1) := by decide +kernel
theorem dX6_fail_9 : decode cX6_fail 9 = .ok (.putfield 34, 3) := by decide +kernel
theorem dX6_fail_12 : decode cX6_fail 12 = .ok (.aload_n 0, 1) := by decide +kernel
theorem dX6_fail_13 : decode cX6_fail 13 = .ok (.aload_n 0, 1) := by decide +kernel
theorem dX6_fail_14 : decode cX6_fail 14 = .ok (.getfield 25, 3) := by decide +kernel
theorem dX6_fail_17 : decode cX6_fail 17 = .ok (.putfield 37, 3) := by decide +kernel
theorem dX6_fail_20 : decode cX6_fail 20 = .ok (.iconst 0, 1) := by decide +kernel
theorem dX6_fail_21 : decode cX6_fail 21 = .ok (.ireturn, 1) := by decide +kernel
theorem dX6_advance_0 : decode cX6_advance 0 = .ok (.aload_n 0, 1) := by decide +kernel
theorem dX6_advance_1 : decode cX6_advance 1 = .ok (.aload_n 0, 1) := by decide +kernel
theorem dX6_advance_2 : decode cX6_advance 2 = .ok (.getfield 22, 3) := by decide +kernel
theorem dX6_advance_5 : decode cX6_advance 5 = .ok (.putfield 25, 3) := by decide +kernel
theorem dX6_advance_8 : decode cX6_advance 8 = .ok (.aload_n 0, 1) := by decide +kernel
theorem dX6_advance_9 : decode cX6_advance 9 = .ok (.getfield 25, 3) := by decide +kernel
theorem dX6_advance_12 : decode cX6_advance 12 = .ok (.aload_n 0, 1) := by decide +kernel
theorem dX6_advance_13 : decode cX6_advance 13 = .ok (.getfield 19, 3) := by decide +kernel
theorem dX6_advance_16 : decode cX6_advance 16 = .ok (.if_icmp .ge 30, 3) := by decide +kernel
theorem dX6_advance_19 : decode cX6_advance 19 = .ok (.aload_n 0, 1) := by decide +kernel
theorem dX6_advance_20 : decode cX6_advance 20 = .ok (.getfield 9, 3) := by decide +kernel
theorem dX6_advance_23 : decode cX6_advance 23 = .ok (.aload_n 0, 1) := by decide +kernel
theorem dX6_advance_24 : decode cX6_advance 24 = .ok (.getfield 25, 3) := by decide +kernel
theorem dX6_advance_27 : decode cX6_advance 27 = .ok (.iaload, 1) := by decide +kernel
theorem dX6_advance_28 : decode cX6_advance 28 = .ok (.bipush 32, 2) := by decide +kernel
theorem dX6_advance_30 : decode cX6_advance 30 = .ok (.if_icmp .ne 16, 3) := by decide +kernel
theorem dX6_advance_33 : decode cX6_advance 33 = .ok (.aload_n 0, 1) := by decide +kernel
theorem dX6_advance_34 : decode cX6_advance 34 = .ok (.dup, 1) := by decide +kernel
theorem dX6_advance_35 : decode cX6_advance 35 = .ok (.getfield 25, 3) := by decide +kernel
theorem dX6_advance_38 : decode cX6_advance 38 = .ok (.iconst 1, 1) := by decide +kernel
theorem dX6_advance_39 : decode cX6_advance 39 = .ok (.iadd, 1) := by decide +kernel
theorem dX6_advance_40 : decode cX6_advance 40 = .ok (.putfield 25, 3) := by decide +kernel
theorem dX6_advance_43 : decode cX6_advance 43 = .ok (.goto (-35), 3) := by decide +kernel
theorem dX6_advance_46 : decode cX6_advance 46 = .ok (.aload_n 0, 1) := by decide +kernel
theorem dX6_advance_47 : decode cX6_advance 47 = .ok (.aload_n 0, 1) := by decide +kernel
theorem dX6_advance_48 : decode cX6_advance 48 = .ok (.getfield 25, 3) := by decide +kernel
theorem dX6_advance_51 : decode cX6_advance 51 = .ok (.putfield 22, 3) := by decide +kernel
theorem dX6_advance_54 : decode cX6_advance 54 = .ok (.aload_n 0, 1) := by decide +kernel
theorem dX6_advance_55 : decode cX6_advance 55 = .ok (.iconst 0, 1) := by decide +kernel
theorem dX6_advance_56 : decode cX6_advance 56 = .ok (.putfield 31, 3) := by decide +kernel
theorem dX6_advance_59 : decode cX6_advance 59 = .ok (.aload_n 0, 1) := by decide +kernel
theorem dX6_advance_60 : decode cX6_advance 60 = .ok (.aload_n 0, 1) := by decide +kernel
theorem dX6_advance_61 : decode cX6_advance 61 = .ok (.getfield 25, 3) := by decide +kernel
theorem dX6_advance_64 : decode cX6_advance 64 = .ok (.aload_n 0, 1) := by decide +kernel
theorem dX6_advance_65 : decode cX6_advance 65 = .ok (.getfield 19, 3) := by decide +kernel
theorem dX6_advance_68 : decode cX6_advance 68 = .ok (.if_icmp .ge 18, 3) := by decide +kernel
theorem dX6_advance_71 : decode cX6_advance 71 = .ok (.aload_n 0, 1) := by decide +kernel
theorem dX6_advance_72 : decode cX6_advance 72 = .ok (.getfield 9, 3) := by decide +kernel
theorem dX6_advance_75 : decode cX6_advance 75 = .ok (.aload_n 0, 1) := by decide +kernel
theorem dX6_advance_76 : decode cX6_advance 76 = .ok (.getfield 25, 3) := by decide +kernel
theorem dX6_advance_79 : decode cX6_advance 79 = .ok (.iaload, 1) := by decide +kernel
theorem dX6_advance_80 : decode cX6_advance 80 = .ok (.invokestatic 49, 3) := by decide +kernel
theorem dX6_advance_83 : decode cX6_advance 83 = .ok (.goto 4, 3) := by decide +kernel
theorem dX6_advance_86 : decode cX6_advance 86 = .ok (.iconst 0, 1) := by decide +kernel
theorem dX6_advance_87 : decode cX6_advance 87 = .ok (.putfield 28, 3) := by decide +kernel
theorem dX6_advance_90 : decode cX6_advance 90 = .ok (.aload_n 0, 1) := by decide +kernel
theorem dX6_advance_91 : decode cX6_advance 91 = .ok (.getfield 28, 3) := by decide +kernel
theorem dX6_advance_94 : decode cX6_advance 94 = .ok (.iconst 3, 1) := by decide +kernel
theorem dX6_advance_95 : decode cX6_advance 95 = .ok (.if_icmp .ne 14, 3) := by decide +kernel
theorem dX6_advance_98 : decode cX6_advance 98 = .ok (.aload_n 0, 1) := by decide +kernel
theorem dX6_advance_99 : decode cX6_advance 99 = .ok (.dup, 1) := by decide +kernel
theorem dX6_advance_100 : decode cX6_advance 100 = .ok (.getfield 22, 3) := by decide +kernel
theorem dX6_advance_103 : decode cX6_advance 103 = .ok (.iconst 1, 1) := by decide +kernel
theorem dX6_advance_104 : decode cX6_advance 104 = .ok (.iadd, 1) := by decide +kernel
theorem dX6_advance_105 : decode cX6_advance 105 = .ok (.putfield 22, 3) := by decide +kernel
theorem dX6_advance_108 : decode cX6_advance 108 = .ok (.return_, 1) := by decide +kernel
theorem dX6_advance_109 : decode cX6_advance 109 = .ok (.aload_n 0, 1) := by decide +kernel
theorem dX6_advance_110 : decode cX6_advance 110 = .ok (.getfield 22, 3) := by decide +kernel
theorem dX6_advance_113 : decode cX6_advance 113 = .ok (.aload_n 0, 1) := by decide +kernel
theorem dX6_advance_114 : decode cX6_advance 114 = .ok (.getfield 19, 3) := by decide +kernel
theorem dX6_advance_117 : decode cX6_advance 117 = .ok (.if_icmp .ge 76, 3) := by decide +kernel
theorem dX6_advance_120 : decode cX6_advance 120 = .ok (.aload_n 0, 1) := by decide +kernel
theorem dX6_advance_121 : decode cX6_advance 121 = .ok (.getfield 9, 3) := by decide +kernel
theorem dX6_advance_124 : decode cX6_advance 124 = .ok (.aload_n 0, 1) := by decide +kernel
theorem dX6_advance_125 : decode cX6_advance 125 = .ok (.getfield 22, 3) := by decide +kernel
theorem dX6_advance_128 : decode cX6_advance 128 = .ok (.iaload, 1) := by decide +kernel
theorem dX6_advance_129 : decode cX6_advance 129 = .ok (.invokestatic 49, 3) := by decide +kernel
theorem dX6_advance_132 : decode cX6_advance 132 = .ok (.aload_n 0, 1) := by decide +kernel
theorem dX6_advance_133 : decode cX6_advance 133 = .ok (.getfield 28, 3) := by decide +kernel
theorem dX6_advance_136 : decode cX6_advance 136 = .ok (.if_icmp .ne 57, 3) := by decide +kernel
theorem dX6_advance_139 : decode cX6_advance 139 = .ok (.aload_n 0, 1) := by decide +kernel
theorem dX6_advance_140 : decode cX6_advance 140 = .ok (.getfield 28, 3) := by decide +kernel
theorem dX6_advance_143 : decode cX6_advance 143 = .ok (.iconst 1, 1) := by decide +kernel
theorem dX6_advance_144 : decode cX6_advance 144 = .ok (.if_icmp .ne 36, 3) := by decide +kernel
theorem dX6_advance_147 : decode cX6_advance 147 = .ok (.aload_n 0, 1) := by decide +kernel
theorem dX6_advance_148 : decode cX6_advance 148 = .ok (.getfield 31, 3) := by decide +kernel
theorem dX6_advance_151 : decode cX6_advance 151 = .ok (.ldc 53, 2) := by decide +kernel
theorem dX6_advance_153 : decode cX6_advance 153 = .ok (.if_icmp .ge 27, 3) := by decide +kernel
theorem dX6_advance_156 : decode cX6_advance 156 = .ok (.aload_n 0, 1) := by decide +kernel
theorem dX6_advance_157 : decode cX6_advance 157 = .ok (.aload_n 0, 1) := by decide +kernel
theorem dX6_advance_158 : decode cX6_advance 158 = .ok (.getfield 31, 3) := by decide +kernel
theorem dX6_advance_161 : decode cX6_advance 161 = .ok (.bipush 10, 2) := by decide +kernel
theorem dX6_advance_163 : decode cX6_advance 163 = .ok (.imul, 1) := by decide +kernel
theorem dX6_advance_164 : decode cX6_advance 164 = .ok (.aload_n 0, 1) := by decide +kernel
theorem dX6_advance_165 : decode cX6_advance 165 = .ok (.getfield 9, 3) := by decide +kernel
theorem dX6_advance_168 : decode cX6_advance 168 = .ok (.aload_n 0, 1) := by decide +kernel
theorem dX6_advance_169 : decode cX6_advance 169 = .ok (.getfield 22, 3) := by decide +kernel
theorem dX6_advance_172 : decode cX6_advance 172 = .ok (.iaload, 1) := by decide +kernel
theorem dX6_advance_173 : decode cX6_advance 173 = .ok (.iadd, 1) := by decide +kernel
theorem dX6_advance_174 : decode cX6_advance 174 = .ok (.bipush 48, 2) := by decide +kernel
theorem dX6_advance_176 : decode cX6_advance 176 = .ok (.isub, 1) := by decide +kernel
theorem dX6_advance_177 : decode cX6_advance 177 = .ok (.putfield 31, 3) := by decide +kernel
theorem dX6_advance_180 : decode cX6_advance 180 = .ok (.aload_n 0, 1) := by decide +kernel
theorem dX6_advance_181 : decode cX6_advance 181 = .ok (.dup, 1) := by decide +kernel
theorem dX6_advance_182 : decode cX6_advance 182 = .ok (.getfield 22, 3) := by decide +kernel
theorem dX6_advance_185 : decode cX6_advance 185 = .ok (.iconst 1, 1) := by decide +kernel
theorem dX6_advance_186 : decode cX6_advance 186 = .ok (.iadd, 1) := by decide +kernel
theorem dX6_advance_187 : decode cX6_advance 187 = .ok (.putfield 22, 3) := by decide +kernel
theorem dX6_advance_190 : decode cX6_advance 190 = .ok (.goto (-81), 3) := by decide +kernel
theorem dX6_advance_193 : decode cX6_advance 193 = .ok (.return_, 1) := by decide +kernel
theorem dX6_tokenOf_0 : decode cX6_tokenOf 0 = .ok (.iload_n 0, 1) := by decide +kernel
theorem dX6_tokenOf_1 : decode cX6_tokenOf 1 = .ok (.bipush 48, 2) := by decide +kernel
theorem dX6_tokenOf_3 : decode cX6_tokenOf 3 = .ok (.if_icmp .lt 11, 3) := by decide +kernel
theorem dX6_tokenOf_6 : decode cX6_tokenOf 6 = .ok (.iload_n 0, 1) := by decide +kernel
theorem dX6_tokenOf_7 : decode cX6_tokenOf 7 = .ok (.bipush 57, 2) := by decide +kernel
theorem dX6_tokenOf_9 : decode cX6_tokenOf 9 = .ok (.if_icmp .gt 5, 3) := by decide +kernel
theorem dX6_tokenOf_12 : decode cX6_tokenOf 12 = .ok (.iconst 1, 1) := by decide +kernel
theorem dX6_tokenOf_13 : decode cX6_tokenOf 13 = .ok (.ireturn, 1) := by decide +kernel
theorem dX6_tokenOf_14 : decode cX6_tokenOf 14 = .ok (.iload_n 0, 1) := by decide +kernel
theorem dX6_tokenOf_15 : decode cX6_tokenOf 15 = .ok (.bipush 97, 2) := by decide +kernel
theorem dX6_tokenOf_17 : decode cX6_tokenOf 17 = .ok (.if_icmp .lt 13, 3) := by decide +kernel
theorem dX6_tokenOf_20 : decode cX6_tokenOf 20 = .ok (.iload_n 0, 1) := by decide +kernel
theorem dX6_tokenOf_21 : decode cX6_tokenOf 21 = .ok (.bipush 122, 2) := by decide +kernel
theorem dX6_tokenOf_23 : decode cX6_tokenOf 23 = .ok (.if_icmp .gt 7, 3) := by decide +kernel
theorem dX6_tokenOf_26 : decode cX6_tokenOf 26 = .ok (.iconst 2, 1) := by decide +kernel
theorem dX6_tokenOf_27 : decode cX6_tokenOf 27 = .ok (.goto 4, 3) := by decide +kernel
theorem dX6_tokenOf_30 : decode cX6_tokenOf 30 = .ok (.iconst 3, 1) := by decide +kernel
theorem dX6_tokenOf_31 : decode cX6_tokenOf 31 = .ok (.ireturn, 1) := by decide +kernel
theorem dX6_isWord_0 : decode cX6_isWord 0 = .ok (.aload_n 1, 1) := by decide +kernel
theorem dX6_isWord_1 : decode cX6_isWord 1 = .ok (.invokevirtual 54, 3) := by decide +kernel
theorem dX6_isWord_4 : decode cX6_isWord 4 = .ok (.istore_n 2, 1) := by decide +kernel
theorem dX6_isWord_5 : decode cX6_isWord 5 = .ok (.aload_n 0, 1) := by decide +kernel
theorem dX6_isWord_6 : decode cX6_isWord 6 = .ok (.getfield 28, 3) := by decide +kernel
theorem dX6_isWord_9 : decode cX6_isWord 9 = .ok (.iconst 2, 1) := by decide +kernel
theorem dX6_isWord_10 : decode cX6_isWord 10 = .ok (.if_icmp .ne 16, 3) := by decide +kernel
theorem dX6_isWord_13 : decode cX6_isWord 13 = .ok (.aload_n 0, 1) := by decide +kernel
theorem dX6_isWord_14 : decode cX6_isWord 14 = .ok (.getfield 22, 3) := by decide +kernel
theorem dX6_isWord_17 : decode cX6_isWord 17 = .ok (.aload_n 0, 1) := by decide +kernel
theorem dX6_isWord_18 : decode cX6_isWord 18 = .ok (.getfield 25, 3) := by decide +kernel
theorem dX6_isWord_21 : decode cX6_isWord 21 = .ok (.isub, 1) := by decide +kernel
theorem dX6_isWord_22 : decode cX6_isWord 22 = .ok (.iload_n 2, 1) := by decide +kernel
theorem dX6_isWord_23 : decode cX6_isWord 23 = .ok (.if_icmp .eq 5, 3) := by decide +kernel
theorem dX6_isWord_26 : decode cX6_isWord 26 = .ok (.iconst 0, 1) := by decide +kernel
theorem dX6_isWord_27 : decode cX6_isWord 27 = .ok (.ireturn, 1) := by decide +kernel
theorem dX6_isWord_28 : decode cX6_isWord 28 = .ok (.iconst 0, 1) := by decide +kernel
theorem dX6_isWord_29 : decode cX6_isWord 29 = .ok (.istore_n 3, 1) := by decide +kernel
theorem dX6_isWord_30 : decode cX6_isWord 30 = .ok (.iload_n 3, 1) := by decide +kernel
theorem dX6_isWord_31 : decode cX6_isWord 31 = .ok (.iload_n 2, 1) := by decide +kernel
theorem dX6_isWord_32 : decode cX6_isWord 32 = .ok (.if_icmp .ge 30, 3) := by decide +kernel
theorem dX6_isWord_35 : decode cX6_isWord 35 = .ok (.aload_n 0, 1) := by decide +kernel
theorem dX6_isWord_36 : decode cX6_isWord 36 = .ok (.getfield 9, 3) := by decide +kernel
theorem dX6_isWord_39 : decode cX6_isWord 39 = .ok (.aload_n 0, 1) := by decide +kernel
theorem dX6_isWord_40 : decode cX6_isWord 40 = .ok (.getfield 25, 3) := by decide +kernel
theorem dX6_isWord_43 : decode cX6_isWord 43 = .ok (.iload_n 3, 1) := by decide +kernel
theorem dX6_isWord_44 : decode cX6_isWord 44 = .ok (.iadd, 1) := by decide +kernel
theorem dX6_isWord_45 : decode cX6_isWord 45 = .ok (.iaload, 1) := by decide +kernel
theorem dX6_isWord_46 : decode cX6_isWord 46 = .ok (.aload_n 1, 1) := by decide +kernel
theorem dX6_isWord_47 : decode cX6_isWord 47 = .ok (.iload_n 3, 1) := by decide +kernel
theorem dX6_isWord_48 : decode cX6_isWord 48 = .ok (.invokevirtual 59, 3) := by decide +kernel
theorem dX6_isWord_51 : decode cX6_isWord 51 = .ok (.if_icmp .eq 5, 3) := by decide +kernel
theorem dX6_isWord_54 : decode cX6_isWord 54 = .ok (.iconst 0, 1) := by decide +kernel
theorem dX6_isWord_55 : decode cX6_isWord 55 = .ok (.ireturn, 1) := by decide +kernel
theorem dX6_isWord_56 : decode cX6_isWord 56 = .ok (.iinc 3 1, 3) := by decide +kernel
theorem dX6_isWord_59 : decode cX6_isWord 59 = .ok (.goto (-29), 3) := by decide +kernel
theorem dX6_isWord_62 : decode cX6_isWord 62 = .ok (.iconst 1, 1) := by decide +kernel
theorem dX6_isWord_63 : decode cX6_isWord 63 = .ok (.ireturn, 1) := by decide +kernel
theorem dX6_isSign_0 : decode cX6_isSign 0 = .ok (.aload_n 0, 1) := by decide +kernel
theorem dX6_isSign_1 : decode cX6_isSign 1 = .ok (.getfield 28, 3) := by decide +kernel
theorem dX6_isSign_4 : decode cX6_isSign 4 = .ok (.iconst 3, 1) := by decide +kernel
theorem dX6_isSign_5 : decode cX6_isSign 5 = .ok (.if_icmp .ne 20, 3) := by decide +kernel
theorem dX6_isSign_8 : decode cX6_isSign 8 = .ok (.aload_n 0, 1) := by decide +kernel
theorem dX6_isSign_9 : decode cX6_isSign 9 = .ok (.getfield 9, 3) := by decide +kernel
theorem dX6_isSign_12 : decode cX6_isSign 12 = .ok (.aload_n 0, 1) := by decide +kernel
theorem dX6_isSign_13 : decode cX6_isSign 13 = .ok (.getfield 25, 3) := by decide +kernel
theorem dX6_isSign_16 : decode cX6_isSign 16 = .ok (.iaload, 1) := by decide +kernel
theorem dX6_isSign_17 : decode cX6_isSign 17 = .ok (.iload_n 1, 1) := by decide +kernel
theorem dX6_isSign_18 : decode cX6_isSign 18 = .ok (.if_icmp .ne 7, 3) := by decide +kernel
theorem dX6_isSign_21 : decode cX6_isSign 21 = .ok (.iconst 1, 1) := by decide +kernel
theorem dX6_isSign_22 : decode cX6_isSign 22 = .ok (.goto 4, 3) := by decide +kernel
theorem dX6_isSign_25 : decode cX6_isSign 25 = .ok (.iconst 0, 1) := by decide +kernel
theorem dX6_isSign_26 : decode cX6_isSign 26 = .ok (.ireturn, 1) := by decide +kernel
theorem dX6_takeSign_0 : decode cX6_takeSign 0 = .ok (.aload_n 0, 1) := by decide +kernel
theorem dX6_takeSign_1 : decode cX6_takeSign 1 = .ok (.iload_n 1, 1) := by decide +kernel
theorem dX6_takeSign_2 : decode cX6_takeSign 2 = .ok (.invokevirtual 63, 3) := by decide +kernel
theorem dX6_takeSign_5 : decode cX6_takeSign 5 = .ok (.ifCond .ne 9, 3) := by decide +kernel
theorem dX6_takeSign_8 : decode cX6_takeSign 8 = .ok (.aload_n 0, 1) := by decide +kernel
theorem dX6_takeSign_9 : decode cX6_takeSign 9 = .ok (.iconst 1, 1) := by decide +kernel
theorem dX6_takeSign_10 : decode cX6_takeSign 10 = .ok (.invokevirtual 67, 3) := by decide +kernel
theorem dX6_takeSign_13 : decode cX6_takeSign 13 = .ok (.ireturn, 1) := by decide +kernel
theorem dX6_takeSign_14 : decode cX6_takeSign 14 = .ok (.aload_n 0, 1) := by decide +kernel
theorem dX6_takeSign_15 : decode cX6_takeSign 15 = .ok (.invokevirtual 46, 3) := by decide +kernel
theorem dX6_takeSign_18 : decode cX6_takeSign 18 = .ok (.iconst 1, 1) := by decide +kernel
theorem dX6_takeSign_19 : decode cX6_takeSign 19 = .ok (.ireturn, 1) := by decide +kernel
theorem dX6_standsNumber_0 : decode cX6_standsNumber 0 = .ok (.aload_n 0, 1) := by decide +kernel
theorem dX6_standsNumber_1 : decode cX6_standsNumber 1 = .ok (.getfield 28, 3) := by decide +kernel
theorem dX6_standsNumber_4 : decode cX6_standsNumber 4 = .ok (.iconst 1, 1) := by decide +kernel
theorem dX6_standsNumber_5 : decode cX6_standsNumber 5 = .ok (.if_icmp .eq 9, 3) := by decide +kernel
theorem dX6_standsNumber_8 : decode cX6_standsNumber 8 = .ok (.aload_n 0, 1) := by decide +kernel
theorem dX6_standsNumber_9 : decode cX6_standsNumber 9 = .ok (.iconst 1, 1) := by decide +kernel
theorem dX6_standsNumber_10 : decode cX6_standsNumber 10 = .ok (.invokevirtual 67, 3) := by decide +kernel
theorem dX6_standsNumber_13 : decode cX6_standsNumber 13 = .ok (.ireturn, 1) := by decide +kernel
theorem dX6_standsNumber_14 : decode cX6_standsNumber 14 = .ok (.aload_n 0, 1) := by decide +kernel
theorem dX6_standsNumber_15 : decode cX6_standsNumber 15 = .ok (.getfield 31, 3) := by decide +kernel
theorem dX6_standsNumber_18 : decode cX6_standsNumber 18 = .ok (.iload_n 1, 1) := by decide +kernel
theorem dX6_standsNumber_19 : decode cX6_standsNumber 19 = .ok (.if_icmp .lt 11, 3) := by decide +kernel
theorem dX6_standsNumber_22 : decode cX6_standsNumber 22 = .ok (.aload_n 0, 1) := by decide +kernel
theorem dX6_standsNumber_23 : decode cX6_standsNumber 23 = .ok (.getfield 31, 3) := by decide +kernel
theorem dX6_standsNumber_26 : decode cX6_standsNumber 26 = .ok (.iload_n 2, 1) := by decide +kernel
theorem dX6_standsNumber_27 : decode cX6_standsNumber 27 = .ok (.if_icmp .le 11, 3) := by decide +kernel
theorem dX6_standsNumber_30 : decode cX6_standsNumber 30 = .ok (.aload_n 0, 1) := by decide +kernel
theorem dX6_standsNumber_31 : decode cX6_standsNumber 31 = .ok (.iconst 2, 1) := by decide +kernel
theorem dX6_standsNumber_32 : decode cX6_standsNumber 32 = .ok (.invokevirtual 67, 3) := by decide +kernel
theorem dX6_standsNumber_35 : decode cX6_standsNumber 35 = .ok (.ifCond .eq 7, 3) := by decide +kernel
theorem dX6_standsNumber_38 : decode cX6_standsNumber 38 = .ok (.iconst 1, 1) := by decide +kernel
theorem dX6_standsNumber_39 : decode cX6_standsNumber 39 = .ok (.goto 4, 3) := by decide +kernel
theorem dX6_standsNumber_42 : decode cX6_standsNumber 42 = .ok (.iconst 0, 1) := by decide +kernel
theorem dX6_standsNumber_43 : decode cX6_standsNumber 43 = .ok (.ireturn, 1) := by decide +kernel
theorem dX6_takeNumber_0 : decode cX6_takeNumber 0 = .ok (.aload_n 0, 1) := by decide +kernel
theorem dX6_takeNumber_1 : decode cX6_takeNumber 1 = .ok (.iload_n 1, 1) := by decide +kernel
theorem dX6_takeNumber_2 : decode cX6_takeNumber 2 = .ok (.iload_n 2, 1) := by decide +kernel
theorem dX6_takeNumber_3 : decode cX6_takeNumber 3 = .ok (.invokevirtual 71, 3) := by decide +kernel
theorem dX6_takeNumber_6 : decode cX6_takeNumber 6 = .ok (.ifCond .ne 5, 3) := by decide +kernel
theorem dX6_takeNumber_9 : decode cX6_takeNumber 9 = .ok (.iconst (-1), 1) := by decide +kernel
theorem dX6_takeNumber_10 : decode cX6_takeNumber 10 = .ok (.ireturn, 1) := by decide +kernel
theorem dX6_takeNumber_11 : decode cX6_takeNumber 11 = .ok (.aload_n 0, 1) := by decide +kernel
theorem dX6_takeNumber_12 : decode cX6_takeNumber 12 = .ok (.getfield 31, 3) := by decide +kernel
theorem dX6_takeNumber_15 : decode cX6_takeNumber 15 = .ok (.istore_n 3, 1) := by decide +kernel
theorem dX6_takeNumber_16 : decode cX6_takeNumber 16 = .ok (.aload_n 0, 1) := by decide +kernel
theorem dX6_takeNumber_17 : decode cX6_takeNumber 17 = .ok (.invokevirtual 46, 3) := by decide +kernel
theorem dX6_takeNumber_20 : decode cX6_takeNumber 20 = .ok (.iload_n 3, 1) := by decide +kernel
theorem dX6_takeNumber_21 : decode cX6_takeNumber 21 = .ok (.ireturn, 1) := by decide +kernel
theorem dX7_init_0 : decode cX7_init 0 = .ok (.aload_n 0, 1) := by decide +kernel
theorem dX7_init_1 : decode cX7_init 1 = .ok (.invokespecial 3, 3) := by decide +kernel
theorem dX7_init_4 : decode cX7_init 4 = .ok (.aload_n 0, 1) := by decide +kernel
theorem dX7_init_5 : decode cX7_init 5 = .ok (.new 9, 3) := by decide +kernel
theorem dX7_init_8 : decode cX7_init 8 = .ok (.dup, 1) := by decide +kernel
theorem dX7_init_9 : decode cX7_init 9 = .ok (.invokespecial 11, 3) := by decide +kernel
theorem dX7_init_12 : decode cX7_init 12 = .ok (.putfield 12, 3) := by decide +kernel
theorem dX7_init_15 : decode cX7_init 15 = .ok (.aload_n 0, 1) := by decide +kernel
theorem dX7_init_16 : decode cX7_init 16 = .ok (.new 18, 3) := by decide +kernel
theorem dX7_init_19 : decode cX7_init 19 = .ok (.dup, 1) := by decide +kernel
theorem dX7_init_20 : decode cX7_init 20 = .ok (.invokespecial 20, 3) := by decide +kernel
theorem dX7_init_23 : decode cX7_init 23 = .ok (.putfield 21, 3) := by decide +kernel
theorem dX7_init_26 : decode cX7_init 26 = .ok (.aload_n 0, 1) := by decide +kernel
theorem dX7_init_27 : decode cX7_init 27 = .ok (.new 18, 3) := by decide +kernel
theorem dX7_init_30 : decode cX7_init 30 = .ok (.dup, 1) := by decide +kernel
theorem dX7_init_31 : decode cX7_init 31 = .ok (.invokespecial 20, 3) := by decide +kernel
theorem dX7_init_34 : decode cX7_init 34 = .ok (.putfield 25, 3) := by decide +kernel
theorem dX7_init_37 : decode cX7_init 37 = .ok (.aload_n 0, 1) := by decide +kernel
theorem dX7_init_38 : decode cX7_init 38 = .ok (.new 18, 3) := by decide +kernel
theorem dX7_init_41 : decode cX7_init 41 = .ok (.dup, 1) := by decide +kernel
theorem dX7_init_42 : decode cX7_init 42 = .ok (.invokespecial 20, 3) := by decide +kernel
theorem dX7_init_45 : decode cX7_init 45 = .ok (.putfield 28, 3) := by decide +kernel
theorem dX7_init_48 : decode cX7_init 48 = .ok (.aload_n 0, 1) := by decide +kernel
theorem dX7_init_49 : decode cX7_init 49 = .ok (.bipush 12, 2) := by decide +kernel
theorem dX7_init_51 : decode cX7_init 51 = .ok (.newarray .int, 2) := by decide +kernel
theorem dX7_init_53 : decode cX7_init 53 = .ok (.putfield 31, 3) := by decide +kernel
theorem dX7_init_56 : decode cX7_init 56 = .ok (.aload_n 0, 1) := by decide +kernel
theorem dX7_init_57 : decode cX7_init 57 = .ok (.invokevirtual 35, 3) := by decide +kernel
theorem dX7_init_60 : decode cX7_init 60 = .ok (.return_, 1) := by decide +kernel
theorem dX7_forgetFormulas_0 : decode cX7_forgetFormulas 0 = .ok (.aload_n 0, 1) := by decide +kernel
theorem dX7_forgetFormulas_1 : decode cX7_forgetFormulas 1 = .ok (.getfield 21, 3) := by decide +kernel
theorem dX7_forgetFormulas_4 : decode cX7_forgetFormulas 4 = .ok (.invokevirtual 38, 3) := by decide +kernel
theorem dX7_forgetFormulas_7 : decode cX7_forgetFormulas 7 = .ok (.aload_n 0, 1) := by decide +kernel
theorem dX7_forgetFormulas_8 : decode cX7_forgetFormulas 8 = .ok (.getfield 25, 3) := by decide +kernel
theorem dX7_forgetFormulas_11 : decode cX7_forgetFormulas 11 = .ok (.invokevirtual 41, 3) := by decide +kernel
theorem dX7_forgetFormulas_14 : decode cX7_forgetFormulas 14 = .ok (.aload_n 0, 1) := by decide +kernel
theorem dX7_forgetFormulas_15 : decode cX7_forgetFormulas 15 = .ok (.getfield 28, 3) := by decide +kernel
theorem dX7_forgetFormulas_18 : decode cX7_forgetFormulas 18 = .ok (.invokevirtual 41, 3) := by decide +kernel
theorem dX7_forgetFormulas_21 : decode cX7_forgetFormulas 21 = .ok (.return_, 1) := by decide +kernel
theorem dX7_swapRule_0 : decode cX7_swapRule 0 = .ok (.iload_n 1, 1) := by decide +kernel
theorem dX7_swapRule_1 : decode cX7_swapRule 1 = .ok (.ifCond .ne 10, 3) := by decide +kernel
theorem dX7_swapRule_4 : decode cX7_swapRule 4 = .ok (.aload_n 0, 1) := by decide +kernel
theorem dX7_swapRule_5 : decode cX7_swapRule 5 = .ok (.getfield 25, 3) := by decide +kernel
theorem dX7_swapRule_8 : decode cX7_swapRule 8 = .ok (.goto 7, 3) := by decide +kernel
theorem dX7_swapRule_11 : decode cX7_swapRule 11 = .ok (.aload_n 0, 1) := by decide +kernel
theorem dX7_swapRule_12 : decode cX7_swapRule 12 = .ok (.getfield 28, 3) := by decide +kernel
theorem dX7_swapRule_15 : decode cX7_swapRule 15 = .ok (.astore_n 3, 1) := by decide +kernel
theorem dX7_swapRule_16 : decode cX7_swapRule 16 = .ok (.iload_n 1, 1) := by decide +kernel
theorem dX7_swapRule_17 : decode cX7_swapRule 17 = .ok (.ifCond .ne 11, 3) := by decide +kernel
theorem dX7_swapRule_20 : decode cX7_swapRule 20 = .ok (.aload_n 0, 1) := by decide +kernel
theorem dX7_swapRule_21 : decode cX7_swapRule 21 = .ok (.aload_n 2, 1) := by decide +kernel
theorem dX7_swapRule_22 : decode cX7_swapRule 22 = .ok (.putfield 25, 3) := by decide +kernel
theorem dX7_swapRule_25 : decode cX7_swapRule 25 = .ok (.goto 8, 3) := by decide +kernel
theorem dX7_swapRule_28 : decode cX7_swapRule 28 = .ok (.aload_n 0, 1) := by decide +kernel
theorem dX7_swapRule_29 : decode cX7_swapRule 29 = .ok (.aload_n 2, 1) := by decide +kernel
theorem dX7_swapRule_30 : decode cX7_swapRule 30 = .ok (.putfield 28, 3) := by decide +kernel
theorem dX7_swapRule_33 : decode cX7_swapRule 33 = .ok (.aload_n 3, 1) := by decide +kernel
theorem dX7_swapRule_34 : decode cX7_swapRule 34 = .ok (.areturn, 1) := by decide +kernel
theorem dX7_valuesOfNobody_0 : decode cX7_valuesOfNobody 0 = .ok (.iconst 0, 1) := by decide +kernel
theorem dX7_valuesOfNobody_1 : decode cX7_valuesOfNobody 1 = .ok (.istore_n 1, 1) := by decide +kernel
theorem dX7_valuesOfNobody_2 : decode cX7_valuesOfNobody 2 = .ok (.iload_n 1, 1) := by decide +kernel
theorem dX7_valuesOfNobody_3 : decode cX7_valuesOfNobody 3 = .ok (.bipush 12, 2) := by decide +kernel
theorem dX7_valuesOfNobody_5 : decode cX7_valuesOfNobody 5 = .ok (.if_icmp .ge 16, 3) := by decide +kernel
theorem dX7_valuesOfNobody_8 : decode cX7_valuesOfNobody 8 = .ok (.aload_n 0, 1) := by decide +kernel
theorem dX7_valuesOfNobody_9 : decode cX7_valuesOfNobody 9 = .ok (.getfield 31, 3) := by decide +kernel
theorem dX7_valuesOfNobody_12 : decode cX7_valuesOfNobody 12 = .ok (.iload_n 1, 1) := by decide +kernel
theorem dX7_valuesOfNobody_13 : decode cX7_valuesOfNobody 13 = .ok (.iconst 0, 1) := by decide +kernel
theorem dX7_valuesOfNobody_14 : decode cX7_valuesOfNobody 14 = .ok (.iastore, 1) := by decide +kernel
theorem dX7_valuesOfNobody_15 : decode cX7_valuesOfNobody 15 = .ok (.iinc 1 1, 3) := by decide +kernel
theorem dX7_valuesOfNobody_18 : decode cX7_valuesOfNobody 18 = .ok (.goto (-16), 3) := by decide +kernel
theorem dX7_valuesOfNobody_21 : decode cX7_valuesOfNobody 21 = .ok (.aload_n 0, 1) := by decide +kernel
theorem dX7_valuesOfNobody_22 : decode cX7_valuesOfNobody 22 = .ok (.getfield 31, 3) := by decide +kernel
theorem dX7_valuesOfNobody_25 : decode cX7_valuesOfNobody 25 = .ok (.iconst 1, 1) := by decide +kernel
theorem dX7_valuesOfNobody_26 : decode cX7_valuesOfNobody 26 = .ok (.aload_n 0, 1) := by decide +kernel
theorem dX7_valuesOfNobody_27 : decode cX7_valuesOfNobody 27 = .ok (.getfield 12, 3) := by decide +kernel
theorem dX7_valuesOfNobody_30 : decode cX7_valuesOfNobody 30 = .ok (.getfield 44, 3) := by decide +kernel
theorem dX7_valuesOfNobody_33 : decode cX7_valuesOfNobody 33 = .ok (.iastore, 1) := by decide +kernel
theorem dX7_valuesOfNobody_34 : decode cX7_valuesOfNobody 34 = .ok (.aload_n 0, 1) := by decide +kernel
theorem dX7_valuesOfNobody_35 : decode cX7_valuesOfNobody 35 = .ok (.getfield 31, 3) := by decide +kernel
theorem dX7_valuesOfNobody_38 : decode cX7_valuesOfNobody 38 = .ok (.bipush 8, 2) := by decide +kernel
theorem dX7_valuesOfNobody_40 : decode cX7_valuesOfNobody 40 = .ok (.bipush 99, 2) := by decide +kernel
theorem dX7_valuesOfNobody_42 : decode cX7_valuesOfNobody 42 = .ok (.iastore, 1) := by decide +kernel
theorem dX7_valuesOfNobody_43 : decode cX7_valuesOfNobody 43 = .ok (.aload_n 0, 1) := by decide +kernel
theorem dX7_valuesOfNobody_44 : decode cX7_valuesOfNobody 44 = .ok (.getfield 31, 3) := by decide +kernel
theorem dX7_valuesOfNobody_47 : decode cX7_valuesOfNobody 47 = .ok (.areturn, 1) := by decide +kernel
theorem dX7_sightByLaw_0 : decode cX7_sightByLaw 0 = .ok (.iconst 0, 1) := by decide +kernel
theorem dX7_sightByLaw_1 : decode cX7_sightByLaw 1 = .ok (.bipush 60, 2) := by decide +kernel
theorem dX7_sightByLaw_3 : decode cX7_sightByLaw 3 = .ok (.aload_n 0, 1) := by decide +kernel
theorem dX7_sightByLaw_4 : decode cX7_sightByLaw 4 = .ok (.getfield 21, 3) := by decide +kernel
theorem dX7_sightByLaw_7 : decode cX7_sightByLaw 7 = .ok (.aload_n 0, 1) := by decide +kernel
theorem dX7_sightByLaw_8 : decode cX7_sightByLaw 8 = .ok (.getfield 31, 3) := by decide +kernel
theorem dX7_sightByLaw_11 : decode cX7_sightByLaw 11 = .ok (.invokevirtual 48, 3) := by decide +kernel
theorem dX7_sightByLaw_14 : decode cX7_sightByLaw 14 = .ok (.invokestatic 52, 3) := by decide +kernel
theorem dX7_sightByLaw_17 : decode cX7_sightByLaw 17 = .ok (.invokestatic 58, 3) := by decide +kernel
theorem dX7_sightByLaw_20 : decode cX7_sightByLaw 20 = .ok (.ireturn, 1) := by decide +kernel
theorem dX7_beamsByRule_0 : decode cX7_beamsByRule 0 = .ok (.iload_n 1, 1) := by decide +kernel
theorem dX7_beamsByRule_1 : decode cX7_beamsByRule 1 = .ok (.ifCond .ne 10, 3) := by decide +kernel
theorem dX7_beamsByRule_4 : decode cX7_beamsByRule 4 = .ok (.aload_n 0, 1) := by decide +kernel
theorem dX7_beamsByRule_5 : decode cX7_beamsByRule 5 = .ok (.getfield 25, 3) := by decide +kernel
theorem dX7_beamsByRule_8 : decode cX7_beamsByRule 8 = .ok (.goto 7, 3) := by decide +kernel
theorem dX7_beamsByRule_11 : decode cX7_beamsByRule 11 = .ok (.aload_n 0, 1) := by decide +kernel
theorem dX7_beamsByRule_12 : decode cX7_beamsByRule 12 = .ok (.getfield 28, 3) := by decide +kernel
theorem dX7_beamsByRule_15 : decode cX7_beamsByRule 15 = .ok (.aload_n 0, 1) := by decide +kernel
theorem dX7_beamsByRule_16 : decode cX7_beamsByRule 16 = .ok (.getfield 31, 3) := by decide +kernel
theorem dX7_beamsByRule_19 : decode cX7_beamsByRule 19 = .ok (.invokevirtual 48, 3) := by decide +kernel
theorem dX7_beamsByRule_22 : decode cX7_beamsByRule 22 = .ok (.ifCond .le 7, 3) := by decide +kernel
theorem dX7_beamsByRule_25 : decode cX7_beamsByRule 25 = .ok (.iconst 1, 1) := by decide +kernel
theorem dX7_beamsByRule_26 : decode cX7_beamsByRule 26 = .ok (.goto 4, 3) := by decide +kernel
theorem dX7_beamsByRule_29 : decode cX7_beamsByRule 29 = .ok (.iconst 0, 1) := by decide +kernel
theorem dX7_beamsByRule_30 : decode cX7_beamsByRule 30 = .ok (.ireturn, 1) := by decide +kernel
theorem dX8_init_0 : decode cX8_init 0 = .ok (.aload_n 0, 1) := by decide +kernel
theorem dX8_init_1 : decode cX8_init 1 = .ok (.invokespecial 3, 3) := by decide +kernel
theorem dX8_init_4 : decode cX8_init 4 = .ok (.aload_n 0, 1) := by decide +kernel
theorem dX8_init_5 : decode cX8_init 5 = .ok (.iconst 0, 1) := by decide +kernel
theorem dX8_init_6 : decode cX8_init 6 = .ok (.putfield 9, 3) := by decide +kernel
theorem dX8_init_9 : decode cX8_init 9 = .ok (.aload_n 0, 1) := by decide +kernel
theorem dX8_init_10 : decode cX8_init 10 = .ok (.iconst 0, 1) := by decide +kernel
theorem dX8_init_11 : decode cX8_init 11 = .ok (.putfield 15, 3) := by decide +kernel
theorem dX8_init_14 : decode cX8_init 14 = .ok (.aload_n 0, 1) := by decide +kernel
theorem dX8_init_15 : decode cX8_init 15 = .ok (.iconst 0, 1) := by decide +kernel
theorem dX8_init_16 : decode cX8_init 16 = .ok (.putfield 19, 3) := by decide +kernel
theorem dX8_init_19 : decode cX8_init 19 = .ok (.aload_n 0, 1) := by decide +kernel
theorem dX8_init_20 : decode cX8_init 20 = .ok (.iconst 0, 1) := by decide +kernel
theorem dX8_init_21 : decode cX8_init 21 = .ok (.putfield 22, 3) := by decide +kernel
theorem dX8_init_24 : decode cX8_init 24 = .ok (.aload_n 0, 1) := by decide +kernel
theorem dX8_init_25 : decode cX8_init 25 = .ok (.iconst 0, 1) := by decide +kernel
theorem dX8_init_26 : decode cX8_init 26 = .ok (.putfield 25, 3) := by decide +kernel
theorem dX8_init_29 : decode cX8_init 29 = .ok (.aload_n 0, 1) := by decide +kernel
theorem dX8_init_30 : decode cX8_init 30 = .ok (.iconst 1, 1) := by decide +kernel
theorem dX8_init_31 : decode cX8_init 31 = .ok (.putfield 28, 3) := by decide +kernel
theorem dX8_init_34 : decode cX8_init 34 = .ok (.aload_n 0, 1) := by decide +kernel
theorem dX8_init_35 : decode cX8_init 35 = .ok (.iconst 0, 1) := by decide +kernel
theorem dX8_init_36 : decode cX8_init 36 = .ok (.putfield 31, 3) := by decide +kernel
theorem dX8_init_39 : decode cX8_init 39 = .ok (.aload_n 0, 1) := by decide +kernel
theorem dX8_init_40 : decode cX8_init 40 = .ok (.iconst 0, 1) := by decide +kernel
theorem dX8_init_41 : decode cX8_init 41 = .ok (.putfield 34, 3) := by decide +kernel
theorem dX8_init_44 : decode cX8_init 44 = .ok (.aload_n 0, 1) := by decide +kernel
theorem dX8_init_45 : decode cX8_init 45 = .ok (.bipush 99, 2) := by decide +kernel
theorem dX8_init_47 : decode cX8_init 47 = .ok (.newarray .int, 2) := by decide +kernel
theorem dX8_init_49 : decode cX8_init 49 = .ok (.putfield 37, 3) := by decide +kernel
theorem dX8_init_52 : decode cX8_init 52 = .ok (.aload_n 0, 1) := by decide +kernel
theorem dX8_init_53 : decode cX8_init 53 = .ok (.bipush 99, 2) := by decide +kernel
theorem dX8_init_55 : decode cX8_init 55 = .ok (.newarray .int, 2) := by decide +kernel
theorem dX8_init_57 : decode cX8_init 57 = .ok (.putfield 41, 3) := by decide +kernel
theorem dX8_init_60 : decode cX8_init 60 = .ok (.aload_n 0, 1) := by decide +kernel
theorem dX8_init_61 : decode cX8_init 61 = .ok (.bipush 99, 2) := by decide +kernel
theorem dX8_init_63 : decode cX8_init 63 = .ok (.newarray .int, 2) := by decide +kernel
theorem dX8_init_65 : decode cX8_init 65 = .ok (.putfield 44, 3) := by decide +kernel
theorem dX8_init_68 : decode cX8_init 68 = .ok (.aload_n 0, 1) := by decide +kernel
theorem dX8_init_69 : decode cX8_init 69 = .ok (.bipush 99, 2) := by decide +kernel
theorem dX8_init_71 : decode cX8_init 71 = .ok (.newarray .int, 2) := by decide +kernel
theorem dX8_init_73 : decode cX8_init 73 = .ok (.putfield 47, 3) := by decide +kernel
theorem dX8_init_76 : decode cX8_init 76 = .ok (.aload_n 0, 1) := by decide +kernel
theorem dX8_init_77 : decode cX8_init 77 = .ok (.bipush 99, 2) := by decide +kernel
theorem dX8_init_79 : decode cX8_init 79 = .ok (.newarray .int, 2) := by decide +kernel
theorem dX8_init_81 : decode cX8_init 81 = .ok (.putfield 50, 3) := by decide +kernel
theorem dX8_init_84 : decode cX8_init 84 = .ok (.aload_n 0, 1) := by decide +kernel
theorem dX8_init_85 : decode cX8_init 85 = .ok (.bipush 99, 2) := by decide +kernel
theorem dX8_init_87 : decode cX8_init 87 = .ok (.newarray .int, 2) := by decide +kernel
theorem dX8_init_89 : decode cX8_init 89 = .ok (.putfield 53, 3) := by decide +kernel
theorem dX8_init_92 : decode cX8_init 92 = .ok (.aload_n 0, 1) := by decide +kernel
theorem dX8_init_93 : decode cX8_init 93 = .ok (.iload_n 1, 1) := by decide +kernel
theorem dX8_init_94 : decode cX8_init 94 = .ok (.putfield 56, 3) := by decide +kernel
theorem dX8_init_97 : decode cX8_init 97 = .ok (.aload_n 0, 1) := by decide +kernel
theorem dX8_init_98 : decode cX8_init 98 = .ok (.iload_n 1, 1) := by decide +kernel
theorem dX8_init_99 : decode cX8_init 99 = .ok (.ifCond .ne 7, 3) := by decide +kernel
theorem dX8_init_102 : decode cX8_init 102 = .ok (.iconst 1, 1) := by decide +kernel
theorem dX8_init_103 : decode cX8_init 103 = .ok (.goto 4, 3) := by decide +kernel
theorem dX8_init_106 : decode cX8_init 106 = .ok (.iconst (-1), 1) := by decide +kernel
theorem dX8_init_107 : decode cX8_init 107 = .ok (.putfield 59, 3) := by decide +kernel
theorem dX8_init_110 : decode cX8_init 110 = .ok (.return_, 1) := by decide +kernel
theorem dX8_begin_0 : decode cX8_begin 0 = .ok (.aload_n 0, 1) := by decide +kernel
theorem dX8_begin_1 : decode cX8_begin 1 = .ok (.aload_n 0, 1) := by decide +kernel
theorem dX8_begin_2 : decode cX8_begin 2 = .ok (.getfield 56, 3) := by decide +kernel
theorem dX8_begin_5 : decode cX8_begin 5 = .ok (.aload_n 1, 1) := by decide +kernel
theorem dX8_begin_6 : decode cX8_begin 6 = .ok (.getfield 62, 3) := by decide +kernel
theorem dX8_begin_9 : decode cX8_begin 9 = .ok (.if_icmp .ge 7, 3) := by decide +kernel
theorem dX8_begin_12 : decode cX8_begin 12 = .ok (.iconst 1, 1) := by decide +kernel
theorem dX8_begin_13 : decode cX8_begin 13 = .ok (.goto 4, 3) := by decide +kernel
theorem dX8_begin_16 : decode cX8_begin 16 = .ok (.iconst 0, 1) := by decide +kernel
theorem dX8_begin_17 : decode cX8_begin 17 = .ok (.putfield 9, 3) := by decide +kernel
theorem dX8_begin_20 : decode cX8_begin 20 = .ok (.aload_n 0, 1) := by decide +kernel
theorem dX8_begin_21 : decode cX8_begin 21 = .ok (.aload_n 1, 1) := by decide +kernel
theorem dX8_begin_22 : decode cX8_begin 22 = .ok (.getfield 67, 3) := by decide +kernel
theorem dX8_begin_25 : decode cX8_begin 25 = .ok (.aload_n 0, 1) := by decide +kernel
theorem dX8_begin_26 : decode cX8_begin 26 = .ok (.getfield 56, 3) := by decide +kernel
theorem dX8_begin_29 : decode cX8_begin 29 = .ok (.iaload, 1) := by decide +kernel
theorem dX8_begin_30 : decode cX8_begin 30 = .ok (.putfield 15, 3) := by decide +kernel
theorem dX8_begin_33 : decode cX8_begin 33 = .ok (.aload_n 0, 1) := by decide +kernel
theorem dX8_begin_34 : decode cX8_begin 34 = .ok (.aload_n 1, 1) := by decide +kernel
theorem dX8_begin_35 : decode cX8_begin 35 = .ok (.getfield 69, 3) := by decide +kernel
theorem dX8_begin_38 : decode cX8_begin 38 = .ok (.aload_n 0, 1) := by decide +kernel
theorem dX8_begin_39 : decode cX8_begin 39 = .ok (.getfield 56, 3) := by decide +kernel
theorem dX8_begin_42 : decode cX8_begin 42 = .ok (.iaload, 1) := by decide +kernel
theorem dX8_begin_43 : decode cX8_begin 43 = .ok (.putfield 19, 3) := by decide +kernel
theorem dX8_begin_46 : decode cX8_begin 46 = .ok (.aload_n 0, 1) := by decide +kernel
theorem dX8_begin_47 : decode cX8_begin 47 = .ok (.aload_n 1, 1) := by decide +kernel
theorem dX8_begin_48 : decode cX8_begin 48 = .ok (.getfield 71, 3) := by decide +kernel
theorem dX8_begin_51 : decode cX8_begin 51 = .ok (.aload_n 0, 1) := by decide +kernel
theorem dX8_begin_52 : decode cX8_begin 52 = .ok (.getfield 56, 3) := by decide +kernel
theorem dX8_begin_55 : decode cX8_begin 55 = .ok (.iaload, 1) := by decide +kernel
theorem dX8_begin_56 : decode cX8_begin 56 = .ok (.putfield 22, 3) := by decide +kernel
theorem dX8_begin_59 : decode cX8_begin 59 = .ok (.aload_n 0, 1) := by decide +kernel
theorem dX8_begin_60 : decode cX8_begin 60 = .ok (.aload_n 1, 1) := by decide +kernel
theorem dX8_begin_61 : decode cX8_begin 61 = .ok (.aload_n 0, 1) := by decide +kernel
theorem dX8_begin_62 : decode cX8_begin 62 = .ok (.getfield 56, 3) := by decide +kernel
theorem dX8_begin_65 : decode cX8_begin 65 = .ok (.invokevirtual 73, 3) := by decide +kernel
theorem dX8_begin_68 : decode cX8_begin 68 = .ok (.putfield 25, 3) := by decide +kernel
theorem dX8_begin_71 : decode cX8_begin 71 = .ok (.aload_n 0, 1) := by decide +kernel
theorem dX8_begin_72 : decode cX8_begin 72 = .ok (.iconst 1, 1) := by decide +kernel
theorem dX8_begin_73 : decode cX8_begin 73 = .ok (.putfield 28, 3) := by decide +kernel
theorem dX8_begin_76 : decode cX8_begin 76 = .ok (.aload_n 0, 1) := by decide +kernel
theorem dX8_begin_77 : decode cX8_begin 77 = .ok (.iconst 0, 1) := by decide +kernel
theorem dX8_begin_78 : decode cX8_begin 78 = .ok (.putfield 31, 3) := by decide +kernel
theorem dX8_begin_81 : decode cX8_begin 81 = .ok (.aload_n 0, 1) := by decide +kernel
theorem dX8_begin_82 : decode cX8_begin 82 = .ok (.iconst 0, 1) := by decide +kernel
theorem dX8_begin_83 : decode cX8_begin 83 = .ok (.putfield 34, 3) := by decide +kernel
theorem dX8_begin_86 : decode cX8_begin 86 = .ok (.return_, 1) := by decide +kernel
theorem dX8_isOn_0 : decode cX8_isOn 0 = .ok (.aload_n 0, 1) := by decide +kernel
theorem dX8_isOn_1 : decode cX8_isOn 1 = .ok (.getfield 9, 3) := by decide +kernel
theorem dX8_isOn_4 : decode cX8_isOn 4 = .ok (.ifCond .eq 18, 3) := by decide +kernel
theorem dX8_isOn_7 : decode cX8_isOn 7 = .ok (.aload_n 1, 1) := by decide +kernel
theorem dX8_isOn_8 : decode cX8_isOn 8 = .ok (.aload_n 0, 1) := by decide +kernel
theorem dX8_isOn_9 : decode cX8_isOn 9 = .ok (.getfield 25, 3) := by decide +kernel
theorem dX8_isOn_12 : decode cX8_isOn 12 = .ok (.invokevirtual 77, 3) := by decide +kernel
theorem dX8_isOn_15 : decode cX8_isOn 15 = .ok (.ifCond .eq 7, 3) := by decide +kernel
theorem dX8_isOn_18 : decode cX8_isOn 18 = .ok (.iconst 1, 1) := by decide +kernel
theorem dX8_isOn_19 : decode cX8_isOn 19 = .ok (.goto 4, 3) := by decide +kernel
theorem dX8_isOn_22 : decode cX8_isOn 22 = .ok (.iconst 0, 1) := by decide +kernel
theorem dX8_isOn_23 : decode cX8_isOn 23 = .ok (.ireturn, 1) := by decide +kernel
theorem dX8_becomeBlind_0 : decode cX8_becomeBlind 0 = .ok (.iload_n 1, 1) := by decide +kernel
theorem dX8_becomeBlind_1 : decode cX8_becomeBlind 1 = .ok (.ifCond .eq 18, 3) := by decide +kernel
theorem dX8_becomeBlind_4 : decode cX8_becomeBlind 4 = .ok (.aload_n 0, 1) := by decide +kernel
theorem dX8_becomeBlind_5 : decode cX8_becomeBlind 5 = .ok (.aload_n 0, 1) := by decide +kernel
theorem dX8_becomeBlind_6 : decode cX8_becomeBlind 6 = .ok (.getfield 31, 3) := by decide +kernel
theorem dX8_becomeBlind_9 : decode cX8_becomeBlind 9 = .ok (.iload_n 2, 1) := by decide +kernel
theorem dX8_becomeBlind_10 : decode cX8_becomeBlind 10 = .ok (.invokestatic 81, 3) := by decide +kernel
theorem dX8_becomeBlind_13 : decode cX8_becomeBlind 13 = .ok (.putfield 31, 3) := by decide +kernel
theorem dX8_becomeBlind_16 : decode cX8_becomeBlind 16 = .ok (.goto 20, 3) := by decide +kernel
theorem dX8_becomeBlind_19 : decode cX8_becomeBlind 19 = .ok (.aload_n 0, 1) := by decide +kernel
theorem dX8_becomeBlind_20 : decode cX8_becomeBlind 20 = .ok (.getfield 31, 3) := by decide +kernel
theorem dX8_becomeBlind_23 : decode cX8_becomeBlind 23 = .ok (.ifCond .le 13, 3) := by decide +kernel
theorem dX8_becomeBlind_26 : decode cX8_becomeBlind 26 = .ok (.aload_n 0, 1) := by decide +kernel
theorem dX8_becomeBlind_27 : decode cX8_becomeBlind 27 = .ok (.dup, 1) := by decide +kernel
theorem dX8_becomeBlind_28 : decode cX8_becomeBlind 28 = .ok (.getfield 31, 3) := by decide +kernel
theorem dX8_becomeBlind_31 : decode cX8_becomeBlind 31 = .ok (.iconst 1, 1) := by decide +kernel
theorem dX8_becomeBlind_32 : decode cX8_becomeBlind 32 = .ok (.isub, 1) := by decide +kernel
theorem dX8_becomeBlind_33 : decode cX8_becomeBlind 33 = .ok (.putfield 31, 3) := by decide +kernel
theorem dX8_becomeBlind_36 : decode cX8_becomeBlind 36 = .ok (.return_, 1) := by decide +kernel
theorem dX8_keep_0 : decode cX8_keep 0 = .ok (.iload_n 2, 1) := by decide +kernel
theorem dX8_keep_1 : decode cX8_keep 1 = .ok (.ifCond .lt 9, 3) := by decide +kernel
theorem dX8_keep_4 : decode cX8_keep 4 = .ok (.iload_n 2, 1) := by decide +kernel
theorem dX8_keep_5 : decode cX8_keep 5 = .ok (.bipush 99, 2) := by decide +kernel
theorem dX8_keep_7 : decode cX8_keep 7 = .ok (.if_icmp .lt 4, 3) := by decide +kernel
theorem dX8_keep_10 : decode cX8_keep 10 = .ok (.return_, 1) := by decide +kernel
theorem dX8_keep_11 : decode cX8_keep 11 = .ok (.aload_n 0, 1) := by decide +kernel
theorem dX8_keep_12 : decode cX8_keep 12 = .ok (.getfield 37, 3) := by decide +kernel
theorem dX8_keep_15 : decode cX8_keep 15 = .ok (.iload_n 2, 1) := by decide +kernel
theorem dX8_keep_16 : decode cX8_keep 16 = .ok (.aload_n 0, 1) := by decide +kernel
theorem dX8_keep_17 : decode cX8_keep 17 = .ok (.getfield 25, 3) := by decide +kernel
theorem dX8_keep_20 : decode cX8_keep 20 = .ok (.iastore, 1) := by decide +kernel
theorem dX8_keep_21 : decode cX8_keep 21 = .ok (.aload_n 0, 1) := by decide +kernel
theorem dX8_keep_22 : decode cX8_keep 22 = .ok (.getfield 41, 3) := by decide +kernel
theorem dX8_keep_25 : decode cX8_keep 25 = .ok (.iload_n 2, 1) := by decide +kernel
theorem dX8_keep_26 : decode cX8_keep 26 = .ok (.aload_n 0, 1) := by decide +kernel
theorem dX8_keep_27 : decode cX8_keep 27 = .ok (.getfield 28, 3) := by decide +kernel
theorem dX8_keep_30 : decode cX8_keep 30 = .ok (.iastore, 1) := by decide +kernel
theorem dX8_keep_31 : decode cX8_keep 31 = .ok (.aload_n 0, 1) := by decide +kernel
theorem dX8_keep_32 : decode cX8_keep 32 = .ok (.getfield 44, 3) := by decide +kernel
theorem dX8_keep_35 : decode cX8_keep 35 = .ok (.iload_n 2, 1) := by decide +kernel
theorem dX8_keep_36 : decode cX8_keep 36 = .ok (.aload_n 0, 1) := by decide +kernel
theorem dX8_keep_37 : decode cX8_keep 37 = .ok (.getfield 31, 3) := by decide +kernel
theorem dX8_keep_40 : decode cX8_keep 40 = .ok (.iastore, 1) := by decide +kernel
theorem dX8_keep_41 : decode cX8_keep 41 = .ok (.aload_n 0, 1) := by decide +kernel
theorem dX8_keep_42 : decode cX8_keep 42 = .ok (.getfield 47, 3) := by decide +kernel
theorem dX8_keep_45 : decode cX8_keep 45 = .ok (.iload_n 2, 1) := by decide +kernel
theorem dX8_keep_46 : decode cX8_keep 46 = .ok (.iload_n 3, 1) := by decide +kernel
theorem dX8_keep_47 : decode cX8_keep 47 = .ok (.iastore, 1) := by decide +kernel
theorem dX8_keep_48 : decode cX8_keep 48 = .ok (.aload_n 0, 1) := by decide +kernel
theorem dX8_keep_49 : decode cX8_keep 49 = .ok (.getfield 50, 3) := by decide +kernel
theorem dX8_keep_52 : decode cX8_keep 52 = .ok (.iload_n 2, 1) := by decide +kernel
theorem dX8_keep_53 : decode cX8_keep 53 = .ok (.aload_n 1, 1) := by decide +kernel
theorem dX8_keep_54 : decode cX8_keep 54 = .ok (.aload_n 0, 1) := by decide +kernel
theorem dX8_keep_55 : decode cX8_keep 55 = .ok (.getfield 25, 3) := by decide +kernel
theorem dX8_keep_58 : decode cX8_keep 58 = .ok (.invokevirtual 87, 3) := by decide +kernel
theorem dX8_keep_61 : decode cX8_keep 61 = .ok (.iconst 1, 1) := by decide +kernel
theorem dX8_keep_62 : decode cX8_keep 62 = .ok (.if_icmp .ne 7, 3) := by decide +kernel
theorem dX8_keep_65 : decode cX8_keep 65 = .ok (.iconst 4, 1) := by decide +kernel
theorem dX8_keep_66 : decode cX8_keep 66 = .ok (.goto 4, 3) := by decide +kernel
theorem dX8_keep_69 : decode cX8_keep 69 = .ok (.iconst 2, 1) := by decide +kernel
theorem dX8_keep_70 : decode cX8_keep 70 = .ok (.aload_n 0, 1) := by decide +kernel
theorem dX8_keep_71 : decode cX8_keep 71 = .ok (.getfield 19, 3) := by decide +kernel
theorem dX8_keep_74 : decode cX8_keep 74 = .ok (.imul, 1) := by decide +kernel
theorem dX8_keep_75 : decode cX8_keep 75 = .ok (.iastore, 1) := by decide +kernel
theorem dX8_keep_76 : decode cX8_keep 76 = .ok (.aload_n 0, 1) := by decide +kernel
theorem dX8_keep_77 : decode cX8_keep 77 = .ok (.getfield 53, 3) := by decide +kernel
theorem dX8_keep_80 : decode cX8_keep 80 = .ok (.iload_n 2, 1) := by decide +kernel
theorem dX8_keep_81 : decode cX8_keep 81 = .ok (.iload 4, 2) := by decide +kernel
theorem dX8_keep_83 : decode cX8_keep 83 = .ok (.ifCond .eq 7, 3) := by decide +kernel
theorem dX8_keep_86 : decode cX8_keep 86 = .ok (.iconst 1, 1) := by decide +kernel
theorem dX8_keep_87 : decode cX8_keep 87 = .ok (.goto 4, 3) := by decide +kernel
theorem dX8_keep_90 : decode cX8_keep 90 = .ok (.iconst 0, 1) := by decide +kernel
theorem dX8_keep_91 : decode cX8_keep 91 = .ok (.iastore, 1) := by decide +kernel
theorem dX8_keep_92 : decode cX8_keep 92 = .ok (.aload_n 0, 1) := by decide +kernel
theorem dX8_keep_93 : decode cX8_keep 93 = .ok (.iload_n 2, 1) := by decide +kernel
theorem dX8_keep_94 : decode cX8_keep 94 = .ok (.iconst 1, 1) := by decide +kernel
theorem dX8_keep_95 : decode cX8_keep 95 = .ok (.iadd, 1) := by decide +kernel
theorem dX8_keep_96 : decode cX8_keep 96 = .ok (.putfield 34, 3) := by decide +kernel
theorem dX8_keep_99 : decode cX8_keep 99 = .ok (.return_, 1) := by decide +kernel
theorem dX8_unsafe_0 : decode cX8_unsafe 0 = .ok (.aload_n 0, 1) := by decide +kernel
theorem dX8_unsafe_1 : decode cX8_unsafe 1 = .ok (.getfield 47, 3) := by decide +kernel
theorem dX8_unsafe_4 : decode cX8_unsafe 4 = .ok (.iload_n 1, 1) := by decide +kernel
theorem dX8_unsafe_5 : decode cX8_unsafe 5 = .ok (.iaload, 1) := by decide +kernel
theorem dX8_unsafe_6 : decode cX8_unsafe 6 = .ok (.aload_n 0, 1) := by decide +kernel
theorem dX8_unsafe_7 : decode cX8_unsafe 7 = .ok (.getfield 50, 3) := by decide +kernel
theorem dX8_unsafe_10 : decode cX8_unsafe 10 = .ok (.iload_n 1, 1) := by decide +kernel
theorem dX8_unsafe_11 : decode cX8_unsafe 11 = .ok (.iaload, 1) := by decide +kernel
theorem dX8_unsafe_12 : decode cX8_unsafe 12 = .ok (.if_icmp .ge 7, 3) := by decide +kernel
theorem dX8_unsafe_15 : decode cX8_unsafe 15 = .ok (.iconst 1, 1) := by decide +kernel
theorem dX8_unsafe_16 : decode cX8_unsafe 16 = .ok (.goto 4, 3) := by decide +kernel
theorem dX8_unsafe_19 : decode cX8_unsafe 19 = .ok (.iconst 0, 1) := by decide +kernel
theorem dX8_unsafe_20 : decode cX8_unsafe 20 = .ok (.ireturn, 1) := by decide +kernel
theorem dX8_unsafeTenths_0 : decode cX8_unsafeTenths 0 = .ok (.iconst 0, 1) := by decide +kernel
theorem dX8_unsafeTenths_1 : decode cX8_unsafeTenths 1 = .ok (.istore_n 1, 1) := by decide +kernel
theorem dX8_unsafeTenths_2 : decode cX8_unsafeTenths 2 = .ok (.iconst 0, 1) := by decide +kernel
theorem dX8_unsafeTenths_3 : decode cX8_unsafeTenths 3 = .ok (.istore_n 2, 1) := by decide +kernel
theorem dX8_unsafeTenths_4 : decode cX8_unsafeTenths 4 = .ok (.iload_n 2, 1) := by decide +kernel
theorem dX8_unsafeTenths_5 : decode cX8_unsafeTenths 5 = .ok (.aload_n 0, 1) := by decide +kernel
theorem dX8_unsafeTenths_6 : decode cX8_unsafeTenths 6 = .ok (.getfield 34, 3) := by decide +kernel
theorem dX8_unsafeTenths_9 : decode cX8_unsafeTenths 9 = .ok (.if_icmp .ge 17, 3) := by decide +kernel
theorem dX8_unsafeTenths_12 : decode cX8_unsafeTenths 12 = .ok (.iload_n 1, 1) := by decide +kernel
theorem dX8_unsafeTenths_13 : decode cX8_unsafeTenths 13 = .ok (.aload_n 0, 1) := by decide +kernel
theorem dX8_unsafeTenths_14 : decode cX8_unsafeTenths 14 = .ok (.iload_n 2, 1) := by decide +kernel
theorem dX8_unsafeTenths_15 : decode cX8_unsafeTenths 15 = .ok (.invokevirtual 90, 3) := by decide +kernel
theorem dX8_unsafeTenths_18 : decode cX8_unsafeTenths 18 = .ok (.iadd, 1) := by decide +kernel
theorem dX8_unsafeTenths_19 : decode cX8_unsafeTenths 19 = .ok (.istore_n 1, 1) := by decide +kernel
theorem dX8_unsafeTenths_20 : decode cX8_unsafeTenths 20 = .ok (.iinc 2 1, 3) := by decide +kernel
theorem dX8_unsafeTenths_23 : decode cX8_unsafeTenths 23 = .ok (.goto (-19), 3) := by decide +kernel
theorem dX8_unsafeTenths_26 : decode cX8_unsafeTenths 26 = .ok (.iload_n 1, 1) := by decide +kernel
theorem dX8_unsafeTenths_27 : decode cX8_unsafeTenths 27 = .ok (.ireturn, 1) := by decide +kernel
theorem dX8_glareTenths_0 : decode cX8_glareTenths 0 = .ok (.iconst 0, 1) := by decide +kernel
theorem dX8_glareTenths_1 : decode cX8_glareTenths 1 = .ok (.istore_n 1, 1) := by decide +kernel
theorem dX8_glareTenths_2 : decode cX8_glareTenths 2 = .ok (.iconst 0, 1) := by decide +kernel
theorem dX8_glareTenths_3 : decode cX8_glareTenths 3 = .ok (.istore_n 2, 1) := by decide +kernel
theorem dX8_glareTenths_4 : decode cX8_glareTenths 4 = .ok (.iload_n 2, 1) := by decide +kernel
theorem dX8_glareTenths_5 : decode cX8_glareTenths 5 = .ok (.aload_n 0, 1) := by decide +kernel
theorem dX8_glareTenths_6 : decode cX8_glareTenths 6 = .ok (.getfield 34, 3) := by decide +kernel
theorem dX8_glareTenths_9 : decode cX8_glareTenths 9 = .ok (.if_icmp .ge 18, 3) := by decide +kernel
theorem dX8_glareTenths_12 : decode cX8_glareTenths 12 = .ok (.iload_n 1, 1) := by decide +kernel
theorem dX8_glareTenths_13 : decode cX8_glareTenths 13 = .ok (.aload_n 0, 1) := by decide +kernel
theorem dX8_glareTenths_14 : decode cX8_glareTenths 14 = .ok (.getfield 53, 3) := by decide +kernel
theorem dX8_glareTenths_17 : decode cX8_glareTenths 17 = .ok (.iload_n 2, 1) := by decide +kernel
theorem dX8_glareTenths_18 : decode cX8_glareTenths 18 = .ok (.iaload, 1) := by decide +kernel
theorem dX8_glareTenths_19 : decode cX8_glareTenths 19 = .ok (.iadd, 1) := by decide +kernel
theorem dX8_glareTenths_20 : decode cX8_glareTenths 20 = .ok (.istore_n 1, 1) := by decide +kernel
theorem dX8_glareTenths_21 : decode cX8_glareTenths 21 = .ok (.iinc 2 1, 3) := by decide +kernel
theorem dX8_glareTenths_24 : decode cX8_glareTenths 24 = .ok (.goto (-20), 3) := by decide +kernel
theorem dX8_glareTenths_27 : decode cX8_glareTenths 27 = .ok (.iload_n 1, 1) := by decide +kernel
theorem dX8_glareTenths_28 : decode cX8_glareTenths 28 = .ok (.ireturn, 1) := by decide +kernel
theorem dX8_blindTenths_0 : decode cX8_blindTenths 0 = .ok (.iconst 0, 1) := by decide +kernel
theorem dX8_blindTenths_1 : decode cX8_blindTenths 1 = .ok (.istore_n 1, 1) := by decide +kernel
theorem dX8_blindTenths_2 : decode cX8_blindTenths 2 = .ok (.iconst 0, 1) := by decide +kernel
theorem dX8_blindTenths_3 : decode cX8_blindTenths 3 = .ok (.istore_n 2, 1) := by decide +kernel
theorem dX8_blindTenths_4 : decode cX8_blindTenths 4 = .ok (.iload_n 2, 1) := by decide +kernel
theorem dX8_blindTenths_5 : decode cX8_blindTenths 5 = .ok (.aload_n 0, 1) := by decide +kernel
theorem dX8_blindTenths_6 : decode cX8_blindTenths 6 = .ok (.getfield 34, 3) := by decide +kernel
theorem dX8_blindTenths_9 : decode cX8_blindTenths 9 = .ok (.if_icmp .ge 26, 3) := by decide +kernel
theorem dX8_blindTenths_12 : decode cX8_blindTenths 12 = .ok (.iload_n 1, 1) := by decide +kernel
theorem dX8_blindTenths_13 : decode cX8_blindTenths 13 = .ok (.aload_n 0, 1) := by decide +kernel
theorem dX8_blindTenths_14 : decode cX8_blindTenths 14 = .ok (.getfield 44, 3) := by decide +kernel
theorem dX8_blindTenths_17 : decode cX8_blindTenths 17 = .ok (.iload_n 2, 1) := by decide +kernel
theorem dX8_blindTenths_18 : decode cX8_blindTenths 18 = .ok (.iaload, 1) := by decide +kernel
theorem dX8_blindTenths_19 : decode cX8_blindTenths 19 = .ok (.ifCond .le 7, 3) := by decide +kernel
theorem dX8_blindTenths_22 : decode cX8_blindTenths 22 = .ok (.iconst 1, 1) := by decide +kernel
theorem dX8_blindTenths_23 : decode cX8_blindTenths 23 = .ok (.goto 4, 3) := by decide +kernel
theorem dX8_blindTenths_26 : decode cX8_blindTenths 26 = .ok (.iconst 0, 1) := by decide +kernel
theorem dX8_blindTenths_27 : decode cX8_blindTenths 27 = .ok (.iadd, 1) := by decide +kernel
theorem dX8_blindTenths_28 : decode cX8_blindTenths 28 = .ok (.istore_n 1, 1) := by decide +kernel
theorem dX8_blindTenths_29 : decode cX8_blindTenths 29 = .ok (.iinc 2 1, 3) := by decide +kernel
theorem dX8_blindTenths_32 : decode cX8_blindTenths 32 = .ok (.goto (-28), 3) := by decide +kernel
theorem dX8_blindTenths_35 : decode cX8_blindTenths 35 = .ok (.iload_n 1, 1) := by decide +kernel
theorem dX8_blindTenths_36 : decode cX8_blindTenths 36 = .ok (.ireturn, 1) := by decide +kernel
theorem dX8_fullTenths_0 : decode cX8_fullTenths 0 = .ok (.iconst 0, 1) := by decide +kernel
theorem dX8_fullTenths_1 : decode cX8_fullTenths 1 = .ok (.istore_n 1, 1) := by decide +kernel
theorem dX8_fullTenths_2 : decode cX8_fullTenths 2 = .ok (.iconst 0, 1) := by decide +kernel
theorem dX8_fullTenths_3 : decode cX8_fullTenths 3 = .ok (.istore_n 2, 1) := by decide +kernel
theorem dX8_fullTenths_4 : decode cX8_fullTenths 4 = .ok (.iload_n 2, 1) := by decide +kernel
theorem dX8_fullTenths_5 : decode cX8_fullTenths 5 = .ok (.aload_n 0, 1) := by decide +kernel
theorem dX8_fullTenths_6 : decode cX8_fullTenths 6 = .ok (.getfield 34, 3) := by decide +kernel
theorem dX8_fullTenths_9 : decode cX8_fullTenths 9 = .ok (.if_icmp .ge 18, 3) := by decide +kernel
theorem dX8_fullTenths_12 : decode cX8_fullTenths 12 = .ok (.iload_n 1, 1) := by decide +kernel
theorem dX8_fullTenths_13 : decode cX8_fullTenths 13 = .ok (.aload_n 0, 1) := by decide +kernel
theorem dX8_fullTenths_14 : decode cX8_fullTenths 14 = .ok (.getfield 41, 3) := by decide +kernel
theorem dX8_fullTenths_17 : decode cX8_fullTenths 17 = .ok (.iload_n 2, 1) := by decide +kernel
theorem dX8_fullTenths_18 : decode cX8_fullTenths 18 = .ok (.iaload, 1) := by decide +kernel
theorem dX8_fullTenths_19 : decode cX8_fullTenths 19 = .ok (.iadd, 1) := by decide +kernel
theorem dX8_fullTenths_20 : decode cX8_fullTenths 20 = .ok (.istore_n 1, 1) := by decide +kernel
theorem dX8_fullTenths_21 : decode cX8_fullTenths 21 = .ok (.iinc 2 1, 3) := by decide +kernel
theorem dX8_fullTenths_24 : decode cX8_fullTenths 24 = .ok (.goto (-20), 3) := by decide +kernel
theorem dX8_fullTenths_27 : decode cX8_fullTenths 27 = .ok (.iload_n 1, 1) := by decide +kernel
theorem dX8_fullTenths_28 : decode cX8_fullTenths 28 = .ok (.ireturn, 1) := by decide +kernel
theorem dX8_beamChanges_0 : decode cX8_beamChanges 0 = .ok (.iconst 0, 1) := by decide +kernel
theorem dX8_beamChanges_1 : decode cX8_beamChanges 1 = .ok (.istore_n 1, 1) := by decide +kernel
theorem dX8_beamChanges_2 : decode cX8_beamChanges 2 = .ok (.iconst 1, 1) := by decide +kernel
theorem dX8_beamChanges_3 : decode cX8_beamChanges 3 = .ok (.istore_n 2, 1) := by decide +kernel
theorem dX8_beamChanges_4 : decode cX8_beamChanges 4 = .ok (.iconst 0, 1) := by decide +kernel
theorem dX8_beamChanges_5 : decode cX8_beamChanges 5 = .ok (.istore_n 3, 1) := by decide +kernel
theorem dX8_beamChanges_6 : decode cX8_beamChanges 6 = .ok (.iload_n 3, 1) := by decide +kernel
theorem dX8_beamChanges_7 : decode cX8_beamChanges 7 = .ok (.aload_n 0, 1) := by decide +kernel
theorem dX8_beamChanges_8 : decode cX8_beamChanges 8 = .ok (.getfield 34, 3) := by decide +kernel
theorem dX8_beamChanges_11 : decode cX8_beamChanges 11 = .ok (.if_icmp .ge 34, 3) := by decide +kernel
theorem dX8_beamChanges_14 : decode cX8_beamChanges 14 = .ok (.iload_n 1, 1) := by decide +kernel
theorem dX8_beamChanges_15 : decode cX8_beamChanges 15 = .ok (.aload_n 0, 1) := by decide +kernel
theorem dX8_beamChanges_16 : decode cX8_beamChanges 16 = .ok (.getfield 41, 3) := by decide +kernel
theorem dX8_beamChanges_19 : decode cX8_beamChanges 19 = .ok (.iload_n 3, 1) := by decide +kernel
theorem dX8_beamChanges_20 : decode cX8_beamChanges 20 = .ok (.iaload, 1) := by decide +kernel
theorem dX8_beamChanges_21 : decode cX8_beamChanges 21 = .ok (.iload_n 2, 1) := by decide +kernel
theorem dX8_beamChanges_22 : decode cX8_beamChanges 22 = .ok (.if_icmp .eq 7, 3) := by decide +kernel
theorem dX8_beamChanges_25 : decode cX8_beamChanges 25 = .ok (.iconst 1, 1) := by decide +kernel
theorem dX8_beamChanges_26 : decode cX8_beamChanges 26 = .ok (.goto 4, 3) := by decide +kernel
theorem dX8_beamChanges_29 : decode cX8_beamChanges 29 = .ok (.iconst 0, 1) := by decide +kernel
theorem dX8_beamChanges_30 : decode cX8_beamChanges 30 = .ok (.iadd, 1) := by decide +kernel
theorem dX8_beamChanges_31 : decode cX8_beamChanges 31 = .ok (.istore_n 1, 1) := by decide +kernel
theorem dX8_beamChanges_32 : decode cX8_beamChanges 32 = .ok (.aload_n 0, 1) := by decide +kernel
theorem dX8_beamChanges_33 : decode cX8_beamChanges 33 = .ok (.getfield 41, 3) := by decide +kernel
theorem dX8_beamChanges_36 : decode cX8_beamChanges 36 = .ok (.iload_n 3, 1) := by decide +kernel
theorem dX8_beamChanges_37 : decode cX8_beamChanges 37 = .ok (.iaload, 1) := by decide +kernel
theorem dX8_beamChanges_38 : decode cX8_beamChanges 38 = .ok (.istore_n 2, 1) := by decide +kernel
theorem dX8_beamChanges_39 : decode cX8_beamChanges 39 = .ok (.iinc 3 1, 3) := by decide +kernel
theorem dX8_beamChanges_42 : decode cX8_beamChanges 42 = .ok (.goto (-36), 3) := by decide +kernel
theorem dX8_beamChanges_45 : decode cX8_beamChanges 45 = .ok (.iload_n 1, 1) := by decide +kernel
theorem dX8_beamChanges_46 : decode cX8_beamChanges 46 = .ok (.ireturn, 1) := by decide +kernel
theorem dX8_leastSight_0 : decode cX8_leastSight 0 = .ok (.iconst (-1), 1) := by decide +kernel
theorem dX8_leastSight_1 : decode cX8_leastSight 1 = .ok (.istore_n 1, 1) := by decide +kernel
theorem dX8_leastSight_2 : decode cX8_leastSight 2 = .ok (.iconst 0, 1) := by decide +kernel
theorem dX8_leastSight_3 : decode cX8_leastSight 3 = .ok (.istore_n 2, 1) := by decide +kernel
theorem dX8_leastSight_4 : decode cX8_leastSight 4 = .ok (.iload_n 2, 1) := by decide +kernel
theorem dX8_leastSight_5 : decode cX8_leastSight 5 = .ok (.aload_n 0, 1) := by decide +kernel
theorem dX8_leastSight_6 : decode cX8_leastSight 6 = .ok (.getfield 34, 3) := by decide +kernel
theorem dX8_leastSight_9 : decode cX8_leastSight 9 = .ok (.if_icmp .ge 31, 3) := by decide +kernel
theorem dX8_leastSight_12 : decode cX8_leastSight 12 = .ok (.iload_n 1, 1) := by decide +kernel
theorem dX8_leastSight_13 : decode cX8_leastSight 13 = .ok (.iconst (-1), 1) := by decide +kernel
theorem dX8_leastSight_14 : decode cX8_leastSight 14 = .ok (.if_icmp .eq 13, 3) := by decide +kernel
theorem dX8_leastSight_17 : decode cX8_leastSight 17 = .ok (.aload_n 0, 1) := by decide +kernel
theorem dX8_leastSight_18 : decode cX8_leastSight 18 = .ok (.getfield 47, 3) := by decide +kernel
theorem dX8_leastSight_21 : decode cX8_leastSight 21 = .ok (.iload_n 2, 1) := by decide +kernel
theorem dX8_leastSight_22 : decode cX8_leastSight 22 = .ok (.iaload, 1) := by decide +kernel
theorem dX8_leastSight_23 : decode cX8_leastSight 23 = .ok (.iload_n 1, 1) := by decide +kernel
theorem dX8_leastSight_24 : decode cX8_leastSight 24 = .ok (.if_icmp .ge 10, 3) := by decide +kernel
theorem dX8_leastSight_27 : decode cX8_leastSight 27 = .ok (.aload_n 0, 1) := by decide +kernel
theorem dX8_leastSight_28 : decode cX8_leastSight 28 = .ok (.getfield 47, 3) := by decide +kernel
theorem dX8_leastSight_31 : decode cX8_leastSight 31 = .ok (.iload_n 2, 1) := by decide +kernel
theorem dX8_leastSight_32 : decode cX8_leastSight 32 = .ok (.iaload, 1) := by decide +kernel
theorem dX8_leastSight_33 : decode cX8_leastSight 33 = .ok (.istore_n 1, 1) := by decide +kernel
theorem dX8_leastSight_34 : decode cX8_leastSight 34 = .ok (.iinc 2 1, 3) := by decide +kernel
theorem dX8_leastSight_37 : decode cX8_leastSight 37 = .ok (.goto (-33), 3) := by decide +kernel
theorem dX8_leastSight_40 : decode cX8_leastSight 40 = .ok (.iload_n 1, 1) := by decide +kernel
theorem dX8_leastSight_41 : decode cX8_leastSight 41 = .ok (.ireturn, 1) := by decide +kernel
theorem dX8_firstBeams_0 : decode cX8_firstBeams 0 = .ok (.iconst 0, 1) := by decide +kernel
theorem dX8_firstBeams_1 : decode cX8_firstBeams 1 = .ok (.iload_n 2, 1) := by decide +kernel
theorem dX8_firstBeams_2 : decode cX8_firstBeams 2 = .ok (.invokestatic 81, 3) := by decide +kernel
theorem dX8_firstBeams_5 : decode cX8_firstBeams 5 = .ok (.istore_n 3, 1) := by decide +kernel
theorem dX8_firstBeams_6 : decode cX8_firstBeams 6 = .ok (.iload_n 3, 1) := by decide +kernel
theorem dX8_firstBeams_7 : decode cX8_firstBeams 7 = .ok (.aload_n 0, 1) := by decide +kernel
theorem dX8_firstBeams_8 : decode cX8_firstBeams 8 = .ok (.getfield 34, 3) := by decide +kernel
theorem dX8_firstBeams_11 : decode cX8_firstBeams 11 = .ok (.if_icmp .ge 21, 3) := by decide +kernel
theorem dX8_firstBeams_14 : decode cX8_firstBeams 14 = .ok (.aload_n 0, 1) := by decide +kernel
theorem dX8_firstBeams_15 : decode cX8_firstBeams 15 = .ok (.getfield 41, 3) := by decide +kernel
theorem dX8_firstBeams_18 : decode cX8_firstBeams 18 = .ok (.iload_n 3, 1) := by decide +kernel
theorem dX8_firstBeams_19 : decode cX8_firstBeams 19 = .ok (.iaload, 1) := by decide +kernel
theorem dX8_firstBeams_20 : decode cX8_firstBeams 20 = .ok (.iload_n 1, 1) := by decide +kernel
theorem dX8_firstBeams_21 : decode cX8_firstBeams 21 = .ok (.if_icmp .ne 5, 3) := by decide +kernel
theorem dX8_firstBeams_24 : decode cX8_firstBeams 24 = .ok (.iload_n 3, 1) := by decide +kernel
theorem dX8_firstBeams_25 : decode cX8_firstBeams 25 = .ok (.ireturn, 1) := by decide +kernel
theorem dX8_firstBeams_26 : decode cX8_firstBeams 26 = .ok (.iinc 3 1, 3) := by decide +kernel
theorem dX8_firstBeams_29 : decode cX8_firstBeams 29 = .ok (.goto (-23), 3) := by decide +kernel
theorem dX8_firstBeams_32 : decode cX8_firstBeams 32 = .ok (.iconst (-1), 1) := by decide +kernel
theorem dX8_firstBeams_33 : decode cX8_firstBeams 33 = .ok (.ireturn, 1) := by decide +kernel
theorem dX8_ahead_0 : decode cX8_ahead 0 = .ok (.iload_n 2, 1) := by decide +kernel
theorem dX8_ahead_1 : decode cX8_ahead 1 = .ok (.aload_n 0, 1) := by decide +kernel
theorem dX8_ahead_2 : decode cX8_ahead 2 = .ok (.getfield 37, 3) := by decide +kernel
theorem dX8_ahead_5 : decode cX8_ahead 5 = .ok (.iload_n 1, 1) := by decide +kernel
theorem dX8_ahead_6 : decode cX8_ahead 6 = .ok (.iaload, 1) := by decide +kernel
theorem dX8_ahead_7 : decode cX8_ahead 7 = .ok (.isub, 1) := by decide +kernel
theorem dX8_ahead_8 : decode cX8_ahead 8 = .ok (.aload_n 0, 1) := by decide +kernel
theorem dX8_ahead_9 : decode cX8_ahead 9 = .ok (.getfield 59, 3) := by decide +kernel
theorem dX8_ahead_12 : decode cX8_ahead 12 = .ok (.imul, 1) := by decide +kernel
theorem dX8_ahead_13 : decode cX8_ahead 13 = .ok (.ireturn, 1) := by decide +kernel
theorem dX8_seenIn_0 : decode cX8_seenIn 0 = .ok (.iconst 0, 1) := by decide +kernel
theorem dX8_seenIn_1 : decode cX8_seenIn 1 = .ok (.istore 4, 2) := by decide +kernel
theorem dX8_seenIn_3 : decode cX8_seenIn 3 = .ok (.iload 4, 2) := by decide +kernel
theorem dX8_seenIn_5 : decode cX8_seenIn 5 = .ok (.aload_n 0, 1) := by decide +kernel
theorem dX8_seenIn_6 : decode cX8_seenIn 6 = .ok (.getfield 34, 3) := by decide +kernel
theorem dX8_seenIn_9 : decode cX8_seenIn 9 = .ok (.if_icmp .ge 65, 3) := by decide +kernel
theorem dX8_seenIn_12 : decode cX8_seenIn 12 = .ok (.aload_n 0, 1) := by decide +kernel
theorem dX8_seenIn_13 : decode cX8_seenIn 13 = .ok (.iload 4, 2) := by decide +kernel
theorem dX8_seenIn_15 : decode cX8_seenIn 15 = .ok (.iload_n 2, 1) := by decide +kernel
theorem dX8_seenIn_16 : decode cX8_seenIn 16 = .ok (.invokevirtual 93, 3) := by decide +kernel
theorem dX8_seenIn_19 : decode cX8_seenIn 19 = .ok (.istore 5, 2) := by decide +kernel
theorem dX8_seenIn_21 : decode cX8_seenIn 21 = .ok (.iload 5, 2) := by decide +kernel
theorem dX8_seenIn_23 : decode cX8_seenIn 23 = .ok (.ifCond .lt 45, 3) := by decide +kernel
theorem dX8_seenIn_26 : decode cX8_seenIn 26 = .ok (.aload_n 0, 1) := by decide +kernel
theorem dX8_seenIn_27 : decode cX8_seenIn 27 = .ok (.getfield 47, 3) := by decide +kernel
theorem dX8_seenIn_30 : decode cX8_seenIn 30 = .ok (.iload 4, 2) := by decide +kernel
theorem dX8_seenIn_32 : decode cX8_seenIn 32 = .ok (.iaload, 1) := by decide +kernel
theorem dX8_seenIn_33 : decode cX8_seenIn 33 = .ok (.ifCond .eq 35, 3) := by decide +kernel
theorem dX8_seenIn_36 : decode cX8_seenIn 36 = .ok (.iload 5, 2) := by decide +kernel
theorem dX8_seenIn_38 : decode cX8_seenIn 38 = .ok (.aload_n 0, 1) := by decide +kernel
theorem dX8_seenIn_39 : decode cX8_seenIn 39 = .ok (.getfield 47, 3) := by decide +kernel
theorem dX8_seenIn_42 : decode cX8_seenIn 42 = .ok (.iload 4, 2) := by decide +kernel
theorem dX8_seenIn_44 : decode cX8_seenIn 44 = .ok (.iaload, 1) := by decide +kernel
theorem dX8_seenIn_45 : decode cX8_seenIn 45 = .ok (.iload_n 3, 1) := by decide +kernel
theorem dX8_seenIn_46 : decode cX8_seenIn 46 = .ok (.iadd, 1) := by decide +kernel
theorem dX8_seenIn_47 : decode cX8_seenIn 47 = .ok (.if_icmp .gt 21, 3) := by decide +kernel
theorem dX8_seenIn_50 : decode cX8_seenIn 50 = .ok (.aload_n 1, 1) := by decide +kernel
theorem dX8_seenIn_51 : decode cX8_seenIn 51 = .ok (.aload_n 0, 1) := by decide +kernel
theorem dX8_seenIn_52 : decode cX8_seenIn 52 = .ok (.getfield 37, 3) := by decide +kernel
theorem dX8_seenIn_55 : decode cX8_seenIn 55 = .ok (.iload 4, 2) := by decide +kernel
theorem dX8_seenIn_57 : decode cX8_seenIn 57 = .ok (.iaload, 1) := by decide +kernel
theorem dX8_seenIn_58 : decode cX8_seenIn 58 = .ok (.iload_n 2, 1) := by decide +kernel
theorem dX8_seenIn_59 : decode cX8_seenIn 59 = .ok (.invokevirtual 96, 3) := by decide +kernel
theorem dX8_seenIn_62 : decode cX8_seenIn 62 = .ok (.ifCond .ne 6, 3) := by decide +kernel
theorem dX8_seenIn_65 : decode cX8_seenIn 65 = .ok (.iload 4, 2) := by decide +kernel
theorem dX8_seenIn_67 : decode cX8_seenIn 67 = .ok (.ireturn, 1) := by decide +kernel
theorem dX8_seenIn_68 : decode cX8_seenIn 68 = .ok (.iinc 4 1, 3) := by decide +kernel
theorem dX8_seenIn_71 : decode cX8_seenIn 71 = .ok (.goto (-68), 3) := by decide +kernel
theorem dX8_seenIn_74 : decode cX8_seenIn 74 = .ok (.iconst (-1), 1) := by decide +kernel
theorem dX8_seenIn_75 : decode cX8_seenIn 75 = .ok (.ireturn, 1) := by decide +kernel
theorem dX8_reachedIn_0 : decode cX8_reachedIn 0 = .ok (.iconst 0, 1) := by decide +kernel
theorem dX8_reachedIn_1 : decode cX8_reachedIn 1 = .ok (.istore_n 2, 1) := by decide +kernel
theorem dX8_reachedIn_2 : decode cX8_reachedIn 2 = .ok (.iload_n 2, 1) := by decide +kernel
theorem dX8_reachedIn_3 : decode cX8_reachedIn 3 = .ok (.aload_n 0, 1) := by decide +kernel
theorem dX8_reachedIn_4 : decode cX8_reachedIn 4 = .ok (.getfield 34, 3) := by decide +kernel
theorem dX8_reachedIn_7 : decode cX8_reachedIn 7 = .ok (.if_icmp .ge 38, 3) := by decide +kernel
theorem dX8_reachedIn_10 : decode cX8_reachedIn 10 = .ok (.aload_n 0, 1) := by decide +kernel
theorem dX8_reachedIn_11 : decode cX8_reachedIn 11 = .ok (.iload_n 2, 1) := by decide +kernel
theorem dX8_reachedIn_12 : decode cX8_reachedIn 12 = .ok (.iload_n 1, 1) := by decide +kernel
theorem dX8_reachedIn_13 : decode cX8_reachedIn 13 = .ok (.invokevirtual 93, 3) := by decide +kernel
theorem dX8_reachedIn_16 : decode cX8_reachedIn 16 = .ok (.istore_n 3, 1) := by decide +kernel
theorem dX8_reachedIn_17 : decode cX8_reachedIn 17 = .ok (.iload_n 3, 1) := by decide +kernel
theorem dX8_reachedIn_18 : decode cX8_reachedIn 18 = .ok (.aload_n 0, 1) := by decide +kernel
theorem dX8_reachedIn_19 : decode cX8_reachedIn 19 = .ok (.getfield 19, 3) := by decide +kernel
theorem dX8_reachedIn_22 : decode cX8_reachedIn 22 = .ok (.if_icmp .gt 17, 3) := by decide +kernel
theorem dX8_reachedIn_25 : decode cX8_reachedIn 25 = .ok (.iload_n 3, 1) := by decide +kernel
theorem dX8_reachedIn_26 : decode cX8_reachedIn 26 = .ok (.ifCond .gt 11, 3) := by decide +kernel
theorem dX8_reachedIn_29 : decode cX8_reachedIn 29 = .ok (.iload_n 3, 1) := by decide +kernel
theorem dX8_reachedIn_30 : decode cX8_reachedIn 30 = .ok (.ifCond .ne 9, 3) := by decide +kernel
theorem dX8_reachedIn_33 : decode cX8_reachedIn 33 = .ok (.iload_n 2, 1) := by decide +kernel
theorem dX8_reachedIn_34 : decode cX8_reachedIn 34 = .ok (.ifCond .ne 5, 3) := by decide +kernel
theorem dX8_reachedIn_37 : decode cX8_reachedIn 37 = .ok (.iload_n 2, 1) := by decide +kernel
theorem dX8_reachedIn_38 : decode cX8_reachedIn 38 = .ok (.ireturn, 1) := by decide +kernel
theorem dX8_reachedIn_39 : decode cX8_reachedIn 39 = .ok (.iinc 2 1, 3) := by decide +kernel
theorem dX8_reachedIn_42 : decode cX8_reachedIn 42 = .ok (.goto (-40), 3) := by decide +kernel
theorem dX8_reachedIn_45 : decode cX8_reachedIn 45 = .ok (.iconst (-1), 1) := by decide +kernel
theorem dX8_reachedIn_46 : decode cX8_reachedIn 46 = .ok (.ireturn, 1) := by decide +kernel
theorem dX8_doesHit_0 : decode cX8_doesHit 0 = .ok (.aload_n 0, 1) := by decide +kernel
theorem dX8_doesHit_1 : decode cX8_doesHit 1 = .ok (.iload_n 2, 1) := by decide +kernel
theorem dX8_doesHit_2 : decode cX8_doesHit 2 = .ok (.invokevirtual 100, 3) := by decide +kernel
theorem dX8_doesHit_5 : decode cX8_doesHit 5 = .ok (.istore 4, 2) := by decide +kernel
theorem dX8_doesHit_7 : decode cX8_doesHit 7 = .ok (.iload 4, 2) := by decide +kernel
theorem dX8_doesHit_9 : decode cX8_doesHit 9 = .ok (.iconst (-1), 1) := by decide +kernel
theorem dX8_doesHit_10 : decode cX8_doesHit 10 = .ok (.if_icmp .ne 5, 3) := by decide +kernel
theorem dX8_doesHit_13 : decode cX8_doesHit 13 = .ok (.iconst 0, 1) := by decide +kernel
theorem dX8_doesHit_14 : decode cX8_doesHit 14 = .ok (.ireturn, 1) := by decide +kernel
theorem dX8_doesHit_15 : decode cX8_doesHit 15 = .ok (.aload_n 0, 1) := by decide +kernel
theorem dX8_doesHit_16 : decode cX8_doesHit 16 = .ok (.aload_n 1, 1) := by decide +kernel
theorem dX8_doesHit_17 : decode cX8_doesHit 17 = .ok (.iload_n 2, 1) := by decide +kernel
theorem dX8_doesHit_18 : decode cX8_doesHit 18 = .ok (.iload_n 3, 1) := by decide +kernel
theorem dX8_doesHit_19 : decode cX8_doesHit 19 = .ok (.invokevirtual 103, 3) := by decide +kernel
theorem dX8_doesHit_22 : decode cX8_doesHit 22 = .ok (.istore 5, 2) := by decide +kernel
theorem dX8_doesHit_24 : decode cX8_doesHit 24 = .ok (.iload 5, 2) := by decide +kernel
theorem dX8_doesHit_26 : decode cX8_doesHit 26 = .ok (.iconst (-1), 1) := by decide +kernel
theorem dX8_doesHit_27 : decode cX8_doesHit 27 = .ok (.if_icmp .eq 27, 3) := by decide +kernel
theorem dX8_doesHit_30 : decode cX8_doesHit 30 = .ok (.iload 5, 2) := by decide +kernel
theorem dX8_doesHit_32 : decode cX8_doesHit 32 = .ok (.iload 4, 2) := by decide +kernel
theorem dX8_doesHit_34 : decode cX8_doesHit 34 = .ok (.if_icmp .gt 20, 3) := by decide +kernel
theorem dX8_doesHit_37 : decode cX8_doesHit 37 = .ok (.aload_n 0, 1) := by decide +kernel
theorem dX8_doesHit_38 : decode cX8_doesHit 38 = .ok (.iload 5, 2) := by decide +kernel
theorem dX8_doesHit_40 : decode cX8_doesHit 40 = .ok (.iload_n 2, 1) := by decide +kernel
theorem dX8_doesHit_41 : decode cX8_doesHit 41 = .ok (.invokevirtual 93, 3) := by decide +kernel
theorem dX8_doesHit_44 : decode cX8_doesHit 44 = .ok (.aload_n 0, 1) := by decide +kernel
theorem dX8_doesHit_45 : decode cX8_doesHit 45 = .ok (.getfield 50, 3) := by decide +kernel
theorem dX8_doesHit_48 : decode cX8_doesHit 48 = .ok (.iload 4, 2) := by decide +kernel
theorem dX8_doesHit_50 : decode cX8_doesHit 50 = .ok (.iaload, 1) := by decide +kernel
theorem dX8_doesHit_51 : decode cX8_doesHit 51 = .ok (.if_icmp .ge 7, 3) := by decide +kernel
theorem dX8_doesHit_54 : decode cX8_doesHit 54 = .ok (.iconst 1, 1) := by decide +kernel
theorem dX8_doesHit_55 : decode cX8_doesHit 55 = .ok (.goto 4, 3) := by decide +kernel
theorem dX8_doesHit_58 : decode cX8_doesHit 58 = .ok (.iconst 0, 1) := by decide +kernel
theorem dX8_doesHit_59 : decode cX8_doesHit 59 = .ok (.ireturn, 1) := by decide +kernel
theorem dJ6_bitCount_0f7a4_0 : decode cJ6_bitCount_0f7a4 0 = .ok (.iload_n 0, 1) := by decide +kernel
theorem dJ6_bitCount_0f7a4_1 : decode cJ6_bitCount_0f7a4 1 = .ok (.iload_n 0, 1) := by decide +kernel
theorem dJ6_bitCount_0f7a4_2 : decode cJ6_bitCount_0f7a4 2 = .ok (.iconst 1, 1) := by decide +kernel
theorem dJ6_bitCount_0f7a4_3 : decode cJ6_bitCount_0f7a4 3 = .ok (.iushr, 1) := by decide +kernel
theorem dJ6_bitCount_0f7a4_4 : decode cJ6_bitCount_0f7a4 4 = .ok (.ldc_w 265, 3) := by decide +kernel
theorem dJ6_bitCount_0f7a4_7 : decode cJ6_bitCount_0f7a4 7 = .ok (.iand, 1) := by decide +kernel
theorem dJ6_bitCount_0f7a4_8 : decode cJ6_bitCount_0f7a4 8 = .ok (.isub, 1) := by decide +kernel
theorem dJ6_bitCount_0f7a4_9 : decode cJ6_bitCount_0f7a4 9 = .ok (.istore_n 0, 1) := by decide +kernel
theorem dJ6_bitCount_0f7a4_10 : decode cJ6_bitCount_0f7a4 10 = .ok (.iload_n 0, 1) := by decide +kernel
theorem dJ6_bitCount_0f7a4_11 : decode cJ6_bitCount_0f7a4 11 = .ok (.ldc_w 266, 3) := by decide +kernel
theorem dJ6_bitCount_0f7a4_14 : decode cJ6_bitCount_0f7a4 14 = .ok (.iand, 1) := by decide +kernel
theorem dJ6_bitCount_0f7a4_15 : decode cJ6_bitCount_0f7a4 15 = .ok (.iload_n 0, 1) := by decide +kernel
theorem dJ6_bitCount_0f7a4_16 : decode cJ6_bitCount_0f7a4 16 = .ok (.iconst 2, 1) := by decide +kernel
theorem dJ6_bitCount_0f7a4_17 : decode cJ6_bitCount_0f7a4 17 = .ok (.iushr, 1) := by decide +kernel
theorem dJ6_bitCount_0f7a4_18 : decode cJ6_bitCount_0f7a4 18 = .ok (.ldc_w 266, 3) := by decide +kernel
theorem dJ6_bitCount_0f7a4_21 : decode cJ6_bitCount_0f7a4 21 = .ok (.iand, 1) := by decide +kernel
theorem dJ6_bitCount_0f7a4_22 : decode cJ6_bitCount_0f7a4 22 = .ok (.iadd, 1) := by decide +kernel
theorem dJ6_bitCount_0f7a4_23 : decode cJ6_bitCount_0f7a4 23 = .ok (.istore_n 0, 1) := by decide +kernel
theorem dJ6_bitCount_0f7a4_24 : decode cJ6_bitCount_0f7a4 24 = .ok (.iload_n 0, 1) := by decide +kernel
theorem dJ6_bitCount_0f7a4_25 : decode cJ6_bitCount_0f7a4 25 = .ok (.iload_n 0, 1) := by decide +kernel
theorem dJ6_bitCount_0f7a4_26 : decode cJ6_bitCount_0f7a4 26 = .ok (.iconst 4, 1) := by decide +kernel
theorem dJ6_bitCount_0f7a4_27 : decode cJ6_bitCount_0f7a4 27 = .ok (.iushr, 1) := by decide +kernel
theorem dJ6_bitCount_0f7a4_28 : decode cJ6_bitCount_0f7a4 28 = .ok (.iadd, 1) := by decide +kernel
theorem dJ6_bitCount_0f7a4_29 : decode cJ6_bitCount_0f7a4 29 = .ok (.ldc_w 267, 3) := by decide +kernel
theorem dJ6_bitCount_0f7a4_32 : decode cJ6_bitCount_0f7a4 32 = .ok (.iand, 1) := by decide +kernel
theorem dJ6_bitCount_0f7a4_33 : decode cJ6_bitCount_0f7a4 33 = .ok (.istore_n 0, 1) := by decide +kernel
theorem dJ6_bitCount_0f7a4_34 : decode cJ6_bitCount_0f7a4 34 = .ok (.iload_n 0, 1) := by decide +kernel
theorem dJ6_bitCount_0f7a4_35 : decode cJ6_bitCount_0f7a4 35 = .ok (.iload_n 0, 1) := by decide +kernel
theorem dJ6_bitCount_0f7a4_36 : decode cJ6_bitCount_0f7a4 36 = .ok (.bipush 8, 2) := by decide +kernel
theorem dJ6_bitCount_0f7a4_38 : decode cJ6_bitCount_0f7a4 38 = .ok (.iushr, 1) := by decide +kernel
theorem dJ6_bitCount_0f7a4_39 : decode cJ6_bitCount_0f7a4 39 = .ok (.iadd, 1) := by decide +kernel
theorem dJ6_bitCount_0f7a4_40 : decode cJ6_bitCount_0f7a4 40 = .ok (.istore_n 0, 1) := by decide +kernel
theorem dJ6_bitCount_0f7a4_41 : decode cJ6_bitCount_0f7a4 41 = .ok (.iload_n 0, 1) := by decide +kernel
theorem dJ6_bitCount_0f7a4_42 : decode cJ6_bitCount_0f7a4 42 = .ok (.iload_n 0, 1) := by decide +kernel
theorem dJ6_bitCount_0f7a4_43 : decode cJ6_bitCount_0f7a4 43 = .ok (.bipush 16, 2) := by decide +kernel
theorem dJ6_bitCount_0f7a4_45 : decode cJ6_bitCount_0f7a4 45 = .ok (.iushr, 1) := by decide +kernel
theorem dJ6_bitCount_0f7a4_46 : decode cJ6_bitCount_0f7a4 46 = .ok (.iadd, 1) := by decide +kernel
theorem dJ6_bitCount_0f7a4_47 : decode cJ6_bitCount_0f7a4 47 = .ok (.istore_n 0, 1) := by decide +kernel
theorem dJ6_bitCount_0f7a4_48 : decode cJ6_bitCount_0f7a4 48 = .ok (.iload_n 0, 1) := by decide +kernel
theorem dJ6_bitCount_0f7a4_49 : decode cJ6_bitCount_0f7a4 49 = .ok (.bipush 63, 2) := by decide +kernel
theorem dJ6_bitCount_0f7a4_51 : decode cJ6_bitCount_0f7a4 51 = .ok (.iand, 1) := by decide +kernel
theorem dJ6_bitCount_0f7a4_52 : decode cJ6_bitCount_0f7a4 52 = .ok (.ireturn, 1) := by decide +kernel
theorem dJ0_length_8abf5_0 : decode cJ0_length_8abf5 0 = .ok (.aload_n 0, 1) := by decide +kernel
theorem dJ0_length_8abf5_1 : decode cJ0_length_8abf5 1 = .ok (.getfield 9, 3) := by decide +kernel
theorem dJ0_length_8abf5_4 : decode cJ0_length_8abf5 4 = .ok (.arraylength, 1) := by decide +kernel
theorem dJ0_length_8abf5_5 : decode cJ0_length_8abf5 5 = .ok (.aload_n 0, 1) := by decide +kernel
theorem dJ0_length_8abf5_6 : decode cJ0_length_8abf5 6 = .ok (.invokevirtual 335, 3) := by decide +kernel
theorem dJ0_length_8abf5_9 : decode cJ0_length_8abf5 9 = .ok (.ishr, 1) := by decide +kernel
theorem dJ0_length_8abf5_10 : decode cJ0_length_8abf5 10 = .ok (.ireturn, 1) := by decide +kernel
theorem dJ0_charAt_5068e_0 : decode cJ0_charAt_5068e 0 = .ok (.aload_n 0, 1) := by decide +kernel
theorem dJ0_charAt_5068e_1 : decode cJ0_charAt_5068e 1 = .ok (.invokevirtual 492, 3) := by decide +kernel
theorem dJ0_charAt_5068e_4 : decode cJ0_charAt_5068e 4 = .ok (.ifCond .eq 12, 3) := by decide +kernel
theorem dJ0_charAt_5068e_7 : decode cJ0_charAt_5068e 7 = .ok (.aload_n 0, 1) := by decide +kernel
theorem dJ0_charAt_5068e_8 : decode cJ0_charAt_5068e 8 = .ok (.getfield 9, 3) := by decide +kernel
theorem dJ0_charAt_5068e_11 : decode cJ0_charAt_5068e 11 = .ok (.iload_n 1, 1) := by decide +kernel
theorem dJ0_charAt_5068e_12 : decode cJ0_charAt_5068e 12 = .ok (.invokestatic 495, 3) := by decide +kernel
theorem dJ0_charAt_5068e_15 : decode cJ0_charAt_5068e 15 = .ok (.ireturn, 1) := by decide +kernel
theorem dJ0_charAt_5068e_16 : decode cJ0_charAt_5068e 16 = .ok (.aload_n 0, 1) := by decide +kernel
theorem dJ0_charAt_5068e_17 : decode cJ0_charAt_5068e 17 = .ok (.getfield 9, 3) := by decide +kernel
theorem dJ0_charAt_5068e_20 : decode cJ0_charAt_5068e 20 = .ok (.iload_n 1, 1) := by decide +kernel
theorem dJ0_charAt_5068e_21 : decode cJ0_charAt_5068e 21 = .ok (.invokestatic 498, 3) := by decide +kernel
theorem dJ0_charAt_5068e_24 : decode cJ0_charAt_5068e 24 = .ok (.ireturn, 1) := by decide +kernel
theorem dJ0_coder_7d493_0 : decode cJ0_coder_7d493 0 = .ok (.getstatic 38, 3) := by decide +kernel
theorem dJ0_coder_7d493_3 : decode cJ0_coder_7d493 3 = .ok (.ifCond .eq 10, 3) := by decide +kernel
theorem dJ0_coder_7d493_6 : decode cJ0_coder_7d493 6 = .ok (.aload_n 0, 1) := by decide +kernel
theorem dJ0_coder_7d493_7 : decode cJ0_coder_7d493 7 = .ok (.getfield 15, 3) := by decide +kernel
theorem dJ0_coder_7d493_10 : decode cJ0_coder_7d493 10 = .ok (.goto 4, 3) := by decide +kernel
theorem dJ0_coder_7d493_13 : decode cJ0_coder_7d493 13 = .ok (.iconst 1, 1) := by decide +kernel
theorem dJ0_coder_7d493_14 : decode cJ0_coder_7d493 14 = .ok (.ireturn, 1) := by decide +kernel
theorem dJ0_isLatin1_aae02_0 : decode cJ0_isLatin1_aae02 0 = .ok (.getstatic 38, 3) := by decide +kernel
theorem dJ0_isLatin1_aae02_3 : decode cJ0_isLatin1_aae02 3 = .ok (.ifCond .eq 14, 3) := by decide +kernel
theorem dJ0_isLatin1_aae02_6 : decode cJ0_isLatin1_aae02 6 = .ok (.aload_n 0, 1) := by decide +kernel
theorem dJ0_isLatin1_aae02_7 : decode cJ0_isLatin1_aae02 7 = .ok (.getfield 15, 3) := by decide +kernel
theorem dJ0_isLatin1_aae02_10 : decode cJ0_isLatin1_aae02 10 = .ok (.ifCond .ne 7, 3) := by decide +kernel
theorem dJ0_isLatin1_aae02_13 : decode cJ0_isLatin1_aae02 13 = .ok (.iconst 1, 1) := by decide +kernel
theorem dJ0_isLatin1_aae02_14 : decode cJ0_isLatin1_aae02 14 = .ok (.goto 4, 3) := by decide +kernel
theorem dJ0_isLatin1_aae02_17 : decode cJ0_isLatin1_aae02 17 = .ok (.iconst 0, 1) := by decide +kernel
theorem dJ0_isLatin1_aae02_18 : decode cJ0_isLatin1_aae02 18 = .ok (.ireturn, 1) := by decide +kernel
theorem dJ0_checkIndex_df160_0 : decode cJ0_checkIndex_df160 0 = .ok (.iload_n 0, 1) := by decide +kernel
theorem dJ0_checkIndex_df160_1 : decode cJ0_checkIndex_df160 1 = .ok (.iload_n 1, 1) := by decide +kernel
theorem dJ0_checkIndex_df160_2 : decode cJ0_checkIndex_df160 2 = .ok (.getstatic 1053, 3) := by decide +kernel
theorem dJ0_checkIndex_df160_5 : decode cJ0_checkIndex_df160 5 = .ok (.invokestatic 1059, 3) := by decide +kernel
theorem dJ0_checkIndex_df160_8 : decode cJ0_checkIndex_df160 8 = .ok (.pop, 1) := by decide +kernel
theorem dJ0_checkIndex_df160_9 : decode cJ0_checkIndex_df160 9 = .ok (.return_, 1) := by decide +kernel
theorem dJ1_charAt_3b067_0 : decode cJ1_charAt_3b067 0 = .ok (.iload_n 1, 1) := by decide +kernel
theorem dJ1_charAt_3b067_1 : decode cJ1_charAt_3b067 1 = .ok (.aload_n 0, 1) := by decide +kernel
theorem dJ1_charAt_3b067_2 : decode cJ1_charAt_3b067 2 = .ok (.arraylength, 1) := by decide +kernel
theorem dJ1_charAt_3b067_3 : decode cJ1_charAt_3b067 3 = .ok (.invokestatic 9, 3) := by decide +kernel
theorem dJ1_charAt_3b067_6 : decode cJ1_charAt_3b067 6 = .ok (.aload_n 0, 1) := by decide +kernel
theorem dJ1_charAt_3b067_7 : decode cJ1_charAt_3b067 7 = .ok (.iload_n 1, 1) := by decide +kernel
theorem dJ1_charAt_3b067_8 : decode cJ1_charAt_3b067 8 = .ok (.baload, 1) := by decide +kernel
theorem dJ1_charAt_3b067_9 : decode cJ1_charAt_3b067 9 = .ok (.sipush 255, 3) := by decide +kernel
theorem dJ1_charAt_3b067_12 : decode cJ1_charAt_3b067 12 = .ok (.iand, 1) := by decide +kernel
theorem dJ1_charAt_3b067_13 : decode cJ1_charAt_3b067 13 = .ok (.i2c, 1) := by decide +kernel
theorem dJ1_charAt_3b067_14 : decode cJ1_charAt_3b067 14 = .ok (.ireturn, 1) := by decide +kernel
theorem dJ3_checkIndex_8e157_0 : decode cJ3_checkIndex_8e157 0 = .ok (.iload_n 0, 1) := by decide +kernel
theorem dJ3_checkIndex_8e157_1 : decode cJ3_checkIndex_8e157 1 = .ok (.ifCond .lt 8, 3) := by decide +kernel
theorem dJ3_checkIndex_8e157_4 : decode cJ3_checkIndex_8e157 4 = .ok (.iload_n 0, 1) := by decide +kernel
theorem dJ3_checkIndex_8e157_5 : decode cJ3_checkIndex_8e157 5 = .ok (.iload_n 1, 1) := by decide +kernel
theorem dJ3_checkIndex_8e157_6 : decode cJ3_checkIndex_8e157 6 = .ok (.if_icmp .lt 10, 3) := by decide +kernel
theorem dJ3_checkIndex_8e157_9 : decode cJ3_checkIndex_8e157 9 = .ok (.aload_n 2, 1) := by decide +kernel
theorem dJ3_checkIndex_8e157_10 : decode cJ3_checkIndex_8e157 10 = .ok (.iload_n 0, 1) := by decide +kernel
theorem dJ3_checkIndex_8e157_11 : decode cJ3_checkIndex_8e157 11 = .ok (.iload_n 1, 1) := by decide +kernel
theorem dJ3_checkIndex_8e157_12 : decode cJ3_checkIndex_8e157 12 = .ok (.invokestatic 95, 3) := by decide +kernel
theorem dJ3_checkIndex_8e157_15 : decode cJ3_checkIndex_8e157 15 = .ok (.athrow, 1) := by decide +kernel
theorem dJ3_checkIndex_8e157_16 : decode cJ3_checkIndex_8e157 16 = .ok (.iload_n 0, 1) := by decide +kernel
theorem dJ3_checkIndex_8e157_17 : decode cJ3_checkIndex_8e157 17 = .ok (.ireturn, 1) := by decide +kernel
theorem wd_895 : Cond.methodLink RJ0 335 yJ0_coder_7d493 ∈ lw_tbl := ax_in4 (List.mem_of_getElem? (i := 9) rfl)
theorem wd_905 : Cond.methodLink RJ0 492 yJ0_isLatin1_aae02 ∈ lw_tbl := ax_in4 (List.mem_of_getElem? (i := 19) rfl)
theorem wd_909 : Cond.methodLink RJ0 495 yJ1_charAt_3b067 ∈ lw_tbl := ax_in4 (List.mem_of_getElem? (i := 23) rfl)
theorem wd_912 : Cond.methodLink RJ1 9 yJ0_checkIndex_df160 ∈ lw_tbl := ax_in4 (List.mem_of_getElem? (i := 26) rfl)
theorem wd_917 : Cond.methodLink RJ0 1059 yJ3_checkIndex_8e157 ∈ lw_tbl := ax_in4 (List.mem_of_getElem? (i := 31) rfl)
theorem wd_899 : Cond.fieldLink RJ0 38 "java/lang/String" "COMPACT_STRINGS" "Z" ∈ lw_tbl := ax_in4 (List.mem_of_getElem? (i := 13) rfl)
theorem wd_915 : Cond.fieldLink RJ0 1053 "jdk/internal/util/Preconditions" "SIOOBE_FORMATTER" "Ljava/util/function/BiFunction;" ∈ lw_tbl := ax_in4 (List.mem_of_getElem? (i := 29) rfl)
theorem wd_2244 : Cond.fieldLink RJ0 9 "java/lang/String" "value" "[B" ∈ lw_tbl := ax_in9 (List.mem_of_getElem? (i := 158) rfl)
theorem wd_2245 : Cond.fieldLink RJ0 15 "java/lang/String" "coder" "B" ∈ lw_tbl := ax_in9 (List.mem_of_getElem? (i := 159) rfl)
theorem wd_acs : Cond.static arraycopyName ∈ lw_tbl := ax_in3 (List.mem_of_getElem? (i := 111) rfl)
theorem wd_acn : Cond.native arraycopyName ∈ lw_tbl := ax_in3 (List.mem_of_getElem? (i := 112) rfl)
theorem wd_ac77 : Cond.methodLink RX1 77 arraycopyName ∈ lw_tbl := ax_in3 (List.mem_of_getElem? (i := 110) rfl)
abbrev kJ0_length_8abf5 : ax_K := (yJ0_length_8abf5, cJ0_length_8abf5, 1, (some .int))
theorem mJ0_length_8abf5 : ax_mv kJ0_length_8abf5 0 := ⟨⟨ax_in1 (List.mem_of_getElem? (i := 17) rfl), ax_in4 (List.mem_of_getElem? (i := 8) rfl), by decide +kernel, by decide +kernel, by decide⟩, ax_in4 (List.mem_of_getElem? (i := 6) rfl), ax_in4 (List.mem_of_getElem? (i := 7) rfl)⟩
abbrev kJ0_charAt_5068e : ax_K := (yJ0_charAt_5068e, cJ0_charAt_5068e, 2, (some .char))
theorem mJ0_charAt_5068e : ax_mv kJ0_charAt_5068e 1 := ⟨⟨ax_in1 (List.mem_of_getElem? (i := 17) rfl), ax_in4 (List.mem_of_getElem? (i := 18) rfl), by decide +kernel, by decide +kernel, by decide⟩, ax_in4 (List.mem_of_getElem? (i := 16) rfl), ax_in4 (List.mem_of_getElem? (i := 17) rfl)⟩
abbrev kJ0_coder_7d493 : ax_K := (yJ0_coder_7d493, cJ0_coder_7d493, 1, (some .byte))
theorem mJ0_coder_7d493 : ax_mv kJ0_coder_7d493 0 := ⟨⟨ax_in1 (List.mem_of_getElem? (i := 17) rfl), ax_in4 (List.mem_of_getElem? (i := 12) rfl), by decide +kernel, by decide +kernel, by decide⟩, ax_in4 (List.mem_of_getElem? (i := 10) rfl), ax_in4 (List.mem_of_getElem? (i := 11) rfl)⟩
abbrev kJ0_isLatin1_aae02 : ax_K := (yJ0_isLatin1_aae02, cJ0_isLatin1_aae02, 1, (some .boolean))
theorem mJ0_isLatin1_aae02 : ax_mv kJ0_isLatin1_aae02 0 := ⟨⟨ax_in1 (List.mem_of_getElem? (i := 17) rfl), ax_in4 (List.mem_of_getElem? (i := 22) rfl), by decide +kernel, by decide +kernel, by decide⟩, ax_in4 (List.mem_of_getElem? (i := 20) rfl), ax_in4 (List.mem_of_getElem? (i := 21) rfl)⟩
abbrev kJ0_checkIndex_df160 : ax_K := (yJ0_checkIndex_df160, cJ0_checkIndex_df160, 2, none)
theorem mJ0_checkIndex_df160 : ax_ms kJ0_checkIndex_df160 2 := ⟨⟨ax_in1 (List.mem_of_getElem? (i := 17) rfl), ax_in4 (List.mem_of_getElem? (i := 28) rfl), by decide +kernel, by decide +kernel, by decide⟩, ax_in4 (List.mem_of_getElem? (i := 27) rfl)⟩
abbrev kJ1_charAt_3b067 : ax_K := (yJ1_charAt_3b067, cJ1_charAt_3b067, 2, (some .char))
theorem mJ1_charAt_3b067 : ax_ms kJ1_charAt_3b067 2 := ⟨⟨ax_in1 (List.mem_of_getElem? (i := 18) rfl), ax_in4 (List.mem_of_getElem? (i := 25) rfl), by decide +kernel, by decide +kernel, by decide⟩, ax_in4 (List.mem_of_getElem? (i := 24) rfl)⟩
abbrev kJ3_checkIndex_8e157 : ax_K := (yJ3_checkIndex_8e157, cJ3_checkIndex_8e157, 3, (some .int))
theorem mJ3_checkIndex_8e157 : ax_ms kJ3_checkIndex_8e157 3 := ⟨⟨ax_in1 (List.mem_of_getElem? (i := 19) rfl), ax_in4 (List.mem_of_getElem? (i := 33) rfl), by decide +kernel, by decide +kernel, by decide⟩, ax_in4 (List.mem_of_getElem? (i := 32) rfl)⟩
