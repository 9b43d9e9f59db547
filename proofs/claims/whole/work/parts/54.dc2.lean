/-! ===== what stands at each place: the class, its face ===== -/
theorem dX9_init_0 : decode cX9_init 0 = .ok (.aload_n 0, 1) := by decide +kernel
theorem dX9_init_1 : decode cX9_init 1 = .ok (.invokespecial 1, 3) := by decide +kernel
theorem dX9_init_4 : decode cX9_init 4 = .ok (.aload_n 0, 1) := by decide +kernel
theorem dX9_init_5 : decode cX9_init 5 = .ok (.new 7, 3) := by decide +kernel
theorem dX9_init_8 : decode cX9_init 8 = .ok (.dup, 1) := by decide +kernel
theorem dX9_init_9 : decode cX9_init 9 = .ok (.invokespecial 9, 3) := by decide +kernel
theorem dX9_init_12 : decode cX9_init 12 = .ok (.putfield 10, 3) := by decide +kernel
theorem dX9_init_15 : decode cX9_init 15 = .ok (.aload_n 0, 1) := by decide +kernel
theorem dX9_init_16 : decode cX9_init 16 = .ok (.new 16, 3) := by decide +kernel
theorem dX9_init_19 : decode cX9_init 19 = .ok (.dup, 1) := by decide +kernel
theorem dX9_init_20 : decode cX9_init 20 = .ok (.invokespecial 18, 3) := by decide +kernel
theorem dX9_init_23 : decode cX9_init 23 = .ok (.putfield 19, 3) := by decide +kernel
theorem dX9_init_26 : decode cX9_init 26 = .ok (.aload_n 0, 1) := by decide +kernel
theorem dX9_init_27 : decode cX9_init 27 = .ok (.new 23, 3) := by decide +kernel
theorem dX9_init_30 : decode cX9_init 30 = .ok (.dup, 1) := by decide +kernel
theorem dX9_init_31 : decode cX9_init 31 = .ok (.invokespecial 25, 3) := by decide +kernel
theorem dX9_init_34 : decode cX9_init 34 = .ok (.putfield 26, 3) := by decide +kernel
theorem dX9_init_37 : decode cX9_init 37 = .ok (.aload_n 0, 1) := by decide +kernel
theorem dX9_init_38 : decode cX9_init 38 = .ok (.new 30, 3) := by decide +kernel
theorem dX9_init_41 : decode cX9_init 41 = .ok (.dup, 1) := by decide +kernel
theorem dX9_init_42 : decode cX9_init 42 = .ok (.invokespecial 32, 3) := by decide +kernel
theorem dX9_init_45 : decode cX9_init 45 = .ok (.putfield 33, 3) := by decide +kernel
theorem dX9_init_48 : decode cX9_init 48 = .ok (.aload_n 0, 1) := by decide +kernel
theorem dX9_init_49 : decode cX9_init 49 = .ok (.new 37, 3) := by decide +kernel
theorem dX9_init_52 : decode cX9_init 52 = .ok (.dup, 1) := by decide +kernel
theorem dX9_init_53 : decode cX9_init 53 = .ok (.invokespecial 39, 3) := by decide +kernel
theorem dX9_init_56 : decode cX9_init 56 = .ok (.putfield 40, 3) := by decide +kernel
theorem dX9_init_59 : decode cX9_init 59 = .ok (.aload_n 0, 1) := by decide +kernel
theorem dX9_init_60 : decode cX9_init 60 = .ok (.new 37, 3) := by decide +kernel
theorem dX9_init_63 : decode cX9_init 63 = .ok (.dup, 1) := by decide +kernel
theorem dX9_init_64 : decode cX9_init 64 = .ok (.invokespecial 39, 3) := by decide +kernel
theorem dX9_init_67 : decode cX9_init 67 = .ok (.putfield 44, 3) := by decide +kernel
theorem dX9_init_70 : decode cX9_init 70 = .ok (.aload_n 0, 1) := by decide +kernel
theorem dX9_init_71 : decode cX9_init 71 = .ok (.new 47, 3) := by decide +kernel
theorem dX9_init_74 : decode cX9_init 74 = .ok (.dup, 1) := by decide +kernel
theorem dX9_init_75 : decode cX9_init 75 = .ok (.invokespecial 49, 3) := by decide +kernel
theorem dX9_init_78 : decode cX9_init 78 = .ok (.putfield 50, 3) := by decide +kernel
theorem dX9_init_81 : decode cX9_init 81 = .ok (.aload_n 0, 1) := by decide +kernel
theorem dX9_init_82 : decode cX9_init 82 = .ok (.iconst 0, 1) := by decide +kernel
theorem dX9_init_83 : decode cX9_init 83 = .ok (.putfield 54, 3) := by decide +kernel
theorem dX9_init_86 : decode cX9_init 86 = .ok (.aload_n 0, 1) := by decide +kernel
theorem dX9_init_87 : decode cX9_init 87 = .ok (.new 47, 3) := by decide +kernel
theorem dX9_init_90 : decode cX9_init 90 = .ok (.dup, 1) := by decide +kernel
theorem dX9_init_91 : decode cX9_init 91 = .ok (.invokespecial 49, 3) := by decide +kernel
theorem dX9_init_94 : decode cX9_init 94 = .ok (.putfield 58, 3) := by decide +kernel
theorem dX9_init_97 : decode cX9_init 97 = .ok (.aload_n 0, 1) := by decide +kernel
theorem dX9_init_98 : decode cX9_init 98 = .ok (.new 61, 3) := by decide +kernel
theorem dX9_init_101 : decode cX9_init 101 = .ok (.dup, 1) := by decide +kernel
theorem dX9_init_102 : decode cX9_init 102 = .ok (.invokespecial 63, 3) := by decide +kernel
theorem dX9_init_105 : decode cX9_init 105 = .ok (.putfield 64, 3) := by decide +kernel
theorem dX9_init_108 : decode cX9_init 108 = .ok (.aload_n 0, 1) := by decide +kernel
theorem dX9_init_109 : decode cX9_init 109 = .ok (.iconst (-1), 1) := by decide +kernel
theorem dX9_init_110 : decode cX9_init 110 = .ok (.putfield 68, 3) := by decide +kernel
theorem dX9_init_113 : decode cX9_init 113 = .ok (.aload_n 0, 1) := by decide +kernel
theorem dX9_init_114 : decode cX9_init 114 = .ok (.new 61, 3) := by decide +kernel
theorem dX9_init_117 : decode cX9_init 117 = .ok (.dup, 1) := by decide +kernel
theorem dX9_init_118 : decode cX9_init 118 = .ok (.invokespecial 63, 3) := by decide +kernel
theorem dX9_init_121 : decode cX9_init 121 = .ok (.putfield 72, 3) := by decide +kernel
theorem dX9_init_124 : decode cX9_init 124 = .ok (.aload_n 0, 1) := by decide +kernel
theorem dX9_init_125 : decode cX9_init 125 = .ok (.bipush 21, 2) := by decide +kernel
theorem dX9_init_127 : decode cX9_init 127 = .ok (.newarray .int, 2) := by decide +kernel
theorem dX9_init_129 : decode cX9_init 129 = .ok (.putfield 75, 3) := by decide +kernel
theorem dX9_init_132 : decode cX9_init 132 = .ok (.aload_n 0, 1) := by decide +kernel
theorem dX9_init_133 : decode cX9_init 133 = .ok (.new 79, 3) := by decide +kernel
theorem dX9_init_136 : decode cX9_init 136 = .ok (.dup, 1) := by decide +kernel
theorem dX9_init_137 : decode cX9_init 137 = .ok (.invokespecial 81, 3) := by decide +kernel
theorem dX9_init_140 : decode cX9_init 140 = .ok (.putfield 82, 3) := by decide +kernel
theorem dX9_init_143 : decode cX9_init 143 = .ok (.aload_n 0, 1) := by decide +kernel
theorem dX9_init_144 : decode cX9_init 144 = .ok (.iconst 3, 1) := by decide +kernel
theorem dX9_init_145 : decode cX9_init 145 = .ok (.newarray .int, 2) := by decide +kernel
theorem dX9_init_147 : decode cX9_init 147 = .ok (.putfield 86, 3) := by decide +kernel
theorem dX9_init_150 : decode cX9_init 150 = .ok (.return_, 1) := by decide +kernel
theorem dX9_feed_0 : decode cX9_feed 0 = .ok (.aload_n 0, 1) := by decide +kernel
theorem dX9_feed_1 : decode cX9_feed 1 = .ok (.getfield 10, 3) := by decide +kernel
theorem dX9_feed_4 : decode cX9_feed 4 = .ok (.getfield 89, 3) := by decide +kernel
theorem dX9_feed_7 : decode cX9_feed 7 = .ok (.bipush 20, 2) := by decide +kernel
theorem dX9_feed_9 : decode cX9_feed 9 = .ok (.iadd, 1) := by decide +kernel
theorem dX9_feed_10 : decode cX9_feed 10 = .ok (.sipush 600, 3) := by decide +kernel
theorem dX9_feed_13 : decode cX9_feed 13 = .ok (.if_icmp .le 5, 3) := by decide +kernel
theorem dX9_feed_16 : decode cX9_feed 16 = .ok (.iconst (-1), 1) := by decide +kernel
theorem dX9_feed_17 : decode cX9_feed 17 = .ok (.ireturn, 1) := by decide +kernel
theorem dX9_feed_18 : decode cX9_feed 18 = .ok (.aload_n 0, 1) := by decide +kernel
theorem dX9_feed_19 : decode cX9_feed 19 = .ok (.getfield 10, 3) := by decide +kernel
theorem dX9_feed_22 : decode cX9_feed 22 = .ok (.iload_n 1, 1) := by decide +kernel
theorem dX9_feed_23 : decode cX9_feed 23 = .ok (.invokevirtual 92, 3) := by decide +kernel
theorem dX9_feed_26 : decode cX9_feed 26 = .ok (.aload_n 0, 1) := by decide +kernel
theorem dX9_feed_27 : decode cX9_feed 27 = .ok (.getfield 10, 3) := by decide +kernel
theorem dX9_feed_30 : decode cX9_feed 30 = .ok (.iload_n 2, 1) := by decide +kernel
theorem dX9_feed_31 : decode cX9_feed 31 = .ok (.invokevirtual 92, 3) := by decide +kernel
theorem dX9_feed_34 : decode cX9_feed 34 = .ok (.aload_n 0, 1) := by decide +kernel
theorem dX9_feed_35 : decode cX9_feed 35 = .ok (.getfield 10, 3) := by decide +kernel
theorem dX9_feed_38 : decode cX9_feed 38 = .ok (.iload_n 3, 1) := by decide +kernel
theorem dX9_feed_39 : decode cX9_feed 39 = .ok (.invokevirtual 92, 3) := by decide +kernel
theorem dX9_feed_42 : decode cX9_feed 42 = .ok (.aload_n 0, 1) := by decide +kernel
theorem dX9_feed_43 : decode cX9_feed 43 = .ok (.getfield 10, 3) := by decide +kernel
theorem dX9_feed_46 : decode cX9_feed 46 = .ok (.iload 4, 2) := by decide +kernel
theorem dX9_feed_48 : decode cX9_feed 48 = .ok (.invokevirtual 92, 3) := by decide +kernel
theorem dX9_feed_51 : decode cX9_feed 51 = .ok (.aload_n 0, 1) := by decide +kernel
theorem dX9_feed_52 : decode cX9_feed 52 = .ok (.getfield 10, 3) := by decide +kernel
theorem dX9_feed_55 : decode cX9_feed 55 = .ok (.iload 5, 2) := by decide +kernel
theorem dX9_feed_57 : decode cX9_feed 57 = .ok (.invokevirtual 92, 3) := by decide +kernel
theorem dX9_feed_60 : decode cX9_feed 60 = .ok (.aload_n 0, 1) := by decide +kernel
theorem dX9_feed_61 : decode cX9_feed 61 = .ok (.getfield 10, 3) := by decide +kernel
theorem dX9_feed_64 : decode cX9_feed 64 = .ok (.getfield 89, 3) := by decide +kernel
theorem dX9_feed_67 : decode cX9_feed 67 = .ok (.ireturn, 1) := by decide +kernel
theorem dX9_road_0 : decode cX9_road 0 = .ok (.aload_n 0, 1) := by decide +kernel
theorem dX9_road_1 : decode cX9_road 1 = .ok (.iload_n 1, 1) := by decide +kernel
theorem dX9_road_2 : decode cX9_road 2 = .ok (.sipush 600, 3) := by decide +kernel
theorem dX9_road_5 : decode cX9_road 5 = .ok (.invokevirtual 96, 3) := by decide +kernel
theorem dX9_road_8 : decode cX9_road 8 = .ok (.aload_n 0, 1) := by decide +kernel
theorem dX9_road_9 : decode cX9_road 9 = .ok (.getfield 26, 3) := by decide +kernel
theorem dX9_road_12 : decode cX9_road 12 = .ok (.aload_n 0, 1) := by decide +kernel
theorem dX9_road_13 : decode cX9_road 13 = .ok (.getfield 10, 3) := by decide +kernel
theorem dX9_road_16 : decode cX9_road 16 = .ok (.invokevirtual 100, 3) := by decide +kernel
theorem dX9_road_19 : decode cX9_road 19 = .ok (.ifCond .ne 11, 3) := by decide +kernel
theorem dX9_road_22 : decode cX9_road 22 = .ok (.aload_n 0, 1) := by decide +kernel
theorem dX9_road_23 : decode cX9_road 23 = .ok (.getfield 10, 3) := by decide +kernel
theorem dX9_road_26 : decode cX9_road 26 = .ok (.invokevirtual 104, 3) := by decide +kernel
theorem dX9_road_29 : decode cX9_road 29 = .ok (.ireturn, 1) := by decide +kernel
theorem dX9_road_30 : decode cX9_road 30 = .ok (.aload_n 0, 1) := by decide +kernel
theorem dX9_road_31 : decode cX9_road 31 = .ok (.getfield 19, 3) := by decide +kernel
theorem dX9_road_34 : decode cX9_road 34 = .ok (.getfield 108, 3) := by decide +kernel
theorem dX9_road_37 : decode cX9_road 37 = .ok (.astore_n 2, 1) := by decide +kernel
theorem dX9_road_38 : decode cX9_road 38 = .ok (.aload_n 0, 1) := by decide +kernel
theorem dX9_road_39 : decode cX9_road 39 = .ok (.getfield 19, 3) := by decide +kernel
theorem dX9_road_42 : decode cX9_road 42 = .ok (.aload_n 0, 1) := by decide +kernel
theorem dX9_road_43 : decode cX9_road 43 = .ok (.getfield 26, 3) := by decide +kernel
theorem dX9_road_46 : decode cX9_road 46 = .ok (.putfield 108, 3) := by decide +kernel
theorem dX9_road_49 : decode cX9_road 49 = .ok (.aload_n 0, 1) := by decide +kernel
theorem dX9_road_50 : decode cX9_road 50 = .ok (.aload_n 2, 1) := by decide +kernel
theorem dX9_road_51 : decode cX9_road 51 = .ok (.putfield 26, 3) := by decide +kernel
theorem dX9_road_54 : decode cX9_road 54 = .ok (.aload_n 0, 1) := by decide +kernel
theorem dX9_road_55 : decode cX9_road 55 = .ok (.getfield 19, 3) := by decide +kernel
theorem dX9_road_58 : decode cX9_road 58 = .ok (.invokevirtual 111, 3) := by decide +kernel
theorem dX9_road_61 : decode cX9_road 61 = .ok (.aload_n 0, 1) := by decide +kernel
theorem dX9_road_62 : decode cX9_road 62 = .ok (.getfield 40, 3) := by decide +kernel
theorem dX9_road_65 : decode cX9_road 65 = .ok (.iconst 0, 1) := by decide +kernel
theorem dX9_road_66 : decode cX9_road 66 = .ok (.putfield 114, 3) := by decide +kernel
theorem dX9_road_69 : decode cX9_road 69 = .ok (.aload_n 0, 1) := by decide +kernel
theorem dX9_road_70 : decode cX9_road 70 = .ok (.getfield 82, 3) := by decide +kernel
theorem dX9_road_73 : decode cX9_road 73 = .ok (.invokevirtual 117, 3) := by decide +kernel
theorem dX9_road_76 : decode cX9_road 76 = .ok (.aload_n 0, 1) := by decide +kernel
theorem dX9_road_77 : decode cX9_road 77 = .ok (.invokevirtual 120, 3) := by decide +kernel
theorem dX9_road_80 : decode cX9_road 80 = .ok (.aload_n 0, 1) := by decide +kernel
theorem dX9_road_81 : decode cX9_road 81 = .ok (.getfield 19, 3) := by decide +kernel
theorem dX9_road_84 : decode cX9_road 84 = .ok (.getfield 108, 3) := by decide +kernel
theorem dX9_road_87 : decode cX9_road 87 = .ok (.getfield 123, 3) := by decide +kernel
theorem dX9_road_90 : decode cX9_road 90 = .ok (.ireturn, 1) := by decide +kernel
theorem dX9_law_0 : decode cX9_law 0 = .ok (.aload_n 0, 1) := by decide +kernel
theorem dX9_law_1 : decode cX9_law 1 = .ok (.iload_n 1, 1) := by decide +kernel
theorem dX9_law_2 : decode cX9_law 2 = .ok (.sipush 150, 3) := by decide +kernel
theorem dX9_law_5 : decode cX9_law 5 = .ok (.invokevirtual 96, 3) := by decide +kernel
theorem dX9_law_8 : decode cX9_law 8 = .ok (.aload_n 0, 1) := by decide +kernel
theorem dX9_law_9 : decode cX9_law 9 = .ok (.getfield 33, 3) := by decide +kernel
theorem dX9_law_12 : decode cX9_law 12 = .ok (.aload_n 0, 1) := by decide +kernel
theorem dX9_law_13 : decode cX9_law 13 = .ok (.getfield 10, 3) := by decide +kernel
theorem dX9_law_16 : decode cX9_law 16 = .ok (.invokevirtual 126, 3) := by decide +kernel
theorem dX9_law_19 : decode cX9_law 19 = .ok (.ifCond .ne 11, 3) := by decide +kernel
theorem dX9_law_22 : decode cX9_law 22 = .ok (.aload_n 0, 1) := by decide +kernel
theorem dX9_law_23 : decode cX9_law 23 = .ok (.getfield 10, 3) := by decide +kernel
theorem dX9_law_26 : decode cX9_law 26 = .ok (.invokevirtual 104, 3) := by decide +kernel
theorem dX9_law_29 : decode cX9_law 29 = .ok (.ireturn, 1) := by decide +kernel
theorem dX9_law_30 : decode cX9_law 30 = .ok (.aload_n 0, 1) := by decide +kernel
theorem dX9_law_31 : decode cX9_law 31 = .ok (.getfield 19, 3) := by decide +kernel
theorem dX9_law_34 : decode cX9_law 34 = .ok (.getfield 127, 3) := by decide +kernel
theorem dX9_law_37 : decode cX9_law 37 = .ok (.astore_n 2, 1) := by decide +kernel
theorem dX9_law_38 : decode cX9_law 38 = .ok (.aload_n 0, 1) := by decide +kernel
theorem dX9_law_39 : decode cX9_law 39 = .ok (.getfield 19, 3) := by decide +kernel
theorem dX9_law_42 : decode cX9_law 42 = .ok (.aload_n 0, 1) := by decide +kernel
theorem dX9_law_43 : decode cX9_law 43 = .ok (.getfield 33, 3) := by decide +kernel
theorem dX9_law_46 : decode cX9_law 46 = .ok (.putfield 127, 3) := by decide +kernel
theorem dX9_law_49 : decode cX9_law 49 = .ok (.aload_n 0, 1) := by decide +kernel
theorem dX9_law_50 : decode cX9_law 50 = .ok (.aload_n 2, 1) := by decide +kernel
theorem dX9_law_51 : decode cX9_law 51 = .ok (.putfield 33, 3) := by decide +kernel
theorem dX9_law_54 : decode cX9_law 54 = .ok (.aload_n 0, 1) := by decide +kernel
theorem dX9_law_55 : decode cX9_law 55 = .ok (.invokevirtual 120, 3) := by decide +kernel
theorem dX9_law_58 : decode cX9_law 58 = .ok (.iconst 1, 1) := by decide +kernel
theorem dX9_law_59 : decode cX9_law 59 = .ok (.ireturn, 1) := by decide +kernel
theorem dX9_rule_0 : decode cX9_rule 0 = .ok (.aload_n 0, 1) := by decide +kernel
theorem dX9_rule_1 : decode cX9_rule 1 = .ok (.iload_n 1, 1) := by decide +kernel
theorem dX9_rule_2 : decode cX9_rule 2 = .ok (.ifCond .lt 12, 3) := by decide +kernel
theorem dX9_rule_5 : decode cX9_rule 5 = .ok (.iload_n 1, 1) := by decide +kernel
theorem dX9_rule_6 : decode cX9_rule 6 = .ok (.iconst 2, 1) := by decide +kernel
theorem dX9_rule_7 : decode cX9_rule 7 = .ok (.if_icmp .ge 7, 3) := by decide +kernel
theorem dX9_rule_10 : decode cX9_rule 10 = .ok (.iconst 1, 1) := by decide +kernel
theorem dX9_rule_11 : decode cX9_rule 11 = .ok (.goto 4, 3) := by decide +kernel
theorem dX9_rule_14 : decode cX9_rule 14 = .ok (.iconst 0, 1) := by decide +kernel
theorem dX9_rule_15 : decode cX9_rule 15 = .ok (.invokevirtual 130, 3) := by decide +kernel
theorem dX9_rule_18 : decode cX9_rule 18 = .ok (.aload_n 0, 1) := by decide +kernel
theorem dX9_rule_19 : decode cX9_rule 19 = .ok (.iload_n 2, 1) := by decide +kernel
theorem dX9_rule_20 : decode cX9_rule 20 = .ok (.sipush 150, 3) := by decide +kernel
theorem dX9_rule_23 : decode cX9_rule 23 = .ok (.invokevirtual 96, 3) := by decide +kernel
theorem dX9_rule_26 : decode cX9_rule 26 = .ok (.aload_n 0, 1) := by decide +kernel
theorem dX9_rule_27 : decode cX9_rule 27 = .ok (.getfield 33, 3) := by decide +kernel
theorem dX9_rule_30 : decode cX9_rule 30 = .ok (.aload_n 0, 1) := by decide +kernel
theorem dX9_rule_31 : decode cX9_rule 31 = .ok (.getfield 10, 3) := by decide +kernel
theorem dX9_rule_34 : decode cX9_rule 34 = .ok (.invokevirtual 126, 3) := by decide +kernel
theorem dX9_rule_37 : decode cX9_rule 37 = .ok (.ifCond .ne 11, 3) := by decide +kernel
theorem dX9_rule_40 : decode cX9_rule 40 = .ok (.aload_n 0, 1) := by decide +kernel
theorem dX9_rule_41 : decode cX9_rule 41 = .ok (.getfield 10, 3) := by decide +kernel
theorem dX9_rule_44 : decode cX9_rule 44 = .ok (.invokevirtual 104, 3) := by decide +kernel
theorem dX9_rule_47 : decode cX9_rule 47 = .ok (.ireturn, 1) := by decide +kernel
theorem dX9_rule_48 : decode cX9_rule 48 = .ok (.aload_n 0, 1) := by decide +kernel
theorem dX9_rule_49 : decode cX9_rule 49 = .ok (.aload_n 0, 1) := by decide +kernel
theorem dX9_rule_50 : decode cX9_rule 50 = .ok (.getfield 19, 3) := by decide +kernel
theorem dX9_rule_53 : decode cX9_rule 53 = .ok (.iload_n 1, 1) := by decide +kernel
theorem dX9_rule_54 : decode cX9_rule 54 = .ok (.aload_n 0, 1) := by decide +kernel
theorem dX9_rule_55 : decode cX9_rule 55 = .ok (.getfield 33, 3) := by decide +kernel
theorem dX9_rule_58 : decode cX9_rule 58 = .ok (.invokevirtual 134, 3) := by decide +kernel
theorem dX9_rule_61 : decode cX9_rule 61 = .ok (.putfield 33, 3) := by decide +kernel
theorem dX9_rule_64 : decode cX9_rule 64 = .ok (.aload_n 0, 1) := by decide +kernel
theorem dX9_rule_65 : decode cX9_rule 65 = .ok (.invokevirtual 120, 3) := by decide +kernel
theorem dX9_rule_68 : decode cX9_rule 68 = .ok (.iconst 1, 1) := by decide +kernel
theorem dX9_rule_69 : decode cX9_rule 69 = .ok (.ireturn, 1) := by decide +kernel
theorem dX9_book_0 : decode cX9_book 0 = .ok (.aload_n 0, 1) := by decide +kernel
theorem dX9_book_1 : decode cX9_book 1 = .ok (.iload_n 1, 1) := by decide +kernel
theorem dX9_book_2 : decode cX9_book 2 = .ok (.sipush 150, 3) := by decide +kernel
theorem dX9_book_5 : decode cX9_book 5 = .ok (.invokevirtual 96, 3) := by decide +kernel
theorem dX9_book_8 : decode cX9_book 8 = .ok (.aload_n 0, 1) := by decide +kernel
theorem dX9_book_9 : decode cX9_book 9 = .ok (.getfield 44, 3) := by decide +kernel
theorem dX9_book_12 : decode cX9_book 12 = .ok (.aload_n 0, 1) := by decide +kernel
theorem dX9_book_13 : decode cX9_book 13 = .ok (.getfield 10, 3) := by decide +kernel
theorem dX9_book_16 : decode cX9_book 16 = .ok (.invokevirtual 138, 3) := by decide +kernel
theorem dX9_book_19 : decode cX9_book 19 = .ok (.ifCond .ne 11, 3) := by decide +kernel
theorem dX9_book_22 : decode cX9_book 22 = .ok (.aload_n 0, 1) := by decide +kernel
theorem dX9_book_23 : decode cX9_book 23 = .ok (.getfield 10, 3) := by decide +kernel
theorem dX9_book_26 : decode cX9_book 26 = .ok (.invokevirtual 104, 3) := by decide +kernel
theorem dX9_book_29 : decode cX9_book 29 = .ok (.ireturn, 1) := by decide +kernel
theorem dX9_book_30 : decode cX9_book 30 = .ok (.aload_n 0, 1) := by decide +kernel
theorem dX9_book_31 : decode cX9_book 31 = .ok (.getfield 40, 3) := by decide +kernel
theorem dX9_book_34 : decode cX9_book 34 = .ok (.astore_n 2, 1) := by decide +kernel
theorem dX9_book_35 : decode cX9_book 35 = .ok (.aload_n 0, 1) := by decide +kernel
theorem dX9_book_36 : decode cX9_book 36 = .ok (.aload_n 0, 1) := by decide +kernel
theorem dX9_book_37 : decode cX9_book 37 = .ok (.getfield 44, 3) := by decide +kernel
theorem dX9_book_40 : decode cX9_book 40 = .ok (.putfield 40, 3) := by decide +kernel
theorem dX9_book_43 : decode cX9_book 43 = .ok (.aload_n 0, 1) := by decide +kernel
theorem dX9_book_44 : decode cX9_book 44 = .ok (.aload_n 2, 1) := by decide +kernel
theorem dX9_book_45 : decode cX9_book 45 = .ok (.putfield 44, 3) := by decide +kernel
theorem dX9_book_48 : decode cX9_book 48 = .ok (.aload_n 0, 1) := by decide +kernel
theorem dX9_book_49 : decode cX9_book 49 = .ok (.getfield 40, 3) := by decide +kernel
theorem dX9_book_52 : decode cX9_book 52 = .ok (.getfield 114, 3) := by decide +kernel
theorem dX9_book_55 : decode cX9_book 55 = .ok (.ireturn, 1) := by decide +kernel
theorem dX9_fault_0 : decode cX9_fault 0 = .ok (.aload_n 0, 1) := by decide +kernel
theorem dX9_fault_1 : decode cX9_fault 1 = .ok (.getfield 10, 3) := by decide +kernel
theorem dX9_fault_4 : decode cX9_fault 4 = .ok (.getfield 139, 3) := by decide +kernel
theorem dX9_fault_7 : decode cX9_fault 7 = .ok (.ireturn, 1) := by decide +kernel
theorem dX9_takeText_0 : decode cX9_takeText 0 = .ok (.aload_n 0, 1) := by decide +kernel
theorem dX9_takeText_1 : decode cX9_takeText 1 = .ok (.iload_n 1, 1) := by decide +kernel
theorem dX9_takeText_2 : decode cX9_takeText 2 = .ok (.ifCond .lt 23, 3) := by decide +kernel
theorem dX9_takeText_5 : decode cX9_takeText 5 = .ok (.iload_n 1, 1) := by decide +kernel
theorem dX9_takeText_6 : decode cX9_takeText 6 = .ok (.iload_n 2, 1) := by decide +kernel
theorem dX9_takeText_7 : decode cX9_takeText 7 = .ok (.if_icmp .gt 18, 3) := by decide +kernel
theorem dX9_takeText_10 : decode cX9_takeText 10 = .ok (.iload_n 1, 1) := by decide +kernel
theorem dX9_takeText_11 : decode cX9_takeText 11 = .ok (.aload_n 0, 1) := by decide +kernel
theorem dX9_takeText_12 : decode cX9_takeText 12 = .ok (.getfield 10, 3) := by decide +kernel
theorem dX9_takeText_15 : decode cX9_takeText 15 = .ok (.getfield 89, 3) := by decide +kernel
theorem dX9_takeText_18 : decode cX9_takeText 18 = .ok (.if_icmp .gt 7, 3) := by decide +kernel
theorem dX9_takeText_21 : decode cX9_takeText 21 = .ok (.iconst 1, 1) := by decide +kernel
theorem dX9_takeText_22 : decode cX9_takeText 22 = .ok (.goto 4, 3) := by decide +kernel
theorem dX9_takeText_25 : decode cX9_takeText 25 = .ok (.iconst 0, 1) := by decide +kernel
theorem dX9_takeText_26 : decode cX9_takeText 26 = .ok (.invokevirtual 142, 3) := by decide +kernel
theorem dX9_takeText_29 : decode cX9_takeText 29 = .ok (.aload_n 0, 1) := by decide +kernel
theorem dX9_takeText_30 : decode cX9_takeText 30 = .ok (.getfield 10, 3) := by decide +kernel
theorem dX9_takeText_33 : decode cX9_takeText 33 = .ok (.iload_n 1, 1) := by decide +kernel
theorem dX9_takeText_34 : decode cX9_takeText 34 = .ok (.invokevirtual 145, 3) := by decide +kernel
theorem dX9_takeText_37 : decode cX9_takeText 37 = .ok (.return_, 1) := by decide +kernel
theorem dX9_meetingChanged_0 : decode cX9_meetingChanged 0 = .ok (.aload_n 0, 1) := by decide +kernel
theorem dX9_meetingChanged_1 : decode cX9_meetingChanged 1 = .ok (.iconst 0, 1) := by decide +kernel
theorem dX9_meetingChanged_2 : decode cX9_meetingChanged 2 = .ok (.putfield 54, 3) := by decide +kernel
theorem dX9_meetingChanged_5 : decode cX9_meetingChanged 5 = .ok (.aload_n 0, 1) := by decide +kernel
theorem dX9_meetingChanged_6 : decode cX9_meetingChanged 6 = .ok (.iconst (-1), 1) := by decide +kernel
theorem dX9_meetingChanged_7 : decode cX9_meetingChanged 7 = .ok (.putfield 68, 3) := by decide +kernel
theorem dX9_meetingChanged_10 : decode cX9_meetingChanged 10 = .ok (.return_, 1) := by decide +kernel
theorem dX9_told_0 : decode cX9_told 0 = .ok (.aload_n 0, 1) := by decide +kernel
theorem dX9_told_1 : decode cX9_told 1 = .ok (.iload_n 1, 1) := by decide +kernel
theorem dX9_told_2 : decode cX9_told 2 = .ok (.iconst 0, 1) := by decide +kernel
theorem dX9_told_3 : decode cX9_told 3 = .ok (.bipush 9, 2) := by decide +kernel
theorem dX9_told_5 : decode cX9_told 5 = .ok (.invokevirtual 148, 3) := by decide +kernel
theorem dX9_told_8 : decode cX9_told 8 = .ok (.aload_n 0, 1) := by decide +kernel
theorem dX9_told_9 : decode cX9_told 9 = .ok (.getfield 19, 3) := by decide +kernel
theorem dX9_told_12 : decode cX9_told 12 = .ok (.getfield 108, 3) := by decide +kernel
theorem dX9_told_15 : decode cX9_told 15 = .ok (.astore_n 2, 1) := by decide +kernel
theorem dX9_told_16 : decode cX9_told 16 = .ok (.iload_n 1, 1) := by decide +kernel
theorem dX9_told_17 : decode cX9_told 17 = .ok (.tableswitch 99 0 8 #[51, 56, 61, 66, 71, 76, 81, 86, 94], 51) := by decide +kernel
theorem dX9_told_68 : decode cX9_told 68 = .ok (.aload_n 2, 1) := by decide +kernel
theorem dX9_told_69 : decode cX9_told 69 = .ok (.getfield 152, 3) := by decide +kernel
theorem dX9_told_72 : decode cX9_told 72 = .ok (.ireturn, 1) := by decide +kernel
theorem dX9_told_73 : decode cX9_told 73 = .ok (.aload_n 2, 1) := by decide +kernel
theorem dX9_told_74 : decode cX9_told 74 = .ok (.getfield 123, 3) := by decide +kernel
theorem dX9_told_77 : decode cX9_told 77 = .ok (.ireturn, 1) := by decide +kernel
theorem dX9_told_78 : decode cX9_told 78 = .ok (.aload_n 2, 1) := by decide +kernel
theorem dX9_told_79 : decode cX9_told 79 = .ok (.getfield 155, 3) := by decide +kernel
theorem dX9_told_82 : decode cX9_told 82 = .ok (.ireturn, 1) := by decide +kernel
theorem dX9_told_83 : decode cX9_told 83 = .ok (.aload_n 2, 1) := by decide +kernel
theorem dX9_told_84 : decode cX9_told 84 = .ok (.getfield 158, 3) := by decide +kernel
theorem dX9_told_87 : decode cX9_told 87 = .ok (.ireturn, 1) := by decide +kernel
theorem dX9_told_88 : decode cX9_told 88 = .ok (.aload_n 2, 1) := by decide +kernel
theorem dX9_told_89 : decode cX9_told 89 = .ok (.invokevirtual 161, 3) := by decide +kernel
theorem dX9_told_92 : decode cX9_told 92 = .ok (.ireturn, 1) := by decide +kernel
theorem dX9_told_93 : decode cX9_told 93 = .ok (.aload_n 2, 1) := by decide +kernel
theorem dX9_told_94 : decode cX9_told 94 = .ok (.getfield 164, 3) := by decide +kernel
theorem dX9_told_97 : decode cX9_told 97 = .ok (.ireturn, 1) := by decide +kernel
theorem dX9_told_98 : decode cX9_told 98 = .ok (.aload_n 2, 1) := by decide +kernel
theorem dX9_told_99 : decode cX9_told 99 = .ok (.getfield 167, 3) := by decide +kernel
theorem dX9_told_102 : decode cX9_told 102 = .ok (.ireturn, 1) := by decide +kernel
theorem dX9_told_103 : decode cX9_told 103 = .ok (.aload_n 0, 1) := by decide +kernel
theorem dX9_told_104 : decode cX9_told 104 = .ok (.getfield 40, 3) := by decide +kernel
theorem dX9_told_107 : decode cX9_told 107 = .ok (.getfield 114, 3) := by decide +kernel
theorem dX9_told_110 : decode cX9_told 110 = .ok (.ireturn, 1) := by decide +kernel
theorem dX9_told_111 : decode cX9_told 111 = .ok (.aload_n 2, 1) := by decide +kernel
theorem dX9_told_112 : decode cX9_told 112 = .ok (.getfield 170, 3) := by decide +kernel
theorem dX9_told_115 : decode cX9_told 115 = .ok (.ireturn, 1) := by decide +kernel
theorem dX9_told_116 : decode cX9_told 116 = .ok (.aload_n 2, 1) := by decide +kernel
theorem dX9_told_117 : decode cX9_told 117 = .ok (.getfield 173, 3) := by decide +kernel
theorem dX9_told_120 : decode cX9_told 120 = .ok (.ireturn, 1) := by decide +kernel
theorem dX9_car_0 : decode cX9_car 0 = .ok (.aload_n 0, 1) := by decide +kernel
theorem dX9_car_1 : decode cX9_car 1 = .ok (.iload_n 1, 1) := by decide +kernel
theorem dX9_car_2 : decode cX9_car 2 = .ok (.invokevirtual 176, 3) := by decide +kernel
theorem dX9_car_5 : decode cX9_car 5 = .ok (.aload_n 0, 1) := by decide +kernel
theorem dX9_car_6 : decode cX9_car 6 = .ok (.iload_n 2, 1) := by decide +kernel
theorem dX9_car_7 : decode cX9_car 7 = .ok (.iconst 0, 1) := by decide +kernel
theorem dX9_car_8 : decode cX9_car 8 = .ok (.iconst 3, 1) := by decide +kernel
theorem dX9_car_9 : decode cX9_car 9 = .ok (.invokevirtual 148, 3) := by decide +kernel
theorem dX9_car_12 : decode cX9_car 12 = .ok (.aload_n 0, 1) := by decide +kernel
theorem dX9_car_13 : decode cX9_car 13 = .ok (.getfield 19, 3) := by decide +kernel
theorem dX9_car_16 : decode cX9_car 16 = .ok (.getfield 108, 3) := by decide +kernel
theorem dX9_car_19 : decode cX9_car 19 = .ok (.astore_n 3, 1) := by decide +kernel
theorem dX9_car_20 : decode cX9_car 20 = .ok (.iload_n 2, 1) := by decide +kernel
theorem dX9_car_21 : decode cX9_car 21 = .ok (.tableswitch 48 0 2 #[27, 34, 41], 27) := by decide +kernel
theorem dX9_car_48 : decode cX9_car 48 = .ok (.aload_n 3, 1) := by decide +kernel
theorem dX9_car_49 : decode cX9_car 49 = .ok (.getfield 179, 3) := by decide +kernel
theorem dX9_car_52 : decode cX9_car 52 = .ok (.iload_n 1, 1) := by decide +kernel
theorem dX9_car_53 : decode cX9_car 53 = .ok (.iaload, 1) := by decide +kernel
theorem dX9_car_54 : decode cX9_car 54 = .ok (.ireturn, 1) := by decide +kernel
theorem dX9_car_55 : decode cX9_car 55 = .ok (.aload_n 3, 1) := by decide +kernel
theorem dX9_car_56 : decode cX9_car 56 = .ok (.getfield 182, 3) := by decide +kernel
theorem dX9_car_59 : decode cX9_car 59 = .ok (.iload_n 1, 1) := by decide +kernel
theorem dX9_car_60 : decode cX9_car 60 = .ok (.iaload, 1) := by decide +kernel
theorem dX9_car_61 : decode cX9_car 61 = .ok (.ireturn, 1) := by decide +kernel
theorem dX9_car_62 : decode cX9_car 62 = .ok (.aload_n 3, 1) := by decide +kernel
theorem dX9_car_63 : decode cX9_car 63 = .ok (.getfield 185, 3) := by decide +kernel
theorem dX9_car_66 : decode cX9_car 66 = .ok (.iload_n 1, 1) := by decide +kernel
theorem dX9_car_67 : decode cX9_car 67 = .ok (.iaload, 1) := by decide +kernel
theorem dX9_car_68 : decode cX9_car 68 = .ok (.ireturn, 1) := by decide +kernel
theorem dX9_car_69 : decode cX9_car 69 = .ok (.aload_n 3, 1) := by decide +kernel
theorem dX9_car_70 : decode cX9_car 70 = .ok (.iload_n 1, 1) := by decide +kernel
theorem dX9_car_71 : decode cX9_car 71 = .ok (.invokevirtual 188, 3) := by decide +kernel
theorem dX9_car_74 : decode cX9_car 74 = .ok (.ireturn, 1) := by decide +kernel
theorem dX9_coat_0 : decode cX9_coat 0 = .ok (.aload_n 0, 1) := by decide +kernel
theorem dX9_coat_1 : decode cX9_coat 1 = .ok (.iload_n 1, 1) := by decide +kernel
theorem dX9_coat_2 : decode cX9_coat 2 = .ok (.invokevirtual 192, 3) := by decide +kernel
theorem dX9_coat_5 : decode cX9_coat 5 = .ok (.aload_n 0, 1) := by decide +kernel
theorem dX9_coat_6 : decode cX9_coat 6 = .ok (.iload_n 2, 1) := by decide +kernel
theorem dX9_coat_7 : decode cX9_coat 7 = .ok (.iconst 0, 1) := by decide +kernel
theorem dX9_coat_8 : decode cX9_coat 8 = .ok (.iconst 1, 1) := by decide +kernel
theorem dX9_coat_9 : decode cX9_coat 9 = .ok (.invokevirtual 148, 3) := by decide +kernel
theorem dX9_coat_12 : decode cX9_coat 12 = .ok (.iload_n 2, 1) := by decide +kernel
theorem dX9_coat_13 : decode cX9_coat 13 = .ok (.ifCond .ne 18, 3) := by decide +kernel
theorem dX9_coat_16 : decode cX9_coat 16 = .ok (.aload_n 0, 1) := by decide +kernel
theorem dX9_coat_17 : decode cX9_coat 17 = .ok (.getfield 19, 3) := by decide +kernel
theorem dX9_coat_20 : decode cX9_coat 20 = .ok (.getfield 108, 3) := by decide +kernel
theorem dX9_coat_23 : decode cX9_coat 23 = .ok (.getfield 195, 3) := by decide +kernel
theorem dX9_coat_26 : decode cX9_coat 26 = .ok (.iload_n 1, 1) := by decide +kernel
theorem dX9_coat_27 : decode cX9_coat 27 = .ok (.iaload, 1) := by decide +kernel
theorem dX9_coat_28 : decode cX9_coat 28 = .ok (.goto 15, 3) := by decide +kernel
theorem dX9_coat_31 : decode cX9_coat 31 = .ok (.aload_n 0, 1) := by decide +kernel
theorem dX9_coat_32 : decode cX9_coat 32 = .ok (.getfield 19, 3) := by decide +kernel
theorem dX9_coat_35 : decode cX9_coat 35 = .ok (.getfield 108, 3) := by decide +kernel
theorem dX9_coat_38 : decode cX9_coat 38 = .ok (.getfield 198, 3) := by decide +kernel
theorem dX9_coat_41 : decode cX9_coat 41 = .ok (.iload_n 1, 1) := by decide +kernel
theorem dX9_coat_42 : decode cX9_coat 42 = .ok (.iaload, 1) := by decide +kernel
theorem dX9_coat_43 : decode cX9_coat 43 = .ok (.ireturn, 1) := by decide +kernel
theorem dX9_freshMeeting_0 : decode cX9_freshMeeting 0 = .ok (.aload_n 0, 1) := by decide +kernel
theorem dX9_freshMeeting_1 : decode cX9_freshMeeting 1 = .ok (.getfield 54, 3) := by decide +kernel
theorem dX9_freshMeeting_4 : decode cX9_freshMeeting 4 = .ok (.ifCond .ne 21, 3) := by decide +kernel
theorem dX9_freshMeeting_7 : decode cX9_freshMeeting 7 = .ok (.aload_n 0, 1) := by decide +kernel
theorem dX9_freshMeeting_8 : decode cX9_freshMeeting 8 = .ok (.getfield 50, 3) := by decide +kernel
theorem dX9_freshMeeting_11 : decode cX9_freshMeeting 11 = .ok (.aload_n 0, 1) := by decide +kernel
theorem dX9_freshMeeting_12 : decode cX9_freshMeeting 12 = .ok (.getfield 19, 3) := by decide +kernel
theorem dX9_freshMeeting_15 : decode cX9_freshMeeting 15 = .ok (.iconst (-1), 1) := by decide +kernel
theorem dX9_freshMeeting_16 : decode cX9_freshMeeting 16 = .ok (.iconst (-1), 1) := by decide +kernel
theorem dX9_freshMeeting_17 : decode cX9_freshMeeting 17 = .ok (.invokevirtual 201, 3) := by decide +kernel
theorem dX9_freshMeeting_20 : decode cX9_freshMeeting 20 = .ok (.aload_n 0, 1) := by decide +kernel
theorem dX9_freshMeeting_21 : decode cX9_freshMeeting 21 = .ok (.iconst 1, 1) := by decide +kernel
theorem dX9_freshMeeting_22 : decode cX9_freshMeeting 22 = .ok (.putfield 54, 3) := by decide +kernel
theorem dX9_freshMeeting_25 : decode cX9_freshMeeting 25 = .ok (.aload_n 0, 1) := by decide +kernel
theorem dX9_freshMeeting_26 : decode cX9_freshMeeting 26 = .ok (.getfield 50, 3) := by decide +kernel
theorem dX9_freshMeeting_29 : decode cX9_freshMeeting 29 = .ok (.areturn, 1) := by decide +kernel
theorem dX9_tenths_0 : decode cX9_tenths 0 = .ok (.aload_n 0, 1) := by decide +kernel
theorem dX9_tenths_1 : decode cX9_tenths 1 = .ok (.invokevirtual 205, 3) := by decide +kernel
theorem dX9_tenths_4 : decode cX9_tenths 4 = .ok (.getfield 209, 3) := by decide +kernel
theorem dX9_tenths_7 : decode cX9_tenths 7 = .ok (.ireturn, 1) := by decide +kernel
theorem dX9_at_0 : decode cX9_at 0 = .ok (.aload_n 0, 1) := by decide +kernel
theorem dX9_at_1 : decode cX9_at 1 = .ok (.iload_n 1, 1) := by decide +kernel
theorem dX9_at_2 : decode cX9_at 2 = .ok (.invokevirtual 176, 3) := by decide +kernel
theorem dX9_at_5 : decode cX9_at 5 = .ok (.aload_n 0, 1) := by decide +kernel
theorem dX9_at_6 : decode cX9_at 6 = .ok (.iload_n 2, 1) := by decide +kernel
theorem dX9_at_7 : decode cX9_at 7 = .ok (.iconst 0, 1) := by decide +kernel
theorem dX9_at_8 : decode cX9_at 8 = .ok (.bipush 98, 2) := by decide +kernel
theorem dX9_at_10 : decode cX9_at 10 = .ok (.invokevirtual 148, 3) := by decide +kernel
theorem dX9_at_13 : decode cX9_at 13 = .ok (.aload_n 0, 1) := by decide +kernel
theorem dX9_at_14 : decode cX9_at 14 = .ok (.iload_n 3, 1) := by decide +kernel
theorem dX9_at_15 : decode cX9_at 15 = .ok (.iconst 0, 1) := by decide +kernel
theorem dX9_at_16 : decode cX9_at 16 = .ok (.iconst 5, 1) := by decide +kernel
theorem dX9_at_17 : decode cX9_at 17 = .ok (.invokevirtual 148, 3) := by decide +kernel
theorem dX9_at_20 : decode cX9_at 20 = .ok (.aload_n 0, 1) := by decide +kernel
theorem dX9_at_21 : decode cX9_at 21 = .ok (.invokevirtual 205, 3) := by decide +kernel
theorem dX9_at_24 : decode cX9_at 24 = .ok (.astore 4, 2) := by decide +kernel
theorem dX9_at_26 : decode cX9_at 26 = .ok (.aload 4, 2) := by decide +kernel
theorem dX9_at_28 : decode cX9_at 28 = .ok (.iload_n 1, 1) := by decide +kernel
theorem dX9_at_29 : decode cX9_at 29 = .ok (.invokevirtual 212, 3) := by decide +kernel
theorem dX9_at_32 : decode cX9_at 32 = .ok (.astore 5, 2) := by decide +kernel
theorem dX9_at_34 : decode cX9_at 34 = .ok (.iload_n 2, 1) := by decide +kernel
theorem dX9_at_35 : decode cX9_at 35 = .ok (.aload 5, 2) := by decide +kernel
theorem dX9_at_37 : decode cX9_at 37 = .ok (.getfield 216, 3) := by decide +kernel
theorem dX9_at_40 : decode cX9_at 40 = .ok (.if_icmp .lt 5, 3) := by decide +kernel
theorem dX9_at_43 : decode cX9_at 43 = .ok (.iconst (-1), 1) := by decide +kernel
theorem dX9_at_44 : decode cX9_at 44 = .ok (.ireturn, 1) := by decide +kernel
theorem dX9_at_45 : decode cX9_at 45 = .ok (.iload_n 3, 1) := by decide +kernel
theorem dX9_at_46 : decode cX9_at 46 = .ok (.tableswitch 73 0 4 #[34, 42, 50, 58, 66], 34) := by decide +kernel
theorem dX9_at_80 : decode cX9_at 80 = .ok (.aload 5, 2) := by decide +kernel
theorem dX9_at_82 : decode cX9_at 82 = .ok (.getfield 219, 3) := by decide +kernel
theorem dX9_at_85 : decode cX9_at 85 = .ok (.iload_n 2, 1) := by decide +kernel
theorem dX9_at_86 : decode cX9_at 86 = .ok (.iaload, 1) := by decide +kernel
theorem dX9_at_87 : decode cX9_at 87 = .ok (.ireturn, 1) := by decide +kernel
theorem dX9_at_88 : decode cX9_at 88 = .ok (.aload 5, 2) := by decide +kernel
theorem dX9_at_90 : decode cX9_at 90 = .ok (.getfield 222, 3) := by decide +kernel
theorem dX9_at_93 : decode cX9_at 93 = .ok (.iload_n 2, 1) := by decide +kernel
theorem dX9_at_94 : decode cX9_at 94 = .ok (.iaload, 1) := by decide +kernel
theorem dX9_at_95 : decode cX9_at 95 = .ok (.ireturn, 1) := by decide +kernel
theorem dX9_at_96 : decode cX9_at 96 = .ok (.aload 5, 2) := by decide +kernel
theorem dX9_at_98 : decode cX9_at 98 = .ok (.getfield 225, 3) := by decide +kernel
theorem dX9_at_101 : decode cX9_at 101 = .ok (.iload_n 2, 1) := by decide +kernel
theorem dX9_at_102 : decode cX9_at 102 = .ok (.iaload, 1) := by decide +kernel
theorem dX9_at_103 : decode cX9_at 103 = .ok (.ireturn, 1) := by decide +kernel
theorem dX9_at_104 : decode cX9_at 104 = .ok (.aload 5, 2) := by decide +kernel
theorem dX9_at_106 : decode cX9_at 106 = .ok (.getfield 227, 3) := by decide +kernel
theorem dX9_at_109 : decode cX9_at 109 = .ok (.iload_n 2, 1) := by decide +kernel
theorem dX9_at_110 : decode cX9_at 110 = .ok (.iaload, 1) := by decide +kernel
theorem dX9_at_111 : decode cX9_at 111 = .ok (.ireturn, 1) := by decide +kernel
theorem dX9_at_112 : decode cX9_at 112 = .ok (.aload 5, 2) := by decide +kernel
theorem dX9_at_114 : decode cX9_at 114 = .ok (.iload_n 2, 1) := by decide +kernel
theorem dX9_at_115 : decode cX9_at 115 = .ok (.invokevirtual 230, 3) := by decide +kernel
theorem dX9_at_118 : decode cX9_at 118 = .ok (.ireturn, 1) := by decide +kernel
theorem dX9_at_119 : decode cX9_at 119 = .ok (.aload 4, 2) := by decide +kernel
theorem dX9_at_121 : decode cX9_at 121 = .ok (.iload_n 2, 1) := by decide +kernel
theorem dX9_at_122 : decode cX9_at 122 = .ok (.invokevirtual 233, 3) := by decide +kernel
theorem dX9_at_125 : decode cX9_at 125 = .ok (.ifCond .eq 7, 3) := by decide +kernel
theorem dX9_at_128 : decode cX9_at 128 = .ok (.iconst 1, 1) := by decide +kernel
theorem dX9_at_129 : decode cX9_at 129 = .ok (.goto 4, 3) := by decide +kernel
theorem dX9_at_132 : decode cX9_at 132 = .ok (.iconst 0, 1) := by decide +kernel
theorem dX9_at_133 : decode cX9_at 133 = .ok (.ireturn, 1) := by decide +kernel
theorem dX9_passes_0 : decode cX9_passes 0 = .ok (.aload_n 0, 1) := by decide +kernel
theorem dX9_passes_1 : decode cX9_passes 1 = .ok (.invokevirtual 205, 3) := by decide +kernel
theorem dX9_passes_4 : decode cX9_passes 4 = .ok (.getfield 237, 3) := by decide +kernel
theorem dX9_passes_7 : decode cX9_passes 7 = .ok (.ireturn, 1) := by decide +kernel
theorem dX9_hits_0 : decode cX9_hits 0 = .ok (.aload_n 0, 1) := by decide +kernel
theorem dX9_hits_1 : decode cX9_hits 1 = .ok (.iload_n 1, 1) := by decide +kernel
theorem dX9_hits_2 : decode cX9_hits 2 = .ok (.invokevirtual 176, 3) := by decide +kernel
theorem dX9_hits_5 : decode cX9_hits 5 = .ok (.aload_n 0, 1) := by decide +kernel
theorem dX9_hits_6 : decode cX9_hits 6 = .ok (.invokevirtual 205, 3) := by decide +kernel
theorem dX9_hits_9 : decode cX9_hits 9 = .ok (.aload_n 0, 1) := by decide +kernel
theorem dX9_hits_10 : decode cX9_hits 10 = .ok (.getfield 19, 3) := by decide +kernel
theorem dX9_hits_13 : decode cX9_hits 13 = .ok (.getfield 108, 3) := by decide +kernel
theorem dX9_hits_16 : decode cX9_hits 16 = .ok (.iload_n 1, 1) := by decide +kernel
theorem dX9_hits_17 : decode cX9_hits 17 = .ok (.invokevirtual 240, 3) := by decide +kernel
theorem dX9_hits_20 : decode cX9_hits 20 = .ok (.ireturn, 1) := by decide +kernel
theorem dX9_sees_0 : decode cX9_sees 0 = .ok (.aload_n 0, 1) := by decide +kernel
theorem dX9_sees_1 : decode cX9_sees 1 = .ok (.iload_n 1, 1) := by decide +kernel
theorem dX9_sees_2 : decode cX9_sees 2 = .ok (.invokevirtual 176, 3) := by decide +kernel
theorem dX9_sees_5 : decode cX9_sees 5 = .ok (.aload_n 0, 1) := by decide +kernel
theorem dX9_sees_6 : decode cX9_sees 6 = .ok (.iload_n 2, 1) := by decide +kernel
theorem dX9_sees_7 : decode cX9_sees 7 = .ok (.invokevirtual 192, 3) := by decide +kernel
theorem dX9_sees_10 : decode cX9_sees 10 = .ok (.aload_n 0, 1) := by decide +kernel
theorem dX9_sees_11 : decode cX9_sees 11 = .ok (.invokevirtual 205, 3) := by decide +kernel
theorem dX9_sees_14 : decode cX9_sees 14 = .ok (.iload_n 1, 1) := by decide +kernel
theorem dX9_sees_15 : decode cX9_sees 15 = .ok (.invokevirtual 212, 3) := by decide +kernel
theorem dX9_sees_18 : decode cX9_sees 18 = .ok (.astore_n 3, 1) := by decide +kernel
theorem dX9_sees_19 : decode cX9_sees 19 = .ok (.aload_n 0, 1) := by decide +kernel
theorem dX9_sees_20 : decode cX9_sees 20 = .ok (.getfield 19, 3) := by decide +kernel
theorem dX9_sees_23 : decode cX9_sees 23 = .ok (.getfield 108, 3) := by decide +kernel
theorem dX9_sees_26 : decode cX9_sees 26 = .ok (.getfield 195, 3) := by decide +kernel
theorem dX9_sees_29 : decode cX9_sees 29 = .ok (.iload_n 2, 1) := by decide +kernel
theorem dX9_sees_30 : decode cX9_sees 30 = .ok (.iaload, 1) := by decide +kernel
theorem dX9_sees_31 : decode cX9_sees 31 = .ok (.istore 4, 2) := by decide +kernel
theorem dX9_sees_33 : decode cX9_sees 33 = .ok (.aload_n 3, 1) := by decide +kernel
theorem dX9_sees_34 : decode cX9_sees 34 = .ok (.aload_n 0, 1) := by decide +kernel
theorem dX9_sees_35 : decode cX9_sees 35 = .ok (.getfield 19, 3) := by decide +kernel
theorem dX9_sees_38 : decode cX9_sees 38 = .ok (.getfield 108, 3) := by decide +kernel
theorem dX9_sees_41 : decode cX9_sees 41 = .ok (.iload 4, 2) := by decide +kernel
theorem dX9_sees_43 : decode cX9_sees 43 = .ok (.aload_n 0, 1) := by decide +kernel
theorem dX9_sees_44 : decode cX9_sees 44 = .ok (.getfield 19, 3) := by decide +kernel
theorem dX9_sees_47 : decode cX9_sees 47 = .ok (.getfield 108, 3) := by decide +kernel
theorem dX9_sees_50 : decode cX9_sees 50 = .ok (.getfield 198, 3) := by decide +kernel
theorem dX9_sees_53 : decode cX9_sees 53 = .ok (.iload_n 2, 1) := by decide +kernel
theorem dX9_sees_54 : decode cX9_sees 54 = .ok (.iaload, 1) := by decide +kernel
theorem dX9_sees_55 : decode cX9_sees 55 = .ok (.invokevirtual 244, 3) := by decide +kernel
theorem dX9_sees_58 : decode cX9_sees 58 = .ok (.istore 5, 2) := by decide +kernel
theorem dX9_sees_60 : decode cX9_sees 60 = .ok (.iload 5, 2) := by decide +kernel
theorem dX9_sees_62 : decode cX9_sees 62 = .ok (.iconst (-1), 1) := by decide +kernel
theorem dX9_sees_63 : decode cX9_sees 63 = .ok (.if_icmp .ne 7, 3) := by decide +kernel
theorem dX9_sees_66 : decode cX9_sees 66 = .ok (.iconst (-1), 1) := by decide +kernel
theorem dX9_sees_67 : decode cX9_sees 67 = .ok (.goto 11, 3) := by decide +kernel
theorem dX9_sees_70 : decode cX9_sees 70 = .ok (.aload_n 3, 1) := by decide +kernel
theorem dX9_sees_71 : decode cX9_sees 71 = .ok (.iload 5, 2) := by decide +kernel
theorem dX9_sees_73 : decode cX9_sees 73 = .ok (.iload 4, 2) := by decide +kernel
theorem dX9_sees_75 : decode cX9_sees 75 = .ok (.invokevirtual 248, 3) := by decide +kernel
theorem dX9_sees_78 : decode cX9_sees 78 = .ok (.ireturn, 1) := by decide +kernel
theorem dX9_sums_0 : decode cX9_sums 0 = .ok (.aload_n 0, 1) := by decide +kernel
theorem dX9_sums_1 : decode cX9_sums 1 = .ok (.iload_n 1, 1) := by decide +kernel
theorem dX9_sums_2 : decode cX9_sums 2 = .ok (.invokevirtual 176, 3) := by decide +kernel
theorem dX9_sums_5 : decode cX9_sums 5 = .ok (.aload_n 0, 1) := by decide +kernel
theorem dX9_sums_6 : decode cX9_sums 6 = .ok (.iload_n 2, 1) := by decide +kernel
theorem dX9_sums_7 : decode cX9_sums 7 = .ok (.iconst 0, 1) := by decide +kernel
theorem dX9_sums_8 : decode cX9_sums 8 = .ok (.iconst 5, 1) := by decide +kernel
theorem dX9_sums_9 : decode cX9_sums 9 = .ok (.invokevirtual 148, 3) := by decide +kernel
theorem dX9_sums_12 : decode cX9_sums 12 = .ok (.aload_n 0, 1) := by decide +kernel
theorem dX9_sums_13 : decode cX9_sums 13 = .ok (.invokevirtual 205, 3) := by decide +kernel
theorem dX9_sums_16 : decode cX9_sums 16 = .ok (.iload_n 1, 1) := by decide +kernel
theorem dX9_sums_17 : decode cX9_sums 17 = .ok (.invokevirtual 212, 3) := by decide +kernel
theorem dX9_sums_20 : decode cX9_sums 20 = .ok (.astore_n 3, 1) := by decide +kernel
theorem dX9_sums_21 : decode cX9_sums 21 = .ok (.iload_n 2, 1) := by decide +kernel
theorem dX9_sums_22 : decode cX9_sums 22 = .ok (.tableswitch 59 0 4 #[34, 39, 44, 49, 54], 34) := by decide +kernel
theorem dX9_sums_56 : decode cX9_sums 56 = .ok (.aload_n 3, 1) := by decide +kernel
theorem dX9_sums_57 : decode cX9_sums 57 = .ok (.invokevirtual 252, 3) := by decide +kernel
theorem dX9_sums_60 : decode cX9_sums 60 = .ok (.ireturn, 1) := by decide +kernel
theorem dX9_sums_61 : decode cX9_sums 61 = .ok (.aload_n 3, 1) := by decide +kernel
theorem dX9_sums_62 : decode cX9_sums 62 = .ok (.invokevirtual 255, 3) := by decide +kernel
theorem dX9_sums_65 : decode cX9_sums 65 = .ok (.ireturn, 1) := by decide +kernel
theorem dX9_sums_66 : decode cX9_sums 66 = .ok (.aload_n 3, 1) := by decide +kernel
theorem dX9_sums_67 : decode cX9_sums 67 = .ok (.invokevirtual 258, 3) := by decide +kernel
theorem dX9_sums_70 : decode cX9_sums 70 = .ok (.ireturn, 1) := by decide +kernel
theorem dX9_sums_71 : decode cX9_sums 71 = .ok (.aload_n 3, 1) := by decide +kernel
theorem dX9_sums_72 : decode cX9_sums 72 = .ok (.invokevirtual 261, 3) := by decide +kernel
theorem dX9_sums_75 : decode cX9_sums 75 = .ok (.ireturn, 1) := by decide +kernel
theorem dX9_sums_76 : decode cX9_sums 76 = .ok (.aload_n 3, 1) := by decide +kernel
theorem dX9_sums_77 : decode cX9_sums 77 = .ok (.invokevirtual 264, 3) := by decide +kernel
theorem dX9_sums_80 : decode cX9_sums 80 = .ok (.ireturn, 1) := by decide +kernel
theorem dX9_sums_81 : decode cX9_sums 81 = .ok (.aload_n 3, 1) := by decide +kernel
theorem dX9_sums_82 : decode cX9_sums 82 = .ok (.invokevirtual 267, 3) := by decide +kernel
theorem dX9_sums_85 : decode cX9_sums 85 = .ok (.ireturn, 1) := by decide +kernel
theorem dX9_would_0 : decode cX9_would 0 = .ok (.aload_n 0, 1) := by decide +kernel
theorem dX9_would_1 : decode cX9_would 1 = .ok (.iload_n 1, 1) := by decide +kernel
theorem dX9_would_2 : decode cX9_would 2 = .ok (.iconst 0, 1) := by decide +kernel
theorem dX9_would_3 : decode cX9_would 3 = .ok (.bipush 60, 2) := by decide +kernel
theorem dX9_would_5 : decode cX9_would 5 = .ok (.invokevirtual 148, 3) := by decide +kernel
theorem dX9_would_8 : decode cX9_would 8 = .ok (.aload_n 0, 1) := by decide +kernel
theorem dX9_would_9 : decode cX9_would 9 = .ok (.iload_n 2, 1) := by decide +kernel
theorem dX9_would_10 : decode cX9_would 10 = .ok (.iconst 0, 1) := by decide +kernel
theorem dX9_would_11 : decode cX9_would 11 = .ok (.bipush 20, 2) := by decide +kernel
theorem dX9_would_13 : decode cX9_would 13 = .ok (.invokevirtual 148, 3) := by decide +kernel
theorem dX9_would_16 : decode cX9_would 16 = .ok (.aload_n 0, 1) := by decide +kernel
theorem dX9_would_17 : decode cX9_would 17 = .ok (.iload_n 3, 1) := by decide +kernel
theorem dX9_would_18 : decode cX9_would 18 = .ok (.bipush 17, 2) := by decide +kernel
theorem dX9_would_20 : decode cX9_would 20 = .ok (.bipush 99, 2) := by decide +kernel
theorem dX9_would_22 : decode cX9_would 22 = .ok (.invokevirtual 148, 3) := by decide +kernel
theorem dX9_would_25 : decode cX9_would 25 = .ok (.aload_n 0, 1) := by decide +kernel
theorem dX9_would_26 : decode cX9_would 26 = .ok (.iload 4, 2) := by decide +kernel
theorem dX9_would_28 : decode cX9_would 28 = .ok (.iconst 0, 1) := by decide +kernel
theorem dX9_would_29 : decode cX9_would 29 = .ok (.iconst 1, 1) := by decide +kernel
theorem dX9_would_30 : decode cX9_would 30 = .ok (.invokevirtual 148, 3) := by decide +kernel
theorem dX9_would_33 : decode cX9_would 33 = .ok (.aload_n 0, 1) := by decide +kernel
theorem dX9_would_34 : decode cX9_would 34 = .ok (.getfield 19, 3) := by decide +kernel
theorem dX9_would_37 : decode cX9_would 37 = .ok (.invokevirtual 270, 3) := by decide +kernel
theorem dX9_would_40 : decode cX9_would 40 = .ok (.astore 5, 2) := by decide +kernel
theorem dX9_would_42 : decode cX9_would 42 = .ok (.aload 5, 2) := by decide +kernel
theorem dX9_would_44 : decode cX9_would 44 = .ok (.iconst 0, 1) := by decide +kernel
theorem dX9_would_45 : decode cX9_would 45 = .ok (.iload_n 1, 1) := by decide +kernel
theorem dX9_would_46 : decode cX9_would 46 = .ok (.iastore, 1) := by decide +kernel
theorem dX9_would_47 : decode cX9_would 47 = .ok (.aload 5, 2) := by decide +kernel
theorem dX9_would_49 : decode cX9_would 49 = .ok (.iconst 2, 1) := by decide +kernel
theorem dX9_would_50 : decode cX9_would 50 = .ok (.iload_n 2, 1) := by decide +kernel
theorem dX9_would_51 : decode cX9_would 51 = .ok (.iastore, 1) := by decide +kernel
theorem dX9_would_52 : decode cX9_would 52 = .ok (.aload 5, 2) := by decide +kernel
theorem dX9_would_54 : decode cX9_would 54 = .ok (.iconst 3, 1) := by decide +kernel
theorem dX9_would_55 : decode cX9_would 55 = .ok (.iload_n 3, 1) := by decide +kernel
theorem dX9_would_56 : decode cX9_would 56 = .ok (.iastore, 1) := by decide +kernel
theorem dX9_would_57 : decode cX9_would 57 = .ok (.aload 5, 2) := by decide +kernel
theorem dX9_would_59 : decode cX9_would 59 = .ok (.iconst 4, 1) := by decide +kernel
theorem dX9_would_60 : decode cX9_would 60 = .ok (.iload 4, 2) := by decide +kernel
theorem dX9_would_62 : decode cX9_would 62 = .ok (.iastore, 1) := by decide +kernel
theorem dX9_would_63 : decode cX9_would 63 = .ok (.aload_n 0, 1) := by decide +kernel
theorem dX9_would_64 : decode cX9_would 64 = .ok (.getfield 19, 3) := by decide +kernel
theorem dX9_would_67 : decode cX9_would 67 = .ok (.invokevirtual 274, 3) := by decide +kernel
theorem dX9_would_70 : decode cX9_would 70 = .ok (.ireturn, 1) := by decide +kernel
theorem dX9_cost_0 : decode cX9_cost 0 = .ok (.aload_n 0, 1) := by decide +kernel
theorem dX9_cost_1 : decode cX9_cost 1 = .ok (.iload_n 1, 1) := by decide +kernel
theorem dX9_cost_2 : decode cX9_cost 2 = .ok (.invokevirtual 176, 3) := by decide +kernel
theorem dX9_cost_5 : decode cX9_cost 5 = .ok (.aload_n 0, 1) := by decide +kernel
theorem dX9_cost_6 : decode cX9_cost 6 = .ok (.iload_n 2, 1) := by decide +kernel
theorem dX9_cost_7 : decode cX9_cost 7 = .ok (.iconst 0, 1) := by decide +kernel
theorem dX9_cost_8 : decode cX9_cost 8 = .ok (.bipush 60, 2) := by decide +kernel
theorem dX9_cost_10 : decode cX9_cost 10 = .ok (.invokevirtual 148, 3) := by decide +kernel
theorem dX9_cost_13 : decode cX9_cost 13 = .ok (.aload_n 0, 1) := by decide +kernel
theorem dX9_cost_14 : decode cX9_cost 14 = .ok (.iload_n 3, 1) := by decide +kernel
theorem dX9_cost_15 : decode cX9_cost 15 = .ok (.iconst 0, 1) := by decide +kernel
theorem dX9_cost_16 : decode cX9_cost 16 = .ok (.bipush 60, 2) := by decide +kernel
theorem dX9_cost_18 : decode cX9_cost 18 = .ok (.invokevirtual 148, 3) := by decide +kernel
theorem dX9_cost_21 : decode cX9_cost 21 = .ok (.aload_n 0, 1) := by decide +kernel
theorem dX9_cost_22 : decode cX9_cost 22 = .ok (.invokevirtual 277, 3) := by decide +kernel
theorem dX9_cost_25 : decode cX9_cost 25 = .ok (.aload_n 0, 1) := by decide +kernel
theorem dX9_cost_26 : decode cX9_cost 26 = .ok (.getfield 58, 3) := by decide +kernel
theorem dX9_cost_29 : decode cX9_cost 29 = .ok (.aload_n 0, 1) := by decide +kernel
theorem dX9_cost_30 : decode cX9_cost 30 = .ok (.getfield 19, 3) := by decide +kernel
theorem dX9_cost_33 : decode cX9_cost 33 = .ok (.iload_n 1, 1) := by decide +kernel
theorem dX9_cost_34 : decode cX9_cost 34 = .ok (.ifCond .ne 7, 3) := by decide +kernel
theorem dX9_cost_37 : decode cX9_cost 37 = .ok (.iload_n 2, 1) := by decide +kernel
theorem dX9_cost_38 : decode cX9_cost 38 = .ok (.goto 4, 3) := by decide +kernel
theorem dX9_cost_41 : decode cX9_cost 41 = .ok (.iload_n 3, 1) := by decide +kernel
theorem dX9_cost_42 : decode cX9_cost 42 = .ok (.iload_n 1, 1) := by decide +kernel
theorem dX9_cost_43 : decode cX9_cost 43 = .ok (.ifCond .ne 7, 3) := by decide +kernel
theorem dX9_cost_46 : decode cX9_cost 46 = .ok (.iload_n 3, 1) := by decide +kernel
theorem dX9_cost_47 : decode cX9_cost 47 = .ok (.goto 4, 3) := by decide +kernel
theorem dX9_cost_50 : decode cX9_cost 50 = .ok (.iload_n 2, 1) := by decide +kernel
theorem dX9_cost_51 : decode cX9_cost 51 = .ok (.invokevirtual 201, 3) := by decide +kernel
theorem dX9_cost_54 : decode cX9_cost 54 = .ok (.aload_n 0, 1) := by decide +kernel
theorem dX9_cost_55 : decode cX9_cost 55 = .ok (.getfield 58, 3) := by decide +kernel
theorem dX9_cost_58 : decode cX9_cost 58 = .ok (.aload_n 0, 1) := by decide +kernel
theorem dX9_cost_59 : decode cX9_cost 59 = .ok (.getfield 19, 3) := by decide +kernel
theorem dX9_cost_62 : decode cX9_cost 62 = .ok (.getfield 108, 3) := by decide +kernel
theorem dX9_cost_65 : decode cX9_cost 65 = .ok (.iload_n 1, 1) := by decide +kernel
theorem dX9_cost_66 : decode cX9_cost 66 = .ok (.invokevirtual 280, 3) := by decide +kernel
theorem dX9_cost_69 : decode cX9_cost 69 = .ok (.ireturn, 1) := by decide +kernel
theorem dX9_duel_0 : decode cX9_duel 0 = .ok (.aload_n 0, 1) := by decide +kernel
theorem dX9_duel_1 : decode cX9_duel 1 = .ok (.iload_n 1, 1) := by decide +kernel
theorem dX9_duel_2 : decode cX9_duel 2 = .ok (.iconst 0, 1) := by decide +kernel
theorem dX9_duel_3 : decode cX9_duel 3 = .ok (.bipush 20, 2) := by decide +kernel
theorem dX9_duel_5 : decode cX9_duel 5 = .ok (.invokevirtual 148, 3) := by decide +kernel
theorem dX9_duel_8 : decode cX9_duel 8 = .ok (.aload_n 0, 1) := by decide +kernel
theorem dX9_duel_9 : decode cX9_duel 9 = .ok (.iload_n 2, 1) := by decide +kernel
theorem dX9_duel_10 : decode cX9_duel 10 = .ok (.iconst 0, 1) := by decide +kernel
theorem dX9_duel_11 : decode cX9_duel 11 = .ok (.iconst 3, 1) := by decide +kernel
theorem dX9_duel_12 : decode cX9_duel 12 = .ok (.invokevirtual 148, 3) := by decide +kernel
theorem dX9_duel_15 : decode cX9_duel 15 = .ok (.aload_n 0, 1) := by decide +kernel
theorem dX9_duel_16 : decode cX9_duel 16 = .ok (.invokevirtual 277, 3) := by decide +kernel
theorem dX9_duel_19 : decode cX9_duel 19 = .ok (.aload_n 0, 1) := by decide +kernel
theorem dX9_duel_20 : decode cX9_duel 20 = .ok (.aload_n 0, 1) := by decide +kernel
theorem dX9_duel_21 : decode cX9_duel 21 = .ok (.invokevirtual 205, 3) := by decide +kernel
theorem dX9_duel_24 : decode cX9_duel 24 = .ok (.iload_n 1, 1) := by decide +kernel
theorem dX9_duel_25 : decode cX9_duel 25 = .ok (.invokevirtual 283, 3) := by decide +kernel
theorem dX9_duel_28 : decode cX9_duel 28 = .ok (.iload_n 1, 1) := by decide +kernel
theorem dX9_duel_29 : decode cX9_duel 29 = .ok (.iconst 1, 1) := by decide +kernel
theorem dX9_duel_30 : decode cX9_duel 30 = .ok (.iadd, 1) := by decide +kernel
theorem dX9_duel_31 : decode cX9_duel 31 = .ok (.istore_n 3, 1) := by decide +kernel
theorem dX9_duel_32 : decode cX9_duel 32 = .ok (.iload_n 2, 1) := by decide +kernel
theorem dX9_duel_33 : decode cX9_duel 33 = .ok (.tableswitch 62 0 2 #[27, 36, 49], 27) := by decide +kernel
theorem dX9_duel_60 : decode cX9_duel 60 = .ok (.aload_n 0, 1) := by decide +kernel
theorem dX9_duel_61 : decode cX9_duel 61 = .ok (.getfield 64, 3) := by decide +kernel
theorem dX9_duel_64 : decode cX9_duel 64 = .ok (.iload_n 3, 1) := by decide +kernel
theorem dX9_duel_65 : decode cX9_duel 65 = .ok (.invokevirtual 287, 3) := by decide +kernel
theorem dX9_duel_68 : decode cX9_duel 68 = .ok (.ireturn, 1) := by decide +kernel
theorem dX9_duel_69 : decode cX9_duel 69 = .ok (.aload_n 0, 1) := by decide +kernel
theorem dX9_duel_70 : decode cX9_duel 70 = .ok (.getfield 64, 3) := by decide +kernel
theorem dX9_duel_73 : decode cX9_duel 73 = .ok (.iload_n 3, 1) := by decide +kernel
theorem dX9_duel_74 : decode cX9_duel 74 = .ok (.invokevirtual 290, 3) := by decide +kernel
theorem dX9_duel_77 : decode cX9_duel 77 = .ok (.iconst 0, 1) := by decide +kernel
theorem dX9_duel_78 : decode cX9_duel 78 = .ok (.invokestatic 293, 3) := by decide +kernel
theorem dX9_duel_81 : decode cX9_duel 81 = .ok (.ireturn, 1) := by decide +kernel
theorem dX9_duel_82 : decode cX9_duel 82 = .ok (.aload_n 0, 1) := by decide +kernel
theorem dX9_duel_83 : decode cX9_duel 83 = .ok (.getfield 64, 3) := by decide +kernel
theorem dX9_duel_86 : decode cX9_duel 86 = .ok (.iload_n 3, 1) := by decide +kernel
theorem dX9_duel_87 : decode cX9_duel 87 = .ok (.invokevirtual 296, 3) := by decide +kernel
theorem dX9_duel_90 : decode cX9_duel 90 = .ok (.iconst 0, 1) := by decide +kernel
theorem dX9_duel_91 : decode cX9_duel 91 = .ok (.invokestatic 293, 3) := by decide +kernel
theorem dX9_duel_94 : decode cX9_duel 94 = .ok (.ireturn, 1) := by decide +kernel
theorem dX9_duel_95 : decode cX9_duel 95 = .ok (.aload_n 0, 1) := by decide +kernel
theorem dX9_duel_96 : decode cX9_duel 96 = .ok (.getfield 64, 3) := by decide +kernel
theorem dX9_duel_99 : decode cX9_duel 99 = .ok (.aload_n 0, 1) := by decide +kernel
theorem dX9_duel_100 : decode cX9_duel 100 = .ok (.getfield 64, 3) := by decide +kernel
theorem dX9_duel_103 : decode cX9_duel 103 = .ok (.iload_n 3, 1) := by decide +kernel
theorem dX9_duel_104 : decode cX9_duel 104 = .ok (.invokevirtual 296, 3) := by decide +kernel
theorem dX9_duel_107 : decode cX9_duel 107 = .ok (.invokevirtual 299, 3) := by decide +kernel
theorem dX9_duel_110 : decode cX9_duel 110 = .ok (.ireturn, 1) := by decide +kernel
theorem dX9_pairNumber_0 : decode cX9_pairNumber 0 = .ok (.iload_n 0, 1) := by decide +kernel
theorem dX9_pairNumber_1 : decode cX9_pairNumber 1 = .ok (.ifCond .ge 5, 3) := by decide +kernel
theorem dX9_pairNumber_4 : decode cX9_pairNumber 4 = .ok (.iconst (-1), 1) := by decide +kernel
theorem dX9_pairNumber_5 : decode cX9_pairNumber 5 = .ok (.ireturn, 1) := by decide +kernel
theorem dX9_pairNumber_6 : decode cX9_pairNumber 6 = .ok (.bipush 100, 2) := by decide +kernel
theorem dX9_pairNumber_8 : decode cX9_pairNumber 8 = .ok (.iload_n 0, 1) := by decide +kernel
theorem dX9_pairNumber_9 : decode cX9_pairNumber 9 = .ok (.bipush 21, 2) := by decide +kernel
theorem dX9_pairNumber_11 : decode cX9_pairNumber 11 = .ok (.idiv, 1) := by decide +kernel
theorem dX9_pairNumber_12 : decode cX9_pairNumber 12 = .ok (.iload_n 1, 1) := by decide +kernel
theorem dX9_pairNumber_13 : decode cX9_pairNumber 13 = .ok (.iadd, 1) := by decide +kernel
theorem dX9_pairNumber_14 : decode cX9_pairNumber 14 = .ok (.imul, 1) := by decide +kernel
theorem dX9_pairNumber_15 : decode cX9_pairNumber 15 = .ok (.iload_n 0, 1) := by decide +kernel
theorem dX9_pairNumber_16 : decode cX9_pairNumber 16 = .ok (.bipush 21, 2) := by decide +kernel
theorem dX9_pairNumber_18 : decode cX9_pairNumber 18 = .ok (.irem, 1) := by decide +kernel
theorem dX9_pairNumber_19 : decode cX9_pairNumber 19 = .ok (.iadd, 1) := by decide +kernel
theorem dX9_pairNumber_20 : decode cX9_pairNumber 20 = .ok (.iload_n 1, 1) := by decide +kernel
theorem dX9_pairNumber_21 : decode cX9_pairNumber 21 = .ok (.iadd, 1) := by decide +kernel
theorem dX9_pairNumber_22 : decode cX9_pairNumber 22 = .ok (.ireturn, 1) := by decide +kernel
theorem dX9_fillDuel_0 : decode cX9_fillDuel 0 = .ok (.aload_n 0, 1) := by decide +kernel
theorem dX9_fillDuel_1 : decode cX9_fillDuel 1 = .ok (.getfield 68, 3) := by decide +kernel
theorem dX9_fillDuel_4 : decode cX9_fillDuel 4 = .ok (.iload_n 2, 1) := by decide +kernel
theorem dX9_fillDuel_5 : decode cX9_fillDuel 5 = .ok (.if_icmp .lt 4, 3) := by decide +kernel
theorem dX9_fillDuel_8 : decode cX9_fillDuel 8 = .ok (.return_, 1) := by decide +kernel
theorem dX9_fillDuel_9 : decode cX9_fillDuel 9 = .ok (.iconst 0, 1) := by decide +kernel
theorem dX9_fillDuel_10 : decode cX9_fillDuel 10 = .ok (.istore_n 3, 1) := by decide +kernel
theorem dX9_fillDuel_11 : decode cX9_fillDuel 11 = .ok (.iload_n 3, 1) := by decide +kernel
theorem dX9_fillDuel_12 : decode cX9_fillDuel 12 = .ok (.iload_n 2, 1) := by decide +kernel
theorem dX9_fillDuel_13 : decode cX9_fillDuel 13 = .ok (.if_icmp .gt 140, 3) := by decide +kernel
theorem dX9_fillDuel_16 : decode cX9_fillDuel 16 = .ok (.iconst 0, 1) := by decide +kernel
theorem dX9_fillDuel_17 : decode cX9_fillDuel 17 = .ok (.istore 4, 2) := by decide +kernel
theorem dX9_fillDuel_19 : decode cX9_fillDuel 19 = .ok (.iload 4, 2) := by decide +kernel
theorem dX9_fillDuel_21 : decode cX9_fillDuel 21 = .ok (.iload_n 2, 1) := by decide +kernel
theorem dX9_fillDuel_22 : decode cX9_fillDuel 22 = .ok (.if_icmp .gt 125, 3) := by decide +kernel
theorem dX9_fillDuel_25 : decode cX9_fillDuel 25 = .ok (.iload_n 3, 1) := by decide +kernel
theorem dX9_fillDuel_26 : decode cX9_fillDuel 26 = .ok (.ifCond .le 29, 3) := by decide +kernel
theorem dX9_fillDuel_29 : decode cX9_fillDuel 29 = .ok (.aload_n 1, 1) := by decide +kernel
theorem dX9_fillDuel_30 : decode cX9_fillDuel 30 = .ok (.iload_n 3, 1) := by decide +kernel
theorem dX9_fillDuel_31 : decode cX9_fillDuel 31 = .ok (.invokevirtual 302, 3) := by decide +kernel
theorem dX9_fillDuel_34 : decode cX9_fillDuel 34 = .ok (.ifCond .ne 21, 3) := by decide +kernel
theorem dX9_fillDuel_37 : decode cX9_fillDuel 37 = .ok (.aload_n 0, 1) := by decide +kernel
theorem dX9_fillDuel_38 : decode cX9_fillDuel 38 = .ok (.getfield 64, 3) := by decide +kernel
theorem dX9_fillDuel_41 : decode cX9_fillDuel 41 = .ok (.iload_n 3, 1) := by decide +kernel
theorem dX9_fillDuel_42 : decode cX9_fillDuel 42 = .ok (.iload 4, 2) := by decide +kernel
theorem dX9_fillDuel_44 : decode cX9_fillDuel 44 = .ok (.iload_n 3, 1) := by decide +kernel
theorem dX9_fillDuel_45 : decode cX9_fillDuel 45 = .ok (.iconst 1, 1) := by decide +kernel
theorem dX9_fillDuel_46 : decode cX9_fillDuel 46 = .ok (.isub, 1) := by decide +kernel
theorem dX9_fillDuel_47 : decode cX9_fillDuel 47 = .ok (.iload 4, 2) := by decide +kernel
theorem dX9_fillDuel_49 : decode cX9_fillDuel 49 = .ok (.invokevirtual 305, 3) := by decide +kernel
theorem dX9_fillDuel_52 : decode cX9_fillDuel 52 = .ok (.goto 89, 3) := by decide +kernel
theorem dX9_fillDuel_55 : decode cX9_fillDuel 55 = .ok (.iload 4, 2) := by decide +kernel
theorem dX9_fillDuel_57 : decode cX9_fillDuel 57 = .ok (.ifCond .le 30, 3) := by decide +kernel
theorem dX9_fillDuel_60 : decode cX9_fillDuel 60 = .ok (.aload_n 1, 1) := by decide +kernel
theorem dX9_fillDuel_61 : decode cX9_fillDuel 61 = .ok (.iload 4, 2) := by decide +kernel
theorem dX9_fillDuel_63 : decode cX9_fillDuel 63 = .ok (.invokevirtual 302, 3) := by decide +kernel
theorem dX9_fillDuel_66 : decode cX9_fillDuel 66 = .ok (.ifCond .ne 21, 3) := by decide +kernel
theorem dX9_fillDuel_69 : decode cX9_fillDuel 69 = .ok (.aload_n 0, 1) := by decide +kernel
theorem dX9_fillDuel_70 : decode cX9_fillDuel 70 = .ok (.getfield 64, 3) := by decide +kernel
theorem dX9_fillDuel_73 : decode cX9_fillDuel 73 = .ok (.iload_n 3, 1) := by decide +kernel
theorem dX9_fillDuel_74 : decode cX9_fillDuel 74 = .ok (.iload 4, 2) := by decide +kernel
theorem dX9_fillDuel_76 : decode cX9_fillDuel 76 = .ok (.iload_n 3, 1) := by decide +kernel
theorem dX9_fillDuel_77 : decode cX9_fillDuel 77 = .ok (.iload 4, 2) := by decide +kernel
theorem dX9_fillDuel_79 : decode cX9_fillDuel 79 = .ok (.iconst 1, 1) := by decide +kernel
theorem dX9_fillDuel_80 : decode cX9_fillDuel 80 = .ok (.isub, 1) := by decide +kernel
theorem dX9_fillDuel_81 : decode cX9_fillDuel 81 = .ok (.invokevirtual 305, 3) := by decide +kernel
theorem dX9_fillDuel_84 : decode cX9_fillDuel 84 = .ok (.goto 57, 3) := by decide +kernel
theorem dX9_fillDuel_87 : decode cX9_fillDuel 87 = .ok (.aload_n 0, 1) := by decide +kernel
theorem dX9_fillDuel_88 : decode cX9_fillDuel 88 = .ok (.getfield 58, 3) := by decide +kernel
theorem dX9_fillDuel_91 : decode cX9_fillDuel 91 = .ok (.aload_n 0, 1) := by decide +kernel
theorem dX9_fillDuel_92 : decode cX9_fillDuel 92 = .ok (.getfield 19, 3) := by decide +kernel
theorem dX9_fillDuel_95 : decode cX9_fillDuel 95 = .ok (.iload_n 3, 1) := by decide +kernel
theorem dX9_fillDuel_96 : decode cX9_fillDuel 96 = .ok (.iload 4, 2) := by decide +kernel
theorem dX9_fillDuel_98 : decode cX9_fillDuel 98 = .ok (.invokevirtual 201, 3) := by decide +kernel
theorem dX9_fillDuel_101 : decode cX9_fillDuel 101 = .ok (.aload_n 0, 1) := by decide +kernel
theorem dX9_fillDuel_102 : decode cX9_fillDuel 102 = .ok (.getfield 64, 3) := by decide +kernel
theorem dX9_fillDuel_105 : decode cX9_fillDuel 105 = .ok (.iload_n 3, 1) := by decide +kernel
theorem dX9_fillDuel_106 : decode cX9_fillDuel 106 = .ok (.iload 4, 2) := by decide +kernel
theorem dX9_fillDuel_108 : decode cX9_fillDuel 108 = .ok (.aload_n 0, 1) := by decide +kernel
theorem dX9_fillDuel_109 : decode cX9_fillDuel 109 = .ok (.getfield 58, 3) := by decide +kernel
theorem dX9_fillDuel_112 : decode cX9_fillDuel 112 = .ok (.aload_n 0, 1) := by decide +kernel
theorem dX9_fillDuel_113 : decode cX9_fillDuel 113 = .ok (.getfield 19, 3) := by decide +kernel
theorem dX9_fillDuel_116 : decode cX9_fillDuel 116 = .ok (.getfield 108, 3) := by decide +kernel
theorem dX9_fillDuel_119 : decode cX9_fillDuel 119 = .ok (.iconst 0, 1) := by decide +kernel
theorem dX9_fillDuel_120 : decode cX9_fillDuel 120 = .ok (.invokevirtual 280, 3) := by decide +kernel
theorem dX9_fillDuel_123 : decode cX9_fillDuel 123 = .ok (.aload_n 0, 1) := by decide +kernel
theorem dX9_fillDuel_124 : decode cX9_fillDuel 124 = .ok (.getfield 58, 3) := by decide +kernel
theorem dX9_fillDuel_127 : decode cX9_fillDuel 127 = .ok (.aload_n 0, 1) := by decide +kernel
theorem dX9_fillDuel_128 : decode cX9_fillDuel 128 = .ok (.getfield 19, 3) := by decide +kernel
theorem dX9_fillDuel_131 : decode cX9_fillDuel 131 = .ok (.getfield 108, 3) := by decide +kernel
theorem dX9_fillDuel_134 : decode cX9_fillDuel 134 = .ok (.iconst 1, 1) := by decide +kernel
theorem dX9_fillDuel_135 : decode cX9_fillDuel 135 = .ok (.invokevirtual 280, 3) := by decide +kernel
theorem dX9_fillDuel_138 : decode cX9_fillDuel 138 = .ok (.invokevirtual 309, 3) := by decide +kernel
theorem dX9_fillDuel_141 : decode cX9_fillDuel 141 = .ok (.iinc 4 1, 3) := by decide +kernel
theorem dX9_fillDuel_144 : decode cX9_fillDuel 144 = .ok (.goto (-125), 3) := by decide +kernel
theorem dX9_fillDuel_147 : decode cX9_fillDuel 147 = .ok (.iinc 3 1, 3) := by decide +kernel
theorem dX9_fillDuel_150 : decode cX9_fillDuel 150 = .ok (.goto (-139), 3) := by decide +kernel
theorem dX9_fillDuel_153 : decode cX9_fillDuel 153 = .ok (.aload_n 0, 1) := by decide +kernel
theorem dX9_fillDuel_154 : decode cX9_fillDuel 154 = .ok (.iload_n 2, 1) := by decide +kernel
theorem dX9_fillDuel_155 : decode cX9_fillDuel 155 = .ok (.putfield 68, 3) := by decide +kernel
theorem dX9_fillDuel_158 : decode cX9_fillDuel 158 = .ok (.return_, 1) := by decide +kernel
theorem dX9_answer_0 : decode cX9_answer 0 = .ok (.aload_n 0, 1) := by decide +kernel
theorem dX9_answer_1 : decode cX9_answer 1 = .ok (.iload_n 1, 1) := by decide +kernel
theorem dX9_answer_2 : decode cX9_answer 2 = .ok (.invokevirtual 176, 3) := by decide +kernel
theorem dX9_answer_5 : decode cX9_answer 5 = .ok (.aload_n 0, 1) := by decide +kernel
theorem dX9_answer_6 : decode cX9_answer 6 = .ok (.iload_n 2, 1) := by decide +kernel
theorem dX9_answer_7 : decode cX9_answer 7 = .ok (.iconst 0, 1) := by decide +kernel
theorem dX9_answer_8 : decode cX9_answer 8 = .ok (.bipush 20, 2) := by decide +kernel
theorem dX9_answer_10 : decode cX9_answer 10 = .ok (.invokevirtual 148, 3) := by decide +kernel
theorem dX9_answer_13 : decode cX9_answer 13 = .ok (.aload_n 0, 1) := by decide +kernel
theorem dX9_answer_14 : decode cX9_answer 14 = .ok (.invokevirtual 277, 3) := by decide +kernel
theorem dX9_answer_17 : decode cX9_answer 17 = .ok (.iconst 0, 1) := by decide +kernel
theorem dX9_answer_18 : decode cX9_answer 18 = .ok (.istore_n 3, 1) := by decide +kernel
theorem dX9_answer_19 : decode cX9_answer 19 = .ok (.ldc_w 311, 3) := by decide +kernel
theorem dX9_answer_22 : decode cX9_answer 22 = .ok (.istore 4, 2) := by decide +kernel
theorem dX9_answer_24 : decode cX9_answer 24 = .ok (.iconst 0, 1) := by decide +kernel
theorem dX9_answer_25 : decode cX9_answer 25 = .ok (.istore 5, 2) := by decide +kernel
theorem dX9_answer_27 : decode cX9_answer 27 = .ok (.iload 5, 2) := by decide +kernel
theorem dX9_answer_29 : decode cX9_answer 29 = .ok (.iload_n 2, 1) := by decide +kernel
theorem dX9_answer_30 : decode cX9_answer 30 = .ok (.if_icmp .gt 71, 3) := by decide +kernel
theorem dX9_answer_33 : decode cX9_answer 33 = .ok (.aload_n 0, 1) := by decide +kernel
theorem dX9_answer_34 : decode cX9_answer 34 = .ok (.getfield 58, 3) := by decide +kernel
theorem dX9_answer_37 : decode cX9_answer 37 = .ok (.aload_n 0, 1) := by decide +kernel
theorem dX9_answer_38 : decode cX9_answer 38 = .ok (.getfield 19, 3) := by decide +kernel
theorem dX9_answer_41 : decode cX9_answer 41 = .ok (.iload_n 1, 1) := by decide +kernel
theorem dX9_answer_42 : decode cX9_answer 42 = .ok (.ifCond .ne 8, 3) := by decide +kernel
theorem dX9_answer_45 : decode cX9_answer 45 = .ok (.iload 5, 2) := by decide +kernel
theorem dX9_answer_47 : decode cX9_answer 47 = .ok (.goto 4, 3) := by decide +kernel
theorem dX9_answer_50 : decode cX9_answer 50 = .ok (.iconst (-1), 1) := by decide +kernel
theorem dX9_answer_51 : decode cX9_answer 51 = .ok (.iload_n 1, 1) := by decide +kernel
theorem dX9_answer_52 : decode cX9_answer 52 = .ok (.ifCond .ne 7, 3) := by decide +kernel
theorem dX9_answer_55 : decode cX9_answer 55 = .ok (.iconst (-1), 1) := by decide +kernel
theorem dX9_answer_56 : decode cX9_answer 56 = .ok (.goto 5, 3) := by decide +kernel
theorem dX9_answer_59 : decode cX9_answer 59 = .ok (.iload 5, 2) := by decide +kernel
theorem dX9_answer_61 : decode cX9_answer 61 = .ok (.invokevirtual 201, 3) := by decide +kernel
theorem dX9_answer_64 : decode cX9_answer 64 = .ok (.aload_n 0, 1) := by decide +kernel
theorem dX9_answer_65 : decode cX9_answer 65 = .ok (.getfield 58, 3) := by decide +kernel
theorem dX9_answer_68 : decode cX9_answer 68 = .ok (.aload_n 0, 1) := by decide +kernel
theorem dX9_answer_69 : decode cX9_answer 69 = .ok (.getfield 19, 3) := by decide +kernel
theorem dX9_answer_72 : decode cX9_answer 72 = .ok (.getfield 108, 3) := by decide +kernel
theorem dX9_answer_75 : decode cX9_answer 75 = .ok (.iload_n 1, 1) := by decide +kernel
theorem dX9_answer_76 : decode cX9_answer 76 = .ok (.invokevirtual 280, 3) := by decide +kernel
theorem dX9_answer_79 : decode cX9_answer 79 = .ok (.istore 6, 2) := by decide +kernel
theorem dX9_answer_81 : decode cX9_answer 81 = .ok (.iload 6, 2) := by decide +kernel
theorem dX9_answer_83 : decode cX9_answer 83 = .ok (.iload 4, 2) := by decide +kernel
theorem dX9_answer_85 : decode cX9_answer 85 = .ok (.if_icmp .ge 10, 3) := by decide +kernel
theorem dX9_answer_88 : decode cX9_answer 88 = .ok (.iload 6, 2) := by decide +kernel
theorem dX9_answer_90 : decode cX9_answer 90 = .ok (.istore 4, 2) := by decide +kernel
theorem dX9_answer_92 : decode cX9_answer 92 = .ok (.iload 5, 2) := by decide +kernel
theorem dX9_answer_94 : decode cX9_answer 94 = .ok (.istore_n 3, 1) := by decide +kernel
theorem dX9_answer_95 : decode cX9_answer 95 = .ok (.iinc 5 1, 3) := by decide +kernel
theorem dX9_answer_98 : decode cX9_answer 98 = .ok (.goto (-71), 3) := by decide +kernel
theorem dX9_answer_101 : decode cX9_answer 101 = .ok (.iload_n 3, 1) := by decide +kernel
theorem dX9_answer_102 : decode cX9_answer 102 = .ok (.ireturn, 1) := by decide +kernel
theorem dX9_habit_0 : decode cX9_habit 0 = .ok (.aload_n 0, 1) := by decide +kernel
theorem dX9_habit_1 : decode cX9_habit 1 = .ok (.iload_n 1, 1) := by decide +kernel
theorem dX9_habit_2 : decode cX9_habit 2 = .ok (.iconst 0, 1) := by decide +kernel
theorem dX9_habit_3 : decode cX9_habit 3 = .ok (.bipush 20, 2) := by decide +kernel
theorem dX9_habit_5 : decode cX9_habit 5 = .ok (.invokevirtual 148, 3) := by decide +kernel
theorem dX9_habit_8 : decode cX9_habit 8 = .ok (.aload_n 0, 1) := by decide +kernel
theorem dX9_habit_9 : decode cX9_habit 9 = .ok (.iload_n 2, 1) := by decide +kernel
theorem dX9_habit_10 : decode cX9_habit 10 = .ok (.iconst 0, 1) := by decide +kernel
theorem dX9_habit_11 : decode cX9_habit 11 = .ok (.iconst 3, 1) := by decide +kernel
theorem dX9_habit_12 : decode cX9_habit 12 = .ok (.invokevirtual 148, 3) := by decide +kernel
theorem dX9_habit_15 : decode cX9_habit 15 = .ok (.aload_n 0, 1) := by decide +kernel
theorem dX9_habit_16 : decode cX9_habit 16 = .ok (.invokevirtual 277, 3) := by decide +kernel
theorem dX9_habit_19 : decode cX9_habit 19 = .ok (.iconst 0, 1) := by decide +kernel
theorem dX9_habit_20 : decode cX9_habit 20 = .ok (.istore_n 3, 1) := by decide +kernel
theorem dX9_habit_21 : decode cX9_habit 21 = .ok (.iload_n 3, 1) := by decide +kernel
theorem dX9_habit_22 : decode cX9_habit 22 = .ok (.bipush 20, 2) := by decide +kernel
theorem dX9_habit_24 : decode cX9_habit 24 = .ok (.if_icmp .gt 16, 3) := by decide +kernel
theorem dX9_habit_27 : decode cX9_habit 27 = .ok (.aload_n 0, 1) := by decide +kernel
theorem dX9_habit_28 : decode cX9_habit 28 = .ok (.getfield 75, 3) := by decide +kernel
theorem dX9_habit_31 : decode cX9_habit 31 = .ok (.iload_n 3, 1) := by decide +kernel
theorem dX9_habit_32 : decode cX9_habit 32 = .ok (.iconst (-1), 1) := by decide +kernel
theorem dX9_habit_33 : decode cX9_habit 33 = .ok (.iastore, 1) := by decide +kernel
theorem dX9_habit_34 : decode cX9_habit 34 = .ok (.iinc 3 1, 3) := by decide +kernel
theorem dX9_habit_37 : decode cX9_habit 37 = .ok (.goto (-16), 3) := by decide +kernel
theorem dX9_habit_40 : decode cX9_habit 40 = .ok (.iload_n 1, 1) := by decide +kernel
theorem dX9_habit_41 : decode cX9_habit 41 = .ok (.istore_n 3, 1) := by decide +kernel
theorem dX9_habit_42 : decode cX9_habit 42 = .ok (.iconst 0, 1) := by decide +kernel
theorem dX9_habit_43 : decode cX9_habit 43 = .ok (.istore 4, 2) := by decide +kernel
theorem dX9_habit_45 : decode cX9_habit 45 = .ok (.iload 4, 2) := by decide +kernel
theorem dX9_habit_47 : decode cX9_habit 47 = .ok (.bipush 20, 2) := by decide +kernel
theorem dX9_habit_49 : decode cX9_habit 49 = .ok (.if_icmp .gt 33, 3) := by decide +kernel
theorem dX9_habit_52 : decode cX9_habit 52 = .ok (.aload_n 0, 1) := by decide +kernel
theorem dX9_habit_53 : decode cX9_habit 53 = .ok (.getfield 75, 3) := by decide +kernel
theorem dX9_habit_56 : decode cX9_habit 56 = .ok (.iload_n 3, 1) := by decide +kernel
theorem dX9_habit_57 : decode cX9_habit 57 = .ok (.iaload, 1) := by decide +kernel
theorem dX9_habit_58 : decode cX9_habit 58 = .ok (.iconst (-1), 1) := by decide +kernel
theorem dX9_habit_59 : decode cX9_habit 59 = .ok (.if_icmp .ne 23, 3) := by decide +kernel
theorem dX9_habit_62 : decode cX9_habit 62 = .ok (.aload_n 0, 1) := by decide +kernel
theorem dX9_habit_63 : decode cX9_habit 63 = .ok (.getfield 75, 3) := by decide +kernel
theorem dX9_habit_66 : decode cX9_habit 66 = .ok (.iload_n 3, 1) := by decide +kernel
theorem dX9_habit_67 : decode cX9_habit 67 = .ok (.iload 4, 2) := by decide +kernel
theorem dX9_habit_69 : decode cX9_habit 69 = .ok (.iastore, 1) := by decide +kernel
theorem dX9_habit_70 : decode cX9_habit 70 = .ok (.iinc 4 1, 3) := by decide +kernel
theorem dX9_habit_73 : decode cX9_habit 73 = .ok (.aload_n 0, 1) := by decide +kernel
theorem dX9_habit_74 : decode cX9_habit 74 = .ok (.iload_n 3, 1) := by decide +kernel
theorem dX9_habit_75 : decode cX9_habit 75 = .ok (.invokevirtual 312, 3) := by decide +kernel
theorem dX9_habit_78 : decode cX9_habit 78 = .ok (.istore_n 3, 1) := by decide +kernel
theorem dX9_habit_79 : decode cX9_habit 79 = .ok (.goto (-34), 3) := by decide +kernel
theorem dX9_habit_82 : decode cX9_habit 82 = .ok (.aload_n 0, 1) := by decide +kernel
theorem dX9_habit_83 : decode cX9_habit 83 = .ok (.getfield 75, 3) := by decide +kernel
theorem dX9_habit_86 : decode cX9_habit 86 = .ok (.iload_n 3, 1) := by decide +kernel
theorem dX9_habit_87 : decode cX9_habit 87 = .ok (.iaload, 1) := by decide +kernel
theorem dX9_habit_88 : decode cX9_habit 88 = .ok (.istore 5, 2) := by decide +kernel
theorem dX9_habit_90 : decode cX9_habit 90 = .ok (.iload_n 2, 1) := by decide +kernel
theorem dX9_habit_91 : decode cX9_habit 91 = .ok (.tableswitch 41 0 2 #[25, 28, 34], 25) := by decide +kernel
theorem dX9_habit_116 : decode cX9_habit 116 = .ok (.iload 5, 2) := by decide +kernel
theorem dX9_habit_118 : decode cX9_habit 118 = .ok (.ireturn, 1) := by decide +kernel
theorem dX9_habit_119 : decode cX9_habit 119 = .ok (.iload 4, 2) := by decide +kernel
theorem dX9_habit_121 : decode cX9_habit 121 = .ok (.iload 5, 2) := by decide +kernel
theorem dX9_habit_123 : decode cX9_habit 123 = .ok (.isub, 1) := by decide +kernel
theorem dX9_habit_124 : decode cX9_habit 124 = .ok (.ireturn, 1) := by decide +kernel
theorem dX9_habit_125 : decode cX9_habit 125 = .ok (.aload_n 0, 1) := by decide +kernel
theorem dX9_habit_126 : decode cX9_habit 126 = .ok (.iload 5, 2) := by decide +kernel
theorem dX9_habit_128 : decode cX9_habit 128 = .ok (.invokevirtual 315, 3) := by decide +kernel
theorem dX9_habit_131 : decode cX9_habit 131 = .ok (.ireturn, 1) := by decide +kernel
theorem dX9_habit_132 : decode cX9_habit 132 = .ok (.aload_n 0, 1) := by decide +kernel
theorem dX9_habit_133 : decode cX9_habit 133 = .ok (.iload 5, 2) := by decide +kernel
theorem dX9_habit_135 : decode cX9_habit 135 = .ok (.invokevirtual 318, 3) := by decide +kernel
theorem dX9_habit_138 : decode cX9_habit 138 = .ok (.ireturn, 1) := by decide +kernel
theorem dX9_nextHabit_0 : decode cX9_nextHabit 0 = .ok (.aload_n 0, 1) := by decide +kernel
theorem dX9_nextHabit_1 : decode cX9_nextHabit 1 = .ok (.getfield 58, 3) := by decide +kernel
theorem dX9_nextHabit_4 : decode cX9_nextHabit 4 = .ok (.aload_n 0, 1) := by decide +kernel
theorem dX9_nextHabit_5 : decode cX9_nextHabit 5 = .ok (.getfield 19, 3) := by decide +kernel
theorem dX9_nextHabit_8 : decode cX9_nextHabit 8 = .ok (.iload_n 1, 1) := by decide +kernel
theorem dX9_nextHabit_9 : decode cX9_nextHabit 9 = .ok (.iconst (-1), 1) := by decide +kernel
theorem dX9_nextHabit_10 : decode cX9_nextHabit 10 = .ok (.invokevirtual 201, 3) := by decide +kernel
theorem dX9_nextHabit_13 : decode cX9_nextHabit 13 = .ok (.aload_n 0, 1) := by decide +kernel
theorem dX9_nextHabit_14 : decode cX9_nextHabit 14 = .ok (.getfield 58, 3) := by decide +kernel
theorem dX9_nextHabit_17 : decode cX9_nextHabit 17 = .ok (.iconst 0, 1) := by decide +kernel
theorem dX9_nextHabit_18 : decode cX9_nextHabit 18 = .ok (.invokevirtual 212, 3) := by decide +kernel
theorem dX9_nextHabit_21 : decode cX9_nextHabit 21 = .ok (.invokevirtual 258, 3) := by decide +kernel
theorem dX9_nextHabit_24 : decode cX9_nextHabit 24 = .ok (.ifCond .le 12, 3) := by decide +kernel
theorem dX9_nextHabit_27 : decode cX9_nextHabit 27 = .ok (.iload_n 1, 1) := by decide +kernel
theorem dX9_nextHabit_28 : decode cX9_nextHabit 28 = .ok (.iconst 1, 1) := by decide +kernel
theorem dX9_nextHabit_29 : decode cX9_nextHabit 29 = .ok (.iadd, 1) := by decide +kernel
theorem dX9_nextHabit_30 : decode cX9_nextHabit 30 = .ok (.bipush 20, 2) := by decide +kernel
theorem dX9_nextHabit_32 : decode cX9_nextHabit 32 = .ok (.invokestatic 321, 3) := by decide +kernel
theorem dX9_nextHabit_35 : decode cX9_nextHabit 35 = .ok (.ireturn, 1) := by decide +kernel
theorem dX9_nextHabit_36 : decode cX9_nextHabit 36 = .ok (.iload_n 1, 1) := by decide +kernel
theorem dX9_nextHabit_37 : decode cX9_nextHabit 37 = .ok (.iconst 1, 1) := by decide +kernel
theorem dX9_nextHabit_38 : decode cX9_nextHabit 38 = .ok (.isub, 1) := by decide +kernel
theorem dX9_nextHabit_39 : decode cX9_nextHabit 39 = .ok (.iconst 0, 1) := by decide +kernel
theorem dX9_nextHabit_40 : decode cX9_nextHabit 40 = .ok (.invokestatic 326, 3) := by decide +kernel
theorem dX9_nextHabit_43 : decode cX9_nextHabit 43 = .ok (.ireturn, 1) := by decide +kernel
theorem dX9_leastVisited_0 : decode cX9_leastVisited 0 = .ok (.iconst 0, 1) := by decide +kernel
theorem dX9_leastVisited_1 : decode cX9_leastVisited 1 = .ok (.istore_n 2, 1) := by decide +kernel
theorem dX9_leastVisited_2 : decode cX9_leastVisited 2 = .ok (.iload_n 2, 1) := by decide +kernel
theorem dX9_leastVisited_3 : decode cX9_leastVisited 3 = .ok (.bipush 20, 2) := by decide +kernel
theorem dX9_leastVisited_5 : decode cX9_leastVisited 5 = .ok (.if_icmp .gt 21, 3) := by decide +kernel
theorem dX9_leastVisited_8 : decode cX9_leastVisited 8 = .ok (.aload_n 0, 1) := by decide +kernel
theorem dX9_leastVisited_9 : decode cX9_leastVisited 9 = .ok (.getfield 75, 3) := by decide +kernel
theorem dX9_leastVisited_12 : decode cX9_leastVisited 12 = .ok (.iload_n 2, 1) := by decide +kernel
theorem dX9_leastVisited_13 : decode cX9_leastVisited 13 = .ok (.iaload, 1) := by decide +kernel
theorem dX9_leastVisited_14 : decode cX9_leastVisited 14 = .ok (.iload_n 1, 1) := by decide +kernel
theorem dX9_leastVisited_15 : decode cX9_leastVisited 15 = .ok (.if_icmp .lt 5, 3) := by decide +kernel
theorem dX9_leastVisited_18 : decode cX9_leastVisited 18 = .ok (.iload_n 2, 1) := by decide +kernel
theorem dX9_leastVisited_19 : decode cX9_leastVisited 19 = .ok (.ireturn, 1) := by decide +kernel
theorem dX9_leastVisited_20 : decode cX9_leastVisited 20 = .ok (.iinc 2 1, 3) := by decide +kernel
theorem dX9_leastVisited_23 : decode cX9_leastVisited 23 = .ok (.goto (-21), 3) := by decide +kernel
theorem dX9_leastVisited_26 : decode cX9_leastVisited 26 = .ok (.iconst (-1), 1) := by decide +kernel
theorem dX9_leastVisited_27 : decode cX9_leastVisited 27 = .ok (.ireturn, 1) := by decide +kernel
theorem dX9_greatestVisited_0 : decode cX9_greatestVisited 0 = .ok (.bipush 20, 2) := by decide +kernel
theorem dX9_greatestVisited_2 : decode cX9_greatestVisited 2 = .ok (.istore_n 2, 1) := by decide +kernel
theorem dX9_greatestVisited_3 : decode cX9_greatestVisited 3 = .ok (.iload_n 2, 1) := by decide +kernel
theorem dX9_greatestVisited_4 : decode cX9_greatestVisited 4 = .ok (.ifCond .lt 21, 3) := by decide +kernel
theorem dX9_greatestVisited_7 : decode cX9_greatestVisited 7 = .ok (.aload_n 0, 1) := by decide +kernel
theorem dX9_greatestVisited_8 : decode cX9_greatestVisited 8 = .ok (.getfield 75, 3) := by decide +kernel
theorem dX9_greatestVisited_11 : decode cX9_greatestVisited 11 = .ok (.iload_n 2, 1) := by decide +kernel
theorem dX9_greatestVisited_12 : decode cX9_greatestVisited 12 = .ok (.iaload, 1) := by decide +kernel
theorem dX9_greatestVisited_13 : decode cX9_greatestVisited 13 = .ok (.iload_n 1, 1) := by decide +kernel
theorem dX9_greatestVisited_14 : decode cX9_greatestVisited 14 = .ok (.if_icmp .lt 5, 3) := by decide +kernel
theorem dX9_greatestVisited_17 : decode cX9_greatestVisited 17 = .ok (.iload_n 2, 1) := by decide +kernel
theorem dX9_greatestVisited_18 : decode cX9_greatestVisited 18 = .ok (.ireturn, 1) := by decide +kernel
theorem dX9_greatestVisited_19 : decode cX9_greatestVisited 19 = .ok (.iinc 2 (-1), 3) := by decide +kernel
theorem dX9_greatestVisited_22 : decode cX9_greatestVisited 22 = .ok (.goto (-19), 3) := by decide +kernel
theorem dX9_greatestVisited_25 : decode cX9_greatestVisited 25 = .ok (.iconst (-1), 1) := by decide +kernel
theorem dX9_greatestVisited_26 : decode cX9_greatestVisited 26 = .ok (.ireturn, 1) := by decide +kernel
theorem dX9_safe_0 : decode cX9_safe 0 = .ok (.aload_n 0, 1) := by decide +kernel
theorem dX9_safe_1 : decode cX9_safe 1 = .ok (.iload_n 1, 1) := by decide +kernel
theorem dX9_safe_2 : decode cX9_safe 2 = .ok (.invokevirtual 176, 3) := by decide +kernel
theorem dX9_safe_5 : decode cX9_safe 5 = .ok (.aload_n 0, 1) := by decide +kernel
theorem dX9_safe_6 : decode cX9_safe 6 = .ok (.iload_n 2, 1) := by decide +kernel
theorem dX9_safe_7 : decode cX9_safe 7 = .ok (.iconst 0, 1) := by decide +kernel
theorem dX9_safe_8 : decode cX9_safe 8 = .ok (.iconst 1, 1) := by decide +kernel
theorem dX9_safe_9 : decode cX9_safe 9 = .ok (.invokevirtual 148, 3) := by decide +kernel
theorem dX9_safe_12 : decode cX9_safe 12 = .ok (.aload_n 0, 1) := by decide +kernel
theorem dX9_safe_13 : decode cX9_safe 13 = .ok (.getfield 19, 3) := by decide +kernel
theorem dX9_safe_16 : decode cX9_safe 16 = .ok (.getfield 108, 3) := by decide +kernel
theorem dX9_safe_19 : decode cX9_safe 19 = .ok (.astore_n 3, 1) := by decide +kernel
theorem dX9_safe_20 : decode cX9_safe 20 = .ok (.aload_n 0, 1) := by decide +kernel
theorem dX9_safe_21 : decode cX9_safe 21 = .ok (.getfield 19, 3) := by decide +kernel
theorem dX9_safe_24 : decode cX9_safe 24 = .ok (.invokevirtual 270, 3) := by decide +kernel
theorem dX9_safe_27 : decode cX9_safe 27 = .ok (.astore 4, 2) := by decide +kernel
theorem dX9_safe_29 : decode cX9_safe 29 = .ok (.aload 4, 2) := by decide +kernel
theorem dX9_safe_31 : decode cX9_safe 31 = .ok (.iconst 0, 1) := by decide +kernel
theorem dX9_safe_32 : decode cX9_safe 32 = .ok (.aload_n 3, 1) := by decide +kernel
theorem dX9_safe_33 : decode cX9_safe 33 = .ok (.iload_n 2, 1) := by decide +kernel
theorem dX9_safe_34 : decode cX9_safe 34 = .ok (.invokevirtual 329, 3) := by decide +kernel
theorem dX9_safe_37 : decode cX9_safe 37 = .ok (.iastore, 1) := by decide +kernel
theorem dX9_safe_38 : decode cX9_safe 38 = .ok (.aload 4, 2) := by decide +kernel
theorem dX9_safe_40 : decode cX9_safe 40 = .ok (.iconst 3, 1) := by decide +kernel
theorem dX9_safe_41 : decode cX9_safe 41 = .ok (.aload_n 3, 1) := by decide +kernel
theorem dX9_safe_42 : decode cX9_safe 42 = .ok (.getfield 179, 3) := by decide +kernel
theorem dX9_safe_45 : decode cX9_safe 45 = .ok (.iload_n 1, 1) := by decide +kernel
theorem dX9_safe_46 : decode cX9_safe 46 = .ok (.iaload, 1) := by decide +kernel
theorem dX9_safe_47 : decode cX9_safe 47 = .ok (.iastore, 1) := by decide +kernel
theorem dX9_safe_48 : decode cX9_safe 48 = .ok (.aload 4, 2) := by decide +kernel
theorem dX9_safe_50 : decode cX9_safe 50 = .ok (.iconst 5, 1) := by decide +kernel
theorem dX9_safe_51 : decode cX9_safe 51 = .ok (.aload_n 3, 1) := by decide +kernel
theorem dX9_safe_52 : decode cX9_safe 52 = .ok (.getfield 185, 3) := by decide +kernel
theorem dX9_safe_55 : decode cX9_safe 55 = .ok (.iload_n 1, 1) := by decide +kernel
theorem dX9_safe_56 : decode cX9_safe 56 = .ok (.iaload, 1) := by decide +kernel
theorem dX9_safe_57 : decode cX9_safe 57 = .ok (.iastore, 1) := by decide +kernel
theorem dX9_safe_58 : decode cX9_safe 58 = .ok (.aload 4, 2) := by decide +kernel
theorem dX9_safe_60 : decode cX9_safe 60 = .ok (.bipush 11, 2) := by decide +kernel
theorem dX9_safe_62 : decode cX9_safe 62 = .ok (.iload_n 2, 1) := by decide +kernel
theorem dX9_safe_63 : decode cX9_safe 63 = .ok (.iastore, 1) := by decide +kernel
theorem dX9_safe_64 : decode cX9_safe 64 = .ok (.bipush 9, 2) := by decide +kernel
theorem dX9_safe_66 : decode cX9_safe 66 = .ok (.istore 5, 2) := by decide +kernel
theorem dX9_safe_68 : decode cX9_safe 68 = .ok (.iload 5, 2) := by decide +kernel
theorem dX9_safe_70 : decode cX9_safe 70 = .ok (.iconst 1, 1) := by decide +kernel
theorem dX9_safe_71 : decode cX9_safe 71 = .ok (.if_icmp .lt 33, 3) := by decide +kernel
theorem dX9_safe_74 : decode cX9_safe 74 = .ok (.aload 4, 2) := by decide +kernel
theorem dX9_safe_76 : decode cX9_safe 76 = .ok (.bipush 6, 2) := by decide +kernel
theorem dX9_safe_78 : decode cX9_safe 78 = .ok (.iload 5, 2) := by decide +kernel
theorem dX9_safe_80 : decode cX9_safe 80 = .ok (.iastore, 1) := by decide +kernel
theorem dX9_safe_81 : decode cX9_safe 81 = .ok (.iconst 2, 1) := by decide +kernel
theorem dX9_safe_82 : decode cX9_safe 82 = .ok (.iload 5, 2) := by decide +kernel
theorem dX9_safe_84 : decode cX9_safe 84 = .ok (.imul, 1) := by decide +kernel
theorem dX9_safe_85 : decode cX9_safe 85 = .ok (.aload_n 0, 1) := by decide +kernel
theorem dX9_safe_86 : decode cX9_safe 86 = .ok (.getfield 19, 3) := by decide +kernel
theorem dX9_safe_89 : decode cX9_safe 89 = .ok (.invokevirtual 274, 3) := by decide +kernel
theorem dX9_safe_92 : decode cX9_safe 92 = .ok (.if_icmp .gt 6, 3) := by decide +kernel
theorem dX9_safe_95 : decode cX9_safe 95 = .ok (.iload 5, 2) := by decide +kernel
theorem dX9_safe_97 : decode cX9_safe 97 = .ok (.ireturn, 1) := by decide +kernel
theorem dX9_safe_98 : decode cX9_safe 98 = .ok (.iinc 5 (-1), 3) := by decide +kernel
theorem dX9_safe_101 : decode cX9_safe 101 = .ok (.goto (-33), 3) := by decide +kernel
theorem dX9_safe_104 : decode cX9_safe 104 = .ok (.iconst 0, 1) := by decide +kernel
theorem dX9_safe_105 : decode cX9_safe 105 = .ok (.ireturn, 1) := by decide +kernel
theorem dX9_loaded_0 : decode cX9_loaded 0 = .ok (.aload_n 0, 1) := by decide +kernel
theorem dX9_loaded_1 : decode cX9_loaded 1 = .ok (.iload_n 1, 1) := by decide +kernel
theorem dX9_loaded_2 : decode cX9_loaded 2 = .ok (.iconst 0, 1) := by decide +kernel
theorem dX9_loaded_3 : decode cX9_loaded 3 = .ok (.bipush 16, 2) := by decide +kernel
theorem dX9_loaded_5 : decode cX9_loaded 5 = .ok (.invokevirtual 148, 3) := by decide +kernel
theorem dX9_loaded_8 : decode cX9_loaded 8 = .ok (.aload_n 0, 1) := by decide +kernel
theorem dX9_loaded_9 : decode cX9_loaded 9 = .ok (.iload_n 2, 1) := by decide +kernel
theorem dX9_loaded_10 : decode cX9_loaded 10 = .ok (.iconst 0, 1) := by decide +kernel
theorem dX9_loaded_11 : decode cX9_loaded 11 = .ok (.bipush 6, 2) := by decide +kernel
theorem dX9_loaded_13 : decode cX9_loaded 13 = .ok (.invokevirtual 148, 3) := by decide +kernel
theorem dX9_loaded_16 : decode cX9_loaded 16 = .ok (.aload_n 0, 1) := by decide +kernel
theorem dX9_loaded_17 : decode cX9_loaded 17 = .ok (.iload_n 3, 1) := by decide +kernel
theorem dX9_loaded_18 : decode cX9_loaded 18 = .ok (.iconst 0, 1) := by decide +kernel
theorem dX9_loaded_19 : decode cX9_loaded 19 = .ok (.iload_n 2, 1) := by decide +kernel
theorem dX9_loaded_20 : decode cX9_loaded 20 = .ok (.invokevirtual 148, 3) := by decide +kernel
theorem dX9_loaded_23 : decode cX9_loaded 23 = .ok (.aload_n 0, 1) := by decide +kernel
theorem dX9_loaded_24 : decode cX9_loaded 24 = .ok (.iload 4, 2) := by decide +kernel
theorem dX9_loaded_26 : decode cX9_loaded 26 = .ok (.iconst 0, 1) := by decide +kernel
theorem dX9_loaded_27 : decode cX9_loaded 27 = .ok (.iconst 1, 1) := by decide +kernel
theorem dX9_loaded_28 : decode cX9_loaded 28 = .ok (.invokevirtual 148, 3) := by decide +kernel
theorem dX9_loaded_31 : decode cX9_loaded 31 = .ok (.iload_n 1, 1) := by decide +kernel
theorem dX9_loaded_32 : decode cX9_loaded 32 = .ok (.i2l, 1) := by decide +kernel
theorem dX9_loaded_33 : decode cX9_loaded 33 = .ok (.bipush 12, 2) := by decide +kernel
theorem dX9_loaded_35 : decode cX9_loaded 35 = .ok (.iload_n 3, 1) := by decide +kernel
theorem dX9_loaded_36 : decode cX9_loaded 36 = .ok (.invokestatic 332, 3) := by decide +kernel
theorem dX9_loaded_39 : decode cX9_loaded 39 = .ok (.lmul, 1) := by decide +kernel
theorem dX9_loaded_40 : decode cX9_loaded 40 = .ok (.iconst 4, 1) := by decide +kernel
theorem dX9_loaded_41 : decode cX9_loaded 41 = .ok (.iload_n 2, 1) := by decide +kernel
theorem dX9_loaded_42 : decode cX9_loaded 42 = .ok (.iload_n 3, 1) := by decide +kernel
theorem dX9_loaded_43 : decode cX9_loaded 43 = .ok (.isub, 1) := by decide +kernel
theorem dX9_loaded_44 : decode cX9_loaded 44 = .ok (.invokestatic 332, 3) := by decide +kernel
theorem dX9_loaded_47 : decode cX9_loaded 47 = .ok (.lmul, 1) := by decide +kernel
theorem dX9_loaded_48 : decode cX9_loaded 48 = .ok (.lstore 5, 2) := by decide +kernel
theorem dX9_loaded_50 : decode cX9_loaded 50 = .ok (.lload 5, 2) := by decide +kernel
theorem dX9_loaded_52 : decode cX9_loaded 52 = .ok (.bipush 16, 2) := by decide +kernel
theorem dX9_loaded_54 : decode cX9_loaded 54 = .ok (.iload_n 1, 1) := by decide +kernel
theorem dX9_loaded_55 : decode cX9_loaded 55 = .ok (.isub, 1) := by decide +kernel
theorem dX9_loaded_56 : decode cX9_loaded 56 = .ok (.i2l, 1) := by decide +kernel
theorem dX9_loaded_57 : decode cX9_loaded 57 = .ok (.iconst 5, 1) := by decide +kernel
theorem dX9_loaded_58 : decode cX9_loaded 58 = .ok (.iload_n 3, 1) := by decide +kernel
theorem dX9_loaded_59 : decode cX9_loaded 59 = .ok (.invokestatic 332, 3) := by decide +kernel
theorem dX9_loaded_62 : decode cX9_loaded 62 = .ok (.lmul, 1) := by decide +kernel
theorem dX9_loaded_63 : decode cX9_loaded 63 = .ok (.bipush 11, 2) := by decide +kernel
theorem dX9_loaded_65 : decode cX9_loaded 65 = .ok (.iload_n 2, 1) := by decide +kernel
theorem dX9_loaded_66 : decode cX9_loaded 66 = .ok (.iload_n 3, 1) := by decide +kernel
theorem dX9_loaded_67 : decode cX9_loaded 67 = .ok (.isub, 1) := by decide +kernel
theorem dX9_loaded_68 : decode cX9_loaded 68 = .ok (.invokestatic 332, 3) := by decide +kernel
theorem dX9_loaded_71 : decode cX9_loaded 71 = .ok (.lmul, 1) := by decide +kernel
theorem dX9_loaded_72 : decode cX9_loaded 72 = .ok (.ladd, 1) := by decide +kernel
theorem dX9_loaded_73 : decode cX9_loaded 73 = .ok (.lstore 7, 2) := by decide +kernel
theorem dX9_loaded_75 : decode cX9_loaded 75 = .ok (.lload 5, 2) := by decide +kernel
theorem dX9_loaded_77 : decode cX9_loaded 77 = .ok (.lload 7, 2) := by decide +kernel
theorem dX9_loaded_79 : decode cX9_loaded 79 = .ok (.invokestatic 336, 3) := by decide +kernel
theorem dX9_loaded_82 : decode cX9_loaded 82 = .ok (.lstore 9, 2) := by decide +kernel
theorem dX9_loaded_84 : decode cX9_loaded 84 = .ok (.lload 9, 2) := by decide +kernel
theorem dX9_loaded_86 : decode cX9_loaded 86 = .ok (.lconst 0, 1) := by decide +kernel
theorem dX9_loaded_87 : decode cX9_loaded 87 = .ok (.lcmp, 1) := by decide +kernel
theorem dX9_loaded_88 : decode cX9_loaded 88 = .ok (.ifCond .ne 5, 3) := by decide +kernel
theorem dX9_loaded_91 : decode cX9_loaded 91 = .ok (.lconst 0, 1) := by decide +kernel
theorem dX9_loaded_92 : decode cX9_loaded 92 = .ok (.lreturn, 1) := by decide +kernel
theorem dX9_loaded_93 : decode cX9_loaded 93 = .ok (.iload 4, 2) := by decide +kernel
theorem dX9_loaded_95 : decode cX9_loaded 95 = .ok (.ifCond .ne 11, 3) := by decide +kernel
theorem dX9_loaded_98 : decode cX9_loaded 98 = .ok (.lload 5, 2) := by decide +kernel
theorem dX9_loaded_100 : decode cX9_loaded 100 = .ok (.lload 9, 2) := by decide +kernel
theorem dX9_loaded_102 : decode cX9_loaded 102 = .ok (.ldiv, 1) := by decide +kernel
theorem dX9_loaded_103 : decode cX9_loaded 103 = .ok (.goto 8, 3) := by decide +kernel
theorem dX9_loaded_106 : decode cX9_loaded 106 = .ok (.lload 7, 2) := by decide +kernel
theorem dX9_loaded_108 : decode cX9_loaded 108 = .ok (.lload 9, 2) := by decide +kernel
theorem dX9_loaded_110 : decode cX9_loaded 110 = .ok (.ldiv, 1) := by decide +kernel
theorem dX9_loaded_111 : decode cX9_loaded 111 = .ok (.lreturn, 1) := by decide +kernel
theorem dX9_power_0 : decode cX9_power 0 = .ok (.lconst 1, 1) := by decide +kernel
theorem dX9_power_1 : decode cX9_power 1 = .ok (.lstore_n 2, 1) := by decide +kernel
theorem dX9_power_2 : decode cX9_power 2 = .ok (.iconst 0, 1) := by decide +kernel
theorem dX9_power_3 : decode cX9_power 3 = .ok (.istore 4, 2) := by decide +kernel
theorem dX9_power_5 : decode cX9_power 5 = .ok (.iload 4, 2) := by decide +kernel
theorem dX9_power_7 : decode cX9_power 7 = .ok (.iload_n 1, 1) := by decide +kernel
theorem dX9_power_8 : decode cX9_power 8 = .ok (.if_icmp .ge 14, 3) := by decide +kernel
theorem dX9_power_11 : decode cX9_power 11 = .ok (.lload_n 2, 1) := by decide +kernel
theorem dX9_power_12 : decode cX9_power 12 = .ok (.iload_n 0, 1) := by decide +kernel
theorem dX9_power_13 : decode cX9_power 13 = .ok (.i2l, 1) := by decide +kernel
theorem dX9_power_14 : decode cX9_power 14 = .ok (.lmul, 1) := by decide +kernel
theorem dX9_power_15 : decode cX9_power 15 = .ok (.lstore_n 2, 1) := by decide +kernel
theorem dX9_power_16 : decode cX9_power 16 = .ok (.iinc 4 1, 3) := by decide +kernel
theorem dX9_power_19 : decode cX9_power 19 = .ok (.goto (-14), 3) := by decide +kernel
theorem dX9_power_22 : decode cX9_power 22 = .ok (.lload_n 2, 1) := by decide +kernel
theorem dX9_power_23 : decode cX9_power 23 = .ok (.lreturn, 1) := by decide +kernel
theorem dX9_commonDivisor_0 : decode cX9_commonDivisor 0 = .ok (.lload_n 0, 1) := by decide +kernel
theorem dX9_commonDivisor_1 : decode cX9_commonDivisor 1 = .ok (.lstore 4, 2) := by decide +kernel
theorem dX9_commonDivisor_3 : decode cX9_commonDivisor 3 = .ok (.lload_n 2, 1) := by decide +kernel
theorem dX9_commonDivisor_4 : decode cX9_commonDivisor 4 = .ok (.lstore 6, 2) := by decide +kernel
theorem dX9_commonDivisor_6 : decode cX9_commonDivisor 6 = .ok (.iconst 0, 1) := by decide +kernel
theorem dX9_commonDivisor_7 : decode cX9_commonDivisor 7 = .ok (.istore 8, 2) := by decide +kernel
theorem dX9_commonDivisor_9 : decode cX9_commonDivisor 9 = .ok (.iload 8, 2) := by decide +kernel
theorem dX9_commonDivisor_11 : decode cX9_commonDivisor 11 = .ok (.sipush 200, 3) := by decide +kernel
theorem dX9_commonDivisor_14 : decode cX9_commonDivisor 14 = .ok (.if_icmp .ge 31, 3) := by decide +kernel
theorem dX9_commonDivisor_17 : decode cX9_commonDivisor 17 = .ok (.lload 6, 2) := by decide +kernel
theorem dX9_commonDivisor_19 : decode cX9_commonDivisor 19 = .ok (.lconst 0, 1) := by decide +kernel
theorem dX9_commonDivisor_20 : decode cX9_commonDivisor 20 = .ok (.lcmp, 1) := by decide +kernel
theorem dX9_commonDivisor_21 : decode cX9_commonDivisor 21 = .ok (.ifCond .eq 24, 3) := by decide +kernel
theorem dX9_commonDivisor_24 : decode cX9_commonDivisor 24 = .ok (.lload 4, 2) := by decide +kernel
theorem dX9_commonDivisor_26 : decode cX9_commonDivisor 26 = .ok (.lload 6, 2) := by decide +kernel
theorem dX9_commonDivisor_28 : decode cX9_commonDivisor 28 = .ok (.lrem, 1) := by decide +kernel
theorem dX9_commonDivisor_29 : decode cX9_commonDivisor 29 = .ok (.lstore 9, 2) := by decide +kernel
theorem dX9_commonDivisor_31 : decode cX9_commonDivisor 31 = .ok (.lload 6, 2) := by decide +kernel
theorem dX9_commonDivisor_33 : decode cX9_commonDivisor 33 = .ok (.lstore 4, 2) := by decide +kernel
theorem dX9_commonDivisor_35 : decode cX9_commonDivisor 35 = .ok (.lload 9, 2) := by decide +kernel
theorem dX9_commonDivisor_37 : decode cX9_commonDivisor 37 = .ok (.lstore 6, 2) := by decide +kernel
theorem dX9_commonDivisor_39 : decode cX9_commonDivisor 39 = .ok (.iinc 8 1, 3) := by decide +kernel
theorem dX9_commonDivisor_42 : decode cX9_commonDivisor 42 = .ok (.goto (-33), 3) := by decide +kernel
theorem dX9_commonDivisor_45 : decode cX9_commonDivisor 45 = .ok (.lload 4, 2) := by decide +kernel
theorem dX9_commonDivisor_47 : decode cX9_commonDivisor 47 = .ok (.lreturn, 1) := by decide +kernel
theorem dX9_blinds_0 : decode cX9_blinds 0 = .ok (.aload_n 0, 1) := by decide +kernel
theorem dX9_blinds_1 : decode cX9_blinds 1 = .ok (.iload_n 1, 1) := by decide +kernel
theorem dX9_blinds_2 : decode cX9_blinds 2 = .ok (.bipush 17, 2) := by decide +kernel
theorem dX9_blinds_4 : decode cX9_blinds 4 = .ok (.bipush 99, 2) := by decide +kernel
theorem dX9_blinds_6 : decode cX9_blinds 6 = .ok (.invokevirtual 148, 3) := by decide +kernel
theorem dX9_blinds_9 : decode cX9_blinds 9 = .ok (.aload_n 0, 1) := by decide +kernel
theorem dX9_blinds_10 : decode cX9_blinds 10 = .ok (.getfield 19, 3) := by decide +kernel
theorem dX9_blinds_13 : decode cX9_blinds 13 = .ok (.getfield 108, 3) := by decide +kernel
theorem dX9_blinds_16 : decode cX9_blinds 16 = .ok (.iload_n 1, 1) := by decide +kernel
theorem dX9_blinds_17 : decode cX9_blinds 17 = .ok (.invokevirtual 340, 3) := by decide +kernel
theorem dX9_blinds_20 : decode cX9_blinds 20 = .ok (.ireturn, 1) := by decide +kernel
theorem dX9_old_0 : decode cX9_old 0 = .ok (.aload_n 0, 1) := by decide +kernel
theorem dX9_old_1 : decode cX9_old 1 = .ok (.iload_n 1, 1) := by decide +kernel
theorem dX9_old_2 : decode cX9_old 2 = .ok (.iconst 0, 1) := by decide +kernel
theorem dX9_old_3 : decode cX9_old 3 = .ok (.bipush 20, 2) := by decide +kernel
theorem dX9_old_5 : decode cX9_old 5 = .ok (.invokevirtual 148, 3) := by decide +kernel
theorem dX9_old_8 : decode cX9_old 8 = .ok (.bipush 17, 2) := by decide +kernel
theorem dX9_old_10 : decode cX9_old 10 = .ok (.istore_n 2, 1) := by decide +kernel
theorem dX9_old_11 : decode cX9_old 11 = .ok (.iload_n 2, 1) := by decide +kernel
theorem dX9_old_12 : decode cX9_old 12 = .ok (.bipush 99, 2) := by decide +kernel
theorem dX9_old_14 : decode cX9_old 14 = .ok (.if_icmp .gt 26, 3) := by decide +kernel
theorem dX9_old_17 : decode cX9_old 17 = .ok (.aload_n 0, 1) := by decide +kernel
theorem dX9_old_18 : decode cX9_old 18 = .ok (.getfield 19, 3) := by decide +kernel
theorem dX9_old_21 : decode cX9_old 21 = .ok (.getfield 108, 3) := by decide +kernel
theorem dX9_old_24 : decode cX9_old 24 = .ok (.iload_n 2, 1) := by decide +kernel
theorem dX9_old_25 : decode cX9_old 25 = .ok (.invokevirtual 340, 3) := by decide +kernel
theorem dX9_old_28 : decode cX9_old 28 = .ok (.iload_n 1, 1) := by decide +kernel
theorem dX9_old_29 : decode cX9_old 29 = .ok (.if_icmp .le 5, 3) := by decide +kernel
theorem dX9_old_32 : decode cX9_old 32 = .ok (.iload_n 2, 1) := by decide +kernel
theorem dX9_old_33 : decode cX9_old 33 = .ok (.ireturn, 1) := by decide +kernel
theorem dX9_old_34 : decode cX9_old 34 = .ok (.iinc 2 1, 3) := by decide +kernel
theorem dX9_old_37 : decode cX9_old 37 = .ok (.goto (-26), 3) := by decide +kernel
theorem dX9_old_40 : decode cX9_old 40 = .ok (.iconst (-1), 1) := by decide +kernel
theorem dX9_old_41 : decode cX9_old 41 = .ok (.ireturn, 1) := by decide +kernel
theorem dX9_between_0 : decode cX9_between 0 = .ok (.aload_n 0, 1) := by decide +kernel
theorem dX9_between_1 : decode cX9_between 1 = .ok (.iload_n 1, 1) := by decide +kernel
theorem dX9_between_2 : decode cX9_between 2 = .ok (.bipush 17, 2) := by decide +kernel
theorem dX9_between_4 : decode cX9_between 4 = .ok (.bipush 99, 2) := by decide +kernel
theorem dX9_between_6 : decode cX9_between 6 = .ok (.invokevirtual 148, 3) := by decide +kernel
theorem dX9_between_9 : decode cX9_between 9 = .ok (.aload_n 0, 1) := by decide +kernel
theorem dX9_between_10 : decode cX9_between 10 = .ok (.iload_n 2, 1) := by decide +kernel
theorem dX9_between_11 : decode cX9_between 11 = .ok (.iconst 0, 1) := by decide +kernel
theorem dX9_between_12 : decode cX9_between 12 = .ok (.bipush 60, 2) := by decide +kernel
theorem dX9_between_14 : decode cX9_between 14 = .ok (.invokevirtual 148, 3) := by decide +kernel
theorem dX9_between_17 : decode cX9_between 17 = .ok (.iload_n 2, 1) := by decide +kernel
theorem dX9_between_18 : decode cX9_between 18 = .ok (.aload_n 0, 1) := by decide +kernel
theorem dX9_between_19 : decode cX9_between 19 = .ok (.getfield 19, 3) := by decide +kernel
theorem dX9_between_22 : decode cX9_between 22 = .ok (.getfield 108, 3) := by decide +kernel
theorem dX9_between_25 : decode cX9_between 25 = .ok (.iload_n 1, 1) := by decide +kernel
theorem dX9_between_26 : decode cX9_between 26 = .ok (.invokevirtual 340, 3) := by decide +kernel
theorem dX9_between_29 : decode cX9_between 29 = .ok (.isub, 1) := by decide +kernel
theorem dX9_between_30 : decode cX9_between 30 = .ok (.iconst 3, 1) := by decide +kernel
theorem dX9_between_31 : decode cX9_between 31 = .ok (.isub, 1) := by decide +kernel
theorem dX9_between_32 : decode cX9_between 32 = .ok (.iconst 2, 1) := by decide +kernel
theorem dX9_between_33 : decode cX9_between 33 = .ok (.if_icmp .lt 7, 3) := by decide +kernel
theorem dX9_between_36 : decode cX9_between 36 = .ok (.iconst 1, 1) := by decide +kernel
theorem dX9_between_37 : decode cX9_between 37 = .ok (.goto 4, 3) := by decide +kernel
theorem dX9_between_40 : decode cX9_between 40 = .ok (.iconst 0, 1) := by decide +kernel
theorem dX9_between_41 : decode cX9_between 41 = .ok (.ireturn, 1) := by decide +kernel
theorem dX9_gets_0 : decode cX9_gets 0 = .ok (.aload_n 0, 1) := by decide +kernel
theorem dX9_gets_1 : decode cX9_gets 1 = .ok (.iload_n 1, 1) := by decide +kernel
theorem dX9_gets_2 : decode cX9_gets 2 = .ok (.iconst 1, 1) := by decide +kernel
theorem dX9_gets_3 : decode cX9_gets 3 = .ok (.bipush 40, 2) := by decide +kernel
theorem dX9_gets_5 : decode cX9_gets 5 = .ok (.invokevirtual 148, 3) := by decide +kernel
theorem dX9_gets_8 : decode cX9_gets 8 = .ok (.aload_n 0, 1) := by decide +kernel
theorem dX9_gets_9 : decode cX9_gets 9 = .ok (.iload_n 2, 1) := by decide +kernel
theorem dX9_gets_10 : decode cX9_gets 10 = .ok (.iconst 1, 1) := by decide +kernel
theorem dX9_gets_11 : decode cX9_gets 11 = .ok (.bipush 40, 2) := by decide +kernel
theorem dX9_gets_13 : decode cX9_gets 13 = .ok (.invokevirtual 148, 3) := by decide +kernel
theorem dX9_gets_16 : decode cX9_gets 16 = .ok (.iload_n 1, 1) := by decide +kernel
theorem dX9_gets_17 : decode cX9_gets 17 = .ok (.iload_n 2, 1) := by decide +kernel
theorem dX9_gets_18 : decode cX9_gets 18 = .ok (.invokestatic 343, 3) := by decide +kernel
theorem dX9_gets_21 : decode cX9_gets 21 = .ok (.ireturn, 1) := by decide +kernel
theorem dX9_gain_0 : decode cX9_gain 0 = .ok (.iconst 0, 1) := by decide +kernel
theorem dX9_gain_1 : decode cX9_gain 1 = .ok (.iload_n 1, 1) := by decide +kernel
theorem dX9_gain_2 : decode cX9_gain 2 = .ok (.iload_n 0, 1) := by decide +kernel
theorem dX9_gain_3 : decode cX9_gain 3 = .ok (.isub, 1) := by decide +kernel
theorem dX9_gain_4 : decode cX9_gain 4 = .ok (.invokestatic 326, 3) := by decide +kernel
theorem dX9_gain_7 : decode cX9_gain 7 = .ok (.istore_n 2, 1) := by decide +kernel
theorem dX9_gain_8 : decode cX9_gain 8 = .ok (.iconst 3, 1) := by decide +kernel
theorem dX9_gain_9 : decode cX9_gain 9 = .ok (.iload_n 0, 1) := by decide +kernel
theorem dX9_gain_10 : decode cX9_gain 10 = .ok (.imul, 1) := by decide +kernel
theorem dX9_gain_11 : decode cX9_gain 11 = .ok (.iload_n 2, 1) := by decide +kernel
theorem dX9_gain_12 : decode cX9_gain 12 = .ok (.iload_n 2, 1) := by decide +kernel
theorem dX9_gain_13 : decode cX9_gain 13 = .ok (.imul, 1) := by decide +kernel
theorem dX9_gain_14 : decode cX9_gain 14 = .ok (.isub, 1) := by decide +kernel
theorem dX9_gain_15 : decode cX9_gain 15 = .ok (.iload_n 0, 1) := by decide +kernel
theorem dX9_gain_16 : decode cX9_gain 16 = .ok (.iload_n 1, 1) := by decide +kernel
theorem dX9_gain_17 : decode cX9_gain 17 = .ok (.iadd, 1) := by decide +kernel
theorem dX9_gain_18 : decode cX9_gain 18 = .ok (.iconst 2, 1) := by decide +kernel
theorem dX9_gain_19 : decode cX9_gain 19 = .ok (.idiv, 1) := by decide +kernel
theorem dX9_gain_20 : decode cX9_gain 20 = .ok (.isub, 1) := by decide +kernel
theorem dX9_gain_21 : decode cX9_gain 21 = .ok (.ireturn, 1) := by decide +kernel
theorem dX9_bulbs_0 : decode cX9_bulbs 0 = .ok (.aload_n 0, 1) := by decide +kernel
theorem dX9_bulbs_1 : decode cX9_bulbs 1 = .ok (.iload_n 1, 1) := by decide +kernel
theorem dX9_bulbs_2 : decode cX9_bulbs 2 = .ok (.iconst 1, 1) := by decide +kernel
theorem dX9_bulbs_3 : decode cX9_bulbs 3 = .ok (.bipush 20, 2) := by decide +kernel
theorem dX9_bulbs_5 : decode cX9_bulbs 5 = .ok (.invokevirtual 148, 3) := by decide +kernel
theorem dX9_bulbs_8 : decode cX9_bulbs 8 = .ok (.aload_n 0, 1) := by decide +kernel
theorem dX9_bulbs_9 : decode cX9_bulbs 9 = .ok (.iload_n 2, 1) := by decide +kernel
theorem dX9_bulbs_10 : decode cX9_bulbs 10 = .ok (.iconst 0, 1) := by decide +kernel
theorem dX9_bulbs_11 : decode cX9_bulbs 11 = .ok (.iconst 2, 1) := by decide +kernel
theorem dX9_bulbs_12 : decode cX9_bulbs 12 = .ok (.invokevirtual 148, 3) := by decide +kernel
theorem dX9_bulbs_15 : decode cX9_bulbs 15 = .ok (.iconst 0, 1) := by decide +kernel
theorem dX9_bulbs_16 : decode cX9_bulbs 16 = .ok (.istore_n 3, 1) := by decide +kernel
theorem dX9_bulbs_17 : decode cX9_bulbs 17 = .ok (.iload_n 3, 1) := by decide +kernel
theorem dX9_bulbs_18 : decode cX9_bulbs 18 = .ok (.iload_n 1, 1) := by decide +kernel
theorem dX9_bulbs_19 : decode cX9_bulbs 19 = .ok (.if_icmp .ge 56, 3) := by decide +kernel
theorem dX9_bulbs_22 : decode cX9_bulbs 22 = .ok (.iconst 0, 1) := by decide +kernel
theorem dX9_bulbs_23 : decode cX9_bulbs 23 = .ok (.istore 4, 2) := by decide +kernel
theorem dX9_bulbs_25 : decode cX9_bulbs 25 = .ok (.iload 4, 2) := by decide +kernel
theorem dX9_bulbs_27 : decode cX9_bulbs 27 = .ok (.iload_n 1, 1) := by decide +kernel
theorem dX9_bulbs_28 : decode cX9_bulbs 28 = .ok (.if_icmp .ge 41, 3) := by decide +kernel
theorem dX9_bulbs_31 : decode cX9_bulbs 31 = .ok (.aload_n 0, 1) := by decide +kernel
theorem dX9_bulbs_32 : decode cX9_bulbs 32 = .ok (.getfield 72, 3) := by decide +kernel
theorem dX9_bulbs_35 : decode cX9_bulbs 35 = .ok (.iload_n 3, 1) := by decide +kernel
theorem dX9_bulbs_36 : decode cX9_bulbs 36 = .ok (.iload 4, 2) := by decide +kernel
theorem dX9_bulbs_38 : decode cX9_bulbs 38 = .ok (.iload_n 3, 1) := by decide +kernel
theorem dX9_bulbs_39 : decode cX9_bulbs 39 = .ok (.iconst 1, 1) := by decide +kernel
theorem dX9_bulbs_40 : decode cX9_bulbs 40 = .ok (.iadd, 1) := by decide +kernel
theorem dX9_bulbs_41 : decode cX9_bulbs 41 = .ok (.iload 4, 2) := by decide +kernel
theorem dX9_bulbs_43 : decode cX9_bulbs 43 = .ok (.iconst 1, 1) := by decide +kernel
theorem dX9_bulbs_44 : decode cX9_bulbs 44 = .ok (.iadd, 1) := by decide +kernel
theorem dX9_bulbs_45 : decode cX9_bulbs 45 = .ok (.invokestatic 343, 3) := by decide +kernel
theorem dX9_bulbs_48 : decode cX9_bulbs 48 = .ok (.ineg, 1) := by decide +kernel
theorem dX9_bulbs_49 : decode cX9_bulbs 49 = .ok (.iload 4, 2) := by decide +kernel
theorem dX9_bulbs_51 : decode cX9_bulbs 51 = .ok (.iconst 1, 1) := by decide +kernel
theorem dX9_bulbs_52 : decode cX9_bulbs 52 = .ok (.iadd, 1) := by decide +kernel
theorem dX9_bulbs_53 : decode cX9_bulbs 53 = .ok (.iload_n 3, 1) := by decide +kernel
theorem dX9_bulbs_54 : decode cX9_bulbs 54 = .ok (.iconst 1, 1) := by decide +kernel
theorem dX9_bulbs_55 : decode cX9_bulbs 55 = .ok (.iadd, 1) := by decide +kernel
theorem dX9_bulbs_56 : decode cX9_bulbs 56 = .ok (.invokestatic 343, 3) := by decide +kernel
theorem dX9_bulbs_59 : decode cX9_bulbs 59 = .ok (.ineg, 1) := by decide +kernel
theorem dX9_bulbs_60 : decode cX9_bulbs 60 = .ok (.invokevirtual 309, 3) := by decide +kernel
theorem dX9_bulbs_63 : decode cX9_bulbs 63 = .ok (.iinc 4 1, 3) := by decide +kernel
theorem dX9_bulbs_66 : decode cX9_bulbs 66 = .ok (.goto (-41), 3) := by decide +kernel
theorem dX9_bulbs_69 : decode cX9_bulbs 69 = .ok (.iinc 3 1, 3) := by decide +kernel
theorem dX9_bulbs_72 : decode cX9_bulbs 72 = .ok (.goto (-55), 3) := by decide +kernel
theorem dX9_bulbs_75 : decode cX9_bulbs 75 = .ok (.iload_n 2, 1) := by decide +kernel
theorem dX9_bulbs_76 : decode cX9_bulbs 76 = .ok (.lookupswitch 50 #[(0, 28), (1, 37)], 28) := by decide +kernel
theorem dX9_bulbs_104 : decode cX9_bulbs 104 = .ok (.aload_n 0, 1) := by decide +kernel
theorem dX9_bulbs_105 : decode cX9_bulbs 105 = .ok (.getfield 72, 3) := by decide +kernel
theorem dX9_bulbs_108 : decode cX9_bulbs 108 = .ok (.iload_n 1, 1) := by decide +kernel
theorem dX9_bulbs_109 : decode cX9_bulbs 109 = .ok (.invokevirtual 287, 3) := by decide +kernel
theorem dX9_bulbs_112 : decode cX9_bulbs 112 = .ok (.ireturn, 1) := by decide +kernel
theorem dX9_bulbs_113 : decode cX9_bulbs 113 = .ok (.aload_n 0, 1) := by decide +kernel
theorem dX9_bulbs_114 : decode cX9_bulbs 114 = .ok (.getfield 72, 3) := by decide +kernel
theorem dX9_bulbs_117 : decode cX9_bulbs 117 = .ok (.iload_n 1, 1) := by decide +kernel
theorem dX9_bulbs_118 : decode cX9_bulbs 118 = .ok (.invokevirtual 290, 3) := by decide +kernel
theorem dX9_bulbs_121 : decode cX9_bulbs 121 = .ok (.iconst 1, 1) := by decide +kernel
theorem dX9_bulbs_122 : decode cX9_bulbs 122 = .ok (.invokestatic 293, 3) := by decide +kernel
theorem dX9_bulbs_125 : decode cX9_bulbs 125 = .ok (.ireturn, 1) := by decide +kernel
theorem dX9_bulbs_126 : decode cX9_bulbs 126 = .ok (.aload_n 0, 1) := by decide +kernel
theorem dX9_bulbs_127 : decode cX9_bulbs 127 = .ok (.getfield 72, 3) := by decide +kernel
theorem dX9_bulbs_130 : decode cX9_bulbs 130 = .ok (.aload_n 0, 1) := by decide +kernel
theorem dX9_bulbs_131 : decode cX9_bulbs 131 = .ok (.getfield 72, 3) := by decide +kernel
theorem dX9_bulbs_134 : decode cX9_bulbs 134 = .ok (.iload_n 1, 1) := by decide +kernel
theorem dX9_bulbs_135 : decode cX9_bulbs 135 = .ok (.invokevirtual 290, 3) := by decide +kernel
theorem dX9_bulbs_138 : decode cX9_bulbs 138 = .ok (.invokevirtual 299, 3) := by decide +kernel
theorem dX9_bulbs_141 : decode cX9_bulbs 141 = .ok (.ineg, 1) := by decide +kernel
theorem dX9_bulbs_142 : decode cX9_bulbs 142 = .ok (.ireturn, 1) := by decide +kernel
theorem dX9_distances_0 : decode cX9_distances 0 = .ok (.aload_n 0, 1) := by decide +kernel
theorem dX9_distances_1 : decode cX9_distances 1 = .ok (.invokevirtual 277, 3) := by decide +kernel
theorem dX9_distances_4 : decode cX9_distances 4 = .ok (.aload_n 0, 1) := by decide +kernel
theorem dX9_distances_5 : decode cX9_distances 5 = .ok (.aload_n 0, 1) := by decide +kernel
theorem dX9_distances_6 : decode cX9_distances 6 = .ok (.invokevirtual 205, 3) := by decide +kernel
theorem dX9_distances_9 : decode cX9_distances 9 = .ok (.invokevirtual 346, 3) := by decide +kernel
theorem dX9_distances_12 : decode cX9_distances 12 = .ok (.lreturn, 1) := by decide +kernel
theorem dX9_distanceBits_0 : decode cX9_distanceBits 0 = .ok (.lconst 0, 1) := by decide +kernel
theorem dX9_distanceBits_1 : decode cX9_distanceBits 1 = .ok (.lstore_n 2, 1) := by decide +kernel
theorem dX9_distanceBits_2 : decode cX9_distanceBits 2 = .ok (.iconst 0, 1) := by decide +kernel
theorem dX9_distanceBits_3 : decode cX9_distanceBits 3 = .ok (.istore 4, 2) := by decide +kernel
theorem dX9_distanceBits_5 : decode cX9_distanceBits 5 = .ok (.iload 4, 2) := by decide +kernel
theorem dX9_distanceBits_7 : decode cX9_distanceBits 7 = .ok (.bipush 40, 2) := by decide +kernel
theorem dX9_distanceBits_9 : decode cX9_distanceBits 9 = .ok (.if_icmp .gt 26, 3) := by decide +kernel
theorem dX9_distanceBits_12 : decode cX9_distanceBits 12 = .ok (.aload_n 0, 1) := by decide +kernel
theorem dX9_distanceBits_13 : decode cX9_distanceBits 13 = .ok (.aload_n 1, 1) := by decide +kernel
theorem dX9_distanceBits_14 : decode cX9_distanceBits 14 = .ok (.iload 4, 2) := by decide +kernel
theorem dX9_distanceBits_16 : decode cX9_distanceBits 16 = .ok (.invokevirtual 350, 3) := by decide +kernel
theorem dX9_distanceBits_19 : decode cX9_distanceBits 19 = .ok (.ifCond .eq 10, 3) := by decide +kernel
theorem dX9_distanceBits_22 : decode cX9_distanceBits 22 = .ok (.lload_n 2, 1) := by decide +kernel
theorem dX9_distanceBits_23 : decode cX9_distanceBits 23 = .ok (.lconst 1, 1) := by decide +kernel
theorem dX9_distanceBits_24 : decode cX9_distanceBits 24 = .ok (.iload 4, 2) := by decide +kernel
theorem dX9_distanceBits_26 : decode cX9_distanceBits 26 = .ok (.lshl, 1) := by decide +kernel
theorem dX9_distanceBits_27 : decode cX9_distanceBits 27 = .ok (.lor, 1) := by decide +kernel
theorem dX9_distanceBits_28 : decode cX9_distanceBits 28 = .ok (.lstore_n 2, 1) := by decide +kernel
theorem dX9_distanceBits_29 : decode cX9_distanceBits 29 = .ok (.iinc 4 1, 3) := by decide +kernel
theorem dX9_distanceBits_32 : decode cX9_distanceBits 32 = .ok (.goto (-27), 3) := by decide +kernel
theorem dX9_distanceBits_35 : decode cX9_distanceBits 35 = .ok (.lload_n 2, 1) := by decide +kernel
theorem dX9_distanceBits_36 : decode cX9_distanceBits 36 = .ok (.lreturn, 1) := by decide +kernel
theorem dX9_bookFits_0 : decode cX9_bookFits 0 = .ok (.iconst 0, 1) := by decide +kernel
theorem dX9_bookFits_1 : decode cX9_bookFits 1 = .ok (.istore_n 3, 1) := by decide +kernel
theorem dX9_bookFits_2 : decode cX9_bookFits 2 = .ok (.iload_n 3, 1) := by decide +kernel
theorem dX9_bookFits_3 : decode cX9_bookFits 3 = .ok (.aload_n 0, 1) := by decide +kernel
theorem dX9_bookFits_4 : decode cX9_bookFits 4 = .ok (.getfield 40, 3) := by decide +kernel
theorem dX9_bookFits_7 : decode cX9_bookFits 7 = .ok (.getfield 114, 3) := by decide +kernel
theorem dX9_bookFits_10 : decode cX9_bookFits 10 = .ok (.if_icmp .ge 54, 3) := by decide +kernel
theorem dX9_bookFits_13 : decode cX9_bookFits 13 = .ok (.aload_n 0, 1) := by decide +kernel
theorem dX9_bookFits_14 : decode cX9_bookFits 14 = .ok (.getfield 40, 3) := by decide +kernel
theorem dX9_bookFits_17 : decode cX9_bookFits 17 = .ok (.getfield 354, 3) := by decide +kernel
theorem dX9_bookFits_20 : decode cX9_bookFits 20 = .ok (.iload_n 3, 1) := by decide +kernel
theorem dX9_bookFits_21 : decode cX9_bookFits 21 = .ok (.iaload, 1) := by decide +kernel
theorem dX9_bookFits_22 : decode cX9_bookFits 22 = .ok (.istore 4, 2) := by decide +kernel
theorem dX9_bookFits_24 : decode cX9_bookFits 24 = .ok (.iload 4, 2) := by decide +kernel
theorem dX9_bookFits_26 : decode cX9_bookFits 26 = .ok (.aload_n 1, 1) := by decide +kernel
theorem dX9_bookFits_27 : decode cX9_bookFits 27 = .ok (.iconst 1, 1) := by decide +kernel
theorem dX9_bookFits_28 : decode cX9_bookFits 28 = .ok (.invokevirtual 212, 3) := by decide +kernel
theorem dX9_bookFits_31 : decode cX9_bookFits 31 = .ok (.getfield 216, 3) := by decide +kernel
theorem dX9_bookFits_34 : decode cX9_bookFits 34 = .ok (.if_icmp .ge 22, 3) := by decide +kernel
theorem dX9_bookFits_37 : decode cX9_bookFits 37 = .ok (.aload_n 1, 1) := by decide +kernel
theorem dX9_bookFits_38 : decode cX9_bookFits 38 = .ok (.iload_n 2, 1) := by decide +kernel
theorem dX9_bookFits_39 : decode cX9_bookFits 39 = .ok (.iload 4, 2) := by decide +kernel
theorem dX9_bookFits_41 : decode cX9_bookFits 41 = .ok (.invokevirtual 357, 3) := by decide +kernel
theorem dX9_bookFits_44 : decode cX9_bookFits 44 = .ok (.aload_n 0, 1) := by decide +kernel
theorem dX9_bookFits_45 : decode cX9_bookFits 45 = .ok (.getfield 40, 3) := by decide +kernel
theorem dX9_bookFits_48 : decode cX9_bookFits 48 = .ok (.getfield 360, 3) := by decide +kernel
theorem dX9_bookFits_51 : decode cX9_bookFits 51 = .ok (.iload_n 3, 1) := by decide +kernel
theorem dX9_bookFits_52 : decode cX9_bookFits 52 = .ok (.iaload, 1) := by decide +kernel
theorem dX9_bookFits_53 : decode cX9_bookFits 53 = .ok (.if_icmp .eq 5, 3) := by decide +kernel
theorem dX9_bookFits_56 : decode cX9_bookFits 56 = .ok (.iconst 0, 1) := by decide +kernel
theorem dX9_bookFits_57 : decode cX9_bookFits 57 = .ok (.ireturn, 1) := by decide +kernel
theorem dX9_bookFits_58 : decode cX9_bookFits 58 = .ok (.iinc 3 1, 3) := by decide +kernel
theorem dX9_bookFits_61 : decode cX9_bookFits 61 = .ok (.goto (-59), 3) := by decide +kernel
theorem dX9_bookFits_64 : decode cX9_bookFits 64 = .ok (.iconst 1, 1) := by decide +kernel
theorem dX9_bookFits_65 : decode cX9_bookFits 65 = .ok (.ireturn, 1) := by decide +kernel
theorem dX9_look_0 : decode cX9_look 0 = .ok (.aload_n 0, 1) := by decide +kernel
theorem dX9_look_1 : decode cX9_look 1 = .ok (.iload_n 1, 1) := by decide +kernel
theorem dX9_look_2 : decode cX9_look 2 = .ok (.iconst 0, 1) := by decide +kernel
theorem dX9_look_3 : decode cX9_look 3 = .ok (.iconst 1, 1) := by decide +kernel
theorem dX9_look_4 : decode cX9_look 4 = .ok (.invokevirtual 148, 3) := by decide +kernel
theorem dX9_look_7 : decode cX9_look 7 = .ok (.aload_n 0, 1) := by decide +kernel
theorem dX9_look_8 : decode cX9_look 8 = .ok (.invokevirtual 277, 3) := by decide +kernel
theorem dX9_look_11 : decode cX9_look 11 = .ok (.aload_n 0, 1) := by decide +kernel
theorem dX9_look_12 : decode cX9_look 12 = .ok (.invokevirtual 205, 3) := by decide +kernel
theorem dX9_look_15 : decode cX9_look 15 = .ok (.astore_n 2, 1) := by decide +kernel
theorem dX9_look_16 : decode cX9_look 16 = .ok (.aload_n 0, 1) := by decide +kernel
theorem dX9_look_17 : decode cX9_look 17 = .ok (.aload_n 2, 1) := by decide +kernel
theorem dX9_look_18 : decode cX9_look 18 = .ok (.invokevirtual 346, 3) := by decide +kernel
theorem dX9_look_21 : decode cX9_look 21 = .ok (.lstore_n 3, 1) := by decide +kernel
theorem dX9_look_22 : decode cX9_look 22 = .ok (.iconst (-1), 1) := by decide +kernel
theorem dX9_look_23 : decode cX9_look 23 = .ok (.istore 5, 2) := by decide +kernel
theorem dX9_look_25 : decode cX9_look 25 = .ok (.iconst (-1), 1) := by decide +kernel
theorem dX9_look_26 : decode cX9_look 26 = .ok (.istore 6, 2) := by decide +kernel
theorem dX9_look_28 : decode cX9_look 28 = .ok (.iconst 0, 1) := by decide +kernel
theorem dX9_look_29 : decode cX9_look 29 = .ok (.istore 7, 2) := by decide +kernel
theorem dX9_look_31 : decode cX9_look 31 = .ok (.iload 7, 2) := by decide +kernel
theorem dX9_look_33 : decode cX9_look 33 = .ok (.aload_n 2, 1) := by decide +kernel
theorem dX9_look_34 : decode cX9_look 34 = .ok (.iconst 1, 1) := by decide +kernel
theorem dX9_look_35 : decode cX9_look 35 = .ok (.invokevirtual 212, 3) := by decide +kernel
theorem dX9_look_38 : decode cX9_look 38 = .ok (.getfield 216, 3) := by decide +kernel
theorem dX9_look_41 : decode cX9_look 41 = .ok (.if_icmp .ge 51, 3) := by decide +kernel
theorem dX9_look_44 : decode cX9_look 44 = .ok (.aload_n 2, 1) := by decide +kernel
theorem dX9_look_45 : decode cX9_look 45 = .ok (.lload_n 3, 1) := by decide +kernel
theorem dX9_look_46 : decode cX9_look 46 = .ok (.iload 7, 2) := by decide +kernel
theorem dX9_look_48 : decode cX9_look 48 = .ok (.invokestatic 363, 3) := by decide +kernel
theorem dX9_look_51 : decode cX9_look 51 = .ok (.istore 8, 2) := by decide +kernel
theorem dX9_look_53 : decode cX9_look 53 = .ok (.aload_n 0, 1) := by decide +kernel
theorem dX9_look_54 : decode cX9_look 54 = .ok (.getfield 40, 3) := by decide +kernel
theorem dX9_look_57 : decode cX9_look 57 = .ok (.iload 7, 2) := by decide +kernel
theorem dX9_look_59 : decode cX9_look 59 = .ok (.invokevirtual 367, 3) := by decide +kernel
theorem dX9_look_62 : decode cX9_look 62 = .ok (.ifCond .ne 24, 3) := by decide +kernel
theorem dX9_look_65 : decode cX9_look 65 = .ok (.iload 5, 2) := by decide +kernel
theorem dX9_look_67 : decode cX9_look 67 = .ok (.iconst (-1), 1) := by decide +kernel
theorem dX9_look_68 : decode cX9_look 68 = .ok (.if_icmp .eq 10, 3) := by decide +kernel
theorem dX9_look_71 : decode cX9_look 71 = .ok (.iload 8, 2) := by decide +kernel
theorem dX9_look_73 : decode cX9_look 73 = .ok (.iload 6, 2) := by decide +kernel
theorem dX9_look_75 : decode cX9_look 75 = .ok (.if_icmp .ge 11, 3) := by decide +kernel
theorem dX9_look_78 : decode cX9_look 78 = .ok (.iload 7, 2) := by decide +kernel
theorem dX9_look_80 : decode cX9_look 80 = .ok (.istore 5, 2) := by decide +kernel
theorem dX9_look_82 : decode cX9_look 82 = .ok (.iload 8, 2) := by decide +kernel
theorem dX9_look_84 : decode cX9_look 84 = .ok (.istore 6, 2) := by decide +kernel
theorem dX9_look_86 : decode cX9_look 86 = .ok (.iinc 7 1, 3) := by decide +kernel
theorem dX9_look_89 : decode cX9_look 89 = .ok (.goto (-58), 3) := by decide +kernel
theorem dX9_look_92 : decode cX9_look 92 = .ok (.iload_n 1, 1) := by decide +kernel
theorem dX9_look_93 : decode cX9_look 93 = .ok (.ifCond .ne 8, 3) := by decide +kernel
theorem dX9_look_96 : decode cX9_look 96 = .ok (.iload 5, 2) := by decide +kernel
theorem dX9_look_98 : decode cX9_look 98 = .ok (.goto 5, 3) := by decide +kernel
theorem dX9_look_101 : decode cX9_look 101 = .ok (.iload 6, 2) := by decide +kernel
theorem dX9_look_103 : decode cX9_look 103 = .ok (.ireturn, 1) := by decide +kernel
theorem dX9_worstLeft_0 : decode cX9_worstLeft 0 = .ok (.iconst 0, 1) := by decide +kernel
theorem dX9_worstLeft_1 : decode cX9_worstLeft 1 = .ok (.istore 4, 2) := by decide +kernel
theorem dX9_worstLeft_3 : decode cX9_worstLeft 3 = .ok (.iconst 0, 1) := by decide +kernel
theorem dX9_worstLeft_4 : decode cX9_worstLeft 4 = .ok (.istore 5, 2) := by decide +kernel
theorem dX9_worstLeft_6 : decode cX9_worstLeft 6 = .ok (.iconst 0, 1) := by decide +kernel
theorem dX9_worstLeft_7 : decode cX9_worstLeft 7 = .ok (.istore 6, 2) := by decide +kernel
theorem dX9_worstLeft_9 : decode cX9_worstLeft 9 = .ok (.iload 6, 2) := by decide +kernel
theorem dX9_worstLeft_11 : decode cX9_worstLeft 11 = .ok (.bipush 40, 2) := by decide +kernel
theorem dX9_worstLeft_13 : decode cX9_worstLeft 13 = .ok (.if_icmp .gt 45, 3) := by decide +kernel
theorem dX9_worstLeft_16 : decode cX9_worstLeft 16 = .ok (.lload_n 1, 1) := by decide +kernel
theorem dX9_worstLeft_17 : decode cX9_worstLeft 17 = .ok (.iload 6, 2) := by decide +kernel
theorem dX9_worstLeft_19 : decode cX9_worstLeft 19 = .ok (.lushr, 1) := by decide +kernel
theorem dX9_worstLeft_20 : decode cX9_worstLeft 20 = .ok (.lconst 1, 1) := by decide +kernel
theorem dX9_worstLeft_21 : decode cX9_worstLeft 21 = .ok (.land, 1) := by decide +kernel
theorem dX9_worstLeft_22 : decode cX9_worstLeft 22 = .ok (.lconst 0, 1) := by decide +kernel
theorem dX9_worstLeft_23 : decode cX9_worstLeft 23 = .ok (.lcmp, 1) := by decide +kernel
theorem dX9_worstLeft_24 : decode cX9_worstLeft 24 = .ok (.ifCond .eq 28, 3) := by decide +kernel
theorem dX9_worstLeft_27 : decode cX9_worstLeft 27 = .ok (.aload_n 0, 1) := by decide +kernel
theorem dX9_worstLeft_28 : decode cX9_worstLeft 28 = .ok (.iload 6, 2) := by decide +kernel
theorem dX9_worstLeft_30 : decode cX9_worstLeft 30 = .ok (.iload_n 3, 1) := by decide +kernel
theorem dX9_worstLeft_31 : decode cX9_worstLeft 31 = .ok (.invokevirtual 357, 3) := by decide +kernel
theorem dX9_worstLeft_34 : decode cX9_worstLeft 34 = .ok (.istore 7, 2) := by decide +kernel
theorem dX9_worstLeft_36 : decode cX9_worstLeft 36 = .ok (.iload 4, 2) := by decide +kernel
theorem dX9_worstLeft_38 : decode cX9_worstLeft 38 = .ok (.iload 7, 2) := by decide +kernel
theorem dX9_worstLeft_40 : decode cX9_worstLeft 40 = .ok (.iadd, 1) := by decide +kernel
theorem dX9_worstLeft_41 : decode cX9_worstLeft 41 = .ok (.istore 4, 2) := by decide +kernel
theorem dX9_worstLeft_43 : decode cX9_worstLeft 43 = .ok (.iload 5, 2) := by decide +kernel
theorem dX9_worstLeft_45 : decode cX9_worstLeft 45 = .ok (.iconst 1, 1) := by decide +kernel
theorem dX9_worstLeft_46 : decode cX9_worstLeft 46 = .ok (.iload 7, 2) := by decide +kernel
theorem dX9_worstLeft_48 : decode cX9_worstLeft 48 = .ok (.isub, 1) := by decide +kernel
theorem dX9_worstLeft_49 : decode cX9_worstLeft 49 = .ok (.iadd, 1) := by decide +kernel
theorem dX9_worstLeft_50 : decode cX9_worstLeft 50 = .ok (.istore 5, 2) := by decide +kernel
theorem dX9_worstLeft_52 : decode cX9_worstLeft 52 = .ok (.iinc 6 1, 3) := by decide +kernel
theorem dX9_worstLeft_55 : decode cX9_worstLeft 55 = .ok (.goto (-46), 3) := by decide +kernel
theorem dX9_worstLeft_58 : decode cX9_worstLeft 58 = .ok (.iload 4, 2) := by decide +kernel
theorem dX9_worstLeft_60 : decode cX9_worstLeft 60 = .ok (.iload 5, 2) := by decide +kernel
theorem dX9_worstLeft_62 : decode cX9_worstLeft 62 = .ok (.invokestatic 326, 3) := by decide +kernel
theorem dX9_worstLeft_65 : decode cX9_worstLeft 65 = .ok (.ireturn, 1) := by decide +kernel
theorem dX9_right_0 : decode cX9_right 0 = .ok (.aload_n 0, 1) := by decide +kernel
theorem dX9_right_1 : decode cX9_right 1 = .ok (.invokevirtual 277, 3) := by decide +kernel
theorem dX9_right_4 : decode cX9_right 4 = .ok (.aload_n 0, 1) := by decide +kernel
theorem dX9_right_5 : decode cX9_right 5 = .ok (.invokevirtual 205, 3) := by decide +kernel
theorem dX9_right_8 : decode cX9_right 8 = .ok (.iconst 1, 1) := by decide +kernel
theorem dX9_right_9 : decode cX9_right 9 = .ok (.invokevirtual 212, 3) := by decide +kernel
theorem dX9_right_12 : decode cX9_right 12 = .ok (.astore_n 1, 1) := by decide +kernel
theorem dX9_right_13 : decode cX9_right 13 = .ok (.iconst 0, 1) := by decide +kernel
theorem dX9_right_14 : decode cX9_right 14 = .ok (.istore_n 2, 1) := by decide +kernel
theorem dX9_right_15 : decode cX9_right 15 = .ok (.iload_n 2, 1) := by decide +kernel
theorem dX9_right_16 : decode cX9_right 16 = .ok (.aload_n 0, 1) := by decide +kernel
theorem dX9_right_17 : decode cX9_right 17 = .ok (.getfield 40, 3) := by decide +kernel
theorem dX9_right_20 : decode cX9_right 20 = .ok (.getfield 114, 3) := by decide +kernel
theorem dX9_right_23 : decode cX9_right 23 = .ok (.if_icmp .ge 47, 3) := by decide +kernel
theorem dX9_right_26 : decode cX9_right 26 = .ok (.aload_n 0, 1) := by decide +kernel
theorem dX9_right_27 : decode cX9_right 27 = .ok (.getfield 40, 3) := by decide +kernel
theorem dX9_right_30 : decode cX9_right 30 = .ok (.getfield 354, 3) := by decide +kernel
theorem dX9_right_33 : decode cX9_right 33 = .ok (.iload_n 2, 1) := by decide +kernel
theorem dX9_right_34 : decode cX9_right 34 = .ok (.iaload, 1) := by decide +kernel
theorem dX9_right_35 : decode cX9_right 35 = .ok (.istore_n 3, 1) := by decide +kernel
theorem dX9_right_36 : decode cX9_right 36 = .ok (.iload_n 3, 1) := by decide +kernel
theorem dX9_right_37 : decode cX9_right 37 = .ok (.aload_n 1, 1) := by decide +kernel
theorem dX9_right_38 : decode cX9_right 38 = .ok (.getfield 216, 3) := by decide +kernel
theorem dX9_right_41 : decode cX9_right 41 = .ok (.if_icmp .ge 21, 3) := by decide +kernel
theorem dX9_right_44 : decode cX9_right 44 = .ok (.aload_n 1, 1) := by decide +kernel
theorem dX9_right_45 : decode cX9_right 45 = .ok (.getfield 222, 3) := by decide +kernel
theorem dX9_right_48 : decode cX9_right 48 = .ok (.iload_n 3, 1) := by decide +kernel
theorem dX9_right_49 : decode cX9_right 49 = .ok (.iaload, 1) := by decide +kernel
theorem dX9_right_50 : decode cX9_right 50 = .ok (.aload_n 0, 1) := by decide +kernel
theorem dX9_right_51 : decode cX9_right 51 = .ok (.getfield 40, 3) := by decide +kernel
theorem dX9_right_54 : decode cX9_right 54 = .ok (.getfield 360, 3) := by decide +kernel
theorem dX9_right_57 : decode cX9_right 57 = .ok (.iload_n 2, 1) := by decide +kernel
theorem dX9_right_58 : decode cX9_right 58 = .ok (.iaload, 1) := by decide +kernel
theorem dX9_right_59 : decode cX9_right 59 = .ok (.if_icmp .eq 5, 3) := by decide +kernel
theorem dX9_right_62 : decode cX9_right 62 = .ok (.iload_n 2, 1) := by decide +kernel
theorem dX9_right_63 : decode cX9_right 63 = .ok (.ireturn, 1) := by decide +kernel
theorem dX9_right_64 : decode cX9_right 64 = .ok (.iinc 2 1, 3) := by decide +kernel
theorem dX9_right_67 : decode cX9_right 67 = .ok (.goto (-52), 3) := by decide +kernel
theorem dX9_right_70 : decode cX9_right 70 = .ok (.iload_n 2, 1) := by decide +kernel
theorem dX9_right_71 : decode cX9_right 71 = .ok (.ireturn, 1) := by decide +kernel
theorem dX9_nights_0 : decode cX9_nights 0 = .ok (.aload_n 0, 1) := by decide +kernel
theorem dX9_nights_1 : decode cX9_nights 1 = .ok (.iload_n 2, 1) := by decide +kernel
theorem dX9_nights_2 : decode cX9_nights 2 = .ok (.iconst 1, 1) := by decide +kernel
theorem dX9_nights_3 : decode cX9_nights 3 = .ok (.bipush 20, 2) := by decide +kernel
theorem dX9_nights_5 : decode cX9_nights 5 = .ok (.invokevirtual 148, 3) := by decide +kernel
theorem dX9_nights_8 : decode cX9_nights 8 = .ok (.aload_n 0, 1) := by decide +kernel
theorem dX9_nights_9 : decode cX9_nights 9 = .ok (.iload_n 3, 1) := by decide +kernel
theorem dX9_nights_10 : decode cX9_nights 10 = .ok (.iconst 0, 1) := by decide +kernel
theorem dX9_nights_11 : decode cX9_nights 11 = .ok (.iconst 3, 1) := by decide +kernel
theorem dX9_nights_12 : decode cX9_nights 12 = .ok (.invokevirtual 148, 3) := by decide +kernel
theorem dX9_nights_15 : decode cX9_nights 15 = .ok (.aload_n 0, 1) := by decide +kernel
theorem dX9_nights_16 : decode cX9_nights 16 = .ok (.getfield 19, 3) := by decide +kernel
theorem dX9_nights_19 : decode cX9_nights 19 = .ok (.getfield 108, 3) := by decide +kernel
theorem dX9_nights_22 : decode cX9_nights 22 = .ok (.astore 4, 2) := by decide +kernel
theorem dX9_nights_24 : decode cX9_nights 24 = .ok (.aload_n 0, 1) := by decide +kernel
theorem dX9_nights_25 : decode cX9_nights 25 = .ok (.invokevirtual 205, 3) := by decide +kernel
theorem dX9_nights_28 : decode cX9_nights 28 = .ok (.astore 5, 2) := by decide +kernel
theorem dX9_nights_30 : decode cX9_nights 30 = .ok (.iload_n 1, 1) := by decide +kernel
theorem dX9_nights_31 : decode cX9_nights 31 = .ok (.istore 6, 2) := by decide +kernel
theorem dX9_nights_33 : decode cX9_nights 33 = .ok (.iconst 0, 1) := by decide +kernel
theorem dX9_nights_34 : decode cX9_nights 34 = .ok (.istore 7, 2) := by decide +kernel
theorem dX9_nights_36 : decode cX9_nights 36 = .ok (.iconst 0, 1) := by decide +kernel
theorem dX9_nights_37 : decode cX9_nights 37 = .ok (.istore 8, 2) := by decide +kernel
theorem dX9_nights_39 : decode cX9_nights 39 = .ok (.iconst 0, 1) := by decide +kernel
theorem dX9_nights_40 : decode cX9_nights 40 = .ok (.istore 9, 2) := by decide +kernel
theorem dX9_nights_42 : decode cX9_nights 42 = .ok (.iconst 0, 1) := by decide +kernel
theorem dX9_nights_43 : decode cX9_nights 43 = .ok (.istore 10, 2) := by decide +kernel
theorem dX9_nights_45 : decode cX9_nights 45 = .ok (.iconst 0, 1) := by decide +kernel
theorem dX9_nights_46 : decode cX9_nights 46 = .ok (.istore 11, 2) := by decide +kernel
theorem dX9_nights_48 : decode cX9_nights 48 = .ok (.iload 11, 2) := by decide +kernel
theorem dX9_nights_50 : decode cX9_nights 50 = .ok (.iload_n 2, 1) := by decide +kernel
theorem dX9_nights_51 : decode cX9_nights 51 = .ok (.if_icmp .ge 152, 3) := by decide +kernel
theorem dX9_nights_54 : decode cX9_nights 54 = .ok (.iconst 0, 1) := by decide +kernel
theorem dX9_nights_55 : decode cX9_nights 55 = .ok (.istore 12, 2) := by decide +kernel
theorem dX9_nights_57 : decode cX9_nights 57 = .ok (.iconst 0, 1) := by decide +kernel
theorem dX9_nights_58 : decode cX9_nights 58 = .ok (.istore 13, 2) := by decide +kernel
theorem dX9_nights_60 : decode cX9_nights 60 = .ok (.iconst 0, 1) := by decide +kernel
theorem dX9_nights_61 : decode cX9_nights 61 = .ok (.istore 14, 2) := by decide +kernel
theorem dX9_nights_63 : decode cX9_nights 63 = .ok (.iload 14, 2) := by decide +kernel
theorem dX9_nights_65 : decode cX9_nights 65 = .ok (.aload 4, 2) := by decide +kernel
theorem dX9_nights_67 : decode cX9_nights 67 = .ok (.getfield 155, 3) := by decide +kernel
theorem dX9_nights_70 : decode cX9_nights 70 = .ok (.if_icmp .ge 83, 3) := by decide +kernel
theorem dX9_nights_73 : decode cX9_nights 73 = .ok (.iload 6, 2) := by decide +kernel
theorem dX9_nights_75 : decode cX9_nights 75 = .ok (.ldc_w 370, 3) := by decide +kernel
theorem dX9_nights_78 : decode cX9_nights 78 = .ok (.imul, 1) := by decide +kernel
theorem dX9_nights_79 : decode cX9_nights 79 = .ok (.sipush 12345, 3) := by decide +kernel
theorem dX9_nights_82 : decode cX9_nights 82 = .ok (.iadd, 1) := by decide +kernel
theorem dX9_nights_83 : decode cX9_nights 83 = .ok (.istore 6, 2) := by decide +kernel
theorem dX9_nights_85 : decode cX9_nights 85 = .ok (.aload 4, 2) := by decide +kernel
theorem dX9_nights_87 : decode cX9_nights 87 = .ok (.iload 6, 2) := by decide +kernel
theorem dX9_nights_89 : decode cX9_nights 89 = .ok (.bipush 16, 2) := by decide +kernel
theorem dX9_nights_91 : decode cX9_nights 91 = .ok (.iushr, 1) := by decide +kernel
theorem dX9_nights_92 : decode cX9_nights 92 = .ok (.sipush 32767, 3) := by decide +kernel
theorem dX9_nights_95 : decode cX9_nights 95 = .ok (.iand, 1) := by decide +kernel
theorem dX9_nights_96 : decode cX9_nights 96 = .ok (.invokevirtual 371, 3) := by decide +kernel
theorem dX9_nights_99 : decode cX9_nights 99 = .ok (.istore 15, 2) := by decide +kernel
theorem dX9_nights_101 : decode cX9_nights 101 = .ok (.iload 12, 2) := by decide +kernel
theorem dX9_nights_103 : decode cX9_nights 103 = .ok (.aload 5, 2) := by decide +kernel
theorem dX9_nights_105 : decode cX9_nights 105 = .ok (.aload 4, 2) := by decide +kernel
theorem dX9_nights_107 : decode cX9_nights 107 = .ok (.iconst 0, 1) := by decide +kernel
theorem dX9_nights_108 : decode cX9_nights 108 = .ok (.iload 15, 2) := by decide +kernel
theorem dX9_nights_110 : decode cX9_nights 110 = .ok (.aload 4, 2) := by decide +kernel
theorem dX9_nights_112 : decode cX9_nights 112 = .ok (.getfield 198, 3) := by decide +kernel
theorem dX9_nights_115 : decode cX9_nights 115 = .ok (.iload 14, 2) := by decide +kernel
theorem dX9_nights_117 : decode cX9_nights 117 = .ok (.iaload, 1) := by decide +kernel
theorem dX9_nights_118 : decode cX9_nights 118 = .ok (.invokevirtual 374, 3) := by decide +kernel
theorem dX9_nights_121 : decode cX9_nights 121 = .ok (.iadd, 1) := by decide +kernel
theorem dX9_nights_122 : decode cX9_nights 122 = .ok (.istore 12, 2) := by decide +kernel
theorem dX9_nights_124 : decode cX9_nights 124 = .ok (.iload 13, 2) := by decide +kernel
theorem dX9_nights_126 : decode cX9_nights 126 = .ok (.aload 5, 2) := by decide +kernel
theorem dX9_nights_128 : decode cX9_nights 128 = .ok (.aload 4, 2) := by decide +kernel
theorem dX9_nights_130 : decode cX9_nights 130 = .ok (.iconst 1, 1) := by decide +kernel
theorem dX9_nights_131 : decode cX9_nights 131 = .ok (.iload 15, 2) := by decide +kernel
theorem dX9_nights_133 : decode cX9_nights 133 = .ok (.aload 4, 2) := by decide +kernel
theorem dX9_nights_135 : decode cX9_nights 135 = .ok (.getfield 198, 3) := by decide +kernel
theorem dX9_nights_138 : decode cX9_nights 138 = .ok (.iload 14, 2) := by decide +kernel
theorem dX9_nights_140 : decode cX9_nights 140 = .ok (.iaload, 1) := by decide +kernel
theorem dX9_nights_141 : decode cX9_nights 141 = .ok (.invokevirtual 374, 3) := by decide +kernel
theorem dX9_nights_144 : decode cX9_nights 144 = .ok (.iadd, 1) := by decide +kernel
theorem dX9_nights_145 : decode cX9_nights 145 = .ok (.istore 13, 2) := by decide +kernel
theorem dX9_nights_147 : decode cX9_nights 147 = .ok (.iinc 14 1, 3) := by decide +kernel
theorem dX9_nights_150 : decode cX9_nights 150 = .ok (.goto (-87), 3) := by decide +kernel
theorem dX9_nights_153 : decode cX9_nights 153 = .ok (.iload 7, 2) := by decide +kernel
theorem dX9_nights_155 : decode cX9_nights 155 = .ok (.iload 12, 2) := by decide +kernel
theorem dX9_nights_157 : decode cX9_nights 157 = .ok (.iadd, 1) := by decide +kernel
theorem dX9_nights_158 : decode cX9_nights 158 = .ok (.istore 7, 2) := by decide +kernel
theorem dX9_nights_160 : decode cX9_nights 160 = .ok (.iload 8, 2) := by decide +kernel
theorem dX9_nights_162 : decode cX9_nights 162 = .ok (.iload 13, 2) := by decide +kernel
theorem dX9_nights_164 : decode cX9_nights 164 = .ok (.iadd, 1) := by decide +kernel
theorem dX9_nights_165 : decode cX9_nights 165 = .ok (.istore 8, 2) := by decide +kernel
theorem dX9_nights_167 : decode cX9_nights 167 = .ok (.iload 9, 2) := by decide +kernel
theorem dX9_nights_169 : decode cX9_nights 169 = .ok (.iload 12, 2) := by decide +kernel
theorem dX9_nights_171 : decode cX9_nights 171 = .ok (.iload 13, 2) := by decide +kernel
theorem dX9_nights_173 : decode cX9_nights 173 = .ok (.iadd, 1) := by decide +kernel
theorem dX9_nights_174 : decode cX9_nights 174 = .ok (.ifCond .ne 7, 3) := by decide +kernel
theorem dX9_nights_177 : decode cX9_nights 177 = .ok (.iconst 1, 1) := by decide +kernel
theorem dX9_nights_178 : decode cX9_nights 178 = .ok (.goto 4, 3) := by decide +kernel
theorem dX9_nights_181 : decode cX9_nights 181 = .ok (.iconst 0, 1) := by decide +kernel
theorem dX9_nights_182 : decode cX9_nights 182 = .ok (.iadd, 1) := by decide +kernel
theorem dX9_nights_183 : decode cX9_nights 183 = .ok (.istore 9, 2) := by decide +kernel
theorem dX9_nights_185 : decode cX9_nights 185 = .ok (.iload 10, 2) := by decide +kernel
theorem dX9_nights_187 : decode cX9_nights 187 = .ok (.iload 12, 2) := by decide +kernel
theorem dX9_nights_189 : decode cX9_nights 189 = .ok (.iload 13, 2) := by decide +kernel
theorem dX9_nights_191 : decode cX9_nights 191 = .ok (.iadd, 1) := by decide +kernel
theorem dX9_nights_192 : decode cX9_nights 192 = .ok (.invokestatic 326, 3) := by decide +kernel
theorem dX9_nights_195 : decode cX9_nights 195 = .ok (.istore 10, 2) := by decide +kernel
theorem dX9_nights_197 : decode cX9_nights 197 = .ok (.iinc 11 1, 3) := by decide +kernel
theorem dX9_nights_200 : decode cX9_nights 200 = .ok (.goto (-152), 3) := by decide +kernel
theorem dX9_nights_203 : decode cX9_nights 203 = .ok (.iload_n 3, 1) := by decide +kernel
theorem dX9_nights_204 : decode cX9_nights 204 = .ok (.tableswitch 37 0 2 #[28, 31, 34], 28) := by decide +kernel
theorem dX9_nights_232 : decode cX9_nights 232 = .ok (.iload 7, 2) := by decide +kernel
theorem dX9_nights_234 : decode cX9_nights 234 = .ok (.ireturn, 1) := by decide +kernel
theorem dX9_nights_235 : decode cX9_nights 235 = .ok (.iload 8, 2) := by decide +kernel
theorem dX9_nights_237 : decode cX9_nights 237 = .ok (.ireturn, 1) := by decide +kernel
theorem dX9_nights_238 : decode cX9_nights 238 = .ok (.iload 9, 2) := by decide +kernel
theorem dX9_nights_240 : decode cX9_nights 240 = .ok (.ireturn, 1) := by decide +kernel
theorem dX9_nights_241 : decode cX9_nights 241 = .ok (.iload 10, 2) := by decide +kernel
theorem dX9_nights_243 : decode cX9_nights 243 = .ok (.ireturn, 1) := by decide +kernel
theorem dX9_darkest_0 : decode cX9_darkest 0 = .ok (.aload_n 0, 1) := by decide +kernel
theorem dX9_darkest_1 : decode cX9_darkest 1 = .ok (.iload_n 1, 1) := by decide +kernel
theorem dX9_darkest_2 : decode cX9_darkest 2 = .ok (.iconst 0, 1) := by decide +kernel
theorem dX9_darkest_3 : decode cX9_darkest 3 = .ok (.bipush 9, 2) := by decide +kernel
theorem dX9_darkest_5 : decode cX9_darkest 5 = .ok (.invokevirtual 148, 3) := by decide +kernel
theorem dX9_darkest_8 : decode cX9_darkest 8 = .ok (.iconst (-1), 1) := by decide +kernel
theorem dX9_darkest_9 : decode cX9_darkest 9 = .ok (.istore_n 2, 1) := by decide +kernel
theorem dX9_darkest_10 : decode cX9_darkest 10 = .ok (.iconst 0, 1) := by decide +kernel
theorem dX9_darkest_11 : decode cX9_darkest 11 = .ok (.istore_n 3, 1) := by decide +kernel
theorem dX9_darkest_12 : decode cX9_darkest 12 = .ok (.iconst 0, 1) := by decide +kernel
theorem dX9_darkest_13 : decode cX9_darkest 13 = .ok (.istore 4, 2) := by decide +kernel
theorem dX9_darkest_15 : decode cX9_darkest 15 = .ok (.iload 4, 2) := by decide +kernel
theorem dX9_darkest_17 : decode cX9_darkest 17 = .ok (.aload_n 0, 1) := by decide +kernel
theorem dX9_darkest_18 : decode cX9_darkest 18 = .ok (.getfield 19, 3) := by decide +kernel
theorem dX9_darkest_21 : decode cX9_darkest 21 = .ok (.getfield 108, 3) := by decide +kernel
theorem dX9_darkest_24 : decode cX9_darkest 24 = .ok (.getfield 152, 3) := by decide +kernel
theorem dX9_darkest_27 : decode cX9_darkest 27 = .ok (.if_icmp .ge 40, 3) := by decide +kernel
theorem dX9_darkest_30 : decode cX9_darkest 30 = .ok (.aload_n 0, 1) := by decide +kernel
theorem dX9_darkest_31 : decode cX9_darkest 31 = .ok (.invokevirtual 205, 3) := by decide +kernel
theorem dX9_darkest_34 : decode cX9_darkest 34 = .ok (.aload_n 0, 1) := by decide +kernel
theorem dX9_darkest_35 : decode cX9_darkest 35 = .ok (.getfield 19, 3) := by decide +kernel
theorem dX9_darkest_38 : decode cX9_darkest 38 = .ok (.getfield 108, 3) := by decide +kernel
theorem dX9_darkest_41 : decode cX9_darkest 41 = .ok (.iload 4, 2) := by decide +kernel
theorem dX9_darkest_43 : decode cX9_darkest 43 = .ok (.iload_n 1, 1) := by decide +kernel
theorem dX9_darkest_44 : decode cX9_darkest 44 = .ok (.invokevirtual 378, 3) := by decide +kernel
theorem dX9_darkest_47 : decode cX9_darkest 47 = .ok (.istore 5, 2) := by decide +kernel
theorem dX9_darkest_49 : decode cX9_darkest 49 = .ok (.iload 5, 2) := by decide +kernel
theorem dX9_darkest_51 : decode cX9_darkest 51 = .ok (.iload_n 3, 1) := by decide +kernel
theorem dX9_darkest_52 : decode cX9_darkest 52 = .ok (.if_icmp .le 9, 3) := by decide +kernel
theorem dX9_darkest_55 : decode cX9_darkest 55 = .ok (.iload 5, 2) := by decide +kernel
theorem dX9_darkest_57 : decode cX9_darkest 57 = .ok (.istore_n 3, 1) := by decide +kernel
theorem dX9_darkest_58 : decode cX9_darkest 58 = .ok (.iload 4, 2) := by decide +kernel
theorem dX9_darkest_60 : decode cX9_darkest 60 = .ok (.istore_n 2, 1) := by decide +kernel
theorem dX9_darkest_61 : decode cX9_darkest 61 = .ok (.iinc 4 1, 3) := by decide +kernel
theorem dX9_darkest_64 : decode cX9_darkest 64 = .ok (.goto (-49), 3) := by decide +kernel
theorem dX9_darkest_67 : decode cX9_darkest 67 = .ok (.iload_n 2, 1) := by decide +kernel
theorem dX9_darkest_68 : decode cX9_darkest 68 = .ok (.ireturn, 1) := by decide +kernel
theorem dX9_dark_0 : decode cX9_dark 0 = .ok (.aload_n 0, 1) := by decide +kernel
theorem dX9_dark_1 : decode cX9_dark 1 = .ok (.iload_n 1, 1) := by decide +kernel
theorem dX9_dark_2 : decode cX9_dark 2 = .ok (.invokevirtual 176, 3) := by decide +kernel
theorem dX9_dark_5 : decode cX9_dark 5 = .ok (.aload_n 0, 1) := by decide +kernel
theorem dX9_dark_6 : decode cX9_dark 6 = .ok (.iload_n 2, 1) := by decide +kernel
theorem dX9_dark_7 : decode cX9_dark 7 = .ok (.iconst 0, 1) := by decide +kernel
theorem dX9_dark_8 : decode cX9_dark 8 = .ok (.bipush 9, 2) := by decide +kernel
theorem dX9_dark_10 : decode cX9_dark 10 = .ok (.invokevirtual 148, 3) := by decide +kernel
theorem dX9_dark_13 : decode cX9_dark 13 = .ok (.iconst 0, 1) := by decide +kernel
theorem dX9_dark_14 : decode cX9_dark 14 = .ok (.istore_n 3, 1) := by decide +kernel
theorem dX9_dark_15 : decode cX9_dark 15 = .ok (.iconst 0, 1) := by decide +kernel
theorem dX9_dark_16 : decode cX9_dark 16 = .ok (.istore 4, 2) := by decide +kernel
theorem dX9_dark_18 : decode cX9_dark 18 = .ok (.iload 4, 2) := by decide +kernel
theorem dX9_dark_20 : decode cX9_dark 20 = .ok (.aload_n 0, 1) := by decide +kernel
theorem dX9_dark_21 : decode cX9_dark 21 = .ok (.getfield 19, 3) := by decide +kernel
theorem dX9_dark_24 : decode cX9_dark 24 = .ok (.getfield 108, 3) := by decide +kernel
theorem dX9_dark_27 : decode cX9_dark 27 = .ok (.getfield 152, 3) := by decide +kernel
theorem dX9_dark_30 : decode cX9_dark 30 = .ok (.if_icmp .ge 30, 3) := by decide +kernel
theorem dX9_dark_33 : decode cX9_dark 33 = .ok (.iload_n 3, 1) := by decide +kernel
theorem dX9_dark_34 : decode cX9_dark 34 = .ok (.aload_n 0, 1) := by decide +kernel
theorem dX9_dark_35 : decode cX9_dark 35 = .ok (.invokevirtual 205, 3) := by decide +kernel
theorem dX9_dark_38 : decode cX9_dark 38 = .ok (.aload_n 0, 1) := by decide +kernel
theorem dX9_dark_39 : decode cX9_dark 39 = .ok (.getfield 19, 3) := by decide +kernel
theorem dX9_dark_42 : decode cX9_dark 42 = .ok (.getfield 108, 3) := by decide +kernel
theorem dX9_dark_45 : decode cX9_dark 45 = .ok (.iload_n 1, 1) := by decide +kernel
theorem dX9_dark_46 : decode cX9_dark 46 = .ok (.iload 4, 2) := by decide +kernel
theorem dX9_dark_48 : decode cX9_dark 48 = .ok (.iload_n 2, 1) := by decide +kernel
theorem dX9_dark_49 : decode cX9_dark 49 = .ok (.invokevirtual 374, 3) := by decide +kernel
theorem dX9_dark_52 : decode cX9_dark 52 = .ok (.iadd, 1) := by decide +kernel
theorem dX9_dark_53 : decode cX9_dark 53 = .ok (.istore_n 3, 1) := by decide +kernel
theorem dX9_dark_54 : decode cX9_dark 54 = .ok (.iinc 4 1, 3) := by decide +kernel
theorem dX9_dark_57 : decode cX9_dark 57 = .ok (.goto (-39), 3) := by decide +kernel
theorem dX9_dark_60 : decode cX9_dark 60 = .ok (.iload_n 3, 1) := by decide +kernel
theorem dX9_dark_61 : decode cX9_dark 61 = .ok (.ireturn, 1) := by decide +kernel
theorem dX9_dips_0 : decode cX9_dips 0 = .ok (.aload_n 0, 1) := by decide +kernel
theorem dX9_dips_1 : decode cX9_dips 1 = .ok (.iload_n 1, 1) := by decide +kernel
theorem dX9_dips_2 : decode cX9_dips 2 = .ok (.invokevirtual 176, 3) := by decide +kernel
theorem dX9_dips_5 : decode cX9_dips 5 = .ok (.aload_n 0, 1) := by decide +kernel
theorem dX9_dips_6 : decode cX9_dips 6 = .ok (.iload_n 2, 1) := by decide +kernel
theorem dX9_dips_7 : decode cX9_dips 7 = .ok (.iconst 0, 1) := by decide +kernel
theorem dX9_dips_8 : decode cX9_dips 8 = .ok (.iconst 1, 1) := by decide +kernel
theorem dX9_dips_9 : decode cX9_dips 9 = .ok (.invokevirtual 148, 3) := by decide +kernel
theorem dX9_dips_12 : decode cX9_dips 12 = .ok (.aload_n 0, 1) := by decide +kernel
theorem dX9_dips_13 : decode cX9_dips 13 = .ok (.invokevirtual 205, 3) := by decide +kernel
theorem dX9_dips_16 : decode cX9_dips 16 = .ok (.iload_n 1, 1) := by decide +kernel
theorem dX9_dips_17 : decode cX9_dips 17 = .ok (.invokevirtual 212, 3) := by decide +kernel
theorem dX9_dips_20 : decode cX9_dips 20 = .ok (.astore_n 3, 1) := by decide +kernel
theorem dX9_dips_21 : decode cX9_dips 21 = .ok (.aload_n 3, 1) := by decide +kernel
theorem dX9_dips_22 : decode cX9_dips 22 = .ok (.iconst 0, 1) := by decide +kernel
theorem dX9_dips_23 : decode cX9_dips 23 = .ok (.iconst 0, 1) := by decide +kernel
theorem dX9_dips_24 : decode cX9_dips 24 = .ok (.invokevirtual 381, 3) := by decide +kernel
theorem dX9_dips_27 : decode cX9_dips 27 = .ok (.istore 4, 2) := by decide +kernel
theorem dX9_dips_29 : decode cX9_dips 29 = .ok (.iload_n 2, 1) := by decide +kernel
theorem dX9_dips_30 : decode cX9_dips 30 = .ok (.ifCond .eq 9, 3) := by decide +kernel
theorem dX9_dips_33 : decode cX9_dips 33 = .ok (.iload 4, 2) := by decide +kernel
theorem dX9_dips_35 : decode cX9_dips 35 = .ok (.iconst (-1), 1) := by decide +kernel
theorem dX9_dips_36 : decode cX9_dips 36 = .ok (.if_icmp .ne 6, 3) := by decide +kernel
theorem dX9_dips_39 : decode cX9_dips 39 = .ok (.iload 4, 2) := by decide +kernel
theorem dX9_dips_41 : decode cX9_dips 41 = .ok (.ireturn, 1) := by decide +kernel
theorem dX9_dips_42 : decode cX9_dips 42 = .ok (.aload_n 3, 1) := by decide +kernel
theorem dX9_dips_43 : decode cX9_dips 43 = .ok (.iconst 1, 1) := by decide +kernel
theorem dX9_dips_44 : decode cX9_dips 44 = .ok (.iload 4, 2) := by decide +kernel
theorem dX9_dips_46 : decode cX9_dips 46 = .ok (.invokevirtual 381, 3) := by decide +kernel
theorem dX9_dips_49 : decode cX9_dips 49 = .ok (.ireturn, 1) := by decide +kernel
theorem dX9_gap_0 : decode cX9_gap 0 = .ok (.aload_n 0, 1) := by decide +kernel
theorem dX9_gap_1 : decode cX9_gap 1 = .ok (.iload_n 1, 1) := by decide +kernel
theorem dX9_gap_2 : decode cX9_gap 2 = .ok (.invokevirtual 176, 3) := by decide +kernel
theorem dX9_gap_5 : decode cX9_gap 5 = .ok (.aload_n 0, 1) := by decide +kernel
theorem dX9_gap_6 : decode cX9_gap 6 = .ok (.iload_n 2, 1) := by decide +kernel
theorem dX9_gap_7 : decode cX9_gap 7 = .ok (.iconst 0, 1) := by decide +kernel
theorem dX9_gap_8 : decode cX9_gap 8 = .ok (.iconst 1, 1) := by decide +kernel
theorem dX9_gap_9 : decode cX9_gap 9 = .ok (.invokevirtual 148, 3) := by decide +kernel
theorem dX9_gap_12 : decode cX9_gap 12 = .ok (.aload_n 0, 1) := by decide +kernel
theorem dX9_gap_13 : decode cX9_gap 13 = .ok (.invokevirtual 205, 3) := by decide +kernel
theorem dX9_gap_16 : decode cX9_gap 16 = .ok (.iload_n 1, 1) := by decide +kernel
theorem dX9_gap_17 : decode cX9_gap 17 = .ok (.invokevirtual 212, 3) := by decide +kernel
theorem dX9_gap_20 : decode cX9_gap 20 = .ok (.astore_n 3, 1) := by decide +kernel
theorem dX9_gap_21 : decode cX9_gap 21 = .ok (.iconst 0, 1) := by decide +kernel
theorem dX9_gap_22 : decode cX9_gap 22 = .ok (.istore 4, 2) := by decide +kernel
theorem dX9_gap_24 : decode cX9_gap 24 = .ok (.iconst (-1), 1) := by decide +kernel
theorem dX9_gap_25 : decode cX9_gap 25 = .ok (.istore 5, 2) := by decide +kernel
theorem dX9_gap_27 : decode cX9_gap 27 = .ok (.iconst 0, 1) := by decide +kernel
theorem dX9_gap_28 : decode cX9_gap 28 = .ok (.istore 6, 2) := by decide +kernel
theorem dX9_gap_30 : decode cX9_gap 30 = .ok (.iconst 0, 1) := by decide +kernel
theorem dX9_gap_31 : decode cX9_gap 31 = .ok (.istore 7, 2) := by decide +kernel
theorem dX9_gap_33 : decode cX9_gap 33 = .ok (.iload 7, 2) := by decide +kernel
theorem dX9_gap_35 : decode cX9_gap 35 = .ok (.aload_n 3, 1) := by decide +kernel
theorem dX9_gap_36 : decode cX9_gap 36 = .ok (.getfield 216, 3) := by decide +kernel
theorem dX9_gap_39 : decode cX9_gap 39 = .ok (.if_icmp .ge 49, 3) := by decide +kernel
theorem dX9_gap_42 : decode cX9_gap 42 = .ok (.aload_n 3, 1) := by decide +kernel
theorem dX9_gap_43 : decode cX9_gap 43 = .ok (.iload 7, 2) := by decide +kernel
theorem dX9_gap_45 : decode cX9_gap 45 = .ok (.invokevirtual 230, 3) := by decide +kernel
theorem dX9_gap_48 : decode cX9_gap 48 = .ok (.iconst 1, 1) := by decide +kernel
theorem dX9_gap_49 : decode cX9_gap 49 = .ok (.if_icmp .ne 10, 3) := by decide +kernel
theorem dX9_gap_52 : decode cX9_gap 52 = .ok (.iload 6, 2) := by decide +kernel
theorem dX9_gap_54 : decode cX9_gap 54 = .ok (.iconst 1, 1) := by decide +kernel
theorem dX9_gap_55 : decode cX9_gap 55 = .ok (.iadd, 1) := by decide +kernel
theorem dX9_gap_56 : decode cX9_gap 56 = .ok (.goto 4, 3) := by decide +kernel
theorem dX9_gap_59 : decode cX9_gap 59 = .ok (.iconst 0, 1) := by decide +kernel
theorem dX9_gap_60 : decode cX9_gap 60 = .ok (.istore 6, 2) := by decide +kernel
theorem dX9_gap_62 : decode cX9_gap 62 = .ok (.iload 6, 2) := by decide +kernel
theorem dX9_gap_64 : decode cX9_gap 64 = .ok (.iload 4, 2) := by decide +kernel
theorem dX9_gap_66 : decode cX9_gap 66 = .ok (.if_icmp .le 16, 3) := by decide +kernel
theorem dX9_gap_69 : decode cX9_gap 69 = .ok (.iload 6, 2) := by decide +kernel
theorem dX9_gap_71 : decode cX9_gap 71 = .ok (.istore 4, 2) := by decide +kernel
theorem dX9_gap_73 : decode cX9_gap 73 = .ok (.iload 7, 2) := by decide +kernel
theorem dX9_gap_75 : decode cX9_gap 75 = .ok (.iload 6, 2) := by decide +kernel
theorem dX9_gap_77 : decode cX9_gap 77 = .ok (.isub, 1) := by decide +kernel
theorem dX9_gap_78 : decode cX9_gap 78 = .ok (.iconst 1, 1) := by decide +kernel
theorem dX9_gap_79 : decode cX9_gap 79 = .ok (.iadd, 1) := by decide +kernel
theorem dX9_gap_80 : decode cX9_gap 80 = .ok (.istore 5, 2) := by decide +kernel
theorem dX9_gap_82 : decode cX9_gap 82 = .ok (.iinc 7 1, 3) := by decide +kernel
theorem dX9_gap_85 : decode cX9_gap 85 = .ok (.goto (-52), 3) := by decide +kernel
theorem dX9_gap_88 : decode cX9_gap 88 = .ok (.iload_n 2, 1) := by decide +kernel
theorem dX9_gap_89 : decode cX9_gap 89 = .ok (.ifCond .ne 8, 3) := by decide +kernel
theorem dX9_gap_92 : decode cX9_gap 92 = .ok (.iload 4, 2) := by decide +kernel
theorem dX9_gap_94 : decode cX9_gap 94 = .ok (.goto 5, 3) := by decide +kernel
theorem dX9_gap_97 : decode cX9_gap 97 = .ok (.iload 5, 2) := by decide +kernel
theorem dX9_gap_99 : decode cX9_gap 99 = .ok (.ireturn, 1) := by decide +kernel
theorem dX9_needs_0 : decode cX9_needs 0 = .ok (.aload_n 0, 1) := by decide +kernel
theorem dX9_needs_1 : decode cX9_needs 1 = .ok (.iload_n 1, 1) := by decide +kernel
theorem dX9_needs_2 : decode cX9_needs 2 = .ok (.iconst 0, 1) := by decide +kernel
theorem dX9_needs_3 : decode cX9_needs 3 = .ok (.aload_n 0, 1) := by decide +kernel
theorem dX9_needs_4 : decode cX9_needs 4 = .ok (.getfield 19, 3) := by decide +kernel
theorem dX9_needs_7 : decode cX9_needs 7 = .ok (.getfield 108, 3) := by decide +kernel
theorem dX9_needs_10 : decode cX9_needs 10 = .ok (.getfield 152, 3) := by decide +kernel
theorem dX9_needs_13 : decode cX9_needs 13 = .ok (.iconst 1, 1) := by decide +kernel
theorem dX9_needs_14 : decode cX9_needs 14 = .ok (.isub, 1) := by decide +kernel
theorem dX9_needs_15 : decode cX9_needs 15 = .ok (.invokevirtual 148, 3) := by decide +kernel
theorem dX9_needs_18 : decode cX9_needs 18 = .ok (.iconst 0, 1) := by decide +kernel
theorem dX9_needs_19 : decode cX9_needs 19 = .ok (.istore_n 2, 1) := by decide +kernel
theorem dX9_needs_20 : decode cX9_needs 20 = .ok (.iload_n 2, 1) := by decide +kernel
theorem dX9_needs_21 : decode cX9_needs 21 = .ok (.bipush 9, 2) := by decide +kernel
theorem dX9_needs_23 : decode cX9_needs 23 = .ok (.if_icmp .gt 30, 3) := by decide +kernel
theorem dX9_needs_26 : decode cX9_needs 26 = .ok (.aload_n 0, 1) := by decide +kernel
theorem dX9_needs_27 : decode cX9_needs 27 = .ok (.invokevirtual 205, 3) := by decide +kernel
theorem dX9_needs_30 : decode cX9_needs 30 = .ok (.aload_n 0, 1) := by decide +kernel
theorem dX9_needs_31 : decode cX9_needs 31 = .ok (.getfield 19, 3) := by decide +kernel
theorem dX9_needs_34 : decode cX9_needs 34 = .ok (.getfield 108, 3) := by decide +kernel
theorem dX9_needs_37 : decode cX9_needs 37 = .ok (.iload_n 1, 1) := by decide +kernel
theorem dX9_needs_38 : decode cX9_needs 38 = .ok (.iload_n 2, 1) := by decide +kernel
theorem dX9_needs_39 : decode cX9_needs 39 = .ok (.invokevirtual 378, 3) := by decide +kernel
theorem dX9_needs_42 : decode cX9_needs 42 = .ok (.ifCond .ne 5, 3) := by decide +kernel
theorem dX9_needs_45 : decode cX9_needs 45 = .ok (.iload_n 2, 1) := by decide +kernel
theorem dX9_needs_46 : decode cX9_needs 46 = .ok (.ireturn, 1) := by decide +kernel
theorem dX9_needs_47 : decode cX9_needs 47 = .ok (.iinc 2 1, 3) := by decide +kernel
theorem dX9_needs_50 : decode cX9_needs 50 = .ok (.goto (-30), 3) := by decide +kernel
theorem dX9_needs_53 : decode cX9_needs 53 = .ok (.iconst (-1), 1) := by decide +kernel
theorem dX9_needs_54 : decode cX9_needs 54 = .ok (.ireturn, 1) := by decide +kernel
theorem dX9_clear_0 : decode cX9_clear 0 = .ok (.aload_n 0, 1) := by decide +kernel
theorem dX9_clear_1 : decode cX9_clear 1 = .ok (.iload_n 1, 1) := by decide +kernel
theorem dX9_clear_2 : decode cX9_clear 2 = .ok (.invokevirtual 176, 3) := by decide +kernel
theorem dX9_clear_5 : decode cX9_clear 5 = .ok (.aload_n 0, 1) := by decide +kernel
theorem dX9_clear_6 : decode cX9_clear 6 = .ok (.getfield 19, 3) := by decide +kernel
theorem dX9_clear_9 : decode cX9_clear 9 = .ok (.getfield 108, 3) := by decide +kernel
theorem dX9_clear_12 : decode cX9_clear 12 = .ok (.astore_n 2, 1) := by decide +kernel
theorem dX9_clear_13 : decode cX9_clear 13 = .ok (.aload_n 2, 1) := by decide +kernel
theorem dX9_clear_14 : decode cX9_clear 14 = .ok (.getfield 164, 3) := by decide +kernel
theorem dX9_clear_17 : decode cX9_clear 17 = .ok (.istore_n 3, 1) := by decide +kernel
theorem dX9_clear_18 : decode cX9_clear 18 = .ok (.iconst (-1), 1) := by decide +kernel
theorem dX9_clear_19 : decode cX9_clear 19 = .ok (.istore 4, 2) := by decide +kernel
theorem dX9_clear_21 : decode cX9_clear 21 = .ok (.iconst 0, 1) := by decide +kernel
theorem dX9_clear_22 : decode cX9_clear 22 = .ok (.istore 5, 2) := by decide +kernel
theorem dX9_clear_24 : decode cX9_clear 24 = .ok (.iload 5, 2) := by decide +kernel
theorem dX9_clear_26 : decode cX9_clear 26 = .ok (.bipush 9, 2) := by decide +kernel
theorem dX9_clear_28 : decode cX9_clear 28 = .ok (.if_icmp .gt 44, 3) := by decide +kernel
theorem dX9_clear_31 : decode cX9_clear 31 = .ok (.aload_n 2, 1) := by decide +kernel
theorem dX9_clear_32 : decode cX9_clear 32 = .ok (.iload 5, 2) := by decide +kernel
theorem dX9_clear_34 : decode cX9_clear 34 = .ok (.putfield 164, 3) := by decide +kernel
theorem dX9_clear_37 : decode cX9_clear 37 = .ok (.aload_n 0, 1) := by decide +kernel
theorem dX9_clear_38 : decode cX9_clear 38 = .ok (.getfield 58, 3) := by decide +kernel
theorem dX9_clear_41 : decode cX9_clear 41 = .ok (.aload_n 0, 1) := by decide +kernel
theorem dX9_clear_42 : decode cX9_clear 42 = .ok (.getfield 19, 3) := by decide +kernel
theorem dX9_clear_45 : decode cX9_clear 45 = .ok (.iconst (-1), 1) := by decide +kernel
theorem dX9_clear_46 : decode cX9_clear 46 = .ok (.iconst (-1), 1) := by decide +kernel
theorem dX9_clear_47 : decode cX9_clear 47 = .ok (.invokevirtual 201, 3) := by decide +kernel
theorem dX9_clear_50 : decode cX9_clear 50 = .ok (.aload_n 0, 1) := by decide +kernel
theorem dX9_clear_51 : decode cX9_clear 51 = .ok (.getfield 58, 3) := by decide +kernel
theorem dX9_clear_54 : decode cX9_clear 54 = .ok (.aload_n 2, 1) := by decide +kernel
theorem dX9_clear_55 : decode cX9_clear 55 = .ok (.iload_n 1, 1) := by decide +kernel
theorem dX9_clear_56 : decode cX9_clear 56 = .ok (.invokevirtual 240, 3) := by decide +kernel
theorem dX9_clear_59 : decode cX9_clear 59 = .ok (.ifCond .ne 7, 3) := by decide +kernel
theorem dX9_clear_62 : decode cX9_clear 62 = .ok (.iload 5, 2) := by decide +kernel
theorem dX9_clear_64 : decode cX9_clear 64 = .ok (.istore 4, 2) := by decide +kernel
theorem dX9_clear_66 : decode cX9_clear 66 = .ok (.iinc 5 1, 3) := by decide +kernel
theorem dX9_clear_69 : decode cX9_clear 69 = .ok (.goto (-45), 3) := by decide +kernel
theorem dX9_clear_72 : decode cX9_clear 72 = .ok (.aload_n 2, 1) := by decide +kernel
theorem dX9_clear_73 : decode cX9_clear 73 = .ok (.iload_n 3, 1) := by decide +kernel
theorem dX9_clear_74 : decode cX9_clear 74 = .ok (.putfield 164, 3) := by decide +kernel
theorem dX9_clear_77 : decode cX9_clear 77 = .ok (.iload 4, 2) := by decide +kernel
theorem dX9_clear_79 : decode cX9_clear 79 = .ok (.ireturn, 1) := by decide +kernel
theorem dX9_paces_0 : decode cX9_paces 0 = .ok (.aload_n 0, 1) := by decide +kernel
theorem dX9_paces_1 : decode cX9_paces 1 = .ok (.iload_n 1, 1) := by decide +kernel
theorem dX9_paces_2 : decode cX9_paces 2 = .ok (.iconst 0, 1) := by decide +kernel
theorem dX9_paces_3 : decode cX9_paces 3 = .ok (.iconst 1, 1) := by decide +kernel
theorem dX9_paces_4 : decode cX9_paces 4 = .ok (.invokevirtual 148, 3) := by decide +kernel
theorem dX9_paces_7 : decode cX9_paces 7 = .ok (.aload_n 0, 1) := by decide +kernel
theorem dX9_paces_8 : decode cX9_paces 8 = .ok (.invokevirtual 277, 3) := by decide +kernel
theorem dX9_paces_11 : decode cX9_paces 11 = .ok (.aload_n 0, 1) := by decide +kernel
theorem dX9_paces_12 : decode cX9_paces 12 = .ok (.getfield 19, 3) := by decide +kernel
theorem dX9_paces_15 : decode cX9_paces 15 = .ok (.getfield 108, 3) := by decide +kernel
theorem dX9_paces_18 : decode cX9_paces 18 = .ok (.astore_n 2, 1) := by decide +kernel
theorem dX9_paces_19 : decode cX9_paces 19 = .ok (.aload_n 2, 1) := by decide +kernel
theorem dX9_paces_20 : decode cX9_paces 20 = .ok (.getfield 182, 3) := by decide +kernel
theorem dX9_paces_23 : decode cX9_paces 23 = .ok (.iconst 0, 1) := by decide +kernel
theorem dX9_paces_24 : decode cX9_paces 24 = .ok (.iaload, 1) := by decide +kernel
theorem dX9_paces_25 : decode cX9_paces 25 = .ok (.istore_n 3, 1) := by decide +kernel
theorem dX9_paces_26 : decode cX9_paces 26 = .ok (.aload_n 2, 1) := by decide +kernel
theorem dX9_paces_27 : decode cX9_paces 27 = .ok (.getfield 182, 3) := by decide +kernel
theorem dX9_paces_30 : decode cX9_paces 30 = .ok (.iconst 1, 1) := by decide +kernel
theorem dX9_paces_31 : decode cX9_paces 31 = .ok (.iaload, 1) := by decide +kernel
theorem dX9_paces_32 : decode cX9_paces 32 = .ok (.istore 4, 2) := by decide +kernel
theorem dX9_paces_34 : decode cX9_paces 34 = .ok (.iconst 0, 1) := by decide +kernel
theorem dX9_paces_35 : decode cX9_paces 35 = .ok (.istore 5, 2) := by decide +kernel
theorem dX9_paces_37 : decode cX9_paces 37 = .ok (.iconst 0, 1) := by decide +kernel
theorem dX9_paces_38 : decode cX9_paces 38 = .ok (.istore 6, 2) := by decide +kernel
theorem dX9_paces_40 : decode cX9_paces 40 = .ok (.ldc_w 311, 3) := by decide +kernel
theorem dX9_paces_43 : decode cX9_paces 43 = .ok (.istore 7, 2) := by decide +kernel
theorem dX9_paces_45 : decode cX9_paces 45 = .ok (.iconst 1, 1) := by decide +kernel
theorem dX9_paces_46 : decode cX9_paces 46 = .ok (.istore 8, 2) := by decide +kernel
theorem dX9_paces_48 : decode cX9_paces 48 = .ok (.iload 8, 2) := by decide +kernel
theorem dX9_paces_50 : decode cX9_paces 50 = .ok (.iconst 3, 1) := by decide +kernel
theorem dX9_paces_51 : decode cX9_paces 51 = .ok (.if_icmp .gt 119, 3) := by decide +kernel
theorem dX9_paces_54 : decode cX9_paces 54 = .ok (.iconst 1, 1) := by decide +kernel
theorem dX9_paces_55 : decode cX9_paces 55 = .ok (.istore 9, 2) := by decide +kernel
theorem dX9_paces_57 : decode cX9_paces 57 = .ok (.iload 9, 2) := by decide +kernel
theorem dX9_paces_59 : decode cX9_paces 59 = .ok (.iconst 3, 1) := by decide +kernel
theorem dX9_paces_60 : decode cX9_paces 60 = .ok (.if_icmp .gt 104, 3) := by decide +kernel
theorem dX9_paces_63 : decode cX9_paces 63 = .ok (.aload_n 2, 1) := by decide +kernel
theorem dX9_paces_64 : decode cX9_paces 64 = .ok (.getfield 182, 3) := by decide +kernel
theorem dX9_paces_67 : decode cX9_paces 67 = .ok (.iconst 0, 1) := by decide +kernel
theorem dX9_paces_68 : decode cX9_paces 68 = .ok (.iload 8, 2) := by decide +kernel
theorem dX9_paces_70 : decode cX9_paces 70 = .ok (.iastore, 1) := by decide +kernel
theorem dX9_paces_71 : decode cX9_paces 71 = .ok (.aload_n 2, 1) := by decide +kernel
theorem dX9_paces_72 : decode cX9_paces 72 = .ok (.getfield 182, 3) := by decide +kernel
theorem dX9_paces_75 : decode cX9_paces 75 = .ok (.iconst 1, 1) := by decide +kernel
theorem dX9_paces_76 : decode cX9_paces 76 = .ok (.iload 9, 2) := by decide +kernel
theorem dX9_paces_78 : decode cX9_paces 78 = .ok (.iastore, 1) := by decide +kernel
theorem dX9_paces_79 : decode cX9_paces 79 = .ok (.aload_n 0, 1) := by decide +kernel
theorem dX9_paces_80 : decode cX9_paces 80 = .ok (.getfield 58, 3) := by decide +kernel
theorem dX9_paces_83 : decode cX9_paces 83 = .ok (.aload_n 0, 1) := by decide +kernel
theorem dX9_paces_84 : decode cX9_paces 84 = .ok (.getfield 19, 3) := by decide +kernel
theorem dX9_paces_87 : decode cX9_paces 87 = .ok (.iconst (-1), 1) := by decide +kernel
theorem dX9_paces_88 : decode cX9_paces 88 = .ok (.iconst (-1), 1) := by decide +kernel
theorem dX9_paces_89 : decode cX9_paces 89 = .ok (.invokevirtual 201, 3) := by decide +kernel
theorem dX9_paces_92 : decode cX9_paces 92 = .ok (.aload_n 0, 1) := by decide +kernel
theorem dX9_paces_93 : decode cX9_paces 93 = .ok (.getfield 58, 3) := by decide +kernel
theorem dX9_paces_96 : decode cX9_paces 96 = .ok (.aload_n 2, 1) := by decide +kernel
theorem dX9_paces_97 : decode cX9_paces 97 = .ok (.iconst 0, 1) := by decide +kernel
theorem dX9_paces_98 : decode cX9_paces 98 = .ok (.invokevirtual 384, 3) := by decide +kernel
theorem dX9_paces_101 : decode cX9_paces 101 = .ok (.aload_n 0, 1) := by decide +kernel
theorem dX9_paces_102 : decode cX9_paces 102 = .ok (.getfield 58, 3) := by decide +kernel
theorem dX9_paces_105 : decode cX9_paces 105 = .ok (.aload_n 2, 1) := by decide +kernel
theorem dX9_paces_106 : decode cX9_paces 106 = .ok (.iconst 1, 1) := by decide +kernel
theorem dX9_paces_107 : decode cX9_paces 107 = .ok (.invokevirtual 384, 3) := by decide +kernel
theorem dX9_paces_110 : decode cX9_paces 110 = .ok (.iadd, 1) := by decide +kernel
theorem dX9_paces_111 : decode cX9_paces 111 = .ok (.istore 10, 2) := by decide +kernel
theorem dX9_paces_113 : decode cX9_paces 113 = .ok (.iload 10, 2) := by decide +kernel
theorem dX9_paces_115 : decode cX9_paces 115 = .ok (.iload 7, 2) := by decide +kernel
theorem dX9_paces_117 : decode cX9_paces 117 = .ok (.if_icmp .lt 20, 3) := by decide +kernel
theorem dX9_paces_120 : decode cX9_paces 120 = .ok (.iload 10, 2) := by decide +kernel
theorem dX9_paces_122 : decode cX9_paces 122 = .ok (.iload 7, 2) := by decide +kernel
theorem dX9_paces_124 : decode cX9_paces 124 = .ok (.if_icmp .ne 34, 3) := by decide +kernel
theorem dX9_paces_127 : decode cX9_paces 127 = .ok (.iload 8, 2) := by decide +kernel
theorem dX9_paces_129 : decode cX9_paces 129 = .ok (.iload 9, 2) := by decide +kernel
theorem dX9_paces_131 : decode cX9_paces 131 = .ok (.iadd, 1) := by decide +kernel
theorem dX9_paces_132 : decode cX9_paces 132 = .ok (.iload 6, 2) := by decide +kernel
theorem dX9_paces_134 : decode cX9_paces 134 = .ok (.if_icmp .le 24, 3) := by decide +kernel
theorem dX9_paces_137 : decode cX9_paces 137 = .ok (.iload 10, 2) := by decide +kernel
theorem dX9_paces_139 : decode cX9_paces 139 = .ok (.istore 7, 2) := by decide +kernel
theorem dX9_paces_141 : decode cX9_paces 141 = .ok (.iload 8, 2) := by decide +kernel
theorem dX9_paces_143 : decode cX9_paces 143 = .ok (.iload 9, 2) := by decide +kernel
theorem dX9_paces_145 : decode cX9_paces 145 = .ok (.iadd, 1) := by decide +kernel
theorem dX9_paces_146 : decode cX9_paces 146 = .ok (.istore 6, 2) := by decide +kernel
theorem dX9_paces_148 : decode cX9_paces 148 = .ok (.bipush 10, 2) := by decide +kernel
theorem dX9_paces_150 : decode cX9_paces 150 = .ok (.iload 8, 2) := by decide +kernel
theorem dX9_paces_152 : decode cX9_paces 152 = .ok (.imul, 1) := by decide +kernel
theorem dX9_paces_153 : decode cX9_paces 153 = .ok (.iload 9, 2) := by decide +kernel
theorem dX9_paces_155 : decode cX9_paces 155 = .ok (.iadd, 1) := by decide +kernel
theorem dX9_paces_156 : decode cX9_paces 156 = .ok (.istore 5, 2) := by decide +kernel
theorem dX9_paces_158 : decode cX9_paces 158 = .ok (.iinc 9 1, 3) := by decide +kernel
theorem dX9_paces_161 : decode cX9_paces 161 = .ok (.goto (-104), 3) := by decide +kernel
theorem dX9_paces_164 : decode cX9_paces 164 = .ok (.iinc 8 1, 3) := by decide +kernel
theorem dX9_paces_167 : decode cX9_paces 167 = .ok (.goto (-119), 3) := by decide +kernel
theorem dX9_paces_170 : decode cX9_paces 170 = .ok (.aload_n 2, 1) := by decide +kernel
theorem dX9_paces_171 : decode cX9_paces 171 = .ok (.getfield 182, 3) := by decide +kernel
theorem dX9_paces_174 : decode cX9_paces 174 = .ok (.iconst 0, 1) := by decide +kernel
theorem dX9_paces_175 : decode cX9_paces 175 = .ok (.iload_n 3, 1) := by decide +kernel
theorem dX9_paces_176 : decode cX9_paces 176 = .ok (.iastore, 1) := by decide +kernel
theorem dX9_paces_177 : decode cX9_paces 177 = .ok (.aload_n 2, 1) := by decide +kernel
theorem dX9_paces_178 : decode cX9_paces 178 = .ok (.getfield 182, 3) := by decide +kernel
theorem dX9_paces_181 : decode cX9_paces 181 = .ok (.iconst 1, 1) := by decide +kernel
theorem dX9_paces_182 : decode cX9_paces 182 = .ok (.iload 4, 2) := by decide +kernel
theorem dX9_paces_184 : decode cX9_paces 184 = .ok (.iastore, 1) := by decide +kernel
theorem dX9_paces_185 : decode cX9_paces 185 = .ok (.iload_n 1, 1) := by decide +kernel
theorem dX9_paces_186 : decode cX9_paces 186 = .ok (.ifCond .ne 8, 3) := by decide +kernel
theorem dX9_paces_189 : decode cX9_paces 189 = .ok (.iload 5, 2) := by decide +kernel
theorem dX9_paces_191 : decode cX9_paces 191 = .ok (.goto 5, 3) := by decide +kernel
theorem dX9_paces_194 : decode cX9_paces 194 = .ok (.iload 7, 2) := by decide +kernel
theorem dX9_paces_196 : decode cX9_paces 196 = .ok (.ireturn, 1) := by decide +kernel
theorem dX9_finds_0 : decode cX9_finds 0 = .ok (.aload_n 0, 1) := by decide +kernel
theorem dX9_finds_1 : decode cX9_finds 1 = .ok (.iload_n 1, 1) := by decide +kernel
theorem dX9_finds_2 : decode cX9_finds 2 = .ok (.invokevirtual 192, 3) := by decide +kernel
theorem dX9_finds_5 : decode cX9_finds 5 = .ok (.aload_n 0, 1) := by decide +kernel
theorem dX9_finds_6 : decode cX9_finds 6 = .ok (.iload_n 2, 1) := by decide +kernel
theorem dX9_finds_7 : decode cX9_finds 7 = .ok (.iconst 0, 1) := by decide +kernel
theorem dX9_finds_8 : decode cX9_finds 8 = .ok (.iconst 1, 1) := by decide +kernel
theorem dX9_finds_9 : decode cX9_finds 9 = .ok (.invokevirtual 148, 3) := by decide +kernel
theorem dX9_finds_12 : decode cX9_finds 12 = .ok (.aload_n 0, 1) := by decide +kernel
theorem dX9_finds_13 : decode cX9_finds 13 = .ok (.getfield 19, 3) := by decide +kernel
theorem dX9_finds_16 : decode cX9_finds 16 = .ok (.getfield 108, 3) := by decide +kernel
theorem dX9_finds_19 : decode cX9_finds 19 = .ok (.astore_n 3, 1) := by decide +kernel
theorem dX9_finds_20 : decode cX9_finds 20 = .ok (.iconst (-1), 1) := by decide +kernel
theorem dX9_finds_21 : decode cX9_finds 21 = .ok (.istore 4, 2) := by decide +kernel
theorem dX9_finds_23 : decode cX9_finds 23 = .ok (.iconst (-1), 1) := by decide +kernel
theorem dX9_finds_24 : decode cX9_finds 24 = .ok (.istore 5, 2) := by decide +kernel
theorem dX9_finds_26 : decode cX9_finds 26 = .ok (.iconst 0, 1) := by decide +kernel
theorem dX9_finds_27 : decode cX9_finds 27 = .ok (.istore 6, 2) := by decide +kernel
theorem dX9_finds_29 : decode cX9_finds 29 = .ok (.iload 6, 2) := by decide +kernel
theorem dX9_finds_31 : decode cX9_finds 31 = .ok (.aload_n 3, 1) := by decide +kernel
theorem dX9_finds_32 : decode cX9_finds 32 = .ok (.getfield 123, 3) := by decide +kernel
theorem dX9_finds_35 : decode cX9_finds 35 = .ok (.if_icmp .ge 67, 3) := by decide +kernel
theorem dX9_finds_38 : decode cX9_finds 38 = .ok (.aload_n 0, 1) := by decide +kernel
theorem dX9_finds_39 : decode cX9_finds 39 = .ok (.invokevirtual 205, 3) := by decide +kernel
theorem dX9_finds_42 : decode cX9_finds 42 = .ok (.iload 6, 2) := by decide +kernel
theorem dX9_finds_44 : decode cX9_finds 44 = .ok (.invokevirtual 212, 3) := by decide +kernel
theorem dX9_finds_47 : decode cX9_finds 47 = .ok (.astore 7, 2) := by decide +kernel
theorem dX9_finds_49 : decode cX9_finds 49 = .ok (.aload 7, 2) := by decide +kernel
theorem dX9_finds_51 : decode cX9_finds 51 = .ok (.aload_n 3, 1) := by decide +kernel
theorem dX9_finds_52 : decode cX9_finds 52 = .ok (.aload_n 3, 1) := by decide +kernel
theorem dX9_finds_53 : decode cX9_finds 53 = .ok (.getfield 195, 3) := by decide +kernel
theorem dX9_finds_56 : decode cX9_finds 56 = .ok (.iload_n 1, 1) := by decide +kernel
theorem dX9_finds_57 : decode cX9_finds 57 = .ok (.iaload, 1) := by decide +kernel
theorem dX9_finds_58 : decode cX9_finds 58 = .ok (.aload_n 3, 1) := by decide +kernel
theorem dX9_finds_59 : decode cX9_finds 59 = .ok (.getfield 198, 3) := by decide +kernel
theorem dX9_finds_62 : decode cX9_finds 62 = .ok (.iload_n 1, 1) := by decide +kernel
theorem dX9_finds_63 : decode cX9_finds 63 = .ok (.iaload, 1) := by decide +kernel
theorem dX9_finds_64 : decode cX9_finds 64 = .ok (.invokevirtual 244, 3) := by decide +kernel
theorem dX9_finds_67 : decode cX9_finds 67 = .ok (.istore 8, 2) := by decide +kernel
theorem dX9_finds_69 : decode cX9_finds 69 = .ok (.iload 8, 2) := by decide +kernel
theorem dX9_finds_71 : decode cX9_finds 71 = .ok (.iconst (-1), 1) := by decide +kernel
theorem dX9_finds_72 : decode cX9_finds 72 = .ok (.if_icmp .eq 24, 3) := by decide +kernel
theorem dX9_finds_75 : decode cX9_finds 75 = .ok (.iload 4, 2) := by decide +kernel
theorem dX9_finds_77 : decode cX9_finds 77 = .ok (.iconst (-1), 1) := by decide +kernel
theorem dX9_finds_78 : decode cX9_finds 78 = .ok (.if_icmp .eq 10, 3) := by decide +kernel
theorem dX9_finds_81 : decode cX9_finds 81 = .ok (.iload 8, 2) := by decide +kernel
theorem dX9_finds_83 : decode cX9_finds 83 = .ok (.iload 5, 2) := by decide +kernel
theorem dX9_finds_85 : decode cX9_finds 85 = .ok (.if_icmp .ge 11, 3) := by decide +kernel
theorem dX9_finds_88 : decode cX9_finds 88 = .ok (.iload 6, 2) := by decide +kernel
theorem dX9_finds_90 : decode cX9_finds 90 = .ok (.istore 4, 2) := by decide +kernel
theorem dX9_finds_92 : decode cX9_finds 92 = .ok (.iload 8, 2) := by decide +kernel
theorem dX9_finds_94 : decode cX9_finds 94 = .ok (.istore 5, 2) := by decide +kernel
theorem dX9_finds_96 : decode cX9_finds 96 = .ok (.iinc 6 1, 3) := by decide +kernel
theorem dX9_finds_99 : decode cX9_finds 99 = .ok (.goto (-70), 3) := by decide +kernel
theorem dX9_finds_102 : decode cX9_finds 102 = .ok (.iload_n 2, 1) := by decide +kernel
theorem dX9_finds_103 : decode cX9_finds 103 = .ok (.ifCond .ne 8, 3) := by decide +kernel
theorem dX9_finds_106 : decode cX9_finds 106 = .ok (.iload 4, 2) := by decide +kernel
theorem dX9_finds_108 : decode cX9_finds 108 = .ok (.goto 5, 3) := by decide +kernel
theorem dX9_finds_111 : decode cX9_finds 111 = .ok (.iload 5, 2) := by decide +kernel
theorem dX9_finds_113 : decode cX9_finds 113 = .ok (.ireturn, 1) := by decide +kernel
theorem dX9_drives_0 : decode cX9_drives 0 = .ok (.aload_n 0, 1) := by decide +kernel
theorem dX9_drives_1 : decode cX9_drives 1 = .ok (.iload_n 1, 1) := by decide +kernel
theorem dX9_drives_2 : decode cX9_drives 2 = .ok (.invokevirtual 176, 3) := by decide +kernel
theorem dX9_drives_5 : decode cX9_drives 5 = .ok (.aload_n 0, 1) := by decide +kernel
theorem dX9_drives_6 : decode cX9_drives 6 = .ok (.iload_n 2, 1) := by decide +kernel
theorem dX9_drives_7 : decode cX9_drives 7 = .ok (.iconst 1, 1) := by decide +kernel
theorem dX9_drives_8 : decode cX9_drives 8 = .ok (.iconst 3, 1) := by decide +kernel
theorem dX9_drives_9 : decode cX9_drives 9 = .ok (.invokevirtual 148, 3) := by decide +kernel
theorem dX9_drives_12 : decode cX9_drives 12 = .ok (.aload_n 0, 1) := by decide +kernel
theorem dX9_drives_13 : decode cX9_drives 13 = .ok (.iload_n 3, 1) := by decide +kernel
theorem dX9_drives_14 : decode cX9_drives 14 = .ok (.iconst 0, 1) := by decide +kernel
theorem dX9_drives_15 : decode cX9_drives 15 = .ok (.bipush 9, 2) := by decide +kernel
theorem dX9_drives_17 : decode cX9_drives 17 = .ok (.invokevirtual 148, 3) := by decide +kernel
theorem dX9_drives_20 : decode cX9_drives 20 = .ok (.aload_n 0, 1) := by decide +kernel
theorem dX9_drives_21 : decode cX9_drives 21 = .ok (.iconst 0, 1) := by decide +kernel
theorem dX9_drives_22 : decode cX9_drives 22 = .ok (.iload_n 1, 1) := by decide +kernel
theorem dX9_drives_23 : decode cX9_drives 23 = .ok (.iload_n 2, 1) := by decide +kernel
theorem dX9_drives_24 : decode cX9_drives 24 = .ok (.iload_n 3, 1) := by decide +kernel
theorem dX9_drives_25 : decode cX9_drives 25 = .ok (.invokevirtual 387, 3) := by decide +kernel
theorem dX9_drives_28 : decode cX9_drives 28 = .ok (.ireturn, 1) := by decide +kernel
theorem dX9_stands_0 : decode cX9_stands 0 = .ok (.aload_n 0, 1) := by decide +kernel
theorem dX9_stands_1 : decode cX9_stands 1 = .ok (.iload_n 1, 1) := by decide +kernel
theorem dX9_stands_2 : decode cX9_stands 2 = .ok (.invokevirtual 192, 3) := by decide +kernel
theorem dX9_stands_5 : decode cX9_stands 5 = .ok (.aload_n 0, 1) := by decide +kernel
theorem dX9_stands_6 : decode cX9_stands 6 = .ok (.iload_n 2, 1) := by decide +kernel
theorem dX9_stands_7 : decode cX9_stands 7 = .ok (.iconst 0, 1) := by decide +kernel
theorem dX9_stands_8 : decode cX9_stands 8 = .ok (.aload_n 0, 1) := by decide +kernel
theorem dX9_stands_9 : decode cX9_stands 9 = .ok (.getfield 19, 3) := by decide +kernel
theorem dX9_stands_12 : decode cX9_stands 12 = .ok (.getfield 108, 3) := by decide +kernel
theorem dX9_stands_15 : decode cX9_stands 15 = .ok (.getfield 152, 3) := by decide +kernel
theorem dX9_stands_18 : decode cX9_stands 18 = .ok (.iconst 1, 1) := by decide +kernel
theorem dX9_stands_19 : decode cX9_stands 19 = .ok (.isub, 1) := by decide +kernel
theorem dX9_stands_20 : decode cX9_stands 20 = .ok (.invokevirtual 148, 3) := by decide +kernel
theorem dX9_stands_23 : decode cX9_stands 23 = .ok (.aload_n 0, 1) := by decide +kernel
theorem dX9_stands_24 : decode cX9_stands 24 = .ok (.iload_n 3, 1) := by decide +kernel
theorem dX9_stands_25 : decode cX9_stands 25 = .ok (.iconst 0, 1) := by decide +kernel
theorem dX9_stands_26 : decode cX9_stands 26 = .ok (.bipush 9, 2) := by decide +kernel
theorem dX9_stands_28 : decode cX9_stands 28 = .ok (.invokevirtual 148, 3) := by decide +kernel
theorem dX9_stands_31 : decode cX9_stands 31 = .ok (.aload_n 0, 1) := by decide +kernel
theorem dX9_stands_32 : decode cX9_stands 32 = .ok (.iconst 1, 1) := by decide +kernel
theorem dX9_stands_33 : decode cX9_stands 33 = .ok (.iload_n 1, 1) := by decide +kernel
theorem dX9_stands_34 : decode cX9_stands 34 = .ok (.iload_n 2, 1) := by decide +kernel
theorem dX9_stands_35 : decode cX9_stands 35 = .ok (.iload_n 3, 1) := by decide +kernel
theorem dX9_stands_36 : decode cX9_stands 36 = .ok (.invokevirtual 387, 3) := by decide +kernel
theorem dX9_stands_39 : decode cX9_stands 39 = .ok (.ireturn, 1) := by decide +kernel
theorem dX9_weather_0 : decode cX9_weather 0 = .ok (.aload_n 0, 1) := by decide +kernel
theorem dX9_weather_1 : decode cX9_weather 1 = .ok (.iload_n 1, 1) := by decide +kernel
theorem dX9_weather_2 : decode cX9_weather 2 = .ok (.iconst 0, 1) := by decide +kernel
theorem dX9_weather_3 : decode cX9_weather 3 = .ok (.bipush 9, 2) := by decide +kernel
theorem dX9_weather_5 : decode cX9_weather 5 = .ok (.invokevirtual 148, 3) := by decide +kernel
theorem dX9_weather_8 : decode cX9_weather 8 = .ok (.aload_n 0, 1) := by decide +kernel
theorem dX9_weather_9 : decode cX9_weather 9 = .ok (.iload_n 2, 1) := by decide +kernel
theorem dX9_weather_10 : decode cX9_weather 10 = .ok (.iconst 0, 1) := by decide +kernel
theorem dX9_weather_11 : decode cX9_weather 11 = .ok (.bipush 9, 2) := by decide +kernel
theorem dX9_weather_13 : decode cX9_weather 13 = .ok (.invokevirtual 148, 3) := by decide +kernel
theorem dX9_weather_16 : decode cX9_weather 16 = .ok (.aload_n 0, 1) := by decide +kernel
theorem dX9_weather_17 : decode cX9_weather 17 = .ok (.iconst 2, 1) := by decide +kernel
theorem dX9_weather_18 : decode cX9_weather 18 = .ok (.iconst 0, 1) := by decide +kernel
theorem dX9_weather_19 : decode cX9_weather 19 = .ok (.iload_n 1, 1) := by decide +kernel
theorem dX9_weather_20 : decode cX9_weather 20 = .ok (.iload_n 2, 1) := by decide +kernel
theorem dX9_weather_21 : decode cX9_weather 21 = .ok (.invokevirtual 387, 3) := by decide +kernel
theorem dX9_weather_24 : decode cX9_weather 24 = .ok (.ireturn, 1) := by decide +kernel
theorem dX9_change_0 : decode cX9_change 0 = .ok (.aload_n 0, 1) := by decide +kernel
theorem dX9_change_1 : decode cX9_change 1 = .ok (.getfield 82, 3) := by decide +kernel
theorem dX9_change_4 : decode cX9_change 4 = .ok (.aload_n 0, 1) := by decide +kernel
theorem dX9_change_5 : decode cX9_change 5 = .ok (.getfield 19, 3) := by decide +kernel
theorem dX9_change_8 : decode cX9_change 8 = .ok (.getfield 108, 3) := by decide +kernel
theorem dX9_change_11 : decode cX9_change 11 = .ok (.iload_n 1, 1) := by decide +kernel
theorem dX9_change_12 : decode cX9_change 12 = .ok (.iload_n 2, 1) := by decide +kernel
theorem dX9_change_13 : decode cX9_change 13 = .ok (.iload_n 3, 1) := by decide +kernel
theorem dX9_change_14 : decode cX9_change 14 = .ok (.iload 4, 2) := by decide +kernel
theorem dX9_change_16 : decode cX9_change 16 = .ok (.invokevirtual 391, 3) := by decide +kernel
theorem dX9_change_19 : decode cX9_change 19 = .ok (.ifCond .ne 5, 3) := by decide +kernel
theorem dX9_change_22 : decode cX9_change 22 = .ok (.iconst 0, 1) := by decide +kernel
theorem dX9_change_23 : decode cX9_change 23 = .ok (.ireturn, 1) := by decide +kernel
theorem dX9_change_24 : decode cX9_change 24 = .ok (.aload_n 0, 1) := by decide +kernel
theorem dX9_change_25 : decode cX9_change 25 = .ok (.invokevirtual 120, 3) := by decide +kernel
theorem dX9_change_28 : decode cX9_change 28 = .ok (.iconst 1, 1) := by decide +kernel
theorem dX9_change_29 : decode cX9_change 29 = .ok (.ireturn, 1) := by decide +kernel
theorem dX9_undo_0 : decode cX9_undo 0 = .ok (.aload_n 0, 1) := by decide +kernel
theorem dX9_undo_1 : decode cX9_undo 1 = .ok (.getfield 82, 3) := by decide +kernel
theorem dX9_undo_4 : decode cX9_undo 4 = .ok (.aload_n 0, 1) := by decide +kernel
theorem dX9_undo_5 : decode cX9_undo 5 = .ok (.getfield 19, 3) := by decide +kernel
theorem dX9_undo_8 : decode cX9_undo 8 = .ok (.getfield 108, 3) := by decide +kernel
theorem dX9_undo_11 : decode cX9_undo 11 = .ok (.invokevirtual 395, 3) := by decide +kernel
theorem dX9_undo_14 : decode cX9_undo 14 = .ok (.ifCond .ne 5, 3) := by decide +kernel
theorem dX9_undo_17 : decode cX9_undo 17 = .ok (.iconst (-1), 1) := by decide +kernel
theorem dX9_undo_18 : decode cX9_undo 18 = .ok (.ireturn, 1) := by decide +kernel
theorem dX9_undo_19 : decode cX9_undo 19 = .ok (.aload_n 0, 1) := by decide +kernel
theorem dX9_undo_20 : decode cX9_undo 20 = .ok (.invokevirtual 120, 3) := by decide +kernel
theorem dX9_undo_23 : decode cX9_undo 23 = .ok (.aload_n 0, 1) := by decide +kernel
theorem dX9_undo_24 : decode cX9_undo 24 = .ok (.getfield 82, 3) := by decide +kernel
theorem dX9_undo_27 : decode cX9_undo 27 = .ok (.getfield 399, 3) := by decide +kernel
theorem dX9_undo_30 : decode cX9_undo 30 = .ok (.ireturn, 1) := by decide +kernel
theorem dX9_image_0 : decode cX9_image 0 = .ok (.aload_n 0, 1) := by decide +kernel
theorem dX9_image_1 : decode cX9_image 1 = .ok (.getfield 82, 3) := by decide +kernel
theorem dX9_image_4 : decode cX9_image 4 = .ok (.aload_n 0, 1) := by decide +kernel
theorem dX9_image_5 : decode cX9_image 5 = .ok (.getfield 19, 3) := by decide +kernel
theorem dX9_image_8 : decode cX9_image 8 = .ok (.getfield 108, 3) := by decide +kernel
theorem dX9_image_11 : decode cX9_image 11 = .ok (.invokevirtual 402, 3) := by decide +kernel
theorem dX9_image_14 : decode cX9_image 14 = .ok (.ifCond .eq 13, 3) := by decide +kernel
theorem dX9_image_17 : decode cX9_image 17 = .ok (.aload_n 0, 1) := by decide +kernel
theorem dX9_image_18 : decode cX9_image 18 = .ok (.getfield 82, 3) := by decide +kernel
theorem dX9_image_21 : decode cX9_image 21 = .ok (.getfield 405, 3) := by decide +kernel
theorem dX9_image_24 : decode cX9_image 24 = .ok (.goto 4, 3) := by decide +kernel
theorem dX9_image_27 : decode cX9_image 27 = .ok (.iconst (-1), 1) := by decide +kernel
theorem dX9_image_28 : decode cX9_image 28 = .ok (.ireturn, 1) := by decide +kernel
theorem dX9_restore_0 : decode cX9_restore 0 = .ok (.aload_n 0, 1) := by decide +kernel
theorem dX9_restore_1 : decode cX9_restore 1 = .ok (.getfield 82, 3) := by decide +kernel
theorem dX9_restore_4 : decode cX9_restore 4 = .ok (.aload_n 0, 1) := by decide +kernel
theorem dX9_restore_5 : decode cX9_restore 5 = .ok (.getfield 19, 3) := by decide +kernel
theorem dX9_restore_8 : decode cX9_restore 8 = .ok (.getfield 108, 3) := by decide +kernel
theorem dX9_restore_11 : decode cX9_restore 11 = .ok (.invokevirtual 408, 3) := by decide +kernel
theorem dX9_restore_14 : decode cX9_restore 14 = .ok (.ifCond .ne 5, 3) := by decide +kernel
theorem dX9_restore_17 : decode cX9_restore 17 = .ok (.iconst (-1), 1) := by decide +kernel
theorem dX9_restore_18 : decode cX9_restore 18 = .ok (.ireturn, 1) := by decide +kernel
theorem dX9_restore_19 : decode cX9_restore 19 = .ok (.aload_n 0, 1) := by decide +kernel
theorem dX9_restore_20 : decode cX9_restore 20 = .ok (.invokevirtual 120, 3) := by decide +kernel
theorem dX9_restore_23 : decode cX9_restore 23 = .ok (.aload_n 0, 1) := by decide +kernel
theorem dX9_restore_24 : decode cX9_restore 24 = .ok (.getfield 82, 3) := by decide +kernel
theorem dX9_restore_27 : decode cX9_restore 27 = .ok (.getfield 405, 3) := by decide +kernel
theorem dX9_restore_30 : decode cX9_restore 30 = .ok (.ireturn, 1) := by decide +kernel
theorem dX9_status_0 : decode cX9_status 0 = .ok (.iload_n 1, 1) := by decide +kernel
theorem dX9_status_1 : decode cX9_status 1 = .ok (.ifCond .lt 21, 3) := by decide +kernel
theorem dX9_status_4 : decode cX9_status 4 = .ok (.iload_n 1, 1) := by decide +kernel
theorem dX9_status_5 : decode cX9_status 5 = .ok (.aload_n 0, 1) := by decide +kernel
theorem dX9_status_6 : decode cX9_status 6 = .ok (.getfield 86, 3) := by decide +kernel
theorem dX9_status_9 : decode cX9_status 9 = .ok (.arraylength, 1) := by decide +kernel
theorem dX9_status_10 : decode cX9_status 10 = .ok (.if_icmp .ge 12, 3) := by decide +kernel
theorem dX9_status_13 : decode cX9_status 13 = .ok (.aload_n 0, 1) := by decide +kernel
theorem dX9_status_14 : decode cX9_status 14 = .ok (.getfield 86, 3) := by decide +kernel
theorem dX9_status_17 : decode cX9_status 17 = .ok (.iload_n 1, 1) := by decide +kernel
theorem dX9_status_18 : decode cX9_status 18 = .ok (.iaload, 1) := by decide +kernel
theorem dX9_status_19 : decode cX9_status 19 = .ok (.goto 4, 3) := by decide +kernel
theorem dX9_status_22 : decode cX9_status 22 = .ok (.iconst (-1), 1) := by decide +kernel
theorem dX9_status_23 : decode cX9_status 23 = .ok (.ireturn, 1) := by decide +kernel
theorem dX9_count_0 : decode cX9_count 0 = .ok (.iload_n 1, 1) := by decide +kernel
theorem dX9_count_1 : decode cX9_count 1 = .ok (.tableswitch 51 0 2 #[27, 35, 43], 27) := by decide +kernel
theorem dX9_count_28 : decode cX9_count 28 = .ok (.aload_n 0, 1) := by decide +kernel
theorem dX9_count_29 : decode cX9_count 29 = .ok (.getfield 82, 3) := by decide +kernel
theorem dX9_count_32 : decode cX9_count 32 = .ok (.getfield 405, 3) := by decide +kernel
theorem dX9_count_35 : decode cX9_count 35 = .ok (.ireturn, 1) := by decide +kernel
theorem dX9_count_36 : decode cX9_count 36 = .ok (.aload_n 0, 1) := by decide +kernel
theorem dX9_count_37 : decode cX9_count 37 = .ok (.getfield 10, 3) := by decide +kernel
theorem dX9_count_40 : decode cX9_count 40 = .ok (.getfield 89, 3) := by decide +kernel
theorem dX9_count_43 : decode cX9_count 43 = .ok (.ireturn, 1) := by decide +kernel
theorem dX9_count_44 : decode cX9_count 44 = .ok (.aload_n 0, 1) := by decide +kernel
theorem dX9_count_45 : decode cX9_count 45 = .ok (.getfield 82, 3) := by decide +kernel
theorem dX9_count_48 : decode cX9_count 48 = .ok (.getfield 399, 3) := by decide +kernel
theorem dX9_count_51 : decode cX9_count 51 = .ok (.ireturn, 1) := by decide +kernel
theorem dX9_count_52 : decode cX9_count 52 = .ok (.iconst (-1), 1) := by decide +kernel
theorem dX9_count_53 : decode cX9_count 53 = .ok (.ireturn, 1) := by decide +kernel
theorem dX9_needElement_0 : decode cX9_needElement 0 = .ok (.iload_n 1, 1) := by decide +kernel
theorem dX9_needElement_1 : decode cX9_needElement 1 = .ok (.ifCond .ne 24, 3) := by decide +kernel
theorem dX9_needElement_4 : decode cX9_needElement 4 = .ok (.aload_n 0, 1) := by decide +kernel
theorem dX9_needElement_5 : decode cX9_needElement 5 = .ok (.getfield 86, 3) := by decide +kernel
theorem dX9_needElement_8 : decode cX9_needElement 8 = .ok (.iconst 0, 1) := by decide +kernel
theorem dX9_needElement_9 : decode cX9_needElement 9 = .ok (.dup2, 1) := by decide +kernel
theorem dX9_needElement_10 : decode cX9_needElement 10 = .ok (.iaload, 1) := by decide +kernel
theorem dX9_needElement_11 : decode cX9_needElement 11 = .ok (.iconst 1, 1) := by decide +kernel
theorem dX9_needElement_12 : decode cX9_needElement 12 = .ok (.iadd, 1) := by decide +kernel
theorem dX9_needElement_13 : decode cX9_needElement 13 = .ok (.iastore, 1) := by decide +kernel
theorem dX9_needElement_14 : decode cX9_needElement 14 = .ok (.new 411, 3) := by decide +kernel
theorem dX9_needElement_17 : decode cX9_needElement 17 = .ok (.dup, 1) := by decide +kernel
theorem dX9_needElement_18 : decode cX9_needElement 18 = .ok (.ldc_w 413, 3) := by decide +kernel
theorem dX9_needElement_21 : decode cX9_needElement 21 = .ok (.invokespecial 415, 3) := by decide +kernel
theorem dX9_needElement_24 : decode cX9_needElement 24 = .ok (.athrow, 1) := by decide +kernel
theorem dX9_needElement_25 : decode cX9_needElement 25 = .ok (.return_, 1) := by decide +kernel
theorem dX9_needCar_0 : decode cX9_needCar 0 = .ok (.aload_n 0, 1) := by decide +kernel
theorem dX9_needCar_1 : decode cX9_needCar 1 = .ok (.iload_n 1, 1) := by decide +kernel
theorem dX9_needCar_2 : decode cX9_needCar 2 = .ok (.ifCond .lt 21, 3) := by decide +kernel
theorem dX9_needCar_5 : decode cX9_needCar 5 = .ok (.iload_n 1, 1) := by decide +kernel
theorem dX9_needCar_6 : decode cX9_needCar 6 = .ok (.aload_n 0, 1) := by decide +kernel
theorem dX9_needCar_7 : decode cX9_needCar 7 = .ok (.getfield 19, 3) := by decide +kernel
theorem dX9_needCar_10 : decode cX9_needCar 10 = .ok (.getfield 108, 3) := by decide +kernel
theorem dX9_needCar_13 : decode cX9_needCar 13 = .ok (.getfield 123, 3) := by decide +kernel
theorem dX9_needCar_16 : decode cX9_needCar 16 = .ok (.if_icmp .ge 7, 3) := by decide +kernel
theorem dX9_needCar_19 : decode cX9_needCar 19 = .ok (.iconst 1, 1) := by decide +kernel
theorem dX9_needCar_20 : decode cX9_needCar 20 = .ok (.goto 4, 3) := by decide +kernel
theorem dX9_needCar_23 : decode cX9_needCar 23 = .ok (.iconst 0, 1) := by decide +kernel
theorem dX9_needCar_24 : decode cX9_needCar 24 = .ok (.invokevirtual 130, 3) := by decide +kernel
theorem dX9_needCar_27 : decode cX9_needCar 27 = .ok (.return_, 1) := by decide +kernel
theorem dX9_needCoat_0 : decode cX9_needCoat 0 = .ok (.aload_n 0, 1) := by decide +kernel
theorem dX9_needCoat_1 : decode cX9_needCoat 1 = .ok (.iload_n 1, 1) := by decide +kernel
theorem dX9_needCoat_2 : decode cX9_needCoat 2 = .ok (.ifCond .lt 21, 3) := by decide +kernel
theorem dX9_needCoat_5 : decode cX9_needCoat 5 = .ok (.iload_n 1, 1) := by decide +kernel
theorem dX9_needCoat_6 : decode cX9_needCoat 6 = .ok (.aload_n 0, 1) := by decide +kernel
theorem dX9_needCoat_7 : decode cX9_needCoat 7 = .ok (.getfield 19, 3) := by decide +kernel
theorem dX9_needCoat_10 : decode cX9_needCoat 10 = .ok (.getfield 108, 3) := by decide +kernel
theorem dX9_needCoat_13 : decode cX9_needCoat 13 = .ok (.getfield 155, 3) := by decide +kernel
theorem dX9_needCoat_16 : decode cX9_needCoat 16 = .ok (.if_icmp .ge 7, 3) := by decide +kernel
theorem dX9_needCoat_19 : decode cX9_needCoat 19 = .ok (.iconst 1, 1) := by decide +kernel
theorem dX9_needCoat_20 : decode cX9_needCoat 20 = .ok (.goto 4, 3) := by decide +kernel
theorem dX9_needCoat_23 : decode cX9_needCoat 23 = .ok (.iconst 0, 1) := by decide +kernel
theorem dX9_needCoat_24 : decode cX9_needCoat 24 = .ok (.invokevirtual 130, 3) := by decide +kernel
theorem dX9_needCoat_27 : decode cX9_needCoat 27 = .ok (.return_, 1) := by decide +kernel
theorem dX9_needArgument_0 : decode cX9_needArgument 0 = .ok (.iload_n 1, 1) := by decide +kernel
theorem dX9_needArgument_1 : decode cX9_needArgument 1 = .ok (.ifCond .ne 24, 3) := by decide +kernel
theorem dX9_needArgument_4 : decode cX9_needArgument 4 = .ok (.aload_n 0, 1) := by decide +kernel
theorem dX9_needArgument_5 : decode cX9_needArgument 5 = .ok (.getfield 86, 3) := by decide +kernel
theorem dX9_needArgument_8 : decode cX9_needArgument 8 = .ok (.iconst 1, 1) := by decide +kernel
theorem dX9_needArgument_9 : decode cX9_needArgument 9 = .ok (.dup2, 1) := by decide +kernel
theorem dX9_needArgument_10 : decode cX9_needArgument 10 = .ok (.iaload, 1) := by decide +kernel
theorem dX9_needArgument_11 : decode cX9_needArgument 11 = .ok (.iconst 1, 1) := by decide +kernel
theorem dX9_needArgument_12 : decode cX9_needArgument 12 = .ok (.iadd, 1) := by decide +kernel
theorem dX9_needArgument_13 : decode cX9_needArgument 13 = .ok (.iastore, 1) := by decide +kernel
theorem dX9_needArgument_14 : decode cX9_needArgument 14 = .ok (.new 418, 3) := by decide +kernel
theorem dX9_needArgument_17 : decode cX9_needArgument 17 = .ok (.dup, 1) := by decide +kernel
theorem dX9_needArgument_18 : decode cX9_needArgument 18 = .ok (.ldc_w 420, 3) := by decide +kernel
theorem dX9_needArgument_21 : decode cX9_needArgument 21 = .ok (.invokespecial 422, 3) := by decide +kernel
theorem dX9_needArgument_24 : decode cX9_needArgument 24 = .ok (.athrow, 1) := by decide +kernel
theorem dX9_needArgument_25 : decode cX9_needArgument 25 = .ok (.return_, 1) := by decide +kernel
theorem dX9_needRange_0 : decode cX9_needRange 0 = .ok (.aload_n 0, 1) := by decide +kernel
theorem dX9_needRange_1 : decode cX9_needRange 1 = .ok (.iload_n 1, 1) := by decide +kernel
theorem dX9_needRange_2 : decode cX9_needRange 2 = .ok (.iload_n 2, 1) := by decide +kernel
theorem dX9_needRange_3 : decode cX9_needRange 3 = .ok (.if_icmp .lt 12, 3) := by decide +kernel
theorem dX9_needRange_6 : decode cX9_needRange 6 = .ok (.iload_n 1, 1) := by decide +kernel
theorem dX9_needRange_7 : decode cX9_needRange 7 = .ok (.iload_n 3, 1) := by decide +kernel
theorem dX9_needRange_8 : decode cX9_needRange 8 = .ok (.if_icmp .gt 7, 3) := by decide +kernel
theorem dX9_needRange_11 : decode cX9_needRange 11 = .ok (.iconst 1, 1) := by decide +kernel
theorem dX9_needRange_12 : decode cX9_needRange 12 = .ok (.goto 4, 3) := by decide +kernel
theorem dX9_needRange_15 : decode cX9_needRange 15 = .ok (.iconst 0, 1) := by decide +kernel
theorem dX9_needRange_16 : decode cX9_needRange 16 = .ok (.invokevirtual 142, 3) := by decide +kernel
theorem dX9_needRange_19 : decode cX9_needRange 19 = .ok (.return_, 1) := by decide +kernel
theorem dX9_needTwoCars_0 : decode cX9_needTwoCars 0 = .ok (.aload_n 0, 1) := by decide +kernel
theorem dX9_needTwoCars_1 : decode cX9_needTwoCars 1 = .ok (.getfield 19, 3) := by decide +kernel
theorem dX9_needTwoCars_4 : decode cX9_needTwoCars 4 = .ok (.getfield 108, 3) := by decide +kernel
theorem dX9_needTwoCars_7 : decode cX9_needTwoCars 7 = .ok (.getfield 123, 3) := by decide +kernel
theorem dX9_needTwoCars_10 : decode cX9_needTwoCars 10 = .ok (.iconst 2, 1) := by decide +kernel
theorem dX9_needTwoCars_11 : decode cX9_needTwoCars 11 = .ok (.if_icmp .eq 24, 3) := by decide +kernel
theorem dX9_needTwoCars_14 : decode cX9_needTwoCars 14 = .ok (.aload_n 0, 1) := by decide +kernel
theorem dX9_needTwoCars_15 : decode cX9_needTwoCars 15 = .ok (.getfield 86, 3) := by decide +kernel
theorem dX9_needTwoCars_18 : decode cX9_needTwoCars 18 = .ok (.iconst 2, 1) := by decide +kernel
theorem dX9_needTwoCars_19 : decode cX9_needTwoCars 19 = .ok (.dup2, 1) := by decide +kernel
theorem dX9_needTwoCars_20 : decode cX9_needTwoCars 20 = .ok (.iaload, 1) := by decide +kernel
theorem dX9_needTwoCars_21 : decode cX9_needTwoCars 21 = .ok (.iconst 1, 1) := by decide +kernel
theorem dX9_needTwoCars_22 : decode cX9_needTwoCars 22 = .ok (.iadd, 1) := by decide +kernel
theorem dX9_needTwoCars_23 : decode cX9_needTwoCars 23 = .ok (.iastore, 1) := by decide +kernel
theorem dX9_needTwoCars_24 : decode cX9_needTwoCars 24 = .ok (.new 423, 3) := by decide +kernel
theorem dX9_needTwoCars_27 : decode cX9_needTwoCars 27 = .ok (.dup, 1) := by decide +kernel
theorem dX9_needTwoCars_28 : decode cX9_needTwoCars 28 = .ok (.ldc_w 425, 3) := by decide +kernel
theorem dX9_needTwoCars_31 : decode cX9_needTwoCars 31 = .ok (.invokespecial 427, 3) := by decide +kernel
theorem dX9_needTwoCars_34 : decode cX9_needTwoCars 34 = .ok (.athrow, 1) := by decide +kernel
theorem dX9_needTwoCars_35 : decode cX9_needTwoCars 35 = .ok (.return_, 1) := by decide +kernel
