theorem dX5_init_0 : decode cX5_init 0 = .ok (.aload_n 0, 1) := by decide +kernel
theorem dX5_init_1 : decode cX5_init 1 = .ok (.invokespecial 1, 3) := by decide +kernel
theorem dX5_init_4 : decode cX5_init 4 = .ok (.aload_n 0, 1) := by decide +kernel
theorem dX5_init_5 : decode cX5_init 5 = .ok (.bipush 80, 2) := by decide +kernel
theorem dX5_init_7 : decode cX5_init 7 = .ok (.newarray .int, 2) := by decide +kernel
theorem dX5_init_9 : decode cX5_init 9 = .ok (.putfield 7, 3) := by decide +kernel
theorem dX5_init_12 : decode cX5_init 12 = .ok (.aload_n 0, 1) := by decide +kernel
theorem dX5_init_13 : decode cX5_init 13 = .ok (.bipush 80, 2) := by decide +kernel
theorem dX5_init_15 : decode cX5_init 15 = .ok (.newarray .int, 2) := by decide +kernel
theorem dX5_init_17 : decode cX5_init 17 = .ok (.putfield 13, 3) := by decide +kernel
theorem dX5_init_20 : decode cX5_init 20 = .ok (.aload_n 0, 1) := by decide +kernel
theorem dX5_init_21 : decode cX5_init 21 = .ok (.sipush 480, 3) := by decide +kernel
theorem dX5_init_24 : decode cX5_init 24 = .ok (.newarray .int, 2) := by decide +kernel
theorem dX5_init_26 : decode cX5_init 26 = .ok (.putfield 16, 3) := by decide +kernel
theorem dX5_init_29 : decode cX5_init 29 = .ok (.aload_n 0, 1) := by decide +kernel
theorem dX5_init_30 : decode cX5_init 30 = .ok (.sipush 160, 3) := by decide +kernel
theorem dX5_init_33 : decode cX5_init 33 = .ok (.newarray .int, 2) := by decide +kernel
theorem dX5_init_35 : decode cX5_init 35 = .ok (.putfield 19, 3) := by decide +kernel
theorem dX5_init_38 : decode cX5_init 38 = .ok (.aload_n 0, 1) := by decide +kernel
theorem dX5_init_39 : decode cX5_init 39 = .ok (.iconst 2, 1) := by decide +kernel
theorem dX5_init_40 : decode cX5_init 40 = .ok (.newarray .boolean, 2) := by decide +kernel
theorem dX5_init_42 : decode cX5_init 42 = .ok (.putfield 22, 3) := by decide +kernel
theorem dX5_init_45 : decode cX5_init 45 = .ok (.aload_n 0, 1) := by decide +kernel
theorem dX5_init_46 : decode cX5_init 46 = .ok (.bipush 60, 2) := by decide +kernel
theorem dX5_init_48 : decode cX5_init 48 = .ok (.newarray .int, 2) := by decide +kernel
theorem dX5_init_50 : decode cX5_init 50 = .ok (.putfield 26, 3) := by decide +kernel
theorem dX5_init_53 : decode cX5_init 53 = .ok (.aload_n 0, 1) := by decide +kernel
theorem dX5_init_54 : decode cX5_init 54 = .ok (.iconst 4, 1) := by decide +kernel
theorem dX5_init_55 : decode cX5_init 55 = .ok (.newarray .int, 2) := by decide +kernel
theorem dX5_init_57 : decode cX5_init 57 = .ok (.putfield 29, 3) := by decide +kernel
theorem dX5_init_60 : decode cX5_init 60 = .ok (.aload_n 0, 1) := by decide +kernel
theorem dX5_init_61 : decode cX5_init 61 = .ok (.getfield 7, 3) := by decide +kernel
theorem dX5_init_64 : decode cX5_init 64 = .ok (.iconst 0, 1) := by decide +kernel
theorem dX5_init_65 : decode cX5_init 65 = .ok (.bipush 90, 2) := by decide +kernel
theorem dX5_init_67 : decode cX5_init 67 = .ok (.iastore, 1) := by decide +kernel
theorem dX5_init_68 : decode cX5_init 68 = .ok (.aload_n 0, 1) := by decide +kernel
theorem dX5_init_69 : decode cX5_init 69 = .ok (.getfield 7, 3) := by decide +kernel
theorem dX5_init_72 : decode cX5_init 72 = .ok (.iconst 1, 1) := by decide +kernel
theorem dX5_init_73 : decode cX5_init 73 = .ok (.bipush 20, 2) := by decide +kernel
theorem dX5_init_75 : decode cX5_init 75 = .ok (.iastore, 1) := by decide +kernel
theorem dX5_init_76 : decode cX5_init 76 = .ok (.aload_n 0, 1) := by decide +kernel
theorem dX5_init_77 : decode cX5_init 77 = .ok (.getfield 7, 3) := by decide +kernel
theorem dX5_init_80 : decode cX5_init 80 = .ok (.iconst 2, 1) := by decide +kernel
theorem dX5_init_81 : decode cX5_init 81 = .ok (.iconst 5, 1) := by decide +kernel
theorem dX5_init_82 : decode cX5_init 82 = .ok (.iastore, 1) := by decide +kernel
theorem dX5_init_83 : decode cX5_init 83 = .ok (.aload_n 0, 1) := by decide +kernel
theorem dX5_init_84 : decode cX5_init 84 = .ok (.getfield 7, 3) := by decide +kernel
theorem dX5_init_87 : decode cX5_init 87 = .ok (.iconst 3, 1) := by decide +kernel
theorem dX5_init_88 : decode cX5_init 88 = .ok (.bipush 10, 2) := by decide +kernel
theorem dX5_init_90 : decode cX5_init 90 = .ok (.iastore, 1) := by decide +kernel
theorem dX5_init_91 : decode cX5_init 91 = .ok (.aload_n 0, 1) := by decide +kernel
theorem dX5_init_92 : decode cX5_init 92 = .ok (.getfield 7, 3) := by decide +kernel
theorem dX5_init_95 : decode cX5_init 95 = .ok (.iconst 4, 1) := by decide +kernel
theorem dX5_init_96 : decode cX5_init 96 = .ok (.bipush 24, 2) := by decide +kernel
theorem dX5_init_98 : decode cX5_init 98 = .ok (.iastore, 1) := by decide +kernel
theorem dX5_init_99 : decode cX5_init 99 = .ok (.aload_n 0, 1) := by decide +kernel
theorem dX5_init_100 : decode cX5_init 100 = .ok (.getfield 7, 3) := by decide +kernel
theorem dX5_init_103 : decode cX5_init 103 = .ok (.iconst 5, 1) := by decide +kernel
theorem dX5_init_104 : decode cX5_init 104 = .ok (.iconst 5, 1) := by decide +kernel
theorem dX5_init_105 : decode cX5_init 105 = .ok (.iastore, 1) := by decide +kernel
theorem dX5_init_106 : decode cX5_init 106 = .ok (.iconst 0, 1) := by decide +kernel
theorem dX5_init_107 : decode cX5_init 107 = .ok (.istore_n 1, 1) := by decide +kernel
theorem dX5_init_108 : decode cX5_init 108 = .ok (.iload_n 1, 1) := by decide +kernel
theorem dX5_init_109 : decode cX5_init 109 = .ok (.iconst 4, 1) := by decide +kernel
theorem dX5_init_110 : decode cX5_init 110 = .ok (.if_icmp .ge 33, 3) := by decide +kernel
theorem dX5_init_113 : decode cX5_init 113 = .ok (.aload_n 0, 1) := by decide +kernel
theorem dX5_init_114 : decode cX5_init 114 = .ok (.iload_n 1, 1) := by decide +kernel
theorem dX5_init_115 : decode cX5_init 115 = .ok (.iconst 0, 1) := by decide +kernel
theorem dX5_init_116 : decode cX5_init 116 = .ok (.bipush 90, 2) := by decide +kernel
theorem dX5_init_118 : decode cX5_init 118 = .ok (.invokevirtual 32, 3) := by decide +kernel
theorem dX5_init_121 : decode cX5_init 121 = .ok (.aload_n 0, 1) := by decide +kernel
theorem dX5_init_122 : decode cX5_init 122 = .ok (.iload_n 1, 1) := by decide +kernel
theorem dX5_init_123 : decode cX5_init 123 = .ok (.iconst 1, 1) := by decide +kernel
theorem dX5_init_124 : decode cX5_init 124 = .ok (.ldc 36, 2) := by decide +kernel
theorem dX5_init_126 : decode cX5_init 126 = .ok (.invokevirtual 32, 3) := by decide +kernel
theorem dX5_init_129 : decode cX5_init 129 = .ok (.aload_n 0, 1) := by decide +kernel
theorem dX5_init_130 : decode cX5_init 130 = .ok (.iload_n 1, 1) := by decide +kernel
theorem dX5_init_131 : decode cX5_init 131 = .ok (.iconst 2, 1) := by decide +kernel
theorem dX5_init_132 : decode cX5_init 132 = .ok (.ldc 36, 2) := by decide +kernel
theorem dX5_init_134 : decode cX5_init 134 = .ok (.invokevirtual 32, 3) := by decide +kernel
theorem dX5_init_137 : decode cX5_init 137 = .ok (.iinc 1 1, 3) := by decide +kernel
theorem dX5_init_140 : decode cX5_init 140 = .ok (.goto (-32), 3) := by decide +kernel
theorem dX5_init_143 : decode cX5_init 143 = .ok (.return_, 1) := by decide +kernel
theorem dX5_in_0 : decode cX5_in 0 = .ok (.iload_n 0, 1) := by decide +kernel
theorem dX5_in_1 : decode cX5_in 1 = .ok (.iload_n 1, 1) := by decide +kernel
theorem dX5_in_2 : decode cX5_in 2 = .ok (.if_icmp .lt 12, 3) := by decide +kernel
theorem dX5_in_5 : decode cX5_in 5 = .ok (.iload_n 0, 1) := by decide +kernel
theorem dX5_in_6 : decode cX5_in 6 = .ok (.iload_n 2, 1) := by decide +kernel
theorem dX5_in_7 : decode cX5_in 7 = .ok (.if_icmp .gt 7, 3) := by decide +kernel
theorem dX5_in_10 : decode cX5_in 10 = .ok (.iconst 1, 1) := by decide +kernel
theorem dX5_in_11 : decode cX5_in 11 = .ok (.goto 4, 3) := by decide +kernel
theorem dX5_in_14 : decode cX5_in 14 = .ok (.iconst 0, 1) := by decide +kernel
theorem dX5_in_15 : decode cX5_in 15 = .ok (.ireturn, 1) := by decide +kernel
theorem dX5_least_0 : decode cX5_least 0 = .ok (.iload_n 0, 1) := by decide +kernel
theorem dX5_least_1 : decode cX5_least 1 = .ok (.iload_n 1, 1) := by decide +kernel
theorem dX5_least_2 : decode cX5_least 2 = .ok (.if_icmp .ge 7, 3) := by decide +kernel
theorem dX5_least_5 : decode cX5_least 5 = .ok (.iload_n 0, 1) := by decide +kernel
theorem dX5_least_6 : decode cX5_least 6 = .ok (.goto 4, 3) := by decide +kernel
theorem dX5_least_9 : decode cX5_least 9 = .ok (.iload_n 1, 1) := by decide +kernel
theorem dX5_least_10 : decode cX5_least 10 = .ok (.ireturn, 1) := by decide +kernel
theorem dX5_record_0 : decode cX5_record 0 = .ok (.aload_n 0, 1) := by decide +kernel
theorem dX5_record_1 : decode cX5_record 1 = .ok (.getfield 37, 3) := by decide +kernel
theorem dX5_record_4 : decode cX5_record 4 = .ok (.bipush 6, 2) := by decide +kernel
theorem dX5_record_6 : decode cX5_record 6 = .ok (.if_icmp .ne 43, 3) := by decide +kernel
theorem dX5_record_9 : decode cX5_record 9 = .ok (.iconst 0, 1) := by decide +kernel
theorem dX5_record_10 : decode cX5_record 10 = .ok (.istore_n 1, 1) := by decide +kernel
theorem dX5_record_11 : decode cX5_record 11 = .ok (.iload_n 1, 1) := by decide +kernel
theorem dX5_record_12 : decode cX5_record 12 = .ok (.sipush 400, 3) := by decide +kernel
theorem dX5_record_15 : decode cX5_record 15 = .ok (.if_icmp .ge 24, 3) := by decide +kernel
theorem dX5_record_18 : decode cX5_record 18 = .ok (.aload_n 0, 1) := by decide +kernel
theorem dX5_record_19 : decode cX5_record 19 = .ok (.getfield 16, 3) := by decide +kernel
theorem dX5_record_22 : decode cX5_record 22 = .ok (.iload_n 1, 1) := by decide +kernel
theorem dX5_record_23 : decode cX5_record 23 = .ok (.aload_n 0, 1) := by decide +kernel
theorem dX5_record_24 : decode cX5_record 24 = .ok (.getfield 16, 3) := by decide +kernel
theorem dX5_record_27 : decode cX5_record 27 = .ok (.bipush 80, 2) := by decide +kernel
theorem dX5_record_29 : decode cX5_record 29 = .ok (.iload_n 1, 1) := by decide +kernel
theorem dX5_record_30 : decode cX5_record 30 = .ok (.iadd, 1) := by decide +kernel
theorem dX5_record_31 : decode cX5_record 31 = .ok (.iaload, 1) := by decide +kernel
theorem dX5_record_32 : decode cX5_record 32 = .ok (.iastore, 1) := by decide +kernel
theorem dX5_record_33 : decode cX5_record 33 = .ok (.iinc 1 1, 3) := by decide +kernel
theorem dX5_record_36 : decode cX5_record 36 = .ok (.goto (-25), 3) := by decide +kernel
theorem dX5_record_39 : decode cX5_record 39 = .ok (.aload_n 0, 1) := by decide +kernel
theorem dX5_record_40 : decode cX5_record 40 = .ok (.dup, 1) := by decide +kernel
theorem dX5_record_41 : decode cX5_record 41 = .ok (.getfield 37, 3) := by decide +kernel
theorem dX5_record_44 : decode cX5_record 44 = .ok (.iconst 1, 1) := by decide +kernel
theorem dX5_record_45 : decode cX5_record 45 = .ok (.isub, 1) := by decide +kernel
theorem dX5_record_46 : decode cX5_record 46 = .ok (.putfield 37, 3) := by decide +kernel
theorem dX5_record_49 : decode cX5_record 49 = .ok (.iconst 0, 1) := by decide +kernel
theorem dX5_record_50 : decode cX5_record 50 = .ok (.istore_n 1, 1) := by decide +kernel
theorem dX5_record_51 : decode cX5_record 51 = .ok (.iload_n 1, 1) := by decide +kernel
theorem dX5_record_52 : decode cX5_record 52 = .ok (.bipush 80, 2) := by decide +kernel
theorem dX5_record_54 : decode cX5_record 54 = .ok (.if_icmp .ge 29, 3) := by decide +kernel
theorem dX5_record_57 : decode cX5_record 57 = .ok (.aload_n 0, 1) := by decide +kernel
theorem dX5_record_58 : decode cX5_record 58 = .ok (.getfield 16, 3) := by decide +kernel
theorem dX5_record_61 : decode cX5_record 61 = .ok (.bipush 80, 2) := by decide +kernel
theorem dX5_record_63 : decode cX5_record 63 = .ok (.aload_n 0, 1) := by decide +kernel
theorem dX5_record_64 : decode cX5_record 64 = .ok (.getfield 37, 3) := by decide +kernel
theorem dX5_record_67 : decode cX5_record 67 = .ok (.imul, 1) := by decide +kernel
theorem dX5_record_68 : decode cX5_record 68 = .ok (.iload_n 1, 1) := by decide +kernel
theorem dX5_record_69 : decode cX5_record 69 = .ok (.iadd, 1) := by decide +kernel
theorem dX5_record_70 : decode cX5_record 70 = .ok (.aload_n 0, 1) := by decide +kernel
theorem dX5_record_71 : decode cX5_record 71 = .ok (.getfield 7, 3) := by decide +kernel
theorem dX5_record_74 : decode cX5_record 74 = .ok (.iload_n 1, 1) := by decide +kernel
theorem dX5_record_75 : decode cX5_record 75 = .ok (.iaload, 1) := by decide +kernel
theorem dX5_record_76 : decode cX5_record 76 = .ok (.iastore, 1) := by decide +kernel
theorem dX5_record_77 : decode cX5_record 77 = .ok (.iinc 1 1, 3) := by decide +kernel
theorem dX5_record_80 : decode cX5_record 80 = .ok (.goto (-29), 3) := by decide +kernel
theorem dX5_record_83 : decode cX5_record 83 = .ok (.aload_n 0, 1) := by decide +kernel
theorem dX5_record_84 : decode cX5_record 84 = .ok (.dup, 1) := by decide +kernel
theorem dX5_record_85 : decode cX5_record 85 = .ok (.getfield 37, 3) := by decide +kernel
theorem dX5_record_88 : decode cX5_record 88 = .ok (.iconst 1, 1) := by decide +kernel
theorem dX5_record_89 : decode cX5_record 89 = .ok (.iadd, 1) := by decide +kernel
theorem dX5_record_90 : decode cX5_record 90 = .ok (.putfield 37, 3) := by decide +kernel
theorem dX5_record_93 : decode cX5_record 93 = .ok (.return_, 1) := by decide +kernel
theorem dX5_tideAt_0 : decode cX5_tideAt 0 = .ok (.iconst 0, 1) := by decide +kernel
theorem dX5_tideAt_1 : decode cX5_tideAt 1 = .ok (.istore_n 2, 1) := by decide +kernel
theorem dX5_tideAt_2 : decode cX5_tideAt 2 = .ok (.iload_n 1, 1) := by decide +kernel
theorem dX5_tideAt_3 : decode cX5_tideAt 3 = .ok (.bipush 6, 2) := by decide +kernel
theorem dX5_tideAt_5 : decode cX5_tideAt 5 = .ok (.irem, 1) := by decide +kernel
theorem dX5_tideAt_6 : decode cX5_tideAt 6 = .ok (.tableswitch 54 0 5 #[38, 43, 54, 48, 54, 43], 38) := by decide +kernel
theorem dX5_tideAt_44 : decode cX5_tideAt 44 = .ok (.iconst 0, 1) := by decide +kernel
theorem dX5_tideAt_45 : decode cX5_tideAt 45 = .ok (.istore_n 2, 1) := by decide +kernel
theorem dX5_tideAt_46 : decode cX5_tideAt 46 = .ok (.goto 17, 3) := by decide +kernel
theorem dX5_tideAt_49 : decode cX5_tideAt 49 = .ok (.iconst 5, 1) := by decide +kernel
theorem dX5_tideAt_50 : decode cX5_tideAt 50 = .ok (.istore_n 2, 1) := by decide +kernel
theorem dX5_tideAt_51 : decode cX5_tideAt 51 = .ok (.goto 12, 3) := by decide +kernel
theorem dX5_tideAt_54 : decode cX5_tideAt 54 = .ok (.bipush 10, 2) := by decide +kernel
theorem dX5_tideAt_56 : decode cX5_tideAt 56 = .ok (.istore_n 2, 1) := by decide +kernel
theorem dX5_tideAt_57 : decode cX5_tideAt 57 = .ok (.goto 6, 3) := by decide +kernel
theorem dX5_tideAt_60 : decode cX5_tideAt 60 = .ok (.bipush 9, 2) := by decide +kernel
theorem dX5_tideAt_62 : decode cX5_tideAt 62 = .ok (.istore_n 2, 1) := by decide +kernel
theorem dX5_tideAt_63 : decode cX5_tideAt 63 = .ok (.iload_n 1, 1) := by decide +kernel
theorem dX5_tideAt_64 : decode cX5_tideAt 64 = .ok (.bipush 12, 2) := by decide +kernel
theorem dX5_tideAt_66 : decode cX5_tideAt 66 = .ok (.irem, 1) := by decide +kernel
theorem dX5_tideAt_67 : decode cX5_tideAt 67 = .ok (.bipush 6, 2) := by decide +kernel
theorem dX5_tideAt_69 : decode cX5_tideAt 69 = .ok (.if_icmp .ge 7, 3) := by decide +kernel
theorem dX5_tideAt_72 : decode cX5_tideAt 72 = .ok (.iload_n 2, 1) := by decide +kernel
theorem dX5_tideAt_73 : decode cX5_tideAt 73 = .ok (.goto 5, 3) := by decide +kernel
theorem dX5_tideAt_76 : decode cX5_tideAt 76 = .ok (.iload_n 2, 1) := by decide +kernel
theorem dX5_tideAt_77 : decode cX5_tideAt 77 = .ok (.ineg, 1) := by decide +kernel
theorem dX5_tideAt_78 : decode cX5_tideAt 78 = .ok (.aload_n 0, 1) := by decide +kernel
theorem dX5_tideAt_79 : decode cX5_tideAt 79 = .ok (.getfield 7, 3) := by decide +kernel
theorem dX5_tideAt_82 : decode cX5_tideAt 82 = .ok (.iconst 1, 1) := by decide +kernel
theorem dX5_tideAt_83 : decode cX5_tideAt 83 = .ok (.iaload, 1) := by decide +kernel
theorem dX5_tideAt_84 : decode cX5_tideAt 84 = .ok (.imul, 1) := by decide +kernel
theorem dX5_tideAt_85 : decode cX5_tideAt 85 = .ok (.bipush 10, 2) := by decide +kernel
theorem dX5_tideAt_87 : decode cX5_tideAt 87 = .ok (.idiv, 1) := by decide +kernel
theorem dX5_tideAt_88 : decode cX5_tideAt 88 = .ok (.ireturn, 1) := by decide +kernel
theorem dX5_tideNow_0 : decode cX5_tideNow 0 = .ok (.aload_n 0, 1) := by decide +kernel
theorem dX5_tideNow_1 : decode cX5_tideNow 1 = .ok (.aload_n 0, 1) := by decide +kernel
theorem dX5_tideNow_2 : decode cX5_tideNow 2 = .ok (.getfield 7, 3) := by decide +kernel
theorem dX5_tideNow_5 : decode cX5_tideNow 5 = .ok (.bipush 6, 2) := by decide +kernel
theorem dX5_tideNow_7 : decode cX5_tideNow 7 = .ok (.iaload, 1) := by decide +kernel
theorem dX5_tideNow_8 : decode cX5_tideNow 8 = .ok (.invokevirtual 41, 3) := by decide +kernel
theorem dX5_tideNow_11 : decode cX5_tideNow 11 = .ok (.ireturn, 1) := by decide +kernel
theorem dX5_ofTanker_0 : decode cX5_ofTanker 0 = .ok (.aload_n 0, 1) := by decide +kernel
theorem dX5_ofTanker_1 : decode cX5_ofTanker 1 = .ok (.getfield 7, 3) := by decide +kernel
theorem dX5_ofTanker_4 : decode cX5_ofTanker 4 = .ok (.bipush 50, 2) := by decide +kernel
theorem dX5_ofTanker_6 : decode cX5_ofTanker 6 = .ok (.iconst 5, 1) := by decide +kernel
theorem dX5_ofTanker_7 : decode cX5_ofTanker 7 = .ok (.iload_n 1, 1) := by decide +kernel
theorem dX5_ofTanker_8 : decode cX5_ofTanker 8 = .ok (.imul, 1) := by decide +kernel
theorem dX5_ofTanker_9 : decode cX5_ofTanker 9 = .ok (.iadd, 1) := by decide +kernel
theorem dX5_ofTanker_10 : decode cX5_ofTanker 10 = .ok (.iload_n 2, 1) := by decide +kernel
theorem dX5_ofTanker_11 : decode cX5_ofTanker 11 = .ok (.iadd, 1) := by decide +kernel
theorem dX5_ofTanker_12 : decode cX5_ofTanker 12 = .ok (.iaload, 1) := by decide +kernel
theorem dX5_ofTanker_13 : decode cX5_ofTanker 13 = .ok (.ireturn, 1) := by decide +kernel
theorem dX5_setTanker_0 : decode cX5_setTanker 0 = .ok (.aload_n 0, 1) := by decide +kernel
theorem dX5_setTanker_1 : decode cX5_setTanker 1 = .ok (.getfield 7, 3) := by decide +kernel
theorem dX5_setTanker_4 : decode cX5_setTanker 4 = .ok (.bipush 50, 2) := by decide +kernel
theorem dX5_setTanker_6 : decode cX5_setTanker 6 = .ok (.iconst 5, 1) := by decide +kernel
theorem dX5_setTanker_7 : decode cX5_setTanker 7 = .ok (.iload_n 1, 1) := by decide +kernel
theorem dX5_setTanker_8 : decode cX5_setTanker 8 = .ok (.imul, 1) := by decide +kernel
theorem dX5_setTanker_9 : decode cX5_setTanker 9 = .ok (.iadd, 1) := by decide +kernel
theorem dX5_setTanker_10 : decode cX5_setTanker 10 = .ok (.iload_n 2, 1) := by decide +kernel
theorem dX5_setTanker_11 : decode cX5_setTanker 11 = .ok (.iadd, 1) := by decide +kernel
theorem dX5_setTanker_12 : decode cX5_setTanker 12 = .ok (.iload_n 3, 1) := by decide +kernel
theorem dX5_setTanker_13 : decode cX5_setTanker 13 = .ok (.iastore, 1) := by decide +kernel
theorem dX5_setTanker_14 : decode cX5_setTanker 14 = .ok (.return_, 1) := by decide +kernel
theorem dX5_unitsOf_0 : decode cX5_unitsOf 0 = .ok (.iconst 0, 1) := by decide +kernel
theorem dX5_unitsOf_1 : decode cX5_unitsOf 1 = .ok (.istore_n 2, 1) := by decide +kernel
theorem dX5_unitsOf_2 : decode cX5_unitsOf 2 = .ok (.iconst 0, 1) := by decide +kernel
theorem dX5_unitsOf_3 : decode cX5_unitsOf 3 = .ok (.istore_n 3, 1) := by decide +kernel
theorem dX5_unitsOf_4 : decode cX5_unitsOf 4 = .ok (.iload_n 3, 1) := by decide +kernel
theorem dX5_unitsOf_5 : decode cX5_unitsOf 5 = .ok (.iconst 4, 1) := by decide +kernel
theorem dX5_unitsOf_6 : decode cX5_unitsOf 6 = .ok (.if_icmp .ge 18, 3) := by decide +kernel
theorem dX5_unitsOf_9 : decode cX5_unitsOf 9 = .ok (.iload_n 2, 1) := by decide +kernel
theorem dX5_unitsOf_10 : decode cX5_unitsOf 10 = .ok (.aload_n 0, 1) := by decide +kernel
theorem dX5_unitsOf_11 : decode cX5_unitsOf 11 = .ok (.iload_n 1, 1) := by decide +kernel
theorem dX5_unitsOf_12 : decode cX5_unitsOf 12 = .ok (.iload_n 3, 1) := by decide +kernel
theorem dX5_unitsOf_13 : decode cX5_unitsOf 13 = .ok (.invokevirtual 45, 3) := by decide +kernel
theorem dX5_unitsOf_16 : decode cX5_unitsOf 16 = .ok (.iadd, 1) := by decide +kernel
theorem dX5_unitsOf_17 : decode cX5_unitsOf 17 = .ok (.istore_n 2, 1) := by decide +kernel
theorem dX5_unitsOf_18 : decode cX5_unitsOf 18 = .ok (.iinc 3 1, 3) := by decide +kernel
theorem dX5_unitsOf_21 : decode cX5_unitsOf 21 = .ok (.goto (-17), 3) := by decide +kernel
theorem dX5_unitsOf_24 : decode cX5_unitsOf 24 = .ok (.iload_n 2, 1) := by decide +kernel
theorem dX5_unitsOf_25 : decode cX5_unitsOf 25 = .ok (.ireturn, 1) := by decide +kernel
theorem dX5_draughtOf_0 : decode cX5_draughtOf 0 = .ok (.bipush 40, 2) := by decide +kernel
theorem dX5_draughtOf_2 : decode cX5_draughtOf 2 = .ok (.aload_n 0, 1) := by decide +kernel
theorem dX5_draughtOf_3 : decode cX5_draughtOf 3 = .ok (.iload_n 1, 1) := by decide +kernel
theorem dX5_draughtOf_4 : decode cX5_draughtOf 4 = .ok (.invokevirtual 49, 3) := by decide +kernel
theorem dX5_draughtOf_7 : decode cX5_draughtOf 7 = .ok (.bipush 20, 2) := by decide +kernel
theorem dX5_draughtOf_9 : decode cX5_draughtOf 9 = .ok (.idiv, 1) := by decide +kernel
theorem dX5_draughtOf_10 : decode cX5_draughtOf 10 = .ok (.iadd, 1) := by decide +kernel
theorem dX5_draughtOf_11 : decode cX5_draughtOf 11 = .ok (.ireturn, 1) := by decide +kernel
theorem dX5_heightOf_0 : decode cX5_heightOf 0 = .ok (.bipush 100, 2) := by decide +kernel
theorem dX5_heightOf_2 : decode cX5_heightOf 2 = .ok (.aload_n 0, 1) := by decide +kernel
theorem dX5_heightOf_3 : decode cX5_heightOf 3 = .ok (.invokevirtual 52, 3) := by decide +kernel
theorem dX5_heightOf_6 : decode cX5_heightOf 6 = .ok (.iadd, 1) := by decide +kernel
theorem dX5_heightOf_7 : decode cX5_heightOf 7 = .ok (.aload_n 0, 1) := by decide +kernel
theorem dX5_heightOf_8 : decode cX5_heightOf 8 = .ok (.iload_n 1, 1) := by decide +kernel
theorem dX5_heightOf_9 : decode cX5_heightOf 9 = .ok (.invokevirtual 56, 3) := by decide +kernel
theorem dX5_heightOf_12 : decode cX5_heightOf 12 = .ok (.isub, 1) := by decide +kernel
theorem dX5_heightOf_13 : decode cX5_heightOf 13 = .ok (.ireturn, 1) := by decide +kernel
theorem dX5_floats_0 : decode cX5_floats 0 = .ok (.aload_n 0, 1) := by decide +kernel
theorem dX5_floats_1 : decode cX5_floats 1 = .ok (.getfield 7, 3) := by decide +kernel
theorem dX5_floats_4 : decode cX5_floats 4 = .ok (.iconst 0, 1) := by decide +kernel
theorem dX5_floats_5 : decode cX5_floats 5 = .ok (.iaload, 1) := by decide +kernel
theorem dX5_floats_6 : decode cX5_floats 6 = .ok (.aload_n 0, 1) := by decide +kernel
theorem dX5_floats_7 : decode cX5_floats 7 = .ok (.iload_n 2, 1) := by decide +kernel
theorem dX5_floats_8 : decode cX5_floats 8 = .ok (.invokevirtual 41, 3) := by decide +kernel
theorem dX5_floats_11 : decode cX5_floats 11 = .ok (.iadd, 1) := by decide +kernel
theorem dX5_floats_12 : decode cX5_floats 12 = .ok (.aload_n 0, 1) := by decide +kernel
theorem dX5_floats_13 : decode cX5_floats 13 = .ok (.iload_n 1, 1) := by decide +kernel
theorem dX5_floats_14 : decode cX5_floats 14 = .ok (.invokevirtual 56, 3) := by decide +kernel
theorem dX5_floats_17 : decode cX5_floats 17 = .ok (.aload_n 0, 1) := by decide +kernel
theorem dX5_floats_18 : decode cX5_floats 18 = .ok (.getfield 7, 3) := by decide +kernel
theorem dX5_floats_21 : decode cX5_floats 21 = .ok (.iconst 2, 1) := by decide +kernel
theorem dX5_floats_22 : decode cX5_floats 22 = .ok (.iaload, 1) := by decide +kernel
theorem dX5_floats_23 : decode cX5_floats 23 = .ok (.iadd, 1) := by decide +kernel
theorem dX5_floats_24 : decode cX5_floats 24 = .ok (.if_icmp .lt 7, 3) := by decide +kernel
theorem dX5_floats_27 : decode cX5_floats 27 = .ok (.iconst 1, 1) := by decide +kernel
theorem dX5_floats_28 : decode cX5_floats 28 = .ok (.goto 4, 3) := by decide +kernel
theorem dX5_floats_31 : decode cX5_floats 31 = .ok (.iconst 0, 1) := by decide +kernel
theorem dX5_floats_32 : decode cX5_floats 32 = .ok (.ireturn, 1) := by decide +kernel
theorem dX5_isTanker_0 : decode cX5_isTanker 0 = .ok (.iload_n 1, 1) := by decide +kernel
theorem dX5_isTanker_1 : decode cX5_isTanker 1 = .ok (.ifCond .ne 22, 3) := by decide +kernel
theorem dX5_isTanker_4 : decode cX5_isTanker 4 = .ok (.aload_n 0, 1) := by decide +kernel
theorem dX5_isTanker_5 : decode cX5_isTanker 5 = .ok (.getfield 7, 3) := by decide +kernel
theorem dX5_isTanker_8 : decode cX5_isTanker 8 = .ok (.bipush 13, 2) := by decide +kernel
theorem dX5_isTanker_10 : decode cX5_isTanker 10 = .ok (.iaload, 1) := by decide +kernel
theorem dX5_isTanker_11 : decode cX5_isTanker 11 = .ok (.iconst 1, 1) := by decide +kernel
theorem dX5_isTanker_12 : decode cX5_isTanker 12 = .ok (.if_icmp .ne 7, 3) := by decide +kernel
theorem dX5_isTanker_15 : decode cX5_isTanker 15 = .ok (.iconst 1, 1) := by decide +kernel
theorem dX5_isTanker_16 : decode cX5_isTanker 16 = .ok (.goto 19, 3) := by decide +kernel
theorem dX5_isTanker_19 : decode cX5_isTanker 19 = .ok (.iconst 0, 1) := by decide +kernel
theorem dX5_isTanker_20 : decode cX5_isTanker 20 = .ok (.goto 15, 3) := by decide +kernel
theorem dX5_isTanker_23 : decode cX5_isTanker 23 = .ok (.iload_n 1, 1) := by decide +kernel
theorem dX5_isTanker_24 : decode cX5_isTanker 24 = .ok (.iconst 1, 1) := by decide +kernel
theorem dX5_isTanker_25 : decode cX5_isTanker 25 = .ok (.aload_n 0, 1) := by decide +kernel
theorem dX5_isTanker_26 : decode cX5_isTanker 26 = .ok (.getfield 7, 3) := by decide +kernel
theorem dX5_isTanker_29 : decode cX5_isTanker 29 = .ok (.bipush 12, 2) := by decide +kernel
theorem dX5_isTanker_31 : decode cX5_isTanker 31 = .ok (.iaload, 1) := by decide +kernel
theorem dX5_isTanker_32 : decode cX5_isTanker 32 = .ok (.invokestatic 59, 3) := by decide +kernel
theorem dX5_isTanker_35 : decode cX5_isTanker 35 = .ok (.ireturn, 1) := by decide +kernel
theorem dX5_hoseOf_0 : decode cX5_hoseOf 0 = .ok (.aload_n 0, 1) := by decide +kernel
theorem dX5_hoseOf_1 : decode cX5_hoseOf 1 = .ok (.getfield 7, 3) := by decide +kernel
theorem dX5_hoseOf_4 : decode cX5_hoseOf 4 = .ok (.bipush 26, 2) := by decide +kernel
theorem dX5_hoseOf_6 : decode cX5_hoseOf 6 = .ok (.bipush 6, 2) := by decide +kernel
theorem dX5_hoseOf_8 : decode cX5_hoseOf 8 = .ok (.iload_n 1, 1) := by decide +kernel
theorem dX5_hoseOf_9 : decode cX5_hoseOf 9 = .ok (.imul, 1) := by decide +kernel
theorem dX5_hoseOf_10 : decode cX5_hoseOf 10 = .ok (.iadd, 1) := by decide +kernel
theorem dX5_hoseOf_11 : decode cX5_hoseOf 11 = .ok (.iload_n 2, 1) := by decide +kernel
theorem dX5_hoseOf_12 : decode cX5_hoseOf 12 = .ok (.iadd, 1) := by decide +kernel
theorem dX5_hoseOf_13 : decode cX5_hoseOf 13 = .ok (.iaload, 1) := by decide +kernel
theorem dX5_hoseOf_14 : decode cX5_hoseOf 14 = .ok (.ireturn, 1) := by decide +kernel
theorem dX5_setHose_0 : decode cX5_setHose 0 = .ok (.aload_n 0, 1) := by decide +kernel
theorem dX5_setHose_1 : decode cX5_setHose 1 = .ok (.getfield 7, 3) := by decide +kernel
theorem dX5_setHose_4 : decode cX5_setHose 4 = .ok (.bipush 26, 2) := by decide +kernel
theorem dX5_setHose_6 : decode cX5_setHose 6 = .ok (.bipush 6, 2) := by decide +kernel
theorem dX5_setHose_8 : decode cX5_setHose 8 = .ok (.iload_n 1, 1) := by decide +kernel
theorem dX5_setHose_9 : decode cX5_setHose 9 = .ok (.imul, 1) := by decide +kernel
theorem dX5_setHose_10 : decode cX5_setHose 10 = .ok (.iadd, 1) := by decide +kernel
theorem dX5_setHose_11 : decode cX5_setHose 11 = .ok (.iload_n 2, 1) := by decide +kernel
theorem dX5_setHose_12 : decode cX5_setHose 12 = .ok (.iadd, 1) := by decide +kernel
theorem dX5_setHose_13 : decode cX5_setHose 13 = .ok (.iload_n 3, 1) := by decide +kernel
theorem dX5_setHose_14 : decode cX5_setHose 14 = .ok (.iastore, 1) := by decide +kernel
theorem dX5_setHose_15 : decode cX5_setHose 15 = .ok (.return_, 1) := by decide +kernel
theorem dX5_isHose_0 : decode cX5_isHose 0 = .ok (.iload_n 0, 1) := by decide +kernel
theorem dX5_isHose_1 : decode cX5_isHose 1 = .ok (.iconst 0, 1) := by decide +kernel
theorem dX5_isHose_2 : decode cX5_isHose 2 = .ok (.iconst 3, 1) := by decide +kernel
theorem dX5_isHose_3 : decode cX5_isHose 3 = .ok (.invokestatic 59, 3) := by decide +kernel
theorem dX5_isHose_6 : decode cX5_isHose 6 = .ok (.ireturn, 1) := by decide +kernel
theorem dX5_isGrade_0 : decode cX5_isGrade 0 = .ok (.iload_n 0, 1) := by decide +kernel
theorem dX5_isGrade_1 : decode cX5_isGrade 1 = .ok (.iconst 0, 1) := by decide +kernel
theorem dX5_isGrade_2 : decode cX5_isGrade 2 = .ok (.iconst 3, 1) := by decide +kernel
theorem dX5_isGrade_3 : decode cX5_isGrade 3 = .ok (.invokestatic 59, 3) := by decide +kernel
theorem dX5_isGrade_6 : decode cX5_isGrade 6 = .ok (.ireturn, 1) := by decide +kernel
theorem dX5_isConnected_0 : decode cX5_isConnected 0 = .ok (.aload_n 0, 1) := by decide +kernel
theorem dX5_isConnected_1 : decode cX5_isConnected 1 = .ok (.iload_n 1, 1) := by decide +kernel
theorem dX5_isConnected_2 : decode cX5_isConnected 2 = .ok (.iconst 2, 1) := by decide +kernel
theorem dX5_isConnected_3 : decode cX5_isConnected 3 = .ok (.invokevirtual 63, 3) := by decide +kernel
theorem dX5_isConnected_6 : decode cX5_isConnected 6 = .ok (.ifCond .lt 7, 3) := by decide +kernel
theorem dX5_isConnected_9 : decode cX5_isConnected 9 = .ok (.iconst 1, 1) := by decide +kernel
theorem dX5_isConnected_10 : decode cX5_isConnected 10 = .ok (.goto 4, 3) := by decide +kernel
theorem dX5_isConnected_13 : decode cX5_isConnected 13 = .ok (.iconst 0, 1) := by decide +kernel
theorem dX5_isConnected_14 : decode cX5_isConnected 14 = .ok (.ireturn, 1) := by decide +kernel
theorem dX5_connected_0 : decode cX5_connected 0 = .ok (.iconst 0, 1) := by decide +kernel
theorem dX5_connected_1 : decode cX5_connected 1 = .ok (.istore_n 1, 1) := by decide +kernel
theorem dX5_connected_2 : decode cX5_connected 2 = .ok (.iconst 0, 1) := by decide +kernel
theorem dX5_connected_3 : decode cX5_connected 3 = .ok (.istore_n 2, 1) := by decide +kernel
theorem dX5_connected_4 : decode cX5_connected 4 = .ok (.iload_n 2, 1) := by decide +kernel
theorem dX5_connected_5 : decode cX5_connected 5 = .ok (.iconst 4, 1) := by decide +kernel
theorem dX5_connected_6 : decode cX5_connected 6 = .ok (.if_icmp .ge 25, 3) := by decide +kernel
theorem dX5_connected_9 : decode cX5_connected 9 = .ok (.iload_n 1, 1) := by decide +kernel
theorem dX5_connected_10 : decode cX5_connected 10 = .ok (.aload_n 0, 1) := by decide +kernel
theorem dX5_connected_11 : decode cX5_connected 11 = .ok (.iload_n 2, 1) := by decide +kernel
theorem dX5_connected_12 : decode cX5_connected 12 = .ok (.invokevirtual 66, 3) := by decide +kernel
theorem dX5_connected_15 : decode cX5_connected 15 = .ok (.ifCond .eq 7, 3) := by decide +kernel
theorem dX5_connected_18 : decode cX5_connected 18 = .ok (.iconst 1, 1) := by decide +kernel
theorem dX5_connected_19 : decode cX5_connected 19 = .ok (.goto 4, 3) := by decide +kernel
theorem dX5_connected_22 : decode cX5_connected 22 = .ok (.iconst 0, 1) := by decide +kernel
theorem dX5_connected_23 : decode cX5_connected 23 = .ok (.iadd, 1) := by decide +kernel
theorem dX5_connected_24 : decode cX5_connected 24 = .ok (.istore_n 1, 1) := by decide +kernel
theorem dX5_connected_25 : decode cX5_connected 25 = .ok (.iinc 2 1, 3) := by decide +kernel
theorem dX5_connected_28 : decode cX5_connected 28 = .ok (.goto (-24), 3) := by decide +kernel
theorem dX5_connected_31 : decode cX5_connected 31 = .ok (.iload_n 1, 1) := by decide +kernel
theorem dX5_connected_32 : decode cX5_connected 32 = .ok (.ireturn, 1) := by decide +kernel
theorem dX5_burst_0 : decode cX5_burst 0 = .ok (.iconst 0, 1) := by decide +kernel
theorem dX5_burst_1 : decode cX5_burst 1 = .ok (.istore_n 1, 1) := by decide +kernel
theorem dX5_burst_2 : decode cX5_burst 2 = .ok (.iconst 0, 1) := by decide +kernel
theorem dX5_burst_3 : decode cX5_burst 3 = .ok (.istore_n 2, 1) := by decide +kernel
theorem dX5_burst_4 : decode cX5_burst 4 = .ok (.iload_n 2, 1) := by decide +kernel
theorem dX5_burst_5 : decode cX5_burst 5 = .ok (.iconst 4, 1) := by decide +kernel
theorem dX5_burst_6 : decode cX5_burst 6 = .ok (.if_icmp .ge 18, 3) := by decide +kernel
theorem dX5_burst_9 : decode cX5_burst 9 = .ok (.iload_n 1, 1) := by decide +kernel
theorem dX5_burst_10 : decode cX5_burst 10 = .ok (.aload_n 0, 1) := by decide +kernel
theorem dX5_burst_11 : decode cX5_burst 11 = .ok (.iload_n 2, 1) := by decide +kernel
theorem dX5_burst_12 : decode cX5_burst 12 = .ok (.iconst 3, 1) := by decide +kernel
theorem dX5_burst_13 : decode cX5_burst 13 = .ok (.invokevirtual 63, 3) := by decide +kernel
theorem dX5_burst_16 : decode cX5_burst 16 = .ok (.iadd, 1) := by decide +kernel
theorem dX5_burst_17 : decode cX5_burst 17 = .ok (.istore_n 1, 1) := by decide +kernel
theorem dX5_burst_18 : decode cX5_burst 18 = .ok (.iinc 2 1, 3) := by decide +kernel
theorem dX5_burst_21 : decode cX5_burst 21 = .ok (.goto (-17), 3) := by decide +kernel
theorem dX5_burst_24 : decode cX5_burst 24 = .ok (.iload_n 1, 1) := by decide +kernel
theorem dX5_burst_25 : decode cX5_burst 25 = .ok (.ireturn, 1) := by decide +kernel
theorem dX5_spoiltInAll_0 : decode cX5_spoiltInAll 0 = .ok (.iconst 0, 1) := by decide +kernel
theorem dX5_spoiltInAll_1 : decode cX5_spoiltInAll 1 = .ok (.istore_n 1, 1) := by decide +kernel
theorem dX5_spoiltInAll_2 : decode cX5_spoiltInAll 2 = .ok (.iconst 0, 1) := by decide +kernel
theorem dX5_spoiltInAll_3 : decode cX5_spoiltInAll 3 = .ok (.istore_n 2, 1) := by decide +kernel
theorem dX5_spoiltInAll_4 : decode cX5_spoiltInAll 4 = .ok (.iload_n 2, 1) := by decide +kernel
theorem dX5_spoiltInAll_5 : decode cX5_spoiltInAll 5 = .ok (.iconst 4, 1) := by decide +kernel
theorem dX5_spoiltInAll_6 : decode cX5_spoiltInAll 6 = .ok (.if_icmp .ge 21, 3) := by decide +kernel
theorem dX5_spoiltInAll_9 : decode cX5_spoiltInAll 9 = .ok (.iload_n 1, 1) := by decide +kernel
theorem dX5_spoiltInAll_10 : decode cX5_spoiltInAll 10 = .ok (.aload_n 0, 1) := by decide +kernel
theorem dX5_spoiltInAll_11 : decode cX5_spoiltInAll 11 = .ok (.getfield 7, 3) := by decide +kernel
theorem dX5_spoiltInAll_14 : decode cX5_spoiltInAll 14 = .ok (.bipush 18, 2) := by decide +kernel
theorem dX5_spoiltInAll_16 : decode cX5_spoiltInAll 16 = .ok (.iload_n 2, 1) := by decide +kernel
theorem dX5_spoiltInAll_17 : decode cX5_spoiltInAll 17 = .ok (.iadd, 1) := by decide +kernel
theorem dX5_spoiltInAll_18 : decode cX5_spoiltInAll 18 = .ok (.iaload, 1) := by decide +kernel
theorem dX5_spoiltInAll_19 : decode cX5_spoiltInAll 19 = .ok (.iadd, 1) := by decide +kernel
theorem dX5_spoiltInAll_20 : decode cX5_spoiltInAll 20 = .ok (.istore_n 1, 1) := by decide +kernel
theorem dX5_spoiltInAll_21 : decode cX5_spoiltInAll 21 = .ok (.iinc 2 1, 3) := by decide +kernel
theorem dX5_spoiltInAll_24 : decode cX5_spoiltInAll 24 = .ok (.goto (-20), 3) := by decide +kernel
theorem dX5_spoiltInAll_27 : decode cX5_spoiltInAll 27 = .ok (.iload_n 1, 1) := by decide +kernel
theorem dX5_spoiltInAll_28 : decode cX5_spoiltInAll 28 = .ok (.ireturn, 1) := by decide +kernel
theorem dX5_bursts_0 : decode cX5_bursts 0 = .ok (.aload_n 0, 1) := by decide +kernel
theorem dX5_bursts_1 : decode cX5_bursts 1 = .ok (.iload_n 1, 1) := by decide +kernel
theorem dX5_bursts_2 : decode cX5_bursts 2 = .ok (.iconst 2, 1) := by decide +kernel
theorem dX5_bursts_3 : decode cX5_bursts 3 = .ok (.invokevirtual 63, 3) := by decide +kernel
theorem dX5_bursts_6 : decode cX5_bursts 6 = .ok (.istore_n 2, 1) := by decide +kernel
theorem dX5_bursts_7 : decode cX5_bursts 7 = .ok (.aload_n 0, 1) := by decide +kernel
theorem dX5_bursts_8 : decode cX5_bursts 8 = .ok (.getfield 7, 3) := by decide +kernel
theorem dX5_bursts_11 : decode cX5_bursts 11 = .ok (.iconst 3, 1) := by decide +kernel
theorem dX5_bursts_12 : decode cX5_bursts 12 = .ok (.iaload, 1) := by decide +kernel
theorem dX5_bursts_13 : decode cX5_bursts 13 = .ok (.aload_n 0, 1) := by decide +kernel
theorem dX5_bursts_14 : decode cX5_bursts 14 = .ok (.iconst 0, 1) := by decide +kernel
theorem dX5_bursts_15 : decode cX5_bursts 15 = .ok (.iload_n 2, 1) := by decide +kernel
theorem dX5_bursts_16 : decode cX5_bursts 16 = .ok (.invokevirtual 45, 3) := by decide +kernel
theorem dX5_bursts_19 : decode cX5_bursts 19 = .ok (.invokestatic 70, 3) := by decide +kernel
theorem dX5_bursts_22 : decode cX5_bursts 22 = .ok (.istore_n 3, 1) := by decide +kernel
theorem dX5_bursts_23 : decode cX5_bursts 23 = .ok (.aload_n 0, 1) := by decide +kernel
theorem dX5_bursts_24 : decode cX5_bursts 24 = .ok (.getfield 7, 3) := by decide +kernel
theorem dX5_bursts_27 : decode cX5_bursts 27 = .ok (.bipush 7, 2) := by decide +kernel
theorem dX5_bursts_29 : decode cX5_bursts 29 = .ok (.iaload, 1) := by decide +kernel
theorem dX5_bursts_30 : decode cX5_bursts 30 = .ok (.iconst 1, 1) := by decide +kernel
theorem dX5_bursts_31 : decode cX5_bursts 31 = .ok (.if_icmp .ne 21, 3) := by decide +kernel
theorem dX5_bursts_34 : decode cX5_bursts 34 = .ok (.iload_n 3, 1) := by decide +kernel
theorem dX5_bursts_35 : decode cX5_bursts 35 = .ok (.sipush 200, 3) := by decide +kernel
theorem dX5_bursts_38 : decode cX5_bursts 38 = .ok (.aload_n 0, 1) := by decide +kernel
theorem dX5_bursts_39 : decode cX5_bursts 39 = .ok (.getfield 7, 3) := by decide +kernel
theorem dX5_bursts_42 : decode cX5_bursts 42 = .ok (.bipush 8, 2) := by decide +kernel
theorem dX5_bursts_44 : decode cX5_bursts 44 = .ok (.iaload, 1) := by decide +kernel
theorem dX5_bursts_45 : decode cX5_bursts 45 = .ok (.isub, 1) := by decide +kernel
theorem dX5_bursts_46 : decode cX5_bursts 46 = .ok (.invokestatic 70, 3) := by decide +kernel
theorem dX5_bursts_49 : decode cX5_bursts 49 = .ok (.goto 4, 3) := by decide +kernel
theorem dX5_bursts_52 : decode cX5_bursts 52 = .ok (.iconst 0, 1) := by decide +kernel
theorem dX5_bursts_53 : decode cX5_bursts 53 = .ok (.istore 4, 2) := by decide +kernel
theorem dX5_bursts_55 : decode cX5_bursts 55 = .ok (.aload_n 0, 1) := by decide +kernel
theorem dX5_bursts_56 : decode cX5_bursts 56 = .ok (.iconst 0, 1) := by decide +kernel
theorem dX5_bursts_57 : decode cX5_bursts 57 = .ok (.iload_n 2, 1) := by decide +kernel
theorem dX5_bursts_58 : decode cX5_bursts 58 = .ok (.aload_n 0, 1) := by decide +kernel
theorem dX5_bursts_59 : decode cX5_bursts 59 = .ok (.iconst 0, 1) := by decide +kernel
theorem dX5_bursts_60 : decode cX5_bursts 60 = .ok (.iload_n 2, 1) := by decide +kernel
theorem dX5_bursts_61 : decode cX5_bursts 61 = .ok (.invokevirtual 45, 3) := by decide +kernel
theorem dX5_bursts_64 : decode cX5_bursts 64 = .ok (.iload_n 3, 1) := by decide +kernel
theorem dX5_bursts_65 : decode cX5_bursts 65 = .ok (.isub, 1) := by decide +kernel
theorem dX5_bursts_66 : decode cX5_bursts 66 = .ok (.invokevirtual 73, 3) := by decide +kernel
theorem dX5_bursts_69 : decode cX5_bursts 69 = .ok (.aload_n 0, 1) := by decide +kernel
theorem dX5_bursts_70 : decode cX5_bursts 70 = .ok (.getfield 7, 3) := by decide +kernel
theorem dX5_bursts_73 : decode cX5_bursts 73 = .ok (.bipush 22, 2) := by decide +kernel
theorem dX5_bursts_75 : decode cX5_bursts 75 = .ok (.iload_n 2, 1) := by decide +kernel
theorem dX5_bursts_76 : decode cX5_bursts 76 = .ok (.iadd, 1) := by decide +kernel
theorem dX5_bursts_77 : decode cX5_bursts 77 = .ok (.dup2, 1) := by decide +kernel
theorem dX5_bursts_78 : decode cX5_bursts 78 = .ok (.iaload, 1) := by decide +kernel
theorem dX5_bursts_79 : decode cX5_bursts 79 = .ok (.iload_n 3, 1) := by decide +kernel
theorem dX5_bursts_80 : decode cX5_bursts 80 = .ok (.iadd, 1) := by decide +kernel
theorem dX5_bursts_81 : decode cX5_bursts 81 = .ok (.iastore, 1) := by decide +kernel
theorem dX5_bursts_82 : decode cX5_bursts 82 = .ok (.aload_n 0, 1) := by decide +kernel
theorem dX5_bursts_83 : decode cX5_bursts 83 = .ok (.getfield 7, 3) := by decide +kernel
theorem dX5_bursts_86 : decode cX5_bursts 86 = .ok (.bipush 8, 2) := by decide +kernel
theorem dX5_bursts_88 : decode cX5_bursts 88 = .ok (.dup2, 1) := by decide +kernel
theorem dX5_bursts_89 : decode cX5_bursts 89 = .ok (.iaload, 1) := by decide +kernel
theorem dX5_bursts_90 : decode cX5_bursts 90 = .ok (.iload 4, 2) := by decide +kernel
theorem dX5_bursts_92 : decode cX5_bursts 92 = .ok (.iadd, 1) := by decide +kernel
theorem dX5_bursts_93 : decode cX5_bursts 93 = .ok (.iastore, 1) := by decide +kernel
theorem dX5_bursts_94 : decode cX5_bursts 94 = .ok (.aload_n 0, 1) := by decide +kernel
theorem dX5_bursts_95 : decode cX5_bursts 95 = .ok (.getfield 7, 3) := by decide +kernel
theorem dX5_bursts_98 : decode cX5_bursts 98 = .ok (.bipush 9, 2) := by decide +kernel
theorem dX5_bursts_100 : decode cX5_bursts 100 = .ok (.dup2, 1) := by decide +kernel
theorem dX5_bursts_101 : decode cX5_bursts 101 = .ok (.iaload, 1) := by decide +kernel
theorem dX5_bursts_102 : decode cX5_bursts 102 = .ok (.iload_n 3, 1) := by decide +kernel
theorem dX5_bursts_103 : decode cX5_bursts 103 = .ok (.iload 4, 2) := by decide +kernel
theorem dX5_bursts_105 : decode cX5_bursts 105 = .ok (.isub, 1) := by decide +kernel
theorem dX5_bursts_106 : decode cX5_bursts 106 = .ok (.iadd, 1) := by decide +kernel
theorem dX5_bursts_107 : decode cX5_bursts 107 = .ok (.iastore, 1) := by decide +kernel
theorem dX5_bursts_108 : decode cX5_bursts 108 = .ok (.aload_n 0, 1) := by decide +kernel
theorem dX5_bursts_109 : decode cX5_bursts 109 = .ok (.iload_n 1, 1) := by decide +kernel
theorem dX5_bursts_110 : decode cX5_bursts 110 = .ok (.iconst 2, 1) := by decide +kernel
theorem dX5_bursts_111 : decode cX5_bursts 111 = .ok (.ldc 36, 2) := by decide +kernel
theorem dX5_bursts_113 : decode cX5_bursts 113 = .ok (.invokevirtual 32, 3) := by decide +kernel
theorem dX5_bursts_116 : decode cX5_bursts 116 = .ok (.aload_n 0, 1) := by decide +kernel
theorem dX5_bursts_117 : decode cX5_bursts 117 = .ok (.iload_n 1, 1) := by decide +kernel
theorem dX5_bursts_118 : decode cX5_bursts 118 = .ok (.iconst 3, 1) := by decide +kernel
theorem dX5_bursts_119 : decode cX5_bursts 119 = .ok (.iconst 1, 1) := by decide +kernel
theorem dX5_bursts_120 : decode cX5_bursts 120 = .ok (.invokevirtual 32, 3) := by decide +kernel
theorem dX5_bursts_123 : decode cX5_bursts 123 = .ok (.return_, 1) := by decide +kernel
theorem dX5_moves_0 : decode cX5_moves 0 = .ok (.aload_n 0, 1) := by decide +kernel
theorem dX5_moves_1 : decode cX5_moves 1 = .ok (.iload_n 1, 1) := by decide +kernel
theorem dX5_moves_2 : decode cX5_moves 2 = .ok (.iconst 2, 1) := by decide +kernel
theorem dX5_moves_3 : decode cX5_moves 3 = .ok (.invokevirtual 63, 3) := by decide +kernel
theorem dX5_moves_6 : decode cX5_moves 6 = .ok (.istore_n 2, 1) := by decide +kernel
theorem dX5_moves_7 : decode cX5_moves 7 = .ok (.aload_n 0, 1) := by decide +kernel
theorem dX5_moves_8 : decode cX5_moves 8 = .ok (.getfield 7, 3) := by decide +kernel
theorem dX5_moves_11 : decode cX5_moves 11 = .ok (.iconst 3, 1) := by decide +kernel
theorem dX5_moves_12 : decode cX5_moves 12 = .ok (.iaload, 1) := by decide +kernel
theorem dX5_moves_13 : decode cX5_moves 13 = .ok (.aload_n 0, 1) := by decide +kernel
theorem dX5_moves_14 : decode cX5_moves 14 = .ok (.iconst 0, 1) := by decide +kernel
theorem dX5_moves_15 : decode cX5_moves 15 = .ok (.iload_n 2, 1) := by decide +kernel
theorem dX5_moves_16 : decode cX5_moves 16 = .ok (.invokevirtual 45, 3) := by decide +kernel
theorem dX5_moves_19 : decode cX5_moves 19 = .ok (.invokestatic 70, 3) := by decide +kernel
theorem dX5_moves_22 : decode cX5_moves 22 = .ok (.sipush 1000, 3) := by decide +kernel
theorem dX5_moves_25 : decode cX5_moves 25 = .ok (.aload_n 0, 1) := by decide +kernel
theorem dX5_moves_26 : decode cX5_moves 26 = .ok (.getfield 7, 3) := by decide +kernel
theorem dX5_moves_29 : decode cX5_moves 29 = .ok (.bipush 14, 2) := by decide +kernel
theorem dX5_moves_31 : decode cX5_moves 31 = .ok (.iload_n 2, 1) := by decide +kernel
theorem dX5_moves_32 : decode cX5_moves 32 = .ok (.iadd, 1) := by decide +kernel
theorem dX5_moves_33 : decode cX5_moves 33 = .ok (.iaload, 1) := by decide +kernel
theorem dX5_moves_34 : decode cX5_moves 34 = .ok (.isub, 1) := by decide +kernel
theorem dX5_moves_35 : decode cX5_moves 35 = .ok (.invokestatic 70, 3) := by decide +kernel
theorem dX5_moves_38 : decode cX5_moves 38 = .ok (.istore_n 3, 1) := by decide +kernel
theorem dX5_moves_39 : decode cX5_moves 39 = .ok (.aload_n 0, 1) := by decide +kernel
theorem dX5_moves_40 : decode cX5_moves 40 = .ok (.iload_n 1, 1) := by decide +kernel
theorem dX5_moves_41 : decode cX5_moves 41 = .ok (.iconst 1, 1) := by decide +kernel
theorem dX5_moves_42 : decode cX5_moves 42 = .ok (.invokevirtual 63, 3) := by decide +kernel
theorem dX5_moves_45 : decode cX5_moves 45 = .ok (.ifCond .lt 17, 3) := by decide +kernel
theorem dX5_moves_48 : decode cX5_moves 48 = .ok (.aload_n 0, 1) := by decide +kernel
theorem dX5_moves_49 : decode cX5_moves 49 = .ok (.iload_n 1, 1) := by decide +kernel
theorem dX5_moves_50 : decode cX5_moves 50 = .ok (.iconst 1, 1) := by decide +kernel
theorem dX5_moves_51 : decode cX5_moves 51 = .ok (.invokevirtual 63, 3) := by decide +kernel
theorem dX5_moves_54 : decode cX5_moves 54 = .ok (.iload_n 2, 1) := by decide +kernel
theorem dX5_moves_55 : decode cX5_moves 55 = .ok (.if_icmp .eq 7, 3) := by decide +kernel
theorem dX5_moves_58 : decode cX5_moves 58 = .ok (.iconst 1, 1) := by decide +kernel
theorem dX5_moves_59 : decode cX5_moves 59 = .ok (.goto 4, 3) := by decide +kernel
theorem dX5_moves_62 : decode cX5_moves 62 = .ok (.iconst 0, 1) := by decide +kernel
theorem dX5_moves_63 : decode cX5_moves 63 = .ok (.istore 4, 2) := by decide +kernel
theorem dX5_moves_65 : decode cX5_moves 65 = .ok (.aload_n 0, 1) := by decide +kernel
theorem dX5_moves_66 : decode cX5_moves 66 = .ok (.iconst 0, 1) := by decide +kernel
theorem dX5_moves_67 : decode cX5_moves 67 = .ok (.iload_n 2, 1) := by decide +kernel
theorem dX5_moves_68 : decode cX5_moves 68 = .ok (.aload_n 0, 1) := by decide +kernel
theorem dX5_moves_69 : decode cX5_moves 69 = .ok (.iconst 0, 1) := by decide +kernel
theorem dX5_moves_70 : decode cX5_moves 70 = .ok (.iload_n 2, 1) := by decide +kernel
theorem dX5_moves_71 : decode cX5_moves 71 = .ok (.invokevirtual 45, 3) := by decide +kernel
theorem dX5_moves_74 : decode cX5_moves 74 = .ok (.iload_n 3, 1) := by decide +kernel
theorem dX5_moves_75 : decode cX5_moves 75 = .ok (.isub, 1) := by decide +kernel
theorem dX5_moves_76 : decode cX5_moves 76 = .ok (.invokevirtual 73, 3) := by decide +kernel
theorem dX5_moves_79 : decode cX5_moves 79 = .ok (.iload 4, 2) := by decide +kernel
theorem dX5_moves_81 : decode cX5_moves 81 = .ok (.ifCond .eq 33, 3) := by decide +kernel
theorem dX5_moves_84 : decode cX5_moves 84 = .ok (.aload_n 0, 1) := by decide +kernel
theorem dX5_moves_85 : decode cX5_moves 85 = .ok (.getfield 7, 3) := by decide +kernel
theorem dX5_moves_88 : decode cX5_moves 88 = .ok (.bipush 18, 2) := by decide +kernel
theorem dX5_moves_90 : decode cX5_moves 90 = .ok (.iload_n 2, 1) := by decide +kernel
theorem dX5_moves_91 : decode cX5_moves 91 = .ok (.iadd, 1) := by decide +kernel
theorem dX5_moves_92 : decode cX5_moves 92 = .ok (.dup2, 1) := by decide +kernel
theorem dX5_moves_93 : decode cX5_moves 93 = .ok (.iaload, 1) := by decide +kernel
theorem dX5_moves_94 : decode cX5_moves 94 = .ok (.iload_n 3, 1) := by decide +kernel
theorem dX5_moves_95 : decode cX5_moves 95 = .ok (.iadd, 1) := by decide +kernel
theorem dX5_moves_96 : decode cX5_moves 96 = .ok (.iastore, 1) := by decide +kernel
theorem dX5_moves_97 : decode cX5_moves 97 = .ok (.aload_n 0, 1) := by decide +kernel
theorem dX5_moves_98 : decode cX5_moves 98 = .ok (.iload_n 1, 1) := by decide +kernel
theorem dX5_moves_99 : decode cX5_moves 99 = .ok (.iconst 5, 1) := by decide +kernel
theorem dX5_moves_100 : decode cX5_moves 100 = .ok (.aload_n 0, 1) := by decide +kernel
theorem dX5_moves_101 : decode cX5_moves 101 = .ok (.iload_n 1, 1) := by decide +kernel
theorem dX5_moves_102 : decode cX5_moves 102 = .ok (.iconst 5, 1) := by decide +kernel
theorem dX5_moves_103 : decode cX5_moves 103 = .ok (.invokevirtual 63, 3) := by decide +kernel
theorem dX5_moves_106 : decode cX5_moves 106 = .ok (.iload_n 3, 1) := by decide +kernel
theorem dX5_moves_107 : decode cX5_moves 107 = .ok (.iadd, 1) := by decide +kernel
theorem dX5_moves_108 : decode cX5_moves 108 = .ok (.invokevirtual 32, 3) := by decide +kernel
theorem dX5_moves_111 : decode cX5_moves 111 = .ok (.goto 30, 3) := by decide +kernel
theorem dX5_moves_114 : decode cX5_moves 114 = .ok (.aload_n 0, 1) := by decide +kernel
theorem dX5_moves_115 : decode cX5_moves 115 = .ok (.getfield 7, 3) := by decide +kernel
theorem dX5_moves_118 : decode cX5_moves 118 = .ok (.bipush 14, 2) := by decide +kernel
theorem dX5_moves_120 : decode cX5_moves 120 = .ok (.iload_n 2, 1) := by decide +kernel
theorem dX5_moves_121 : decode cX5_moves 121 = .ok (.iadd, 1) := by decide +kernel
theorem dX5_moves_122 : decode cX5_moves 122 = .ok (.dup2, 1) := by decide +kernel
theorem dX5_moves_123 : decode cX5_moves 123 = .ok (.iaload, 1) := by decide +kernel
theorem dX5_moves_124 : decode cX5_moves 124 = .ok (.iload_n 3, 1) := by decide +kernel
theorem dX5_moves_125 : decode cX5_moves 125 = .ok (.iadd, 1) := by decide +kernel
theorem dX5_moves_126 : decode cX5_moves 126 = .ok (.iastore, 1) := by decide +kernel
theorem dX5_moves_127 : decode cX5_moves 127 = .ok (.aload_n 0, 1) := by decide +kernel
theorem dX5_moves_128 : decode cX5_moves 128 = .ok (.iload_n 1, 1) := by decide +kernel
theorem dX5_moves_129 : decode cX5_moves 129 = .ok (.iconst 4, 1) := by decide +kernel
theorem dX5_moves_130 : decode cX5_moves 130 = .ok (.aload_n 0, 1) := by decide +kernel
theorem dX5_moves_131 : decode cX5_moves 131 = .ok (.iload_n 1, 1) := by decide +kernel
theorem dX5_moves_132 : decode cX5_moves 132 = .ok (.iconst 4, 1) := by decide +kernel
theorem dX5_moves_133 : decode cX5_moves 133 = .ok (.invokevirtual 63, 3) := by decide +kernel
theorem dX5_moves_136 : decode cX5_moves 136 = .ok (.iload_n 3, 1) := by decide +kernel
theorem dX5_moves_137 : decode cX5_moves 137 = .ok (.iadd, 1) := by decide +kernel
theorem dX5_moves_138 : decode cX5_moves 138 = .ok (.invokevirtual 32, 3) := by decide +kernel
theorem dX5_moves_141 : decode cX5_moves 141 = .ok (.aload_n 0, 1) := by decide +kernel
theorem dX5_moves_142 : decode cX5_moves 142 = .ok (.iload_n 1, 1) := by decide +kernel
theorem dX5_moves_143 : decode cX5_moves 143 = .ok (.iconst 1, 1) := by decide +kernel
theorem dX5_moves_144 : decode cX5_moves 144 = .ok (.iload_n 3, 1) := by decide +kernel
theorem dX5_moves_145 : decode cX5_moves 145 = .ok (.ifCond .le 7, 3) := by decide +kernel
theorem dX5_moves_148 : decode cX5_moves 148 = .ok (.iload_n 2, 1) := by decide +kernel
theorem dX5_moves_149 : decode cX5_moves 149 = .ok (.goto 9, 3) := by decide +kernel
theorem dX5_moves_152 : decode cX5_moves 152 = .ok (.aload_n 0, 1) := by decide +kernel
theorem dX5_moves_153 : decode cX5_moves 153 = .ok (.iload_n 1, 1) := by decide +kernel
theorem dX5_moves_154 : decode cX5_moves 154 = .ok (.iconst 1, 1) := by decide +kernel
theorem dX5_moves_155 : decode cX5_moves 155 = .ok (.invokevirtual 63, 3) := by decide +kernel
theorem dX5_moves_158 : decode cX5_moves 158 = .ok (.invokevirtual 32, 3) := by decide +kernel
theorem dX5_moves_161 : decode cX5_moves 161 = .ok (.iload 4, 2) := by decide +kernel
theorem dX5_moves_163 : decode cX5_moves 163 = .ok (.ifCond .eq 7, 3) := by decide +kernel
theorem dX5_moves_166 : decode cX5_moves 166 = .ok (.iconst 0, 1) := by decide +kernel
theorem dX5_moves_167 : decode cX5_moves 167 = .ok (.goto 4, 3) := by decide +kernel
theorem dX5_moves_170 : decode cX5_moves 170 = .ok (.iload_n 3, 1) := by decide +kernel
theorem dX5_moves_171 : decode cX5_moves 171 = .ok (.ireturn, 1) := by decide +kernel
theorem dX5_hour_0 : decode cX5_hour 0 = .ok (.aload_n 0, 1) := by decide +kernel
theorem dX5_hour_1 : decode cX5_hour 1 = .ok (.invokevirtual 52, 3) := by decide +kernel
theorem dX5_hour_4 : decode cX5_hour 4 = .ok (.istore_n 1, 1) := by decide +kernel
theorem dX5_hour_5 : decode cX5_hour 5 = .ok (.aload_n 0, 1) := by decide +kernel
theorem dX5_hour_6 : decode cX5_hour 6 = .ok (.getfield 7, 3) := by decide +kernel
theorem dX5_hour_9 : decode cX5_hour 9 = .ok (.bipush 6, 2) := by decide +kernel
theorem dX5_hour_11 : decode cX5_hour 11 = .ok (.dup2, 1) := by decide +kernel
theorem dX5_hour_12 : decode cX5_hour 12 = .ok (.iaload, 1) := by decide +kernel
theorem dX5_hour_13 : decode cX5_hour 13 = .ok (.iconst 1, 1) := by decide +kernel
theorem dX5_hour_14 : decode cX5_hour 14 = .ok (.iadd, 1) := by decide +kernel
theorem dX5_hour_15 : decode cX5_hour 15 = .ok (.iastore, 1) := by decide +kernel
theorem dX5_hour_16 : decode cX5_hour 16 = .ok (.aload_n 0, 1) := by decide +kernel
theorem dX5_hour_17 : decode cX5_hour 17 = .ok (.invokevirtual 52, 3) := by decide +kernel
theorem dX5_hour_20 : decode cX5_hour 20 = .ok (.iload_n 1, 1) := by decide +kernel
theorem dX5_hour_21 : decode cX5_hour 21 = .ok (.isub, 1) := by decide +kernel
theorem dX5_hour_22 : decode cX5_hour 22 = .ok (.istore_n 2, 1) := by decide +kernel
theorem dX5_hour_23 : decode cX5_hour 23 = .ok (.aload_n 0, 1) := by decide +kernel
theorem dX5_hour_24 : decode cX5_hour 24 = .ok (.getfield 7, 3) := by decide +kernel
theorem dX5_hour_27 : decode cX5_hour 27 = .ok (.bipush 7, 2) := by decide +kernel
theorem dX5_hour_29 : decode cX5_hour 29 = .ok (.iaload, 1) := by decide +kernel
theorem dX5_hour_30 : decode cX5_hour 30 = .ok (.iconst 1, 1) := by decide +kernel
theorem dX5_hour_31 : decode cX5_hour 31 = .ok (.if_icmp .ne 48, 3) := by decide +kernel
theorem dX5_hour_34 : decode cX5_hour 34 = .ok (.iload_n 2, 1) := by decide +kernel
theorem dX5_hour_35 : decode cX5_hour 35 = .ok (.bipush 15, 2) := by decide +kernel
theorem dX5_hour_37 : decode cX5_hour 37 = .ok (.if_icmp .gt 9, 3) := by decide +kernel
theorem dX5_hour_40 : decode cX5_hour 40 = .ok (.iload_n 2, 1) := by decide +kernel
theorem dX5_hour_41 : decode cX5_hour 41 = .ok (.bipush (-15), 2) := by decide +kernel
theorem dX5_hour_43 : decode cX5_hour 43 = .ok (.if_icmp .ge 36, 3) := by decide +kernel
theorem dX5_hour_46 : decode cX5_hour 46 = .ok (.aload_n 0, 1) := by decide +kernel
theorem dX5_hour_47 : decode cX5_hour 47 = .ok (.getfield 7, 3) := by decide +kernel
theorem dX5_hour_50 : decode cX5_hour 50 = .ok (.bipush 7, 2) := by decide +kernel
theorem dX5_hour_52 : decode cX5_hour 52 = .ok (.iconst 0, 1) := by decide +kernel
theorem dX5_hour_53 : decode cX5_hour 53 = .ok (.iastore, 1) := by decide +kernel
theorem dX5_hour_54 : decode cX5_hour 54 = .ok (.aload_n 0, 1) := by decide +kernel
theorem dX5_hour_55 : decode cX5_hour 55 = .ok (.getfield 7, 3) := by decide +kernel
theorem dX5_hour_58 : decode cX5_hour 58 = .ok (.bipush 9, 2) := by decide +kernel
theorem dX5_hour_60 : decode cX5_hour 60 = .ok (.dup2, 1) := by decide +kernel
theorem dX5_hour_61 : decode cX5_hour 61 = .ok (.iaload, 1) := by decide +kernel
theorem dX5_hour_62 : decode cX5_hour 62 = .ok (.aload_n 0, 1) := by decide +kernel
theorem dX5_hour_63 : decode cX5_hour 63 = .ok (.getfield 7, 3) := by decide +kernel
theorem dX5_hour_66 : decode cX5_hour 66 = .ok (.bipush 8, 2) := by decide +kernel
theorem dX5_hour_68 : decode cX5_hour 68 = .ok (.iaload, 1) := by decide +kernel
theorem dX5_hour_69 : decode cX5_hour 69 = .ok (.iadd, 1) := by decide +kernel
theorem dX5_hour_70 : decode cX5_hour 70 = .ok (.iastore, 1) := by decide +kernel
theorem dX5_hour_71 : decode cX5_hour 71 = .ok (.aload_n 0, 1) := by decide +kernel
theorem dX5_hour_72 : decode cX5_hour 72 = .ok (.getfield 7, 3) := by decide +kernel
theorem dX5_hour_75 : decode cX5_hour 75 = .ok (.bipush 8, 2) := by decide +kernel
theorem dX5_hour_77 : decode cX5_hour 77 = .ok (.iconst 0, 1) := by decide +kernel
theorem dX5_hour_78 : decode cX5_hour 78 = .ok (.iastore, 1) := by decide +kernel
theorem dX5_hour_79 : decode cX5_hour 79 = .ok (.iconst 0, 1) := by decide +kernel
theorem dX5_hour_80 : decode cX5_hour 80 = .ok (.istore_n 3, 1) := by decide +kernel
theorem dX5_hour_81 : decode cX5_hour 81 = .ok (.iload_n 3, 1) := by decide +kernel
theorem dX5_hour_82 : decode cX5_hour 82 = .ok (.iconst 4, 1) := by decide +kernel
theorem dX5_hour_83 : decode cX5_hour 83 = .ok (.if_icmp .ge 36, 3) := by decide +kernel
theorem dX5_hour_86 : decode cX5_hour 86 = .ok (.aload_n 0, 1) := by decide +kernel
theorem dX5_hour_87 : decode cX5_hour 87 = .ok (.iload_n 3, 1) := by decide +kernel
theorem dX5_hour_88 : decode cX5_hour 88 = .ok (.invokevirtual 66, 3) := by decide +kernel
theorem dX5_hour_91 : decode cX5_hour 91 = .ok (.ifCond .eq 22, 3) := by decide +kernel
theorem dX5_hour_94 : decode cX5_hour 94 = .ok (.aload_n 0, 1) := by decide +kernel
theorem dX5_hour_95 : decode cX5_hour 95 = .ok (.iconst 0, 1) := by decide +kernel
theorem dX5_hour_96 : decode cX5_hour 96 = .ok (.invokevirtual 76, 3) := by decide +kernel
theorem dX5_hour_99 : decode cX5_hour 99 = .ok (.aload_n 0, 1) := by decide +kernel
theorem dX5_hour_100 : decode cX5_hour 100 = .ok (.iload_n 3, 1) := by decide +kernel
theorem dX5_hour_101 : decode cX5_hour 101 = .ok (.iconst 0, 1) := by decide +kernel
theorem dX5_hour_102 : decode cX5_hour 102 = .ok (.invokevirtual 63, 3) := by decide +kernel
theorem dX5_hour_105 : decode cX5_hour 105 = .ok (.if_icmp .le 8, 3) := by decide +kernel
theorem dX5_hour_108 : decode cX5_hour 108 = .ok (.aload_n 0, 1) := by decide +kernel
theorem dX5_hour_109 : decode cX5_hour 109 = .ok (.iload_n 3, 1) := by decide +kernel
theorem dX5_hour_110 : decode cX5_hour 110 = .ok (.invokevirtual 79, 3) := by decide +kernel
theorem dX5_hour_113 : decode cX5_hour 113 = .ok (.iinc 3 1, 3) := by decide +kernel
theorem dX5_hour_116 : decode cX5_hour 116 = .ok (.goto (-35), 3) := by decide +kernel
theorem dX5_hour_119 : decode cX5_hour 119 = .ok (.iconst 0, 1) := by decide +kernel
theorem dX5_hour_120 : decode cX5_hour 120 = .ok (.istore_n 3, 1) := by decide +kernel
theorem dX5_hour_121 : decode cX5_hour 121 = .ok (.aload_n 0, 1) := by decide +kernel
theorem dX5_hour_122 : decode cX5_hour 122 = .ok (.getfield 7, 3) := by decide +kernel
theorem dX5_hour_125 : decode cX5_hour 125 = .ok (.bipush 13, 2) := by decide +kernel
theorem dX5_hour_127 : decode cX5_hour 127 = .ok (.iaload, 1) := by decide +kernel
theorem dX5_hour_128 : decode cX5_hour 128 = .ok (.iconst 1, 1) := by decide +kernel
theorem dX5_hour_129 : decode cX5_hour 129 = .ok (.if_icmp .ne 33, 3) := by decide +kernel
theorem dX5_hour_132 : decode cX5_hour 132 = .ok (.aload_n 0, 1) := by decide +kernel
theorem dX5_hour_133 : decode cX5_hour 133 = .ok (.iconst 0, 1) := by decide +kernel
theorem dX5_hour_134 : decode cX5_hour 134 = .ok (.aload_n 0, 1) := by decide +kernel
theorem dX5_hour_135 : decode cX5_hour 135 = .ok (.getfield 7, 3) := by decide +kernel
theorem dX5_hour_138 : decode cX5_hour 138 = .ok (.bipush 6, 2) := by decide +kernel
theorem dX5_hour_140 : decode cX5_hour 140 = .ok (.iaload, 1) := by decide +kernel
theorem dX5_hour_141 : decode cX5_hour 141 = .ok (.invokevirtual 83, 3) := by decide +kernel
theorem dX5_hour_144 : decode cX5_hour 144 = .ok (.ifCond .eq 18, 3) := by decide +kernel
theorem dX5_hour_147 : decode cX5_hour 147 = .ok (.aload_n 0, 1) := by decide +kernel
theorem dX5_hour_148 : decode cX5_hour 148 = .ok (.getfield 7, 3) := by decide +kernel
theorem dX5_hour_151 : decode cX5_hour 151 = .ok (.bipush 7, 2) := by decide +kernel
theorem dX5_hour_153 : decode cX5_hour 153 = .ok (.iaload, 1) := by decide +kernel
theorem dX5_hour_154 : decode cX5_hour 154 = .ok (.iconst 1, 1) := by decide +kernel
theorem dX5_hour_155 : decode cX5_hour 155 = .ok (.if_icmp .ne 7, 3) := by decide +kernel
theorem dX5_hour_158 : decode cX5_hour 158 = .ok (.iconst 1, 1) := by decide +kernel
theorem dX5_hour_159 : decode cX5_hour 159 = .ok (.goto 4, 3) := by decide +kernel
theorem dX5_hour_162 : decode cX5_hour 162 = .ok (.iconst 0, 1) := by decide +kernel
theorem dX5_hour_163 : decode cX5_hour 163 = .ok (.istore 4, 2) := by decide +kernel
theorem dX5_hour_165 : decode cX5_hour 165 = .ok (.iconst 0, 1) := by decide +kernel
theorem dX5_hour_166 : decode cX5_hour 166 = .ok (.istore 5, 2) := by decide +kernel
theorem dX5_hour_168 : decode cX5_hour 168 = .ok (.iload 5, 2) := by decide +kernel
theorem dX5_hour_170 : decode cX5_hour 170 = .ok (.iconst 4, 1) := by decide +kernel
theorem dX5_hour_171 : decode cX5_hour 171 = .ok (.if_icmp .ge 36, 3) := by decide +kernel
theorem dX5_hour_174 : decode cX5_hour 174 = .ok (.iload 4, 2) := by decide +kernel
theorem dX5_hour_176 : decode cX5_hour 176 = .ok (.ifCond .eq 31, 3) := by decide +kernel
theorem dX5_hour_179 : decode cX5_hour 179 = .ok (.iload_n 3, 1) := by decide +kernel
theorem dX5_hour_180 : decode cX5_hour 180 = .ok (.aload_n 0, 1) := by decide +kernel
theorem dX5_hour_181 : decode cX5_hour 181 = .ok (.iload 5, 2) := by decide +kernel
theorem dX5_hour_183 : decode cX5_hour 183 = .ok (.invokevirtual 66, 3) := by decide +kernel
theorem dX5_hour_186 : decode cX5_hour 186 = .ok (.ifCond .eq 12, 3) := by decide +kernel
theorem dX5_hour_189 : decode cX5_hour 189 = .ok (.aload_n 0, 1) := by decide +kernel
theorem dX5_hour_190 : decode cX5_hour 190 = .ok (.iload 5, 2) := by decide +kernel
theorem dX5_hour_192 : decode cX5_hour 192 = .ok (.invokevirtual 87, 3) := by decide +kernel
theorem dX5_hour_195 : decode cX5_hour 195 = .ok (.goto 4, 3) := by decide +kernel
theorem dX5_hour_198 : decode cX5_hour 198 = .ok (.iconst 0, 1) := by decide +kernel
theorem dX5_hour_199 : decode cX5_hour 199 = .ok (.iadd, 1) := by decide +kernel
theorem dX5_hour_200 : decode cX5_hour 200 = .ok (.istore_n 3, 1) := by decide +kernel
theorem dX5_hour_201 : decode cX5_hour 201 = .ok (.iinc 5 1, 3) := by decide +kernel
theorem dX5_hour_204 : decode cX5_hour 204 = .ok (.goto (-36), 3) := by decide +kernel
theorem dX5_hour_207 : decode cX5_hour 207 = .ok (.iconst 0, 1) := by decide +kernel
theorem dX5_hour_208 : decode cX5_hour 208 = .ok (.istore 5, 2) := by decide +kernel
theorem dX5_hour_210 : decode cX5_hour 210 = .ok (.iload 5, 2) := by decide +kernel
theorem dX5_hour_212 : decode cX5_hour 212 = .ok (.aload_n 0, 1) := by decide +kernel
theorem dX5_hour_213 : decode cX5_hour 213 = .ok (.getfield 7, 3) := by decide +kernel
theorem dX5_hour_216 : decode cX5_hour 216 = .ok (.bipush 12, 2) := by decide +kernel
theorem dX5_hour_218 : decode cX5_hour 218 = .ok (.iaload, 1) := by decide +kernel
theorem dX5_hour_219 : decode cX5_hour 219 = .ok (.if_icmp .gt 62, 3) := by decide +kernel
theorem dX5_hour_222 : decode cX5_hour 222 = .ok (.aload_n 0, 1) := by decide +kernel
theorem dX5_hour_223 : decode cX5_hour 223 = .ok (.getfield 7, 3) := by decide +kernel
theorem dX5_hour_226 : decode cX5_hour 226 = .ok (.bipush 11, 2) := by decide +kernel
theorem dX5_hour_228 : decode cX5_hour 228 = .ok (.dup2, 1) := by decide +kernel
theorem dX5_hour_229 : decode cX5_hour 229 = .ok (.iaload, 1) := by decide +kernel
theorem dX5_hour_230 : decode cX5_hour 230 = .ok (.aload_n 0, 1) := by decide +kernel
theorem dX5_hour_231 : decode cX5_hour 231 = .ok (.iload 5, 2) := by decide +kernel
theorem dX5_hour_233 : decode cX5_hour 233 = .ok (.invokevirtual 90, 3) := by decide +kernel
theorem dX5_hour_236 : decode cX5_hour 236 = .ok (.ifCond .eq 36, 3) := by decide +kernel
theorem dX5_hour_239 : decode cX5_hour 239 = .ok (.aload_n 0, 1) := by decide +kernel
theorem dX5_hour_240 : decode cX5_hour 240 = .ok (.getfield 7, 3) := by decide +kernel
theorem dX5_hour_243 : decode cX5_hour 243 = .ok (.bipush 6, 2) := by decide +kernel
theorem dX5_hour_245 : decode cX5_hour 245 = .ok (.iaload, 1) := by decide +kernel
theorem dX5_hour_246 : decode cX5_hour 246 = .ok (.aload_n 0, 1) := by decide +kernel
theorem dX5_hour_247 : decode cX5_hour 247 = .ok (.iload 5, 2) := by decide +kernel
theorem dX5_hour_249 : decode cX5_hour 249 = .ok (.iconst 4, 1) := by decide +kernel
theorem dX5_hour_250 : decode cX5_hour 250 = .ok (.invokevirtual 45, 3) := by decide +kernel
theorem dX5_hour_253 : decode cX5_hour 253 = .ok (.isub, 1) := by decide +kernel
theorem dX5_hour_254 : decode cX5_hour 254 = .ok (.aload_n 0, 1) := by decide +kernel
theorem dX5_hour_255 : decode cX5_hour 255 = .ok (.getfield 7, 3) := by decide +kernel
theorem dX5_hour_258 : decode cX5_hour 258 = .ok (.iconst 4, 1) := by decide +kernel
theorem dX5_hour_259 : decode cX5_hour 259 = .ok (.iaload, 1) := by decide +kernel
theorem dX5_hour_260 : decode cX5_hour 260 = .ok (.if_icmp .le 12, 3) := by decide +kernel
theorem dX5_hour_263 : decode cX5_hour 263 = .ok (.aload_n 0, 1) := by decide +kernel
theorem dX5_hour_264 : decode cX5_hour 264 = .ok (.getfield 7, 3) := by decide +kernel
theorem dX5_hour_267 : decode cX5_hour 267 = .ok (.iconst 5, 1) := by decide +kernel
theorem dX5_hour_268 : decode cX5_hour 268 = .ok (.iaload, 1) := by decide +kernel
theorem dX5_hour_269 : decode cX5_hour 269 = .ok (.goto 4, 3) := by decide +kernel
theorem dX5_hour_272 : decode cX5_hour 272 = .ok (.iconst 0, 1) := by decide +kernel
theorem dX5_hour_273 : decode cX5_hour 273 = .ok (.iadd, 1) := by decide +kernel
theorem dX5_hour_274 : decode cX5_hour 274 = .ok (.iastore, 1) := by decide +kernel
theorem dX5_hour_275 : decode cX5_hour 275 = .ok (.iinc 5 1, 3) := by decide +kernel
theorem dX5_hour_278 : decode cX5_hour 278 = .ok (.goto (-68), 3) := by decide +kernel
theorem dX5_hour_281 : decode cX5_hour 281 = .ok (.iload_n 3, 1) := by decide +kernel
theorem dX5_hour_282 : decode cX5_hour 282 = .ok (.ireturn, 1) := by decide +kernel
theorem dX5_lowest_0 : decode cX5_lowest 0 = .ok (.iload_n 0, 1) := by decide +kernel
theorem dX5_lowest_1 : decode cX5_lowest 1 = .ok (.ifCond .ne 8, 3) := by decide +kernel
theorem dX5_lowest_4 : decode cX5_lowest 4 = .ok (.bipush 50, 2) := by decide +kernel
theorem dX5_lowest_6 : decode cX5_lowest 6 = .ok (.goto 18, 3) := by decide +kernel
theorem dX5_lowest_9 : decode cX5_lowest 9 = .ok (.iload_n 0, 1) := by decide +kernel
theorem dX5_lowest_10 : decode cX5_lowest 10 = .ok (.iconst 3, 1) := by decide +kernel
theorem dX5_lowest_11 : decode cX5_lowest 11 = .ok (.if_icmp .eq 8, 3) := by decide +kernel
theorem dX5_lowest_14 : decode cX5_lowest 14 = .ok (.iload_n 0, 1) := by decide +kernel
theorem dX5_lowest_15 : decode cX5_lowest 15 = .ok (.iconst 5, 1) := by decide +kernel
theorem dX5_lowest_16 : decode cX5_lowest 16 = .ok (.if_icmp .ne 7, 3) := by decide +kernel
theorem dX5_lowest_19 : decode cX5_lowest 19 = .ok (.iconst 1, 1) := by decide +kernel
theorem dX5_lowest_20 : decode cX5_lowest 20 = .ok (.goto 4, 3) := by decide +kernel
theorem dX5_lowest_23 : decode cX5_lowest 23 = .ok (.iconst 0, 1) := by decide +kernel
theorem dX5_lowest_24 : decode cX5_lowest 24 = .ok (.ireturn, 1) := by decide +kernel
theorem dX5_highest_0 : decode cX5_highest 0 = .ok (.iload_n 0, 1) := by decide +kernel
theorem dX5_highest_1 : decode cX5_highest 1 = .ok (.tableswitch 41 0 3 #[31, 35, 38, 35], 31) := by decide +kernel
theorem dX5_highest_32 : decode cX5_highest 32 = .ok (.sipush 150, 3) := by decide +kernel
theorem dX5_highest_35 : decode cX5_highest 35 = .ok (.ireturn, 1) := by decide +kernel
theorem dX5_highest_36 : decode cX5_highest 36 = .ok (.bipush 40, 2) := by decide +kernel
theorem dX5_highest_38 : decode cX5_highest 38 = .ok (.ireturn, 1) := by decide +kernel
theorem dX5_highest_39 : decode cX5_highest 39 = .ok (.bipush 20, 2) := by decide +kernel
theorem dX5_highest_41 : decode cX5_highest 41 = .ok (.ireturn, 1) := by decide +kernel
theorem dX5_highest_42 : decode cX5_highest 42 = .ok (.bipush 99, 2) := by decide +kernel
theorem dX5_highest_44 : decode cX5_highest 44 = .ok (.ireturn, 1) := by decide +kernel
theorem dX5_set_0 : decode cX5_set 0 = .ok (.iload_n 1, 1) := by decide +kernel
theorem dX5_set_1 : decode cX5_set 1 = .ok (.iconst 0, 1) := by decide +kernel
theorem dX5_set_2 : decode cX5_set 2 = .ok (.iconst 5, 1) := by decide +kernel
theorem dX5_set_3 : decode cX5_set 3 = .ok (.invokestatic 59, 3) := by decide +kernel
theorem dX5_set_6 : decode cX5_set 6 = .ok (.ifCond .eq 18, 3) := by decide +kernel
theorem dX5_set_9 : decode cX5_set 9 = .ok (.iload_n 2, 1) := by decide +kernel
theorem dX5_set_10 : decode cX5_set 10 = .ok (.iload_n 1, 1) := by decide +kernel
theorem dX5_set_11 : decode cX5_set 11 = .ok (.invokestatic 93, 3) := by decide +kernel
theorem dX5_set_14 : decode cX5_set 14 = .ok (.iload_n 1, 1) := by decide +kernel
theorem dX5_set_15 : decode cX5_set 15 = .ok (.invokestatic 96, 3) := by decide +kernel
theorem dX5_set_18 : decode cX5_set 18 = .ok (.invokestatic 59, 3) := by decide +kernel
theorem dX5_set_21 : decode cX5_set 21 = .ok (.ifCond .ne 6, 3) := by decide +kernel
theorem dX5_set_24 : decode cX5_set 24 = .ok (.ldc 99, 2) := by decide +kernel
theorem dX5_set_26 : decode cX5_set 26 = .ok (.ireturn, 1) := by decide +kernel
theorem dX5_set_27 : decode cX5_set 27 = .ok (.aload_n 0, 1) := by decide +kernel
theorem dX5_set_28 : decode cX5_set 28 = .ok (.invokevirtual 100, 3) := by decide +kernel
theorem dX5_set_31 : decode cX5_set 31 = .ok (.aload_n 0, 1) := by decide +kernel
theorem dX5_set_32 : decode cX5_set 32 = .ok (.getfield 7, 3) := by decide +kernel
theorem dX5_set_35 : decode cX5_set 35 = .ok (.iload_n 1, 1) := by decide +kernel
theorem dX5_set_36 : decode cX5_set 36 = .ok (.iaload, 1) := by decide +kernel
theorem dX5_set_37 : decode cX5_set 37 = .ok (.istore_n 3, 1) := by decide +kernel
theorem dX5_set_38 : decode cX5_set 38 = .ok (.aload_n 0, 1) := by decide +kernel
theorem dX5_set_39 : decode cX5_set 39 = .ok (.getfield 7, 3) := by decide +kernel
theorem dX5_set_42 : decode cX5_set 42 = .ok (.iload_n 1, 1) := by decide +kernel
theorem dX5_set_43 : decode cX5_set 43 = .ok (.iload_n 2, 1) := by decide +kernel
theorem dX5_set_44 : decode cX5_set 44 = .ok (.iastore, 1) := by decide +kernel
theorem dX5_set_45 : decode cX5_set 45 = .ok (.iload_n 3, 1) := by decide +kernel
theorem dX5_set_46 : decode cX5_set 46 = .ok (.ireturn, 1) := by decide +kernel
theorem dX5_doArrive_0 : decode cX5_doArrive 0 = .ok (.aload_n 0, 1) := by decide +kernel
theorem dX5_doArrive_1 : decode cX5_doArrive 1 = .ok (.getfield 7, 3) := by decide +kernel
theorem dX5_doArrive_4 : decode cX5_doArrive 4 = .ok (.bipush 12, 2) := by decide +kernel
theorem dX5_doArrive_6 : decode cX5_doArrive 6 = .ok (.dup2, 1) := by decide +kernel
theorem dX5_doArrive_7 : decode cX5_doArrive 7 = .ok (.iaload, 1) := by decide +kernel
theorem dX5_doArrive_8 : decode cX5_doArrive 8 = .ok (.iconst 1, 1) := by decide +kernel
theorem dX5_doArrive_9 : decode cX5_doArrive 9 = .ok (.iadd, 1) := by decide +kernel
theorem dX5_doArrive_10 : decode cX5_doArrive 10 = .ok (.iastore, 1) := by decide +kernel
theorem dX5_doArrive_11 : decode cX5_doArrive 11 = .ok (.aload_n 0, 1) := by decide +kernel
theorem dX5_doArrive_12 : decode cX5_doArrive 12 = .ok (.aload_n 0, 1) := by decide +kernel
theorem dX5_doArrive_13 : decode cX5_doArrive 13 = .ok (.getfield 7, 3) := by decide +kernel
theorem dX5_doArrive_16 : decode cX5_doArrive 16 = .ok (.bipush 12, 2) := by decide +kernel
theorem dX5_doArrive_18 : decode cX5_doArrive 18 = .ok (.iaload, 1) := by decide +kernel
theorem dX5_doArrive_19 : decode cX5_doArrive 19 = .ok (.iconst 0, 1) := by decide +kernel
theorem dX5_doArrive_20 : decode cX5_doArrive 20 = .ok (.iload_n 1, 1) := by decide +kernel
theorem dX5_doArrive_21 : decode cX5_doArrive 21 = .ok (.invokevirtual 73, 3) := by decide +kernel
theorem dX5_doArrive_24 : decode cX5_doArrive 24 = .ok (.aload_n 0, 1) := by decide +kernel
theorem dX5_doArrive_25 : decode cX5_doArrive 25 = .ok (.aload_n 0, 1) := by decide +kernel
theorem dX5_doArrive_26 : decode cX5_doArrive 26 = .ok (.getfield 7, 3) := by decide +kernel
theorem dX5_doArrive_29 : decode cX5_doArrive 29 = .ok (.bipush 12, 2) := by decide +kernel
theorem dX5_doArrive_31 : decode cX5_doArrive 31 = .ok (.iaload, 1) := by decide +kernel
theorem dX5_doArrive_32 : decode cX5_doArrive 32 = .ok (.iconst 1, 1) := by decide +kernel
theorem dX5_doArrive_33 : decode cX5_doArrive 33 = .ok (.iload_n 2, 1) := by decide +kernel
theorem dX5_doArrive_34 : decode cX5_doArrive 34 = .ok (.invokevirtual 73, 3) := by decide +kernel
theorem dX5_doArrive_37 : decode cX5_doArrive 37 = .ok (.aload_n 0, 1) := by decide +kernel
theorem dX5_doArrive_38 : decode cX5_doArrive 38 = .ok (.aload_n 0, 1) := by decide +kernel
theorem dX5_doArrive_39 : decode cX5_doArrive 39 = .ok (.getfield 7, 3) := by decide +kernel
theorem dX5_doArrive_42 : decode cX5_doArrive 42 = .ok (.bipush 12, 2) := by decide +kernel
theorem dX5_doArrive_44 : decode cX5_doArrive 44 = .ok (.iaload, 1) := by decide +kernel
theorem dX5_doArrive_45 : decode cX5_doArrive 45 = .ok (.iconst 2, 1) := by decide +kernel
theorem dX5_doArrive_46 : decode cX5_doArrive 46 = .ok (.iload_n 3, 1) := by decide +kernel
theorem dX5_doArrive_47 : decode cX5_doArrive 47 = .ok (.invokevirtual 73, 3) := by decide +kernel
theorem dX5_doArrive_50 : decode cX5_doArrive 50 = .ok (.aload_n 0, 1) := by decide +kernel
theorem dX5_doArrive_51 : decode cX5_doArrive 51 = .ok (.aload_n 0, 1) := by decide +kernel
theorem dX5_doArrive_52 : decode cX5_doArrive 52 = .ok (.getfield 7, 3) := by decide +kernel
theorem dX5_doArrive_55 : decode cX5_doArrive 55 = .ok (.bipush 12, 2) := by decide +kernel
theorem dX5_doArrive_57 : decode cX5_doArrive 57 = .ok (.iaload, 1) := by decide +kernel
theorem dX5_doArrive_58 : decode cX5_doArrive 58 = .ok (.iconst 3, 1) := by decide +kernel
theorem dX5_doArrive_59 : decode cX5_doArrive 59 = .ok (.iload 4, 2) := by decide +kernel
theorem dX5_doArrive_61 : decode cX5_doArrive 61 = .ok (.invokevirtual 73, 3) := by decide +kernel
theorem dX5_doArrive_64 : decode cX5_doArrive 64 = .ok (.aload_n 0, 1) := by decide +kernel
theorem dX5_doArrive_65 : decode cX5_doArrive 65 = .ok (.aload_n 0, 1) := by decide +kernel
theorem dX5_doArrive_66 : decode cX5_doArrive 66 = .ok (.getfield 7, 3) := by decide +kernel
theorem dX5_doArrive_69 : decode cX5_doArrive 69 = .ok (.bipush 12, 2) := by decide +kernel
theorem dX5_doArrive_71 : decode cX5_doArrive 71 = .ok (.iaload, 1) := by decide +kernel
theorem dX5_doArrive_72 : decode cX5_doArrive 72 = .ok (.iconst 4, 1) := by decide +kernel
theorem dX5_doArrive_73 : decode cX5_doArrive 73 = .ok (.aload_n 0, 1) := by decide +kernel
theorem dX5_doArrive_74 : decode cX5_doArrive 74 = .ok (.getfield 7, 3) := by decide +kernel
theorem dX5_doArrive_77 : decode cX5_doArrive 77 = .ok (.bipush 6, 2) := by decide +kernel
theorem dX5_doArrive_79 : decode cX5_doArrive 79 = .ok (.iaload, 1) := by decide +kernel
theorem dX5_doArrive_80 : decode cX5_doArrive 80 = .ok (.invokevirtual 73, 3) := by decide +kernel
theorem dX5_doArrive_83 : decode cX5_doArrive 83 = .ok (.aload_n 0, 1) := by decide +kernel
theorem dX5_doArrive_84 : decode cX5_doArrive 84 = .ok (.getfield 7, 3) := by decide +kernel
theorem dX5_doArrive_87 : decode cX5_doArrive 87 = .ok (.bipush 12, 2) := by decide +kernel
theorem dX5_doArrive_89 : decode cX5_doArrive 89 = .ok (.iaload, 1) := by decide +kernel
theorem dX5_doArrive_90 : decode cX5_doArrive 90 = .ok (.ireturn, 1) := by decide +kernel
theorem dX5_arrive_0 : decode cX5_arrive 0 = .ok (.iload_n 1, 1) := by decide +kernel
theorem dX5_arrive_1 : decode cX5_arrive 1 = .ok (.iconst 0, 1) := by decide +kernel
theorem dX5_arrive_2 : decode cX5_arrive 2 = .ok (.sipush 400, 3) := by decide +kernel
theorem dX5_arrive_5 : decode cX5_arrive 5 = .ok (.invokestatic 59, 3) := by decide +kernel
theorem dX5_arrive_8 : decode cX5_arrive 8 = .ok (.ifCond .eq 48, 3) := by decide +kernel
theorem dX5_arrive_11 : decode cX5_arrive 11 = .ok (.iload_n 2, 1) := by decide +kernel
theorem dX5_arrive_12 : decode cX5_arrive 12 = .ok (.iconst 0, 1) := by decide +kernel
theorem dX5_arrive_13 : decode cX5_arrive 13 = .ok (.sipush 400, 3) := by decide +kernel
theorem dX5_arrive_16 : decode cX5_arrive 16 = .ok (.invokestatic 59, 3) := by decide +kernel
theorem dX5_arrive_19 : decode cX5_arrive 19 = .ok (.ifCond .eq 37, 3) := by decide +kernel
theorem dX5_arrive_22 : decode cX5_arrive 22 = .ok (.iload_n 3, 1) := by decide +kernel
theorem dX5_arrive_23 : decode cX5_arrive 23 = .ok (.iconst 0, 1) := by decide +kernel
theorem dX5_arrive_24 : decode cX5_arrive 24 = .ok (.sipush 400, 3) := by decide +kernel
theorem dX5_arrive_27 : decode cX5_arrive 27 = .ok (.invokestatic 59, 3) := by decide +kernel
theorem dX5_arrive_30 : decode cX5_arrive 30 = .ok (.ifCond .eq 26, 3) := by decide +kernel
theorem dX5_arrive_33 : decode cX5_arrive 33 = .ok (.iload 4, 2) := by decide +kernel
theorem dX5_arrive_35 : decode cX5_arrive 35 = .ok (.iconst 0, 1) := by decide +kernel
theorem dX5_arrive_36 : decode cX5_arrive 36 = .ok (.sipush 400, 3) := by decide +kernel
theorem dX5_arrive_39 : decode cX5_arrive 39 = .ok (.invokestatic 59, 3) := by decide +kernel
theorem dX5_arrive_42 : decode cX5_arrive 42 = .ok (.ifCond .eq 14, 3) := by decide +kernel
theorem dX5_arrive_45 : decode cX5_arrive 45 = .ok (.iload_n 1, 1) := by decide +kernel
theorem dX5_arrive_46 : decode cX5_arrive 46 = .ok (.iload_n 2, 1) := by decide +kernel
theorem dX5_arrive_47 : decode cX5_arrive 47 = .ok (.iadd, 1) := by decide +kernel
theorem dX5_arrive_48 : decode cX5_arrive 48 = .ok (.iload_n 3, 1) := by decide +kernel
theorem dX5_arrive_49 : decode cX5_arrive 49 = .ok (.iadd, 1) := by decide +kernel
theorem dX5_arrive_50 : decode cX5_arrive 50 = .ok (.iload 4, 2) := by decide +kernel
theorem dX5_arrive_52 : decode cX5_arrive 52 = .ok (.iadd, 1) := by decide +kernel
theorem dX5_arrive_53 : decode cX5_arrive 53 = .ok (.ifCond .ne 6, 3) := by decide +kernel
theorem dX5_arrive_56 : decode cX5_arrive 56 = .ok (.ldc 99, 2) := by decide +kernel
theorem dX5_arrive_58 : decode cX5_arrive 58 = .ok (.ireturn, 1) := by decide +kernel
theorem dX5_arrive_59 : decode cX5_arrive 59 = .ok (.aload_n 0, 1) := by decide +kernel
theorem dX5_arrive_60 : decode cX5_arrive 60 = .ok (.getfield 7, 3) := by decide +kernel
theorem dX5_arrive_63 : decode cX5_arrive 63 = .ok (.bipush 12, 2) := by decide +kernel
theorem dX5_arrive_65 : decode cX5_arrive 65 = .ok (.iaload, 1) := by decide +kernel
theorem dX5_arrive_66 : decode cX5_arrive 66 = .ok (.iconst 5, 1) := by decide +kernel
theorem dX5_arrive_67 : decode cX5_arrive 67 = .ok (.if_icmp .ne 6, 3) := by decide +kernel
theorem dX5_arrive_70 : decode cX5_arrive 70 = .ok (.ldc 103, 2) := by decide +kernel
theorem dX5_arrive_72 : decode cX5_arrive 72 = .ok (.ireturn, 1) := by decide +kernel
theorem dX5_arrive_73 : decode cX5_arrive 73 = .ok (.aload_n 0, 1) := by decide +kernel
theorem dX5_arrive_74 : decode cX5_arrive 74 = .ok (.invokevirtual 100, 3) := by decide +kernel
theorem dX5_arrive_77 : decode cX5_arrive 77 = .ok (.aload_n 0, 1) := by decide +kernel
theorem dX5_arrive_78 : decode cX5_arrive 78 = .ok (.iload_n 1, 1) := by decide +kernel
theorem dX5_arrive_79 : decode cX5_arrive 79 = .ok (.iload_n 2, 1) := by decide +kernel
theorem dX5_arrive_80 : decode cX5_arrive 80 = .ok (.iload_n 3, 1) := by decide +kernel
theorem dX5_arrive_81 : decode cX5_arrive 81 = .ok (.iload 4, 2) := by decide +kernel
theorem dX5_arrive_83 : decode cX5_arrive 83 = .ok (.invokevirtual 104, 3) := by decide +kernel
theorem dX5_arrive_86 : decode cX5_arrive 86 = .ok (.ireturn, 1) := by decide +kernel
theorem dX5_berth_0 : decode cX5_berth 0 = .ok (.aload_n 0, 1) := by decide +kernel
theorem dX5_berth_1 : decode cX5_berth 1 = .ok (.getfield 7, 3) := by decide +kernel
theorem dX5_berth_4 : decode cX5_berth 4 = .ok (.bipush 12, 2) := by decide +kernel
theorem dX5_berth_6 : decode cX5_berth 6 = .ok (.iaload, 1) := by decide +kernel
theorem dX5_berth_7 : decode cX5_berth 7 = .ok (.ifCond .eq 29, 3) := by decide +kernel
theorem dX5_berth_10 : decode cX5_berth 10 = .ok (.aload_n 0, 1) := by decide +kernel
theorem dX5_berth_11 : decode cX5_berth 11 = .ok (.getfield 7, 3) := by decide +kernel
theorem dX5_berth_14 : decode cX5_berth 14 = .ok (.bipush 13, 2) := by decide +kernel
theorem dX5_berth_16 : decode cX5_berth 16 = .ok (.iaload, 1) := by decide +kernel
theorem dX5_berth_17 : decode cX5_berth 17 = .ok (.iconst 1, 1) := by decide +kernel
theorem dX5_berth_18 : decode cX5_berth 18 = .ok (.if_icmp .eq 18, 3) := by decide +kernel
theorem dX5_berth_21 : decode cX5_berth 21 = .ok (.aload_n 0, 1) := by decide +kernel
theorem dX5_berth_22 : decode cX5_berth 22 = .ok (.iconst 1, 1) := by decide +kernel
theorem dX5_berth_23 : decode cX5_berth 23 = .ok (.aload_n 0, 1) := by decide +kernel
theorem dX5_berth_24 : decode cX5_berth 24 = .ok (.getfield 7, 3) := by decide +kernel
theorem dX5_berth_27 : decode cX5_berth 27 = .ok (.bipush 6, 2) := by decide +kernel
theorem dX5_berth_29 : decode cX5_berth 29 = .ok (.iaload, 1) := by decide +kernel
theorem dX5_berth_30 : decode cX5_berth 30 = .ok (.invokevirtual 83, 3) := by decide +kernel
theorem dX5_berth_33 : decode cX5_berth 33 = .ok (.ifCond .ne 6, 3) := by decide +kernel
theorem dX5_berth_36 : decode cX5_berth 36 = .ok (.ldc 108, 2) := by decide +kernel
theorem dX5_berth_38 : decode cX5_berth 38 = .ok (.ireturn, 1) := by decide +kernel
theorem dX5_berth_39 : decode cX5_berth 39 = .ok (.aload_n 0, 1) := by decide +kernel
theorem dX5_berth_40 : decode cX5_berth 40 = .ok (.invokevirtual 100, 3) := by decide +kernel
theorem dX5_berth_43 : decode cX5_berth 43 = .ok (.iconst 0, 1) := by decide +kernel
theorem dX5_berth_44 : decode cX5_berth 44 = .ok (.istore_n 1, 1) := by decide +kernel
theorem dX5_berth_45 : decode cX5_berth 45 = .ok (.iload_n 1, 1) := by decide +kernel
theorem dX5_berth_46 : decode cX5_berth 46 = .ok (.bipush 25, 2) := by decide +kernel
theorem dX5_berth_48 : decode cX5_berth 48 = .ok (.if_icmp .ge 27, 3) := by decide +kernel
theorem dX5_berth_51 : decode cX5_berth 51 = .ok (.aload_n 0, 1) := by decide +kernel
theorem dX5_berth_52 : decode cX5_berth 52 = .ok (.getfield 7, 3) := by decide +kernel
theorem dX5_berth_55 : decode cX5_berth 55 = .ok (.bipush 50, 2) := by decide +kernel
theorem dX5_berth_57 : decode cX5_berth 57 = .ok (.iload_n 1, 1) := by decide +kernel
theorem dX5_berth_58 : decode cX5_berth 58 = .ok (.iadd, 1) := by decide +kernel
theorem dX5_berth_59 : decode cX5_berth 59 = .ok (.aload_n 0, 1) := by decide +kernel
theorem dX5_berth_60 : decode cX5_berth 60 = .ok (.getfield 7, 3) := by decide +kernel
theorem dX5_berth_63 : decode cX5_berth 63 = .ok (.bipush 55, 2) := by decide +kernel
theorem dX5_berth_65 : decode cX5_berth 65 = .ok (.iload_n 1, 1) := by decide +kernel
theorem dX5_berth_66 : decode cX5_berth 66 = .ok (.iadd, 1) := by decide +kernel
theorem dX5_berth_67 : decode cX5_berth 67 = .ok (.iaload, 1) := by decide +kernel
theorem dX5_berth_68 : decode cX5_berth 68 = .ok (.iastore, 1) := by decide +kernel
theorem dX5_berth_69 : decode cX5_berth 69 = .ok (.iinc 1 1, 3) := by decide +kernel
theorem dX5_berth_72 : decode cX5_berth 72 = .ok (.goto (-27), 3) := by decide +kernel
theorem dX5_berth_75 : decode cX5_berth 75 = .ok (.aload_n 0, 1) := by decide +kernel
theorem dX5_berth_76 : decode cX5_berth 76 = .ok (.getfield 7, 3) := by decide +kernel
theorem dX5_berth_79 : decode cX5_berth 79 = .ok (.bipush 12, 2) := by decide +kernel
theorem dX5_berth_81 : decode cX5_berth 81 = .ok (.dup2, 1) := by decide +kernel
theorem dX5_berth_82 : decode cX5_berth 82 = .ok (.iaload, 1) := by decide +kernel
theorem dX5_berth_83 : decode cX5_berth 83 = .ok (.iconst 1, 1) := by decide +kernel
theorem dX5_berth_84 : decode cX5_berth 84 = .ok (.isub, 1) := by decide +kernel
theorem dX5_berth_85 : decode cX5_berth 85 = .ok (.iastore, 1) := by decide +kernel
theorem dX5_berth_86 : decode cX5_berth 86 = .ok (.aload_n 0, 1) := by decide +kernel
theorem dX5_berth_87 : decode cX5_berth 87 = .ok (.getfield 7, 3) := by decide +kernel
theorem dX5_berth_90 : decode cX5_berth 90 = .ok (.bipush 13, 2) := by decide +kernel
theorem dX5_berth_92 : decode cX5_berth 92 = .ok (.iconst 1, 1) := by decide +kernel
theorem dX5_berth_93 : decode cX5_berth 93 = .ok (.iastore, 1) := by decide +kernel
theorem dX5_berth_94 : decode cX5_berth 94 = .ok (.aload_n 0, 1) := by decide +kernel
theorem dX5_berth_95 : decode cX5_berth 95 = .ok (.iconst 0, 1) := by decide +kernel
theorem dX5_berth_96 : decode cX5_berth 96 = .ok (.invokevirtual 49, 3) := by decide +kernel
theorem dX5_berth_99 : decode cX5_berth 99 = .ok (.ireturn, 1) := by decide +kernel
theorem dX5_leave_0 : decode cX5_leave 0 = .ok (.aload_n 0, 1) := by decide +kernel
theorem dX5_leave_1 : decode cX5_leave 1 = .ok (.getfield 7, 3) := by decide +kernel
theorem dX5_leave_4 : decode cX5_leave 4 = .ok (.bipush 13, 2) := by decide +kernel
theorem dX5_leave_6 : decode cX5_leave 6 = .ok (.iaload, 1) := by decide +kernel
theorem dX5_leave_7 : decode cX5_leave 7 = .ok (.ifCond .eq 25, 3) := by decide +kernel
theorem dX5_leave_10 : decode cX5_leave 10 = .ok (.aload_n 0, 1) := by decide +kernel
theorem dX5_leave_11 : decode cX5_leave 11 = .ok (.iconst 0, 1) := by decide +kernel
theorem dX5_leave_12 : decode cX5_leave 12 = .ok (.aload_n 0, 1) := by decide +kernel
theorem dX5_leave_13 : decode cX5_leave 13 = .ok (.getfield 7, 3) := by decide +kernel
theorem dX5_leave_16 : decode cX5_leave 16 = .ok (.bipush 6, 2) := by decide +kernel
theorem dX5_leave_18 : decode cX5_leave 18 = .ok (.iaload, 1) := by decide +kernel
theorem dX5_leave_19 : decode cX5_leave 19 = .ok (.invokevirtual 83, 3) := by decide +kernel
theorem dX5_leave_22 : decode cX5_leave 22 = .ok (.ifCond .eq 10, 3) := by decide +kernel
theorem dX5_leave_25 : decode cX5_leave 25 = .ok (.aload_n 0, 1) := by decide +kernel
theorem dX5_leave_26 : decode cX5_leave 26 = .ok (.invokevirtual 109, 3) := by decide +kernel
theorem dX5_leave_29 : decode cX5_leave 29 = .ok (.ifCond .le 6, 3) := by decide +kernel
theorem dX5_leave_32 : decode cX5_leave 32 = .ok (.ldc 108, 2) := by decide +kernel
theorem dX5_leave_34 : decode cX5_leave 34 = .ok (.ireturn, 1) := by decide +kernel
theorem dX5_leave_35 : decode cX5_leave 35 = .ok (.aload_n 0, 1) := by decide +kernel
theorem dX5_leave_36 : decode cX5_leave 36 = .ok (.invokevirtual 100, 3) := by decide +kernel
theorem dX5_leave_39 : decode cX5_leave 39 = .ok (.aload_n 0, 1) := by decide +kernel
theorem dX5_leave_40 : decode cX5_leave 40 = .ok (.iconst 0, 1) := by decide +kernel
theorem dX5_leave_41 : decode cX5_leave 41 = .ok (.invokevirtual 49, 3) := by decide +kernel
theorem dX5_leave_44 : decode cX5_leave 44 = .ok (.istore_n 1, 1) := by decide +kernel
theorem dX5_leave_45 : decode cX5_leave 45 = .ok (.aload_n 0, 1) := by decide +kernel
theorem dX5_leave_46 : decode cX5_leave 46 = .ok (.getfield 7, 3) := by decide +kernel
theorem dX5_leave_49 : decode cX5_leave 49 = .ok (.bipush 13, 2) := by decide +kernel
theorem dX5_leave_51 : decode cX5_leave 51 = .ok (.iconst 0, 1) := by decide +kernel
theorem dX5_leave_52 : decode cX5_leave 52 = .ok (.iastore, 1) := by decide +kernel
theorem dX5_leave_53 : decode cX5_leave 53 = .ok (.iload_n 1, 1) := by decide +kernel
theorem dX5_leave_54 : decode cX5_leave 54 = .ok (.ireturn, 1) := by decide +kernel
theorem dX5_reach_0 : decode cX5_reach 0 = .ok (.iload_n 1, 1) := by decide +kernel
theorem dX5_reach_1 : decode cX5_reach 1 = .ok (.invokestatic 112, 3) := by decide +kernel
theorem dX5_reach_4 : decode cX5_reach 4 = .ok (.ifCond .ne 6, 3) := by decide +kernel
theorem dX5_reach_7 : decode cX5_reach 7 = .ok (.ldc 115, 2) := by decide +kernel
theorem dX5_reach_9 : decode cX5_reach 9 = .ok (.ireturn, 1) := by decide +kernel
theorem dX5_reach_10 : decode cX5_reach 10 = .ok (.iload_n 2, 1) := by decide +kernel
theorem dX5_reach_11 : decode cX5_reach 11 = .ok (.bipush 20, 2) := by decide +kernel
theorem dX5_reach_13 : decode cX5_reach 13 = .ok (.bipush 120, 2) := by decide +kernel
theorem dX5_reach_15 : decode cX5_reach 15 = .ok (.invokestatic 59, 3) := by decide +kernel
theorem dX5_reach_18 : decode cX5_reach 18 = .ok (.ifCond .ne 6, 3) := by decide +kernel
theorem dX5_reach_21 : decode cX5_reach 21 = .ok (.ldc 99, 2) := by decide +kernel
theorem dX5_reach_23 : decode cX5_reach 23 = .ok (.ireturn, 1) := by decide +kernel
theorem dX5_reach_24 : decode cX5_reach 24 = .ok (.aload_n 0, 1) := by decide +kernel
theorem dX5_reach_25 : decode cX5_reach 25 = .ok (.invokevirtual 100, 3) := by decide +kernel
theorem dX5_reach_28 : decode cX5_reach 28 = .ok (.aload_n 0, 1) := by decide +kernel
theorem dX5_reach_29 : decode cX5_reach 29 = .ok (.iload_n 1, 1) := by decide +kernel
theorem dX5_reach_30 : decode cX5_reach 30 = .ok (.iconst 0, 1) := by decide +kernel
theorem dX5_reach_31 : decode cX5_reach 31 = .ok (.invokevirtual 63, 3) := by decide +kernel
theorem dX5_reach_34 : decode cX5_reach 34 = .ok (.istore_n 3, 1) := by decide +kernel
theorem dX5_reach_35 : decode cX5_reach 35 = .ok (.aload_n 0, 1) := by decide +kernel
theorem dX5_reach_36 : decode cX5_reach 36 = .ok (.iload_n 1, 1) := by decide +kernel
theorem dX5_reach_37 : decode cX5_reach 37 = .ok (.iconst 0, 1) := by decide +kernel
theorem dX5_reach_38 : decode cX5_reach 38 = .ok (.iload_n 2, 1) := by decide +kernel
theorem dX5_reach_39 : decode cX5_reach 39 = .ok (.invokevirtual 32, 3) := by decide +kernel
theorem dX5_reach_42 : decode cX5_reach 42 = .ok (.iload_n 3, 1) := by decide +kernel
theorem dX5_reach_43 : decode cX5_reach 43 = .ok (.ireturn, 1) := by decide +kernel
theorem dX5_canConnect_0 : decode cX5_canConnect 0 = .ok (.aload_n 0, 1) := by decide +kernel
theorem dX5_canConnect_1 : decode cX5_canConnect 1 = .ok (.getfield 7, 3) := by decide +kernel
theorem dX5_canConnect_4 : decode cX5_canConnect 4 = .ok (.bipush 13, 2) := by decide +kernel
theorem dX5_canConnect_6 : decode cX5_canConnect 6 = .ok (.iaload, 1) := by decide +kernel
theorem dX5_canConnect_7 : decode cX5_canConnect 7 = .ok (.iconst 1, 1) := by decide +kernel
theorem dX5_canConnect_8 : decode cX5_canConnect 8 = .ok (.if_icmp .ne 38, 3) := by decide +kernel
theorem dX5_canConnect_11 : decode cX5_canConnect 11 = .ok (.aload_n 0, 1) := by decide +kernel
theorem dX5_canConnect_12 : decode cX5_canConnect 12 = .ok (.iload_n 1, 1) := by decide +kernel
theorem dX5_canConnect_13 : decode cX5_canConnect 13 = .ok (.iconst 3, 1) := by decide +kernel
theorem dX5_canConnect_14 : decode cX5_canConnect 14 = .ok (.invokevirtual 63, 3) := by decide +kernel
theorem dX5_canConnect_17 : decode cX5_canConnect 17 = .ok (.ifCond .ne 29, 3) := by decide +kernel
theorem dX5_canConnect_20 : decode cX5_canConnect 20 = .ok (.aload_n 0, 1) := by decide +kernel
theorem dX5_canConnect_21 : decode cX5_canConnect 21 = .ok (.iload_n 1, 1) := by decide +kernel
theorem dX5_canConnect_22 : decode cX5_canConnect 22 = .ok (.invokevirtual 66, 3) := by decide +kernel
theorem dX5_canConnect_25 : decode cX5_canConnect 25 = .ok (.ifCond .ne 21, 3) := by decide +kernel
theorem dX5_canConnect_28 : decode cX5_canConnect 28 = .ok (.aload_n 0, 1) := by decide +kernel
theorem dX5_canConnect_29 : decode cX5_canConnect 29 = .ok (.iconst 0, 1) := by decide +kernel
theorem dX5_canConnect_30 : decode cX5_canConnect 30 = .ok (.invokevirtual 76, 3) := by decide +kernel
theorem dX5_canConnect_33 : decode cX5_canConnect 33 = .ok (.aload_n 0, 1) := by decide +kernel
theorem dX5_canConnect_34 : decode cX5_canConnect 34 = .ok (.iload_n 1, 1) := by decide +kernel
theorem dX5_canConnect_35 : decode cX5_canConnect 35 = .ok (.iconst 0, 1) := by decide +kernel
theorem dX5_canConnect_36 : decode cX5_canConnect 36 = .ok (.invokevirtual 63, 3) := by decide +kernel
theorem dX5_canConnect_39 : decode cX5_canConnect 39 = .ok (.if_icmp .gt 7, 3) := by decide +kernel
theorem dX5_canConnect_42 : decode cX5_canConnect 42 = .ok (.iconst 1, 1) := by decide +kernel
theorem dX5_canConnect_43 : decode cX5_canConnect 43 = .ok (.goto 4, 3) := by decide +kernel
theorem dX5_canConnect_46 : decode cX5_canConnect 46 = .ok (.iconst 0, 1) := by decide +kernel
theorem dX5_canConnect_47 : decode cX5_canConnect 47 = .ok (.ireturn, 1) := by decide +kernel
theorem dX5_doConnect_0 : decode cX5_doConnect 0 = .ok (.aload_n 0, 1) := by decide +kernel
theorem dX5_doConnect_1 : decode cX5_doConnect 1 = .ok (.iload_n 1, 1) := by decide +kernel
theorem dX5_doConnect_2 : decode cX5_doConnect 2 = .ok (.iconst 2, 1) := by decide +kernel
theorem dX5_doConnect_3 : decode cX5_doConnect 3 = .ok (.iload_n 2, 1) := by decide +kernel
theorem dX5_doConnect_4 : decode cX5_doConnect 4 = .ok (.invokevirtual 32, 3) := by decide +kernel
theorem dX5_doConnect_7 : decode cX5_doConnect 7 = .ok (.aload_n 0, 1) := by decide +kernel
theorem dX5_doConnect_8 : decode cX5_doConnect 8 = .ok (.invokevirtual 109, 3) := by decide +kernel
theorem dX5_doConnect_11 : decode cX5_doConnect 11 = .ok (.ireturn, 1) := by decide +kernel
theorem dX5_connect_0 : decode cX5_connect 0 = .ok (.iload_n 1, 1) := by decide +kernel
theorem dX5_connect_1 : decode cX5_connect 1 = .ok (.invokestatic 112, 3) := by decide +kernel
theorem dX5_connect_4 : decode cX5_connect 4 = .ok (.ifCond .eq 10, 3) := by decide +kernel
theorem dX5_connect_7 : decode cX5_connect 7 = .ok (.iload_n 2, 1) := by decide +kernel
theorem dX5_connect_8 : decode cX5_connect 8 = .ok (.invokestatic 116, 3) := by decide +kernel
theorem dX5_connect_11 : decode cX5_connect 11 = .ok (.ifCond .ne 6, 3) := by decide +kernel
theorem dX5_connect_14 : decode cX5_connect 14 = .ok (.ldc 115, 2) := by decide +kernel
theorem dX5_connect_16 : decode cX5_connect 16 = .ok (.ireturn, 1) := by decide +kernel
theorem dX5_connect_17 : decode cX5_connect 17 = .ok (.aload_n 0, 1) := by decide +kernel
theorem dX5_connect_18 : decode cX5_connect 18 = .ok (.iload_n 1, 1) := by decide +kernel
theorem dX5_connect_19 : decode cX5_connect 19 = .ok (.invokevirtual 119, 3) := by decide +kernel
theorem dX5_connect_22 : decode cX5_connect 22 = .ok (.ifCond .ne 6, 3) := by decide +kernel
theorem dX5_connect_25 : decode cX5_connect 25 = .ok (.ldc 108, 2) := by decide +kernel
theorem dX5_connect_27 : decode cX5_connect 27 = .ok (.ireturn, 1) := by decide +kernel
theorem dX5_connect_28 : decode cX5_connect 28 = .ok (.aload_n 0, 1) := by decide +kernel
theorem dX5_connect_29 : decode cX5_connect 29 = .ok (.invokevirtual 100, 3) := by decide +kernel
theorem dX5_connect_32 : decode cX5_connect 32 = .ok (.aload_n 0, 1) := by decide +kernel
theorem dX5_connect_33 : decode cX5_connect 33 = .ok (.iload_n 1, 1) := by decide +kernel
theorem dX5_connect_34 : decode cX5_connect 34 = .ok (.iload_n 2, 1) := by decide +kernel
theorem dX5_connect_35 : decode cX5_connect 35 = .ok (.invokevirtual 122, 3) := by decide +kernel
theorem dX5_connect_38 : decode cX5_connect 38 = .ok (.ireturn, 1) := by decide +kernel
theorem dX5_doDisconnect_0 : decode cX5_doDisconnect 0 = .ok (.aload_n 0, 1) := by decide +kernel
theorem dX5_doDisconnect_1 : decode cX5_doDisconnect 1 = .ok (.iload_n 1, 1) := by decide +kernel
theorem dX5_doDisconnect_2 : decode cX5_doDisconnect 2 = .ok (.iconst 2, 1) := by decide +kernel
theorem dX5_doDisconnect_3 : decode cX5_doDisconnect 3 = .ok (.invokevirtual 63, 3) := by decide +kernel
theorem dX5_doDisconnect_6 : decode cX5_doDisconnect 6 = .ok (.istore_n 2, 1) := by decide +kernel
theorem dX5_doDisconnect_7 : decode cX5_doDisconnect 7 = .ok (.aload_n 0, 1) := by decide +kernel
theorem dX5_doDisconnect_8 : decode cX5_doDisconnect 8 = .ok (.iload_n 1, 1) := by decide +kernel
theorem dX5_doDisconnect_9 : decode cX5_doDisconnect 9 = .ok (.iconst 2, 1) := by decide +kernel
theorem dX5_doDisconnect_10 : decode cX5_doDisconnect 10 = .ok (.ldc 36, 2) := by decide +kernel
theorem dX5_doDisconnect_12 : decode cX5_doDisconnect 12 = .ok (.invokevirtual 32, 3) := by decide +kernel
theorem dX5_doDisconnect_15 : decode cX5_doDisconnect 15 = .ok (.iload_n 2, 1) := by decide +kernel
theorem dX5_doDisconnect_16 : decode cX5_doDisconnect 16 = .ok (.ireturn, 1) := by decide +kernel
theorem dX5_disconnect_0 : decode cX5_disconnect 0 = .ok (.iload_n 1, 1) := by decide +kernel
theorem dX5_disconnect_1 : decode cX5_disconnect 1 = .ok (.invokestatic 112, 3) := by decide +kernel
theorem dX5_disconnect_4 : decode cX5_disconnect 4 = .ok (.ifCond .ne 6, 3) := by decide +kernel
theorem dX5_disconnect_7 : decode cX5_disconnect 7 = .ok (.ldc 115, 2) := by decide +kernel
theorem dX5_disconnect_9 : decode cX5_disconnect 9 = .ok (.ireturn, 1) := by decide +kernel
theorem dX5_disconnect_10 : decode cX5_disconnect 10 = .ok (.aload_n 0, 1) := by decide +kernel
theorem dX5_disconnect_11 : decode cX5_disconnect 11 = .ok (.iload_n 1, 1) := by decide +kernel
theorem dX5_disconnect_12 : decode cX5_disconnect 12 = .ok (.invokevirtual 66, 3) := by decide +kernel
theorem dX5_disconnect_15 : decode cX5_disconnect 15 = .ok (.ifCond .ne 6, 3) := by decide +kernel
theorem dX5_disconnect_18 : decode cX5_disconnect 18 = .ok (.ldc 108, 2) := by decide +kernel
theorem dX5_disconnect_20 : decode cX5_disconnect 20 = .ok (.ireturn, 1) := by decide +kernel
theorem dX5_disconnect_21 : decode cX5_disconnect 21 = .ok (.aload_n 0, 1) := by decide +kernel
theorem dX5_disconnect_22 : decode cX5_disconnect 22 = .ok (.invokevirtual 100, 3) := by decide +kernel
theorem dX5_disconnect_25 : decode cX5_disconnect 25 = .ok (.aload_n 0, 1) := by decide +kernel
theorem dX5_disconnect_26 : decode cX5_disconnect 26 = .ok (.iload_n 1, 1) := by decide +kernel
theorem dX5_disconnect_27 : decode cX5_disconnect 27 = .ok (.invokevirtual 125, 3) := by decide +kernel
theorem dX5_disconnect_30 : decode cX5_disconnect 30 = .ok (.ireturn, 1) := by decide +kernel
theorem dX5_canFlush_0 : decode cX5_canFlush 0 = .ok (.aload_n 0, 1) := by decide +kernel
theorem dX5_canFlush_1 : decode cX5_canFlush 1 = .ok (.iload_n 1, 1) := by decide +kernel
theorem dX5_canFlush_2 : decode cX5_canFlush 2 = .ok (.invokevirtual 66, 3) := by decide +kernel
theorem dX5_canFlush_5 : decode cX5_canFlush 5 = .ok (.ifCond .ne 16, 3) := by decide +kernel
theorem dX5_canFlush_8 : decode cX5_canFlush 8 = .ok (.aload_n 0, 1) := by decide +kernel
theorem dX5_canFlush_9 : decode cX5_canFlush 9 = .ok (.iload_n 1, 1) := by decide +kernel
theorem dX5_canFlush_10 : decode cX5_canFlush 10 = .ok (.iconst 1, 1) := by decide +kernel
theorem dX5_canFlush_11 : decode cX5_canFlush 11 = .ok (.invokevirtual 63, 3) := by decide +kernel
theorem dX5_canFlush_14 : decode cX5_canFlush 14 = .ok (.ifCond .lt 7, 3) := by decide +kernel
theorem dX5_canFlush_17 : decode cX5_canFlush 17 = .ok (.iconst 1, 1) := by decide +kernel
theorem dX5_canFlush_18 : decode cX5_canFlush 18 = .ok (.goto 4, 3) := by decide +kernel
theorem dX5_canFlush_21 : decode cX5_canFlush 21 = .ok (.iconst 0, 1) := by decide +kernel
theorem dX5_canFlush_22 : decode cX5_canFlush 22 = .ok (.ireturn, 1) := by decide +kernel
theorem dX5_doFlush_0 : decode cX5_doFlush 0 = .ok (.aload_n 0, 1) := by decide +kernel
theorem dX5_doFlush_1 : decode cX5_doFlush 1 = .ok (.iload_n 1, 1) := by decide +kernel
theorem dX5_doFlush_2 : decode cX5_doFlush 2 = .ok (.iconst 1, 1) := by decide +kernel
theorem dX5_doFlush_3 : decode cX5_doFlush 3 = .ok (.invokevirtual 63, 3) := by decide +kernel
theorem dX5_doFlush_6 : decode cX5_doFlush 6 = .ok (.istore_n 2, 1) := by decide +kernel
theorem dX5_doFlush_7 : decode cX5_doFlush 7 = .ok (.iconst 5, 1) := by decide +kernel
theorem dX5_doFlush_8 : decode cX5_doFlush 8 = .ok (.aload_n 0, 1) := by decide +kernel
theorem dX5_doFlush_9 : decode cX5_doFlush 9 = .ok (.getfield 7, 3) := by decide +kernel
theorem dX5_doFlush_12 : decode cX5_doFlush 12 = .ok (.bipush 14, 2) := by decide +kernel
theorem dX5_doFlush_14 : decode cX5_doFlush 14 = .ok (.iload_n 2, 1) := by decide +kernel
theorem dX5_doFlush_15 : decode cX5_doFlush 15 = .ok (.iadd, 1) := by decide +kernel
theorem dX5_doFlush_16 : decode cX5_doFlush 16 = .ok (.iaload, 1) := by decide +kernel
theorem dX5_doFlush_17 : decode cX5_doFlush 17 = .ok (.invokestatic 70, 3) := by decide +kernel
theorem dX5_doFlush_20 : decode cX5_doFlush 20 = .ok (.istore_n 3, 1) := by decide +kernel
theorem dX5_doFlush_21 : decode cX5_doFlush 21 = .ok (.aload_n 0, 1) := by decide +kernel
theorem dX5_doFlush_22 : decode cX5_doFlush 22 = .ok (.getfield 7, 3) := by decide +kernel
theorem dX5_doFlush_25 : decode cX5_doFlush 25 = .ok (.bipush 14, 2) := by decide +kernel
theorem dX5_doFlush_27 : decode cX5_doFlush 27 = .ok (.iload_n 2, 1) := by decide +kernel
theorem dX5_doFlush_28 : decode cX5_doFlush 28 = .ok (.iadd, 1) := by decide +kernel
theorem dX5_doFlush_29 : decode cX5_doFlush 29 = .ok (.dup2, 1) := by decide +kernel
theorem dX5_doFlush_30 : decode cX5_doFlush 30 = .ok (.iaload, 1) := by decide +kernel
theorem dX5_doFlush_31 : decode cX5_doFlush 31 = .ok (.iload_n 3, 1) := by decide +kernel
theorem dX5_doFlush_32 : decode cX5_doFlush 32 = .ok (.isub, 1) := by decide +kernel
theorem dX5_doFlush_33 : decode cX5_doFlush 33 = .ok (.iastore, 1) := by decide +kernel
theorem dX5_doFlush_34 : decode cX5_doFlush 34 = .ok (.aload_n 0, 1) := by decide +kernel
theorem dX5_doFlush_35 : decode cX5_doFlush 35 = .ok (.getfield 7, 3) := by decide +kernel
theorem dX5_doFlush_38 : decode cX5_doFlush 38 = .ok (.bipush 18, 2) := by decide +kernel
theorem dX5_doFlush_40 : decode cX5_doFlush 40 = .ok (.iload_n 2, 1) := by decide +kernel
theorem dX5_doFlush_41 : decode cX5_doFlush 41 = .ok (.iadd, 1) := by decide +kernel
theorem dX5_doFlush_42 : decode cX5_doFlush 42 = .ok (.dup2, 1) := by decide +kernel
theorem dX5_doFlush_43 : decode cX5_doFlush 43 = .ok (.iaload, 1) := by decide +kernel
theorem dX5_doFlush_44 : decode cX5_doFlush 44 = .ok (.iload_n 3, 1) := by decide +kernel
theorem dX5_doFlush_45 : decode cX5_doFlush 45 = .ok (.iadd, 1) := by decide +kernel
theorem dX5_doFlush_46 : decode cX5_doFlush 46 = .ok (.iastore, 1) := by decide +kernel
theorem dX5_doFlush_47 : decode cX5_doFlush 47 = .ok (.aload_n 0, 1) := by decide +kernel
theorem dX5_doFlush_48 : decode cX5_doFlush 48 = .ok (.iload_n 1, 1) := by decide +kernel
theorem dX5_doFlush_49 : decode cX5_doFlush 49 = .ok (.iconst 1, 1) := by decide +kernel
theorem dX5_doFlush_50 : decode cX5_doFlush 50 = .ok (.ldc 36, 2) := by decide +kernel
theorem dX5_doFlush_52 : decode cX5_doFlush 52 = .ok (.invokevirtual 32, 3) := by decide +kernel
theorem dX5_doFlush_55 : decode cX5_doFlush 55 = .ok (.iload_n 3, 1) := by decide +kernel
theorem dX5_doFlush_56 : decode cX5_doFlush 56 = .ok (.ireturn, 1) := by decide +kernel
theorem dX5_flush_0 : decode cX5_flush 0 = .ok (.iload_n 1, 1) := by decide +kernel
theorem dX5_flush_1 : decode cX5_flush 1 = .ok (.invokestatic 112, 3) := by decide +kernel
theorem dX5_flush_4 : decode cX5_flush 4 = .ok (.ifCond .ne 6, 3) := by decide +kernel
theorem dX5_flush_7 : decode cX5_flush 7 = .ok (.ldc 115, 2) := by decide +kernel
theorem dX5_flush_9 : decode cX5_flush 9 = .ok (.ireturn, 1) := by decide +kernel
theorem dX5_flush_10 : decode cX5_flush 10 = .ok (.aload_n 0, 1) := by decide +kernel
theorem dX5_flush_11 : decode cX5_flush 11 = .ok (.iload_n 1, 1) := by decide +kernel
theorem dX5_flush_12 : decode cX5_flush 12 = .ok (.invokevirtual 128, 3) := by decide +kernel
theorem dX5_flush_15 : decode cX5_flush 15 = .ok (.ifCond .ne 6, 3) := by decide +kernel
theorem dX5_flush_18 : decode cX5_flush 18 = .ok (.ldc 108, 2) := by decide +kernel
theorem dX5_flush_20 : decode cX5_flush 20 = .ok (.ireturn, 1) := by decide +kernel
theorem dX5_flush_21 : decode cX5_flush 21 = .ok (.aload_n 0, 1) := by decide +kernel
theorem dX5_flush_22 : decode cX5_flush 22 = .ok (.invokevirtual 100, 3) := by decide +kernel
theorem dX5_flush_25 : decode cX5_flush 25 = .ok (.aload_n 0, 1) := by decide +kernel
theorem dX5_flush_26 : decode cX5_flush 26 = .ok (.iload_n 1, 1) := by decide +kernel
theorem dX5_flush_27 : decode cX5_flush 27 = .ok (.invokevirtual 131, 3) := by decide +kernel
theorem dX5_flush_30 : decode cX5_flush 30 = .ok (.ireturn, 1) := by decide +kernel
theorem dX5_mend_0 : decode cX5_mend 0 = .ok (.iload_n 1, 1) := by decide +kernel
theorem dX5_mend_1 : decode cX5_mend 1 = .ok (.invokestatic 112, 3) := by decide +kernel
theorem dX5_mend_4 : decode cX5_mend 4 = .ok (.ifCond .ne 6, 3) := by decide +kernel
theorem dX5_mend_7 : decode cX5_mend 7 = .ok (.ldc 115, 2) := by decide +kernel
theorem dX5_mend_9 : decode cX5_mend 9 = .ok (.ireturn, 1) := by decide +kernel
theorem dX5_mend_10 : decode cX5_mend 10 = .ok (.aload_n 0, 1) := by decide +kernel
theorem dX5_mend_11 : decode cX5_mend 11 = .ok (.iload_n 1, 1) := by decide +kernel
theorem dX5_mend_12 : decode cX5_mend 12 = .ok (.iconst 3, 1) := by decide +kernel
theorem dX5_mend_13 : decode cX5_mend 13 = .ok (.invokevirtual 63, 3) := by decide +kernel
theorem dX5_mend_16 : decode cX5_mend 16 = .ok (.ifCond .ne 6, 3) := by decide +kernel
theorem dX5_mend_19 : decode cX5_mend 19 = .ok (.ldc 108, 2) := by decide +kernel
theorem dX5_mend_21 : decode cX5_mend 21 = .ok (.ireturn, 1) := by decide +kernel
theorem dX5_mend_22 : decode cX5_mend 22 = .ok (.aload_n 0, 1) := by decide +kernel
theorem dX5_mend_23 : decode cX5_mend 23 = .ok (.invokevirtual 100, 3) := by decide +kernel
theorem dX5_mend_26 : decode cX5_mend 26 = .ok (.aload_n 0, 1) := by decide +kernel
theorem dX5_mend_27 : decode cX5_mend 27 = .ok (.iload_n 1, 1) := by decide +kernel
theorem dX5_mend_28 : decode cX5_mend 28 = .ok (.iconst 3, 1) := by decide +kernel
theorem dX5_mend_29 : decode cX5_mend 29 = .ok (.iconst 0, 1) := by decide +kernel
theorem dX5_mend_30 : decode cX5_mend 30 = .ok (.invokevirtual 32, 3) := by decide +kernel
theorem dX5_mend_33 : decode cX5_mend 33 = .ok (.aload_n 0, 1) := by decide +kernel
theorem dX5_mend_34 : decode cX5_mend 34 = .ok (.iload_n 1, 1) := by decide +kernel
theorem dX5_mend_35 : decode cX5_mend 35 = .ok (.iconst 1, 1) := by decide +kernel
theorem dX5_mend_36 : decode cX5_mend 36 = .ok (.ldc 36, 2) := by decide +kernel
theorem dX5_mend_38 : decode cX5_mend 38 = .ok (.invokevirtual 32, 3) := by decide +kernel
theorem dX5_mend_41 : decode cX5_mend 41 = .ok (.aload_n 0, 1) := by decide +kernel
theorem dX5_mend_42 : decode cX5_mend 42 = .ok (.invokevirtual 134, 3) := by decide +kernel
theorem dX5_mend_45 : decode cX5_mend 45 = .ok (.ireturn, 1) := by decide +kernel
theorem dX5_boom_0 : decode cX5_boom 0 = .ok (.iload_n 1, 1) := by decide +kernel
theorem dX5_boom_1 : decode cX5_boom 1 = .ok (.aload_n 0, 1) := by decide +kernel
theorem dX5_boom_2 : decode cX5_boom 2 = .ok (.getfield 7, 3) := by decide +kernel
theorem dX5_boom_5 : decode cX5_boom 5 = .ok (.bipush 7, 2) := by decide +kernel
theorem dX5_boom_7 : decode cX5_boom 7 = .ok (.iaload, 1) := by decide +kernel
theorem dX5_boom_8 : decode cX5_boom 8 = .ok (.iconst 1, 1) := by decide +kernel
theorem dX5_boom_9 : decode cX5_boom 9 = .ok (.if_icmp .ne 7, 3) := by decide +kernel
theorem dX5_boom_12 : decode cX5_boom 12 = .ok (.iconst 1, 1) := by decide +kernel
theorem dX5_boom_13 : decode cX5_boom 13 = .ok (.goto 4, 3) := by decide +kernel
theorem dX5_boom_16 : decode cX5_boom 16 = .ok (.iconst 0, 1) := by decide +kernel
theorem dX5_boom_17 : decode cX5_boom 17 = .ok (.if_icmp .ne 6, 3) := by decide +kernel
theorem dX5_boom_20 : decode cX5_boom 20 = .ok (.ldc 108, 2) := by decide +kernel
theorem dX5_boom_22 : decode cX5_boom 22 = .ok (.ireturn, 1) := by decide +kernel
theorem dX5_boom_23 : decode cX5_boom 23 = .ok (.aload_n 0, 1) := by decide +kernel
theorem dX5_boom_24 : decode cX5_boom 24 = .ok (.invokevirtual 100, 3) := by decide +kernel
theorem dX5_boom_27 : decode cX5_boom 27 = .ok (.aload_n 0, 1) := by decide +kernel
theorem dX5_boom_28 : decode cX5_boom 28 = .ok (.getfield 7, 3) := by decide +kernel
theorem dX5_boom_31 : decode cX5_boom 31 = .ok (.bipush 8, 2) := by decide +kernel
theorem dX5_boom_33 : decode cX5_boom 33 = .ok (.iaload, 1) := by decide +kernel
theorem dX5_boom_34 : decode cX5_boom 34 = .ok (.istore_n 2, 1) := by decide +kernel
theorem dX5_boom_35 : decode cX5_boom 35 = .ok (.aload_n 0, 1) := by decide +kernel
theorem dX5_boom_36 : decode cX5_boom 36 = .ok (.getfield 7, 3) := by decide +kernel
theorem dX5_boom_39 : decode cX5_boom 39 = .ok (.bipush 10, 2) := by decide +kernel
theorem dX5_boom_41 : decode cX5_boom 41 = .ok (.dup2, 1) := by decide +kernel
theorem dX5_boom_42 : decode cX5_boom 42 = .ok (.iaload, 1) := by decide +kernel
theorem dX5_boom_43 : decode cX5_boom 43 = .ok (.iload_n 2, 1) := by decide +kernel
theorem dX5_boom_44 : decode cX5_boom 44 = .ok (.iadd, 1) := by decide +kernel
theorem dX5_boom_45 : decode cX5_boom 45 = .ok (.iastore, 1) := by decide +kernel
theorem dX5_boom_46 : decode cX5_boom 46 = .ok (.aload_n 0, 1) := by decide +kernel
theorem dX5_boom_47 : decode cX5_boom 47 = .ok (.getfield 7, 3) := by decide +kernel
theorem dX5_boom_50 : decode cX5_boom 50 = .ok (.bipush 8, 2) := by decide +kernel
theorem dX5_boom_52 : decode cX5_boom 52 = .ok (.iconst 0, 1) := by decide +kernel
theorem dX5_boom_53 : decode cX5_boom 53 = .ok (.iastore, 1) := by decide +kernel
theorem dX5_boom_54 : decode cX5_boom 54 = .ok (.aload_n 0, 1) := by decide +kernel
theorem dX5_boom_55 : decode cX5_boom 55 = .ok (.getfield 7, 3) := by decide +kernel
theorem dX5_boom_58 : decode cX5_boom 58 = .ok (.bipush 7, 2) := by decide +kernel
theorem dX5_boom_60 : decode cX5_boom 60 = .ok (.iload_n 1, 1) := by decide +kernel
theorem dX5_boom_61 : decode cX5_boom 61 = .ok (.ifCond .eq 7, 3) := by decide +kernel
theorem dX5_boom_64 : decode cX5_boom 64 = .ok (.iconst 1, 1) := by decide +kernel
theorem dX5_boom_65 : decode cX5_boom 65 = .ok (.goto 4, 3) := by decide +kernel
theorem dX5_boom_68 : decode cX5_boom 68 = .ok (.iconst 0, 1) := by decide +kernel
theorem dX5_boom_69 : decode cX5_boom 69 = .ok (.iastore, 1) := by decide +kernel
theorem dX5_boom_70 : decode cX5_boom 70 = .ok (.iload_n 2, 1) := by decide +kernel
theorem dX5_boom_71 : decode cX5_boom 71 = .ok (.ireturn, 1) := by decide +kernel
theorem dX5_draw_0 : decode cX5_draw 0 = .ok (.iload_n 1, 1) := by decide +kernel
theorem dX5_draw_1 : decode cX5_draw 1 = .ok (.invokestatic 116, 3) := by decide +kernel
theorem dX5_draw_4 : decode cX5_draw 4 = .ok (.ifCond .ne 6, 3) := by decide +kernel
theorem dX5_draw_7 : decode cX5_draw 7 = .ok (.ldc 115, 2) := by decide +kernel
theorem dX5_draw_9 : decode cX5_draw 9 = .ok (.ireturn, 1) := by decide +kernel
theorem dX5_draw_10 : decode cX5_draw 10 = .ok (.iload_n 2, 1) := by decide +kernel
theorem dX5_draw_11 : decode cX5_draw 11 = .ok (.iconst 1, 1) := by decide +kernel
theorem dX5_draw_12 : decode cX5_draw 12 = .ok (.sipush 1000, 3) := by decide +kernel
theorem dX5_draw_15 : decode cX5_draw 15 = .ok (.invokestatic 59, 3) := by decide +kernel
theorem dX5_draw_18 : decode cX5_draw 18 = .ok (.ifCond .ne 6, 3) := by decide +kernel
theorem dX5_draw_21 : decode cX5_draw 21 = .ok (.ldc 99, 2) := by decide +kernel
theorem dX5_draw_23 : decode cX5_draw 23 = .ok (.ireturn, 1) := by decide +kernel
theorem dX5_draw_24 : decode cX5_draw 24 = .ok (.aload_n 0, 1) := by decide +kernel
theorem dX5_draw_25 : decode cX5_draw 25 = .ok (.getfield 7, 3) := by decide +kernel
theorem dX5_draw_28 : decode cX5_draw 28 = .ok (.bipush 14, 2) := by decide +kernel
theorem dX5_draw_30 : decode cX5_draw 30 = .ok (.iload_n 1, 1) := by decide +kernel
theorem dX5_draw_31 : decode cX5_draw 31 = .ok (.iadd, 1) := by decide +kernel
theorem dX5_draw_32 : decode cX5_draw 32 = .ok (.iaload, 1) := by decide +kernel
theorem dX5_draw_33 : decode cX5_draw 33 = .ok (.iload_n 2, 1) := by decide +kernel
theorem dX5_draw_34 : decode cX5_draw 34 = .ok (.if_icmp .ge 6, 3) := by decide +kernel
theorem dX5_draw_37 : decode cX5_draw 37 = .ok (.ldc 108, 2) := by decide +kernel
theorem dX5_draw_39 : decode cX5_draw 39 = .ok (.ireturn, 1) := by decide +kernel
theorem dX5_draw_40 : decode cX5_draw 40 = .ok (.aload_n 0, 1) := by decide +kernel
theorem dX5_draw_41 : decode cX5_draw 41 = .ok (.invokevirtual 100, 3) := by decide +kernel
theorem dX5_draw_44 : decode cX5_draw 44 = .ok (.aload_n 0, 1) := by decide +kernel
theorem dX5_draw_45 : decode cX5_draw 45 = .ok (.getfield 7, 3) := by decide +kernel
theorem dX5_draw_48 : decode cX5_draw 48 = .ok (.bipush 14, 2) := by decide +kernel
theorem dX5_draw_50 : decode cX5_draw 50 = .ok (.iload_n 1, 1) := by decide +kernel
theorem dX5_draw_51 : decode cX5_draw 51 = .ok (.iadd, 1) := by decide +kernel
theorem dX5_draw_52 : decode cX5_draw 52 = .ok (.dup2, 1) := by decide +kernel
theorem dX5_draw_53 : decode cX5_draw 53 = .ok (.iaload, 1) := by decide +kernel
theorem dX5_draw_54 : decode cX5_draw 54 = .ok (.iload_n 2, 1) := by decide +kernel
theorem dX5_draw_55 : decode cX5_draw 55 = .ok (.isub, 1) := by decide +kernel
theorem dX5_draw_56 : decode cX5_draw 56 = .ok (.iastore, 1) := by decide +kernel
theorem dX5_draw_57 : decode cX5_draw 57 = .ok (.aload_n 0, 1) := by decide +kernel
theorem dX5_draw_58 : decode cX5_draw 58 = .ok (.getfield 7, 3) := by decide +kernel
theorem dX5_draw_61 : decode cX5_draw 61 = .ok (.bipush 14, 2) := by decide +kernel
theorem dX5_draw_63 : decode cX5_draw 63 = .ok (.iload_n 1, 1) := by decide +kernel
theorem dX5_draw_64 : decode cX5_draw 64 = .ok (.iadd, 1) := by decide +kernel
theorem dX5_draw_65 : decode cX5_draw 65 = .ok (.iaload, 1) := by decide +kernel
theorem dX5_draw_66 : decode cX5_draw 66 = .ok (.ireturn, 1) := by decide +kernel
theorem dX5_doPass_0 : decode cX5_doPass 0 = .ok (.iconst 0, 1) := by decide +kernel
theorem dX5_doPass_1 : decode cX5_doPass 1 = .ok (.istore_n 2, 1) := by decide +kernel
theorem dX5_doPass_2 : decode cX5_doPass 2 = .ok (.iconst 0, 1) := by decide +kernel
theorem dX5_doPass_3 : decode cX5_doPass 3 = .ok (.istore_n 3, 1) := by decide +kernel
theorem dX5_doPass_4 : decode cX5_doPass 4 = .ok (.iload_n 3, 1) := by decide +kernel
theorem dX5_doPass_5 : decode cX5_doPass 5 = .ok (.iload_n 1, 1) := by decide +kernel
theorem dX5_doPass_6 : decode cX5_doPass 6 = .ok (.if_icmp .ge 16, 3) := by decide +kernel
theorem dX5_doPass_9 : decode cX5_doPass 9 = .ok (.iload_n 2, 1) := by decide +kernel
theorem dX5_doPass_10 : decode cX5_doPass 10 = .ok (.aload_n 0, 1) := by decide +kernel
theorem dX5_doPass_11 : decode cX5_doPass 11 = .ok (.invokevirtual 137, 3) := by decide +kernel
theorem dX5_doPass_14 : decode cX5_doPass 14 = .ok (.iadd, 1) := by decide +kernel
theorem dX5_doPass_15 : decode cX5_doPass 15 = .ok (.istore_n 2, 1) := by decide +kernel
theorem dX5_doPass_16 : decode cX5_doPass 16 = .ok (.iinc 3 1, 3) := by decide +kernel
theorem dX5_doPass_19 : decode cX5_doPass 19 = .ok (.goto (-15), 3) := by decide +kernel
theorem dX5_doPass_22 : decode cX5_doPass 22 = .ok (.iload_n 2, 1) := by decide +kernel
theorem dX5_doPass_23 : decode cX5_doPass 23 = .ok (.ireturn, 1) := by decide +kernel
theorem dX5_pass_0 : decode cX5_pass 0 = .ok (.iload_n 1, 1) := by decide +kernel
theorem dX5_pass_1 : decode cX5_pass 1 = .ok (.iconst 1, 1) := by decide +kernel
theorem dX5_pass_2 : decode cX5_pass 2 = .ok (.bipush 48, 2) := by decide +kernel
theorem dX5_pass_4 : decode cX5_pass 4 = .ok (.invokestatic 59, 3) := by decide +kernel
theorem dX5_pass_7 : decode cX5_pass 7 = .ok (.ifCond .ne 6, 3) := by decide +kernel
theorem dX5_pass_10 : decode cX5_pass 10 = .ok (.ldc 99, 2) := by decide +kernel
theorem dX5_pass_12 : decode cX5_pass 12 = .ok (.ireturn, 1) := by decide +kernel
theorem dX5_pass_13 : decode cX5_pass 13 = .ok (.aload_n 0, 1) := by decide +kernel
theorem dX5_pass_14 : decode cX5_pass 14 = .ok (.getfield 7, 3) := by decide +kernel
theorem dX5_pass_17 : decode cX5_pass 17 = .ok (.bipush 6, 2) := by decide +kernel
theorem dX5_pass_19 : decode cX5_pass 19 = .ok (.iaload, 1) := by decide +kernel
theorem dX5_pass_20 : decode cX5_pass 20 = .ok (.iload_n 1, 1) := by decide +kernel
theorem dX5_pass_21 : decode cX5_pass 21 = .ok (.iadd, 1) := by decide +kernel
theorem dX5_pass_22 : decode cX5_pass 22 = .ok (.sipush 9999, 3) := by decide +kernel
theorem dX5_pass_25 : decode cX5_pass 25 = .ok (.if_icmp .le 6, 3) := by decide +kernel
theorem dX5_pass_28 : decode cX5_pass 28 = .ok (.ldc 103, 2) := by decide +kernel
theorem dX5_pass_30 : decode cX5_pass 30 = .ok (.ireturn, 1) := by decide +kernel
theorem dX5_pass_31 : decode cX5_pass 31 = .ok (.aload_n 0, 1) := by decide +kernel
theorem dX5_pass_32 : decode cX5_pass 32 = .ok (.invokevirtual 100, 3) := by decide +kernel
theorem dX5_pass_35 : decode cX5_pass 35 = .ok (.aload_n 0, 1) := by decide +kernel
theorem dX5_pass_36 : decode cX5_pass 36 = .ok (.iload_n 1, 1) := by decide +kernel
theorem dX5_pass_37 : decode cX5_pass 37 = .ok (.invokevirtual 140, 3) := by decide +kernel
theorem dX5_pass_40 : decode cX5_pass 40 = .ok (.ireturn, 1) := by decide +kernel
theorem dX5_tanker_0 : decode cX5_tanker 0 = .ok (.iload_n 2, 1) := by decide +kernel
theorem dX5_tanker_1 : decode cX5_tanker 1 = .ok (.iconst 0, 1) := by decide +kernel
theorem dX5_tanker_2 : decode cX5_tanker 2 = .ok (.bipush 7, 2) := by decide +kernel
theorem dX5_tanker_4 : decode cX5_tanker 4 = .ok (.invokestatic 59, 3) := by decide +kernel
theorem dX5_tanker_7 : decode cX5_tanker 7 = .ok (.ifCond .ne 6, 3) := by decide +kernel
theorem dX5_tanker_10 : decode cX5_tanker 10 = .ok (.ldc 99, 2) := by decide +kernel
theorem dX5_tanker_12 : decode cX5_tanker 12 = .ok (.ireturn, 1) := by decide +kernel
theorem dX5_tanker_13 : decode cX5_tanker 13 = .ok (.aload_n 0, 1) := by decide +kernel
theorem dX5_tanker_14 : decode cX5_tanker 14 = .ok (.iload_n 1, 1) := by decide +kernel
theorem dX5_tanker_15 : decode cX5_tanker 15 = .ok (.invokevirtual 90, 3) := by decide +kernel
theorem dX5_tanker_18 : decode cX5_tanker 18 = .ok (.ifCond .ne 6, 3) := by decide +kernel
theorem dX5_tanker_21 : decode cX5_tanker 21 = .ok (.ldc 115, 2) := by decide +kernel
theorem dX5_tanker_23 : decode cX5_tanker 23 = .ok (.ireturn, 1) := by decide +kernel
theorem dX5_tanker_24 : decode cX5_tanker 24 = .ok (.iload_n 2, 1) := by decide +kernel
theorem dX5_tanker_25 : decode cX5_tanker 25 = .ok (.tableswitch 79 4 7 #[31, 37, 43, 64], 31) := by decide +kernel
theorem dX5_tanker_56 : decode cX5_tanker 56 = .ok (.aload_n 0, 1) := by decide +kernel
theorem dX5_tanker_57 : decode cX5_tanker 57 = .ok (.iload_n 1, 1) := by decide +kernel
theorem dX5_tanker_58 : decode cX5_tanker 58 = .ok (.invokevirtual 56, 3) := by decide +kernel
theorem dX5_tanker_61 : decode cX5_tanker 61 = .ok (.ireturn, 1) := by decide +kernel
theorem dX5_tanker_62 : decode cX5_tanker 62 = .ok (.aload_n 0, 1) := by decide +kernel
theorem dX5_tanker_63 : decode cX5_tanker 63 = .ok (.iload_n 1, 1) := by decide +kernel
theorem dX5_tanker_64 : decode cX5_tanker 64 = .ok (.invokevirtual 76, 3) := by decide +kernel
theorem dX5_tanker_67 : decode cX5_tanker 67 = .ok (.ireturn, 1) := by decide +kernel
theorem dX5_tanker_68 : decode cX5_tanker 68 = .ok (.aload_n 0, 1) := by decide +kernel
theorem dX5_tanker_69 : decode cX5_tanker 69 = .ok (.iload_n 1, 1) := by decide +kernel
theorem dX5_tanker_70 : decode cX5_tanker 70 = .ok (.aload_n 0, 1) := by decide +kernel
theorem dX5_tanker_71 : decode cX5_tanker 71 = .ok (.getfield 7, 3) := by decide +kernel
theorem dX5_tanker_74 : decode cX5_tanker 74 = .ok (.bipush 6, 2) := by decide +kernel
theorem dX5_tanker_76 : decode cX5_tanker 76 = .ok (.iaload, 1) := by decide +kernel
theorem dX5_tanker_77 : decode cX5_tanker 77 = .ok (.invokevirtual 83, 3) := by decide +kernel
theorem dX5_tanker_80 : decode cX5_tanker 80 = .ok (.ifCond .eq 7, 3) := by decide +kernel
theorem dX5_tanker_83 : decode cX5_tanker 83 = .ok (.iconst 1, 1) := by decide +kernel
theorem dX5_tanker_84 : decode cX5_tanker 84 = .ok (.goto 4, 3) := by decide +kernel
theorem dX5_tanker_87 : decode cX5_tanker 87 = .ok (.iconst 0, 1) := by decide +kernel
theorem dX5_tanker_88 : decode cX5_tanker 88 = .ok (.ireturn, 1) := by decide +kernel
theorem dX5_tanker_89 : decode cX5_tanker 89 = .ok (.aload_n 0, 1) := by decide +kernel
theorem dX5_tanker_90 : decode cX5_tanker 90 = .ok (.getfield 7, 3) := by decide +kernel
theorem dX5_tanker_93 : decode cX5_tanker 93 = .ok (.bipush 6, 2) := by decide +kernel
theorem dX5_tanker_95 : decode cX5_tanker 95 = .ok (.iaload, 1) := by decide +kernel
theorem dX5_tanker_96 : decode cX5_tanker 96 = .ok (.aload_n 0, 1) := by decide +kernel
theorem dX5_tanker_97 : decode cX5_tanker 97 = .ok (.iload_n 1, 1) := by decide +kernel
theorem dX5_tanker_98 : decode cX5_tanker 98 = .ok (.iconst 4, 1) := by decide +kernel
theorem dX5_tanker_99 : decode cX5_tanker 99 = .ok (.invokevirtual 45, 3) := by decide +kernel
theorem dX5_tanker_102 : decode cX5_tanker 102 = .ok (.isub, 1) := by decide +kernel
theorem dX5_tanker_103 : decode cX5_tanker 103 = .ok (.ireturn, 1) := by decide +kernel
theorem dX5_tanker_104 : decode cX5_tanker 104 = .ok (.aload_n 0, 1) := by decide +kernel
theorem dX5_tanker_105 : decode cX5_tanker 105 = .ok (.iload_n 1, 1) := by decide +kernel
theorem dX5_tanker_106 : decode cX5_tanker 106 = .ok (.iload_n 2, 1) := by decide +kernel
theorem dX5_tanker_107 : decode cX5_tanker 107 = .ok (.invokevirtual 45, 3) := by decide +kernel
theorem dX5_tanker_110 : decode cX5_tanker 110 = .ok (.ireturn, 1) := by decide +kernel
theorem dX5_hose_0 : decode cX5_hose 0 = .ok (.iload_n 1, 1) := by decide +kernel
theorem dX5_hose_1 : decode cX5_hose 1 = .ok (.invokestatic 112, 3) := by decide +kernel
theorem dX5_hose_4 : decode cX5_hose 4 = .ok (.ifCond .ne 6, 3) := by decide +kernel
theorem dX5_hose_7 : decode cX5_hose 7 = .ok (.ldc 115, 2) := by decide +kernel
theorem dX5_hose_9 : decode cX5_hose 9 = .ok (.ireturn, 1) := by decide +kernel
theorem dX5_hose_10 : decode cX5_hose 10 = .ok (.iload_n 2, 1) := by decide +kernel
theorem dX5_hose_11 : decode cX5_hose 11 = .ok (.iconst 0, 1) := by decide +kernel
theorem dX5_hose_12 : decode cX5_hose 12 = .ok (.iconst 5, 1) := by decide +kernel
theorem dX5_hose_13 : decode cX5_hose 13 = .ok (.invokestatic 59, 3) := by decide +kernel
theorem dX5_hose_16 : decode cX5_hose 16 = .ok (.ifCond .eq 12, 3) := by decide +kernel
theorem dX5_hose_19 : decode cX5_hose 19 = .ok (.aload_n 0, 1) := by decide +kernel
theorem dX5_hose_20 : decode cX5_hose 20 = .ok (.iload_n 1, 1) := by decide +kernel
theorem dX5_hose_21 : decode cX5_hose 21 = .ok (.iload_n 2, 1) := by decide +kernel
theorem dX5_hose_22 : decode cX5_hose 22 = .ok (.invokevirtual 63, 3) := by decide +kernel
theorem dX5_hose_25 : decode cX5_hose 25 = .ok (.goto 5, 3) := by decide +kernel
theorem dX5_hose_28 : decode cX5_hose 28 = .ok (.ldc 99, 2) := by decide +kernel
theorem dX5_hose_30 : decode cX5_hose 30 = .ok (.ireturn, 1) := by decide +kernel
theorem dX5_grade_0 : decode cX5_grade 0 = .ok (.iload_n 1, 1) := by decide +kernel
theorem dX5_grade_1 : decode cX5_grade 1 = .ok (.invokestatic 116, 3) := by decide +kernel
theorem dX5_grade_4 : decode cX5_grade 4 = .ok (.ifCond .ne 6, 3) := by decide +kernel
theorem dX5_grade_7 : decode cX5_grade 7 = .ok (.ldc 115, 2) := by decide +kernel
theorem dX5_grade_9 : decode cX5_grade 9 = .ok (.ireturn, 1) := by decide +kernel
theorem dX5_grade_10 : decode cX5_grade 10 = .ok (.iload_n 2, 1) := by decide +kernel
theorem dX5_grade_11 : decode cX5_grade 11 = .ok (.iconst 0, 1) := by decide +kernel
theorem dX5_grade_12 : decode cX5_grade 12 = .ok (.iconst 3, 1) := by decide +kernel
theorem dX5_grade_13 : decode cX5_grade 13 = .ok (.invokestatic 59, 3) := by decide +kernel
theorem dX5_grade_16 : decode cX5_grade 16 = .ok (.ifCond .ne 6, 3) := by decide +kernel
theorem dX5_grade_19 : decode cX5_grade 19 = .ok (.ldc 99, 2) := by decide +kernel
theorem dX5_grade_21 : decode cX5_grade 21 = .ok (.ireturn, 1) := by decide +kernel
theorem dX5_grade_22 : decode cX5_grade 22 = .ok (.iload_n 2, 1) := by decide +kernel
theorem dX5_grade_23 : decode cX5_grade 23 = .ok (.iconst 1, 1) := by decide +kernel
theorem dX5_grade_24 : decode cX5_grade 24 = .ok (.if_icmp .ne 51, 3) := by decide +kernel
theorem dX5_grade_27 : decode cX5_grade 27 = .ok (.iconst 0, 1) := by decide +kernel
theorem dX5_grade_28 : decode cX5_grade 28 = .ok (.istore_n 3, 1) := by decide +kernel
theorem dX5_grade_29 : decode cX5_grade 29 = .ok (.iconst 0, 1) := by decide +kernel
theorem dX5_grade_30 : decode cX5_grade 30 = .ok (.istore 4, 2) := by decide +kernel
theorem dX5_grade_32 : decode cX5_grade 32 = .ok (.iload 4, 2) := by decide +kernel
theorem dX5_grade_34 : decode cX5_grade 34 = .ok (.aload_n 0, 1) := by decide +kernel
theorem dX5_grade_35 : decode cX5_grade 35 = .ok (.getfield 7, 3) := by decide +kernel
theorem dX5_grade_38 : decode cX5_grade 38 = .ok (.bipush 12, 2) := by decide +kernel
theorem dX5_grade_40 : decode cX5_grade 40 = .ok (.iaload, 1) := by decide +kernel
theorem dX5_grade_41 : decode cX5_grade 41 = .ok (.if_icmp .gt 32, 3) := by decide +kernel
theorem dX5_grade_44 : decode cX5_grade 44 = .ok (.iload_n 3, 1) := by decide +kernel
theorem dX5_grade_45 : decode cX5_grade 45 = .ok (.aload_n 0, 1) := by decide +kernel
theorem dX5_grade_46 : decode cX5_grade 46 = .ok (.iload 4, 2) := by decide +kernel
theorem dX5_grade_48 : decode cX5_grade 48 = .ok (.invokevirtual 90, 3) := by decide +kernel
theorem dX5_grade_51 : decode cX5_grade 51 = .ok (.ifCond .eq 13, 3) := by decide +kernel
theorem dX5_grade_54 : decode cX5_grade 54 = .ok (.aload_n 0, 1) := by decide +kernel
theorem dX5_grade_55 : decode cX5_grade 55 = .ok (.iload 4, 2) := by decide +kernel
theorem dX5_grade_57 : decode cX5_grade 57 = .ok (.iload_n 1, 1) := by decide +kernel
theorem dX5_grade_58 : decode cX5_grade 58 = .ok (.invokevirtual 45, 3) := by decide +kernel
theorem dX5_grade_61 : decode cX5_grade 61 = .ok (.goto 4, 3) := by decide +kernel
theorem dX5_grade_64 : decode cX5_grade 64 = .ok (.iconst 0, 1) := by decide +kernel
theorem dX5_grade_65 : decode cX5_grade 65 = .ok (.iadd, 1) := by decide +kernel
theorem dX5_grade_66 : decode cX5_grade 66 = .ok (.istore_n 3, 1) := by decide +kernel
theorem dX5_grade_67 : decode cX5_grade 67 = .ok (.iinc 4 1, 3) := by decide +kernel
theorem dX5_grade_70 : decode cX5_grade 70 = .ok (.goto (-38), 3) := by decide +kernel
theorem dX5_grade_73 : decode cX5_grade 73 = .ok (.iload_n 3, 1) := by decide +kernel
theorem dX5_grade_74 : decode cX5_grade 74 = .ok (.ireturn, 1) := by decide +kernel
theorem dX5_grade_75 : decode cX5_grade 75 = .ok (.iload_n 2, 1) := by decide +kernel
theorem dX5_grade_76 : decode cX5_grade 76 = .ok (.ifCond .ne 15, 3) := by decide +kernel
theorem dX5_grade_79 : decode cX5_grade 79 = .ok (.aload_n 0, 1) := by decide +kernel
theorem dX5_grade_80 : decode cX5_grade 80 = .ok (.getfield 7, 3) := by decide +kernel
theorem dX5_grade_83 : decode cX5_grade 83 = .ok (.bipush 14, 2) := by decide +kernel
theorem dX5_grade_85 : decode cX5_grade 85 = .ok (.iload_n 1, 1) := by decide +kernel
theorem dX5_grade_86 : decode cX5_grade 86 = .ok (.iadd, 1) := by decide +kernel
theorem dX5_grade_87 : decode cX5_grade 87 = .ok (.iaload, 1) := by decide +kernel
theorem dX5_grade_88 : decode cX5_grade 88 = .ok (.goto 29, 3) := by decide +kernel
theorem dX5_grade_91 : decode cX5_grade 91 = .ok (.iload_n 2, 1) := by decide +kernel
theorem dX5_grade_92 : decode cX5_grade 92 = .ok (.iconst 2, 1) := by decide +kernel
theorem dX5_grade_93 : decode cX5_grade 93 = .ok (.if_icmp .ne 15, 3) := by decide +kernel
theorem dX5_grade_96 : decode cX5_grade 96 = .ok (.aload_n 0, 1) := by decide +kernel
theorem dX5_grade_97 : decode cX5_grade 97 = .ok (.getfield 7, 3) := by decide +kernel
theorem dX5_grade_100 : decode cX5_grade 100 = .ok (.bipush 18, 2) := by decide +kernel
theorem dX5_grade_102 : decode cX5_grade 102 = .ok (.iload_n 1, 1) := by decide +kernel
theorem dX5_grade_103 : decode cX5_grade 103 = .ok (.iadd, 1) := by decide +kernel
theorem dX5_grade_104 : decode cX5_grade 104 = .ok (.iaload, 1) := by decide +kernel
theorem dX5_grade_105 : decode cX5_grade 105 = .ok (.goto 12, 3) := by decide +kernel
theorem dX5_grade_108 : decode cX5_grade 108 = .ok (.aload_n 0, 1) := by decide +kernel
theorem dX5_grade_109 : decode cX5_grade 109 = .ok (.getfield 7, 3) := by decide +kernel
theorem dX5_grade_112 : decode cX5_grade 112 = .ok (.bipush 22, 2) := by decide +kernel
theorem dX5_grade_114 : decode cX5_grade 114 = .ok (.iload_n 1, 1) := by decide +kernel
theorem dX5_grade_115 : decode cX5_grade 115 = .ok (.iadd, 1) := by decide +kernel
theorem dX5_grade_116 : decode cX5_grade 116 = .ok (.iaload, 1) := by decide +kernel
theorem dX5_grade_117 : decode cX5_grade 117 = .ok (.ireturn, 1) := by decide +kernel
theorem dX5_count_0 : decode cX5_count 0 = .ok (.iload_n 1, 1) := by decide +kernel
theorem dX5_count_1 : decode cX5_count 1 = .ok (.iconst 0, 1) := by decide +kernel
theorem dX5_count_2 : decode cX5_count 2 = .ok (.bipush 6, 2) := by decide +kernel
theorem dX5_count_4 : decode cX5_count 4 = .ok (.invokestatic 59, 3) := by decide +kernel
theorem dX5_count_7 : decode cX5_count 7 = .ok (.ifCond .eq 10, 3) := by decide +kernel
theorem dX5_count_10 : decode cX5_count 10 = .ok (.aload_n 0, 1) := by decide +kernel
theorem dX5_count_11 : decode cX5_count 11 = .ok (.getfield 7, 3) := by decide +kernel
theorem dX5_count_14 : decode cX5_count 14 = .ok (.iload_n 1, 1) := by decide +kernel
theorem dX5_count_15 : decode cX5_count 15 = .ok (.iaload, 1) := by decide +kernel
theorem dX5_count_16 : decode cX5_count 16 = .ok (.ireturn, 1) := by decide +kernel
theorem dX5_count_17 : decode cX5_count 17 = .ok (.iload_n 1, 1) := by decide +kernel
theorem dX5_count_18 : decode cX5_count 18 = .ok (.tableswitch 159 7 19 #[66, 71, 83, 91, 99, 104, 109, 117, 125, 133, 141, 149, 154], 66) := by decide +kernel
theorem dX5_count_84 : decode cX5_count 84 = .ok (.aload_n 0, 1) := by decide +kernel
theorem dX5_count_85 : decode cX5_count 85 = .ok (.invokevirtual 52, 3) := by decide +kernel
theorem dX5_count_88 : decode cX5_count 88 = .ok (.ireturn, 1) := by decide +kernel
theorem dX5_count_89 : decode cX5_count 89 = .ok (.aload_n 0, 1) := by decide +kernel
theorem dX5_count_90 : decode cX5_count 90 = .ok (.getfield 7, 3) := by decide +kernel
theorem dX5_count_93 : decode cX5_count 93 = .ok (.iconst 0, 1) := by decide +kernel
theorem dX5_count_94 : decode cX5_count 94 = .ok (.iaload, 1) := by decide +kernel
theorem dX5_count_95 : decode cX5_count 95 = .ok (.aload_n 0, 1) := by decide +kernel
theorem dX5_count_96 : decode cX5_count 96 = .ok (.invokevirtual 52, 3) := by decide +kernel
theorem dX5_count_99 : decode cX5_count 99 = .ok (.iadd, 1) := by decide +kernel
theorem dX5_count_100 : decode cX5_count 100 = .ok (.ireturn, 1) := by decide +kernel
theorem dX5_count_101 : decode cX5_count 101 = .ok (.aload_n 0, 1) := by decide +kernel
theorem dX5_count_102 : decode cX5_count 102 = .ok (.getfield 7, 3) := by decide +kernel
theorem dX5_count_105 : decode cX5_count 105 = .ok (.bipush 12, 2) := by decide +kernel
theorem dX5_count_107 : decode cX5_count 107 = .ok (.iaload, 1) := by decide +kernel
theorem dX5_count_108 : decode cX5_count 108 = .ok (.ireturn, 1) := by decide +kernel
theorem dX5_count_109 : decode cX5_count 109 = .ok (.aload_n 0, 1) := by decide +kernel
theorem dX5_count_110 : decode cX5_count 110 = .ok (.getfield 7, 3) := by decide +kernel
theorem dX5_count_113 : decode cX5_count 113 = .ok (.bipush 13, 2) := by decide +kernel
theorem dX5_count_115 : decode cX5_count 115 = .ok (.iaload, 1) := by decide +kernel
theorem dX5_count_116 : decode cX5_count 116 = .ok (.ireturn, 1) := by decide +kernel
theorem dX5_count_117 : decode cX5_count 117 = .ok (.aload_n 0, 1) := by decide +kernel
theorem dX5_count_118 : decode cX5_count 118 = .ok (.invokevirtual 109, 3) := by decide +kernel
theorem dX5_count_121 : decode cX5_count 121 = .ok (.ireturn, 1) := by decide +kernel
theorem dX5_count_122 : decode cX5_count 122 = .ok (.aload_n 0, 1) := by decide +kernel
theorem dX5_count_123 : decode cX5_count 123 = .ok (.invokevirtual 134, 3) := by decide +kernel
theorem dX5_count_126 : decode cX5_count 126 = .ok (.ireturn, 1) := by decide +kernel
theorem dX5_count_127 : decode cX5_count 127 = .ok (.aload_n 0, 1) := by decide +kernel
theorem dX5_count_128 : decode cX5_count 128 = .ok (.getfield 7, 3) := by decide +kernel
theorem dX5_count_131 : decode cX5_count 131 = .ok (.bipush 7, 2) := by decide +kernel
theorem dX5_count_133 : decode cX5_count 133 = .ok (.iaload, 1) := by decide +kernel
theorem dX5_count_134 : decode cX5_count 134 = .ok (.ireturn, 1) := by decide +kernel
theorem dX5_count_135 : decode cX5_count 135 = .ok (.aload_n 0, 1) := by decide +kernel
theorem dX5_count_136 : decode cX5_count 136 = .ok (.getfield 7, 3) := by decide +kernel
theorem dX5_count_139 : decode cX5_count 139 = .ok (.bipush 8, 2) := by decide +kernel
theorem dX5_count_141 : decode cX5_count 141 = .ok (.iaload, 1) := by decide +kernel
theorem dX5_count_142 : decode cX5_count 142 = .ok (.ireturn, 1) := by decide +kernel
theorem dX5_count_143 : decode cX5_count 143 = .ok (.aload_n 0, 1) := by decide +kernel
theorem dX5_count_144 : decode cX5_count 144 = .ok (.getfield 7, 3) := by decide +kernel
theorem dX5_count_147 : decode cX5_count 147 = .ok (.bipush 9, 2) := by decide +kernel
theorem dX5_count_149 : decode cX5_count 149 = .ok (.iaload, 1) := by decide +kernel
theorem dX5_count_150 : decode cX5_count 150 = .ok (.ireturn, 1) := by decide +kernel
theorem dX5_count_151 : decode cX5_count 151 = .ok (.aload_n 0, 1) := by decide +kernel
theorem dX5_count_152 : decode cX5_count 152 = .ok (.getfield 7, 3) := by decide +kernel
theorem dX5_count_155 : decode cX5_count 155 = .ok (.bipush 10, 2) := by decide +kernel
theorem dX5_count_157 : decode cX5_count 157 = .ok (.iaload, 1) := by decide +kernel
theorem dX5_count_158 : decode cX5_count 158 = .ok (.ireturn, 1) := by decide +kernel
theorem dX5_count_159 : decode cX5_count 159 = .ok (.aload_n 0, 1) := by decide +kernel
theorem dX5_count_160 : decode cX5_count 160 = .ok (.getfield 7, 3) := by decide +kernel
theorem dX5_count_163 : decode cX5_count 163 = .ok (.bipush 11, 2) := by decide +kernel
theorem dX5_count_165 : decode cX5_count 165 = .ok (.iaload, 1) := by decide +kernel
theorem dX5_count_166 : decode cX5_count 166 = .ok (.ireturn, 1) := by decide +kernel
theorem dX5_count_167 : decode cX5_count 167 = .ok (.aload_n 0, 1) := by decide +kernel
theorem dX5_count_168 : decode cX5_count 168 = .ok (.getfield 143, 3) := by decide +kernel
theorem dX5_count_171 : decode cX5_count 171 = .ok (.ireturn, 1) := by decide +kernel
theorem dX5_count_172 : decode cX5_count 172 = .ok (.aload_n 0, 1) := by decide +kernel
theorem dX5_count_173 : decode cX5_count 173 = .ok (.getfield 37, 3) := by decide +kernel
theorem dX5_count_176 : decode cX5_count 176 = .ok (.ireturn, 1) := by decide +kernel
theorem dX5_count_177 : decode cX5_count 177 = .ok (.ldc 99, 2) := by decide +kernel
theorem dX5_count_179 : decode cX5_count 179 = .ok (.ireturn, 1) := by decide +kernel
theorem dX5_tide_0 : decode cX5_tide 0 = .ok (.iload_n 1, 1) := by decide +kernel
theorem dX5_tide_1 : decode cX5_tide 1 = .ok (.ifCond .ge 8, 3) := by decide +kernel
theorem dX5_tide_4 : decode cX5_tide 4 = .ok (.ldc 99, 2) := by decide +kernel
theorem dX5_tide_6 : decode cX5_tide 6 = .ok (.goto 8, 3) := by decide +kernel
theorem dX5_tide_9 : decode cX5_tide 9 = .ok (.aload_n 0, 1) := by decide +kernel
theorem dX5_tide_10 : decode cX5_tide 10 = .ok (.iload_n 1, 1) := by decide +kernel
theorem dX5_tide_11 : decode cX5_tide 11 = .ok (.invokevirtual 41, 3) := by decide +kernel
theorem dX5_tide_14 : decode cX5_tide 14 = .ok (.ireturn, 1) := by decide +kernel
theorem dX5_keepRow_0 : decode cX5_keepRow 0 = .ok (.iconst 0, 1) := by decide +kernel
theorem dX5_keepRow_1 : decode cX5_keepRow 1 = .ok (.istore_n 1, 1) := by decide +kernel
theorem dX5_keepRow_2 : decode cX5_keepRow 2 = .ok (.iload_n 1, 1) := by decide +kernel
theorem dX5_keepRow_3 : decode cX5_keepRow 3 = .ok (.bipush 80, 2) := by decide +kernel
theorem dX5_keepRow_5 : decode cX5_keepRow 5 = .ok (.if_icmp .ge 21, 3) := by decide +kernel
theorem dX5_keepRow_8 : decode cX5_keepRow 8 = .ok (.aload_n 0, 1) := by decide +kernel
theorem dX5_keepRow_9 : decode cX5_keepRow 9 = .ok (.getfield 13, 3) := by decide +kernel
theorem dX5_keepRow_12 : decode cX5_keepRow 12 = .ok (.iload_n 1, 1) := by decide +kernel
theorem dX5_keepRow_13 : decode cX5_keepRow 13 = .ok (.aload_n 0, 1) := by decide +kernel
theorem dX5_keepRow_14 : decode cX5_keepRow 14 = .ok (.getfield 7, 3) := by decide +kernel
theorem dX5_keepRow_17 : decode cX5_keepRow 17 = .ok (.iload_n 1, 1) := by decide +kernel
theorem dX5_keepRow_18 : decode cX5_keepRow 18 = .ok (.iaload, 1) := by decide +kernel
theorem dX5_keepRow_19 : decode cX5_keepRow 19 = .ok (.iastore, 1) := by decide +kernel
theorem dX5_keepRow_20 : decode cX5_keepRow 20 = .ok (.iinc 1 1, 3) := by decide +kernel
theorem dX5_keepRow_23 : decode cX5_keepRow 23 = .ok (.goto (-21), 3) := by decide +kernel
theorem dX5_keepRow_26 : decode cX5_keepRow 26 = .ok (.return_, 1) := by decide +kernel
theorem dX5_putBack_0 : decode cX5_putBack 0 = .ok (.iconst 0, 1) := by decide +kernel
theorem dX5_putBack_1 : decode cX5_putBack 1 = .ok (.istore_n 1, 1) := by decide +kernel
theorem dX5_putBack_2 : decode cX5_putBack 2 = .ok (.iload_n 1, 1) := by decide +kernel
theorem dX5_putBack_3 : decode cX5_putBack 3 = .ok (.bipush 80, 2) := by decide +kernel
theorem dX5_putBack_5 : decode cX5_putBack 5 = .ok (.if_icmp .ge 21, 3) := by decide +kernel
theorem dX5_putBack_8 : decode cX5_putBack 8 = .ok (.aload_n 0, 1) := by decide +kernel
theorem dX5_putBack_9 : decode cX5_putBack 9 = .ok (.getfield 7, 3) := by decide +kernel
theorem dX5_putBack_12 : decode cX5_putBack 12 = .ok (.iload_n 1, 1) := by decide +kernel
theorem dX5_putBack_13 : decode cX5_putBack 13 = .ok (.aload_n 0, 1) := by decide +kernel
theorem dX5_putBack_14 : decode cX5_putBack 14 = .ok (.getfield 13, 3) := by decide +kernel
theorem dX5_putBack_17 : decode cX5_putBack 17 = .ok (.iload_n 1, 1) := by decide +kernel
theorem dX5_putBack_18 : decode cX5_putBack 18 = .ok (.iaload, 1) := by decide +kernel
theorem dX5_putBack_19 : decode cX5_putBack 19 = .ok (.iastore, 1) := by decide +kernel
theorem dX5_putBack_20 : decode cX5_putBack 20 = .ok (.iinc 1 1, 3) := by decide +kernel
theorem dX5_putBack_23 : decode cX5_putBack 23 = .ok (.goto (-21), 3) := by decide +kernel
theorem dX5_putBack_26 : decode cX5_putBack 26 = .ok (.return_, 1) := by decide +kernel
theorem dX5_untilFloats_0 : decode cX5_untilFloats 0 = .ok (.aload_n 0, 1) := by decide +kernel
theorem dX5_untilFloats_1 : decode cX5_untilFloats 1 = .ok (.getfield 7, 3) := by decide +kernel
theorem dX5_untilFloats_4 : decode cX5_untilFloats 4 = .ok (.bipush 12, 2) := by decide +kernel
theorem dX5_untilFloats_6 : decode cX5_untilFloats 6 = .ok (.iaload, 1) := by decide +kernel
theorem dX5_untilFloats_7 : decode cX5_untilFloats 7 = .ok (.ifCond .ne 6, 3) := by decide +kernel
theorem dX5_untilFloats_10 : decode cX5_untilFloats 10 = .ok (.ldc 108, 2) := by decide +kernel
theorem dX5_untilFloats_12 : decode cX5_untilFloats 12 = .ok (.ireturn, 1) := by decide +kernel
theorem dX5_untilFloats_13 : decode cX5_untilFloats 13 = .ok (.ldc 36, 2) := by decide +kernel
theorem dX5_untilFloats_15 : decode cX5_untilFloats 15 = .ok (.istore_n 1, 1) := by decide +kernel
theorem dX5_untilFloats_16 : decode cX5_untilFloats 16 = .ok (.bipush 12, 2) := by decide +kernel
theorem dX5_untilFloats_18 : decode cX5_untilFloats 18 = .ok (.istore_n 2, 1) := by decide +kernel
theorem dX5_untilFloats_19 : decode cX5_untilFloats 19 = .ok (.iload_n 2, 1) := by decide +kernel
theorem dX5_untilFloats_20 : decode cX5_untilFloats 20 = .ok (.ifCond .lt 32, 3) := by decide +kernel
theorem dX5_untilFloats_23 : decode cX5_untilFloats 23 = .ok (.aload_n 0, 1) := by decide +kernel
theorem dX5_untilFloats_24 : decode cX5_untilFloats 24 = .ok (.iconst 1, 1) := by decide +kernel
theorem dX5_untilFloats_25 : decode cX5_untilFloats 25 = .ok (.aload_n 0, 1) := by decide +kernel
theorem dX5_untilFloats_26 : decode cX5_untilFloats 26 = .ok (.getfield 7, 3) := by decide +kernel
theorem dX5_untilFloats_29 : decode cX5_untilFloats 29 = .ok (.bipush 6, 2) := by decide +kernel
theorem dX5_untilFloats_31 : decode cX5_untilFloats 31 = .ok (.iaload, 1) := by decide +kernel
theorem dX5_untilFloats_32 : decode cX5_untilFloats 32 = .ok (.iload_n 2, 1) := by decide +kernel
theorem dX5_untilFloats_33 : decode cX5_untilFloats 33 = .ok (.iadd, 1) := by decide +kernel
theorem dX5_untilFloats_34 : decode cX5_untilFloats 34 = .ok (.invokevirtual 83, 3) := by decide +kernel
theorem dX5_untilFloats_37 : decode cX5_untilFloats 37 = .ok (.ifCond .eq 7, 3) := by decide +kernel
theorem dX5_untilFloats_40 : decode cX5_untilFloats 40 = .ok (.iload_n 2, 1) := by decide +kernel
theorem dX5_untilFloats_41 : decode cX5_untilFloats 41 = .ok (.goto 4, 3) := by decide +kernel
theorem dX5_untilFloats_44 : decode cX5_untilFloats 44 = .ok (.iload_n 1, 1) := by decide +kernel
theorem dX5_untilFloats_45 : decode cX5_untilFloats 45 = .ok (.istore_n 1, 1) := by decide +kernel
theorem dX5_untilFloats_46 : decode cX5_untilFloats 46 = .ok (.iinc 2 (-1), 3) := by decide +kernel
theorem dX5_untilFloats_49 : decode cX5_untilFloats 49 = .ok (.goto (-30), 3) := by decide +kernel
theorem dX5_untilFloats_52 : decode cX5_untilFloats 52 = .ok (.iload_n 1, 1) := by decide +kernel
theorem dX5_untilFloats_53 : decode cX5_untilFloats 53 = .ok (.ireturn, 1) := by decide +kernel
theorem dX5_safeHours_0 : decode cX5_safeHours 0 = .ok (.aload_n 0, 1) := by decide +kernel
theorem dX5_safeHours_1 : decode cX5_safeHours 1 = .ok (.invokevirtual 146, 3) := by decide +kernel
theorem dX5_safeHours_4 : decode cX5_safeHours 4 = .ok (.aload_n 0, 1) := by decide +kernel
theorem dX5_safeHours_5 : decode cX5_safeHours 5 = .ok (.iload_n 1, 1) := by decide +kernel
theorem dX5_safeHours_6 : decode cX5_safeHours 6 = .ok (.iconst 0, 1) := by decide +kernel
theorem dX5_safeHours_7 : decode cX5_safeHours 7 = .ok (.iload_n 2, 1) := by decide +kernel
theorem dX5_safeHours_8 : decode cX5_safeHours 8 = .ok (.invokevirtual 32, 3) := by decide +kernel
theorem dX5_safeHours_11 : decode cX5_safeHours 11 = .ok (.iconst 0, 1) := by decide +kernel
theorem dX5_safeHours_12 : decode cX5_safeHours 12 = .ok (.istore_n 3, 1) := by decide +kernel
theorem dX5_safeHours_13 : decode cX5_safeHours 13 = .ok (.iconst 1, 1) := by decide +kernel
theorem dX5_safeHours_14 : decode cX5_safeHours 14 = .ok (.istore 4, 2) := by decide +kernel
theorem dX5_safeHours_16 : decode cX5_safeHours 16 = .ok (.iload 4, 2) := by decide +kernel
theorem dX5_safeHours_18 : decode cX5_safeHours 18 = .ok (.ifCond .eq 47, 3) := by decide +kernel
theorem dX5_safeHours_21 : decode cX5_safeHours 21 = .ok (.iload_n 3, 1) := by decide +kernel
theorem dX5_safeHours_22 : decode cX5_safeHours 22 = .ok (.sipush 200, 3) := by decide +kernel
theorem dX5_safeHours_25 : decode cX5_safeHours 25 = .ok (.if_icmp .ge 40, 3) := by decide +kernel
theorem dX5_safeHours_28 : decode cX5_safeHours 28 = .ok (.aload_n 0, 1) := by decide +kernel
theorem dX5_safeHours_29 : decode cX5_safeHours 29 = .ok (.invokevirtual 137, 3) := by decide +kernel
theorem dX5_safeHours_32 : decode cX5_safeHours 32 = .ok (.pop, 1) := by decide +kernel
theorem dX5_safeHours_33 : decode cX5_safeHours 33 = .ok (.aload_n 0, 1) := by decide +kernel
theorem dX5_safeHours_34 : decode cX5_safeHours 34 = .ok (.iload_n 1, 1) := by decide +kernel
theorem dX5_safeHours_35 : decode cX5_safeHours 35 = .ok (.iconst 3, 1) := by decide +kernel
theorem dX5_safeHours_36 : decode cX5_safeHours 36 = .ok (.invokevirtual 63, 3) := by decide +kernel
theorem dX5_safeHours_39 : decode cX5_safeHours 39 = .ok (.ifCond .ne 7, 3) := by decide +kernel
theorem dX5_safeHours_42 : decode cX5_safeHours 42 = .ok (.iconst 1, 1) := by decide +kernel
theorem dX5_safeHours_43 : decode cX5_safeHours 43 = .ok (.goto 4, 3) := by decide +kernel
theorem dX5_safeHours_46 : decode cX5_safeHours 46 = .ok (.iconst 0, 1) := by decide +kernel
theorem dX5_safeHours_47 : decode cX5_safeHours 47 = .ok (.istore 4, 2) := by decide +kernel
theorem dX5_safeHours_49 : decode cX5_safeHours 49 = .ok (.iload_n 3, 1) := by decide +kernel
theorem dX5_safeHours_50 : decode cX5_safeHours 50 = .ok (.iload 4, 2) := by decide +kernel
theorem dX5_safeHours_52 : decode cX5_safeHours 52 = .ok (.ifCond .eq 7, 3) := by decide +kernel
theorem dX5_safeHours_55 : decode cX5_safeHours 55 = .ok (.iconst 1, 1) := by decide +kernel
theorem dX5_safeHours_56 : decode cX5_safeHours 56 = .ok (.goto 4, 3) := by decide +kernel
theorem dX5_safeHours_59 : decode cX5_safeHours 59 = .ok (.iconst 0, 1) := by decide +kernel
theorem dX5_safeHours_60 : decode cX5_safeHours 60 = .ok (.iadd, 1) := by decide +kernel
theorem dX5_safeHours_61 : decode cX5_safeHours 61 = .ok (.istore_n 3, 1) := by decide +kernel
theorem dX5_safeHours_62 : decode cX5_safeHours 62 = .ok (.goto (-46), 3) := by decide +kernel
theorem dX5_safeHours_65 : decode cX5_safeHours 65 = .ok (.aload_n 0, 1) := by decide +kernel
theorem dX5_safeHours_66 : decode cX5_safeHours 66 = .ok (.invokevirtual 149, 3) := by decide +kernel
theorem dX5_safeHours_69 : decode cX5_safeHours 69 = .ok (.iload_n 3, 1) := by decide +kernel
theorem dX5_safeHours_70 : decode cX5_safeHours 70 = .ok (.ireturn, 1) := by decide +kernel
theorem dX5_safeFor_0 : decode cX5_safeFor 0 = .ok (.iload_n 1, 1) := by decide +kernel
theorem dX5_safeFor_1 : decode cX5_safeFor 1 = .ok (.invokestatic 112, 3) := by decide +kernel
theorem dX5_safeFor_4 : decode cX5_safeFor 4 = .ok (.ifCond .ne 6, 3) := by decide +kernel
theorem dX5_safeFor_7 : decode cX5_safeFor 7 = .ok (.ldc 115, 2) := by decide +kernel
theorem dX5_safeFor_9 : decode cX5_safeFor 9 = .ok (.ireturn, 1) := by decide +kernel
theorem dX5_safeFor_10 : decode cX5_safeFor 10 = .ok (.aload_n 0, 1) := by decide +kernel
theorem dX5_safeFor_11 : decode cX5_safeFor 11 = .ok (.iload_n 1, 1) := by decide +kernel
theorem dX5_safeFor_12 : decode cX5_safeFor 12 = .ok (.invokevirtual 66, 3) := by decide +kernel
theorem dX5_safeFor_15 : decode cX5_safeFor 15 = .ok (.ifCond .ne 6, 3) := by decide +kernel
theorem dX5_safeFor_18 : decode cX5_safeFor 18 = .ok (.ldc 108, 2) := by decide +kernel
theorem dX5_safeFor_20 : decode cX5_safeFor 20 = .ok (.ireturn, 1) := by decide +kernel
theorem dX5_safeFor_21 : decode cX5_safeFor 21 = .ok (.aload_n 0, 1) := by decide +kernel
theorem dX5_safeFor_22 : decode cX5_safeFor 22 = .ok (.iload_n 1, 1) := by decide +kernel
theorem dX5_safeFor_23 : decode cX5_safeFor 23 = .ok (.aload_n 0, 1) := by decide +kernel
theorem dX5_safeFor_24 : decode cX5_safeFor 24 = .ok (.iload_n 1, 1) := by decide +kernel
theorem dX5_safeFor_25 : decode cX5_safeFor 25 = .ok (.iconst 0, 1) := by decide +kernel
theorem dX5_safeFor_26 : decode cX5_safeFor 26 = .ok (.invokevirtual 63, 3) := by decide +kernel
theorem dX5_safeFor_29 : decode cX5_safeFor 29 = .ok (.invokevirtual 152, 3) := by decide +kernel
theorem dX5_safeFor_32 : decode cX5_safeFor 32 = .ok (.istore_n 2, 1) := by decide +kernel
theorem dX5_safeFor_33 : decode cX5_safeFor 33 = .ok (.iload_n 2, 1) := by decide +kernel
theorem dX5_safeFor_34 : decode cX5_safeFor 34 = .ok (.sipush 200, 3) := by decide +kernel
theorem dX5_safeFor_37 : decode cX5_safeFor 37 = .ok (.if_icmp .ne 8, 3) := by decide +kernel
theorem dX5_safeFor_40 : decode cX5_safeFor 40 = .ok (.ldc 36, 2) := by decide +kernel
theorem dX5_safeFor_42 : decode cX5_safeFor 42 = .ok (.goto 4, 3) := by decide +kernel
theorem dX5_safeFor_45 : decode cX5_safeFor 45 = .ok (.iload_n 2, 1) := by decide +kernel
theorem dX5_safeFor_46 : decode cX5_safeFor 46 = .ok (.ireturn, 1) := by decide +kernel
theorem dX5_untilEmpty_0 : decode cX5_untilEmpty 0 = .ok (.aload_n 0, 1) := by decide +kernel
theorem dX5_untilEmpty_1 : decode cX5_untilEmpty 1 = .ok (.getfield 7, 3) := by decide +kernel
theorem dX5_untilEmpty_4 : decode cX5_untilEmpty 4 = .ok (.bipush 13, 2) := by decide +kernel
theorem dX5_untilEmpty_6 : decode cX5_untilEmpty 6 = .ok (.iaload, 1) := by decide +kernel
theorem dX5_untilEmpty_7 : decode cX5_untilEmpty 7 = .ok (.ifCond .ne 6, 3) := by decide +kernel
theorem dX5_untilEmpty_10 : decode cX5_untilEmpty 10 = .ok (.ldc 108, 2) := by decide +kernel
theorem dX5_untilEmpty_12 : decode cX5_untilEmpty 12 = .ok (.ireturn, 1) := by decide +kernel
theorem dX5_untilEmpty_13 : decode cX5_untilEmpty 13 = .ok (.aload_n 0, 1) := by decide +kernel
theorem dX5_untilEmpty_14 : decode cX5_untilEmpty 14 = .ok (.invokevirtual 146, 3) := by decide +kernel
theorem dX5_untilEmpty_17 : decode cX5_untilEmpty 17 = .ok (.iconst 0, 1) := by decide +kernel
theorem dX5_untilEmpty_18 : decode cX5_untilEmpty 18 = .ok (.istore_n 1, 1) := by decide +kernel
theorem dX5_untilEmpty_19 : decode cX5_untilEmpty 19 = .ok (.aload_n 0, 1) := by decide +kernel
theorem dX5_untilEmpty_20 : decode cX5_untilEmpty 20 = .ok (.iconst 0, 1) := by decide +kernel
theorem dX5_untilEmpty_21 : decode cX5_untilEmpty 21 = .ok (.invokevirtual 49, 3) := by decide +kernel
theorem dX5_untilEmpty_24 : decode cX5_untilEmpty 24 = .ok (.ifCond .le 21, 3) := by decide +kernel
theorem dX5_untilEmpty_27 : decode cX5_untilEmpty 27 = .ok (.iload_n 1, 1) := by decide +kernel
theorem dX5_untilEmpty_28 : decode cX5_untilEmpty 28 = .ok (.sipush 200, 3) := by decide +kernel
theorem dX5_untilEmpty_31 : decode cX5_untilEmpty 31 = .ok (.if_icmp .ge 14, 3) := by decide +kernel
theorem dX5_untilEmpty_34 : decode cX5_untilEmpty 34 = .ok (.aload_n 0, 1) := by decide +kernel
theorem dX5_untilEmpty_35 : decode cX5_untilEmpty 35 = .ok (.invokevirtual 137, 3) := by decide +kernel
theorem dX5_untilEmpty_38 : decode cX5_untilEmpty 38 = .ok (.pop, 1) := by decide +kernel
theorem dX5_untilEmpty_39 : decode cX5_untilEmpty 39 = .ok (.iinc 1 1, 3) := by decide +kernel
theorem dX5_untilEmpty_42 : decode cX5_untilEmpty 42 = .ok (.goto (-23), 3) := by decide +kernel
theorem dX5_untilEmpty_45 : decode cX5_untilEmpty 45 = .ok (.aload_n 0, 1) := by decide +kernel
theorem dX5_untilEmpty_46 : decode cX5_untilEmpty 46 = .ok (.iconst 0, 1) := by decide +kernel
theorem dX5_untilEmpty_47 : decode cX5_untilEmpty 47 = .ok (.invokevirtual 49, 3) := by decide +kernel
theorem dX5_untilEmpty_50 : decode cX5_untilEmpty 50 = .ok (.ifCond .ne 7, 3) := by decide +kernel
theorem dX5_untilEmpty_53 : decode cX5_untilEmpty 53 = .ok (.iconst 1, 1) := by decide +kernel
theorem dX5_untilEmpty_54 : decode cX5_untilEmpty 54 = .ok (.goto 4, 3) := by decide +kernel
theorem dX5_untilEmpty_57 : decode cX5_untilEmpty 57 = .ok (.iconst 0, 1) := by decide +kernel
theorem dX5_untilEmpty_58 : decode cX5_untilEmpty 58 = .ok (.istore_n 2, 1) := by decide +kernel
theorem dX5_untilEmpty_59 : decode cX5_untilEmpty 59 = .ok (.aload_n 0, 1) := by decide +kernel
theorem dX5_untilEmpty_60 : decode cX5_untilEmpty 60 = .ok (.invokevirtual 149, 3) := by decide +kernel
theorem dX5_untilEmpty_63 : decode cX5_untilEmpty 63 = .ok (.iload_n 2, 1) := by decide +kernel
theorem dX5_untilEmpty_64 : decode cX5_untilEmpty 64 = .ok (.ifCond .eq 7, 3) := by decide +kernel
theorem dX5_untilEmpty_67 : decode cX5_untilEmpty 67 = .ok (.iload_n 1, 1) := by decide +kernel
theorem dX5_untilEmpty_68 : decode cX5_untilEmpty 68 = .ok (.goto 5, 3) := by decide +kernel
theorem dX5_untilEmpty_71 : decode cX5_untilEmpty 71 = .ok (.ldc 36, 2) := by decide +kernel
theorem dX5_untilEmpty_73 : decode cX5_untilEmpty 73 = .ok (.ireturn, 1) := by decide +kernel
theorem dX5_ifPassed_0 : decode cX5_ifPassed 0 = .ok (.iload_n 1, 1) := by decide +kernel
theorem dX5_ifPassed_1 : decode cX5_ifPassed 1 = .ok (.iconst 1, 1) := by decide +kernel
theorem dX5_ifPassed_2 : decode cX5_ifPassed 2 = .ok (.sipush 200, 3) := by decide +kernel
theorem dX5_ifPassed_5 : decode cX5_ifPassed 5 = .ok (.invokestatic 59, 3) := by decide +kernel
theorem dX5_ifPassed_8 : decode cX5_ifPassed 8 = .ok (.ifCond .eq 12, 3) := by decide +kernel
theorem dX5_ifPassed_11 : decode cX5_ifPassed 11 = .ok (.iload_n 2, 1) := by decide +kernel
theorem dX5_ifPassed_12 : decode cX5_ifPassed 12 = .ok (.iconst 0, 1) := by decide +kernel
theorem dX5_ifPassed_13 : decode cX5_ifPassed 13 = .ok (.iconst 3, 1) := by decide +kernel
theorem dX5_ifPassed_14 : decode cX5_ifPassed 14 = .ok (.invokestatic 59, 3) := by decide +kernel
theorem dX5_ifPassed_17 : decode cX5_ifPassed 17 = .ok (.ifCond .ne 6, 3) := by decide +kernel
theorem dX5_ifPassed_20 : decode cX5_ifPassed 20 = .ok (.ldc 99, 2) := by decide +kernel
theorem dX5_ifPassed_22 : decode cX5_ifPassed 22 = .ok (.ireturn, 1) := by decide +kernel
theorem dX5_ifPassed_23 : decode cX5_ifPassed 23 = .ok (.aload_n 0, 1) := by decide +kernel
theorem dX5_ifPassed_24 : decode cX5_ifPassed 24 = .ok (.invokevirtual 146, 3) := by decide +kernel
theorem dX5_ifPassed_27 : decode cX5_ifPassed 27 = .ok (.aload_n 0, 1) := by decide +kernel
theorem dX5_ifPassed_28 : decode cX5_ifPassed 28 = .ok (.getfield 7, 3) := by decide +kernel
theorem dX5_ifPassed_31 : decode cX5_ifPassed 31 = .ok (.bipush 9, 2) := by decide +kernel
theorem dX5_ifPassed_33 : decode cX5_ifPassed 33 = .ok (.iaload, 1) := by decide +kernel
theorem dX5_ifPassed_34 : decode cX5_ifPassed 34 = .ok (.istore_n 3, 1) := by decide +kernel
theorem dX5_ifPassed_35 : decode cX5_ifPassed 35 = .ok (.aload_n 0, 1) := by decide +kernel
theorem dX5_ifPassed_36 : decode cX5_ifPassed 36 = .ok (.invokevirtual 155, 3) := by decide +kernel
theorem dX5_ifPassed_39 : decode cX5_ifPassed 39 = .ok (.istore 4, 2) := by decide +kernel
theorem dX5_ifPassed_41 : decode cX5_ifPassed 41 = .ok (.aload_n 0, 1) := by decide +kernel
theorem dX5_ifPassed_42 : decode cX5_ifPassed 42 = .ok (.getfield 7, 3) := by decide +kernel
theorem dX5_ifPassed_45 : decode cX5_ifPassed 45 = .ok (.bipush 11, 2) := by decide +kernel
theorem dX5_ifPassed_47 : decode cX5_ifPassed 47 = .ok (.iaload, 1) := by decide +kernel
theorem dX5_ifPassed_48 : decode cX5_ifPassed 48 = .ok (.istore 5, 2) := by decide +kernel
theorem dX5_ifPassed_50 : decode cX5_ifPassed 50 = .ok (.aload_n 0, 1) := by decide +kernel
theorem dX5_ifPassed_51 : decode cX5_ifPassed 51 = .ok (.iload_n 1, 1) := by decide +kernel
theorem dX5_ifPassed_52 : decode cX5_ifPassed 52 = .ok (.invokevirtual 140, 3) := by decide +kernel
theorem dX5_ifPassed_55 : decode cX5_ifPassed 55 = .ok (.istore 6, 2) := by decide +kernel
theorem dX5_ifPassed_57 : decode cX5_ifPassed 57 = .ok (.iload_n 2, 1) := by decide +kernel
theorem dX5_ifPassed_58 : decode cX5_ifPassed 58 = .ok (.ifCond .ne 8, 3) := by decide +kernel
theorem dX5_ifPassed_61 : decode cX5_ifPassed 61 = .ok (.iload 6, 2) := by decide +kernel
theorem dX5_ifPassed_63 : decode cX5_ifPassed 63 = .ok (.goto 45, 3) := by decide +kernel
theorem dX5_ifPassed_66 : decode cX5_ifPassed 66 = .ok (.iload_n 2, 1) := by decide +kernel
theorem dX5_ifPassed_67 : decode cX5_ifPassed 67 = .ok (.iconst 1, 1) := by decide +kernel
theorem dX5_ifPassed_68 : decode cX5_ifPassed 68 = .ok (.if_icmp .ne 15, 3) := by decide +kernel
theorem dX5_ifPassed_71 : decode cX5_ifPassed 71 = .ok (.aload_n 0, 1) := by decide +kernel
theorem dX5_ifPassed_72 : decode cX5_ifPassed 72 = .ok (.getfield 7, 3) := by decide +kernel
theorem dX5_ifPassed_75 : decode cX5_ifPassed 75 = .ok (.bipush 9, 2) := by decide +kernel
theorem dX5_ifPassed_77 : decode cX5_ifPassed 77 = .ok (.iaload, 1) := by decide +kernel
theorem dX5_ifPassed_78 : decode cX5_ifPassed 78 = .ok (.iload_n 3, 1) := by decide +kernel
theorem dX5_ifPassed_79 : decode cX5_ifPassed 79 = .ok (.isub, 1) := by decide +kernel
theorem dX5_ifPassed_80 : decode cX5_ifPassed 80 = .ok (.goto 28, 3) := by decide +kernel
theorem dX5_ifPassed_83 : decode cX5_ifPassed 83 = .ok (.iload_n 2, 1) := by decide +kernel
theorem dX5_ifPassed_84 : decode cX5_ifPassed 84 = .ok (.iconst 2, 1) := by decide +kernel
theorem dX5_ifPassed_85 : decode cX5_ifPassed 85 = .ok (.if_icmp .ne 13, 3) := by decide +kernel
theorem dX5_ifPassed_88 : decode cX5_ifPassed 88 = .ok (.aload_n 0, 1) := by decide +kernel
theorem dX5_ifPassed_89 : decode cX5_ifPassed 89 = .ok (.invokevirtual 155, 3) := by decide +kernel
theorem dX5_ifPassed_92 : decode cX5_ifPassed 92 = .ok (.iload 4, 2) := by decide +kernel
theorem dX5_ifPassed_94 : decode cX5_ifPassed 94 = .ok (.isub, 1) := by decide +kernel
theorem dX5_ifPassed_95 : decode cX5_ifPassed 95 = .ok (.goto 13, 3) := by decide +kernel
theorem dX5_ifPassed_98 : decode cX5_ifPassed 98 = .ok (.aload_n 0, 1) := by decide +kernel
theorem dX5_ifPassed_99 : decode cX5_ifPassed 99 = .ok (.getfield 7, 3) := by decide +kernel
theorem dX5_ifPassed_102 : decode cX5_ifPassed 102 = .ok (.bipush 11, 2) := by decide +kernel
theorem dX5_ifPassed_104 : decode cX5_ifPassed 104 = .ok (.iaload, 1) := by decide +kernel
theorem dX5_ifPassed_105 : decode cX5_ifPassed 105 = .ok (.iload 5, 2) := by decide +kernel
theorem dX5_ifPassed_107 : decode cX5_ifPassed 107 = .ok (.isub, 1) := by decide +kernel
theorem dX5_ifPassed_108 : decode cX5_ifPassed 108 = .ok (.istore 7, 2) := by decide +kernel
theorem dX5_ifPassed_110 : decode cX5_ifPassed 110 = .ok (.aload_n 0, 1) := by decide +kernel
theorem dX5_ifPassed_111 : decode cX5_ifPassed 111 = .ok (.invokevirtual 149, 3) := by decide +kernel
theorem dX5_ifPassed_114 : decode cX5_ifPassed 114 = .ok (.iload 7, 2) := by decide +kernel
theorem dX5_ifPassed_116 : decode cX5_ifPassed 116 = .ok (.ireturn, 1) := by decide +kernel
theorem dX5_leastReach_0 : decode cX5_leastReach 0 = .ok (.iload_n 1, 1) := by decide +kernel
theorem dX5_leastReach_1 : decode cX5_leastReach 1 = .ok (.invokestatic 112, 3) := by decide +kernel
theorem dX5_leastReach_4 : decode cX5_leastReach 4 = .ok (.ifCond .ne 6, 3) := by decide +kernel
theorem dX5_leastReach_7 : decode cX5_leastReach 7 = .ok (.ldc 115, 2) := by decide +kernel
theorem dX5_leastReach_9 : decode cX5_leastReach 9 = .ok (.ireturn, 1) := by decide +kernel
theorem dX5_leastReach_10 : decode cX5_leastReach 10 = .ok (.aload_n 0, 1) := by decide +kernel
theorem dX5_leastReach_11 : decode cX5_leastReach 11 = .ok (.iload_n 1, 1) := by decide +kernel
theorem dX5_leastReach_12 : decode cX5_leastReach 12 = .ok (.invokevirtual 66, 3) := by decide +kernel
theorem dX5_leastReach_15 : decode cX5_leastReach 15 = .ok (.ifCond .ne 6, 3) := by decide +kernel
theorem dX5_leastReach_18 : decode cX5_leastReach 18 = .ok (.ldc 108, 2) := by decide +kernel
theorem dX5_leastReach_20 : decode cX5_leastReach 20 = .ok (.ireturn, 1) := by decide +kernel
theorem dX5_leastReach_21 : decode cX5_leastReach 21 = .ok (.ldc 36, 2) := by decide +kernel
theorem dX5_leastReach_23 : decode cX5_leastReach 23 = .ok (.istore_n 2, 1) := by decide +kernel
theorem dX5_leastReach_24 : decode cX5_leastReach 24 = .ok (.bipush 20, 2) := by decide +kernel
theorem dX5_leastReach_26 : decode cX5_leastReach 26 = .ok (.istore_n 3, 1) := by decide +kernel
theorem dX5_leastReach_27 : decode cX5_leastReach 27 = .ok (.iload_n 3, 1) := by decide +kernel
theorem dX5_leastReach_28 : decode cX5_leastReach 28 = .ok (.bipush 120, 2) := by decide +kernel
theorem dX5_leastReach_30 : decode cX5_leastReach 30 = .ok (.if_icmp .gt 31, 3) := by decide +kernel
theorem dX5_leastReach_33 : decode cX5_leastReach 33 = .ok (.iload_n 2, 1) := by decide +kernel
theorem dX5_leastReach_34 : decode cX5_leastReach 34 = .ok (.ifCond .ge 27, 3) := by decide +kernel
theorem dX5_leastReach_37 : decode cX5_leastReach 37 = .ok (.aload_n 0, 1) := by decide +kernel
theorem dX5_leastReach_38 : decode cX5_leastReach 38 = .ok (.iload_n 1, 1) := by decide +kernel
theorem dX5_leastReach_39 : decode cX5_leastReach 39 = .ok (.iload_n 3, 1) := by decide +kernel
theorem dX5_leastReach_40 : decode cX5_leastReach 40 = .ok (.invokevirtual 152, 3) := by decide +kernel
theorem dX5_leastReach_43 : decode cX5_leastReach 43 = .ok (.sipush 200, 3) := by decide +kernel
theorem dX5_leastReach_46 : decode cX5_leastReach 46 = .ok (.if_icmp .ne 7, 3) := by decide +kernel
theorem dX5_leastReach_49 : decode cX5_leastReach 49 = .ok (.iload_n 3, 1) := by decide +kernel
theorem dX5_leastReach_50 : decode cX5_leastReach 50 = .ok (.goto 4, 3) := by decide +kernel
theorem dX5_leastReach_53 : decode cX5_leastReach 53 = .ok (.iload_n 2, 1) := by decide +kernel
theorem dX5_leastReach_54 : decode cX5_leastReach 54 = .ok (.istore_n 2, 1) := by decide +kernel
theorem dX5_leastReach_55 : decode cX5_leastReach 55 = .ok (.iinc 3 1, 3) := by decide +kernel
theorem dX5_leastReach_58 : decode cX5_leastReach 58 = .ok (.goto (-31), 3) := by decide +kernel
theorem dX5_leastReach_61 : decode cX5_leastReach 61 = .ok (.iload_n 2, 1) := by decide +kernel
theorem dX5_leastReach_62 : decode cX5_leastReach 62 = .ok (.ireturn, 1) := by decide +kernel
theorem dX5_put_0 : decode cX5_put 0 = .ok (.iconst 0, 1) := by decide +kernel
theorem dX5_put_1 : decode cX5_put 1 = .ok (.istore_n 3, 1) := by decide +kernel
theorem dX5_put_2 : decode cX5_put 2 = .ok (.iconst 0, 1) := by decide +kernel
theorem dX5_put_3 : decode cX5_put 3 = .ok (.istore 4, 2) := by decide +kernel
theorem dX5_put_5 : decode cX5_put 5 = .ok (.iconst 0, 1) := by decide +kernel
theorem dX5_put_6 : decode cX5_put 6 = .ok (.istore 5, 2) := by decide +kernel
theorem dX5_put_8 : decode cX5_put 8 = .ok (.iload 5, 2) := by decide +kernel
theorem dX5_put_10 : decode cX5_put 10 = .ok (.bipush 8, 2) := by decide +kernel
theorem dX5_put_12 : decode cX5_put 12 = .ok (.if_icmp .ge 89, 3) := by decide +kernel
theorem dX5_put_15 : decode cX5_put 15 = .ok (.lload_n 1, 1) := by decide +kernel
theorem dX5_put_16 : decode cX5_put 16 = .ok (.bipush 8, 2) := by decide +kernel
theorem dX5_put_18 : decode cX5_put 18 = .ok (.iload 5, 2) := by decide +kernel
theorem dX5_put_20 : decode cX5_put 20 = .ok (.imul, 1) := by decide +kernel
theorem dX5_put_21 : decode cX5_put 21 = .ok (.lushr, 1) := by decide +kernel
theorem dX5_put_22 : decode cX5_put 22 = .ok (.ldc2_w 158, 3) := by decide +kernel
theorem dX5_put_25 : decode cX5_put 25 = .ok (.land, 1) := by decide +kernel
theorem dX5_put_26 : decode cX5_put 26 = .ok (.l2i, 1) := by decide +kernel
theorem dX5_put_27 : decode cX5_put 27 = .ok (.istore 6, 2) := by decide +kernel
theorem dX5_put_29 : decode cX5_put 29 = .ok (.iload 5, 2) := by decide +kernel
theorem dX5_put_31 : decode cX5_put 31 = .ok (.ifCond .le 19, 3) := by decide +kernel
theorem dX5_put_34 : decode cX5_put 34 = .ok (.lload_n 1, 1) := by decide +kernel
theorem dX5_put_35 : decode cX5_put 35 = .ok (.bipush 8, 2) := by decide +kernel
theorem dX5_put_37 : decode cX5_put 37 = .ok (.iload 5, 2) := by decide +kernel
theorem dX5_put_39 : decode cX5_put 39 = .ok (.imul, 1) := by decide +kernel
theorem dX5_put_40 : decode cX5_put 40 = .ok (.lushr, 1) := by decide +kernel
theorem dX5_put_41 : decode cX5_put 41 = .ok (.lconst 0, 1) := by decide +kernel
theorem dX5_put_42 : decode cX5_put 42 = .ok (.lcmp, 1) := by decide +kernel
theorem dX5_put_43 : decode cX5_put 43 = .ok (.ifCond .ne 7, 3) := by decide +kernel
theorem dX5_put_46 : decode cX5_put 46 = .ok (.iconst 1, 1) := by decide +kernel
theorem dX5_put_47 : decode cX5_put 47 = .ok (.goto 4, 3) := by decide +kernel
theorem dX5_put_50 : decode cX5_put 50 = .ok (.iconst 0, 1) := by decide +kernel
theorem dX5_put_51 : decode cX5_put 51 = .ok (.istore 7, 2) := by decide +kernel
theorem dX5_put_53 : decode cX5_put 53 = .ok (.iload 4, 2) := by decide +kernel
theorem dX5_put_55 : decode cX5_put 55 = .ok (.ifCond .ne 20, 3) := by decide +kernel
theorem dX5_put_58 : decode cX5_put 58 = .ok (.iload 7, 2) := by decide +kernel
theorem dX5_put_60 : decode cX5_put 60 = .ok (.ifCond .ne 19, 3) := by decide +kernel
theorem dX5_put_63 : decode cX5_put 63 = .ok (.iload 6, 2) := by decide +kernel
theorem dX5_put_65 : decode cX5_put 65 = .ok (.bipush 33, 2) := by decide +kernel
theorem dX5_put_67 : decode cX5_put 67 = .ok (.bipush 126, 2) := by decide +kernel
theorem dX5_put_69 : decode cX5_put 69 = .ok (.invokestatic 59, 3) := by decide +kernel
theorem dX5_put_72 : decode cX5_put 72 = .ok (.ifCond .ne 7, 3) := by decide +kernel
theorem dX5_put_75 : decode cX5_put 75 = .ok (.iconst 1, 1) := by decide +kernel
theorem dX5_put_76 : decode cX5_put 76 = .ok (.goto 4, 3) := by decide +kernel
theorem dX5_put_79 : decode cX5_put 79 = .ok (.iconst 0, 1) := by decide +kernel
theorem dX5_put_80 : decode cX5_put 80 = .ok (.istore 4, 2) := by decide +kernel
theorem dX5_put_82 : decode cX5_put 82 = .ok (.iload_n 3, 1) := by decide +kernel
theorem dX5_put_83 : decode cX5_put 83 = .ok (.iload 7, 2) := by decide +kernel
theorem dX5_put_85 : decode cX5_put 85 = .ok (.ifCond .eq 7, 3) := by decide +kernel
theorem dX5_put_88 : decode cX5_put 88 = .ok (.iconst 0, 1) := by decide +kernel
theorem dX5_put_89 : decode cX5_put 89 = .ok (.goto 4, 3) := by decide +kernel
theorem dX5_put_92 : decode cX5_put 92 = .ok (.iconst 1, 1) := by decide +kernel
theorem dX5_put_93 : decode cX5_put 93 = .ok (.iadd, 1) := by decide +kernel
theorem dX5_put_94 : decode cX5_put 94 = .ok (.istore_n 3, 1) := by decide +kernel
theorem dX5_put_95 : decode cX5_put 95 = .ok (.iinc 5 1, 3) := by decide +kernel
theorem dX5_put_98 : decode cX5_put 98 = .ok (.goto (-90), 3) := by decide +kernel
theorem dX5_put_101 : decode cX5_put 101 = .ok (.iload 4, 2) := by decide +kernel
theorem dX5_put_103 : decode cX5_put 103 = .ok (.ifCond .eq 6, 3) := by decide +kernel
theorem dX5_put_106 : decode cX5_put 106 = .ok (.ldc 99, 2) := by decide +kernel
theorem dX5_put_108 : decode cX5_put 108 = .ok (.ireturn, 1) := by decide +kernel
theorem dX5_put_109 : decode cX5_put 109 = .ok (.aload_n 0, 1) := by decide +kernel
theorem dX5_put_110 : decode cX5_put 110 = .ok (.getfield 143, 3) := by decide +kernel
theorem dX5_put_113 : decode cX5_put 113 = .ok (.iload_n 3, 1) := by decide +kernel
theorem dX5_put_114 : decode cX5_put 114 = .ok (.iadd, 1) := by decide +kernel
theorem dX5_put_115 : decode cX5_put 115 = .ok (.bipush 60, 2) := by decide +kernel
theorem dX5_put_117 : decode cX5_put 117 = .ok (.if_icmp .le 6, 3) := by decide +kernel
theorem dX5_put_120 : decode cX5_put 120 = .ok (.ldc 103, 2) := by decide +kernel
theorem dX5_put_122 : decode cX5_put 122 = .ok (.ireturn, 1) := by decide +kernel
theorem dX5_put_123 : decode cX5_put 123 = .ok (.iconst 0, 1) := by decide +kernel
theorem dX5_put_124 : decode cX5_put 124 = .ok (.istore 5, 2) := by decide +kernel
theorem dX5_put_126 : decode cX5_put 126 = .ok (.iload 5, 2) := by decide +kernel
theorem dX5_put_128 : decode cX5_put 128 = .ok (.iload_n 3, 1) := by decide +kernel
theorem dX5_put_129 : decode cX5_put 129 = .ok (.if_icmp .ge 37, 3) := by decide +kernel
theorem dX5_put_132 : decode cX5_put 132 = .ok (.aload_n 0, 1) := by decide +kernel
theorem dX5_put_133 : decode cX5_put 133 = .ok (.getfield 26, 3) := by decide +kernel
theorem dX5_put_136 : decode cX5_put 136 = .ok (.aload_n 0, 1) := by decide +kernel
theorem dX5_put_137 : decode cX5_put 137 = .ok (.getfield 143, 3) := by decide +kernel
theorem dX5_put_140 : decode cX5_put 140 = .ok (.iload_n 3, 1) := by decide +kernel
theorem dX5_put_141 : decode cX5_put 141 = .ok (.iadd, 1) := by decide +kernel
theorem dX5_put_142 : decode cX5_put 142 = .ok (.iconst 1, 1) := by decide +kernel
theorem dX5_put_143 : decode cX5_put 143 = .ok (.isub, 1) := by decide +kernel
theorem dX5_put_144 : decode cX5_put 144 = .ok (.iload 5, 2) := by decide +kernel
theorem dX5_put_146 : decode cX5_put 146 = .ok (.isub, 1) := by decide +kernel
theorem dX5_put_147 : decode cX5_put 147 = .ok (.lload_n 1, 1) := by decide +kernel
theorem dX5_put_148 : decode cX5_put 148 = .ok (.bipush 8, 2) := by decide +kernel
theorem dX5_put_150 : decode cX5_put 150 = .ok (.iload 5, 2) := by decide +kernel
theorem dX5_put_152 : decode cX5_put 152 = .ok (.imul, 1) := by decide +kernel
theorem dX5_put_153 : decode cX5_put 153 = .ok (.lushr, 1) := by decide +kernel
theorem dX5_put_154 : decode cX5_put 154 = .ok (.ldc2_w 158, 3) := by decide +kernel
theorem dX5_put_157 : decode cX5_put 157 = .ok (.land, 1) := by decide +kernel
theorem dX5_put_158 : decode cX5_put 158 = .ok (.l2i, 1) := by decide +kernel
theorem dX5_put_159 : decode cX5_put 159 = .ok (.iastore, 1) := by decide +kernel
theorem dX5_put_160 : decode cX5_put 160 = .ok (.iinc 5 1, 3) := by decide +kernel
theorem dX5_put_163 : decode cX5_put 163 = .ok (.goto (-37), 3) := by decide +kernel
theorem dX5_put_166 : decode cX5_put 166 = .ok (.aload_n 0, 1) := by decide +kernel
theorem dX5_put_167 : decode cX5_put 167 = .ok (.dup, 1) := by decide +kernel
theorem dX5_put_168 : decode cX5_put 168 = .ok (.getfield 143, 3) := by decide +kernel
theorem dX5_put_171 : decode cX5_put 171 = .ok (.iload_n 3, 1) := by decide +kernel
theorem dX5_put_172 : decode cX5_put 172 = .ok (.iadd, 1) := by decide +kernel
theorem dX5_put_173 : decode cX5_put 173 = .ok (.putfield 143, 3) := by decide +kernel
theorem dX5_put_176 : decode cX5_put 176 = .ok (.aload_n 0, 1) := by decide +kernel
theorem dX5_put_177 : decode cX5_put 177 = .ok (.getfield 143, 3) := by decide +kernel
theorem dX5_put_180 : decode cX5_put 180 = .ok (.ireturn, 1) := by decide +kernel
theorem dX5_wipe_0 : decode cX5_wipe 0 = .ok (.aload_n 0, 1) := by decide +kernel
theorem dX5_wipe_1 : decode cX5_wipe 1 = .ok (.getfield 143, 3) := by decide +kernel
theorem dX5_wipe_4 : decode cX5_wipe 4 = .ok (.istore_n 1, 1) := by decide +kernel
theorem dX5_wipe_5 : decode cX5_wipe 5 = .ok (.aload_n 0, 1) := by decide +kernel
theorem dX5_wipe_6 : decode cX5_wipe 6 = .ok (.iconst 0, 1) := by decide +kernel
theorem dX5_wipe_7 : decode cX5_wipe 7 = .ok (.putfield 143, 3) := by decide +kernel
theorem dX5_wipe_10 : decode cX5_wipe 10 = .ok (.iload_n 1, 1) := by decide +kernel
theorem dX5_wipe_11 : decode cX5_wipe 11 = .ok (.ireturn, 1) := by decide +kernel
theorem dX5_sign_0 : decode cX5_sign 0 = .ok (.aload_n 0, 1) := by decide +kernel
theorem dX5_sign_1 : decode cX5_sign 1 = .ok (.getfield 160, 3) := by decide +kernel
theorem dX5_sign_4 : decode cX5_sign 4 = .ok (.aload_n 0, 1) := by decide +kernel
theorem dX5_sign_5 : decode cX5_sign 5 = .ok (.getfield 143, 3) := by decide +kernel
theorem dX5_sign_8 : decode cX5_sign 8 = .ok (.if_icmp .ge 15, 3) := by decide +kernel
theorem dX5_sign_11 : decode cX5_sign 11 = .ok (.aload_n 0, 1) := by decide +kernel
theorem dX5_sign_12 : decode cX5_sign 12 = .ok (.getfield 26, 3) := by decide +kernel
theorem dX5_sign_15 : decode cX5_sign 15 = .ok (.aload_n 0, 1) := by decide +kernel
theorem dX5_sign_16 : decode cX5_sign 16 = .ok (.getfield 160, 3) := by decide +kernel
theorem dX5_sign_19 : decode cX5_sign 19 = .ok (.iaload, 1) := by decide +kernel
theorem dX5_sign_20 : decode cX5_sign 20 = .ok (.goto 4, 3) := by decide +kernel
theorem dX5_sign_23 : decode cX5_sign 23 = .ok (.iconst 0, 1) := by decide +kernel
theorem dX5_sign_24 : decode cX5_sign 24 = .ok (.ireturn, 1) := by decide +kernel
theorem dX5_isNext_0 : decode cX5_isNext 0 = .ok (.aload_n 0, 1) := by decide +kernel
theorem dX5_isNext_1 : decode cX5_isNext 1 = .ok (.getfield 163, 3) := by decide +kernel
theorem dX5_isNext_4 : decode cX5_isNext 4 = .ok (.ifCond .ne 19, 3) := by decide +kernel
theorem dX5_isNext_7 : decode cX5_isNext 7 = .ok (.aload_n 0, 1) := by decide +kernel
theorem dX5_isNext_8 : decode cX5_isNext 8 = .ok (.invokevirtual 167, 3) := by decide +kernel
theorem dX5_isNext_11 : decode cX5_isNext 11 = .ok (.iload_n 1, 1) := by decide +kernel
theorem dX5_isNext_12 : decode cX5_isNext 12 = .ok (.iload_n 2, 1) := by decide +kernel
theorem dX5_isNext_13 : decode cX5_isNext 13 = .ok (.invokestatic 59, 3) := by decide +kernel
theorem dX5_isNext_16 : decode cX5_isNext 16 = .ok (.ifCond .eq 7, 3) := by decide +kernel
theorem dX5_isNext_19 : decode cX5_isNext 19 = .ok (.iconst 1, 1) := by decide +kernel
theorem dX5_isNext_20 : decode cX5_isNext 20 = .ok (.goto 4, 3) := by decide +kernel
theorem dX5_isNext_23 : decode cX5_isNext 23 = .ok (.iconst 0, 1) := by decide +kernel
theorem dX5_isNext_24 : decode cX5_isNext 24 = .ok (.ireturn, 1) := by decide +kernel
theorem dX5_readNumber_0 : decode cX5_readNumber 0 = .ok (.aload_n 0, 1) := by decide +kernel
theorem dX5_readNumber_1 : decode cX5_readNumber 1 = .ok (.iconst 0, 1) := by decide +kernel
theorem dX5_readNumber_2 : decode cX5_readNumber 2 = .ok (.putfield 170, 3) := by decide +kernel
theorem dX5_readNumber_5 : decode cX5_readNumber 5 = .ok (.aload_n 0, 1) := by decide +kernel
theorem dX5_readNumber_6 : decode cX5_readNumber 6 = .ok (.aload_n 0, 1) := by decide +kernel
theorem dX5_readNumber_7 : decode cX5_readNumber 7 = .ok (.getfield 170, 3) := by decide +kernel
theorem dX5_readNumber_10 : decode cX5_readNumber 10 = .ok (.ifCond .ne 8, 3) := by decide +kernel
theorem dX5_readNumber_13 : decode cX5_readNumber 13 = .ok (.bipush 49, 2) := by decide +kernel
theorem dX5_readNumber_15 : decode cX5_readNumber 15 = .ok (.goto 5, 3) := by decide +kernel
theorem dX5_readNumber_18 : decode cX5_readNumber 18 = .ok (.bipush 48, 2) := by decide +kernel
theorem dX5_readNumber_20 : decode cX5_readNumber 20 = .ok (.bipush 57, 2) := by decide +kernel
theorem dX5_readNumber_22 : decode cX5_readNumber 22 = .ok (.invokevirtual 173, 3) := by decide +kernel
theorem dX5_readNumber_25 : decode cX5_readNumber 25 = .ok (.ifCond .eq 54, 3) := by decide +kernel
theorem dX5_readNumber_28 : decode cX5_readNumber 28 = .ok (.bipush 10, 2) := by decide +kernel
theorem dX5_readNumber_30 : decode cX5_readNumber 30 = .ok (.aload_n 0, 1) := by decide +kernel
theorem dX5_readNumber_31 : decode cX5_readNumber 31 = .ok (.getfield 170, 3) := by decide +kernel
theorem dX5_readNumber_34 : decode cX5_readNumber 34 = .ok (.imul, 1) := by decide +kernel
theorem dX5_readNumber_35 : decode cX5_readNumber 35 = .ok (.aload_n 0, 1) := by decide +kernel
theorem dX5_readNumber_36 : decode cX5_readNumber 36 = .ok (.invokevirtual 167, 3) := by decide +kernel
theorem dX5_readNumber_39 : decode cX5_readNumber 39 = .ok (.iadd, 1) := by decide +kernel
theorem dX5_readNumber_40 : decode cX5_readNumber 40 = .ok (.bipush 48, 2) := by decide +kernel
theorem dX5_readNumber_42 : decode cX5_readNumber 42 = .ok (.isub, 1) := by decide +kernel
theorem dX5_readNumber_43 : decode cX5_readNumber 43 = .ok (.iload_n 1, 1) := by decide +kernel
theorem dX5_readNumber_44 : decode cX5_readNumber 44 = .ok (.if_icmp .gt 35, 3) := by decide +kernel
theorem dX5_readNumber_47 : decode cX5_readNumber 47 = .ok (.aload_n 0, 1) := by decide +kernel
theorem dX5_readNumber_48 : decode cX5_readNumber 48 = .ok (.bipush 10, 2) := by decide +kernel
theorem dX5_readNumber_50 : decode cX5_readNumber 50 = .ok (.aload_n 0, 1) := by decide +kernel
theorem dX5_readNumber_51 : decode cX5_readNumber 51 = .ok (.getfield 170, 3) := by decide +kernel
theorem dX5_readNumber_54 : decode cX5_readNumber 54 = .ok (.imul, 1) := by decide +kernel
theorem dX5_readNumber_55 : decode cX5_readNumber 55 = .ok (.aload_n 0, 1) := by decide +kernel
theorem dX5_readNumber_56 : decode cX5_readNumber 56 = .ok (.invokevirtual 167, 3) := by decide +kernel
theorem dX5_readNumber_59 : decode cX5_readNumber 59 = .ok (.iadd, 1) := by decide +kernel
theorem dX5_readNumber_60 : decode cX5_readNumber 60 = .ok (.bipush 48, 2) := by decide +kernel
theorem dX5_readNumber_62 : decode cX5_readNumber 62 = .ok (.isub, 1) := by decide +kernel
theorem dX5_readNumber_63 : decode cX5_readNumber 63 = .ok (.putfield 170, 3) := by decide +kernel
theorem dX5_readNumber_66 : decode cX5_readNumber 66 = .ok (.aload_n 0, 1) := by decide +kernel
theorem dX5_readNumber_67 : decode cX5_readNumber 67 = .ok (.dup, 1) := by decide +kernel
theorem dX5_readNumber_68 : decode cX5_readNumber 68 = .ok (.getfield 160, 3) := by decide +kernel
theorem dX5_readNumber_71 : decode cX5_readNumber 71 = .ok (.iconst 1, 1) := by decide +kernel
theorem dX5_readNumber_72 : decode cX5_readNumber 72 = .ok (.iadd, 1) := by decide +kernel
theorem dX5_readNumber_73 : decode cX5_readNumber 73 = .ok (.putfield 160, 3) := by decide +kernel
theorem dX5_readNumber_76 : decode cX5_readNumber 76 = .ok (.goto (-71), 3) := by decide +kernel
theorem dX5_readNumber_79 : decode cX5_readNumber 79 = .ok (.aload_n 0, 1) := by decide +kernel
theorem dX5_readNumber_80 : decode cX5_readNumber 80 = .ok (.aload_n 0, 1) := by decide +kernel
theorem dX5_readNumber_81 : decode cX5_readNumber 81 = .ok (.getfield 163, 3) := by decide +kernel
theorem dX5_readNumber_84 : decode cX5_readNumber 84 = .ok (.ifCond .ne 10, 3) := by decide +kernel
theorem dX5_readNumber_87 : decode cX5_readNumber 87 = .ok (.aload_n 0, 1) := by decide +kernel
theorem dX5_readNumber_88 : decode cX5_readNumber 88 = .ok (.getfield 170, 3) := by decide +kernel
theorem dX5_readNumber_91 : decode cX5_readNumber 91 = .ok (.ifCond .ne 7, 3) := by decide +kernel
theorem dX5_readNumber_94 : decode cX5_readNumber 94 = .ok (.iconst 1, 1) := by decide +kernel
theorem dX5_readNumber_95 : decode cX5_readNumber 95 = .ok (.goto 4, 3) := by decide +kernel
theorem dX5_readNumber_98 : decode cX5_readNumber 98 = .ok (.iconst 0, 1) := by decide +kernel
theorem dX5_readNumber_99 : decode cX5_readNumber 99 = .ok (.putfield 163, 3) := by decide +kernel
theorem dX5_readNumber_102 : decode cX5_readNumber 102 = .ok (.return_, 1) := by decide +kernel
theorem dX5_readUnits_0 : decode cX5_readUnits 0 = .ok (.iconst 0, 1) := by decide +kernel
theorem dX5_readUnits_1 : decode cX5_readUnits 1 = .ok (.istore_n 1, 1) := by decide +kernel
theorem dX5_readUnits_2 : decode cX5_readUnits 2 = .ok (.iload_n 1, 1) := by decide +kernel
theorem dX5_readUnits_3 : decode cX5_readUnits 3 = .ok (.iconst 4, 1) := by decide +kernel
theorem dX5_readUnits_4 : decode cX5_readUnits 4 = .ok (.if_icmp .ge 16, 3) := by decide +kernel
theorem dX5_readUnits_7 : decode cX5_readUnits 7 = .ok (.aload_n 0, 1) := by decide +kernel
theorem dX5_readUnits_8 : decode cX5_readUnits 8 = .ok (.getfield 29, 3) := by decide +kernel
theorem dX5_readUnits_11 : decode cX5_readUnits 11 = .ok (.iload_n 1, 1) := by decide +kernel
theorem dX5_readUnits_12 : decode cX5_readUnits 12 = .ok (.iconst 0, 1) := by decide +kernel
theorem dX5_readUnits_13 : decode cX5_readUnits 13 = .ok (.iastore, 1) := by decide +kernel
theorem dX5_readUnits_14 : decode cX5_readUnits 14 = .ok (.iinc 1 1, 3) := by decide +kernel
theorem dX5_readUnits_17 : decode cX5_readUnits 17 = .ok (.goto (-15), 3) := by decide +kernel
theorem dX5_readUnits_20 : decode cX5_readUnits 20 = .ok (.bipush 97, 2) := by decide +kernel
theorem dX5_readUnits_22 : decode cX5_readUnits 22 = .ok (.istore_n 1, 1) := by decide +kernel
theorem dX5_readUnits_23 : decode cX5_readUnits 23 = .ok (.aload_n 0, 1) := by decide +kernel
theorem dX5_readUnits_24 : decode cX5_readUnits 24 = .ok (.aload_n 0, 1) := by decide +kernel
theorem dX5_readUnits_25 : decode cX5_readUnits 25 = .ok (.iload_n 1, 1) := by decide +kernel
theorem dX5_readUnits_26 : decode cX5_readUnits 26 = .ok (.bipush 100, 2) := by decide +kernel
theorem dX5_readUnits_28 : decode cX5_readUnits 28 = .ok (.invokevirtual 173, 3) := by decide +kernel
theorem dX5_readUnits_31 : decode cX5_readUnits 31 = .ok (.ifCond .ne 7, 3) := by decide +kernel
theorem dX5_readUnits_34 : decode cX5_readUnits 34 = .ok (.iconst 1, 1) := by decide +kernel
theorem dX5_readUnits_35 : decode cX5_readUnits 35 = .ok (.goto 4, 3) := by decide +kernel
theorem dX5_readUnits_38 : decode cX5_readUnits 38 = .ok (.iconst 0, 1) := by decide +kernel
theorem dX5_readUnits_39 : decode cX5_readUnits 39 = .ok (.putfield 163, 3) := by decide +kernel
theorem dX5_readUnits_42 : decode cX5_readUnits 42 = .ok (.aload_n 0, 1) := by decide +kernel
theorem dX5_readUnits_43 : decode cX5_readUnits 43 = .ok (.iload_n 1, 1) := by decide +kernel
theorem dX5_readUnits_44 : decode cX5_readUnits 44 = .ok (.bipush 100, 2) := by decide +kernel
theorem dX5_readUnits_46 : decode cX5_readUnits 46 = .ok (.invokevirtual 173, 3) := by decide +kernel
theorem dX5_readUnits_49 : decode cX5_readUnits 49 = .ok (.ifCond .eq 48, 3) := by decide +kernel
theorem dX5_readUnits_52 : decode cX5_readUnits 52 = .ok (.aload_n 0, 1) := by decide +kernel
theorem dX5_readUnits_53 : decode cX5_readUnits 53 = .ok (.invokevirtual 167, 3) := by decide +kernel
theorem dX5_readUnits_56 : decode cX5_readUnits 56 = .ok (.bipush 97, 2) := by decide +kernel
theorem dX5_readUnits_58 : decode cX5_readUnits 58 = .ok (.isub, 1) := by decide +kernel
theorem dX5_readUnits_59 : decode cX5_readUnits 59 = .ok (.istore_n 2, 1) := by decide +kernel
theorem dX5_readUnits_60 : decode cX5_readUnits 60 = .ok (.aload_n 0, 1) := by decide +kernel
theorem dX5_readUnits_61 : decode cX5_readUnits 61 = .ok (.dup, 1) := by decide +kernel
theorem dX5_readUnits_62 : decode cX5_readUnits 62 = .ok (.getfield 160, 3) := by decide +kernel
theorem dX5_readUnits_65 : decode cX5_readUnits 65 = .ok (.iconst 1, 1) := by decide +kernel
theorem dX5_readUnits_66 : decode cX5_readUnits 66 = .ok (.iadd, 1) := by decide +kernel
theorem dX5_readUnits_67 : decode cX5_readUnits 67 = .ok (.putfield 160, 3) := by decide +kernel
theorem dX5_readUnits_70 : decode cX5_readUnits 70 = .ok (.aload_n 0, 1) := by decide +kernel
theorem dX5_readUnits_71 : decode cX5_readUnits 71 = .ok (.sipush 400, 3) := by decide +kernel
theorem dX5_readUnits_74 : decode cX5_readUnits 74 = .ok (.invokevirtual 176, 3) := by decide +kernel
theorem dX5_readUnits_77 : decode cX5_readUnits 77 = .ok (.aload_n 0, 1) := by decide +kernel
theorem dX5_readUnits_78 : decode cX5_readUnits 78 = .ok (.getfield 29, 3) := by decide +kernel
theorem dX5_readUnits_81 : decode cX5_readUnits 81 = .ok (.iload_n 2, 1) := by decide +kernel
theorem dX5_readUnits_82 : decode cX5_readUnits 82 = .ok (.aload_n 0, 1) := by decide +kernel
theorem dX5_readUnits_83 : decode cX5_readUnits 83 = .ok (.getfield 170, 3) := by decide +kernel
theorem dX5_readUnits_86 : decode cX5_readUnits 86 = .ok (.iastore, 1) := by decide +kernel
theorem dX5_readUnits_87 : decode cX5_readUnits 87 = .ok (.bipush 97, 2) := by decide +kernel
theorem dX5_readUnits_89 : decode cX5_readUnits 89 = .ok (.iload_n 2, 1) := by decide +kernel
theorem dX5_readUnits_90 : decode cX5_readUnits 90 = .ok (.iadd, 1) := by decide +kernel
theorem dX5_readUnits_91 : decode cX5_readUnits 91 = .ok (.iconst 1, 1) := by decide +kernel
theorem dX5_readUnits_92 : decode cX5_readUnits 92 = .ok (.iadd, 1) := by decide +kernel
theorem dX5_readUnits_93 : decode cX5_readUnits 93 = .ok (.istore_n 1, 1) := by decide +kernel
theorem dX5_readUnits_94 : decode cX5_readUnits 94 = .ok (.goto (-52), 3) := by decide +kernel
theorem dX5_readUnits_97 : decode cX5_readUnits 97 = .ok (.return_, 1) := by decide +kernel
theorem dX5_readHose_0 : decode cX5_readHose 0 = .ok (.aload_n 0, 1) := by decide +kernel
theorem dX5_readHose_1 : decode cX5_readHose 1 = .ok (.aload_n 0, 1) := by decide +kernel
theorem dX5_readHose_2 : decode cX5_readHose 2 = .ok (.invokevirtual 167, 3) := by decide +kernel
theorem dX5_readHose_5 : decode cX5_readHose 5 = .ok (.bipush 48, 2) := by decide +kernel
theorem dX5_readHose_7 : decode cX5_readHose 7 = .ok (.isub, 1) := by decide +kernel
theorem dX5_readHose_8 : decode cX5_readHose 8 = .ok (.putfield 179, 3) := by decide +kernel
theorem dX5_readHose_11 : decode cX5_readHose 11 = .ok (.aload_n 0, 1) := by decide +kernel
theorem dX5_readHose_12 : decode cX5_readHose 12 = .ok (.dup, 1) := by decide +kernel
theorem dX5_readHose_13 : decode cX5_readHose 13 = .ok (.getfield 160, 3) := by decide +kernel
theorem dX5_readHose_16 : decode cX5_readHose 16 = .ok (.iconst 1, 1) := by decide +kernel
theorem dX5_readHose_17 : decode cX5_readHose 17 = .ok (.iadd, 1) := by decide +kernel
theorem dX5_readHose_18 : decode cX5_readHose 18 = .ok (.putfield 160, 3) := by decide +kernel
theorem dX5_readHose_21 : decode cX5_readHose 21 = .ok (.aload_n 0, 1) := by decide +kernel
theorem dX5_readHose_22 : decode cX5_readHose 22 = .ok (.aload_n 0, 1) := by decide +kernel
theorem dX5_readHose_23 : decode cX5_readHose 23 = .ok (.invokevirtual 167, 3) := by decide +kernel
theorem dX5_readHose_26 : decode cX5_readHose 26 = .ok (.putfield 182, 3) := by decide +kernel
theorem dX5_readHose_29 : decode cX5_readHose 29 = .ok (.aload_n 0, 1) := by decide +kernel
theorem dX5_readHose_30 : decode cX5_readHose 30 = .ok (.aload_n 0, 1) := by decide +kernel
theorem dX5_readHose_31 : decode cX5_readHose 31 = .ok (.getfield 182, 3) := by decide +kernel
theorem dX5_readHose_34 : decode cX5_readHose 34 = .ok (.bipush 61, 2) := by decide +kernel
theorem dX5_readHose_36 : decode cX5_readHose 36 = .ok (.if_icmp .eq 25, 3) := by decide +kernel
theorem dX5_readHose_39 : decode cX5_readHose 39 = .ok (.aload_n 0, 1) := by decide +kernel
theorem dX5_readHose_40 : decode cX5_readHose 40 = .ok (.getfield 182, 3) := by decide +kernel
theorem dX5_readHose_43 : decode cX5_readHose 43 = .ok (.bipush 45, 2) := by decide +kernel
theorem dX5_readHose_45 : decode cX5_readHose 45 = .ok (.if_icmp .eq 16, 3) := by decide +kernel
theorem dX5_readHose_48 : decode cX5_readHose 48 = .ok (.aload_n 0, 1) := by decide +kernel
theorem dX5_readHose_49 : decode cX5_readHose 49 = .ok (.getfield 182, 3) := by decide +kernel
theorem dX5_readHose_52 : decode cX5_readHose 52 = .ok (.bipush 126, 2) := by decide +kernel
theorem dX5_readHose_54 : decode cX5_readHose 54 = .ok (.if_icmp .eq 7, 3) := by decide +kernel
theorem dX5_readHose_57 : decode cX5_readHose 57 = .ok (.iconst 1, 1) := by decide +kernel
theorem dX5_readHose_58 : decode cX5_readHose 58 = .ok (.goto 4, 3) := by decide +kernel
theorem dX5_readHose_61 : decode cX5_readHose 61 = .ok (.iconst 0, 1) := by decide +kernel
theorem dX5_readHose_62 : decode cX5_readHose 62 = .ok (.putfield 163, 3) := by decide +kernel
theorem dX5_readHose_65 : decode cX5_readHose 65 = .ok (.aload_n 0, 1) := by decide +kernel
theorem dX5_readHose_66 : decode cX5_readHose 66 = .ok (.dup, 1) := by decide +kernel
theorem dX5_readHose_67 : decode cX5_readHose 67 = .ok (.getfield 160, 3) := by decide +kernel
theorem dX5_readHose_70 : decode cX5_readHose 70 = .ok (.aload_n 0, 1) := by decide +kernel
theorem dX5_readHose_71 : decode cX5_readHose 71 = .ok (.getfield 163, 3) := by decide +kernel
theorem dX5_readHose_74 : decode cX5_readHose 74 = .ok (.ifCond .eq 7, 3) := by decide +kernel
theorem dX5_readHose_77 : decode cX5_readHose 77 = .ok (.iconst 0, 1) := by decide +kernel
theorem dX5_readHose_78 : decode cX5_readHose 78 = .ok (.goto 4, 3) := by decide +kernel
theorem dX5_readHose_81 : decode cX5_readHose 81 = .ok (.iconst 1, 1) := by decide +kernel
theorem dX5_readHose_82 : decode cX5_readHose 82 = .ok (.iadd, 1) := by decide +kernel
theorem dX5_readHose_83 : decode cX5_readHose 83 = .ok (.putfield 160, 3) := by decide +kernel
theorem dX5_readHose_86 : decode cX5_readHose 86 = .ok (.aload_n 0, 1) := by decide +kernel
theorem dX5_readHose_87 : decode cX5_readHose 87 = .ok (.getfield 182, 3) := by decide +kernel
theorem dX5_readHose_90 : decode cX5_readHose 90 = .ok (.bipush 61, 2) := by decide +kernel
theorem dX5_readHose_92 : decode cX5_readHose 92 = .ok (.if_icmp .ne 54, 3) := by decide +kernel
theorem dX5_readHose_95 : decode cX5_readHose 95 = .ok (.aload_n 0, 1) := by decide +kernel
theorem dX5_readHose_96 : decode cX5_readHose 96 = .ok (.aload_n 0, 1) := by decide +kernel
theorem dX5_readHose_97 : decode cX5_readHose 97 = .ok (.invokevirtual 167, 3) := by decide +kernel
theorem dX5_readHose_100 : decode cX5_readHose 100 = .ok (.bipush 97, 2) := by decide +kernel
theorem dX5_readHose_102 : decode cX5_readHose 102 = .ok (.isub, 1) := by decide +kernel
theorem dX5_readHose_103 : decode cX5_readHose 103 = .ok (.putfield 185, 3) := by decide +kernel
theorem dX5_readHose_106 : decode cX5_readHose 106 = .ok (.aload_n 0, 1) := by decide +kernel
theorem dX5_readHose_107 : decode cX5_readHose 107 = .ok (.aload_n 0, 1) := by decide +kernel
theorem dX5_readHose_108 : decode cX5_readHose 108 = .ok (.getfield 185, 3) := by decide +kernel
theorem dX5_readHose_111 : decode cX5_readHose 111 = .ok (.invokestatic 116, 3) := by decide +kernel
theorem dX5_readHose_114 : decode cX5_readHose 114 = .ok (.ifCond .ne 7, 3) := by decide +kernel
theorem dX5_readHose_117 : decode cX5_readHose 117 = .ok (.iconst 1, 1) := by decide +kernel
theorem dX5_readHose_118 : decode cX5_readHose 118 = .ok (.goto 4, 3) := by decide +kernel
theorem dX5_readHose_121 : decode cX5_readHose 121 = .ok (.iconst 0, 1) := by decide +kernel
theorem dX5_readHose_122 : decode cX5_readHose 122 = .ok (.putfield 163, 3) := by decide +kernel
theorem dX5_readHose_125 : decode cX5_readHose 125 = .ok (.aload_n 0, 1) := by decide +kernel
theorem dX5_readHose_126 : decode cX5_readHose 126 = .ok (.dup, 1) := by decide +kernel
theorem dX5_readHose_127 : decode cX5_readHose 127 = .ok (.getfield 160, 3) := by decide +kernel
theorem dX5_readHose_130 : decode cX5_readHose 130 = .ok (.aload_n 0, 1) := by decide +kernel
theorem dX5_readHose_131 : decode cX5_readHose 131 = .ok (.getfield 163, 3) := by decide +kernel
theorem dX5_readHose_134 : decode cX5_readHose 134 = .ok (.ifCond .eq 7, 3) := by decide +kernel
theorem dX5_readHose_137 : decode cX5_readHose 137 = .ok (.iconst 0, 1) := by decide +kernel
theorem dX5_readHose_138 : decode cX5_readHose 138 = .ok (.goto 4, 3) := by decide +kernel
theorem dX5_readHose_141 : decode cX5_readHose 141 = .ok (.iconst 1, 1) := by decide +kernel
theorem dX5_readHose_142 : decode cX5_readHose 142 = .ok (.iadd, 1) := by decide +kernel
theorem dX5_readHose_143 : decode cX5_readHose 143 = .ok (.putfield 160, 3) := by decide +kernel
theorem dX5_readHose_146 : decode cX5_readHose 146 = .ok (.return_, 1) := by decide +kernel
theorem dX5_readOrder_0 : decode cX5_readOrder 0 = .ok (.aload_n 0, 1) := by decide +kernel
theorem dX5_readOrder_1 : decode cX5_readOrder 1 = .ok (.aload_n 0, 1) := by decide +kernel
theorem dX5_readOrder_2 : decode cX5_readOrder 2 = .ok (.invokevirtual 167, 3) := by decide +kernel
theorem dX5_readOrder_5 : decode cX5_readOrder 5 = .ok (.putfield 182, 3) := by decide +kernel
theorem dX5_readOrder_8 : decode cX5_readOrder 8 = .ok (.aload_n 0, 1) := by decide +kernel
theorem dX5_readOrder_9 : decode cX5_readOrder 9 = .ok (.bipush 48, 2) := by decide +kernel
theorem dX5_readOrder_11 : decode cX5_readOrder 11 = .ok (.bipush 51, 2) := by decide +kernel
theorem dX5_readOrder_13 : decode cX5_readOrder 13 = .ok (.invokevirtual 173, 3) := by decide +kernel
theorem dX5_readOrder_16 : decode cX5_readOrder 16 = .ok (.ifCond .eq 10, 3) := by decide +kernel
theorem dX5_readOrder_19 : decode cX5_readOrder 19 = .ok (.aload_n 0, 1) := by decide +kernel
theorem dX5_readOrder_20 : decode cX5_readOrder 20 = .ok (.invokevirtual 188, 3) := by decide +kernel
theorem dX5_readOrder_23 : decode cX5_readOrder 23 = .ok (.goto 61, 3) := by decide +kernel
theorem dX5_readOrder_26 : decode cX5_readOrder 26 = .ok (.aload_n 0, 1) := by decide +kernel
theorem dX5_readOrder_27 : decode cX5_readOrder 27 = .ok (.getfield 182, 3) := by decide +kernel
theorem dX5_readOrder_30 : decode cX5_readOrder 30 = .ok (.bipush 43, 2) := by decide +kernel
theorem dX5_readOrder_32 : decode cX5_readOrder 32 = .ok (.if_icmp .eq 12, 3) := by decide +kernel
theorem dX5_readOrder_35 : decode cX5_readOrder 35 = .ok (.aload_n 0, 1) := by decide +kernel
theorem dX5_readOrder_36 : decode cX5_readOrder 36 = .ok (.getfield 182, 3) := by decide +kernel
theorem dX5_readOrder_39 : decode cX5_readOrder 39 = .ok (.bipush 46, 2) := by decide +kernel
theorem dX5_readOrder_41 : decode cX5_readOrder 41 = .ok (.if_icmp .ne 38, 3) := by decide +kernel
theorem dX5_readOrder_44 : decode cX5_readOrder 44 = .ok (.aload_n 0, 1) := by decide +kernel
theorem dX5_readOrder_45 : decode cX5_readOrder 45 = .ok (.dup, 1) := by decide +kernel
theorem dX5_readOrder_46 : decode cX5_readOrder 46 = .ok (.getfield 160, 3) := by decide +kernel
theorem dX5_readOrder_49 : decode cX5_readOrder 49 = .ok (.iconst 1, 1) := by decide +kernel
theorem dX5_readOrder_50 : decode cX5_readOrder 50 = .ok (.iadd, 1) := by decide +kernel
theorem dX5_readOrder_51 : decode cX5_readOrder 51 = .ok (.putfield 160, 3) := by decide +kernel
theorem dX5_readOrder_54 : decode cX5_readOrder 54 = .ok (.aload_n 0, 1) := by decide +kernel
theorem dX5_readOrder_55 : decode cX5_readOrder 55 = .ok (.getfield 182, 3) := by decide +kernel
theorem dX5_readOrder_58 : decode cX5_readOrder 58 = .ok (.bipush 43, 2) := by decide +kernel
theorem dX5_readOrder_60 : decode cX5_readOrder 60 = .ok (.if_icmp .ne 10, 3) := by decide +kernel
theorem dX5_readOrder_63 : decode cX5_readOrder 63 = .ok (.aload_n 0, 1) := by decide +kernel
theorem dX5_readOrder_64 : decode cX5_readOrder 64 = .ok (.invokevirtual 191, 3) := by decide +kernel
theorem dX5_readOrder_67 : decode cX5_readOrder 67 = .ok (.goto 17, 3) := by decide +kernel
theorem dX5_readOrder_70 : decode cX5_readOrder 70 = .ok (.aload_n 0, 1) := by decide +kernel
theorem dX5_readOrder_71 : decode cX5_readOrder 71 = .ok (.bipush 48, 2) := by decide +kernel
theorem dX5_readOrder_73 : decode cX5_readOrder 73 = .ok (.invokevirtual 176, 3) := by decide +kernel
theorem dX5_readOrder_76 : decode cX5_readOrder 76 = .ok (.goto 8, 3) := by decide +kernel
theorem dX5_readOrder_79 : decode cX5_readOrder 79 = .ok (.aload_n 0, 1) := by decide +kernel
theorem dX5_readOrder_80 : decode cX5_readOrder 80 = .ok (.iconst 1, 1) := by decide +kernel
theorem dX5_readOrder_81 : decode cX5_readOrder 81 = .ok (.putfield 163, 3) := by decide +kernel
theorem dX5_readOrder_84 : decode cX5_readOrder 84 = .ok (.return_, 1) := by decide +kernel
theorem dX5_findFault_0 : decode cX5_findFault 0 = .ok (.aload_n 0, 1) := by decide +kernel
theorem dX5_findFault_1 : decode cX5_findFault 1 = .ok (.iconst 0, 1) := by decide +kernel
theorem dX5_findFault_2 : decode cX5_findFault 2 = .ok (.putfield 160, 3) := by decide +kernel
theorem dX5_findFault_5 : decode cX5_findFault 5 = .ok (.aload_n 0, 1) := by decide +kernel
theorem dX5_findFault_6 : decode cX5_findFault 6 = .ok (.iconst 0, 1) := by decide +kernel
theorem dX5_findFault_7 : decode cX5_findFault 7 = .ok (.putfield 163, 3) := by decide +kernel
theorem dX5_findFault_10 : decode cX5_findFault 10 = .ok (.aload_n 0, 1) := by decide +kernel
theorem dX5_findFault_11 : decode cX5_findFault 11 = .ok (.invokevirtual 194, 3) := by decide +kernel
theorem dX5_findFault_14 : decode cX5_findFault 14 = .ok (.aload_n 0, 1) := by decide +kernel
theorem dX5_findFault_15 : decode cX5_findFault 15 = .ok (.getfield 163, 3) := by decide +kernel
theorem dX5_findFault_18 : decode cX5_findFault 18 = .ok (.ifCond .eq 8, 3) := by decide +kernel
theorem dX5_findFault_21 : decode cX5_findFault 21 = .ok (.aload_n 0, 1) := by decide +kernel
theorem dX5_findFault_22 : decode cX5_findFault 22 = .ok (.getfield 160, 3) := by decide +kernel
theorem dX5_findFault_25 : decode cX5_findFault 25 = .ok (.ireturn, 1) := by decide +kernel
theorem dX5_findFault_26 : decode cX5_findFault 26 = .ok (.aload_n 0, 1) := by decide +kernel
theorem dX5_findFault_27 : decode cX5_findFault 27 = .ok (.getfield 160, 3) := by decide +kernel
theorem dX5_findFault_30 : decode cX5_findFault 30 = .ok (.aload_n 0, 1) := by decide +kernel
theorem dX5_findFault_31 : decode cX5_findFault 31 = .ok (.getfield 143, 3) := by decide +kernel
theorem dX5_findFault_34 : decode cX5_findFault 34 = .ok (.if_icmp .ne 6, 3) := by decide +kernel
theorem dX5_findFault_37 : decode cX5_findFault 37 = .ok (.ldc 36, 2) := by decide +kernel
theorem dX5_findFault_39 : decode cX5_findFault 39 = .ok (.ireturn, 1) := by decide +kernel
theorem dX5_findFault_40 : decode cX5_findFault 40 = .ok (.aload_n 0, 1) := by decide +kernel
theorem dX5_findFault_41 : decode cX5_findFault 41 = .ok (.invokevirtual 167, 3) := by decide +kernel
theorem dX5_findFault_44 : decode cX5_findFault 44 = .ok (.bipush 59, 2) := by decide +kernel
theorem dX5_findFault_46 : decode cX5_findFault 46 = .ok (.if_icmp .eq 8, 3) := by decide +kernel
theorem dX5_findFault_49 : decode cX5_findFault 49 = .ok (.aload_n 0, 1) := by decide +kernel
theorem dX5_findFault_50 : decode cX5_findFault 50 = .ok (.getfield 160, 3) := by decide +kernel
theorem dX5_findFault_53 : decode cX5_findFault 53 = .ok (.ireturn, 1) := by decide +kernel
theorem dX5_findFault_54 : decode cX5_findFault 54 = .ok (.aload_n 0, 1) := by decide +kernel
theorem dX5_findFault_55 : decode cX5_findFault 55 = .ok (.dup, 1) := by decide +kernel
theorem dX5_findFault_56 : decode cX5_findFault 56 = .ok (.getfield 160, 3) := by decide +kernel
theorem dX5_findFault_59 : decode cX5_findFault 59 = .ok (.iconst 1, 1) := by decide +kernel
theorem dX5_findFault_60 : decode cX5_findFault 60 = .ok (.iadd, 1) := by decide +kernel
theorem dX5_findFault_61 : decode cX5_findFault 61 = .ok (.putfield 160, 3) := by decide +kernel
theorem dX5_findFault_64 : decode cX5_findFault 64 = .ok (.goto (-54), 3) := by decide +kernel
theorem dX5_fault_0 : decode cX5_fault 0 = .ok (.aload_n 0, 1) := by decide +kernel
theorem dX5_fault_1 : decode cX5_fault 1 = .ok (.invokevirtual 197, 3) := by decide +kernel
theorem dX5_fault_4 : decode cX5_fault 4 = .ok (.ireturn, 1) := by decide +kernel
theorem dX5_doOrder_0 : decode cX5_doOrder 0 = .ok (.aload_n 0, 1) := by decide +kernel
theorem dX5_doOrder_1 : decode cX5_doOrder 1 = .ok (.getfield 182, 3) := by decide +kernel
theorem dX5_doOrder_4 : decode cX5_doOrder 4 = .ok (.bipush 43, 2) := by decide +kernel
theorem dX5_doOrder_6 : decode cX5_doOrder 6 = .ok (.if_icmp .ne 22, 3) := by decide +kernel
theorem dX5_doOrder_9 : decode cX5_doOrder 9 = .ok (.aload_n 0, 1) := by decide +kernel
theorem dX5_doOrder_10 : decode cX5_doOrder 10 = .ok (.getfield 7, 3) := by decide +kernel
theorem dX5_doOrder_13 : decode cX5_doOrder 13 = .ok (.bipush 12, 2) := by decide +kernel
theorem dX5_doOrder_15 : decode cX5_doOrder 15 = .ok (.iaload, 1) := by decide +kernel
theorem dX5_doOrder_16 : decode cX5_doOrder 16 = .ok (.iconst 5, 1) := by decide +kernel
theorem dX5_doOrder_17 : decode cX5_doOrder 17 = .ok (.if_icmp .ge 7, 3) := by decide +kernel
theorem dX5_doOrder_20 : decode cX5_doOrder 20 = .ok (.iconst 1, 1) := by decide +kernel
theorem dX5_doOrder_21 : decode cX5_doOrder 21 = .ok (.goto 90, 3) := by decide +kernel
theorem dX5_doOrder_24 : decode cX5_doOrder 24 = .ok (.iconst 0, 1) := by decide +kernel
theorem dX5_doOrder_25 : decode cX5_doOrder 25 = .ok (.goto 86, 3) := by decide +kernel
theorem dX5_doOrder_28 : decode cX5_doOrder 28 = .ok (.aload_n 0, 1) := by decide +kernel
theorem dX5_doOrder_29 : decode cX5_doOrder 29 = .ok (.getfield 182, 3) := by decide +kernel
theorem dX5_doOrder_32 : decode cX5_doOrder 32 = .ok (.bipush 61, 2) := by decide +kernel
theorem dX5_doOrder_34 : decode cX5_doOrder 34 = .ok (.if_icmp .ne 14, 3) := by decide +kernel
theorem dX5_doOrder_37 : decode cX5_doOrder 37 = .ok (.aload_n 0, 1) := by decide +kernel
theorem dX5_doOrder_38 : decode cX5_doOrder 38 = .ok (.aload_n 0, 1) := by decide +kernel
theorem dX5_doOrder_39 : decode cX5_doOrder 39 = .ok (.getfield 179, 3) := by decide +kernel
theorem dX5_doOrder_42 : decode cX5_doOrder 42 = .ok (.invokevirtual 119, 3) := by decide +kernel
theorem dX5_doOrder_45 : decode cX5_doOrder 45 = .ok (.goto 66, 3) := by decide +kernel
theorem dX5_doOrder_48 : decode cX5_doOrder 48 = .ok (.aload_n 0, 1) := by decide +kernel
theorem dX5_doOrder_49 : decode cX5_doOrder 49 = .ok (.getfield 182, 3) := by decide +kernel
theorem dX5_doOrder_52 : decode cX5_doOrder 52 = .ok (.bipush 45, 2) := by decide +kernel
theorem dX5_doOrder_54 : decode cX5_doOrder 54 = .ok (.if_icmp .ne 14, 3) := by decide +kernel
theorem dX5_doOrder_57 : decode cX5_doOrder 57 = .ok (.aload_n 0, 1) := by decide +kernel
theorem dX5_doOrder_58 : decode cX5_doOrder 58 = .ok (.aload_n 0, 1) := by decide +kernel
theorem dX5_doOrder_59 : decode cX5_doOrder 59 = .ok (.getfield 179, 3) := by decide +kernel
theorem dX5_doOrder_62 : decode cX5_doOrder 62 = .ok (.invokevirtual 66, 3) := by decide +kernel
theorem dX5_doOrder_65 : decode cX5_doOrder 65 = .ok (.goto 46, 3) := by decide +kernel
theorem dX5_doOrder_68 : decode cX5_doOrder 68 = .ok (.aload_n 0, 1) := by decide +kernel
theorem dX5_doOrder_69 : decode cX5_doOrder 69 = .ok (.getfield 182, 3) := by decide +kernel
theorem dX5_doOrder_72 : decode cX5_doOrder 72 = .ok (.bipush 126, 2) := by decide +kernel
theorem dX5_doOrder_74 : decode cX5_doOrder 74 = .ok (.if_icmp .ne 14, 3) := by decide +kernel
theorem dX5_doOrder_77 : decode cX5_doOrder 77 = .ok (.aload_n 0, 1) := by decide +kernel
theorem dX5_doOrder_78 : decode cX5_doOrder 78 = .ok (.aload_n 0, 1) := by decide +kernel
theorem dX5_doOrder_79 : decode cX5_doOrder 79 = .ok (.getfield 179, 3) := by decide +kernel
theorem dX5_doOrder_82 : decode cX5_doOrder 82 = .ok (.invokevirtual 128, 3) := by decide +kernel
theorem dX5_doOrder_85 : decode cX5_doOrder 85 = .ok (.goto 26, 3) := by decide +kernel
theorem dX5_doOrder_88 : decode cX5_doOrder 88 = .ok (.aload_n 0, 1) := by decide +kernel
theorem dX5_doOrder_89 : decode cX5_doOrder 89 = .ok (.getfield 7, 3) := by decide +kernel
theorem dX5_doOrder_92 : decode cX5_doOrder 92 = .ok (.bipush 6, 2) := by decide +kernel
theorem dX5_doOrder_94 : decode cX5_doOrder 94 = .ok (.iaload, 1) := by decide +kernel
theorem dX5_doOrder_95 : decode cX5_doOrder 95 = .ok (.aload_n 0, 1) := by decide +kernel
theorem dX5_doOrder_96 : decode cX5_doOrder 96 = .ok (.getfield 170, 3) := by decide +kernel
theorem dX5_doOrder_99 : decode cX5_doOrder 99 = .ok (.iadd, 1) := by decide +kernel
theorem dX5_doOrder_100 : decode cX5_doOrder 100 = .ok (.sipush 9999, 3) := by decide +kernel
theorem dX5_doOrder_103 : decode cX5_doOrder 103 = .ok (.if_icmp .gt 7, 3) := by decide +kernel
theorem dX5_doOrder_106 : decode cX5_doOrder 106 = .ok (.iconst 1, 1) := by decide +kernel
theorem dX5_doOrder_107 : decode cX5_doOrder 107 = .ok (.goto 4, 3) := by decide +kernel
theorem dX5_doOrder_110 : decode cX5_doOrder 110 = .ok (.iconst 0, 1) := by decide +kernel
theorem dX5_doOrder_111 : decode cX5_doOrder 111 = .ok (.istore_n 1, 1) := by decide +kernel
theorem dX5_doOrder_112 : decode cX5_doOrder 112 = .ok (.iload_n 1, 1) := by decide +kernel
theorem dX5_doOrder_113 : decode cX5_doOrder 113 = .ok (.ifCond .eq 132, 3) := by decide +kernel
theorem dX5_doOrder_116 : decode cX5_doOrder 116 = .ok (.aload_n 0, 1) := by decide +kernel
theorem dX5_doOrder_117 : decode cX5_doOrder 117 = .ok (.getfield 182, 3) := by decide +kernel
theorem dX5_doOrder_120 : decode cX5_doOrder 120 = .ok (.lookupswitch 116 #[(43, 44), (45, 92), (61, 76), (126, 104)], 44) := by decide +kernel
theorem dX5_doOrder_164 : decode cX5_doOrder 164 = .ok (.aload_n 0, 1) := by decide +kernel
theorem dX5_doOrder_165 : decode cX5_doOrder 165 = .ok (.aload_n 0, 1) := by decide +kernel
theorem dX5_doOrder_166 : decode cX5_doOrder 166 = .ok (.getfield 29, 3) := by decide +kernel
theorem dX5_doOrder_169 : decode cX5_doOrder 169 = .ok (.iconst 0, 1) := by decide +kernel
theorem dX5_doOrder_170 : decode cX5_doOrder 170 = .ok (.iaload, 1) := by decide +kernel
theorem dX5_doOrder_171 : decode cX5_doOrder 171 = .ok (.aload_n 0, 1) := by decide +kernel
theorem dX5_doOrder_172 : decode cX5_doOrder 172 = .ok (.getfield 29, 3) := by decide +kernel
theorem dX5_doOrder_175 : decode cX5_doOrder 175 = .ok (.iconst 1, 1) := by decide +kernel
theorem dX5_doOrder_176 : decode cX5_doOrder 176 = .ok (.iaload, 1) := by decide +kernel
theorem dX5_doOrder_177 : decode cX5_doOrder 177 = .ok (.aload_n 0, 1) := by decide +kernel
theorem dX5_doOrder_178 : decode cX5_doOrder 178 = .ok (.getfield 29, 3) := by decide +kernel
theorem dX5_doOrder_181 : decode cX5_doOrder 181 = .ok (.iconst 2, 1) := by decide +kernel
theorem dX5_doOrder_182 : decode cX5_doOrder 182 = .ok (.iaload, 1) := by decide +kernel
theorem dX5_doOrder_183 : decode cX5_doOrder 183 = .ok (.aload_n 0, 1) := by decide +kernel
theorem dX5_doOrder_184 : decode cX5_doOrder 184 = .ok (.getfield 29, 3) := by decide +kernel
theorem dX5_doOrder_187 : decode cX5_doOrder 187 = .ok (.iconst 3, 1) := by decide +kernel
theorem dX5_doOrder_188 : decode cX5_doOrder 188 = .ok (.iaload, 1) := by decide +kernel
theorem dX5_doOrder_189 : decode cX5_doOrder 189 = .ok (.invokevirtual 104, 3) := by decide +kernel
theorem dX5_doOrder_192 : decode cX5_doOrder 192 = .ok (.pop, 1) := by decide +kernel
theorem dX5_doOrder_193 : decode cX5_doOrder 193 = .ok (.goto 52, 3) := by decide +kernel
theorem dX5_doOrder_196 : decode cX5_doOrder 196 = .ok (.aload_n 0, 1) := by decide +kernel
theorem dX5_doOrder_197 : decode cX5_doOrder 197 = .ok (.aload_n 0, 1) := by decide +kernel
theorem dX5_doOrder_198 : decode cX5_doOrder 198 = .ok (.getfield 179, 3) := by decide +kernel
theorem dX5_doOrder_201 : decode cX5_doOrder 201 = .ok (.aload_n 0, 1) := by decide +kernel
theorem dX5_doOrder_202 : decode cX5_doOrder 202 = .ok (.getfield 185, 3) := by decide +kernel
theorem dX5_doOrder_205 : decode cX5_doOrder 205 = .ok (.invokevirtual 122, 3) := by decide +kernel
theorem dX5_doOrder_208 : decode cX5_doOrder 208 = .ok (.pop, 1) := by decide +kernel
theorem dX5_doOrder_209 : decode cX5_doOrder 209 = .ok (.goto 36, 3) := by decide +kernel
theorem dX5_doOrder_212 : decode cX5_doOrder 212 = .ok (.aload_n 0, 1) := by decide +kernel
theorem dX5_doOrder_213 : decode cX5_doOrder 213 = .ok (.aload_n 0, 1) := by decide +kernel
theorem dX5_doOrder_214 : decode cX5_doOrder 214 = .ok (.getfield 179, 3) := by decide +kernel
theorem dX5_doOrder_217 : decode cX5_doOrder 217 = .ok (.invokevirtual 125, 3) := by decide +kernel
theorem dX5_doOrder_220 : decode cX5_doOrder 220 = .ok (.pop, 1) := by decide +kernel
theorem dX5_doOrder_221 : decode cX5_doOrder 221 = .ok (.goto 24, 3) := by decide +kernel
theorem dX5_doOrder_224 : decode cX5_doOrder 224 = .ok (.aload_n 0, 1) := by decide +kernel
theorem dX5_doOrder_225 : decode cX5_doOrder 225 = .ok (.aload_n 0, 1) := by decide +kernel
theorem dX5_doOrder_226 : decode cX5_doOrder 226 = .ok (.getfield 179, 3) := by decide +kernel
theorem dX5_doOrder_229 : decode cX5_doOrder 229 = .ok (.invokevirtual 131, 3) := by decide +kernel
theorem dX5_doOrder_232 : decode cX5_doOrder 232 = .ok (.pop, 1) := by decide +kernel
theorem dX5_doOrder_233 : decode cX5_doOrder 233 = .ok (.goto 12, 3) := by decide +kernel
theorem dX5_doOrder_236 : decode cX5_doOrder 236 = .ok (.aload_n 0, 1) := by decide +kernel
theorem dX5_doOrder_237 : decode cX5_doOrder 237 = .ok (.aload_n 0, 1) := by decide +kernel
theorem dX5_doOrder_238 : decode cX5_doOrder 238 = .ok (.getfield 170, 3) := by decide +kernel
theorem dX5_doOrder_241 : decode cX5_doOrder 241 = .ok (.invokevirtual 140, 3) := by decide +kernel
theorem dX5_doOrder_244 : decode cX5_doOrder 244 = .ok (.pop, 1) := by decide +kernel
theorem dX5_doOrder_245 : decode cX5_doOrder 245 = .ok (.iload_n 1, 1) := by decide +kernel
theorem dX5_doOrder_246 : decode cX5_doOrder 246 = .ok (.ireturn, 1) := by decide +kernel
theorem dX5_run_0 : decode cX5_run 0 = .ok (.aload_n 0, 1) := by decide +kernel
theorem dX5_run_1 : decode cX5_run 1 = .ok (.invokevirtual 197, 3) := by decide +kernel
theorem dX5_run_4 : decode cX5_run 4 = .ok (.ldc 36, 2) := by decide +kernel
theorem dX5_run_6 : decode cX5_run 6 = .ok (.if_icmp .eq 6, 3) := by decide +kernel
theorem dX5_run_9 : decode cX5_run 9 = .ok (.ldc 200, 2) := by decide +kernel
theorem dX5_run_11 : decode cX5_run 11 = .ok (.ireturn, 1) := by decide +kernel
theorem dX5_run_12 : decode cX5_run 12 = .ok (.aload_n 0, 1) := by decide +kernel
theorem dX5_run_13 : decode cX5_run 13 = .ok (.invokevirtual 100, 3) := by decide +kernel
theorem dX5_run_16 : decode cX5_run 16 = .ok (.iconst 0, 1) := by decide +kernel
theorem dX5_run_17 : decode cX5_run 17 = .ok (.istore_n 1, 1) := by decide +kernel
theorem dX5_run_18 : decode cX5_run 18 = .ok (.aload_n 0, 1) := by decide +kernel
theorem dX5_run_19 : decode cX5_run 19 = .ok (.iconst 0, 1) := by decide +kernel
theorem dX5_run_20 : decode cX5_run 20 = .ok (.putfield 160, 3) := by decide +kernel
theorem dX5_run_23 : decode cX5_run 23 = .ok (.aload_n 0, 1) := by decide +kernel
theorem dX5_run_24 : decode cX5_run 24 = .ok (.getfield 160, 3) := by decide +kernel
theorem dX5_run_27 : decode cX5_run 27 = .ok (.aload_n 0, 1) := by decide +kernel
theorem dX5_run_28 : decode cX5_run 28 = .ok (.getfield 143, 3) := by decide +kernel
theorem dX5_run_31 : decode cX5_run 31 = .ok (.if_icmp .ge 35, 3) := by decide +kernel
theorem dX5_run_34 : decode cX5_run 34 = .ok (.aload_n 0, 1) := by decide +kernel
theorem dX5_run_35 : decode cX5_run 35 = .ok (.invokevirtual 194, 3) := by decide +kernel
theorem dX5_run_38 : decode cX5_run 38 = .ok (.aload_n 0, 1) := by decide +kernel
theorem dX5_run_39 : decode cX5_run 39 = .ok (.dup, 1) := by decide +kernel
theorem dX5_run_40 : decode cX5_run 40 = .ok (.getfield 160, 3) := by decide +kernel
theorem dX5_run_43 : decode cX5_run 43 = .ok (.iconst 1, 1) := by decide +kernel
theorem dX5_run_44 : decode cX5_run 44 = .ok (.iadd, 1) := by decide +kernel
theorem dX5_run_45 : decode cX5_run 45 = .ok (.putfield 160, 3) := by decide +kernel
theorem dX5_run_48 : decode cX5_run 48 = .ok (.iload_n 1, 1) := by decide +kernel
theorem dX5_run_49 : decode cX5_run 49 = .ok (.aload_n 0, 1) := by decide +kernel
theorem dX5_run_50 : decode cX5_run 50 = .ok (.invokevirtual 201, 3) := by decide +kernel
theorem dX5_run_53 : decode cX5_run 53 = .ok (.ifCond .eq 7, 3) := by decide +kernel
theorem dX5_run_56 : decode cX5_run 56 = .ok (.iconst 1, 1) := by decide +kernel
theorem dX5_run_57 : decode cX5_run 57 = .ok (.goto 4, 3) := by decide +kernel
theorem dX5_run_60 : decode cX5_run 60 = .ok (.iconst 0, 1) := by decide +kernel
theorem dX5_run_61 : decode cX5_run 61 = .ok (.iadd, 1) := by decide +kernel
theorem dX5_run_62 : decode cX5_run 62 = .ok (.istore_n 1, 1) := by decide +kernel
theorem dX5_run_63 : decode cX5_run 63 = .ok (.goto (-40), 3) := by decide +kernel
theorem dX5_run_66 : decode cX5_run 66 = .ok (.aload_n 0, 1) := by decide +kernel
theorem dX5_run_67 : decode cX5_run 67 = .ok (.iconst 0, 1) := by decide +kernel
theorem dX5_run_68 : decode cX5_run 68 = .ok (.putfield 143, 3) := by decide +kernel
theorem dX5_run_71 : decode cX5_run 71 = .ok (.iload_n 1, 1) := by decide +kernel
theorem dX5_run_72 : decode cX5_run 72 = .ok (.ireturn, 1) := by decide +kernel
theorem dX5_undo_0 : decode cX5_undo 0 = .ok (.aload_n 0, 1) := by decide +kernel
theorem dX5_undo_1 : decode cX5_undo 1 = .ok (.getfield 37, 3) := by decide +kernel
theorem dX5_undo_4 : decode cX5_undo 4 = .ok (.ifCond .ne 6, 3) := by decide +kernel
theorem dX5_undo_7 : decode cX5_undo 7 = .ok (.ldc 108, 2) := by decide +kernel
theorem dX5_undo_9 : decode cX5_undo 9 = .ok (.ireturn, 1) := by decide +kernel
theorem dX5_undo_10 : decode cX5_undo 10 = .ok (.aload_n 0, 1) := by decide +kernel
theorem dX5_undo_11 : decode cX5_undo 11 = .ok (.dup, 1) := by decide +kernel
theorem dX5_undo_12 : decode cX5_undo 12 = .ok (.getfield 37, 3) := by decide +kernel
theorem dX5_undo_15 : decode cX5_undo 15 = .ok (.iconst 1, 1) := by decide +kernel
theorem dX5_undo_16 : decode cX5_undo 16 = .ok (.isub, 1) := by decide +kernel
theorem dX5_undo_17 : decode cX5_undo 17 = .ok (.putfield 37, 3) := by decide +kernel
theorem dX5_undo_20 : decode cX5_undo 20 = .ok (.iconst 0, 1) := by decide +kernel
theorem dX5_undo_21 : decode cX5_undo 21 = .ok (.istore_n 1, 1) := by decide +kernel
theorem dX5_undo_22 : decode cX5_undo 22 = .ok (.iload_n 1, 1) := by decide +kernel
theorem dX5_undo_23 : decode cX5_undo 23 = .ok (.bipush 80, 2) := by decide +kernel
theorem dX5_undo_25 : decode cX5_undo 25 = .ok (.if_icmp .ge 29, 3) := by decide +kernel
theorem dX5_undo_28 : decode cX5_undo 28 = .ok (.aload_n 0, 1) := by decide +kernel
theorem dX5_undo_29 : decode cX5_undo 29 = .ok (.getfield 7, 3) := by decide +kernel
theorem dX5_undo_32 : decode cX5_undo 32 = .ok (.iload_n 1, 1) := by decide +kernel
theorem dX5_undo_33 : decode cX5_undo 33 = .ok (.aload_n 0, 1) := by decide +kernel
theorem dX5_undo_34 : decode cX5_undo 34 = .ok (.getfield 16, 3) := by decide +kernel
theorem dX5_undo_37 : decode cX5_undo 37 = .ok (.bipush 80, 2) := by decide +kernel
theorem dX5_undo_39 : decode cX5_undo 39 = .ok (.aload_n 0, 1) := by decide +kernel
theorem dX5_undo_40 : decode cX5_undo 40 = .ok (.getfield 37, 3) := by decide +kernel
theorem dX5_undo_43 : decode cX5_undo 43 = .ok (.imul, 1) := by decide +kernel
theorem dX5_undo_44 : decode cX5_undo 44 = .ok (.iload_n 1, 1) := by decide +kernel
theorem dX5_undo_45 : decode cX5_undo 45 = .ok (.iadd, 1) := by decide +kernel
theorem dX5_undo_46 : decode cX5_undo 46 = .ok (.iaload, 1) := by decide +kernel
theorem dX5_undo_47 : decode cX5_undo 47 = .ok (.iastore, 1) := by decide +kernel
theorem dX5_undo_48 : decode cX5_undo 48 = .ok (.iinc 1 1, 3) := by decide +kernel
theorem dX5_undo_51 : decode cX5_undo 51 = .ok (.goto (-29), 3) := by decide +kernel
theorem dX5_undo_54 : decode cX5_undo 54 = .ok (.aload_n 0, 1) := by decide +kernel
theorem dX5_undo_55 : decode cX5_undo 55 = .ok (.getfield 37, 3) := by decide +kernel
theorem dX5_undo_58 : decode cX5_undo 58 = .ok (.ireturn, 1) := by decide +kernel
theorem dX5_save_0 : decode cX5_save 0 = .ok (.iload_n 1, 1) := by decide +kernel
theorem dX5_save_1 : decode cX5_save 1 = .ok (.iconst 0, 1) := by decide +kernel
theorem dX5_save_2 : decode cX5_save 2 = .ok (.iconst 1, 1) := by decide +kernel
theorem dX5_save_3 : decode cX5_save 3 = .ok (.invokestatic 59, 3) := by decide +kernel
theorem dX5_save_6 : decode cX5_save 6 = .ok (.ifCond .ne 6, 3) := by decide +kernel
theorem dX5_save_9 : decode cX5_save 9 = .ok (.ldc 99, 2) := by decide +kernel
theorem dX5_save_11 : decode cX5_save 11 = .ok (.ireturn, 1) := by decide +kernel
theorem dX5_save_12 : decode cX5_save 12 = .ok (.iconst 0, 1) := by decide +kernel
theorem dX5_save_13 : decode cX5_save 13 = .ok (.istore_n 2, 1) := by decide +kernel
theorem dX5_save_14 : decode cX5_save 14 = .ok (.iload_n 2, 1) := by decide +kernel
theorem dX5_save_15 : decode cX5_save 15 = .ok (.bipush 80, 2) := by decide +kernel
theorem dX5_save_17 : decode cX5_save 17 = .ok (.if_icmp .ge 26, 3) := by decide +kernel
theorem dX5_save_20 : decode cX5_save 20 = .ok (.aload_n 0, 1) := by decide +kernel
theorem dX5_save_21 : decode cX5_save 21 = .ok (.getfield 19, 3) := by decide +kernel
theorem dX5_save_24 : decode cX5_save 24 = .ok (.bipush 80, 2) := by decide +kernel
theorem dX5_save_26 : decode cX5_save 26 = .ok (.iload_n 1, 1) := by decide +kernel
theorem dX5_save_27 : decode cX5_save 27 = .ok (.imul, 1) := by decide +kernel
theorem dX5_save_28 : decode cX5_save 28 = .ok (.iload_n 2, 1) := by decide +kernel
theorem dX5_save_29 : decode cX5_save 29 = .ok (.iadd, 1) := by decide +kernel
theorem dX5_save_30 : decode cX5_save 30 = .ok (.aload_n 0, 1) := by decide +kernel
theorem dX5_save_31 : decode cX5_save 31 = .ok (.getfield 7, 3) := by decide +kernel
theorem dX5_save_34 : decode cX5_save 34 = .ok (.iload_n 2, 1) := by decide +kernel
theorem dX5_save_35 : decode cX5_save 35 = .ok (.iaload, 1) := by decide +kernel
theorem dX5_save_36 : decode cX5_save 36 = .ok (.iastore, 1) := by decide +kernel
theorem dX5_save_37 : decode cX5_save 37 = .ok (.iinc 2 1, 3) := by decide +kernel
theorem dX5_save_40 : decode cX5_save 40 = .ok (.goto (-26), 3) := by decide +kernel
theorem dX5_save_43 : decode cX5_save 43 = .ok (.aload_n 0, 1) := by decide +kernel
theorem dX5_save_44 : decode cX5_save 44 = .ok (.getfield 22, 3) := by decide +kernel
theorem dX5_save_47 : decode cX5_save 47 = .ok (.iload_n 1, 1) := by decide +kernel
theorem dX5_save_48 : decode cX5_save 48 = .ok (.iconst 1, 1) := by decide +kernel
theorem dX5_save_49 : decode cX5_save 49 = .ok (.bastore, 1) := by decide +kernel
theorem dX5_save_50 : decode cX5_save 50 = .ok (.aload_n 0, 1) := by decide +kernel
theorem dX5_save_51 : decode cX5_save 51 = .ok (.getfield 7, 3) := by decide +kernel
theorem dX5_save_54 : decode cX5_save 54 = .ok (.bipush 6, 2) := by decide +kernel
theorem dX5_save_56 : decode cX5_save 56 = .ok (.iaload, 1) := by decide +kernel
theorem dX5_save_57 : decode cX5_save 57 = .ok (.ireturn, 1) := by decide +kernel
theorem dX5_restore_0 : decode cX5_restore 0 = .ok (.iload_n 1, 1) := by decide +kernel
theorem dX5_restore_1 : decode cX5_restore 1 = .ok (.iconst 0, 1) := by decide +kernel
theorem dX5_restore_2 : decode cX5_restore 2 = .ok (.iconst 1, 1) := by decide +kernel
theorem dX5_restore_3 : decode cX5_restore 3 = .ok (.invokestatic 59, 3) := by decide +kernel
theorem dX5_restore_6 : decode cX5_restore 6 = .ok (.ifCond .ne 6, 3) := by decide +kernel
theorem dX5_restore_9 : decode cX5_restore 9 = .ok (.ldc 99, 2) := by decide +kernel
theorem dX5_restore_11 : decode cX5_restore 11 = .ok (.ireturn, 1) := by decide +kernel
theorem dX5_restore_12 : decode cX5_restore 12 = .ok (.aload_n 0, 1) := by decide +kernel
theorem dX5_restore_13 : decode cX5_restore 13 = .ok (.getfield 22, 3) := by decide +kernel
theorem dX5_restore_16 : decode cX5_restore 16 = .ok (.iload_n 1, 1) := by decide +kernel
theorem dX5_restore_17 : decode cX5_restore 17 = .ok (.baload, 1) := by decide +kernel
theorem dX5_restore_18 : decode cX5_restore 18 = .ok (.ifCond .ne 6, 3) := by decide +kernel
theorem dX5_restore_21 : decode cX5_restore 21 = .ok (.ldc 108, 2) := by decide +kernel
theorem dX5_restore_23 : decode cX5_restore 23 = .ok (.ireturn, 1) := by decide +kernel
theorem dX5_restore_24 : decode cX5_restore 24 = .ok (.aload_n 0, 1) := by decide +kernel
theorem dX5_restore_25 : decode cX5_restore 25 = .ok (.invokevirtual 100, 3) := by decide +kernel
theorem dX5_restore_28 : decode cX5_restore 28 = .ok (.iconst 0, 1) := by decide +kernel
theorem dX5_restore_29 : decode cX5_restore 29 = .ok (.istore_n 2, 1) := by decide +kernel
theorem dX5_restore_30 : decode cX5_restore 30 = .ok (.iload_n 2, 1) := by decide +kernel
theorem dX5_restore_31 : decode cX5_restore 31 = .ok (.bipush 80, 2) := by decide +kernel
theorem dX5_restore_33 : decode cX5_restore 33 = .ok (.if_icmp .ge 26, 3) := by decide +kernel
theorem dX5_restore_36 : decode cX5_restore 36 = .ok (.aload_n 0, 1) := by decide +kernel
theorem dX5_restore_37 : decode cX5_restore 37 = .ok (.getfield 7, 3) := by decide +kernel
theorem dX5_restore_40 : decode cX5_restore 40 = .ok (.iload_n 2, 1) := by decide +kernel
theorem dX5_restore_41 : decode cX5_restore 41 = .ok (.aload_n 0, 1) := by decide +kernel
theorem dX5_restore_42 : decode cX5_restore 42 = .ok (.getfield 19, 3) := by decide +kernel
theorem dX5_restore_45 : decode cX5_restore 45 = .ok (.bipush 80, 2) := by decide +kernel
theorem dX5_restore_47 : decode cX5_restore 47 = .ok (.iload_n 1, 1) := by decide +kernel
theorem dX5_restore_48 : decode cX5_restore 48 = .ok (.imul, 1) := by decide +kernel
theorem dX5_restore_49 : decode cX5_restore 49 = .ok (.iload_n 2, 1) := by decide +kernel
theorem dX5_restore_50 : decode cX5_restore 50 = .ok (.iadd, 1) := by decide +kernel
theorem dX5_restore_51 : decode cX5_restore 51 = .ok (.iaload, 1) := by decide +kernel
theorem dX5_restore_52 : decode cX5_restore 52 = .ok (.iastore, 1) := by decide +kernel
theorem dX5_restore_53 : decode cX5_restore 53 = .ok (.iinc 2 1, 3) := by decide +kernel
theorem dX5_restore_56 : decode cX5_restore 56 = .ok (.goto (-26), 3) := by decide +kernel
theorem dX5_restore_59 : decode cX5_restore 59 = .ok (.aload_n 0, 1) := by decide +kernel
theorem dX5_restore_60 : decode cX5_restore 60 = .ok (.getfield 7, 3) := by decide +kernel
theorem dX5_restore_63 : decode cX5_restore 63 = .ok (.bipush 6, 2) := by decide +kernel
theorem dX5_restore_65 : decode cX5_restore 65 = .ok (.iaload, 1) := by decide +kernel
theorem dX5_restore_66 : decode cX5_restore 66 = .ok (.ireturn, 1) := by decide +kernel
