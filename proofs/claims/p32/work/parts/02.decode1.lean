theorem dX0_init_0 : decode cX0_init 0 = .ok (.aload_n 0, 1) := by decide +kernel
theorem dX0_init_1 : decode cX0_init 1 = .ok (.invokespecial 3, 3) := by decide +kernel
theorem dX0_init_4 : decode cX0_init 4 = .ok (.aload_n 0, 1) := by decide +kernel
theorem dX0_init_5 : decode cX0_init 5 = .ok (.bipush 90, 2) := by decide +kernel
theorem dX0_init_7 : decode cX0_init 7 = .ok (.putfield 9, 3) := by decide +kernel
theorem dX0_init_10 : decode cX0_init 10 = .ok (.aload_n 0, 1) := by decide +kernel
theorem dX0_init_11 : decode cX0_init 11 = .ok (.ldc 15, 2) := by decide +kernel
theorem dX0_init_13 : decode cX0_init 13 = .ok (.putfield 16, 3) := by decide +kernel
theorem dX0_init_16 : decode cX0_init 16 = .ok (.aload_n 0, 1) := by decide +kernel
theorem dX0_init_17 : decode cX0_init 17 = .ok (.ldc 15, 2) := by decide +kernel
theorem dX0_init_19 : decode cX0_init 19 = .ok (.putfield 19, 3) := by decide +kernel
theorem dX0_init_22 : decode cX0_init 22 = .ok (.aload_n 0, 1) := by decide +kernel
theorem dX0_init_23 : decode cX0_init 23 = .ok (.iconst 0, 1) := by decide +kernel
theorem dX0_init_24 : decode cX0_init 24 = .ok (.putfield 22, 3) := by decide +kernel
theorem dX0_init_27 : decode cX0_init 27 = .ok (.aload_n 0, 1) := by decide +kernel
theorem dX0_init_28 : decode cX0_init 28 = .ok (.iconst 0, 1) := by decide +kernel
theorem dX0_init_29 : decode cX0_init 29 = .ok (.putfield 26, 3) := by decide +kernel
theorem dX0_init_32 : decode cX0_init 32 = .ok (.aload_n 0, 1) := by decide +kernel
theorem dX0_init_33 : decode cX0_init 33 = .ok (.iconst 0, 1) := by decide +kernel
theorem dX0_init_34 : decode cX0_init 34 = .ok (.putfield 29, 3) := by decide +kernel
theorem dX0_init_37 : decode cX0_init 37 = .ok (.aload_n 0, 1) := by decide +kernel
theorem dX0_init_38 : decode cX0_init 38 = .ok (.iconst 0, 1) := by decide +kernel
theorem dX0_init_39 : decode cX0_init 39 = .ok (.putfield 32, 3) := by decide +kernel
theorem dX0_init_42 : decode cX0_init 42 = .ok (.return_, 1) := by decide +kernel
theorem dX0_copyFrom_0 : decode cX0_copyFrom 0 = .ok (.aload_n 0, 1) := by decide +kernel
theorem dX0_copyFrom_1 : decode cX0_copyFrom 1 = .ok (.aload_n 1, 1) := by decide +kernel
theorem dX0_copyFrom_2 : decode cX0_copyFrom 2 = .ok (.getfield 9, 3) := by decide +kernel
theorem dX0_copyFrom_5 : decode cX0_copyFrom 5 = .ok (.putfield 9, 3) := by decide +kernel
theorem dX0_copyFrom_8 : decode cX0_copyFrom 8 = .ok (.aload_n 0, 1) := by decide +kernel
theorem dX0_copyFrom_9 : decode cX0_copyFrom 9 = .ok (.aload_n 1, 1) := by decide +kernel
theorem dX0_copyFrom_10 : decode cX0_copyFrom 10 = .ok (.getfield 16, 3) := by decide +kernel
theorem dX0_copyFrom_13 : decode cX0_copyFrom 13 = .ok (.putfield 16, 3) := by decide +kernel
theorem dX0_copyFrom_16 : decode cX0_copyFrom 16 = .ok (.aload_n 0, 1) := by decide +kernel
theorem dX0_copyFrom_17 : decode cX0_copyFrom 17 = .ok (.aload_n 1, 1) := by decide +kernel
theorem dX0_copyFrom_18 : decode cX0_copyFrom 18 = .ok (.getfield 19, 3) := by decide +kernel
theorem dX0_copyFrom_21 : decode cX0_copyFrom 21 = .ok (.putfield 19, 3) := by decide +kernel
theorem dX0_copyFrom_24 : decode cX0_copyFrom 24 = .ok (.aload_n 0, 1) := by decide +kernel
theorem dX0_copyFrom_25 : decode cX0_copyFrom 25 = .ok (.aload_n 1, 1) := by decide +kernel
theorem dX0_copyFrom_26 : decode cX0_copyFrom 26 = .ok (.getfield 22, 3) := by decide +kernel
theorem dX0_copyFrom_29 : decode cX0_copyFrom 29 = .ok (.putfield 22, 3) := by decide +kernel
theorem dX0_copyFrom_32 : decode cX0_copyFrom 32 = .ok (.aload_n 0, 1) := by decide +kernel
theorem dX0_copyFrom_33 : decode cX0_copyFrom 33 = .ok (.aload_n 1, 1) := by decide +kernel
theorem dX0_copyFrom_34 : decode cX0_copyFrom 34 = .ok (.getfield 26, 3) := by decide +kernel
theorem dX0_copyFrom_37 : decode cX0_copyFrom 37 = .ok (.putfield 26, 3) := by decide +kernel
theorem dX0_copyFrom_40 : decode cX0_copyFrom 40 = .ok (.aload_n 0, 1) := by decide +kernel
theorem dX0_copyFrom_41 : decode cX0_copyFrom 41 = .ok (.aload_n 1, 1) := by decide +kernel
theorem dX0_copyFrom_42 : decode cX0_copyFrom 42 = .ok (.getfield 29, 3) := by decide +kernel
theorem dX0_copyFrom_45 : decode cX0_copyFrom 45 = .ok (.putfield 29, 3) := by decide +kernel
theorem dX0_copyFrom_48 : decode cX0_copyFrom 48 = .ok (.aload_n 0, 1) := by decide +kernel
theorem dX0_copyFrom_49 : decode cX0_copyFrom 49 = .ok (.aload_n 1, 1) := by decide +kernel
theorem dX0_copyFrom_50 : decode cX0_copyFrom 50 = .ok (.getfield 32, 3) := by decide +kernel
theorem dX0_copyFrom_53 : decode cX0_copyFrom 53 = .ok (.putfield 32, 3) := by decide +kernel
theorem dX0_copyFrom_56 : decode cX0_copyFrom 56 = .ok (.return_, 1) := by decide +kernel
theorem dX0_isConnected_0 : decode cX0_isConnected 0 = .ok (.aload_n 0, 1) := by decide +kernel
theorem dX0_isConnected_1 : decode cX0_isConnected 1 = .ok (.getfield 19, 3) := by decide +kernel
theorem dX0_isConnected_4 : decode cX0_isConnected 4 = .ok (.invokestatic 35, 3) := by decide +kernel
theorem dX0_isConnected_7 : decode cX0_isConnected 7 = .ok (.ireturn, 1) := by decide +kernel
theorem dX0_hasOtherLast_0 : decode cX0_hasOtherLast 0 = .ok (.aload_n 0, 1) := by decide +kernel
theorem dX0_hasOtherLast_1 : decode cX0_hasOtherLast 1 = .ok (.getfield 16, 3) := by decide +kernel
theorem dX0_hasOtherLast_4 : decode cX0_hasOtherLast 4 = .ok (.ldc 15, 2) := by decide +kernel
theorem dX0_hasOtherLast_6 : decode cX0_hasOtherLast 6 = .ok (.if_icmp .eq 18, 3) := by decide +kernel
theorem dX0_hasOtherLast_9 : decode cX0_hasOtherLast 9 = .ok (.aload_n 0, 1) := by decide +kernel
theorem dX0_hasOtherLast_10 : decode cX0_hasOtherLast 10 = .ok (.getfield 16, 3) := by decide +kernel
theorem dX0_hasOtherLast_13 : decode cX0_hasOtherLast 13 = .ok (.aload_n 0, 1) := by decide +kernel
theorem dX0_hasOtherLast_14 : decode cX0_hasOtherLast 14 = .ok (.getfield 19, 3) := by decide +kernel
theorem dX0_hasOtherLast_17 : decode cX0_hasOtherLast 17 = .ok (.if_icmp .eq 7, 3) := by decide +kernel
theorem dX0_hasOtherLast_20 : decode cX0_hasOtherLast 20 = .ok (.iconst 1, 1) := by decide +kernel
theorem dX0_hasOtherLast_21 : decode cX0_hasOtherLast 21 = .ok (.goto 4, 3) := by decide +kernel
theorem dX0_hasOtherLast_24 : decode cX0_hasOtherLast 24 = .ok (.iconst 0, 1) := by decide +kernel
theorem dX0_hasOtherLast_25 : decode cX0_hasOtherLast 25 = .ok (.ireturn, 1) := by decide +kernel
theorem dX1_init_0 : decode cX1_init 0 = .ok (.aload_n 0, 1) := by decide +kernel
theorem dX1_init_1 : decode cX1_init 1 = .ok (.invokespecial 3, 3) := by decide +kernel
theorem dX1_init_4 : decode cX1_init 4 = .ok (.aload_n 0, 1) := by decide +kernel
theorem dX1_init_5 : decode cX1_init 5 = .ok (.getstatic 9, 3) := by decide +kernel
theorem dX1_init_8 : decode cX1_init 8 = .ok (.invokevirtual 13, 3) := by decide +kernel
theorem dX1_init_11 : decode cX1_init 11 = .ok (.checkcast 14, 3) := by decide +kernel
theorem dX1_init_14 : decode cX1_init 14 = .ok (.putfield 18, 3) := by decide +kernel
theorem dX1_init_17 : decode cX1_init 17 = .ok (.aload_n 0, 1) := by decide +kernel
theorem dX1_init_18 : decode cX1_init 18 = .ok (.iconst 4, 1) := by decide +kernel
theorem dX1_init_19 : decode cX1_init 19 = .ok (.newarray .int, 2) := by decide +kernel
theorem dX1_init_21 : decode cX1_init 21 = .ok (.putfield 23, 3) := by decide +kernel
theorem dX1_init_24 : decode cX1_init 24 = .ok (.aload_n 0, 1) := by decide +kernel
theorem dX1_init_25 : decode cX1_init 25 = .ok (.iconst 4, 1) := by decide +kernel
theorem dX1_init_26 : decode cX1_init 26 = .ok (.newarray .int, 2) := by decide +kernel
theorem dX1_init_28 : decode cX1_init 28 = .ok (.putfield 26, 3) := by decide +kernel
theorem dX1_init_31 : decode cX1_init 31 = .ok (.aload_n 0, 1) := by decide +kernel
theorem dX1_init_32 : decode cX1_init 32 = .ok (.iconst 4, 1) := by decide +kernel
theorem dX1_init_33 : decode cX1_init 33 = .ok (.newarray .int, 2) := by decide +kernel
theorem dX1_init_35 : decode cX1_init 35 = .ok (.putfield 29, 3) := by decide +kernel
theorem dX1_init_38 : decode cX1_init 38 = .ok (.aload_n 0, 1) := by decide +kernel
theorem dX1_init_39 : decode cX1_init 39 = .ok (.iconst 4, 1) := by decide +kernel
theorem dX1_init_40 : decode cX1_init 40 = .ok (.anewarray 32, 3) := by decide +kernel
theorem dX1_init_43 : decode cX1_init 43 = .ok (.putfield 34, 3) := by decide +kernel
theorem dX1_init_46 : decode cX1_init 46 = .ok (.aload_n 0, 1) := by decide +kernel
theorem dX1_init_47 : decode cX1_init 47 = .ok (.bipush 6, 2) := by decide +kernel
theorem dX1_init_49 : decode cX1_init 49 = .ok (.anewarray 38, 3) := by decide +kernel
theorem dX1_init_52 : decode cX1_init 52 = .ok (.putfield 40, 3) := by decide +kernel
theorem dX1_init_55 : decode cX1_init 55 = .ok (.aload_n 0, 1) := by decide +kernel
theorem dX1_init_56 : decode cX1_init 56 = .ok (.iconst 0, 1) := by decide +kernel
theorem dX1_init_57 : decode cX1_init 57 = .ok (.putfield 44, 3) := by decide +kernel
theorem dX1_init_60 : decode cX1_init 60 = .ok (.aload_n 0, 1) := by decide +kernel
theorem dX1_init_61 : decode cX1_init 61 = .ok (.iconst 0, 1) := by decide +kernel
theorem dX1_init_62 : decode cX1_init 62 = .ok (.putfield 48, 3) := by decide +kernel
theorem dX1_init_65 : decode cX1_init 65 = .ok (.aload_n 0, 1) := by decide +kernel
theorem dX1_init_66 : decode cX1_init 66 = .ok (.iconst 0, 1) := by decide +kernel
theorem dX1_init_67 : decode cX1_init 67 = .ok (.putfield 52, 3) := by decide +kernel
theorem dX1_init_70 : decode cX1_init 70 = .ok (.aload_n 0, 1) := by decide +kernel
theorem dX1_init_71 : decode cX1_init 71 = .ok (.iconst 0, 1) := by decide +kernel
theorem dX1_init_72 : decode cX1_init 72 = .ok (.putfield 55, 3) := by decide +kernel
theorem dX1_init_75 : decode cX1_init 75 = .ok (.aload_n 0, 1) := by decide +kernel
theorem dX1_init_76 : decode cX1_init 76 = .ok (.iconst 0, 1) := by decide +kernel
theorem dX1_init_77 : decode cX1_init 77 = .ok (.putfield 58, 3) := by decide +kernel
theorem dX1_init_80 : decode cX1_init 80 = .ok (.aload_n 0, 1) := by decide +kernel
theorem dX1_init_81 : decode cX1_init 81 = .ok (.iconst 0, 1) := by decide +kernel
theorem dX1_init_82 : decode cX1_init 82 = .ok (.putfield 61, 3) := by decide +kernel
theorem dX1_init_85 : decode cX1_init 85 = .ok (.aload_n 0, 1) := by decide +kernel
theorem dX1_init_86 : decode cX1_init 86 = .ok (.iconst 0, 1) := by decide +kernel
theorem dX1_init_87 : decode cX1_init 87 = .ok (.putfield 64, 3) := by decide +kernel
theorem dX1_init_90 : decode cX1_init 90 = .ok (.aload_n 0, 1) := by decide +kernel
theorem dX1_init_91 : decode cX1_init 91 = .ok (.iconst 0, 1) := by decide +kernel
theorem dX1_init_92 : decode cX1_init 92 = .ok (.putfield 67, 3) := by decide +kernel
theorem dX1_init_95 : decode cX1_init 95 = .ok (.iconst 0, 1) := by decide +kernel
theorem dX1_init_96 : decode cX1_init 96 = .ok (.istore_n 1, 1) := by decide +kernel
theorem dX1_init_97 : decode cX1_init 97 = .ok (.iload_n 1, 1) := by decide +kernel
theorem dX1_init_98 : decode cX1_init 98 = .ok (.iconst 4, 1) := by decide +kernel
theorem dX1_init_99 : decode cX1_init 99 = .ok (.if_icmp .ge 22, 3) := by decide +kernel
theorem dX1_init_102 : decode cX1_init 102 = .ok (.aload_n 0, 1) := by decide +kernel
theorem dX1_init_103 : decode cX1_init 103 = .ok (.getfield 34, 3) := by decide +kernel
theorem dX1_init_106 : decode cX1_init 106 = .ok (.iload_n 1, 1) := by decide +kernel
theorem dX1_init_107 : decode cX1_init 107 = .ok (.new 32, 3) := by decide +kernel
theorem dX1_init_110 : decode cX1_init 110 = .ok (.dup, 1) := by decide +kernel
theorem dX1_init_111 : decode cX1_init 111 = .ok (.invokespecial 70, 3) := by decide +kernel
theorem dX1_init_114 : decode cX1_init 114 = .ok (.aastore, 1) := by decide +kernel
theorem dX1_init_115 : decode cX1_init 115 = .ok (.iinc 1 1, 3) := by decide +kernel
theorem dX1_init_118 : decode cX1_init 118 = .ok (.goto (-21), 3) := by decide +kernel
theorem dX1_init_121 : decode cX1_init 121 = .ok (.iconst 0, 1) := by decide +kernel
theorem dX1_init_122 : decode cX1_init 122 = .ok (.istore_n 1, 1) := by decide +kernel
theorem dX1_init_123 : decode cX1_init 123 = .ok (.iload_n 1, 1) := by decide +kernel
theorem dX1_init_124 : decode cX1_init 124 = .ok (.aload_n 0, 1) := by decide +kernel
theorem dX1_init_125 : decode cX1_init 125 = .ok (.getfield 40, 3) := by decide +kernel
theorem dX1_init_128 : decode cX1_init 128 = .ok (.arraylength, 1) := by decide +kernel
theorem dX1_init_129 : decode cX1_init 129 = .ok (.if_icmp .ge 22, 3) := by decide +kernel
theorem dX1_init_132 : decode cX1_init 132 = .ok (.aload_n 0, 1) := by decide +kernel
theorem dX1_init_133 : decode cX1_init 133 = .ok (.getfield 40, 3) := by decide +kernel
theorem dX1_init_136 : decode cX1_init 136 = .ok (.iload_n 1, 1) := by decide +kernel
theorem dX1_init_137 : decode cX1_init 137 = .ok (.new 38, 3) := by decide +kernel
theorem dX1_init_140 : decode cX1_init 140 = .ok (.dup, 1) := by decide +kernel
theorem dX1_init_141 : decode cX1_init 141 = .ok (.invokespecial 71, 3) := by decide +kernel
theorem dX1_init_144 : decode cX1_init 144 = .ok (.aastore, 1) := by decide +kernel
theorem dX1_init_145 : decode cX1_init 145 = .ok (.iinc 1 1, 3) := by decide +kernel
theorem dX1_init_148 : decode cX1_init 148 = .ok (.goto (-25), 3) := by decide +kernel
theorem dX1_init_151 : decode cX1_init 151 = .ok (.return_, 1) := by decide +kernel
theorem dX1_copyFrom_0 : decode cX1_copyFrom 0 = .ok (.aload_n 1, 1) := by decide +kernel
theorem dX1_copyFrom_1 : decode cX1_copyFrom 1 = .ok (.getfield 18, 3) := by decide +kernel
theorem dX1_copyFrom_4 : decode cX1_copyFrom 4 = .ok (.iconst 0, 1) := by decide +kernel
theorem dX1_copyFrom_5 : decode cX1_copyFrom 5 = .ok (.aload_n 0, 1) := by decide +kernel
theorem dX1_copyFrom_6 : decode cX1_copyFrom 6 = .ok (.getfield 18, 3) := by decide +kernel
theorem dX1_copyFrom_9 : decode cX1_copyFrom 9 = .ok (.iconst 0, 1) := by decide +kernel
theorem dX1_copyFrom_10 : decode cX1_copyFrom 10 = .ok (.aload_n 0, 1) := by decide +kernel
theorem dX1_copyFrom_11 : decode cX1_copyFrom 11 = .ok (.getfield 18, 3) := by decide +kernel
theorem dX1_copyFrom_14 : decode cX1_copyFrom 14 = .ok (.arraylength, 1) := by decide +kernel
theorem dX1_copyFrom_15 : decode cX1_copyFrom 15 = .ok (.invokestatic 72, 3) := by decide +kernel
theorem dX1_copyFrom_18 : decode cX1_copyFrom 18 = .ok (.aload_n 1, 1) := by decide +kernel
theorem dX1_copyFrom_19 : decode cX1_copyFrom 19 = .ok (.getfield 23, 3) := by decide +kernel
theorem dX1_copyFrom_22 : decode cX1_copyFrom 22 = .ok (.iconst 0, 1) := by decide +kernel
theorem dX1_copyFrom_23 : decode cX1_copyFrom 23 = .ok (.aload_n 0, 1) := by decide +kernel
theorem dX1_copyFrom_24 : decode cX1_copyFrom 24 = .ok (.getfield 23, 3) := by decide +kernel
theorem dX1_copyFrom_27 : decode cX1_copyFrom 27 = .ok (.iconst 0, 1) := by decide +kernel
theorem dX1_copyFrom_28 : decode cX1_copyFrom 28 = .ok (.iconst 4, 1) := by decide +kernel
theorem dX1_copyFrom_29 : decode cX1_copyFrom 29 = .ok (.invokestatic 72, 3) := by decide +kernel
theorem dX1_copyFrom_32 : decode cX1_copyFrom 32 = .ok (.aload_n 1, 1) := by decide +kernel
theorem dX1_copyFrom_33 : decode cX1_copyFrom 33 = .ok (.getfield 26, 3) := by decide +kernel
theorem dX1_copyFrom_36 : decode cX1_copyFrom 36 = .ok (.iconst 0, 1) := by decide +kernel
theorem dX1_copyFrom_37 : decode cX1_copyFrom 37 = .ok (.aload_n 0, 1) := by decide +kernel
theorem dX1_copyFrom_38 : decode cX1_copyFrom 38 = .ok (.getfield 26, 3) := by decide +kernel
theorem dX1_copyFrom_41 : decode cX1_copyFrom 41 = .ok (.iconst 0, 1) := by decide +kernel
theorem dX1_copyFrom_42 : decode cX1_copyFrom 42 = .ok (.iconst 4, 1) := by decide +kernel
theorem dX1_copyFrom_43 : decode cX1_copyFrom 43 = .ok (.invokestatic 72, 3) := by decide +kernel
theorem dX1_copyFrom_46 : decode cX1_copyFrom 46 = .ok (.aload_n 1, 1) := by decide +kernel
theorem dX1_copyFrom_47 : decode cX1_copyFrom 47 = .ok (.getfield 29, 3) := by decide +kernel
theorem dX1_copyFrom_50 : decode cX1_copyFrom 50 = .ok (.iconst 0, 1) := by decide +kernel
theorem dX1_copyFrom_51 : decode cX1_copyFrom 51 = .ok (.aload_n 0, 1) := by decide +kernel
theorem dX1_copyFrom_52 : decode cX1_copyFrom 52 = .ok (.getfield 29, 3) := by decide +kernel
theorem dX1_copyFrom_55 : decode cX1_copyFrom 55 = .ok (.iconst 0, 1) := by decide +kernel
theorem dX1_copyFrom_56 : decode cX1_copyFrom 56 = .ok (.iconst 4, 1) := by decide +kernel
theorem dX1_copyFrom_57 : decode cX1_copyFrom 57 = .ok (.invokestatic 72, 3) := by decide +kernel
theorem dX1_copyFrom_60 : decode cX1_copyFrom 60 = .ok (.iconst 0, 1) := by decide +kernel
theorem dX1_copyFrom_61 : decode cX1_copyFrom 61 = .ok (.istore_n 2, 1) := by decide +kernel
theorem dX1_copyFrom_62 : decode cX1_copyFrom 62 = .ok (.iload_n 2, 1) := by decide +kernel
theorem dX1_copyFrom_63 : decode cX1_copyFrom 63 = .ok (.iconst 4, 1) := by decide +kernel
theorem dX1_copyFrom_64 : decode cX1_copyFrom 64 = .ok (.if_icmp .ge 24, 3) := by decide +kernel
theorem dX1_copyFrom_67 : decode cX1_copyFrom 67 = .ok (.aload_n 0, 1) := by decide +kernel
theorem dX1_copyFrom_68 : decode cX1_copyFrom 68 = .ok (.getfield 34, 3) := by decide +kernel
theorem dX1_copyFrom_71 : decode cX1_copyFrom 71 = .ok (.iload_n 2, 1) := by decide +kernel
theorem dX1_copyFrom_72 : decode cX1_copyFrom 72 = .ok (.aaload, 1) := by decide +kernel
theorem dX1_copyFrom_73 : decode cX1_copyFrom 73 = .ok (.aload_n 1, 1) := by decide +kernel
theorem dX1_copyFrom_74 : decode cX1_copyFrom 74 = .ok (.getfield 34, 3) := by decide +kernel
theorem dX1_copyFrom_77 : decode cX1_copyFrom 77 = .ok (.iload_n 2, 1) := by decide +kernel
theorem dX1_copyFrom_78 : decode cX1_copyFrom 78 = .ok (.aaload, 1) := by decide +kernel
theorem dX1_copyFrom_79 : decode cX1_copyFrom 79 = .ok (.invokevirtual 78, 3) := by decide +kernel
theorem dX1_copyFrom_82 : decode cX1_copyFrom 82 = .ok (.iinc 2 1, 3) := by decide +kernel
theorem dX1_copyFrom_85 : decode cX1_copyFrom 85 = .ok (.goto (-23), 3) := by decide +kernel
theorem dX1_copyFrom_88 : decode cX1_copyFrom 88 = .ok (.iconst 0, 1) := by decide +kernel
theorem dX1_copyFrom_89 : decode cX1_copyFrom 89 = .ok (.istore_n 2, 1) := by decide +kernel
theorem dX1_copyFrom_90 : decode cX1_copyFrom 90 = .ok (.iload_n 2, 1) := by decide +kernel
theorem dX1_copyFrom_91 : decode cX1_copyFrom 91 = .ok (.aload_n 0, 1) := by decide +kernel
theorem dX1_copyFrom_92 : decode cX1_copyFrom 92 = .ok (.getfield 40, 3) := by decide +kernel
theorem dX1_copyFrom_95 : decode cX1_copyFrom 95 = .ok (.arraylength, 1) := by decide +kernel
theorem dX1_copyFrom_96 : decode cX1_copyFrom 96 = .ok (.if_icmp .ge 24, 3) := by decide +kernel
theorem dX1_copyFrom_99 : decode cX1_copyFrom 99 = .ok (.aload_n 0, 1) := by decide +kernel
theorem dX1_copyFrom_100 : decode cX1_copyFrom 100 = .ok (.getfield 40, 3) := by decide +kernel
theorem dX1_copyFrom_103 : decode cX1_copyFrom 103 = .ok (.iload_n 2, 1) := by decide +kernel
theorem dX1_copyFrom_104 : decode cX1_copyFrom 104 = .ok (.aaload, 1) := by decide +kernel
theorem dX1_copyFrom_105 : decode cX1_copyFrom 105 = .ok (.aload_n 1, 1) := by decide +kernel
theorem dX1_copyFrom_106 : decode cX1_copyFrom 106 = .ok (.getfield 40, 3) := by decide +kernel
theorem dX1_copyFrom_109 : decode cX1_copyFrom 109 = .ok (.iload_n 2, 1) := by decide +kernel
theorem dX1_copyFrom_110 : decode cX1_copyFrom 110 = .ok (.aaload, 1) := by decide +kernel
theorem dX1_copyFrom_111 : decode cX1_copyFrom 111 = .ok (.invokevirtual 82, 3) := by decide +kernel
theorem dX1_copyFrom_114 : decode cX1_copyFrom 114 = .ok (.iinc 2 1, 3) := by decide +kernel
theorem dX1_copyFrom_117 : decode cX1_copyFrom 117 = .ok (.goto (-27), 3) := by decide +kernel
theorem dX1_copyFrom_120 : decode cX1_copyFrom 120 = .ok (.aload_n 0, 1) := by decide +kernel
theorem dX1_copyFrom_121 : decode cX1_copyFrom 121 = .ok (.aload_n 1, 1) := by decide +kernel
theorem dX1_copyFrom_122 : decode cX1_copyFrom 122 = .ok (.getfield 44, 3) := by decide +kernel
theorem dX1_copyFrom_125 : decode cX1_copyFrom 125 = .ok (.putfield 44, 3) := by decide +kernel
theorem dX1_copyFrom_128 : decode cX1_copyFrom 128 = .ok (.aload_n 0, 1) := by decide +kernel
theorem dX1_copyFrom_129 : decode cX1_copyFrom 129 = .ok (.aload_n 1, 1) := by decide +kernel
theorem dX1_copyFrom_130 : decode cX1_copyFrom 130 = .ok (.getfield 48, 3) := by decide +kernel
theorem dX1_copyFrom_133 : decode cX1_copyFrom 133 = .ok (.putfield 48, 3) := by decide +kernel
theorem dX1_copyFrom_136 : decode cX1_copyFrom 136 = .ok (.aload_n 0, 1) := by decide +kernel
theorem dX1_copyFrom_137 : decode cX1_copyFrom 137 = .ok (.aload_n 1, 1) := by decide +kernel
theorem dX1_copyFrom_138 : decode cX1_copyFrom 138 = .ok (.getfield 52, 3) := by decide +kernel
theorem dX1_copyFrom_141 : decode cX1_copyFrom 141 = .ok (.putfield 52, 3) := by decide +kernel
theorem dX1_copyFrom_144 : decode cX1_copyFrom 144 = .ok (.aload_n 0, 1) := by decide +kernel
theorem dX1_copyFrom_145 : decode cX1_copyFrom 145 = .ok (.aload_n 1, 1) := by decide +kernel
theorem dX1_copyFrom_146 : decode cX1_copyFrom 146 = .ok (.getfield 55, 3) := by decide +kernel
theorem dX1_copyFrom_149 : decode cX1_copyFrom 149 = .ok (.putfield 55, 3) := by decide +kernel
theorem dX1_copyFrom_152 : decode cX1_copyFrom 152 = .ok (.aload_n 0, 1) := by decide +kernel
theorem dX1_copyFrom_153 : decode cX1_copyFrom 153 = .ok (.aload_n 1, 1) := by decide +kernel
theorem dX1_copyFrom_154 : decode cX1_copyFrom 154 = .ok (.getfield 58, 3) := by decide +kernel
theorem dX1_copyFrom_157 : decode cX1_copyFrom 157 = .ok (.putfield 58, 3) := by decide +kernel
theorem dX1_copyFrom_160 : decode cX1_copyFrom 160 = .ok (.aload_n 0, 1) := by decide +kernel
theorem dX1_copyFrom_161 : decode cX1_copyFrom 161 = .ok (.aload_n 1, 1) := by decide +kernel
theorem dX1_copyFrom_162 : decode cX1_copyFrom 162 = .ok (.getfield 61, 3) := by decide +kernel
theorem dX1_copyFrom_165 : decode cX1_copyFrom 165 = .ok (.putfield 61, 3) := by decide +kernel
theorem dX1_copyFrom_168 : decode cX1_copyFrom 168 = .ok (.aload_n 0, 1) := by decide +kernel
theorem dX1_copyFrom_169 : decode cX1_copyFrom 169 = .ok (.aload_n 1, 1) := by decide +kernel
theorem dX1_copyFrom_170 : decode cX1_copyFrom 170 = .ok (.getfield 64, 3) := by decide +kernel
theorem dX1_copyFrom_173 : decode cX1_copyFrom 173 = .ok (.putfield 64, 3) := by decide +kernel
theorem dX1_copyFrom_176 : decode cX1_copyFrom 176 = .ok (.aload_n 0, 1) := by decide +kernel
theorem dX1_copyFrom_177 : decode cX1_copyFrom 177 = .ok (.aload_n 1, 1) := by decide +kernel
theorem dX1_copyFrom_178 : decode cX1_copyFrom 178 = .ok (.getfield 67, 3) := by decide +kernel
theorem dX1_copyFrom_181 : decode cX1_copyFrom 181 = .ok (.putfield 67, 3) := by decide +kernel
theorem dX1_copyFrom_184 : decode cX1_copyFrom 184 = .ok (.return_, 1) := by decide +kernel
theorem dX1_tideAt_0 : decode cX1_tideAt 0 = .ok (.aload_n 0, 1) := by decide +kernel
theorem dX1_tideAt_1 : decode cX1_tideAt 1 = .ok (.getfield 18, 3) := by decide +kernel
theorem dX1_tideAt_4 : decode cX1_tideAt 4 = .ok (.iconst 1, 1) := by decide +kernel
theorem dX1_tideAt_5 : decode cX1_tideAt 5 = .ok (.iaload, 1) := by decide +kernel
theorem dX1_tideAt_6 : decode cX1_tideAt 6 = .ok (.getstatic 85, 3) := by decide +kernel
theorem dX1_tideAt_9 : decode cX1_tideAt 9 = .ok (.iload_n 1, 1) := by decide +kernel
theorem dX1_tideAt_10 : decode cX1_tideAt 10 = .ok (.bipush 12, 2) := by decide +kernel
theorem dX1_tideAt_12 : decode cX1_tideAt 12 = .ok (.invokestatic 88, 3) := by decide +kernel
theorem dX1_tideAt_15 : decode cX1_tideAt 15 = .ok (.iaload, 1) := by decide +kernel
theorem dX1_tideAt_16 : decode cX1_tideAt 16 = .ok (.imul, 1) := by decide +kernel
theorem dX1_tideAt_17 : decode cX1_tideAt 17 = .ok (.bipush 10, 2) := by decide +kernel
theorem dX1_tideAt_19 : decode cX1_tideAt 19 = .ok (.idiv, 1) := by decide +kernel
theorem dX1_tideAt_20 : decode cX1_tideAt 20 = .ok (.ireturn, 1) := by decide +kernel
theorem dX1_heightAt_0 : decode cX1_heightAt 0 = .ok (.bipush 100, 2) := by decide +kernel
theorem dX1_heightAt_2 : decode cX1_heightAt 2 = .ok (.aload_n 0, 1) := by decide +kernel
theorem dX1_heightAt_3 : decode cX1_heightAt 3 = .ok (.iload_n 2, 1) := by decide +kernel
theorem dX1_heightAt_4 : decode cX1_heightAt 4 = .ok (.invokevirtual 94, 3) := by decide +kernel
theorem dX1_heightAt_7 : decode cX1_heightAt 7 = .ok (.iadd, 1) := by decide +kernel
theorem dX1_heightAt_8 : decode cX1_heightAt 8 = .ok (.iload_n 1, 1) := by decide +kernel
theorem dX1_heightAt_9 : decode cX1_heightAt 9 = .ok (.isub, 1) := by decide +kernel
theorem dX1_heightAt_10 : decode cX1_heightAt 10 = .ok (.ireturn, 1) := by decide +kernel
theorem dX1_floatsAt_0 : decode cX1_floatsAt 0 = .ok (.aload_n 0, 1) := by decide +kernel
theorem dX1_floatsAt_1 : decode cX1_floatsAt 1 = .ok (.getfield 18, 3) := by decide +kernel
theorem dX1_floatsAt_4 : decode cX1_floatsAt 4 = .ok (.iconst 0, 1) := by decide +kernel
theorem dX1_floatsAt_5 : decode cX1_floatsAt 5 = .ok (.iaload, 1) := by decide +kernel
theorem dX1_floatsAt_6 : decode cX1_floatsAt 6 = .ok (.aload_n 0, 1) := by decide +kernel
theorem dX1_floatsAt_7 : decode cX1_floatsAt 7 = .ok (.iload_n 2, 1) := by decide +kernel
theorem dX1_floatsAt_8 : decode cX1_floatsAt 8 = .ok (.invokevirtual 94, 3) := by decide +kernel
theorem dX1_floatsAt_11 : decode cX1_floatsAt 11 = .ok (.iadd, 1) := by decide +kernel
theorem dX1_floatsAt_12 : decode cX1_floatsAt 12 = .ok (.iload_n 1, 1) := by decide +kernel
theorem dX1_floatsAt_13 : decode cX1_floatsAt 13 = .ok (.aload_n 0, 1) := by decide +kernel
theorem dX1_floatsAt_14 : decode cX1_floatsAt 14 = .ok (.getfield 18, 3) := by decide +kernel
theorem dX1_floatsAt_17 : decode cX1_floatsAt 17 = .ok (.iconst 2, 1) := by decide +kernel
theorem dX1_floatsAt_18 : decode cX1_floatsAt 18 = .ok (.iaload, 1) := by decide +kernel
theorem dX1_floatsAt_19 : decode cX1_floatsAt 19 = .ok (.iadd, 1) := by decide +kernel
theorem dX1_floatsAt_20 : decode cX1_floatsAt 20 = .ok (.if_icmp .lt 7, 3) := by decide +kernel
theorem dX1_floatsAt_23 : decode cX1_floatsAt 23 = .ok (.iconst 1, 1) := by decide +kernel
theorem dX1_floatsAt_24 : decode cX1_floatsAt 24 = .ok (.goto 4, 3) := by decide +kernel
theorem dX1_floatsAt_27 : decode cX1_floatsAt 27 = .ok (.iconst 0, 1) := by decide +kernel
theorem dX1_floatsAt_28 : decode cX1_floatsAt 28 = .ok (.ireturn, 1) := by decide +kernel
theorem dX1_isTankerAt_0 : decode cX1_isTankerAt 0 = .ok (.iload_n 1, 1) := by decide +kernel
theorem dX1_isTankerAt_1 : decode cX1_isTankerAt 1 = .ok (.ifCond .ne 10, 3) := by decide +kernel
theorem dX1_isTankerAt_4 : decode cX1_isTankerAt 4 = .ok (.aload_n 0, 1) := by decide +kernel
theorem dX1_isTankerAt_5 : decode cX1_isTankerAt 5 = .ok (.getfield 44, 3) := by decide +kernel
theorem dX1_isTankerAt_8 : decode cX1_isTankerAt 8 = .ok (.goto 29, 3) := by decide +kernel
theorem dX1_isTankerAt_11 : decode cX1_isTankerAt 11 = .ok (.iload_n 1, 1) := by decide +kernel
theorem dX1_isTankerAt_12 : decode cX1_isTankerAt 12 = .ok (.ifCond .le 24, 3) := by decide +kernel
theorem dX1_isTankerAt_15 : decode cX1_isTankerAt 15 = .ok (.iload_n 1, 1) := by decide +kernel
theorem dX1_isTankerAt_16 : decode cX1_isTankerAt 16 = .ok (.aload_n 0, 1) := by decide +kernel
theorem dX1_isTankerAt_17 : decode cX1_isTankerAt 17 = .ok (.getfield 48, 3) := by decide +kernel
theorem dX1_isTankerAt_20 : decode cX1_isTankerAt 20 = .ok (.if_icmp .gt 16, 3) := by decide +kernel
theorem dX1_isTankerAt_23 : decode cX1_isTankerAt 23 = .ok (.iload_n 1, 1) := by decide +kernel
theorem dX1_isTankerAt_24 : decode cX1_isTankerAt 24 = .ok (.aload_n 0, 1) := by decide +kernel
theorem dX1_isTankerAt_25 : decode cX1_isTankerAt 25 = .ok (.getfield 40, 3) := by decide +kernel
theorem dX1_isTankerAt_28 : decode cX1_isTankerAt 28 = .ok (.arraylength, 1) := by decide +kernel
theorem dX1_isTankerAt_29 : decode cX1_isTankerAt 29 = .ok (.if_icmp .ge 7, 3) := by decide +kernel
theorem dX1_isTankerAt_32 : decode cX1_isTankerAt 32 = .ok (.iconst 1, 1) := by decide +kernel
theorem dX1_isTankerAt_33 : decode cX1_isTankerAt 33 = .ok (.goto 4, 3) := by decide +kernel
theorem dX1_isTankerAt_36 : decode cX1_isTankerAt 36 = .ok (.iconst 0, 1) := by decide +kernel
theorem dX1_isTankerAt_37 : decode cX1_isTankerAt 37 = .ok (.ireturn, 1) := by decide +kernel
theorem dX1_changeSetting_0 : decode cX1_changeSetting 0 = .ok (.iload_n 1, 1) := by decide +kernel
theorem dX1_changeSetting_1 : decode cX1_changeSetting 1 = .ok (.ifCond .lt 12, 3) := by decide +kernel
theorem dX1_changeSetting_4 : decode cX1_changeSetting 4 = .ok (.iload_n 1, 1) := by decide +kernel
theorem dX1_changeSetting_5 : decode cX1_changeSetting 5 = .ok (.aload_n 0, 1) := by decide +kernel
theorem dX1_changeSetting_6 : decode cX1_changeSetting 6 = .ok (.getfield 18, 3) := by decide +kernel
theorem dX1_changeSetting_9 : decode cX1_changeSetting 9 = .ok (.arraylength, 1) := by decide +kernel
theorem dX1_changeSetting_10 : decode cX1_changeSetting 10 = .ok (.if_icmp .lt 6, 3) := by decide +kernel
theorem dX1_changeSetting_13 : decode cX1_changeSetting 13 = .ok (.ldc 98, 2) := by decide +kernel
theorem dX1_changeSetting_15 : decode cX1_changeSetting 15 = .ok (.ireturn, 1) := by decide +kernel
theorem dX1_changeSetting_16 : decode cX1_changeSetting 16 = .ok (.iload_n 2, 1) := by decide +kernel
theorem dX1_changeSetting_17 : decode cX1_changeSetting 17 = .ok (.getstatic 99, 3) := by decide +kernel
theorem dX1_changeSetting_20 : decode cX1_changeSetting 20 = .ok (.iload_n 1, 1) := by decide +kernel
theorem dX1_changeSetting_21 : decode cX1_changeSetting 21 = .ok (.iaload, 1) := by decide +kernel
theorem dX1_changeSetting_22 : decode cX1_changeSetting 22 = .ok (.if_icmp .lt 12, 3) := by decide +kernel
theorem dX1_changeSetting_25 : decode cX1_changeSetting 25 = .ok (.iload_n 2, 1) := by decide +kernel
theorem dX1_changeSetting_26 : decode cX1_changeSetting 26 = .ok (.getstatic 102, 3) := by decide +kernel
theorem dX1_changeSetting_29 : decode cX1_changeSetting 29 = .ok (.iload_n 1, 1) := by decide +kernel
theorem dX1_changeSetting_30 : decode cX1_changeSetting 30 = .ok (.iaload, 1) := by decide +kernel
theorem dX1_changeSetting_31 : decode cX1_changeSetting 31 = .ok (.if_icmp .le 6, 3) := by decide +kernel
theorem dX1_changeSetting_34 : decode cX1_changeSetting 34 = .ok (.ldc 98, 2) := by decide +kernel
theorem dX1_changeSetting_36 : decode cX1_changeSetting 36 = .ok (.ireturn, 1) := by decide +kernel
theorem dX1_changeSetting_37 : decode cX1_changeSetting 37 = .ok (.aload_n 0, 1) := by decide +kernel
theorem dX1_changeSetting_38 : decode cX1_changeSetting 38 = .ok (.getfield 18, 3) := by decide +kernel
theorem dX1_changeSetting_41 : decode cX1_changeSetting 41 = .ok (.iload_n 1, 1) := by decide +kernel
theorem dX1_changeSetting_42 : decode cX1_changeSetting 42 = .ok (.iaload, 1) := by decide +kernel
theorem dX1_changeSetting_43 : decode cX1_changeSetting 43 = .ok (.istore_n 3, 1) := by decide +kernel
theorem dX1_changeSetting_44 : decode cX1_changeSetting 44 = .ok (.aload_n 0, 1) := by decide +kernel
theorem dX1_changeSetting_45 : decode cX1_changeSetting 45 = .ok (.getfield 18, 3) := by decide +kernel
theorem dX1_changeSetting_48 : decode cX1_changeSetting 48 = .ok (.iload_n 1, 1) := by decide +kernel
theorem dX1_changeSetting_49 : decode cX1_changeSetting 49 = .ok (.iload_n 2, 1) := by decide +kernel
theorem dX1_changeSetting_50 : decode cX1_changeSetting 50 = .ok (.iastore, 1) := by decide +kernel
theorem dX1_changeSetting_51 : decode cX1_changeSetting 51 = .ok (.iload_n 3, 1) := by decide +kernel
theorem dX1_changeSetting_52 : decode cX1_changeSetting 52 = .ok (.ireturn, 1) := by decide +kernel
theorem dX1_letArrive_0 : decode cX1_letArrive 0 = .ok (.iload_n 1, 1) := by decide +kernel
theorem dX1_letArrive_1 : decode cX1_letArrive 1 = .ok (.invokestatic 105, 3) := by decide +kernel
theorem dX1_letArrive_4 : decode cX1_letArrive 4 = .ok (.ifCond .eq 36, 3) := by decide +kernel
theorem dX1_letArrive_7 : decode cX1_letArrive 7 = .ok (.iload_n 2, 1) := by decide +kernel
theorem dX1_letArrive_8 : decode cX1_letArrive 8 = .ok (.invokestatic 105, 3) := by decide +kernel
theorem dX1_letArrive_11 : decode cX1_letArrive 11 = .ok (.ifCond .eq 29, 3) := by decide +kernel
theorem dX1_letArrive_14 : decode cX1_letArrive 14 = .ok (.iload_n 3, 1) := by decide +kernel
theorem dX1_letArrive_15 : decode cX1_letArrive 15 = .ok (.invokestatic 105, 3) := by decide +kernel
theorem dX1_letArrive_18 : decode cX1_letArrive 18 = .ok (.ifCond .eq 22, 3) := by decide +kernel
theorem dX1_letArrive_21 : decode cX1_letArrive 21 = .ok (.iload 4, 2) := by decide +kernel
theorem dX1_letArrive_23 : decode cX1_letArrive 23 = .ok (.invokestatic 105, 3) := by decide +kernel
theorem dX1_letArrive_26 : decode cX1_letArrive 26 = .ok (.ifCond .eq 14, 3) := by decide +kernel
theorem dX1_letArrive_29 : decode cX1_letArrive 29 = .ok (.iload_n 1, 1) := by decide +kernel
theorem dX1_letArrive_30 : decode cX1_letArrive 30 = .ok (.iload_n 2, 1) := by decide +kernel
theorem dX1_letArrive_31 : decode cX1_letArrive 31 = .ok (.iadd, 1) := by decide +kernel
theorem dX1_letArrive_32 : decode cX1_letArrive 32 = .ok (.iload_n 3, 1) := by decide +kernel
theorem dX1_letArrive_33 : decode cX1_letArrive 33 = .ok (.iadd, 1) := by decide +kernel
theorem dX1_letArrive_34 : decode cX1_letArrive 34 = .ok (.iload 4, 2) := by decide +kernel
theorem dX1_letArrive_36 : decode cX1_letArrive 36 = .ok (.iadd, 1) := by decide +kernel
theorem dX1_letArrive_37 : decode cX1_letArrive 37 = .ok (.ifCond .ne 6, 3) := by decide +kernel
theorem dX1_letArrive_40 : decode cX1_letArrive 40 = .ok (.ldc 98, 2) := by decide +kernel
theorem dX1_letArrive_42 : decode cX1_letArrive 42 = .ok (.ireturn, 1) := by decide +kernel
theorem dX1_letArrive_43 : decode cX1_letArrive 43 = .ok (.aload_n 0, 1) := by decide +kernel
theorem dX1_letArrive_44 : decode cX1_letArrive 44 = .ok (.getfield 48, 3) := by decide +kernel
theorem dX1_letArrive_47 : decode cX1_letArrive 47 = .ok (.ifCond .lt 11, 3) := by decide +kernel
theorem dX1_letArrive_50 : decode cX1_letArrive 50 = .ok (.aload_n 0, 1) := by decide +kernel
theorem dX1_letArrive_51 : decode cX1_letArrive 51 = .ok (.getfield 48, 3) := by decide +kernel
theorem dX1_letArrive_54 : decode cX1_letArrive 54 = .ok (.iconst 5, 1) := by decide +kernel
theorem dX1_letArrive_55 : decode cX1_letArrive 55 = .ok (.if_icmp .lt 6, 3) := by decide +kernel
theorem dX1_letArrive_58 : decode cX1_letArrive 58 = .ok (.ldc 109, 2) := by decide +kernel
theorem dX1_letArrive_60 : decode cX1_letArrive 60 = .ok (.ireturn, 1) := by decide +kernel
theorem dX1_letArrive_61 : decode cX1_letArrive 61 = .ok (.aload_n 0, 1) := by decide +kernel
theorem dX1_letArrive_62 : decode cX1_letArrive 62 = .ok (.dup, 1) := by decide +kernel
theorem dX1_letArrive_63 : decode cX1_letArrive 63 = .ok (.getfield 48, 3) := by decide +kernel
theorem dX1_letArrive_66 : decode cX1_letArrive 66 = .ok (.iconst 1, 1) := by decide +kernel
theorem dX1_letArrive_67 : decode cX1_letArrive 67 = .ok (.iadd, 1) := by decide +kernel
theorem dX1_letArrive_68 : decode cX1_letArrive 68 = .ok (.putfield 48, 3) := by decide +kernel
theorem dX1_letArrive_71 : decode cX1_letArrive 71 = .ok (.aload_n 0, 1) := by decide +kernel
theorem dX1_letArrive_72 : decode cX1_letArrive 72 = .ok (.getfield 40, 3) := by decide +kernel
theorem dX1_letArrive_75 : decode cX1_letArrive 75 = .ok (.iconst 0, 1) := by decide +kernel
theorem dX1_letArrive_76 : decode cX1_letArrive 76 = .ok (.aload_n 0, 1) := by decide +kernel
theorem dX1_letArrive_77 : decode cX1_letArrive 77 = .ok (.getfield 48, 3) := by decide +kernel
theorem dX1_letArrive_80 : decode cX1_letArrive 80 = .ok (.iadd, 1) := by decide +kernel
theorem dX1_letArrive_81 : decode cX1_letArrive 81 = .ok (.aaload, 1) := by decide +kernel
theorem dX1_letArrive_82 : decode cX1_letArrive 82 = .ok (.astore 5, 2) := by decide +kernel
theorem dX1_letArrive_84 : decode cX1_letArrive 84 = .ok (.aload 5, 2) := by decide +kernel
theorem dX1_letArrive_86 : decode cX1_letArrive 86 = .ok (.getfield 110, 3) := by decide +kernel
theorem dX1_letArrive_89 : decode cX1_letArrive 89 = .ok (.iconst 0, 1) := by decide +kernel
theorem dX1_letArrive_90 : decode cX1_letArrive 90 = .ok (.iload_n 1, 1) := by decide +kernel
theorem dX1_letArrive_91 : decode cX1_letArrive 91 = .ok (.iastore, 1) := by decide +kernel
theorem dX1_letArrive_92 : decode cX1_letArrive 92 = .ok (.aload 5, 2) := by decide +kernel
theorem dX1_letArrive_94 : decode cX1_letArrive 94 = .ok (.getfield 110, 3) := by decide +kernel
theorem dX1_letArrive_97 : decode cX1_letArrive 97 = .ok (.iconst 1, 1) := by decide +kernel
theorem dX1_letArrive_98 : decode cX1_letArrive 98 = .ok (.iload_n 2, 1) := by decide +kernel
theorem dX1_letArrive_99 : decode cX1_letArrive 99 = .ok (.iastore, 1) := by decide +kernel
theorem dX1_letArrive_100 : decode cX1_letArrive 100 = .ok (.aload 5, 2) := by decide +kernel
theorem dX1_letArrive_102 : decode cX1_letArrive 102 = .ok (.getfield 110, 3) := by decide +kernel
theorem dX1_letArrive_105 : decode cX1_letArrive 105 = .ok (.iconst 2, 1) := by decide +kernel
theorem dX1_letArrive_106 : decode cX1_letArrive 106 = .ok (.iload_n 3, 1) := by decide +kernel
theorem dX1_letArrive_107 : decode cX1_letArrive 107 = .ok (.iastore, 1) := by decide +kernel
theorem dX1_letArrive_108 : decode cX1_letArrive 108 = .ok (.aload 5, 2) := by decide +kernel
theorem dX1_letArrive_110 : decode cX1_letArrive 110 = .ok (.getfield 110, 3) := by decide +kernel
theorem dX1_letArrive_113 : decode cX1_letArrive 113 = .ok (.iconst 3, 1) := by decide +kernel
theorem dX1_letArrive_114 : decode cX1_letArrive 114 = .ok (.iload 4, 2) := by decide +kernel
theorem dX1_letArrive_116 : decode cX1_letArrive 116 = .ok (.iastore, 1) := by decide +kernel
theorem dX1_letArrive_117 : decode cX1_letArrive 117 = .ok (.aload 5, 2) := by decide +kernel
theorem dX1_letArrive_119 : decode cX1_letArrive 119 = .ok (.aload_n 0, 1) := by decide +kernel
theorem dX1_letArrive_120 : decode cX1_letArrive 120 = .ok (.getfield 52, 3) := by decide +kernel
theorem dX1_letArrive_123 : decode cX1_letArrive 123 = .ok (.putfield 113, 3) := by decide +kernel
theorem dX1_letArrive_126 : decode cX1_letArrive 126 = .ok (.aload_n 0, 1) := by decide +kernel
theorem dX1_letArrive_127 : decode cX1_letArrive 127 = .ok (.getfield 48, 3) := by decide +kernel
theorem dX1_letArrive_130 : decode cX1_letArrive 130 = .ok (.ireturn, 1) := by decide +kernel
theorem dX1_isLoad_0 : decode cX1_isLoad 0 = .ok (.iload_n 0, 1) := by decide +kernel
theorem dX1_isLoad_1 : decode cX1_isLoad 1 = .ok (.ifCond .lt 14, 3) := by decide +kernel
theorem dX1_isLoad_4 : decode cX1_isLoad 4 = .ok (.iload_n 0, 1) := by decide +kernel
theorem dX1_isLoad_5 : decode cX1_isLoad 5 = .ok (.sipush 400, 3) := by decide +kernel
theorem dX1_isLoad_8 : decode cX1_isLoad 8 = .ok (.if_icmp .gt 7, 3) := by decide +kernel
theorem dX1_isLoad_11 : decode cX1_isLoad 11 = .ok (.iconst 1, 1) := by decide +kernel
theorem dX1_isLoad_12 : decode cX1_isLoad 12 = .ok (.goto 4, 3) := by decide +kernel
theorem dX1_isLoad_15 : decode cX1_isLoad 15 = .ok (.iconst 0, 1) := by decide +kernel
theorem dX1_isLoad_16 : decode cX1_isLoad 16 = .ok (.ireturn, 1) := by decide +kernel
theorem dX1_letBerth_0 : decode cX1_letBerth 0 = .ok (.aload_n 0, 1) := by decide +kernel
theorem dX1_letBerth_1 : decode cX1_letBerth 1 = .ok (.getfield 48, 3) := by decide +kernel
theorem dX1_letBerth_4 : decode cX1_letBerth 4 = .ok (.ifCond .eq 30, 3) := by decide +kernel
theorem dX1_letBerth_7 : decode cX1_letBerth 7 = .ok (.aload_n 0, 1) := by decide +kernel
theorem dX1_letBerth_8 : decode cX1_letBerth 8 = .ok (.getfield 44, 3) := by decide +kernel
theorem dX1_letBerth_11 : decode cX1_letBerth 11 = .ok (.ifCond .ne 23, 3) := by decide +kernel
theorem dX1_letBerth_14 : decode cX1_letBerth 14 = .ok (.aload_n 0, 1) := by decide +kernel
theorem dX1_letBerth_15 : decode cX1_letBerth 15 = .ok (.aload_n 0, 1) := by decide +kernel
theorem dX1_letBerth_16 : decode cX1_letBerth 16 = .ok (.getfield 40, 3) := by decide +kernel
theorem dX1_letBerth_19 : decode cX1_letBerth 19 = .ok (.iconst 1, 1) := by decide +kernel
theorem dX1_letBerth_20 : decode cX1_letBerth 20 = .ok (.aaload, 1) := by decide +kernel
theorem dX1_letBerth_21 : decode cX1_letBerth 21 = .ok (.invokevirtual 116, 3) := by decide +kernel
theorem dX1_letBerth_24 : decode cX1_letBerth 24 = .ok (.aload_n 0, 1) := by decide +kernel
theorem dX1_letBerth_25 : decode cX1_letBerth 25 = .ok (.getfield 52, 3) := by decide +kernel
theorem dX1_letBerth_28 : decode cX1_letBerth 28 = .ok (.invokevirtual 120, 3) := by decide +kernel
theorem dX1_letBerth_31 : decode cX1_letBerth 31 = .ok (.ifCond .ne 6, 3) := by decide +kernel
theorem dX1_letBerth_34 : decode cX1_letBerth 34 = .ok (.ldc 124, 2) := by decide +kernel
theorem dX1_letBerth_36 : decode cX1_letBerth 36 = .ok (.ireturn, 1) := by decide +kernel
theorem dX1_letBerth_37 : decode cX1_letBerth 37 = .ok (.aload_n 0, 1) := by decide +kernel
theorem dX1_letBerth_38 : decode cX1_letBerth 38 = .ok (.getfield 40, 3) := by decide +kernel
theorem dX1_letBerth_41 : decode cX1_letBerth 41 = .ok (.iconst 0, 1) := by decide +kernel
theorem dX1_letBerth_42 : decode cX1_letBerth 42 = .ok (.aaload, 1) := by decide +kernel
theorem dX1_letBerth_43 : decode cX1_letBerth 43 = .ok (.astore_n 1, 1) := by decide +kernel
theorem dX1_letBerth_44 : decode cX1_letBerth 44 = .ok (.iconst 1, 1) := by decide +kernel
theorem dX1_letBerth_45 : decode cX1_letBerth 45 = .ok (.istore_n 2, 1) := by decide +kernel
theorem dX1_letBerth_46 : decode cX1_letBerth 46 = .ok (.iload_n 2, 1) := by decide +kernel
theorem dX1_letBerth_47 : decode cX1_letBerth 47 = .ok (.aload_n 0, 1) := by decide +kernel
theorem dX1_letBerth_48 : decode cX1_letBerth 48 = .ok (.getfield 40, 3) := by decide +kernel
theorem dX1_letBerth_51 : decode cX1_letBerth 51 = .ok (.arraylength, 1) := by decide +kernel
theorem dX1_letBerth_52 : decode cX1_letBerth 52 = .ok (.if_icmp .ge 23, 3) := by decide +kernel
theorem dX1_letBerth_55 : decode cX1_letBerth 55 = .ok (.aload_n 0, 1) := by decide +kernel
theorem dX1_letBerth_56 : decode cX1_letBerth 56 = .ok (.getfield 40, 3) := by decide +kernel
theorem dX1_letBerth_59 : decode cX1_letBerth 59 = .ok (.iload_n 2, 1) := by decide +kernel
theorem dX1_letBerth_60 : decode cX1_letBerth 60 = .ok (.iconst 1, 1) := by decide +kernel
theorem dX1_letBerth_61 : decode cX1_letBerth 61 = .ok (.isub, 1) := by decide +kernel
theorem dX1_letBerth_62 : decode cX1_letBerth 62 = .ok (.aload_n 0, 1) := by decide +kernel
theorem dX1_letBerth_63 : decode cX1_letBerth 63 = .ok (.getfield 40, 3) := by decide +kernel
theorem dX1_letBerth_66 : decode cX1_letBerth 66 = .ok (.iload_n 2, 1) := by decide +kernel
theorem dX1_letBerth_67 : decode cX1_letBerth 67 = .ok (.aaload, 1) := by decide +kernel
theorem dX1_letBerth_68 : decode cX1_letBerth 68 = .ok (.aastore, 1) := by decide +kernel
theorem dX1_letBerth_69 : decode cX1_letBerth 69 = .ok (.iinc 2 1, 3) := by decide +kernel
theorem dX1_letBerth_72 : decode cX1_letBerth 72 = .ok (.goto (-26), 3) := by decide +kernel
theorem dX1_letBerth_75 : decode cX1_letBerth 75 = .ok (.aload_n 0, 1) := by decide +kernel
theorem dX1_letBerth_76 : decode cX1_letBerth 76 = .ok (.getfield 40, 3) := by decide +kernel
theorem dX1_letBerth_79 : decode cX1_letBerth 79 = .ok (.aload_n 0, 1) := by decide +kernel
theorem dX1_letBerth_80 : decode cX1_letBerth 80 = .ok (.getfield 40, 3) := by decide +kernel
theorem dX1_letBerth_83 : decode cX1_letBerth 83 = .ok (.arraylength, 1) := by decide +kernel
theorem dX1_letBerth_84 : decode cX1_letBerth 84 = .ok (.iconst 1, 1) := by decide +kernel
theorem dX1_letBerth_85 : decode cX1_letBerth 85 = .ok (.isub, 1) := by decide +kernel
theorem dX1_letBerth_86 : decode cX1_letBerth 86 = .ok (.aload_n 1, 1) := by decide +kernel
theorem dX1_letBerth_87 : decode cX1_letBerth 87 = .ok (.aastore, 1) := by decide +kernel
theorem dX1_letBerth_88 : decode cX1_letBerth 88 = .ok (.aload_n 0, 1) := by decide +kernel
theorem dX1_letBerth_89 : decode cX1_letBerth 89 = .ok (.dup, 1) := by decide +kernel
theorem dX1_letBerth_90 : decode cX1_letBerth 90 = .ok (.getfield 48, 3) := by decide +kernel
theorem dX1_letBerth_93 : decode cX1_letBerth 93 = .ok (.iconst 1, 1) := by decide +kernel
theorem dX1_letBerth_94 : decode cX1_letBerth 94 = .ok (.isub, 1) := by decide +kernel
theorem dX1_letBerth_95 : decode cX1_letBerth 95 = .ok (.putfield 48, 3) := by decide +kernel
theorem dX1_letBerth_98 : decode cX1_letBerth 98 = .ok (.aload_n 0, 1) := by decide +kernel
theorem dX1_letBerth_99 : decode cX1_letBerth 99 = .ok (.iconst 1, 1) := by decide +kernel
theorem dX1_letBerth_100 : decode cX1_letBerth 100 = .ok (.putfield 44, 3) := by decide +kernel
theorem dX1_letBerth_103 : decode cX1_letBerth 103 = .ok (.aload_n 0, 1) := by decide +kernel
theorem dX1_letBerth_104 : decode cX1_letBerth 104 = .ok (.getfield 40, 3) := by decide +kernel
theorem dX1_letBerth_107 : decode cX1_letBerth 107 = .ok (.iconst 0, 1) := by decide +kernel
theorem dX1_letBerth_108 : decode cX1_letBerth 108 = .ok (.aaload, 1) := by decide +kernel
theorem dX1_letBerth_109 : decode cX1_letBerth 109 = .ok (.invokevirtual 125, 3) := by decide +kernel
theorem dX1_letBerth_112 : decode cX1_letBerth 112 = .ok (.ireturn, 1) := by decide +kernel
theorem dX1_letLeave_0 : decode cX1_letLeave 0 = .ok (.aload_n 0, 1) := by decide +kernel
theorem dX1_letLeave_1 : decode cX1_letLeave 1 = .ok (.getfield 44, 3) := by decide +kernel
theorem dX1_letLeave_4 : decode cX1_letLeave 4 = .ok (.ifCond .eq 30, 3) := by decide +kernel
theorem dX1_letLeave_7 : decode cX1_letLeave 7 = .ok (.aload_n 0, 1) := by decide +kernel
theorem dX1_letLeave_8 : decode cX1_letLeave 8 = .ok (.aload_n 0, 1) := by decide +kernel
theorem dX1_letLeave_9 : decode cX1_letLeave 9 = .ok (.getfield 40, 3) := by decide +kernel
theorem dX1_letLeave_12 : decode cX1_letLeave 12 = .ok (.iconst 0, 1) := by decide +kernel
theorem dX1_letLeave_13 : decode cX1_letLeave 13 = .ok (.aaload, 1) := by decide +kernel
theorem dX1_letLeave_14 : decode cX1_letLeave 14 = .ok (.invokevirtual 116, 3) := by decide +kernel
theorem dX1_letLeave_17 : decode cX1_letLeave 17 = .ok (.aload_n 0, 1) := by decide +kernel
theorem dX1_letLeave_18 : decode cX1_letLeave 18 = .ok (.getfield 52, 3) := by decide +kernel
theorem dX1_letLeave_21 : decode cX1_letLeave 21 = .ok (.invokevirtual 120, 3) := by decide +kernel
theorem dX1_letLeave_24 : decode cX1_letLeave 24 = .ok (.ifCond .eq 10, 3) := by decide +kernel
theorem dX1_letLeave_27 : decode cX1_letLeave 27 = .ok (.aload_n 0, 1) := by decide +kernel
theorem dX1_letLeave_28 : decode cX1_letLeave 28 = .ok (.invokevirtual 128, 3) := by decide +kernel
theorem dX1_letLeave_31 : decode cX1_letLeave 31 = .ok (.ifCond .le 6, 3) := by decide +kernel
theorem dX1_letLeave_34 : decode cX1_letLeave 34 = .ok (.ldc 124, 2) := by decide +kernel
theorem dX1_letLeave_36 : decode cX1_letLeave 36 = .ok (.ireturn, 1) := by decide +kernel
theorem dX1_letLeave_37 : decode cX1_letLeave 37 = .ok (.aload_n 0, 1) := by decide +kernel
theorem dX1_letLeave_38 : decode cX1_letLeave 38 = .ok (.iconst 0, 1) := by decide +kernel
theorem dX1_letLeave_39 : decode cX1_letLeave 39 = .ok (.putfield 44, 3) := by decide +kernel
theorem dX1_letLeave_42 : decode cX1_letLeave 42 = .ok (.aload_n 0, 1) := by decide +kernel
theorem dX1_letLeave_43 : decode cX1_letLeave 43 = .ok (.getfield 40, 3) := by decide +kernel
theorem dX1_letLeave_46 : decode cX1_letLeave 46 = .ok (.iconst 0, 1) := by decide +kernel
theorem dX1_letLeave_47 : decode cX1_letLeave 47 = .ok (.aaload, 1) := by decide +kernel
theorem dX1_letLeave_48 : decode cX1_letLeave 48 = .ok (.invokevirtual 125, 3) := by decide +kernel
theorem dX1_letLeave_51 : decode cX1_letLeave 51 = .ok (.ireturn, 1) := by decide +kernel
theorem dX1_changeReach_0 : decode cX1_changeReach 0 = .ok (.iload_n 1, 1) := by decide +kernel
theorem dX1_changeReach_1 : decode cX1_changeReach 1 = .ok (.invokestatic 131, 3) := by decide +kernel
theorem dX1_changeReach_4 : decode cX1_changeReach 4 = .ok (.ifCond .ne 6, 3) := by decide +kernel
theorem dX1_changeReach_7 : decode cX1_changeReach 7 = .ok (.ldc 134, 2) := by decide +kernel
theorem dX1_changeReach_9 : decode cX1_changeReach 9 = .ok (.ireturn, 1) := by decide +kernel
theorem dX1_changeReach_10 : decode cX1_changeReach 10 = .ok (.iload_n 2, 1) := by decide +kernel
theorem dX1_changeReach_11 : decode cX1_changeReach 11 = .ok (.bipush 20, 2) := by decide +kernel
theorem dX1_changeReach_13 : decode cX1_changeReach 13 = .ok (.if_icmp .lt 9, 3) := by decide +kernel
theorem dX1_changeReach_16 : decode cX1_changeReach 16 = .ok (.iload_n 2, 1) := by decide +kernel
theorem dX1_changeReach_17 : decode cX1_changeReach 17 = .ok (.bipush 120, 2) := by decide +kernel
theorem dX1_changeReach_19 : decode cX1_changeReach 19 = .ok (.if_icmp .le 6, 3) := by decide +kernel
theorem dX1_changeReach_22 : decode cX1_changeReach 22 = .ok (.ldc 98, 2) := by decide +kernel
theorem dX1_changeReach_24 : decode cX1_changeReach 24 = .ok (.ireturn, 1) := by decide +kernel
theorem dX1_changeReach_25 : decode cX1_changeReach 25 = .ok (.aload_n 0, 1) := by decide +kernel
theorem dX1_changeReach_26 : decode cX1_changeReach 26 = .ok (.getfield 34, 3) := by decide +kernel
theorem dX1_changeReach_29 : decode cX1_changeReach 29 = .ok (.iload_n 1, 1) := by decide +kernel
theorem dX1_changeReach_30 : decode cX1_changeReach 30 = .ok (.aaload, 1) := by decide +kernel
theorem dX1_changeReach_31 : decode cX1_changeReach 31 = .ok (.getfield 135, 3) := by decide +kernel
theorem dX1_changeReach_34 : decode cX1_changeReach 34 = .ok (.istore_n 3, 1) := by decide +kernel
theorem dX1_changeReach_35 : decode cX1_changeReach 35 = .ok (.aload_n 0, 1) := by decide +kernel
theorem dX1_changeReach_36 : decode cX1_changeReach 36 = .ok (.getfield 34, 3) := by decide +kernel
theorem dX1_changeReach_39 : decode cX1_changeReach 39 = .ok (.iload_n 1, 1) := by decide +kernel
theorem dX1_changeReach_40 : decode cX1_changeReach 40 = .ok (.aaload, 1) := by decide +kernel
theorem dX1_changeReach_41 : decode cX1_changeReach 41 = .ok (.iload_n 2, 1) := by decide +kernel
theorem dX1_changeReach_42 : decode cX1_changeReach 42 = .ok (.putfield 135, 3) := by decide +kernel
theorem dX1_changeReach_45 : decode cX1_changeReach 45 = .ok (.iload_n 3, 1) := by decide +kernel
theorem dX1_changeReach_46 : decode cX1_changeReach 46 = .ok (.ireturn, 1) := by decide +kernel
theorem dX1_connectHose_0 : decode cX1_connectHose 0 = .ok (.iload_n 1, 1) := by decide +kernel
theorem dX1_connectHose_1 : decode cX1_connectHose 1 = .ok (.invokestatic 131, 3) := by decide +kernel
theorem dX1_connectHose_4 : decode cX1_connectHose 4 = .ok (.ifCond .eq 10, 3) := by decide +kernel
theorem dX1_connectHose_7 : decode cX1_connectHose 7 = .ok (.iload_n 2, 1) := by decide +kernel
theorem dX1_connectHose_8 : decode cX1_connectHose 8 = .ok (.invokestatic 138, 3) := by decide +kernel
theorem dX1_connectHose_11 : decode cX1_connectHose 11 = .ok (.ifCond .ne 6, 3) := by decide +kernel
theorem dX1_connectHose_14 : decode cX1_connectHose 14 = .ok (.ldc 134, 2) := by decide +kernel
theorem dX1_connectHose_16 : decode cX1_connectHose 16 = .ok (.ireturn, 1) := by decide +kernel
theorem dX1_connectHose_17 : decode cX1_connectHose 17 = .ok (.aload_n 0, 1) := by decide +kernel
theorem dX1_connectHose_18 : decode cX1_connectHose 18 = .ok (.getfield 34, 3) := by decide +kernel
theorem dX1_connectHose_21 : decode cX1_connectHose 21 = .ok (.iload_n 1, 1) := by decide +kernel
theorem dX1_connectHose_22 : decode cX1_connectHose 22 = .ok (.aaload, 1) := by decide +kernel
theorem dX1_connectHose_23 : decode cX1_connectHose 23 = .ok (.astore_n 3, 1) := by decide +kernel
theorem dX1_connectHose_24 : decode cX1_connectHose 24 = .ok (.aload_n 0, 1) := by decide +kernel
theorem dX1_connectHose_25 : decode cX1_connectHose 25 = .ok (.getfield 44, 3) := by decide +kernel
theorem dX1_connectHose_28 : decode cX1_connectHose 28 = .ok (.ifCond .eq 17, 3) := by decide +kernel
theorem dX1_connectHose_31 : decode cX1_connectHose 31 = .ok (.aload_n 3, 1) := by decide +kernel
theorem dX1_connectHose_32 : decode cX1_connectHose 32 = .ok (.getfield 141, 3) := by decide +kernel
theorem dX1_connectHose_35 : decode cX1_connectHose 35 = .ok (.ifCond .ne 10, 3) := by decide +kernel
theorem dX1_connectHose_38 : decode cX1_connectHose 38 = .ok (.aload_n 3, 1) := by decide +kernel
theorem dX1_connectHose_39 : decode cX1_connectHose 39 = .ok (.invokevirtual 144, 3) := by decide +kernel
theorem dX1_connectHose_42 : decode cX1_connectHose 42 = .ok (.ifCond .eq 6, 3) := by decide +kernel
theorem dX1_connectHose_45 : decode cX1_connectHose 45 = .ok (.ldc 124, 2) := by decide +kernel
theorem dX1_connectHose_47 : decode cX1_connectHose 47 = .ok (.ireturn, 1) := by decide +kernel
theorem dX1_connectHose_48 : decode cX1_connectHose 48 = .ok (.aload_n 0, 1) := by decide +kernel
theorem dX1_connectHose_49 : decode cX1_connectHose 49 = .ok (.aload_n 0, 1) := by decide +kernel
theorem dX1_connectHose_50 : decode cX1_connectHose 50 = .ok (.getfield 40, 3) := by decide +kernel
theorem dX1_connectHose_53 : decode cX1_connectHose 53 = .ok (.iconst 0, 1) := by decide +kernel
theorem dX1_connectHose_54 : decode cX1_connectHose 54 = .ok (.aaload, 1) := by decide +kernel
theorem dX1_connectHose_55 : decode cX1_connectHose 55 = .ok (.invokevirtual 116, 3) := by decide +kernel
theorem dX1_connectHose_58 : decode cX1_connectHose 58 = .ok (.aload_n 0, 1) := by decide +kernel
theorem dX1_connectHose_59 : decode cX1_connectHose 59 = .ok (.getfield 52, 3) := by decide +kernel
theorem dX1_connectHose_62 : decode cX1_connectHose 62 = .ok (.invokevirtual 148, 3) := by decide +kernel
theorem dX1_connectHose_65 : decode cX1_connectHose 65 = .ok (.aload_n 3, 1) := by decide +kernel
theorem dX1_connectHose_66 : decode cX1_connectHose 66 = .ok (.getfield 135, 3) := by decide +kernel
theorem dX1_connectHose_69 : decode cX1_connectHose 69 = .ok (.if_icmp .le 6, 3) := by decide +kernel
theorem dX1_connectHose_72 : decode cX1_connectHose 72 = .ok (.ldc 124, 2) := by decide +kernel
theorem dX1_connectHose_74 : decode cX1_connectHose 74 = .ok (.ireturn, 1) := by decide +kernel
theorem dX1_connectHose_75 : decode cX1_connectHose 75 = .ok (.aload_n 3, 1) := by decide +kernel
theorem dX1_connectHose_76 : decode cX1_connectHose 76 = .ok (.iload_n 2, 1) := by decide +kernel
theorem dX1_connectHose_77 : decode cX1_connectHose 77 = .ok (.putfield 151, 3) := by decide +kernel
theorem dX1_connectHose_80 : decode cX1_connectHose 80 = .ok (.aload_n 0, 1) := by decide +kernel
theorem dX1_connectHose_81 : decode cX1_connectHose 81 = .ok (.invokevirtual 128, 3) := by decide +kernel
theorem dX1_connectHose_84 : decode cX1_connectHose 84 = .ok (.ireturn, 1) := by decide +kernel
theorem dX1_disconnectHose_0 : decode cX1_disconnectHose 0 = .ok (.iload_n 1, 1) := by decide +kernel
theorem dX1_disconnectHose_1 : decode cX1_disconnectHose 1 = .ok (.invokestatic 131, 3) := by decide +kernel
theorem dX1_disconnectHose_4 : decode cX1_disconnectHose 4 = .ok (.ifCond .ne 6, 3) := by decide +kernel
theorem dX1_disconnectHose_7 : decode cX1_disconnectHose 7 = .ok (.ldc 134, 2) := by decide +kernel
theorem dX1_disconnectHose_9 : decode cX1_disconnectHose 9 = .ok (.ireturn, 1) := by decide +kernel
theorem dX1_disconnectHose_10 : decode cX1_disconnectHose 10 = .ok (.aload_n 0, 1) := by decide +kernel
theorem dX1_disconnectHose_11 : decode cX1_disconnectHose 11 = .ok (.getfield 34, 3) := by decide +kernel
theorem dX1_disconnectHose_14 : decode cX1_disconnectHose 14 = .ok (.iload_n 1, 1) := by decide +kernel
theorem dX1_disconnectHose_15 : decode cX1_disconnectHose 15 = .ok (.aaload, 1) := by decide +kernel
theorem dX1_disconnectHose_16 : decode cX1_disconnectHose 16 = .ok (.astore_n 2, 1) := by decide +kernel
theorem dX1_disconnectHose_17 : decode cX1_disconnectHose 17 = .ok (.aload_n 2, 1) := by decide +kernel
theorem dX1_disconnectHose_18 : decode cX1_disconnectHose 18 = .ok (.invokevirtual 144, 3) := by decide +kernel
theorem dX1_disconnectHose_21 : decode cX1_disconnectHose 21 = .ok (.ifCond .ne 6, 3) := by decide +kernel
theorem dX1_disconnectHose_24 : decode cX1_disconnectHose 24 = .ok (.ldc 124, 2) := by decide +kernel
theorem dX1_disconnectHose_26 : decode cX1_disconnectHose 26 = .ok (.ireturn, 1) := by decide +kernel
theorem dX1_disconnectHose_27 : decode cX1_disconnectHose 27 = .ok (.aload_n 2, 1) := by decide +kernel
theorem dX1_disconnectHose_28 : decode cX1_disconnectHose 28 = .ok (.getfield 151, 3) := by decide +kernel
theorem dX1_disconnectHose_31 : decode cX1_disconnectHose 31 = .ok (.istore_n 3, 1) := by decide +kernel
theorem dX1_disconnectHose_32 : decode cX1_disconnectHose 32 = .ok (.aload_n 2, 1) := by decide +kernel
theorem dX1_disconnectHose_33 : decode cX1_disconnectHose 33 = .ok (.ldc 154, 2) := by decide +kernel
theorem dX1_disconnectHose_35 : decode cX1_disconnectHose 35 = .ok (.putfield 151, 3) := by decide +kernel
theorem dX1_disconnectHose_38 : decode cX1_disconnectHose 38 = .ok (.iload_n 3, 1) := by decide +kernel
theorem dX1_disconnectHose_39 : decode cX1_disconnectHose 39 = .ok (.ireturn, 1) := by decide +kernel
theorem dX1_flushHose_0 : decode cX1_flushHose 0 = .ok (.iload_n 1, 1) := by decide +kernel
theorem dX1_flushHose_1 : decode cX1_flushHose 1 = .ok (.invokestatic 131, 3) := by decide +kernel
theorem dX1_flushHose_4 : decode cX1_flushHose 4 = .ok (.ifCond .ne 6, 3) := by decide +kernel
theorem dX1_flushHose_7 : decode cX1_flushHose 7 = .ok (.ldc 134, 2) := by decide +kernel
theorem dX1_flushHose_9 : decode cX1_flushHose 9 = .ok (.ireturn, 1) := by decide +kernel
theorem dX1_flushHose_10 : decode cX1_flushHose 10 = .ok (.aload_n 0, 1) := by decide +kernel
theorem dX1_flushHose_11 : decode cX1_flushHose 11 = .ok (.getfield 34, 3) := by decide +kernel
theorem dX1_flushHose_14 : decode cX1_flushHose 14 = .ok (.iload_n 1, 1) := by decide +kernel
theorem dX1_flushHose_15 : decode cX1_flushHose 15 = .ok (.aaload, 1) := by decide +kernel
theorem dX1_flushHose_16 : decode cX1_flushHose 16 = .ok (.astore_n 2, 1) := by decide +kernel
theorem dX1_flushHose_17 : decode cX1_flushHose 17 = .ok (.aload_n 2, 1) := by decide +kernel
theorem dX1_flushHose_18 : decode cX1_flushHose 18 = .ok (.getfield 155, 3) := by decide +kernel
theorem dX1_flushHose_21 : decode cX1_flushHose 21 = .ok (.istore_n 3, 1) := by decide +kernel
theorem dX1_flushHose_22 : decode cX1_flushHose 22 = .ok (.aload_n 2, 1) := by decide +kernel
theorem dX1_flushHose_23 : decode cX1_flushHose 23 = .ok (.invokevirtual 144, 3) := by decide +kernel
theorem dX1_flushHose_26 : decode cX1_flushHose 26 = .ok (.ifCond .ne 10, 3) := by decide +kernel
theorem dX1_flushHose_29 : decode cX1_flushHose 29 = .ok (.iload_n 3, 1) := by decide +kernel
theorem dX1_flushHose_30 : decode cX1_flushHose 30 = .ok (.invokestatic 138, 3) := by decide +kernel
theorem dX1_flushHose_33 : decode cX1_flushHose 33 = .ok (.ifCond .ne 6, 3) := by decide +kernel
theorem dX1_flushHose_36 : decode cX1_flushHose 36 = .ok (.ldc 124, 2) := by decide +kernel
theorem dX1_flushHose_38 : decode cX1_flushHose 38 = .ok (.ireturn, 1) := by decide +kernel
theorem dX1_flushHose_39 : decode cX1_flushHose 39 = .ok (.iconst 5, 1) := by decide +kernel
theorem dX1_flushHose_40 : decode cX1_flushHose 40 = .ok (.aload_n 0, 1) := by decide +kernel
theorem dX1_flushHose_41 : decode cX1_flushHose 41 = .ok (.getfield 23, 3) := by decide +kernel
theorem dX1_flushHose_44 : decode cX1_flushHose 44 = .ok (.iload_n 3, 1) := by decide +kernel
theorem dX1_flushHose_45 : decode cX1_flushHose 45 = .ok (.iaload, 1) := by decide +kernel
theorem dX1_flushHose_46 : decode cX1_flushHose 46 = .ok (.invokestatic 158, 3) := by decide +kernel
theorem dX1_flushHose_49 : decode cX1_flushHose 49 = .ok (.istore 4, 2) := by decide +kernel
theorem dX1_flushHose_51 : decode cX1_flushHose 51 = .ok (.aload_n 0, 1) := by decide +kernel
theorem dX1_flushHose_52 : decode cX1_flushHose 52 = .ok (.getfield 23, 3) := by decide +kernel
theorem dX1_flushHose_55 : decode cX1_flushHose 55 = .ok (.iload_n 3, 1) := by decide +kernel
theorem dX1_flushHose_56 : decode cX1_flushHose 56 = .ok (.dup2, 1) := by decide +kernel
theorem dX1_flushHose_57 : decode cX1_flushHose 57 = .ok (.iaload, 1) := by decide +kernel
theorem dX1_flushHose_58 : decode cX1_flushHose 58 = .ok (.iload 4, 2) := by decide +kernel
theorem dX1_flushHose_60 : decode cX1_flushHose 60 = .ok (.isub, 1) := by decide +kernel
theorem dX1_flushHose_61 : decode cX1_flushHose 61 = .ok (.iastore, 1) := by decide +kernel
theorem dX1_flushHose_62 : decode cX1_flushHose 62 = .ok (.aload_n 0, 1) := by decide +kernel
theorem dX1_flushHose_63 : decode cX1_flushHose 63 = .ok (.getfield 26, 3) := by decide +kernel
theorem dX1_flushHose_66 : decode cX1_flushHose 66 = .ok (.iload_n 3, 1) := by decide +kernel
theorem dX1_flushHose_67 : decode cX1_flushHose 67 = .ok (.dup2, 1) := by decide +kernel
theorem dX1_flushHose_68 : decode cX1_flushHose 68 = .ok (.iaload, 1) := by decide +kernel
theorem dX1_flushHose_69 : decode cX1_flushHose 69 = .ok (.iload 4, 2) := by decide +kernel
theorem dX1_flushHose_71 : decode cX1_flushHose 71 = .ok (.iadd, 1) := by decide +kernel
theorem dX1_flushHose_72 : decode cX1_flushHose 72 = .ok (.iastore, 1) := by decide +kernel
theorem dX1_flushHose_73 : decode cX1_flushHose 73 = .ok (.aload_n 2, 1) := by decide +kernel
theorem dX1_flushHose_74 : decode cX1_flushHose 74 = .ok (.ldc 154, 2) := by decide +kernel
theorem dX1_flushHose_76 : decode cX1_flushHose 76 = .ok (.putfield 155, 3) := by decide +kernel
theorem dX1_flushHose_79 : decode cX1_flushHose 79 = .ok (.iload 4, 2) := by decide +kernel
theorem dX1_flushHose_81 : decode cX1_flushHose 81 = .ok (.ireturn, 1) := by decide +kernel
theorem dX1_mendHose_0 : decode cX1_mendHose 0 = .ok (.iload_n 1, 1) := by decide +kernel
theorem dX1_mendHose_1 : decode cX1_mendHose 1 = .ok (.invokestatic 131, 3) := by decide +kernel
theorem dX1_mendHose_4 : decode cX1_mendHose 4 = .ok (.ifCond .ne 6, 3) := by decide +kernel
theorem dX1_mendHose_7 : decode cX1_mendHose 7 = .ok (.ldc 134, 2) := by decide +kernel
theorem dX1_mendHose_9 : decode cX1_mendHose 9 = .ok (.ireturn, 1) := by decide +kernel
theorem dX1_mendHose_10 : decode cX1_mendHose 10 = .ok (.aload_n 0, 1) := by decide +kernel
theorem dX1_mendHose_11 : decode cX1_mendHose 11 = .ok (.getfield 34, 3) := by decide +kernel
theorem dX1_mendHose_14 : decode cX1_mendHose 14 = .ok (.iload_n 1, 1) := by decide +kernel
theorem dX1_mendHose_15 : decode cX1_mendHose 15 = .ok (.aaload, 1) := by decide +kernel
theorem dX1_mendHose_16 : decode cX1_mendHose 16 = .ok (.astore_n 2, 1) := by decide +kernel
theorem dX1_mendHose_17 : decode cX1_mendHose 17 = .ok (.aload_n 2, 1) := by decide +kernel
theorem dX1_mendHose_18 : decode cX1_mendHose 18 = .ok (.getfield 141, 3) := by decide +kernel
theorem dX1_mendHose_21 : decode cX1_mendHose 21 = .ok (.ifCond .ne 6, 3) := by decide +kernel
theorem dX1_mendHose_24 : decode cX1_mendHose 24 = .ok (.ldc 124, 2) := by decide +kernel
theorem dX1_mendHose_26 : decode cX1_mendHose 26 = .ok (.ireturn, 1) := by decide +kernel
theorem dX1_mendHose_27 : decode cX1_mendHose 27 = .ok (.aload_n 2, 1) := by decide +kernel
theorem dX1_mendHose_28 : decode cX1_mendHose 28 = .ok (.iconst 0, 1) := by decide +kernel
theorem dX1_mendHose_29 : decode cX1_mendHose 29 = .ok (.putfield 141, 3) := by decide +kernel
theorem dX1_mendHose_32 : decode cX1_mendHose 32 = .ok (.aload_n 2, 1) := by decide +kernel
theorem dX1_mendHose_33 : decode cX1_mendHose 33 = .ok (.ldc 154, 2) := by decide +kernel
theorem dX1_mendHose_35 : decode cX1_mendHose 35 = .ok (.putfield 155, 3) := by decide +kernel
theorem dX1_mendHose_38 : decode cX1_mendHose 38 = .ok (.aload_n 0, 1) := by decide +kernel
theorem dX1_mendHose_39 : decode cX1_mendHose 39 = .ok (.invokevirtual 161, 3) := by decide +kernel
theorem dX1_mendHose_42 : decode cX1_mendHose 42 = .ok (.ireturn, 1) := by decide +kernel
theorem dX1_changeBoom_0 : decode cX1_changeBoom 0 = .ok (.aload_n 0, 1) := by decide +kernel
theorem dX1_changeBoom_1 : decode cX1_changeBoom 1 = .ok (.getfield 55, 3) := by decide +kernel
theorem dX1_changeBoom_4 : decode cX1_changeBoom 4 = .ok (.iload_n 1, 1) := by decide +kernel
theorem dX1_changeBoom_5 : decode cX1_changeBoom 5 = .ok (.if_icmp .ne 6, 3) := by decide +kernel
theorem dX1_changeBoom_8 : decode cX1_changeBoom 8 = .ok (.ldc 124, 2) := by decide +kernel
theorem dX1_changeBoom_10 : decode cX1_changeBoom 10 = .ok (.ireturn, 1) := by decide +kernel
theorem dX1_changeBoom_11 : decode cX1_changeBoom 11 = .ok (.aload_n 0, 1) := by decide +kernel
theorem dX1_changeBoom_12 : decode cX1_changeBoom 12 = .ok (.getfield 58, 3) := by decide +kernel
theorem dX1_changeBoom_15 : decode cX1_changeBoom 15 = .ok (.istore_n 2, 1) := by decide +kernel
theorem dX1_changeBoom_16 : decode cX1_changeBoom 16 = .ok (.aload_n 0, 1) := by decide +kernel
theorem dX1_changeBoom_17 : decode cX1_changeBoom 17 = .ok (.iload_n 1, 1) := by decide +kernel
theorem dX1_changeBoom_18 : decode cX1_changeBoom 18 = .ok (.putfield 55, 3) := by decide +kernel
theorem dX1_changeBoom_21 : decode cX1_changeBoom 21 = .ok (.aload_n 0, 1) := by decide +kernel
theorem dX1_changeBoom_22 : decode cX1_changeBoom 22 = .ok (.dup, 1) := by decide +kernel
theorem dX1_changeBoom_23 : decode cX1_changeBoom 23 = .ok (.getfield 64, 3) := by decide +kernel
theorem dX1_changeBoom_26 : decode cX1_changeBoom 26 = .ok (.iload_n 2, 1) := by decide +kernel
theorem dX1_changeBoom_27 : decode cX1_changeBoom 27 = .ok (.iadd, 1) := by decide +kernel
theorem dX1_changeBoom_28 : decode cX1_changeBoom 28 = .ok (.putfield 64, 3) := by decide +kernel
theorem dX1_changeBoom_31 : decode cX1_changeBoom 31 = .ok (.aload_n 0, 1) := by decide +kernel
theorem dX1_changeBoom_32 : decode cX1_changeBoom 32 = .ok (.iconst 0, 1) := by decide +kernel
theorem dX1_changeBoom_33 : decode cX1_changeBoom 33 = .ok (.putfield 58, 3) := by decide +kernel
theorem dX1_changeBoom_36 : decode cX1_changeBoom 36 = .ok (.iload_n 2, 1) := by decide +kernel
theorem dX1_changeBoom_37 : decode cX1_changeBoom 37 = .ok (.ireturn, 1) := by decide +kernel
theorem dX1_drawUnits_0 : decode cX1_drawUnits 0 = .ok (.iload_n 1, 1) := by decide +kernel
theorem dX1_drawUnits_1 : decode cX1_drawUnits 1 = .ok (.invokestatic 138, 3) := by decide +kernel
theorem dX1_drawUnits_4 : decode cX1_drawUnits 4 = .ok (.ifCond .ne 6, 3) := by decide +kernel
theorem dX1_drawUnits_7 : decode cX1_drawUnits 7 = .ok (.ldc 134, 2) := by decide +kernel
theorem dX1_drawUnits_9 : decode cX1_drawUnits 9 = .ok (.ireturn, 1) := by decide +kernel
theorem dX1_drawUnits_10 : decode cX1_drawUnits 10 = .ok (.iload_n 2, 1) := by decide +kernel
theorem dX1_drawUnits_11 : decode cX1_drawUnits 11 = .ok (.iconst 1, 1) := by decide +kernel
theorem dX1_drawUnits_12 : decode cX1_drawUnits 12 = .ok (.if_icmp .lt 10, 3) := by decide +kernel
theorem dX1_drawUnits_15 : decode cX1_drawUnits 15 = .ok (.iload_n 2, 1) := by decide +kernel
theorem dX1_drawUnits_16 : decode cX1_drawUnits 16 = .ok (.sipush 1000, 3) := by decide +kernel
theorem dX1_drawUnits_19 : decode cX1_drawUnits 19 = .ok (.if_icmp .le 6, 3) := by decide +kernel
theorem dX1_drawUnits_22 : decode cX1_drawUnits 22 = .ok (.ldc 98, 2) := by decide +kernel
theorem dX1_drawUnits_24 : decode cX1_drawUnits 24 = .ok (.ireturn, 1) := by decide +kernel
theorem dX1_drawUnits_25 : decode cX1_drawUnits 25 = .ok (.iload_n 2, 1) := by decide +kernel
theorem dX1_drawUnits_26 : decode cX1_drawUnits 26 = .ok (.aload_n 0, 1) := by decide +kernel
theorem dX1_drawUnits_27 : decode cX1_drawUnits 27 = .ok (.getfield 23, 3) := by decide +kernel
theorem dX1_drawUnits_30 : decode cX1_drawUnits 30 = .ok (.iload_n 1, 1) := by decide +kernel
theorem dX1_drawUnits_31 : decode cX1_drawUnits 31 = .ok (.iaload, 1) := by decide +kernel
theorem dX1_drawUnits_32 : decode cX1_drawUnits 32 = .ok (.if_icmp .le 6, 3) := by decide +kernel
theorem dX1_drawUnits_35 : decode cX1_drawUnits 35 = .ok (.ldc 124, 2) := by decide +kernel
theorem dX1_drawUnits_37 : decode cX1_drawUnits 37 = .ok (.ireturn, 1) := by decide +kernel
theorem dX1_drawUnits_38 : decode cX1_drawUnits 38 = .ok (.aload_n 0, 1) := by decide +kernel
theorem dX1_drawUnits_39 : decode cX1_drawUnits 39 = .ok (.getfield 23, 3) := by decide +kernel
theorem dX1_drawUnits_42 : decode cX1_drawUnits 42 = .ok (.iload_n 1, 1) := by decide +kernel
theorem dX1_drawUnits_43 : decode cX1_drawUnits 43 = .ok (.dup2, 1) := by decide +kernel
theorem dX1_drawUnits_44 : decode cX1_drawUnits 44 = .ok (.iaload, 1) := by decide +kernel
theorem dX1_drawUnits_45 : decode cX1_drawUnits 45 = .ok (.iload_n 2, 1) := by decide +kernel
theorem dX1_drawUnits_46 : decode cX1_drawUnits 46 = .ok (.isub, 1) := by decide +kernel
theorem dX1_drawUnits_47 : decode cX1_drawUnits 47 = .ok (.iastore, 1) := by decide +kernel
theorem dX1_drawUnits_48 : decode cX1_drawUnits 48 = .ok (.aload_n 0, 1) := by decide +kernel
theorem dX1_drawUnits_49 : decode cX1_drawUnits 49 = .ok (.getfield 23, 3) := by decide +kernel
theorem dX1_drawUnits_52 : decode cX1_drawUnits 52 = .ok (.iload_n 1, 1) := by decide +kernel
theorem dX1_drawUnits_53 : decode cX1_drawUnits 53 = .ok (.iaload, 1) := by decide +kernel
theorem dX1_drawUnits_54 : decode cX1_drawUnits 54 = .ok (.ireturn, 1) := by decide +kernel
theorem dX1_letPass_0 : decode cX1_letPass 0 = .ok (.iload_n 1, 1) := by decide +kernel
theorem dX1_letPass_1 : decode cX1_letPass 1 = .ok (.iconst 1, 1) := by decide +kernel
theorem dX1_letPass_2 : decode cX1_letPass 2 = .ok (.if_icmp .lt 9, 3) := by decide +kernel
theorem dX1_letPass_5 : decode cX1_letPass 5 = .ok (.iload_n 1, 1) := by decide +kernel
theorem dX1_letPass_6 : decode cX1_letPass 6 = .ok (.bipush 48, 2) := by decide +kernel
theorem dX1_letPass_8 : decode cX1_letPass 8 = .ok (.if_icmp .le 6, 3) := by decide +kernel
theorem dX1_letPass_11 : decode cX1_letPass 11 = .ok (.ldc 98, 2) := by decide +kernel
theorem dX1_letPass_13 : decode cX1_letPass 13 = .ok (.ireturn, 1) := by decide +kernel
theorem dX1_letPass_14 : decode cX1_letPass 14 = .ok (.aload_n 0, 1) := by decide +kernel
theorem dX1_letPass_15 : decode cX1_letPass 15 = .ok (.getfield 52, 3) := by decide +kernel
theorem dX1_letPass_18 : decode cX1_letPass 18 = .ok (.iload_n 1, 1) := by decide +kernel
theorem dX1_letPass_19 : decode cX1_letPass 19 = .ok (.iadd, 1) := by decide +kernel
theorem dX1_letPass_20 : decode cX1_letPass 20 = .ok (.sipush 9999, 3) := by decide +kernel
theorem dX1_letPass_23 : decode cX1_letPass 23 = .ok (.if_icmp .le 6, 3) := by decide +kernel
theorem dX1_letPass_26 : decode cX1_letPass 26 = .ok (.ldc 109, 2) := by decide +kernel
theorem dX1_letPass_28 : decode cX1_letPass 28 = .ok (.ireturn, 1) := by decide +kernel
theorem dX1_letPass_29 : decode cX1_letPass 29 = .ok (.iconst 0, 1) := by decide +kernel
theorem dX1_letPass_30 : decode cX1_letPass 30 = .ok (.istore_n 2, 1) := by decide +kernel
theorem dX1_letPass_31 : decode cX1_letPass 31 = .ok (.iconst 0, 1) := by decide +kernel
theorem dX1_letPass_32 : decode cX1_letPass 32 = .ok (.istore_n 3, 1) := by decide +kernel
theorem dX1_letPass_33 : decode cX1_letPass 33 = .ok (.iload_n 3, 1) := by decide +kernel
theorem dX1_letPass_34 : decode cX1_letPass 34 = .ok (.iload_n 1, 1) := by decide +kernel
theorem dX1_letPass_35 : decode cX1_letPass 35 = .ok (.if_icmp .ge 16, 3) := by decide +kernel
theorem dX1_letPass_38 : decode cX1_letPass 38 = .ok (.iload_n 2, 1) := by decide +kernel
theorem dX1_letPass_39 : decode cX1_letPass 39 = .ok (.aload_n 0, 1) := by decide +kernel
theorem dX1_letPass_40 : decode cX1_letPass 40 = .ok (.invokevirtual 164, 3) := by decide +kernel
theorem dX1_letPass_43 : decode cX1_letPass 43 = .ok (.iadd, 1) := by decide +kernel
theorem dX1_letPass_44 : decode cX1_letPass 44 = .ok (.istore_n 2, 1) := by decide +kernel
theorem dX1_letPass_45 : decode cX1_letPass 45 = .ok (.iinc 3 1, 3) := by decide +kernel
theorem dX1_letPass_48 : decode cX1_letPass 48 = .ok (.goto (-15), 3) := by decide +kernel
theorem dX1_letPass_51 : decode cX1_letPass 51 = .ok (.iload_n 2, 1) := by decide +kernel
theorem dX1_letPass_52 : decode cX1_letPass 52 = .ok (.ireturn, 1) := by decide +kernel
theorem dX1_nextHour_0 : decode cX1_nextHour 0 = .ok (.aload_n 0, 1) := by decide +kernel
theorem dX1_nextHour_1 : decode cX1_nextHour 1 = .ok (.dup, 1) := by decide +kernel
theorem dX1_nextHour_2 : decode cX1_nextHour 2 = .ok (.getfield 52, 3) := by decide +kernel
theorem dX1_nextHour_5 : decode cX1_nextHour 5 = .ok (.iconst 1, 1) := by decide +kernel
theorem dX1_nextHour_6 : decode cX1_nextHour 6 = .ok (.iadd, 1) := by decide +kernel
theorem dX1_nextHour_7 : decode cX1_nextHour 7 = .ok (.putfield 52, 3) := by decide +kernel
theorem dX1_nextHour_10 : decode cX1_nextHour 10 = .ok (.aload_n 0, 1) := by decide +kernel
theorem dX1_nextHour_11 : decode cX1_nextHour 11 = .ok (.invokevirtual 167, 3) := by decide +kernel
theorem dX1_nextHour_14 : decode cX1_nextHour 14 = .ok (.aload_n 0, 1) := by decide +kernel
theorem dX1_nextHour_15 : decode cX1_nextHour 15 = .ok (.invokevirtual 170, 3) := by decide +kernel
theorem dX1_nextHour_18 : decode cX1_nextHour 18 = .ok (.aload_n 0, 1) := by decide +kernel
theorem dX1_nextHour_19 : decode cX1_nextHour 19 = .ok (.invokevirtual 173, 3) := by decide +kernel
theorem dX1_nextHour_22 : decode cX1_nextHour 22 = .ok (.istore_n 1, 1) := by decide +kernel
theorem dX1_nextHour_23 : decode cX1_nextHour 23 = .ok (.aload_n 0, 1) := by decide +kernel
theorem dX1_nextHour_24 : decode cX1_nextHour 24 = .ok (.dup, 1) := by decide +kernel
theorem dX1_nextHour_25 : decode cX1_nextHour 25 = .ok (.getfield 67, 3) := by decide +kernel
theorem dX1_nextHour_28 : decode cX1_nextHour 28 = .ok (.aload_n 0, 1) := by decide +kernel
theorem dX1_nextHour_29 : decode cX1_nextHour 29 = .ok (.invokevirtual 176, 3) := by decide +kernel
theorem dX1_nextHour_32 : decode cX1_nextHour 32 = .ok (.aload_n 0, 1) := by decide +kernel
theorem dX1_nextHour_33 : decode cX1_nextHour 33 = .ok (.getfield 18, 3) := by decide +kernel
theorem dX1_nextHour_36 : decode cX1_nextHour 36 = .ok (.iconst 5, 1) := by decide +kernel
theorem dX1_nextHour_37 : decode cX1_nextHour 37 = .ok (.iaload, 1) := by decide +kernel
theorem dX1_nextHour_38 : decode cX1_nextHour 38 = .ok (.imul, 1) := by decide +kernel
theorem dX1_nextHour_39 : decode cX1_nextHour 39 = .ok (.iadd, 1) := by decide +kernel
theorem dX1_nextHour_40 : decode cX1_nextHour 40 = .ok (.putfield 67, 3) := by decide +kernel
theorem dX1_nextHour_43 : decode cX1_nextHour 43 = .ok (.iload_n 1, 1) := by decide +kernel
theorem dX1_nextHour_44 : decode cX1_nextHour 44 = .ok (.ireturn, 1) := by decide +kernel
theorem dX1_tearBoom_0 : decode cX1_tearBoom 0 = .ok (.aload_n 0, 1) := by decide +kernel
theorem dX1_tearBoom_1 : decode cX1_tearBoom 1 = .ok (.aload_n 0, 1) := by decide +kernel
theorem dX1_tearBoom_2 : decode cX1_tearBoom 2 = .ok (.getfield 52, 3) := by decide +kernel
theorem dX1_tearBoom_5 : decode cX1_tearBoom 5 = .ok (.invokevirtual 94, 3) := by decide +kernel
theorem dX1_tearBoom_8 : decode cX1_tearBoom 8 = .ok (.aload_n 0, 1) := by decide +kernel
theorem dX1_tearBoom_9 : decode cX1_tearBoom 9 = .ok (.aload_n 0, 1) := by decide +kernel
theorem dX1_tearBoom_10 : decode cX1_tearBoom 10 = .ok (.getfield 52, 3) := by decide +kernel
theorem dX1_tearBoom_13 : decode cX1_tearBoom 13 = .ok (.iconst 1, 1) := by decide +kernel
theorem dX1_tearBoom_14 : decode cX1_tearBoom 14 = .ok (.isub, 1) := by decide +kernel
theorem dX1_tearBoom_15 : decode cX1_tearBoom 15 = .ok (.invokevirtual 94, 3) := by decide +kernel
theorem dX1_tearBoom_18 : decode cX1_tearBoom 18 = .ok (.isub, 1) := by decide +kernel
theorem dX1_tearBoom_19 : decode cX1_tearBoom 19 = .ok (.invokestatic 179, 3) := by decide +kernel
theorem dX1_tearBoom_22 : decode cX1_tearBoom 22 = .ok (.istore_n 1, 1) := by decide +kernel
theorem dX1_tearBoom_23 : decode cX1_tearBoom 23 = .ok (.aload_n 0, 1) := by decide +kernel
theorem dX1_tearBoom_24 : decode cX1_tearBoom 24 = .ok (.getfield 55, 3) := by decide +kernel
theorem dX1_tearBoom_27 : decode cX1_tearBoom 27 = .ok (.ifCond .eq 9, 3) := by decide +kernel
theorem dX1_tearBoom_30 : decode cX1_tearBoom 30 = .ok (.iload_n 1, 1) := by decide +kernel
theorem dX1_tearBoom_31 : decode cX1_tearBoom 31 = .ok (.bipush 15, 2) := by decide +kernel
theorem dX1_tearBoom_33 : decode cX1_tearBoom 33 = .ok (.if_icmp .gt 4, 3) := by decide +kernel
theorem dX1_tearBoom_36 : decode cX1_tearBoom 36 = .ok (.return_, 1) := by decide +kernel
theorem dX1_tearBoom_37 : decode cX1_tearBoom 37 = .ok (.aload_n 0, 1) := by decide +kernel
theorem dX1_tearBoom_38 : decode cX1_tearBoom 38 = .ok (.iconst 0, 1) := by decide +kernel
theorem dX1_tearBoom_39 : decode cX1_tearBoom 39 = .ok (.putfield 55, 3) := by decide +kernel
theorem dX1_tearBoom_42 : decode cX1_tearBoom 42 = .ok (.aload_n 0, 1) := by decide +kernel
theorem dX1_tearBoom_43 : decode cX1_tearBoom 43 = .ok (.dup, 1) := by decide +kernel
theorem dX1_tearBoom_44 : decode cX1_tearBoom 44 = .ok (.getfield 61, 3) := by decide +kernel
theorem dX1_tearBoom_47 : decode cX1_tearBoom 47 = .ok (.aload_n 0, 1) := by decide +kernel
theorem dX1_tearBoom_48 : decode cX1_tearBoom 48 = .ok (.getfield 58, 3) := by decide +kernel
theorem dX1_tearBoom_51 : decode cX1_tearBoom 51 = .ok (.iadd, 1) := by decide +kernel
theorem dX1_tearBoom_52 : decode cX1_tearBoom 52 = .ok (.putfield 61, 3) := by decide +kernel
theorem dX1_tearBoom_55 : decode cX1_tearBoom 55 = .ok (.aload_n 0, 1) := by decide +kernel
theorem dX1_tearBoom_56 : decode cX1_tearBoom 56 = .ok (.iconst 0, 1) := by decide +kernel
theorem dX1_tearBoom_57 : decode cX1_tearBoom 57 = .ok (.putfield 58, 3) := by decide +kernel
theorem dX1_tearBoom_60 : decode cX1_tearBoom 60 = .ok (.return_, 1) := by decide +kernel
theorem dX1_burstShortHoses_0 : decode cX1_burstShortHoses 0 = .ok (.aload_n 0, 1) := by decide +kernel
theorem dX1_burstShortHoses_1 : decode cX1_burstShortHoses 1 = .ok (.getfield 44, 3) := by decide +kernel
theorem dX1_burstShortHoses_4 : decode cX1_burstShortHoses 4 = .ok (.ifCond .ne 4, 3) := by decide +kernel
theorem dX1_burstShortHoses_7 : decode cX1_burstShortHoses 7 = .ok (.return_, 1) := by decide +kernel
theorem dX1_burstShortHoses_8 : decode cX1_burstShortHoses 8 = .ok (.iconst 0, 1) := by decide +kernel
theorem dX1_burstShortHoses_9 : decode cX1_burstShortHoses 9 = .ok (.istore_n 1, 1) := by decide +kernel
theorem dX1_burstShortHoses_10 : decode cX1_burstShortHoses 10 = .ok (.iload_n 1, 1) := by decide +kernel
theorem dX1_burstShortHoses_11 : decode cX1_burstShortHoses 11 = .ok (.iconst 4, 1) := by decide +kernel
theorem dX1_burstShortHoses_12 : decode cX1_burstShortHoses 12 = .ok (.if_icmp .ge 72, 3) := by decide +kernel
theorem dX1_burstShortHoses_15 : decode cX1_burstShortHoses 15 = .ok (.aload_n 0, 1) := by decide +kernel
theorem dX1_burstShortHoses_16 : decode cX1_burstShortHoses 16 = .ok (.getfield 34, 3) := by decide +kernel
theorem dX1_burstShortHoses_19 : decode cX1_burstShortHoses 19 = .ok (.iload_n 1, 1) := by decide +kernel
theorem dX1_burstShortHoses_20 : decode cX1_burstShortHoses 20 = .ok (.aaload, 1) := by decide +kernel
theorem dX1_burstShortHoses_21 : decode cX1_burstShortHoses 21 = .ok (.astore_n 2, 1) := by decide +kernel
theorem dX1_burstShortHoses_22 : decode cX1_burstShortHoses 22 = .ok (.aload_n 0, 1) := by decide +kernel
theorem dX1_burstShortHoses_23 : decode cX1_burstShortHoses 23 = .ok (.aload_n 0, 1) := by decide +kernel
theorem dX1_burstShortHoses_24 : decode cX1_burstShortHoses 24 = .ok (.getfield 40, 3) := by decide +kernel
theorem dX1_burstShortHoses_27 : decode cX1_burstShortHoses 27 = .ok (.iconst 0, 1) := by decide +kernel
theorem dX1_burstShortHoses_28 : decode cX1_burstShortHoses 28 = .ok (.aaload, 1) := by decide +kernel
theorem dX1_burstShortHoses_29 : decode cX1_burstShortHoses 29 = .ok (.invokevirtual 116, 3) := by decide +kernel
theorem dX1_burstShortHoses_32 : decode cX1_burstShortHoses 32 = .ok (.aload_n 0, 1) := by decide +kernel
theorem dX1_burstShortHoses_33 : decode cX1_burstShortHoses 33 = .ok (.getfield 52, 3) := by decide +kernel
theorem dX1_burstShortHoses_36 : decode cX1_burstShortHoses 36 = .ok (.invokevirtual 148, 3) := by decide +kernel
theorem dX1_burstShortHoses_39 : decode cX1_burstShortHoses 39 = .ok (.istore_n 3, 1) := by decide +kernel
theorem dX1_burstShortHoses_40 : decode cX1_burstShortHoses 40 = .ok (.aload_n 2, 1) := by decide +kernel
theorem dX1_burstShortHoses_41 : decode cX1_burstShortHoses 41 = .ok (.invokevirtual 144, 3) := by decide +kernel
theorem dX1_burstShortHoses_44 : decode cX1_burstShortHoses 44 = .ok (.ifCond .eq 34, 3) := by decide +kernel
theorem dX1_burstShortHoses_47 : decode cX1_burstShortHoses 47 = .ok (.iload_n 3, 1) := by decide +kernel
theorem dX1_burstShortHoses_48 : decode cX1_burstShortHoses 48 = .ok (.aload_n 2, 1) := by decide +kernel
theorem dX1_burstShortHoses_49 : decode cX1_burstShortHoses 49 = .ok (.getfield 135, 3) := by decide +kernel
theorem dX1_burstShortHoses_52 : decode cX1_burstShortHoses 52 = .ok (.if_icmp .gt 6, 3) := by decide +kernel
theorem dX1_burstShortHoses_55 : decode cX1_burstShortHoses 55 = .ok (.goto 23, 3) := by decide +kernel
theorem dX1_burstShortHoses_58 : decode cX1_burstShortHoses 58 = .ok (.aload_n 2, 1) := by decide +kernel
theorem dX1_burstShortHoses_59 : decode cX1_burstShortHoses 59 = .ok (.getfield 182, 3) := by decide +kernel
theorem dX1_burstShortHoses_62 : decode cX1_burstShortHoses 62 = .ok (.ifCond .eq 11, 3) := by decide +kernel
theorem dX1_burstShortHoses_65 : decode cX1_burstShortHoses 65 = .ok (.aload_n 2, 1) := by decide +kernel
theorem dX1_burstShortHoses_66 : decode cX1_burstShortHoses 66 = .ok (.iload_n 3, 1) := by decide +kernel
theorem dX1_burstShortHoses_67 : decode cX1_burstShortHoses 67 = .ok (.putfield 135, 3) := by decide +kernel
theorem dX1_burstShortHoses_70 : decode cX1_burstShortHoses 70 = .ok (.goto 8, 3) := by decide +kernel
theorem dX1_burstShortHoses_73 : decode cX1_burstShortHoses 73 = .ok (.aload_n 0, 1) := by decide +kernel
theorem dX1_burstShortHoses_74 : decode cX1_burstShortHoses 74 = .ok (.aload_n 2, 1) := by decide +kernel
theorem dX1_burstShortHoses_75 : decode cX1_burstShortHoses 75 = .ok (.invokevirtual 185, 3) := by decide +kernel
theorem dX1_burstShortHoses_78 : decode cX1_burstShortHoses 78 = .ok (.iinc 1 1, 3) := by decide +kernel
theorem dX1_burstShortHoses_81 : decode cX1_burstShortHoses 81 = .ok (.goto (-71), 3) := by decide +kernel
theorem dX1_burstShortHoses_84 : decode cX1_burstShortHoses 84 = .ok (.return_, 1) := by decide +kernel
theorem dX1_burst_0 : decode cX1_burst 0 = .ok (.aload_n 1, 1) := by decide +kernel
theorem dX1_burst_1 : decode cX1_burst 1 = .ok (.getfield 151, 3) := by decide +kernel
theorem dX1_burst_4 : decode cX1_burst 4 = .ok (.istore_n 2, 1) := by decide +kernel
theorem dX1_burst_5 : decode cX1_burst 5 = .ok (.aload_n 1, 1) := by decide +kernel
theorem dX1_burst_6 : decode cX1_burst 6 = .ok (.iconst 1, 1) := by decide +kernel
theorem dX1_burst_7 : decode cX1_burst 7 = .ok (.putfield 141, 3) := by decide +kernel
theorem dX1_burst_10 : decode cX1_burst 10 = .ok (.aload_n 1, 1) := by decide +kernel
theorem dX1_burst_11 : decode cX1_burst 11 = .ok (.ldc 154, 2) := by decide +kernel
theorem dX1_burst_13 : decode cX1_burst 13 = .ok (.putfield 151, 3) := by decide +kernel
theorem dX1_burst_16 : decode cX1_burst 16 = .ok (.iload_n 2, 1) := by decide +kernel
theorem dX1_burst_17 : decode cX1_burst 17 = .ok (.invokestatic 138, 3) := by decide +kernel
theorem dX1_burst_20 : decode cX1_burst 20 = .ok (.ifCond .ne 4, 3) := by decide +kernel
theorem dX1_burst_23 : decode cX1_burst 23 = .ok (.return_, 1) := by decide +kernel
theorem dX1_burst_24 : decode cX1_burst 24 = .ok (.aload_n 0, 1) := by decide +kernel
theorem dX1_burst_25 : decode cX1_burst 25 = .ok (.getfield 40, 3) := by decide +kernel
theorem dX1_burst_28 : decode cX1_burst 28 = .ok (.iconst 0, 1) := by decide +kernel
theorem dX1_burst_29 : decode cX1_burst 29 = .ok (.aaload, 1) := by decide +kernel
theorem dX1_burst_30 : decode cX1_burst 30 = .ok (.getfield 110, 3) := by decide +kernel
theorem dX1_burst_33 : decode cX1_burst 33 = .ok (.astore_n 3, 1) := by decide +kernel
theorem dX1_burst_34 : decode cX1_burst 34 = .ok (.aload_n 0, 1) := by decide +kernel
theorem dX1_burst_35 : decode cX1_burst 35 = .ok (.getfield 18, 3) := by decide +kernel
theorem dX1_burst_38 : decode cX1_burst 38 = .ok (.iconst 3, 1) := by decide +kernel
theorem dX1_burst_39 : decode cX1_burst 39 = .ok (.iaload, 1) := by decide +kernel
theorem dX1_burst_40 : decode cX1_burst 40 = .ok (.aload_n 3, 1) := by decide +kernel
theorem dX1_burst_41 : decode cX1_burst 41 = .ok (.iload_n 2, 1) := by decide +kernel
theorem dX1_burst_42 : decode cX1_burst 42 = .ok (.iaload, 1) := by decide +kernel
theorem dX1_burst_43 : decode cX1_burst 43 = .ok (.invokestatic 158, 3) := by decide +kernel
theorem dX1_burst_46 : decode cX1_burst 46 = .ok (.istore 4, 2) := by decide +kernel
theorem dX1_burst_48 : decode cX1_burst 48 = .ok (.aload_n 0, 1) := by decide +kernel
theorem dX1_burst_49 : decode cX1_burst 49 = .ok (.getfield 55, 3) := by decide +kernel
theorem dX1_burst_52 : decode cX1_burst 52 = .ok (.ifCond .eq 19, 3) := by decide +kernel
theorem dX1_burst_55 : decode cX1_burst 55 = .ok (.iload 4, 2) := by decide +kernel
theorem dX1_burst_57 : decode cX1_burst 57 = .ok (.sipush 200, 3) := by decide +kernel
theorem dX1_burst_60 : decode cX1_burst 60 = .ok (.aload_n 0, 1) := by decide +kernel
theorem dX1_burst_61 : decode cX1_burst 61 = .ok (.getfield 58, 3) := by decide +kernel
theorem dX1_burst_64 : decode cX1_burst 64 = .ok (.isub, 1) := by decide +kernel
theorem dX1_burst_65 : decode cX1_burst 65 = .ok (.invokestatic 158, 3) := by decide +kernel
theorem dX1_burst_68 : decode cX1_burst 68 = .ok (.goto 4, 3) := by decide +kernel
theorem dX1_burst_71 : decode cX1_burst 71 = .ok (.iconst 0, 1) := by decide +kernel
theorem dX1_burst_72 : decode cX1_burst 72 = .ok (.istore 5, 2) := by decide +kernel
theorem dX1_burst_74 : decode cX1_burst 74 = .ok (.aload_n 3, 1) := by decide +kernel
theorem dX1_burst_75 : decode cX1_burst 75 = .ok (.iload_n 2, 1) := by decide +kernel
theorem dX1_burst_76 : decode cX1_burst 76 = .ok (.dup2, 1) := by decide +kernel
theorem dX1_burst_77 : decode cX1_burst 77 = .ok (.iaload, 1) := by decide +kernel
theorem dX1_burst_78 : decode cX1_burst 78 = .ok (.iload 4, 2) := by decide +kernel
theorem dX1_burst_80 : decode cX1_burst 80 = .ok (.isub, 1) := by decide +kernel
theorem dX1_burst_81 : decode cX1_burst 81 = .ok (.iastore, 1) := by decide +kernel
theorem dX1_burst_82 : decode cX1_burst 82 = .ok (.aload_n 0, 1) := by decide +kernel
theorem dX1_burst_83 : decode cX1_burst 83 = .ok (.getfield 29, 3) := by decide +kernel
theorem dX1_burst_86 : decode cX1_burst 86 = .ok (.iload_n 2, 1) := by decide +kernel
theorem dX1_burst_87 : decode cX1_burst 87 = .ok (.dup2, 1) := by decide +kernel
theorem dX1_burst_88 : decode cX1_burst 88 = .ok (.iaload, 1) := by decide +kernel
theorem dX1_burst_89 : decode cX1_burst 89 = .ok (.iload 4, 2) := by decide +kernel
theorem dX1_burst_91 : decode cX1_burst 91 = .ok (.iadd, 1) := by decide +kernel
theorem dX1_burst_92 : decode cX1_burst 92 = .ok (.iastore, 1) := by decide +kernel
theorem dX1_burst_93 : decode cX1_burst 93 = .ok (.aload_n 0, 1) := by decide +kernel
theorem dX1_burst_94 : decode cX1_burst 94 = .ok (.dup, 1) := by decide +kernel
theorem dX1_burst_95 : decode cX1_burst 95 = .ok (.getfield 58, 3) := by decide +kernel
theorem dX1_burst_98 : decode cX1_burst 98 = .ok (.iload 5, 2) := by decide +kernel
theorem dX1_burst_100 : decode cX1_burst 100 = .ok (.iadd, 1) := by decide +kernel
theorem dX1_burst_101 : decode cX1_burst 101 = .ok (.putfield 58, 3) := by decide +kernel
theorem dX1_burst_104 : decode cX1_burst 104 = .ok (.aload_n 0, 1) := by decide +kernel
theorem dX1_burst_105 : decode cX1_burst 105 = .ok (.dup, 1) := by decide +kernel
theorem dX1_burst_106 : decode cX1_burst 106 = .ok (.getfield 61, 3) := by decide +kernel
theorem dX1_burst_109 : decode cX1_burst 109 = .ok (.iload 4, 2) := by decide +kernel
theorem dX1_burst_111 : decode cX1_burst 111 = .ok (.iload 5, 2) := by decide +kernel
theorem dX1_burst_113 : decode cX1_burst 113 = .ok (.isub, 1) := by decide +kernel
theorem dX1_burst_114 : decode cX1_burst 114 = .ok (.iadd, 1) := by decide +kernel
theorem dX1_burst_115 : decode cX1_burst 115 = .ok (.putfield 61, 3) := by decide +kernel
theorem dX1_burst_118 : decode cX1_burst 118 = .ok (.return_, 1) := by decide +kernel
theorem dX1_moveUnits_0 : decode cX1_moveUnits 0 = .ok (.aload_n 0, 1) := by decide +kernel
theorem dX1_moveUnits_1 : decode cX1_moveUnits 1 = .ok (.getfield 44, 3) := by decide +kernel
theorem dX1_moveUnits_4 : decode cX1_moveUnits 4 = .ok (.ifCond .eq 30, 3) := by decide +kernel
theorem dX1_moveUnits_7 : decode cX1_moveUnits 7 = .ok (.aload_n 0, 1) := by decide +kernel
theorem dX1_moveUnits_8 : decode cX1_moveUnits 8 = .ok (.getfield 55, 3) := by decide +kernel
theorem dX1_moveUnits_11 : decode cX1_moveUnits 11 = .ok (.ifCond .eq 23, 3) := by decide +kernel
theorem dX1_moveUnits_14 : decode cX1_moveUnits 14 = .ok (.aload_n 0, 1) := by decide +kernel
theorem dX1_moveUnits_15 : decode cX1_moveUnits 15 = .ok (.aload_n 0, 1) := by decide +kernel
theorem dX1_moveUnits_16 : decode cX1_moveUnits 16 = .ok (.getfield 40, 3) := by decide +kernel
theorem dX1_moveUnits_19 : decode cX1_moveUnits 19 = .ok (.iconst 0, 1) := by decide +kernel
theorem dX1_moveUnits_20 : decode cX1_moveUnits 20 = .ok (.aaload, 1) := by decide +kernel
theorem dX1_moveUnits_21 : decode cX1_moveUnits 21 = .ok (.invokevirtual 116, 3) := by decide +kernel
theorem dX1_moveUnits_24 : decode cX1_moveUnits 24 = .ok (.aload_n 0, 1) := by decide +kernel
theorem dX1_moveUnits_25 : decode cX1_moveUnits 25 = .ok (.getfield 52, 3) := by decide +kernel
theorem dX1_moveUnits_28 : decode cX1_moveUnits 28 = .ok (.invokevirtual 120, 3) := by decide +kernel
theorem dX1_moveUnits_31 : decode cX1_moveUnits 31 = .ok (.ifCond .ne 5, 3) := by decide +kernel
theorem dX1_moveUnits_34 : decode cX1_moveUnits 34 = .ok (.iconst 0, 1) := by decide +kernel
theorem dX1_moveUnits_35 : decode cX1_moveUnits 35 = .ok (.ireturn, 1) := by decide +kernel
theorem dX1_moveUnits_36 : decode cX1_moveUnits 36 = .ok (.iconst 0, 1) := by decide +kernel
theorem dX1_moveUnits_37 : decode cX1_moveUnits 37 = .ok (.istore_n 1, 1) := by decide +kernel
theorem dX1_moveUnits_38 : decode cX1_moveUnits 38 = .ok (.iconst 0, 1) := by decide +kernel
theorem dX1_moveUnits_39 : decode cX1_moveUnits 39 = .ok (.istore_n 2, 1) := by decide +kernel
theorem dX1_moveUnits_40 : decode cX1_moveUnits 40 = .ok (.iload_n 2, 1) := by decide +kernel
theorem dX1_moveUnits_41 : decode cX1_moveUnits 41 = .ok (.iconst 4, 1) := by decide +kernel
theorem dX1_moveUnits_42 : decode cX1_moveUnits 42 = .ok (.if_icmp .ge 22, 3) := by decide +kernel
theorem dX1_moveUnits_45 : decode cX1_moveUnits 45 = .ok (.iload_n 1, 1) := by decide +kernel
theorem dX1_moveUnits_46 : decode cX1_moveUnits 46 = .ok (.aload_n 0, 1) := by decide +kernel
theorem dX1_moveUnits_47 : decode cX1_moveUnits 47 = .ok (.aload_n 0, 1) := by decide +kernel
theorem dX1_moveUnits_48 : decode cX1_moveUnits 48 = .ok (.getfield 34, 3) := by decide +kernel
theorem dX1_moveUnits_51 : decode cX1_moveUnits 51 = .ok (.iload_n 2, 1) := by decide +kernel
theorem dX1_moveUnits_52 : decode cX1_moveUnits 52 = .ok (.aaload, 1) := by decide +kernel
theorem dX1_moveUnits_53 : decode cX1_moveUnits 53 = .ok (.invokevirtual 188, 3) := by decide +kernel
theorem dX1_moveUnits_56 : decode cX1_moveUnits 56 = .ok (.iadd, 1) := by decide +kernel
theorem dX1_moveUnits_57 : decode cX1_moveUnits 57 = .ok (.istore_n 1, 1) := by decide +kernel
theorem dX1_moveUnits_58 : decode cX1_moveUnits 58 = .ok (.iinc 2 1, 3) := by decide +kernel
theorem dX1_moveUnits_61 : decode cX1_moveUnits 61 = .ok (.goto (-21), 3) := by decide +kernel
theorem dX1_moveUnits_64 : decode cX1_moveUnits 64 = .ok (.iload_n 1, 1) := by decide +kernel
theorem dX1_moveUnits_65 : decode cX1_moveUnits 65 = .ok (.ireturn, 1) := by decide +kernel
theorem dX1_moveThrough_0 : decode cX1_moveThrough 0 = .ok (.aload_n 1, 1) := by decide +kernel
theorem dX1_moveThrough_1 : decode cX1_moveThrough 1 = .ok (.getfield 151, 3) := by decide +kernel
theorem dX1_moveThrough_4 : decode cX1_moveThrough 4 = .ok (.istore_n 2, 1) := by decide +kernel
theorem dX1_moveThrough_5 : decode cX1_moveThrough 5 = .ok (.iload_n 2, 1) := by decide +kernel
theorem dX1_moveThrough_6 : decode cX1_moveThrough 6 = .ok (.invokestatic 138, 3) := by decide +kernel
theorem dX1_moveThrough_9 : decode cX1_moveThrough 9 = .ok (.ifCond .ne 5, 3) := by decide +kernel
theorem dX1_moveThrough_12 : decode cX1_moveThrough 12 = .ok (.iconst 0, 1) := by decide +kernel
theorem dX1_moveThrough_13 : decode cX1_moveThrough 13 = .ok (.ireturn, 1) := by decide +kernel
theorem dX1_moveThrough_14 : decode cX1_moveThrough 14 = .ok (.aload_n 0, 1) := by decide +kernel
theorem dX1_moveThrough_15 : decode cX1_moveThrough 15 = .ok (.getfield 40, 3) := by decide +kernel
theorem dX1_moveThrough_18 : decode cX1_moveThrough 18 = .ok (.iconst 0, 1) := by decide +kernel
theorem dX1_moveThrough_19 : decode cX1_moveThrough 19 = .ok (.aaload, 1) := by decide +kernel
theorem dX1_moveThrough_20 : decode cX1_moveThrough 20 = .ok (.getfield 110, 3) := by decide +kernel
theorem dX1_moveThrough_23 : decode cX1_moveThrough 23 = .ok (.astore_n 3, 1) := by decide +kernel
theorem dX1_moveThrough_24 : decode cX1_moveThrough 24 = .ok (.aload_n 0, 1) := by decide +kernel
theorem dX1_moveThrough_25 : decode cX1_moveThrough 25 = .ok (.getfield 18, 3) := by decide +kernel
theorem dX1_moveThrough_28 : decode cX1_moveThrough 28 = .ok (.iconst 3, 1) := by decide +kernel
theorem dX1_moveThrough_29 : decode cX1_moveThrough 29 = .ok (.iaload, 1) := by decide +kernel
theorem dX1_moveThrough_30 : decode cX1_moveThrough 30 = .ok (.aload_n 3, 1) := by decide +kernel
theorem dX1_moveThrough_31 : decode cX1_moveThrough 31 = .ok (.iload_n 2, 1) := by decide +kernel
theorem dX1_moveThrough_32 : decode cX1_moveThrough 32 = .ok (.iaload, 1) := by decide +kernel
theorem dX1_moveThrough_33 : decode cX1_moveThrough 33 = .ok (.sipush 1000, 3) := by decide +kernel
theorem dX1_moveThrough_36 : decode cX1_moveThrough 36 = .ok (.aload_n 0, 1) := by decide +kernel
theorem dX1_moveThrough_37 : decode cX1_moveThrough 37 = .ok (.getfield 23, 3) := by decide +kernel
theorem dX1_moveThrough_40 : decode cX1_moveThrough 40 = .ok (.iload_n 2, 1) := by decide +kernel
theorem dX1_moveThrough_41 : decode cX1_moveThrough 41 = .ok (.iaload, 1) := by decide +kernel
theorem dX1_moveThrough_42 : decode cX1_moveThrough 42 = .ok (.isub, 1) := by decide +kernel
theorem dX1_moveThrough_43 : decode cX1_moveThrough 43 = .ok (.invokestatic 158, 3) := by decide +kernel
theorem dX1_moveThrough_46 : decode cX1_moveThrough 46 = .ok (.invokestatic 158, 3) := by decide +kernel
theorem dX1_moveThrough_49 : decode cX1_moveThrough 49 = .ok (.istore 4, 2) := by decide +kernel
theorem dX1_moveThrough_51 : decode cX1_moveThrough 51 = .ok (.iload 4, 2) := by decide +kernel
theorem dX1_moveThrough_53 : decode cX1_moveThrough 53 = .ok (.ifCond .gt 5, 3) := by decide +kernel
theorem dX1_moveThrough_56 : decode cX1_moveThrough 56 = .ok (.iconst 0, 1) := by decide +kernel
theorem dX1_moveThrough_57 : decode cX1_moveThrough 57 = .ok (.ireturn, 1) := by decide +kernel
theorem dX1_moveThrough_58 : decode cX1_moveThrough 58 = .ok (.aload_n 1, 1) := by decide +kernel
theorem dX1_moveThrough_59 : decode cX1_moveThrough 59 = .ok (.invokevirtual 192, 3) := by decide +kernel
theorem dX1_moveThrough_62 : decode cX1_moveThrough 62 = .ok (.istore 5, 2) := by decide +kernel
theorem dX1_moveThrough_64 : decode cX1_moveThrough 64 = .ok (.aload_n 3, 1) := by decide +kernel
theorem dX1_moveThrough_65 : decode cX1_moveThrough 65 = .ok (.iload_n 2, 1) := by decide +kernel
theorem dX1_moveThrough_66 : decode cX1_moveThrough 66 = .ok (.dup2, 1) := by decide +kernel
theorem dX1_moveThrough_67 : decode cX1_moveThrough 67 = .ok (.iaload, 1) := by decide +kernel
theorem dX1_moveThrough_68 : decode cX1_moveThrough 68 = .ok (.iload 4, 2) := by decide +kernel
theorem dX1_moveThrough_70 : decode cX1_moveThrough 70 = .ok (.isub, 1) := by decide +kernel
theorem dX1_moveThrough_71 : decode cX1_moveThrough 71 = .ok (.iastore, 1) := by decide +kernel
theorem dX1_moveThrough_72 : decode cX1_moveThrough 72 = .ok (.aload_n 1, 1) := by decide +kernel
theorem dX1_moveThrough_73 : decode cX1_moveThrough 73 = .ok (.iload_n 2, 1) := by decide +kernel
theorem dX1_moveThrough_74 : decode cX1_moveThrough 74 = .ok (.putfield 155, 3) := by decide +kernel
theorem dX1_moveThrough_77 : decode cX1_moveThrough 77 = .ok (.iload 5, 2) := by decide +kernel
theorem dX1_moveThrough_79 : decode cX1_moveThrough 79 = .ok (.ifCond .eq 27, 3) := by decide +kernel
theorem dX1_moveThrough_82 : decode cX1_moveThrough 82 = .ok (.aload_n 0, 1) := by decide +kernel
theorem dX1_moveThrough_83 : decode cX1_moveThrough 83 = .ok (.getfield 26, 3) := by decide +kernel
theorem dX1_moveThrough_86 : decode cX1_moveThrough 86 = .ok (.iload_n 2, 1) := by decide +kernel
theorem dX1_moveThrough_87 : decode cX1_moveThrough 87 = .ok (.dup2, 1) := by decide +kernel
theorem dX1_moveThrough_88 : decode cX1_moveThrough 88 = .ok (.iaload, 1) := by decide +kernel
theorem dX1_moveThrough_89 : decode cX1_moveThrough 89 = .ok (.iload 4, 2) := by decide +kernel
theorem dX1_moveThrough_91 : decode cX1_moveThrough 91 = .ok (.iadd, 1) := by decide +kernel
theorem dX1_moveThrough_92 : decode cX1_moveThrough 92 = .ok (.iastore, 1) := by decide +kernel
theorem dX1_moveThrough_93 : decode cX1_moveThrough 93 = .ok (.aload_n 1, 1) := by decide +kernel
theorem dX1_moveThrough_94 : decode cX1_moveThrough 94 = .ok (.dup, 1) := by decide +kernel
theorem dX1_moveThrough_95 : decode cX1_moveThrough 95 = .ok (.getfield 195, 3) := by decide +kernel
theorem dX1_moveThrough_98 : decode cX1_moveThrough 98 = .ok (.iload 4, 2) := by decide +kernel
theorem dX1_moveThrough_100 : decode cX1_moveThrough 100 = .ok (.iadd, 1) := by decide +kernel
theorem dX1_moveThrough_101 : decode cX1_moveThrough 101 = .ok (.putfield 195, 3) := by decide +kernel
theorem dX1_moveThrough_104 : decode cX1_moveThrough 104 = .ok (.iconst 0, 1) := by decide +kernel
theorem dX1_moveThrough_105 : decode cX1_moveThrough 105 = .ok (.ireturn, 1) := by decide +kernel
theorem dX1_moveThrough_106 : decode cX1_moveThrough 106 = .ok (.aload_n 0, 1) := by decide +kernel
theorem dX1_moveThrough_107 : decode cX1_moveThrough 107 = .ok (.getfield 23, 3) := by decide +kernel
theorem dX1_moveThrough_110 : decode cX1_moveThrough 110 = .ok (.iload_n 2, 1) := by decide +kernel
theorem dX1_moveThrough_111 : decode cX1_moveThrough 111 = .ok (.dup2, 1) := by decide +kernel
theorem dX1_moveThrough_112 : decode cX1_moveThrough 112 = .ok (.iaload, 1) := by decide +kernel
theorem dX1_moveThrough_113 : decode cX1_moveThrough 113 = .ok (.iload 4, 2) := by decide +kernel
theorem dX1_moveThrough_115 : decode cX1_moveThrough 115 = .ok (.iadd, 1) := by decide +kernel
theorem dX1_moveThrough_116 : decode cX1_moveThrough 116 = .ok (.iastore, 1) := by decide +kernel
theorem dX1_moveThrough_117 : decode cX1_moveThrough 117 = .ok (.aload_n 1, 1) := by decide +kernel
theorem dX1_moveThrough_118 : decode cX1_moveThrough 118 = .ok (.dup, 1) := by decide +kernel
theorem dX1_moveThrough_119 : decode cX1_moveThrough 119 = .ok (.getfield 197, 3) := by decide +kernel
theorem dX1_moveThrough_122 : decode cX1_moveThrough 122 = .ok (.iload 4, 2) := by decide +kernel
theorem dX1_moveThrough_124 : decode cX1_moveThrough 124 = .ok (.iadd, 1) := by decide +kernel
theorem dX1_moveThrough_125 : decode cX1_moveThrough 125 = .ok (.putfield 197, 3) := by decide +kernel
theorem dX1_moveThrough_128 : decode cX1_moveThrough 128 = .ok (.iload 4, 2) := by decide +kernel
theorem dX1_moveThrough_130 : decode cX1_moveThrough 130 = .ok (.ireturn, 1) := by decide +kernel
theorem dX1_lateTankers_0 : decode cX1_lateTankers 0 = .ok (.iconst 0, 1) := by decide +kernel
theorem dX1_lateTankers_1 : decode cX1_lateTankers 1 = .ok (.istore_n 1, 1) := by decide +kernel
theorem dX1_lateTankers_2 : decode cX1_lateTankers 2 = .ok (.iconst 0, 1) := by decide +kernel
theorem dX1_lateTankers_3 : decode cX1_lateTankers 3 = .ok (.istore_n 2, 1) := by decide +kernel
theorem dX1_lateTankers_4 : decode cX1_lateTankers 4 = .ok (.iload_n 2, 1) := by decide +kernel
theorem dX1_lateTankers_5 : decode cX1_lateTankers 5 = .ok (.aload_n 0, 1) := by decide +kernel
theorem dX1_lateTankers_6 : decode cX1_lateTankers 6 = .ok (.getfield 40, 3) := by decide +kernel
theorem dX1_lateTankers_9 : decode cX1_lateTankers 9 = .ok (.arraylength, 1) := by decide +kernel
theorem dX1_lateTankers_10 : decode cX1_lateTankers 10 = .ok (.if_icmp .ge 43, 3) := by decide +kernel
theorem dX1_lateTankers_13 : decode cX1_lateTankers 13 = .ok (.aload_n 0, 1) := by decide +kernel
theorem dX1_lateTankers_14 : decode cX1_lateTankers 14 = .ok (.iload_n 2, 1) := by decide +kernel
theorem dX1_lateTankers_15 : decode cX1_lateTankers 15 = .ok (.invokevirtual 200, 3) := by decide +kernel
theorem dX1_lateTankers_18 : decode cX1_lateTankers 18 = .ok (.ifCond .eq 29, 3) := by decide +kernel
theorem dX1_lateTankers_21 : decode cX1_lateTankers 21 = .ok (.aload_n 0, 1) := by decide +kernel
theorem dX1_lateTankers_22 : decode cX1_lateTankers 22 = .ok (.getfield 52, 3) := by decide +kernel
theorem dX1_lateTankers_25 : decode cX1_lateTankers 25 = .ok (.aload_n 0, 1) := by decide +kernel
theorem dX1_lateTankers_26 : decode cX1_lateTankers 26 = .ok (.getfield 40, 3) := by decide +kernel
theorem dX1_lateTankers_29 : decode cX1_lateTankers 29 = .ok (.iload_n 2, 1) := by decide +kernel
theorem dX1_lateTankers_30 : decode cX1_lateTankers 30 = .ok (.aaload, 1) := by decide +kernel
theorem dX1_lateTankers_31 : decode cX1_lateTankers 31 = .ok (.getfield 113, 3) := by decide +kernel
theorem dX1_lateTankers_34 : decode cX1_lateTankers 34 = .ok (.isub, 1) := by decide +kernel
theorem dX1_lateTankers_35 : decode cX1_lateTankers 35 = .ok (.aload_n 0, 1) := by decide +kernel
theorem dX1_lateTankers_36 : decode cX1_lateTankers 36 = .ok (.getfield 18, 3) := by decide +kernel
theorem dX1_lateTankers_39 : decode cX1_lateTankers 39 = .ok (.iconst 4, 1) := by decide +kernel
theorem dX1_lateTankers_40 : decode cX1_lateTankers 40 = .ok (.iaload, 1) := by decide +kernel
theorem dX1_lateTankers_41 : decode cX1_lateTankers 41 = .ok (.if_icmp .le 6, 3) := by decide +kernel
theorem dX1_lateTankers_44 : decode cX1_lateTankers 44 = .ok (.iinc 1 1, 3) := by decide +kernel
theorem dX1_lateTankers_47 : decode cX1_lateTankers 47 = .ok (.iinc 2 1, 3) := by decide +kernel
theorem dX1_lateTankers_50 : decode cX1_lateTankers 50 = .ok (.goto (-46), 3) := by decide +kernel
theorem dX1_lateTankers_53 : decode cX1_lateTankers 53 = .ok (.iload_n 1, 1) := by decide +kernel
theorem dX1_lateTankers_54 : decode cX1_lateTankers 54 = .ok (.ireturn, 1) := by decide +kernel
theorem dX1_connectedHoses_0 : decode cX1_connectedHoses 0 = .ok (.iconst 0, 1) := by decide +kernel
theorem dX1_connectedHoses_1 : decode cX1_connectedHoses 1 = .ok (.istore_n 1, 1) := by decide +kernel
theorem dX1_connectedHoses_2 : decode cX1_connectedHoses 2 = .ok (.iconst 0, 1) := by decide +kernel
theorem dX1_connectedHoses_3 : decode cX1_connectedHoses 3 = .ok (.istore_n 2, 1) := by decide +kernel
theorem dX1_connectedHoses_4 : decode cX1_connectedHoses 4 = .ok (.iload_n 2, 1) := by decide +kernel
theorem dX1_connectedHoses_5 : decode cX1_connectedHoses 5 = .ok (.iconst 4, 1) := by decide +kernel
theorem dX1_connectedHoses_6 : decode cX1_connectedHoses 6 = .ok (.if_icmp .ge 29, 3) := by decide +kernel
theorem dX1_connectedHoses_9 : decode cX1_connectedHoses 9 = .ok (.iload_n 1, 1) := by decide +kernel
theorem dX1_connectedHoses_10 : decode cX1_connectedHoses 10 = .ok (.aload_n 0, 1) := by decide +kernel
theorem dX1_connectedHoses_11 : decode cX1_connectedHoses 11 = .ok (.getfield 34, 3) := by decide +kernel
theorem dX1_connectedHoses_14 : decode cX1_connectedHoses 14 = .ok (.iload_n 2, 1) := by decide +kernel
theorem dX1_connectedHoses_15 : decode cX1_connectedHoses 15 = .ok (.aaload, 1) := by decide +kernel
theorem dX1_connectedHoses_16 : decode cX1_connectedHoses 16 = .ok (.invokevirtual 144, 3) := by decide +kernel
theorem dX1_connectedHoses_19 : decode cX1_connectedHoses 19 = .ok (.ifCond .eq 7, 3) := by decide +kernel
theorem dX1_connectedHoses_22 : decode cX1_connectedHoses 22 = .ok (.iconst 1, 1) := by decide +kernel
theorem dX1_connectedHoses_23 : decode cX1_connectedHoses 23 = .ok (.goto 4, 3) := by decide +kernel
theorem dX1_connectedHoses_26 : decode cX1_connectedHoses 26 = .ok (.iconst 0, 1) := by decide +kernel
theorem dX1_connectedHoses_27 : decode cX1_connectedHoses 27 = .ok (.iadd, 1) := by decide +kernel
theorem dX1_connectedHoses_28 : decode cX1_connectedHoses 28 = .ok (.istore_n 1, 1) := by decide +kernel
theorem dX1_connectedHoses_29 : decode cX1_connectedHoses 29 = .ok (.iinc 2 1, 3) := by decide +kernel
theorem dX1_connectedHoses_32 : decode cX1_connectedHoses 32 = .ok (.goto (-28), 3) := by decide +kernel
theorem dX1_connectedHoses_35 : decode cX1_connectedHoses 35 = .ok (.iload_n 1, 1) := by decide +kernel
theorem dX1_connectedHoses_36 : decode cX1_connectedHoses 36 = .ok (.ireturn, 1) := by decide +kernel
theorem dX1_burstHoses_0 : decode cX1_burstHoses 0 = .ok (.iconst 0, 1) := by decide +kernel
theorem dX1_burstHoses_1 : decode cX1_burstHoses 1 = .ok (.istore_n 1, 1) := by decide +kernel
theorem dX1_burstHoses_2 : decode cX1_burstHoses 2 = .ok (.iconst 0, 1) := by decide +kernel
theorem dX1_burstHoses_3 : decode cX1_burstHoses 3 = .ok (.istore_n 2, 1) := by decide +kernel
theorem dX1_burstHoses_4 : decode cX1_burstHoses 4 = .ok (.iload_n 2, 1) := by decide +kernel
theorem dX1_burstHoses_5 : decode cX1_burstHoses 5 = .ok (.iconst 4, 1) := by decide +kernel
theorem dX1_burstHoses_6 : decode cX1_burstHoses 6 = .ok (.if_icmp .ge 29, 3) := by decide +kernel
theorem dX1_burstHoses_9 : decode cX1_burstHoses 9 = .ok (.iload_n 1, 1) := by decide +kernel
theorem dX1_burstHoses_10 : decode cX1_burstHoses 10 = .ok (.aload_n 0, 1) := by decide +kernel
theorem dX1_burstHoses_11 : decode cX1_burstHoses 11 = .ok (.getfield 34, 3) := by decide +kernel
theorem dX1_burstHoses_14 : decode cX1_burstHoses 14 = .ok (.iload_n 2, 1) := by decide +kernel
theorem dX1_burstHoses_15 : decode cX1_burstHoses 15 = .ok (.aaload, 1) := by decide +kernel
theorem dX1_burstHoses_16 : decode cX1_burstHoses 16 = .ok (.getfield 141, 3) := by decide +kernel
theorem dX1_burstHoses_19 : decode cX1_burstHoses 19 = .ok (.ifCond .eq 7, 3) := by decide +kernel
theorem dX1_burstHoses_22 : decode cX1_burstHoses 22 = .ok (.iconst 1, 1) := by decide +kernel
theorem dX1_burstHoses_23 : decode cX1_burstHoses 23 = .ok (.goto 4, 3) := by decide +kernel
theorem dX1_burstHoses_26 : decode cX1_burstHoses 26 = .ok (.iconst 0, 1) := by decide +kernel
theorem dX1_burstHoses_27 : decode cX1_burstHoses 27 = .ok (.iadd, 1) := by decide +kernel
theorem dX1_burstHoses_28 : decode cX1_burstHoses 28 = .ok (.istore_n 1, 1) := by decide +kernel
theorem dX1_burstHoses_29 : decode cX1_burstHoses 29 = .ok (.iinc 2 1, 3) := by decide +kernel
theorem dX1_burstHoses_32 : decode cX1_burstHoses 32 = .ok (.goto (-28), 3) := by decide +kernel
theorem dX1_burstHoses_35 : decode cX1_burstHoses 35 = .ok (.iload_n 1, 1) := by decide +kernel
theorem dX1_burstHoses_36 : decode cX1_burstHoses 36 = .ok (.ireturn, 1) := by decide +kernel
theorem dX1_allSpoilt_0 : decode cX1_allSpoilt 0 = .ok (.iconst 0, 1) := by decide +kernel
theorem dX1_allSpoilt_1 : decode cX1_allSpoilt 1 = .ok (.istore_n 1, 1) := by decide +kernel
theorem dX1_allSpoilt_2 : decode cX1_allSpoilt 2 = .ok (.iconst 0, 1) := by decide +kernel
theorem dX1_allSpoilt_3 : decode cX1_allSpoilt 3 = .ok (.istore_n 2, 1) := by decide +kernel
theorem dX1_allSpoilt_4 : decode cX1_allSpoilt 4 = .ok (.iload_n 2, 1) := by decide +kernel
theorem dX1_allSpoilt_5 : decode cX1_allSpoilt 5 = .ok (.iconst 4, 1) := by decide +kernel
theorem dX1_allSpoilt_6 : decode cX1_allSpoilt 6 = .ok (.if_icmp .ge 18, 3) := by decide +kernel
theorem dX1_allSpoilt_9 : decode cX1_allSpoilt 9 = .ok (.iload_n 1, 1) := by decide +kernel
theorem dX1_allSpoilt_10 : decode cX1_allSpoilt 10 = .ok (.aload_n 0, 1) := by decide +kernel
theorem dX1_allSpoilt_11 : decode cX1_allSpoilt 11 = .ok (.getfield 26, 3) := by decide +kernel
theorem dX1_allSpoilt_14 : decode cX1_allSpoilt 14 = .ok (.iload_n 2, 1) := by decide +kernel
theorem dX1_allSpoilt_15 : decode cX1_allSpoilt 15 = .ok (.iaload, 1) := by decide +kernel
theorem dX1_allSpoilt_16 : decode cX1_allSpoilt 16 = .ok (.iadd, 1) := by decide +kernel
theorem dX1_allSpoilt_17 : decode cX1_allSpoilt 17 = .ok (.istore_n 1, 1) := by decide +kernel
theorem dX1_allSpoilt_18 : decode cX1_allSpoilt 18 = .ok (.iinc 2 1, 3) := by decide +kernel
theorem dX1_allSpoilt_21 : decode cX1_allSpoilt 21 = .ok (.goto (-17), 3) := by decide +kernel
theorem dX1_allSpoilt_24 : decode cX1_allSpoilt 24 = .ok (.iload_n 1, 1) := by decide +kernel
theorem dX1_allSpoilt_25 : decode cX1_allSpoilt 25 = .ok (.ireturn, 1) := by decide +kernel
theorem dX1_unitsInTankers_0 : decode cX1_unitsInTankers 0 = .ok (.iconst 0, 1) := by decide +kernel
theorem dX1_unitsInTankers_1 : decode cX1_unitsInTankers 1 = .ok (.istore_n 2, 1) := by decide +kernel
theorem dX1_unitsInTankers_2 : decode cX1_unitsInTankers 2 = .ok (.iconst 0, 1) := by decide +kernel
theorem dX1_unitsInTankers_3 : decode cX1_unitsInTankers 3 = .ok (.istore_n 3, 1) := by decide +kernel
theorem dX1_unitsInTankers_4 : decode cX1_unitsInTankers 4 = .ok (.iload_n 3, 1) := by decide +kernel
theorem dX1_unitsInTankers_5 : decode cX1_unitsInTankers 5 = .ok (.aload_n 0, 1) := by decide +kernel
theorem dX1_unitsInTankers_6 : decode cX1_unitsInTankers 6 = .ok (.getfield 40, 3) := by decide +kernel
theorem dX1_unitsInTankers_9 : decode cX1_unitsInTankers 9 = .ok (.arraylength, 1) := by decide +kernel
theorem dX1_unitsInTankers_10 : decode cX1_unitsInTankers 10 = .ok (.if_icmp .ge 35, 3) := by decide +kernel
theorem dX1_unitsInTankers_13 : decode cX1_unitsInTankers 13 = .ok (.iload_n 2, 1) := by decide +kernel
theorem dX1_unitsInTankers_14 : decode cX1_unitsInTankers 14 = .ok (.aload_n 0, 1) := by decide +kernel
theorem dX1_unitsInTankers_15 : decode cX1_unitsInTankers 15 = .ok (.iload_n 3, 1) := by decide +kernel
theorem dX1_unitsInTankers_16 : decode cX1_unitsInTankers 16 = .ok (.invokevirtual 200, 3) := by decide +kernel
theorem dX1_unitsInTankers_19 : decode cX1_unitsInTankers 19 = .ok (.ifCond .eq 17, 3) := by decide +kernel
theorem dX1_unitsInTankers_22 : decode cX1_unitsInTankers 22 = .ok (.aload_n 0, 1) := by decide +kernel
theorem dX1_unitsInTankers_23 : decode cX1_unitsInTankers 23 = .ok (.getfield 40, 3) := by decide +kernel
theorem dX1_unitsInTankers_26 : decode cX1_unitsInTankers 26 = .ok (.iload_n 3, 1) := by decide +kernel
theorem dX1_unitsInTankers_27 : decode cX1_unitsInTankers 27 = .ok (.aaload, 1) := by decide +kernel
theorem dX1_unitsInTankers_28 : decode cX1_unitsInTankers 28 = .ok (.getfield 110, 3) := by decide +kernel
theorem dX1_unitsInTankers_31 : decode cX1_unitsInTankers 31 = .ok (.iload_n 1, 1) := by decide +kernel
theorem dX1_unitsInTankers_32 : decode cX1_unitsInTankers 32 = .ok (.iaload, 1) := by decide +kernel
theorem dX1_unitsInTankers_33 : decode cX1_unitsInTankers 33 = .ok (.goto 4, 3) := by decide +kernel
theorem dX1_unitsInTankers_36 : decode cX1_unitsInTankers 36 = .ok (.iconst 0, 1) := by decide +kernel
theorem dX1_unitsInTankers_37 : decode cX1_unitsInTankers 37 = .ok (.iadd, 1) := by decide +kernel
theorem dX1_unitsInTankers_38 : decode cX1_unitsInTankers 38 = .ok (.istore_n 2, 1) := by decide +kernel
theorem dX1_unitsInTankers_39 : decode cX1_unitsInTankers 39 = .ok (.iinc 3 1, 3) := by decide +kernel
theorem dX1_unitsInTankers_42 : decode cX1_unitsInTankers 42 = .ok (.goto (-38), 3) := by decide +kernel
theorem dX1_unitsInTankers_45 : decode cX1_unitsInTankers 45 = .ok (.iload_n 2, 1) := by decide +kernel
theorem dX1_unitsInTankers_46 : decode cX1_unitsInTankers 46 = .ok (.ireturn, 1) := by decide +kernel
theorem dX1_aboutTanker_0 : decode cX1_aboutTanker 0 = .ok (.iload_n 2, 1) := by decide +kernel
theorem dX1_aboutTanker_1 : decode cX1_aboutTanker 1 = .ok (.ifCond .lt 9, 3) := by decide +kernel
theorem dX1_aboutTanker_4 : decode cX1_aboutTanker 4 = .ok (.iload_n 2, 1) := by decide +kernel
theorem dX1_aboutTanker_5 : decode cX1_aboutTanker 5 = .ok (.bipush 7, 2) := by decide +kernel
theorem dX1_aboutTanker_7 : decode cX1_aboutTanker 7 = .ok (.if_icmp .le 6, 3) := by decide +kernel
theorem dX1_aboutTanker_10 : decode cX1_aboutTanker 10 = .ok (.ldc 98, 2) := by decide +kernel
theorem dX1_aboutTanker_12 : decode cX1_aboutTanker 12 = .ok (.ireturn, 1) := by decide +kernel
theorem dX1_aboutTanker_13 : decode cX1_aboutTanker 13 = .ok (.aload_n 0, 1) := by decide +kernel
theorem dX1_aboutTanker_14 : decode cX1_aboutTanker 14 = .ok (.iload_n 1, 1) := by decide +kernel
theorem dX1_aboutTanker_15 : decode cX1_aboutTanker 15 = .ok (.invokevirtual 200, 3) := by decide +kernel
theorem dX1_aboutTanker_18 : decode cX1_aboutTanker 18 = .ok (.ifCond .ne 6, 3) := by decide +kernel
theorem dX1_aboutTanker_21 : decode cX1_aboutTanker 21 = .ok (.ldc 134, 2) := by decide +kernel
theorem dX1_aboutTanker_23 : decode cX1_aboutTanker 23 = .ok (.ireturn, 1) := by decide +kernel
theorem dX1_aboutTanker_24 : decode cX1_aboutTanker 24 = .ok (.aload_n 0, 1) := by decide +kernel
theorem dX1_aboutTanker_25 : decode cX1_aboutTanker 25 = .ok (.getfield 40, 3) := by decide +kernel
theorem dX1_aboutTanker_28 : decode cX1_aboutTanker 28 = .ok (.iload_n 1, 1) := by decide +kernel
theorem dX1_aboutTanker_29 : decode cX1_aboutTanker 29 = .ok (.aaload, 1) := by decide +kernel
theorem dX1_aboutTanker_30 : decode cX1_aboutTanker 30 = .ok (.astore_n 3, 1) := by decide +kernel
theorem dX1_aboutTanker_31 : decode cX1_aboutTanker 31 = .ok (.iload_n 2, 1) := by decide +kernel
theorem dX1_aboutTanker_32 : decode cX1_aboutTanker 32 = .ok (.tableswitch 81 4 7 #[32, 37, 50, 71], 32) := by decide +kernel
theorem dX1_aboutTanker_64 : decode cX1_aboutTanker 64 = .ok (.aload_n 3, 1) := by decide +kernel
theorem dX1_aboutTanker_65 : decode cX1_aboutTanker 65 = .ok (.invokevirtual 116, 3) := by decide +kernel
theorem dX1_aboutTanker_68 : decode cX1_aboutTanker 68 = .ok (.ireturn, 1) := by decide +kernel
theorem dX1_aboutTanker_69 : decode cX1_aboutTanker 69 = .ok (.aload_n 0, 1) := by decide +kernel
theorem dX1_aboutTanker_70 : decode cX1_aboutTanker 70 = .ok (.aload_n 3, 1) := by decide +kernel
theorem dX1_aboutTanker_71 : decode cX1_aboutTanker 71 = .ok (.invokevirtual 116, 3) := by decide +kernel
theorem dX1_aboutTanker_74 : decode cX1_aboutTanker 74 = .ok (.aload_n 0, 1) := by decide +kernel
theorem dX1_aboutTanker_75 : decode cX1_aboutTanker 75 = .ok (.getfield 52, 3) := by decide +kernel
theorem dX1_aboutTanker_78 : decode cX1_aboutTanker 78 = .ok (.invokevirtual 148, 3) := by decide +kernel
theorem dX1_aboutTanker_81 : decode cX1_aboutTanker 81 = .ok (.ireturn, 1) := by decide +kernel
theorem dX1_aboutTanker_82 : decode cX1_aboutTanker 82 = .ok (.aload_n 0, 1) := by decide +kernel
theorem dX1_aboutTanker_83 : decode cX1_aboutTanker 83 = .ok (.aload_n 3, 1) := by decide +kernel
theorem dX1_aboutTanker_84 : decode cX1_aboutTanker 84 = .ok (.invokevirtual 116, 3) := by decide +kernel
theorem dX1_aboutTanker_87 : decode cX1_aboutTanker 87 = .ok (.aload_n 0, 1) := by decide +kernel
theorem dX1_aboutTanker_88 : decode cX1_aboutTanker 88 = .ok (.getfield 52, 3) := by decide +kernel
theorem dX1_aboutTanker_91 : decode cX1_aboutTanker 91 = .ok (.invokevirtual 120, 3) := by decide +kernel
theorem dX1_aboutTanker_94 : decode cX1_aboutTanker 94 = .ok (.ifCond .eq 7, 3) := by decide +kernel
theorem dX1_aboutTanker_97 : decode cX1_aboutTanker 97 = .ok (.iconst 1, 1) := by decide +kernel
theorem dX1_aboutTanker_98 : decode cX1_aboutTanker 98 = .ok (.goto 4, 3) := by decide +kernel
theorem dX1_aboutTanker_101 : decode cX1_aboutTanker 101 = .ok (.iconst 0, 1) := by decide +kernel
theorem dX1_aboutTanker_102 : decode cX1_aboutTanker 102 = .ok (.ireturn, 1) := by decide +kernel
theorem dX1_aboutTanker_103 : decode cX1_aboutTanker 103 = .ok (.aload_n 0, 1) := by decide +kernel
theorem dX1_aboutTanker_104 : decode cX1_aboutTanker 104 = .ok (.getfield 52, 3) := by decide +kernel
theorem dX1_aboutTanker_107 : decode cX1_aboutTanker 107 = .ok (.aload_n 3, 1) := by decide +kernel
theorem dX1_aboutTanker_108 : decode cX1_aboutTanker 108 = .ok (.getfield 113, 3) := by decide +kernel
theorem dX1_aboutTanker_111 : decode cX1_aboutTanker 111 = .ok (.isub, 1) := by decide +kernel
theorem dX1_aboutTanker_112 : decode cX1_aboutTanker 112 = .ok (.ireturn, 1) := by decide +kernel
theorem dX1_aboutTanker_113 : decode cX1_aboutTanker 113 = .ok (.aload_n 3, 1) := by decide +kernel
theorem dX1_aboutTanker_114 : decode cX1_aboutTanker 114 = .ok (.getfield 110, 3) := by decide +kernel
theorem dX1_aboutTanker_117 : decode cX1_aboutTanker 117 = .ok (.iload_n 2, 1) := by decide +kernel
theorem dX1_aboutTanker_118 : decode cX1_aboutTanker 118 = .ok (.iaload, 1) := by decide +kernel
theorem dX1_aboutTanker_119 : decode cX1_aboutTanker 119 = .ok (.ireturn, 1) := by decide +kernel
theorem dX1_aboutHose_0 : decode cX1_aboutHose 0 = .ok (.iload_n 1, 1) := by decide +kernel
theorem dX1_aboutHose_1 : decode cX1_aboutHose 1 = .ok (.invokestatic 131, 3) := by decide +kernel
theorem dX1_aboutHose_4 : decode cX1_aboutHose 4 = .ok (.ifCond .ne 6, 3) := by decide +kernel
theorem dX1_aboutHose_7 : decode cX1_aboutHose 7 = .ok (.ldc 134, 2) := by decide +kernel
theorem dX1_aboutHose_9 : decode cX1_aboutHose 9 = .ok (.ireturn, 1) := by decide +kernel
theorem dX1_aboutHose_10 : decode cX1_aboutHose 10 = .ok (.aload_n 0, 1) := by decide +kernel
theorem dX1_aboutHose_11 : decode cX1_aboutHose 11 = .ok (.getfield 34, 3) := by decide +kernel
theorem dX1_aboutHose_14 : decode cX1_aboutHose 14 = .ok (.iload_n 1, 1) := by decide +kernel
theorem dX1_aboutHose_15 : decode cX1_aboutHose 15 = .ok (.aaload, 1) := by decide +kernel
theorem dX1_aboutHose_16 : decode cX1_aboutHose 16 = .ok (.astore_n 3, 1) := by decide +kernel
theorem dX1_aboutHose_17 : decode cX1_aboutHose 17 = .ok (.iload_n 2, 1) := by decide +kernel
theorem dX1_aboutHose_18 : decode cX1_aboutHose 18 = .ok (.tableswitch 76 0 5 #[38, 43, 48, 53, 66, 71], 38) := by decide +kernel
theorem dX1_aboutHose_56 : decode cX1_aboutHose 56 = .ok (.aload_n 3, 1) := by decide +kernel
theorem dX1_aboutHose_57 : decode cX1_aboutHose 57 = .ok (.getfield 135, 3) := by decide +kernel
theorem dX1_aboutHose_60 : decode cX1_aboutHose 60 = .ok (.ireturn, 1) := by decide +kernel
theorem dX1_aboutHose_61 : decode cX1_aboutHose 61 = .ok (.aload_n 3, 1) := by decide +kernel
theorem dX1_aboutHose_62 : decode cX1_aboutHose 62 = .ok (.getfield 155, 3) := by decide +kernel
theorem dX1_aboutHose_65 : decode cX1_aboutHose 65 = .ok (.ireturn, 1) := by decide +kernel
theorem dX1_aboutHose_66 : decode cX1_aboutHose 66 = .ok (.aload_n 3, 1) := by decide +kernel
theorem dX1_aboutHose_67 : decode cX1_aboutHose 67 = .ok (.getfield 151, 3) := by decide +kernel
theorem dX1_aboutHose_70 : decode cX1_aboutHose 70 = .ok (.ireturn, 1) := by decide +kernel
theorem dX1_aboutHose_71 : decode cX1_aboutHose 71 = .ok (.aload_n 3, 1) := by decide +kernel
theorem dX1_aboutHose_72 : decode cX1_aboutHose 72 = .ok (.getfield 141, 3) := by decide +kernel
theorem dX1_aboutHose_75 : decode cX1_aboutHose 75 = .ok (.ifCond .eq 7, 3) := by decide +kernel
theorem dX1_aboutHose_78 : decode cX1_aboutHose 78 = .ok (.iconst 1, 1) := by decide +kernel
theorem dX1_aboutHose_79 : decode cX1_aboutHose 79 = .ok (.goto 4, 3) := by decide +kernel
theorem dX1_aboutHose_82 : decode cX1_aboutHose 82 = .ok (.iconst 0, 1) := by decide +kernel
theorem dX1_aboutHose_83 : decode cX1_aboutHose 83 = .ok (.ireturn, 1) := by decide +kernel
theorem dX1_aboutHose_84 : decode cX1_aboutHose 84 = .ok (.aload_n 3, 1) := by decide +kernel
theorem dX1_aboutHose_85 : decode cX1_aboutHose 85 = .ok (.getfield 197, 3) := by decide +kernel
theorem dX1_aboutHose_88 : decode cX1_aboutHose 88 = .ok (.ireturn, 1) := by decide +kernel
theorem dX1_aboutHose_89 : decode cX1_aboutHose 89 = .ok (.aload_n 3, 1) := by decide +kernel
theorem dX1_aboutHose_90 : decode cX1_aboutHose 90 = .ok (.getfield 195, 3) := by decide +kernel
theorem dX1_aboutHose_93 : decode cX1_aboutHose 93 = .ok (.ireturn, 1) := by decide +kernel
theorem dX1_aboutHose_94 : decode cX1_aboutHose 94 = .ok (.ldc 98, 2) := by decide +kernel
theorem dX1_aboutHose_96 : decode cX1_aboutHose 96 = .ok (.ireturn, 1) := by decide +kernel
theorem dX1_aboutGrade_0 : decode cX1_aboutGrade 0 = .ok (.iload_n 1, 1) := by decide +kernel
theorem dX1_aboutGrade_1 : decode cX1_aboutGrade 1 = .ok (.invokestatic 138, 3) := by decide +kernel
theorem dX1_aboutGrade_4 : decode cX1_aboutGrade 4 = .ok (.ifCond .ne 6, 3) := by decide +kernel
theorem dX1_aboutGrade_7 : decode cX1_aboutGrade 7 = .ok (.ldc 134, 2) := by decide +kernel
theorem dX1_aboutGrade_9 : decode cX1_aboutGrade 9 = .ok (.ireturn, 1) := by decide +kernel
theorem dX1_aboutGrade_10 : decode cX1_aboutGrade 10 = .ok (.iload_n 2, 1) := by decide +kernel
theorem dX1_aboutGrade_11 : decode cX1_aboutGrade 11 = .ok (.tableswitch 56 0 3 #[29, 36, 42, 49], 29) := by decide +kernel
theorem dX1_aboutGrade_40 : decode cX1_aboutGrade 40 = .ok (.aload_n 0, 1) := by decide +kernel
theorem dX1_aboutGrade_41 : decode cX1_aboutGrade 41 = .ok (.getfield 23, 3) := by decide +kernel
theorem dX1_aboutGrade_44 : decode cX1_aboutGrade 44 = .ok (.iload_n 1, 1) := by decide +kernel
theorem dX1_aboutGrade_45 : decode cX1_aboutGrade 45 = .ok (.iaload, 1) := by decide +kernel
theorem dX1_aboutGrade_46 : decode cX1_aboutGrade 46 = .ok (.ireturn, 1) := by decide +kernel
theorem dX1_aboutGrade_47 : decode cX1_aboutGrade 47 = .ok (.aload_n 0, 1) := by decide +kernel
theorem dX1_aboutGrade_48 : decode cX1_aboutGrade 48 = .ok (.iload_n 1, 1) := by decide +kernel
theorem dX1_aboutGrade_49 : decode cX1_aboutGrade 49 = .ok (.invokevirtual 203, 3) := by decide +kernel
theorem dX1_aboutGrade_52 : decode cX1_aboutGrade 52 = .ok (.ireturn, 1) := by decide +kernel
theorem dX1_aboutGrade_53 : decode cX1_aboutGrade 53 = .ok (.aload_n 0, 1) := by decide +kernel
theorem dX1_aboutGrade_54 : decode cX1_aboutGrade 54 = .ok (.getfield 26, 3) := by decide +kernel
theorem dX1_aboutGrade_57 : decode cX1_aboutGrade 57 = .ok (.iload_n 1, 1) := by decide +kernel
theorem dX1_aboutGrade_58 : decode cX1_aboutGrade 58 = .ok (.iaload, 1) := by decide +kernel
theorem dX1_aboutGrade_59 : decode cX1_aboutGrade 59 = .ok (.ireturn, 1) := by decide +kernel
theorem dX1_aboutGrade_60 : decode cX1_aboutGrade 60 = .ok (.aload_n 0, 1) := by decide +kernel
theorem dX1_aboutGrade_61 : decode cX1_aboutGrade 61 = .ok (.getfield 29, 3) := by decide +kernel
theorem dX1_aboutGrade_64 : decode cX1_aboutGrade 64 = .ok (.iload_n 1, 1) := by decide +kernel
theorem dX1_aboutGrade_65 : decode cX1_aboutGrade 65 = .ok (.iaload, 1) := by decide +kernel
theorem dX1_aboutGrade_66 : decode cX1_aboutGrade 66 = .ok (.ireturn, 1) := by decide +kernel
theorem dX1_aboutGrade_67 : decode cX1_aboutGrade 67 = .ok (.ldc 98, 2) := by decide +kernel
theorem dX1_aboutGrade_69 : decode cX1_aboutGrade 69 = .ok (.ireturn, 1) := by decide +kernel
theorem dX1_number_0 : decode cX1_number 0 = .ok (.iload_n 1, 1) := by decide +kernel
theorem dX1_number_1 : decode cX1_number 1 = .ok (.ifCond .lt 19, 3) := by decide +kernel
theorem dX1_number_4 : decode cX1_number 4 = .ok (.iload_n 1, 1) := by decide +kernel
theorem dX1_number_5 : decode cX1_number 5 = .ok (.aload_n 0, 1) := by decide +kernel
theorem dX1_number_6 : decode cX1_number 6 = .ok (.getfield 18, 3) := by decide +kernel
theorem dX1_number_9 : decode cX1_number 9 = .ok (.arraylength, 1) := by decide +kernel
theorem dX1_number_10 : decode cX1_number 10 = .ok (.if_icmp .ge 10, 3) := by decide +kernel
theorem dX1_number_13 : decode cX1_number 13 = .ok (.aload_n 0, 1) := by decide +kernel
theorem dX1_number_14 : decode cX1_number 14 = .ok (.getfield 18, 3) := by decide +kernel
theorem dX1_number_17 : decode cX1_number 17 = .ok (.iload_n 1, 1) := by decide +kernel
theorem dX1_number_18 : decode cX1_number 18 = .ok (.iaload, 1) := by decide +kernel
theorem dX1_number_19 : decode cX1_number 19 = .ok (.ireturn, 1) := by decide +kernel
theorem dX1_number_20 : decode cX1_number 20 = .ok (.iload_n 1, 1) := by decide +kernel
theorem dX1_number_21 : decode cX1_number 21 = .ok (.tableswitch 154 6 17 #[63, 68, 77, 93, 98, 111, 116, 121, 134, 139, 144, 149], 63) := by decide +kernel
theorem dX1_number_84 : decode cX1_number 84 = .ok (.aload_n 0, 1) := by decide +kernel
theorem dX1_number_85 : decode cX1_number 85 = .ok (.getfield 52, 3) := by decide +kernel
theorem dX1_number_88 : decode cX1_number 88 = .ok (.ireturn, 1) := by decide +kernel
theorem dX1_number_89 : decode cX1_number 89 = .ok (.aload_n 0, 1) := by decide +kernel
theorem dX1_number_90 : decode cX1_number 90 = .ok (.aload_n 0, 1) := by decide +kernel
theorem dX1_number_91 : decode cX1_number 91 = .ok (.getfield 52, 3) := by decide +kernel
theorem dX1_number_94 : decode cX1_number 94 = .ok (.invokevirtual 94, 3) := by decide +kernel
theorem dX1_number_97 : decode cX1_number 97 = .ok (.ireturn, 1) := by decide +kernel
theorem dX1_number_98 : decode cX1_number 98 = .ok (.aload_n 0, 1) := by decide +kernel
theorem dX1_number_99 : decode cX1_number 99 = .ok (.getfield 18, 3) := by decide +kernel
theorem dX1_number_102 : decode cX1_number 102 = .ok (.iconst 0, 1) := by decide +kernel
theorem dX1_number_103 : decode cX1_number 103 = .ok (.iaload, 1) := by decide +kernel
theorem dX1_number_104 : decode cX1_number 104 = .ok (.aload_n 0, 1) := by decide +kernel
theorem dX1_number_105 : decode cX1_number 105 = .ok (.aload_n 0, 1) := by decide +kernel
theorem dX1_number_106 : decode cX1_number 106 = .ok (.getfield 52, 3) := by decide +kernel
theorem dX1_number_109 : decode cX1_number 109 = .ok (.invokevirtual 94, 3) := by decide +kernel
theorem dX1_number_112 : decode cX1_number 112 = .ok (.iadd, 1) := by decide +kernel
theorem dX1_number_113 : decode cX1_number 113 = .ok (.ireturn, 1) := by decide +kernel
theorem dX1_number_114 : decode cX1_number 114 = .ok (.aload_n 0, 1) := by decide +kernel
theorem dX1_number_115 : decode cX1_number 115 = .ok (.getfield 48, 3) := by decide +kernel
theorem dX1_number_118 : decode cX1_number 118 = .ok (.ireturn, 1) := by decide +kernel
theorem dX1_number_119 : decode cX1_number 119 = .ok (.aload_n 0, 1) := by decide +kernel
theorem dX1_number_120 : decode cX1_number 120 = .ok (.getfield 44, 3) := by decide +kernel
theorem dX1_number_123 : decode cX1_number 123 = .ok (.ifCond .eq 7, 3) := by decide +kernel
theorem dX1_number_126 : decode cX1_number 126 = .ok (.iconst 1, 1) := by decide +kernel
theorem dX1_number_127 : decode cX1_number 127 = .ok (.goto 4, 3) := by decide +kernel
theorem dX1_number_130 : decode cX1_number 130 = .ok (.iconst 0, 1) := by decide +kernel
theorem dX1_number_131 : decode cX1_number 131 = .ok (.ireturn, 1) := by decide +kernel
theorem dX1_number_132 : decode cX1_number 132 = .ok (.aload_n 0, 1) := by decide +kernel
theorem dX1_number_133 : decode cX1_number 133 = .ok (.invokevirtual 128, 3) := by decide +kernel
theorem dX1_number_136 : decode cX1_number 136 = .ok (.ireturn, 1) := by decide +kernel
theorem dX1_number_137 : decode cX1_number 137 = .ok (.aload_n 0, 1) := by decide +kernel
theorem dX1_number_138 : decode cX1_number 138 = .ok (.invokevirtual 161, 3) := by decide +kernel
theorem dX1_number_141 : decode cX1_number 141 = .ok (.ireturn, 1) := by decide +kernel
theorem dX1_number_142 : decode cX1_number 142 = .ok (.aload_n 0, 1) := by decide +kernel
theorem dX1_number_143 : decode cX1_number 143 = .ok (.getfield 55, 3) := by decide +kernel
theorem dX1_number_146 : decode cX1_number 146 = .ok (.ifCond .eq 7, 3) := by decide +kernel
theorem dX1_number_149 : decode cX1_number 149 = .ok (.iconst 1, 1) := by decide +kernel
theorem dX1_number_150 : decode cX1_number 150 = .ok (.goto 4, 3) := by decide +kernel
theorem dX1_number_153 : decode cX1_number 153 = .ok (.iconst 0, 1) := by decide +kernel
theorem dX1_number_154 : decode cX1_number 154 = .ok (.ireturn, 1) := by decide +kernel
theorem dX1_number_155 : decode cX1_number 155 = .ok (.aload_n 0, 1) := by decide +kernel
theorem dX1_number_156 : decode cX1_number 156 = .ok (.getfield 58, 3) := by decide +kernel
theorem dX1_number_159 : decode cX1_number 159 = .ok (.ireturn, 1) := by decide +kernel
theorem dX1_number_160 : decode cX1_number 160 = .ok (.aload_n 0, 1) := by decide +kernel
theorem dX1_number_161 : decode cX1_number 161 = .ok (.getfield 61, 3) := by decide +kernel
theorem dX1_number_164 : decode cX1_number 164 = .ok (.ireturn, 1) := by decide +kernel
theorem dX1_number_165 : decode cX1_number 165 = .ok (.aload_n 0, 1) := by decide +kernel
theorem dX1_number_166 : decode cX1_number 166 = .ok (.getfield 64, 3) := by decide +kernel
theorem dX1_number_169 : decode cX1_number 169 = .ok (.ireturn, 1) := by decide +kernel
theorem dX1_number_170 : decode cX1_number 170 = .ok (.aload_n 0, 1) := by decide +kernel
theorem dX1_number_171 : decode cX1_number 171 = .ok (.getfield 67, 3) := by decide +kernel
theorem dX1_number_174 : decode cX1_number 174 = .ok (.ireturn, 1) := by decide +kernel
theorem dX1_number_175 : decode cX1_number 175 = .ok (.ldc 98, 2) := by decide +kernel
theorem dX1_number_177 : decode cX1_number 177 = .ok (.ireturn, 1) := by decide +kernel
theorem dX2_init_0 : decode cX2_init 0 = .ok (.aload_n 0, 1) := by decide +kernel
theorem dX2_init_1 : decode cX2_init 1 = .ok (.invokespecial 3, 3) := by decide +kernel
theorem dX2_init_4 : decode cX2_init 4 = .ok (.aload_n 0, 1) := by decide +kernel
theorem dX2_init_5 : decode cX2_init 5 = .ok (.bipush 60, 2) := by decide +kernel
theorem dX2_init_7 : decode cX2_init 7 = .ok (.newarray .char, 2) := by decide +kernel
theorem dX2_init_9 : decode cX2_init 9 = .ok (.putfield 9, 3) := by decide +kernel
theorem dX2_init_12 : decode cX2_init 12 = .ok (.aload_n 0, 1) := by decide +kernel
theorem dX2_init_13 : decode cX2_init 13 = .ok (.iconst 0, 1) := by decide +kernel
theorem dX2_init_14 : decode cX2_init 14 = .ok (.putfield 15, 3) := by decide +kernel
theorem dX2_init_17 : decode cX2_init 17 = .ok (.aload_n 0, 1) := by decide +kernel
theorem dX2_init_18 : decode cX2_init 18 = .ok (.iconst 0, 1) := by decide +kernel
theorem dX2_init_19 : decode cX2_init 19 = .ok (.putfield 19, 3) := by decide +kernel
theorem dX2_init_22 : decode cX2_init 22 = .ok (.aload_n 0, 1) := by decide +kernel
theorem dX2_init_23 : decode cX2_init 23 = .ok (.iconst 0, 1) := by decide +kernel
theorem dX2_init_24 : decode cX2_init 24 = .ok (.putfield 22, 3) := by decide +kernel
theorem dX2_init_27 : decode cX2_init 27 = .ok (.aload_n 0, 1) := by decide +kernel
theorem dX2_init_28 : decode cX2_init 28 = .ok (.iconst 0, 1) := by decide +kernel
theorem dX2_init_29 : decode cX2_init 29 = .ok (.putfield 25, 3) := by decide +kernel
theorem dX2_init_32 : decode cX2_init 32 = .ok (.aload_n 0, 1) := by decide +kernel
theorem dX2_init_33 : decode cX2_init 33 = .ok (.iconst 0, 1) := by decide +kernel
theorem dX2_init_34 : decode cX2_init 34 = .ok (.putfield 28, 3) := by decide +kernel
theorem dX2_init_37 : decode cX2_init 37 = .ok (.aload_n 0, 1) := by decide +kernel
theorem dX2_init_38 : decode cX2_init 38 = .ok (.iconst 0, 1) := by decide +kernel
theorem dX2_init_39 : decode cX2_init 39 = .ok (.putfield 31, 3) := by decide +kernel
theorem dX2_init_42 : decode cX2_init 42 = .ok (.aload_n 0, 1) := by decide +kernel
theorem dX2_init_43 : decode cX2_init 43 = .ok (.iconst 4, 1) := by decide +kernel
theorem dX2_init_44 : decode cX2_init 44 = .ok (.newarray .int, 2) := by decide +kernel
theorem dX2_init_46 : decode cX2_init 46 = .ok (.putfield 34, 3) := by decide +kernel
theorem dX2_init_49 : decode cX2_init 49 = .ok (.return_, 1) := by decide +kernel
theorem dX3_init_0 : decode cX3_init 0 = .ok (.aload_n 0, 1) := by decide +kernel
theorem dX3_init_1 : decode cX3_init 1 = .ok (.invokespecial 3, 3) := by decide +kernel
theorem dX3_init_4 : decode cX3_init 4 = .ok (.aload_n 0, 1) := by decide +kernel
theorem dX3_init_5 : decode cX3_init 5 = .ok (.iconst 4, 1) := by decide +kernel
theorem dX3_init_6 : decode cX3_init 6 = .ok (.newarray .int, 2) := by decide +kernel
theorem dX3_init_8 : decode cX3_init 8 = .ok (.putfield 9, 3) := by decide +kernel
theorem dX3_init_11 : decode cX3_init 11 = .ok (.aload_n 0, 1) := by decide +kernel
theorem dX3_init_12 : decode cX3_init 12 = .ok (.iconst 0, 1) := by decide +kernel
theorem dX3_init_13 : decode cX3_init 13 = .ok (.putfield 15, 3) := by decide +kernel
theorem dX3_init_16 : decode cX3_init 16 = .ok (.return_, 1) := by decide +kernel
theorem dX3_copyFrom_0 : decode cX3_copyFrom 0 = .ok (.aload_n 1, 1) := by decide +kernel
theorem dX3_copyFrom_1 : decode cX3_copyFrom 1 = .ok (.getfield 9, 3) := by decide +kernel
theorem dX3_copyFrom_4 : decode cX3_copyFrom 4 = .ok (.iconst 0, 1) := by decide +kernel
theorem dX3_copyFrom_5 : decode cX3_copyFrom 5 = .ok (.aload_n 0, 1) := by decide +kernel
theorem dX3_copyFrom_6 : decode cX3_copyFrom 6 = .ok (.getfield 9, 3) := by decide +kernel
theorem dX3_copyFrom_9 : decode cX3_copyFrom 9 = .ok (.iconst 0, 1) := by decide +kernel
theorem dX3_copyFrom_10 : decode cX3_copyFrom 10 = .ok (.iconst 4, 1) := by decide +kernel
theorem dX3_copyFrom_11 : decode cX3_copyFrom 11 = .ok (.invokestatic 19, 3) := by decide +kernel
theorem dX3_copyFrom_14 : decode cX3_copyFrom 14 = .ok (.aload_n 0, 1) := by decide +kernel
theorem dX3_copyFrom_15 : decode cX3_copyFrom 15 = .ok (.aload_n 1, 1) := by decide +kernel
theorem dX3_copyFrom_16 : decode cX3_copyFrom 16 = .ok (.getfield 15, 3) := by decide +kernel
theorem dX3_copyFrom_19 : decode cX3_copyFrom 19 = .ok (.putfield 15, 3) := by decide +kernel
theorem dX3_copyFrom_22 : decode cX3_copyFrom 22 = .ok (.return_, 1) := by decide +kernel
theorem dX3_allUnits_0 : decode cX3_allUnits 0 = .ok (.iconst 0, 1) := by decide +kernel
theorem dX3_allUnits_1 : decode cX3_allUnits 1 = .ok (.istore_n 1, 1) := by decide +kernel
theorem dX3_allUnits_2 : decode cX3_allUnits 2 = .ok (.iconst 0, 1) := by decide +kernel
theorem dX3_allUnits_3 : decode cX3_allUnits 3 = .ok (.istore_n 2, 1) := by decide +kernel
theorem dX3_allUnits_4 : decode cX3_allUnits 4 = .ok (.iload_n 2, 1) := by decide +kernel
theorem dX3_allUnits_5 : decode cX3_allUnits 5 = .ok (.iconst 4, 1) := by decide +kernel
theorem dX3_allUnits_6 : decode cX3_allUnits 6 = .ok (.if_icmp .ge 18, 3) := by decide +kernel
theorem dX3_allUnits_9 : decode cX3_allUnits 9 = .ok (.iload_n 1, 1) := by decide +kernel
theorem dX3_allUnits_10 : decode cX3_allUnits 10 = .ok (.aload_n 0, 1) := by decide +kernel
theorem dX3_allUnits_11 : decode cX3_allUnits 11 = .ok (.getfield 9, 3) := by decide +kernel
theorem dX3_allUnits_14 : decode cX3_allUnits 14 = .ok (.iload_n 2, 1) := by decide +kernel
theorem dX3_allUnits_15 : decode cX3_allUnits 15 = .ok (.iaload, 1) := by decide +kernel
theorem dX3_allUnits_16 : decode cX3_allUnits 16 = .ok (.iadd, 1) := by decide +kernel
theorem dX3_allUnits_17 : decode cX3_allUnits 17 = .ok (.istore_n 1, 1) := by decide +kernel
theorem dX3_allUnits_18 : decode cX3_allUnits 18 = .ok (.iinc 2 1, 3) := by decide +kernel
theorem dX3_allUnits_21 : decode cX3_allUnits 21 = .ok (.goto (-17), 3) := by decide +kernel
theorem dX3_allUnits_24 : decode cX3_allUnits 24 = .ok (.iload_n 1, 1) := by decide +kernel
theorem dX3_allUnits_25 : decode cX3_allUnits 25 = .ok (.ireturn, 1) := by decide +kernel
theorem dX3_draught_0 : decode cX3_draught 0 = .ok (.bipush 40, 2) := by decide +kernel
theorem dX3_draught_2 : decode cX3_draught 2 = .ok (.aload_n 0, 1) := by decide +kernel
theorem dX3_draught_3 : decode cX3_draught 3 = .ok (.invokevirtual 25, 3) := by decide +kernel
theorem dX3_draught_6 : decode cX3_draught 6 = .ok (.bipush 20, 2) := by decide +kernel
theorem dX3_draught_8 : decode cX3_draught 8 = .ok (.idiv, 1) := by decide +kernel
theorem dX3_draught_9 : decode cX3_draught 9 = .ok (.iadd, 1) := by decide +kernel
theorem dX3_draught_10 : decode cX3_draught 10 = .ok (.ireturn, 1) := by decide +kernel
