theorem dX4_init_0 : decode cX4_init 0 = .ok (.aload_n 0, 1) := by decide +kernel
theorem dX4_init_1 : decode cX4_init 1 = .ok (.invokespecial 1, 3) := by decide +kernel
theorem dX4_init_4 : decode cX4_init 4 = .ok (.aload_n 0, 1) := by decide +kernel
theorem dX4_init_5 : decode cX4_init 5 = .ok (.new 7, 3) := by decide +kernel
theorem dX4_init_8 : decode cX4_init 8 = .ok (.dup, 1) := by decide +kernel
theorem dX4_init_9 : decode cX4_init 9 = .ok (.invokespecial 9, 3) := by decide +kernel
theorem dX4_init_12 : decode cX4_init 12 = .ok (.putfield 10, 3) := by decide +kernel
theorem dX4_init_15 : decode cX4_init 15 = .ok (.aload_n 0, 1) := by decide +kernel
theorem dX4_init_16 : decode cX4_init 16 = .ok (.new 7, 3) := by decide +kernel
theorem dX4_init_19 : decode cX4_init 19 = .ok (.dup, 1) := by decide +kernel
theorem dX4_init_20 : decode cX4_init 20 = .ok (.invokespecial 9, 3) := by decide +kernel
theorem dX4_init_23 : decode cX4_init 23 = .ok (.putfield 16, 3) := by decide +kernel
theorem dX4_init_26 : decode cX4_init 26 = .ok (.aload_n 0, 1) := by decide +kernel
theorem dX4_init_27 : decode cX4_init 27 = .ok (.new 19, 3) := by decide +kernel
theorem dX4_init_30 : decode cX4_init 30 = .ok (.dup, 1) := by decide +kernel
theorem dX4_init_31 : decode cX4_init 31 = .ok (.invokespecial 21, 3) := by decide +kernel
theorem dX4_init_34 : decode cX4_init 34 = .ok (.putfield 22, 3) := by decide +kernel
theorem dX4_init_37 : decode cX4_init 37 = .ok (.aload_n 0, 1) := by decide +kernel
theorem dX4_init_38 : decode cX4_init 38 = .ok (.bipush 6, 2) := by decide +kernel
theorem dX4_init_40 : decode cX4_init 40 = .ok (.anewarray 7, 3) := by decide +kernel
theorem dX4_init_43 : decode cX4_init 43 = .ok (.putfield 26, 3) := by decide +kernel
theorem dX4_init_46 : decode cX4_init 46 = .ok (.aload_n 0, 1) := by decide +kernel
theorem dX4_init_47 : decode cX4_init 47 = .ok (.iconst 0, 1) := by decide +kernel
theorem dX4_init_48 : decode cX4_init 48 = .ok (.putfield 30, 3) := by decide +kernel
theorem dX4_init_51 : decode cX4_init 51 = .ok (.aload_n 0, 1) := by decide +kernel
theorem dX4_init_52 : decode cX4_init 52 = .ok (.new 7, 3) := by decide +kernel
theorem dX4_init_55 : decode cX4_init 55 = .ok (.dup, 1) := by decide +kernel
theorem dX4_init_56 : decode cX4_init 56 = .ok (.invokespecial 9, 3) := by decide +kernel
theorem dX4_init_59 : decode cX4_init 59 = .ok (.putfield 34, 3) := by decide +kernel
theorem dX4_init_62 : decode cX4_init 62 = .ok (.aload_n 0, 1) := by decide +kernel
theorem dX4_init_63 : decode cX4_init 63 = .ok (.iconst 2, 1) := by decide +kernel
theorem dX4_init_64 : decode cX4_init 64 = .ok (.anewarray 7, 3) := by decide +kernel
theorem dX4_init_67 : decode cX4_init 67 = .ok (.putfield 37, 3) := by decide +kernel
theorem dX4_init_70 : decode cX4_init 70 = .ok (.aload_n 0, 1) := by decide +kernel
theorem dX4_init_71 : decode cX4_init 71 = .ok (.iconst 2, 1) := by decide +kernel
theorem dX4_init_72 : decode cX4_init 72 = .ok (.newarray .boolean, 2) := by decide +kernel
theorem dX4_init_74 : decode cX4_init 74 = .ok (.putfield 40, 3) := by decide +kernel
theorem dX4_init_77 : decode cX4_init 77 = .ok (.iconst 0, 1) := by decide +kernel
theorem dX4_init_78 : decode cX4_init 78 = .ok (.istore_n 1, 1) := by decide +kernel
theorem dX4_init_79 : decode cX4_init 79 = .ok (.iload_n 1, 1) := by decide +kernel
theorem dX4_init_80 : decode cX4_init 80 = .ok (.bipush 6, 2) := by decide +kernel
theorem dX4_init_82 : decode cX4_init 82 = .ok (.if_icmp .ge 22, 3) := by decide +kernel
theorem dX4_init_85 : decode cX4_init 85 = .ok (.aload_n 0, 1) := by decide +kernel
theorem dX4_init_86 : decode cX4_init 86 = .ok (.getfield 26, 3) := by decide +kernel
theorem dX4_init_89 : decode cX4_init 89 = .ok (.iload_n 1, 1) := by decide +kernel
theorem dX4_init_90 : decode cX4_init 90 = .ok (.new 7, 3) := by decide +kernel
theorem dX4_init_93 : decode cX4_init 93 = .ok (.dup, 1) := by decide +kernel
theorem dX4_init_94 : decode cX4_init 94 = .ok (.invokespecial 9, 3) := by decide +kernel
theorem dX4_init_97 : decode cX4_init 97 = .ok (.aastore, 1) := by decide +kernel
theorem dX4_init_98 : decode cX4_init 98 = .ok (.iinc 1 1, 3) := by decide +kernel
theorem dX4_init_101 : decode cX4_init 101 = .ok (.goto (-22), 3) := by decide +kernel
theorem dX4_init_104 : decode cX4_init 104 = .ok (.iconst 0, 1) := by decide +kernel
theorem dX4_init_105 : decode cX4_init 105 = .ok (.istore_n 1, 1) := by decide +kernel
theorem dX4_init_106 : decode cX4_init 106 = .ok (.iload_n 1, 1) := by decide +kernel
theorem dX4_init_107 : decode cX4_init 107 = .ok (.iconst 2, 1) := by decide +kernel
theorem dX4_init_108 : decode cX4_init 108 = .ok (.if_icmp .ge 22, 3) := by decide +kernel
theorem dX4_init_111 : decode cX4_init 111 = .ok (.aload_n 0, 1) := by decide +kernel
theorem dX4_init_112 : decode cX4_init 112 = .ok (.getfield 37, 3) := by decide +kernel
theorem dX4_init_115 : decode cX4_init 115 = .ok (.iload_n 1, 1) := by decide +kernel
theorem dX4_init_116 : decode cX4_init 116 = .ok (.new 7, 3) := by decide +kernel
theorem dX4_init_119 : decode cX4_init 119 = .ok (.dup, 1) := by decide +kernel
theorem dX4_init_120 : decode cX4_init 120 = .ok (.invokespecial 9, 3) := by decide +kernel
theorem dX4_init_123 : decode cX4_init 123 = .ok (.aastore, 1) := by decide +kernel
theorem dX4_init_124 : decode cX4_init 124 = .ok (.iinc 1 1, 3) := by decide +kernel
theorem dX4_init_127 : decode cX4_init 127 = .ok (.goto (-21), 3) := by decide +kernel
theorem dX4_init_130 : decode cX4_init 130 = .ok (.return_, 1) := by decide +kernel
theorem dX4_set_0 : decode cX4_set 0 = .ok (.aload_n 0, 1) := by decide +kernel
theorem dX4_set_1 : decode cX4_set 1 = .ok (.invokevirtual 44, 3) := by decide +kernel
theorem dX4_set_4 : decode cX4_set 4 = .ok (.aload_n 0, 1) := by decide +kernel
theorem dX4_set_5 : decode cX4_set 5 = .ok (.aload_n 0, 1) := by decide +kernel
theorem dX4_set_6 : decode cX4_set 6 = .ok (.getfield 10, 3) := by decide +kernel
theorem dX4_set_9 : decode cX4_set 9 = .ok (.iload_n 1, 1) := by decide +kernel
theorem dX4_set_10 : decode cX4_set 10 = .ok (.iload_n 2, 1) := by decide +kernel
theorem dX4_set_11 : decode cX4_set 11 = .ok (.invokevirtual 47, 3) := by decide +kernel
theorem dX4_set_14 : decode cX4_set 14 = .ok (.invokevirtual 51, 3) := by decide +kernel
theorem dX4_set_17 : decode cX4_set 17 = .ok (.ireturn, 1) := by decide +kernel
theorem dX4_arrive_0 : decode cX4_arrive 0 = .ok (.aload_n 0, 1) := by decide +kernel
theorem dX4_arrive_1 : decode cX4_arrive 1 = .ok (.invokevirtual 44, 3) := by decide +kernel
theorem dX4_arrive_4 : decode cX4_arrive 4 = .ok (.aload_n 0, 1) := by decide +kernel
theorem dX4_arrive_5 : decode cX4_arrive 5 = .ok (.aload_n 0, 1) := by decide +kernel
theorem dX4_arrive_6 : decode cX4_arrive 6 = .ok (.getfield 10, 3) := by decide +kernel
theorem dX4_arrive_9 : decode cX4_arrive 9 = .ok (.iload_n 1, 1) := by decide +kernel
theorem dX4_arrive_10 : decode cX4_arrive 10 = .ok (.iload_n 2, 1) := by decide +kernel
theorem dX4_arrive_11 : decode cX4_arrive 11 = .ok (.iload_n 3, 1) := by decide +kernel
theorem dX4_arrive_12 : decode cX4_arrive 12 = .ok (.iload 4, 2) := by decide +kernel
theorem dX4_arrive_14 : decode cX4_arrive 14 = .ok (.invokevirtual 55, 3) := by decide +kernel
theorem dX4_arrive_17 : decode cX4_arrive 17 = .ok (.invokevirtual 51, 3) := by decide +kernel
theorem dX4_arrive_20 : decode cX4_arrive 20 = .ok (.ireturn, 1) := by decide +kernel
theorem dX4_berth_0 : decode cX4_berth 0 = .ok (.aload_n 0, 1) := by decide +kernel
theorem dX4_berth_1 : decode cX4_berth 1 = .ok (.invokevirtual 44, 3) := by decide +kernel
theorem dX4_berth_4 : decode cX4_berth 4 = .ok (.aload_n 0, 1) := by decide +kernel
theorem dX4_berth_5 : decode cX4_berth 5 = .ok (.aload_n 0, 1) := by decide +kernel
theorem dX4_berth_6 : decode cX4_berth 6 = .ok (.getfield 10, 3) := by decide +kernel
theorem dX4_berth_9 : decode cX4_berth 9 = .ok (.invokevirtual 59, 3) := by decide +kernel
theorem dX4_berth_12 : decode cX4_berth 12 = .ok (.invokevirtual 51, 3) := by decide +kernel
theorem dX4_berth_15 : decode cX4_berth 15 = .ok (.ireturn, 1) := by decide +kernel
theorem dX4_leave_0 : decode cX4_leave 0 = .ok (.aload_n 0, 1) := by decide +kernel
theorem dX4_leave_1 : decode cX4_leave 1 = .ok (.invokevirtual 44, 3) := by decide +kernel
theorem dX4_leave_4 : decode cX4_leave 4 = .ok (.aload_n 0, 1) := by decide +kernel
theorem dX4_leave_5 : decode cX4_leave 5 = .ok (.aload_n 0, 1) := by decide +kernel
theorem dX4_leave_6 : decode cX4_leave 6 = .ok (.getfield 10, 3) := by decide +kernel
theorem dX4_leave_9 : decode cX4_leave 9 = .ok (.invokevirtual 63, 3) := by decide +kernel
theorem dX4_leave_12 : decode cX4_leave 12 = .ok (.invokevirtual 51, 3) := by decide +kernel
theorem dX4_leave_15 : decode cX4_leave 15 = .ok (.ireturn, 1) := by decide +kernel
theorem dX4_reach_0 : decode cX4_reach 0 = .ok (.aload_n 0, 1) := by decide +kernel
theorem dX4_reach_1 : decode cX4_reach 1 = .ok (.invokevirtual 44, 3) := by decide +kernel
theorem dX4_reach_4 : decode cX4_reach 4 = .ok (.aload_n 0, 1) := by decide +kernel
theorem dX4_reach_5 : decode cX4_reach 5 = .ok (.aload_n 0, 1) := by decide +kernel
theorem dX4_reach_6 : decode cX4_reach 6 = .ok (.getfield 10, 3) := by decide +kernel
theorem dX4_reach_9 : decode cX4_reach 9 = .ok (.iload_n 1, 1) := by decide +kernel
theorem dX4_reach_10 : decode cX4_reach 10 = .ok (.iload_n 2, 1) := by decide +kernel
theorem dX4_reach_11 : decode cX4_reach 11 = .ok (.invokevirtual 66, 3) := by decide +kernel
theorem dX4_reach_14 : decode cX4_reach 14 = .ok (.invokevirtual 51, 3) := by decide +kernel
theorem dX4_reach_17 : decode cX4_reach 17 = .ok (.ireturn, 1) := by decide +kernel
theorem dX4_connect_0 : decode cX4_connect 0 = .ok (.aload_n 0, 1) := by decide +kernel
theorem dX4_connect_1 : decode cX4_connect 1 = .ok (.invokevirtual 44, 3) := by decide +kernel
theorem dX4_connect_4 : decode cX4_connect 4 = .ok (.aload_n 0, 1) := by decide +kernel
theorem dX4_connect_5 : decode cX4_connect 5 = .ok (.aload_n 0, 1) := by decide +kernel
theorem dX4_connect_6 : decode cX4_connect 6 = .ok (.getfield 10, 3) := by decide +kernel
theorem dX4_connect_9 : decode cX4_connect 9 = .ok (.iload_n 1, 1) := by decide +kernel
theorem dX4_connect_10 : decode cX4_connect 10 = .ok (.iload_n 2, 1) := by decide +kernel
theorem dX4_connect_11 : decode cX4_connect 11 = .ok (.invokevirtual 69, 3) := by decide +kernel
theorem dX4_connect_14 : decode cX4_connect 14 = .ok (.invokevirtual 51, 3) := by decide +kernel
theorem dX4_connect_17 : decode cX4_connect 17 = .ok (.ireturn, 1) := by decide +kernel
theorem dX4_disconnect_0 : decode cX4_disconnect 0 = .ok (.aload_n 0, 1) := by decide +kernel
theorem dX4_disconnect_1 : decode cX4_disconnect 1 = .ok (.invokevirtual 44, 3) := by decide +kernel
theorem dX4_disconnect_4 : decode cX4_disconnect 4 = .ok (.aload_n 0, 1) := by decide +kernel
theorem dX4_disconnect_5 : decode cX4_disconnect 5 = .ok (.aload_n 0, 1) := by decide +kernel
theorem dX4_disconnect_6 : decode cX4_disconnect 6 = .ok (.getfield 10, 3) := by decide +kernel
theorem dX4_disconnect_9 : decode cX4_disconnect 9 = .ok (.iload_n 1, 1) := by decide +kernel
theorem dX4_disconnect_10 : decode cX4_disconnect 10 = .ok (.invokevirtual 72, 3) := by decide +kernel
theorem dX4_disconnect_13 : decode cX4_disconnect 13 = .ok (.invokevirtual 51, 3) := by decide +kernel
theorem dX4_disconnect_16 : decode cX4_disconnect 16 = .ok (.ireturn, 1) := by decide +kernel
theorem dX4_flush_0 : decode cX4_flush 0 = .ok (.aload_n 0, 1) := by decide +kernel
theorem dX4_flush_1 : decode cX4_flush 1 = .ok (.invokevirtual 44, 3) := by decide +kernel
theorem dX4_flush_4 : decode cX4_flush 4 = .ok (.aload_n 0, 1) := by decide +kernel
theorem dX4_flush_5 : decode cX4_flush 5 = .ok (.aload_n 0, 1) := by decide +kernel
theorem dX4_flush_6 : decode cX4_flush 6 = .ok (.getfield 10, 3) := by decide +kernel
theorem dX4_flush_9 : decode cX4_flush 9 = .ok (.iload_n 1, 1) := by decide +kernel
theorem dX4_flush_10 : decode cX4_flush 10 = .ok (.invokevirtual 75, 3) := by decide +kernel
theorem dX4_flush_13 : decode cX4_flush 13 = .ok (.invokevirtual 51, 3) := by decide +kernel
theorem dX4_flush_16 : decode cX4_flush 16 = .ok (.ireturn, 1) := by decide +kernel
theorem dX4_mend_0 : decode cX4_mend 0 = .ok (.aload_n 0, 1) := by decide +kernel
theorem dX4_mend_1 : decode cX4_mend 1 = .ok (.invokevirtual 44, 3) := by decide +kernel
theorem dX4_mend_4 : decode cX4_mend 4 = .ok (.aload_n 0, 1) := by decide +kernel
theorem dX4_mend_5 : decode cX4_mend 5 = .ok (.aload_n 0, 1) := by decide +kernel
theorem dX4_mend_6 : decode cX4_mend 6 = .ok (.getfield 10, 3) := by decide +kernel
theorem dX4_mend_9 : decode cX4_mend 9 = .ok (.iload_n 1, 1) := by decide +kernel
theorem dX4_mend_10 : decode cX4_mend 10 = .ok (.invokevirtual 78, 3) := by decide +kernel
theorem dX4_mend_13 : decode cX4_mend 13 = .ok (.invokevirtual 51, 3) := by decide +kernel
theorem dX4_mend_16 : decode cX4_mend 16 = .ok (.ireturn, 1) := by decide +kernel
theorem dX4_boom_0 : decode cX4_boom 0 = .ok (.aload_n 0, 1) := by decide +kernel
theorem dX4_boom_1 : decode cX4_boom 1 = .ok (.invokevirtual 44, 3) := by decide +kernel
theorem dX4_boom_4 : decode cX4_boom 4 = .ok (.aload_n 0, 1) := by decide +kernel
theorem dX4_boom_5 : decode cX4_boom 5 = .ok (.aload_n 0, 1) := by decide +kernel
theorem dX4_boom_6 : decode cX4_boom 6 = .ok (.getfield 10, 3) := by decide +kernel
theorem dX4_boom_9 : decode cX4_boom 9 = .ok (.iload_n 1, 1) := by decide +kernel
theorem dX4_boom_10 : decode cX4_boom 10 = .ok (.invokevirtual 81, 3) := by decide +kernel
theorem dX4_boom_13 : decode cX4_boom 13 = .ok (.invokevirtual 51, 3) := by decide +kernel
theorem dX4_boom_16 : decode cX4_boom 16 = .ok (.ireturn, 1) := by decide +kernel
theorem dX4_draw_0 : decode cX4_draw 0 = .ok (.aload_n 0, 1) := by decide +kernel
theorem dX4_draw_1 : decode cX4_draw 1 = .ok (.invokevirtual 44, 3) := by decide +kernel
theorem dX4_draw_4 : decode cX4_draw 4 = .ok (.aload_n 0, 1) := by decide +kernel
theorem dX4_draw_5 : decode cX4_draw 5 = .ok (.aload_n 0, 1) := by decide +kernel
theorem dX4_draw_6 : decode cX4_draw 6 = .ok (.getfield 10, 3) := by decide +kernel
theorem dX4_draw_9 : decode cX4_draw 9 = .ok (.iload_n 1, 1) := by decide +kernel
theorem dX4_draw_10 : decode cX4_draw 10 = .ok (.iload_n 2, 1) := by decide +kernel
theorem dX4_draw_11 : decode cX4_draw 11 = .ok (.invokevirtual 85, 3) := by decide +kernel
theorem dX4_draw_14 : decode cX4_draw 14 = .ok (.invokevirtual 51, 3) := by decide +kernel
theorem dX4_draw_17 : decode cX4_draw 17 = .ok (.ireturn, 1) := by decide +kernel
theorem dX4_pass_0 : decode cX4_pass 0 = .ok (.aload_n 0, 1) := by decide +kernel
theorem dX4_pass_1 : decode cX4_pass 1 = .ok (.invokevirtual 44, 3) := by decide +kernel
theorem dX4_pass_4 : decode cX4_pass 4 = .ok (.aload_n 0, 1) := by decide +kernel
theorem dX4_pass_5 : decode cX4_pass 5 = .ok (.aload_n 0, 1) := by decide +kernel
theorem dX4_pass_6 : decode cX4_pass 6 = .ok (.getfield 10, 3) := by decide +kernel
theorem dX4_pass_9 : decode cX4_pass 9 = .ok (.iload_n 1, 1) := by decide +kernel
theorem dX4_pass_10 : decode cX4_pass 10 = .ok (.invokevirtual 88, 3) := by decide +kernel
theorem dX4_pass_13 : decode cX4_pass 13 = .ok (.invokevirtual 51, 3) := by decide +kernel
theorem dX4_pass_16 : decode cX4_pass 16 = .ok (.ireturn, 1) := by decide +kernel
theorem dX4_tanker_0 : decode cX4_tanker 0 = .ok (.aload_n 0, 1) := by decide +kernel
theorem dX4_tanker_1 : decode cX4_tanker 1 = .ok (.getfield 10, 3) := by decide +kernel
theorem dX4_tanker_4 : decode cX4_tanker 4 = .ok (.iload_n 1, 1) := by decide +kernel
theorem dX4_tanker_5 : decode cX4_tanker 5 = .ok (.iload_n 2, 1) := by decide +kernel
theorem dX4_tanker_6 : decode cX4_tanker 6 = .ok (.invokevirtual 113, 3) := by decide +kernel
theorem dX4_tanker_9 : decode cX4_tanker 9 = .ok (.ireturn, 1) := by decide +kernel
theorem dX4_hose_0 : decode cX4_hose 0 = .ok (.aload_n 0, 1) := by decide +kernel
theorem dX4_hose_1 : decode cX4_hose 1 = .ok (.getfield 10, 3) := by decide +kernel
theorem dX4_hose_4 : decode cX4_hose 4 = .ok (.iload_n 1, 1) := by decide +kernel
theorem dX4_hose_5 : decode cX4_hose 5 = .ok (.iload_n 2, 1) := by decide +kernel
theorem dX4_hose_6 : decode cX4_hose 6 = .ok (.invokevirtual 116, 3) := by decide +kernel
theorem dX4_hose_9 : decode cX4_hose 9 = .ok (.ireturn, 1) := by decide +kernel
theorem dX4_grade_0 : decode cX4_grade 0 = .ok (.aload_n 0, 1) := by decide +kernel
theorem dX4_grade_1 : decode cX4_grade 1 = .ok (.getfield 10, 3) := by decide +kernel
theorem dX4_grade_4 : decode cX4_grade 4 = .ok (.iload_n 1, 1) := by decide +kernel
theorem dX4_grade_5 : decode cX4_grade 5 = .ok (.iload_n 2, 1) := by decide +kernel
theorem dX4_grade_6 : decode cX4_grade 6 = .ok (.invokevirtual 119, 3) := by decide +kernel
theorem dX4_grade_9 : decode cX4_grade 9 = .ok (.ireturn, 1) := by decide +kernel
theorem dX4_count_0 : decode cX4_count 0 = .ok (.iload_n 1, 1) := by decide +kernel
theorem dX4_count_1 : decode cX4_count 1 = .ok (.bipush 18, 2) := by decide +kernel
theorem dX4_count_3 : decode cX4_count 3 = .ok (.if_icmp .ne 11, 3) := by decide +kernel
theorem dX4_count_6 : decode cX4_count 6 = .ok (.aload_n 0, 1) := by decide +kernel
theorem dX4_count_7 : decode cX4_count 7 = .ok (.getfield 22, 3) := by decide +kernel
theorem dX4_count_10 : decode cX4_count 10 = .ok (.getfield 99, 3) := by decide +kernel
theorem dX4_count_13 : decode cX4_count 13 = .ok (.ireturn, 1) := by decide +kernel
theorem dX4_count_14 : decode cX4_count 14 = .ok (.iload_n 1, 1) := by decide +kernel
theorem dX4_count_15 : decode cX4_count 15 = .ok (.bipush 19, 2) := by decide +kernel
theorem dX4_count_17 : decode cX4_count 17 = .ok (.if_icmp .ne 8, 3) := by decide +kernel
theorem dX4_count_20 : decode cX4_count 20 = .ok (.aload_n 0, 1) := by decide +kernel
theorem dX4_count_21 : decode cX4_count 21 = .ok (.getfield 30, 3) := by decide +kernel
theorem dX4_count_24 : decode cX4_count 24 = .ok (.ireturn, 1) := by decide +kernel
theorem dX4_count_25 : decode cX4_count 25 = .ok (.aload_n 0, 1) := by decide +kernel
theorem dX4_count_26 : decode cX4_count 26 = .ok (.getfield 10, 3) := by decide +kernel
theorem dX4_count_29 : decode cX4_count 29 = .ok (.iload_n 1, 1) := by decide +kernel
theorem dX4_count_30 : decode cX4_count 30 = .ok (.invokevirtual 122, 3) := by decide +kernel
theorem dX4_count_33 : decode cX4_count 33 = .ok (.ireturn, 1) := by decide +kernel
theorem dX4_tide_0 : decode cX4_tide 0 = .ok (.iload_n 1, 1) := by decide +kernel
theorem dX4_tide_1 : decode cX4_tide 1 = .ok (.ifCond .ge 8, 3) := by decide +kernel
theorem dX4_tide_4 : decode cX4_tide 4 = .ok (.ldc 125, 2) := by decide +kernel
theorem dX4_tide_6 : decode cX4_tide 6 = .ok (.goto 11, 3) := by decide +kernel
theorem dX4_tide_9 : decode cX4_tide 9 = .ok (.aload_n 0, 1) := by decide +kernel
theorem dX4_tide_10 : decode cX4_tide 10 = .ok (.getfield 10, 3) := by decide +kernel
theorem dX4_tide_13 : decode cX4_tide 13 = .ok (.iload_n 1, 1) := by decide +kernel
theorem dX4_tide_14 : decode cX4_tide 14 = .ok (.invokevirtual 126, 3) := by decide +kernel
theorem dX4_tide_17 : decode cX4_tide 17 = .ok (.ireturn, 1) := by decide +kernel
theorem dX4_untilFloats_0 : decode cX4_untilFloats 0 = .ok (.aload_n 0, 1) := by decide +kernel
theorem dX4_untilFloats_1 : decode cX4_untilFloats 1 = .ok (.getfield 10, 3) := by decide +kernel
theorem dX4_untilFloats_4 : decode cX4_untilFloats 4 = .ok (.getfield 129, 3) := by decide +kernel
theorem dX4_untilFloats_7 : decode cX4_untilFloats 7 = .ok (.ifCond .ne 6, 3) := by decide +kernel
theorem dX4_untilFloats_10 : decode cX4_untilFloats 10 = .ok (.ldc 132, 2) := by decide +kernel
theorem dX4_untilFloats_12 : decode cX4_untilFloats 12 = .ok (.ireturn, 1) := by decide +kernel
theorem dX4_untilFloats_13 : decode cX4_untilFloats 13 = .ok (.aload_n 0, 1) := by decide +kernel
theorem dX4_untilFloats_14 : decode cX4_untilFloats 14 = .ok (.getfield 10, 3) := by decide +kernel
theorem dX4_untilFloats_17 : decode cX4_untilFloats 17 = .ok (.getfield 133, 3) := by decide +kernel
theorem dX4_untilFloats_20 : decode cX4_untilFloats 20 = .ok (.iconst 1, 1) := by decide +kernel
theorem dX4_untilFloats_21 : decode cX4_untilFloats 21 = .ok (.aaload, 1) := by decide +kernel
theorem dX4_untilFloats_22 : decode cX4_untilFloats 22 = .ok (.invokevirtual 137, 3) := by decide +kernel
theorem dX4_untilFloats_25 : decode cX4_untilFloats 25 = .ok (.istore_n 1, 1) := by decide +kernel
theorem dX4_untilFloats_26 : decode cX4_untilFloats 26 = .ok (.iconst 0, 1) := by decide +kernel
theorem dX4_untilFloats_27 : decode cX4_untilFloats 27 = .ok (.istore_n 2, 1) := by decide +kernel
theorem dX4_untilFloats_28 : decode cX4_untilFloats 28 = .ok (.iload_n 2, 1) := by decide +kernel
theorem dX4_untilFloats_29 : decode cX4_untilFloats 29 = .ok (.bipush 12, 2) := by decide +kernel
theorem dX4_untilFloats_31 : decode cX4_untilFloats 31 = .ok (.if_icmp .gt 31, 3) := by decide +kernel
theorem dX4_untilFloats_34 : decode cX4_untilFloats 34 = .ok (.aload_n 0, 1) := by decide +kernel
theorem dX4_untilFloats_35 : decode cX4_untilFloats 35 = .ok (.getfield 10, 3) := by decide +kernel
theorem dX4_untilFloats_38 : decode cX4_untilFloats 38 = .ok (.iload_n 1, 1) := by decide +kernel
theorem dX4_untilFloats_39 : decode cX4_untilFloats 39 = .ok (.aload_n 0, 1) := by decide +kernel
theorem dX4_untilFloats_40 : decode cX4_untilFloats 40 = .ok (.getfield 10, 3) := by decide +kernel
theorem dX4_untilFloats_43 : decode cX4_untilFloats 43 = .ok (.getfield 142, 3) := by decide +kernel
theorem dX4_untilFloats_46 : decode cX4_untilFloats 46 = .ok (.iload_n 2, 1) := by decide +kernel
theorem dX4_untilFloats_47 : decode cX4_untilFloats 47 = .ok (.iadd, 1) := by decide +kernel
theorem dX4_untilFloats_48 : decode cX4_untilFloats 48 = .ok (.invokevirtual 145, 3) := by decide +kernel
theorem dX4_untilFloats_51 : decode cX4_untilFloats 51 = .ok (.ifCond .eq 5, 3) := by decide +kernel
theorem dX4_untilFloats_54 : decode cX4_untilFloats 54 = .ok (.iload_n 2, 1) := by decide +kernel
theorem dX4_untilFloats_55 : decode cX4_untilFloats 55 = .ok (.ireturn, 1) := by decide +kernel
theorem dX4_untilFloats_56 : decode cX4_untilFloats 56 = .ok (.iinc 2 1, 3) := by decide +kernel
theorem dX4_untilFloats_59 : decode cX4_untilFloats 59 = .ok (.goto (-31), 3) := by decide +kernel
theorem dX4_untilFloats_62 : decode cX4_untilFloats 62 = .ok (.ldc 94, 2) := by decide +kernel
theorem dX4_untilFloats_64 : decode cX4_untilFloats 64 = .ok (.ireturn, 1) := by decide +kernel
theorem dX4_safeFor_0 : decode cX4_safeFor 0 = .ok (.iload_n 1, 1) := by decide +kernel
theorem dX4_safeFor_1 : decode cX4_safeFor 1 = .ok (.invokestatic 149, 3) := by decide +kernel
theorem dX4_safeFor_4 : decode cX4_safeFor 4 = .ok (.ifCond .ne 6, 3) := by decide +kernel
theorem dX4_safeFor_7 : decode cX4_safeFor 7 = .ok (.ldc 152, 2) := by decide +kernel
theorem dX4_safeFor_9 : decode cX4_safeFor 9 = .ok (.ireturn, 1) := by decide +kernel
theorem dX4_safeFor_10 : decode cX4_safeFor 10 = .ok (.aload_n 0, 1) := by decide +kernel
theorem dX4_safeFor_11 : decode cX4_safeFor 11 = .ok (.getfield 10, 3) := by decide +kernel
theorem dX4_safeFor_14 : decode cX4_safeFor 14 = .ok (.getfield 153, 3) := by decide +kernel
theorem dX4_safeFor_17 : decode cX4_safeFor 17 = .ok (.iload_n 1, 1) := by decide +kernel
theorem dX4_safeFor_18 : decode cX4_safeFor 18 = .ok (.aaload, 1) := by decide +kernel
theorem dX4_safeFor_19 : decode cX4_safeFor 19 = .ok (.invokevirtual 157, 3) := by decide +kernel
theorem dX4_safeFor_22 : decode cX4_safeFor 22 = .ok (.ifCond .ne 6, 3) := by decide +kernel
theorem dX4_safeFor_25 : decode cX4_safeFor 25 = .ok (.ldc 132, 2) := by decide +kernel
theorem dX4_safeFor_27 : decode cX4_safeFor 27 = .ok (.ireturn, 1) := by decide +kernel
theorem dX4_safeFor_28 : decode cX4_safeFor 28 = .ok (.aload_n 0, 1) := by decide +kernel
theorem dX4_safeFor_29 : decode cX4_safeFor 29 = .ok (.getfield 16, 3) := by decide +kernel
theorem dX4_safeFor_32 : decode cX4_safeFor 32 = .ok (.aload_n 0, 1) := by decide +kernel
theorem dX4_safeFor_33 : decode cX4_safeFor 33 = .ok (.getfield 10, 3) := by decide +kernel
theorem dX4_safeFor_36 : decode cX4_safeFor 36 = .ok (.invokevirtual 162, 3) := by decide +kernel
theorem dX4_safeFor_39 : decode cX4_safeFor 39 = .ok (.iconst 0, 1) := by decide +kernel
theorem dX4_safeFor_40 : decode cX4_safeFor 40 = .ok (.istore_n 2, 1) := by decide +kernel
theorem dX4_safeFor_41 : decode cX4_safeFor 41 = .ok (.iload_n 2, 1) := by decide +kernel
theorem dX4_safeFor_42 : decode cX4_safeFor 42 = .ok (.sipush 200, 3) := by decide +kernel
theorem dX4_safeFor_45 : decode cX4_safeFor 45 = .ok (.if_icmp .ge 34, 3) := by decide +kernel
theorem dX4_safeFor_48 : decode cX4_safeFor 48 = .ok (.aload_n 0, 1) := by decide +kernel
theorem dX4_safeFor_49 : decode cX4_safeFor 49 = .ok (.getfield 16, 3) := by decide +kernel
theorem dX4_safeFor_52 : decode cX4_safeFor 52 = .ok (.invokevirtual 166, 3) := by decide +kernel
theorem dX4_safeFor_55 : decode cX4_safeFor 55 = .ok (.pop, 1) := by decide +kernel
theorem dX4_safeFor_56 : decode cX4_safeFor 56 = .ok (.aload_n 0, 1) := by decide +kernel
theorem dX4_safeFor_57 : decode cX4_safeFor 57 = .ok (.getfield 16, 3) := by decide +kernel
theorem dX4_safeFor_60 : decode cX4_safeFor 60 = .ok (.getfield 153, 3) := by decide +kernel
theorem dX4_safeFor_63 : decode cX4_safeFor 63 = .ok (.iload_n 1, 1) := by decide +kernel
theorem dX4_safeFor_64 : decode cX4_safeFor 64 = .ok (.aaload, 1) := by decide +kernel
theorem dX4_safeFor_65 : decode cX4_safeFor 65 = .ok (.getfield 169, 3) := by decide +kernel
theorem dX4_safeFor_68 : decode cX4_safeFor 68 = .ok (.ifCond .eq 5, 3) := by decide +kernel
theorem dX4_safeFor_71 : decode cX4_safeFor 71 = .ok (.iload_n 2, 1) := by decide +kernel
theorem dX4_safeFor_72 : decode cX4_safeFor 72 = .ok (.ireturn, 1) := by decide +kernel
theorem dX4_safeFor_73 : decode cX4_safeFor 73 = .ok (.iinc 2 1, 3) := by decide +kernel
theorem dX4_safeFor_76 : decode cX4_safeFor 76 = .ok (.goto (-35), 3) := by decide +kernel
theorem dX4_safeFor_79 : decode cX4_safeFor 79 = .ok (.ldc 94, 2) := by decide +kernel
theorem dX4_safeFor_81 : decode cX4_safeFor 81 = .ok (.ireturn, 1) := by decide +kernel
theorem dX4_untilEmpty_0 : decode cX4_untilEmpty 0 = .ok (.aload_n 0, 1) := by decide +kernel
theorem dX4_untilEmpty_1 : decode cX4_untilEmpty 1 = .ok (.getfield 10, 3) := by decide +kernel
theorem dX4_untilEmpty_4 : decode cX4_untilEmpty 4 = .ok (.getfield 173, 3) := by decide +kernel
theorem dX4_untilEmpty_7 : decode cX4_untilEmpty 7 = .ok (.ifCond .ne 6, 3) := by decide +kernel
theorem dX4_untilEmpty_10 : decode cX4_untilEmpty 10 = .ok (.ldc 132, 2) := by decide +kernel
theorem dX4_untilEmpty_12 : decode cX4_untilEmpty 12 = .ok (.ireturn, 1) := by decide +kernel
theorem dX4_untilEmpty_13 : decode cX4_untilEmpty 13 = .ok (.aload_n 0, 1) := by decide +kernel
theorem dX4_untilEmpty_14 : decode cX4_untilEmpty 14 = .ok (.getfield 16, 3) := by decide +kernel
theorem dX4_untilEmpty_17 : decode cX4_untilEmpty 17 = .ok (.aload_n 0, 1) := by decide +kernel
theorem dX4_untilEmpty_18 : decode cX4_untilEmpty 18 = .ok (.getfield 10, 3) := by decide +kernel
theorem dX4_untilEmpty_21 : decode cX4_untilEmpty 21 = .ok (.invokevirtual 162, 3) := by decide +kernel
theorem dX4_untilEmpty_24 : decode cX4_untilEmpty 24 = .ok (.iconst 0, 1) := by decide +kernel
theorem dX4_untilEmpty_25 : decode cX4_untilEmpty 25 = .ok (.istore_n 1, 1) := by decide +kernel
theorem dX4_untilEmpty_26 : decode cX4_untilEmpty 26 = .ok (.iload_n 1, 1) := by decide +kernel
theorem dX4_untilEmpty_27 : decode cX4_untilEmpty 27 = .ok (.sipush 200, 3) := by decide +kernel
theorem dX4_untilEmpty_30 : decode cX4_untilEmpty 30 = .ok (.if_icmp .ge 34, 3) := by decide +kernel
theorem dX4_untilEmpty_33 : decode cX4_untilEmpty 33 = .ok (.aload_n 0, 1) := by decide +kernel
theorem dX4_untilEmpty_34 : decode cX4_untilEmpty 34 = .ok (.getfield 16, 3) := by decide +kernel
theorem dX4_untilEmpty_37 : decode cX4_untilEmpty 37 = .ok (.getfield 133, 3) := by decide +kernel
theorem dX4_untilEmpty_40 : decode cX4_untilEmpty 40 = .ok (.iconst 0, 1) := by decide +kernel
theorem dX4_untilEmpty_41 : decode cX4_untilEmpty 41 = .ok (.aaload, 1) := by decide +kernel
theorem dX4_untilEmpty_42 : decode cX4_untilEmpty 42 = .ok (.invokevirtual 176, 3) := by decide +kernel
theorem dX4_untilEmpty_45 : decode cX4_untilEmpty 45 = .ok (.ifCond .ne 5, 3) := by decide +kernel
theorem dX4_untilEmpty_48 : decode cX4_untilEmpty 48 = .ok (.iload_n 1, 1) := by decide +kernel
theorem dX4_untilEmpty_49 : decode cX4_untilEmpty 49 = .ok (.ireturn, 1) := by decide +kernel
theorem dX4_untilEmpty_50 : decode cX4_untilEmpty 50 = .ok (.aload_n 0, 1) := by decide +kernel
theorem dX4_untilEmpty_51 : decode cX4_untilEmpty 51 = .ok (.getfield 16, 3) := by decide +kernel
theorem dX4_untilEmpty_54 : decode cX4_untilEmpty 54 = .ok (.invokevirtual 166, 3) := by decide +kernel
theorem dX4_untilEmpty_57 : decode cX4_untilEmpty 57 = .ok (.pop, 1) := by decide +kernel
theorem dX4_untilEmpty_58 : decode cX4_untilEmpty 58 = .ok (.iinc 1 1, 3) := by decide +kernel
theorem dX4_untilEmpty_61 : decode cX4_untilEmpty 61 = .ok (.goto (-35), 3) := by decide +kernel
theorem dX4_untilEmpty_64 : decode cX4_untilEmpty 64 = .ok (.aload_n 0, 1) := by decide +kernel
theorem dX4_untilEmpty_65 : decode cX4_untilEmpty 65 = .ok (.getfield 16, 3) := by decide +kernel
theorem dX4_untilEmpty_68 : decode cX4_untilEmpty 68 = .ok (.getfield 133, 3) := by decide +kernel
theorem dX4_untilEmpty_71 : decode cX4_untilEmpty 71 = .ok (.iconst 0, 1) := by decide +kernel
theorem dX4_untilEmpty_72 : decode cX4_untilEmpty 72 = .ok (.aaload, 1) := by decide +kernel
theorem dX4_untilEmpty_73 : decode cX4_untilEmpty 73 = .ok (.invokevirtual 176, 3) := by decide +kernel
theorem dX4_untilEmpty_76 : decode cX4_untilEmpty 76 = .ok (.ifCond .ne 9, 3) := by decide +kernel
theorem dX4_untilEmpty_79 : decode cX4_untilEmpty 79 = .ok (.sipush 200, 3) := by decide +kernel
theorem dX4_untilEmpty_82 : decode cX4_untilEmpty 82 = .ok (.goto 5, 3) := by decide +kernel
theorem dX4_untilEmpty_85 : decode cX4_untilEmpty 85 = .ok (.ldc 94, 2) := by decide +kernel
theorem dX4_untilEmpty_87 : decode cX4_untilEmpty 87 = .ok (.ireturn, 1) := by decide +kernel
theorem dX4_ifPassed_0 : decode cX4_ifPassed 0 = .ok (.iload_n 1, 1) := by decide +kernel
theorem dX4_ifPassed_1 : decode cX4_ifPassed 1 = .ok (.iconst 1, 1) := by decide +kernel
theorem dX4_ifPassed_2 : decode cX4_ifPassed 2 = .ok (.if_icmp .lt 19, 3) := by decide +kernel
theorem dX4_ifPassed_5 : decode cX4_ifPassed 5 = .ok (.iload_n 1, 1) := by decide +kernel
theorem dX4_ifPassed_6 : decode cX4_ifPassed 6 = .ok (.sipush 200, 3) := by decide +kernel
theorem dX4_ifPassed_9 : decode cX4_ifPassed 9 = .ok (.if_icmp .gt 12, 3) := by decide +kernel
theorem dX4_ifPassed_12 : decode cX4_ifPassed 12 = .ok (.iload_n 2, 1) := by decide +kernel
theorem dX4_ifPassed_13 : decode cX4_ifPassed 13 = .ok (.ifCond .lt 8, 3) := by decide +kernel
theorem dX4_ifPassed_16 : decode cX4_ifPassed 16 = .ok (.iload_n 2, 1) := by decide +kernel
theorem dX4_ifPassed_17 : decode cX4_ifPassed 17 = .ok (.iconst 3, 1) := by decide +kernel
theorem dX4_ifPassed_18 : decode cX4_ifPassed 18 = .ok (.if_icmp .le 6, 3) := by decide +kernel
theorem dX4_ifPassed_21 : decode cX4_ifPassed 21 = .ok (.ldc 125, 2) := by decide +kernel
theorem dX4_ifPassed_23 : decode cX4_ifPassed 23 = .ok (.ireturn, 1) := by decide +kernel
theorem dX4_ifPassed_24 : decode cX4_ifPassed 24 = .ok (.aload_n 0, 1) := by decide +kernel
theorem dX4_ifPassed_25 : decode cX4_ifPassed 25 = .ok (.getfield 16, 3) := by decide +kernel
theorem dX4_ifPassed_28 : decode cX4_ifPassed 28 = .ok (.aload_n 0, 1) := by decide +kernel
theorem dX4_ifPassed_29 : decode cX4_ifPassed 29 = .ok (.getfield 10, 3) := by decide +kernel
theorem dX4_ifPassed_32 : decode cX4_ifPassed 32 = .ok (.invokevirtual 162, 3) := by decide +kernel
theorem dX4_ifPassed_35 : decode cX4_ifPassed 35 = .ok (.iconst 0, 1) := by decide +kernel
theorem dX4_ifPassed_36 : decode cX4_ifPassed 36 = .ok (.istore_n 3, 1) := by decide +kernel
theorem dX4_ifPassed_37 : decode cX4_ifPassed 37 = .ok (.iconst 0, 1) := by decide +kernel
theorem dX4_ifPassed_38 : decode cX4_ifPassed 38 = .ok (.istore 4, 2) := by decide +kernel
theorem dX4_ifPassed_40 : decode cX4_ifPassed 40 = .ok (.iload 4, 2) := by decide +kernel
theorem dX4_ifPassed_42 : decode cX4_ifPassed 42 = .ok (.iload_n 1, 1) := by decide +kernel
theorem dX4_ifPassed_43 : decode cX4_ifPassed 43 = .ok (.if_icmp .ge 19, 3) := by decide +kernel
theorem dX4_ifPassed_46 : decode cX4_ifPassed 46 = .ok (.iload_n 3, 1) := by decide +kernel
theorem dX4_ifPassed_47 : decode cX4_ifPassed 47 = .ok (.aload_n 0, 1) := by decide +kernel
theorem dX4_ifPassed_48 : decode cX4_ifPassed 48 = .ok (.getfield 16, 3) := by decide +kernel
theorem dX4_ifPassed_51 : decode cX4_ifPassed 51 = .ok (.invokevirtual 166, 3) := by decide +kernel
theorem dX4_ifPassed_54 : decode cX4_ifPassed 54 = .ok (.iadd, 1) := by decide +kernel
theorem dX4_ifPassed_55 : decode cX4_ifPassed 55 = .ok (.istore_n 3, 1) := by decide +kernel
theorem dX4_ifPassed_56 : decode cX4_ifPassed 56 = .ok (.iinc 4 1, 3) := by decide +kernel
theorem dX4_ifPassed_59 : decode cX4_ifPassed 59 = .ok (.goto (-19), 3) := by decide +kernel
theorem dX4_ifPassed_62 : decode cX4_ifPassed 62 = .ok (.iload_n 2, 1) := by decide +kernel
theorem dX4_ifPassed_63 : decode cX4_ifPassed 63 = .ok (.tableswitch 59 0 2 #[25, 27, 43], 25) := by decide +kernel
theorem dX4_ifPassed_88 : decode cX4_ifPassed 88 = .ok (.iload_n 3, 1) := by decide +kernel
theorem dX4_ifPassed_89 : decode cX4_ifPassed 89 = .ok (.ireturn, 1) := by decide +kernel
theorem dX4_ifPassed_90 : decode cX4_ifPassed 90 = .ok (.aload_n 0, 1) := by decide +kernel
theorem dX4_ifPassed_91 : decode cX4_ifPassed 91 = .ok (.getfield 16, 3) := by decide +kernel
theorem dX4_ifPassed_94 : decode cX4_ifPassed 94 = .ok (.getfield 179, 3) := by decide +kernel
theorem dX4_ifPassed_97 : decode cX4_ifPassed 97 = .ok (.aload_n 0, 1) := by decide +kernel
theorem dX4_ifPassed_98 : decode cX4_ifPassed 98 = .ok (.getfield 10, 3) := by decide +kernel
theorem dX4_ifPassed_101 : decode cX4_ifPassed 101 = .ok (.getfield 179, 3) := by decide +kernel
theorem dX4_ifPassed_104 : decode cX4_ifPassed 104 = .ok (.isub, 1) := by decide +kernel
theorem dX4_ifPassed_105 : decode cX4_ifPassed 105 = .ok (.ireturn, 1) := by decide +kernel
theorem dX4_ifPassed_106 : decode cX4_ifPassed 106 = .ok (.aload_n 0, 1) := by decide +kernel
theorem dX4_ifPassed_107 : decode cX4_ifPassed 107 = .ok (.getfield 16, 3) := by decide +kernel
theorem dX4_ifPassed_110 : decode cX4_ifPassed 110 = .ok (.invokevirtual 182, 3) := by decide +kernel
theorem dX4_ifPassed_113 : decode cX4_ifPassed 113 = .ok (.aload_n 0, 1) := by decide +kernel
theorem dX4_ifPassed_114 : decode cX4_ifPassed 114 = .ok (.getfield 10, 3) := by decide +kernel
theorem dX4_ifPassed_117 : decode cX4_ifPassed 117 = .ok (.invokevirtual 182, 3) := by decide +kernel
theorem dX4_ifPassed_120 : decode cX4_ifPassed 120 = .ok (.isub, 1) := by decide +kernel
theorem dX4_ifPassed_121 : decode cX4_ifPassed 121 = .ok (.ireturn, 1) := by decide +kernel
theorem dX4_ifPassed_122 : decode cX4_ifPassed 122 = .ok (.aload_n 0, 1) := by decide +kernel
theorem dX4_ifPassed_123 : decode cX4_ifPassed 123 = .ok (.getfield 16, 3) := by decide +kernel
theorem dX4_ifPassed_126 : decode cX4_ifPassed 126 = .ok (.getfield 185, 3) := by decide +kernel
theorem dX4_ifPassed_129 : decode cX4_ifPassed 129 = .ok (.aload_n 0, 1) := by decide +kernel
theorem dX4_ifPassed_130 : decode cX4_ifPassed 130 = .ok (.getfield 10, 3) := by decide +kernel
theorem dX4_ifPassed_133 : decode cX4_ifPassed 133 = .ok (.getfield 185, 3) := by decide +kernel
theorem dX4_ifPassed_136 : decode cX4_ifPassed 136 = .ok (.isub, 1) := by decide +kernel
theorem dX4_ifPassed_137 : decode cX4_ifPassed 137 = .ok (.ireturn, 1) := by decide +kernel
theorem dX4_leastReach_0 : decode cX4_leastReach 0 = .ok (.iload_n 1, 1) := by decide +kernel
theorem dX4_leastReach_1 : decode cX4_leastReach 1 = .ok (.invokestatic 149, 3) := by decide +kernel
theorem dX4_leastReach_4 : decode cX4_leastReach 4 = .ok (.ifCond .ne 6, 3) := by decide +kernel
theorem dX4_leastReach_7 : decode cX4_leastReach 7 = .ok (.ldc 152, 2) := by decide +kernel
theorem dX4_leastReach_9 : decode cX4_leastReach 9 = .ok (.ireturn, 1) := by decide +kernel
theorem dX4_leastReach_10 : decode cX4_leastReach 10 = .ok (.aload_n 0, 1) := by decide +kernel
theorem dX4_leastReach_11 : decode cX4_leastReach 11 = .ok (.getfield 10, 3) := by decide +kernel
theorem dX4_leastReach_14 : decode cX4_leastReach 14 = .ok (.getfield 153, 3) := by decide +kernel
theorem dX4_leastReach_17 : decode cX4_leastReach 17 = .ok (.iload_n 1, 1) := by decide +kernel
theorem dX4_leastReach_18 : decode cX4_leastReach 18 = .ok (.aaload, 1) := by decide +kernel
theorem dX4_leastReach_19 : decode cX4_leastReach 19 = .ok (.invokevirtual 157, 3) := by decide +kernel
theorem dX4_leastReach_22 : decode cX4_leastReach 22 = .ok (.ifCond .ne 6, 3) := by decide +kernel
theorem dX4_leastReach_25 : decode cX4_leastReach 25 = .ok (.ldc 132, 2) := by decide +kernel
theorem dX4_leastReach_27 : decode cX4_leastReach 27 = .ok (.ireturn, 1) := by decide +kernel
theorem dX4_leastReach_28 : decode cX4_leastReach 28 = .ok (.aload_n 0, 1) := by decide +kernel
theorem dX4_leastReach_29 : decode cX4_leastReach 29 = .ok (.getfield 16, 3) := by decide +kernel
theorem dX4_leastReach_32 : decode cX4_leastReach 32 = .ok (.aload_n 0, 1) := by decide +kernel
theorem dX4_leastReach_33 : decode cX4_leastReach 33 = .ok (.getfield 10, 3) := by decide +kernel
theorem dX4_leastReach_36 : decode cX4_leastReach 36 = .ok (.invokevirtual 162, 3) := by decide +kernel
theorem dX4_leastReach_39 : decode cX4_leastReach 39 = .ok (.aload_n 0, 1) := by decide +kernel
theorem dX4_leastReach_40 : decode cX4_leastReach 40 = .ok (.getfield 16, 3) := by decide +kernel
theorem dX4_leastReach_43 : decode cX4_leastReach 43 = .ok (.getfield 153, 3) := by decide +kernel
theorem dX4_leastReach_46 : decode cX4_leastReach 46 = .ok (.iload_n 1, 1) := by decide +kernel
theorem dX4_leastReach_47 : decode cX4_leastReach 47 = .ok (.aaload, 1) := by decide +kernel
theorem dX4_leastReach_48 : decode cX4_leastReach 48 = .ok (.astore_n 2, 1) := by decide +kernel
theorem dX4_leastReach_49 : decode cX4_leastReach 49 = .ok (.aload_n 2, 1) := by decide +kernel
theorem dX4_leastReach_50 : decode cX4_leastReach 50 = .ok (.iconst 1, 1) := by decide +kernel
theorem dX4_leastReach_51 : decode cX4_leastReach 51 = .ok (.putfield 188, 3) := by decide +kernel
theorem dX4_leastReach_54 : decode cX4_leastReach 54 = .ok (.aload_n 2, 1) := by decide +kernel
theorem dX4_leastReach_55 : decode cX4_leastReach 55 = .ok (.bipush 20, 2) := by decide +kernel
theorem dX4_leastReach_57 : decode cX4_leastReach 57 = .ok (.putfield 191, 3) := by decide +kernel
theorem dX4_leastReach_60 : decode cX4_leastReach 60 = .ok (.iconst 0, 1) := by decide +kernel
theorem dX4_leastReach_61 : decode cX4_leastReach 61 = .ok (.istore_n 3, 1) := by decide +kernel
theorem dX4_leastReach_62 : decode cX4_leastReach 62 = .ok (.iload_n 3, 1) := by decide +kernel
theorem dX4_leastReach_63 : decode cX4_leastReach 63 = .ok (.sipush 200, 3) := by decide +kernel
theorem dX4_leastReach_66 : decode cX4_leastReach 66 = .ok (.if_icmp .ge 17, 3) := by decide +kernel
theorem dX4_leastReach_69 : decode cX4_leastReach 69 = .ok (.aload_n 0, 1) := by decide +kernel
theorem dX4_leastReach_70 : decode cX4_leastReach 70 = .ok (.getfield 16, 3) := by decide +kernel
theorem dX4_leastReach_73 : decode cX4_leastReach 73 = .ok (.invokevirtual 166, 3) := by decide +kernel
theorem dX4_leastReach_76 : decode cX4_leastReach 76 = .ok (.pop, 1) := by decide +kernel
theorem dX4_leastReach_77 : decode cX4_leastReach 77 = .ok (.iinc 3 1, 3) := by decide +kernel
theorem dX4_leastReach_80 : decode cX4_leastReach 80 = .ok (.goto (-18), 3) := by decide +kernel
theorem dX4_leastReach_83 : decode cX4_leastReach 83 = .ok (.aload_n 2, 1) := by decide +kernel
theorem dX4_leastReach_84 : decode cX4_leastReach 84 = .ok (.getfield 191, 3) := by decide +kernel
theorem dX4_leastReach_87 : decode cX4_leastReach 87 = .ok (.bipush 120, 2) := by decide +kernel
theorem dX4_leastReach_89 : decode cX4_leastReach 89 = .ok (.if_icmp .le 8, 3) := by decide +kernel
theorem dX4_leastReach_92 : decode cX4_leastReach 92 = .ok (.ldc 94, 2) := by decide +kernel
theorem dX4_leastReach_94 : decode cX4_leastReach 94 = .ok (.goto 7, 3) := by decide +kernel
theorem dX4_leastReach_97 : decode cX4_leastReach 97 = .ok (.aload_n 2, 1) := by decide +kernel
theorem dX4_leastReach_98 : decode cX4_leastReach 98 = .ok (.getfield 191, 3) := by decide +kernel
theorem dX4_leastReach_101 : decode cX4_leastReach 101 = .ok (.ireturn, 1) := by decide +kernel
theorem dX4_undo_0 : decode cX4_undo 0 = .ok (.aload_n 0, 1) := by decide +kernel
theorem dX4_undo_1 : decode cX4_undo 1 = .ok (.getfield 30, 3) := by decide +kernel
theorem dX4_undo_4 : decode cX4_undo 4 = .ok (.ifCond .le 12, 3) := by decide +kernel
theorem dX4_undo_7 : decode cX4_undo 7 = .ok (.aload_n 0, 1) := by decide +kernel
theorem dX4_undo_8 : decode cX4_undo 8 = .ok (.getfield 30, 3) := by decide +kernel
theorem dX4_undo_11 : decode cX4_undo 11 = .ok (.bipush 6, 2) := by decide +kernel
theorem dX4_undo_13 : decode cX4_undo 13 = .ok (.if_icmp .le 6, 3) := by decide +kernel
theorem dX4_undo_16 : decode cX4_undo 16 = .ok (.ldc 132, 2) := by decide +kernel
theorem dX4_undo_18 : decode cX4_undo 18 = .ok (.ireturn, 1) := by decide +kernel
theorem dX4_undo_19 : decode cX4_undo 19 = .ok (.aload_n 0, 1) := by decide +kernel
theorem dX4_undo_20 : decode cX4_undo 20 = .ok (.dup, 1) := by decide +kernel
theorem dX4_undo_21 : decode cX4_undo 21 = .ok (.getfield 30, 3) := by decide +kernel
theorem dX4_undo_24 : decode cX4_undo 24 = .ok (.iconst 1, 1) := by decide +kernel
theorem dX4_undo_25 : decode cX4_undo 25 = .ok (.isub, 1) := by decide +kernel
theorem dX4_undo_26 : decode cX4_undo 26 = .ok (.putfield 30, 3) := by decide +kernel
theorem dX4_undo_29 : decode cX4_undo 29 = .ok (.aload_n 0, 1) := by decide +kernel
theorem dX4_undo_30 : decode cX4_undo 30 = .ok (.getfield 10, 3) := by decide +kernel
theorem dX4_undo_33 : decode cX4_undo 33 = .ok (.aload_n 0, 1) := by decide +kernel
theorem dX4_undo_34 : decode cX4_undo 34 = .ok (.getfield 26, 3) := by decide +kernel
theorem dX4_undo_37 : decode cX4_undo 37 = .ok (.aload_n 0, 1) := by decide +kernel
theorem dX4_undo_38 : decode cX4_undo 38 = .ok (.getfield 30, 3) := by decide +kernel
theorem dX4_undo_41 : decode cX4_undo 41 = .ok (.aaload, 1) := by decide +kernel
theorem dX4_undo_42 : decode cX4_undo 42 = .ok (.invokevirtual 162, 3) := by decide +kernel
theorem dX4_undo_45 : decode cX4_undo 45 = .ok (.aload_n 0, 1) := by decide +kernel
theorem dX4_undo_46 : decode cX4_undo 46 = .ok (.getfield 30, 3) := by decide +kernel
theorem dX4_undo_49 : decode cX4_undo 49 = .ok (.ireturn, 1) := by decide +kernel
theorem dX4_save_0 : decode cX4_save 0 = .ok (.iload_n 1, 1) := by decide +kernel
theorem dX4_save_1 : decode cX4_save 1 = .ok (.invokestatic 198, 3) := by decide +kernel
theorem dX4_save_4 : decode cX4_save 4 = .ok (.ifCond .ne 6, 3) := by decide +kernel
theorem dX4_save_7 : decode cX4_save 7 = .ok (.ldc 125, 2) := by decide +kernel
theorem dX4_save_9 : decode cX4_save 9 = .ok (.ireturn, 1) := by decide +kernel
theorem dX4_save_10 : decode cX4_save 10 = .ok (.aload_n 0, 1) := by decide +kernel
theorem dX4_save_11 : decode cX4_save 11 = .ok (.getfield 37, 3) := by decide +kernel
theorem dX4_save_14 : decode cX4_save 14 = .ok (.iload_n 1, 1) := by decide +kernel
theorem dX4_save_15 : decode cX4_save 15 = .ok (.aaload, 1) := by decide +kernel
theorem dX4_save_16 : decode cX4_save 16 = .ok (.aload_n 0, 1) := by decide +kernel
theorem dX4_save_17 : decode cX4_save 17 = .ok (.getfield 10, 3) := by decide +kernel
theorem dX4_save_20 : decode cX4_save 20 = .ok (.invokevirtual 162, 3) := by decide +kernel
theorem dX4_save_23 : decode cX4_save 23 = .ok (.aload_n 0, 1) := by decide +kernel
theorem dX4_save_24 : decode cX4_save 24 = .ok (.getfield 40, 3) := by decide +kernel
theorem dX4_save_27 : decode cX4_save 27 = .ok (.iload_n 1, 1) := by decide +kernel
theorem dX4_save_28 : decode cX4_save 28 = .ok (.iconst 1, 1) := by decide +kernel
theorem dX4_save_29 : decode cX4_save 29 = .ok (.bastore, 1) := by decide +kernel
theorem dX4_save_30 : decode cX4_save 30 = .ok (.aload_n 0, 1) := by decide +kernel
theorem dX4_save_31 : decode cX4_save 31 = .ok (.getfield 10, 3) := by decide +kernel
theorem dX4_save_34 : decode cX4_save 34 = .ok (.getfield 142, 3) := by decide +kernel
theorem dX4_save_37 : decode cX4_save 37 = .ok (.ireturn, 1) := by decide +kernel
theorem dX4_restore_0 : decode cX4_restore 0 = .ok (.iload_n 1, 1) := by decide +kernel
theorem dX4_restore_1 : decode cX4_restore 1 = .ok (.invokestatic 198, 3) := by decide +kernel
theorem dX4_restore_4 : decode cX4_restore 4 = .ok (.ifCond .ne 6, 3) := by decide +kernel
theorem dX4_restore_7 : decode cX4_restore 7 = .ok (.ldc 125, 2) := by decide +kernel
theorem dX4_restore_9 : decode cX4_restore 9 = .ok (.ireturn, 1) := by decide +kernel
theorem dX4_restore_10 : decode cX4_restore 10 = .ok (.aload_n 0, 1) := by decide +kernel
theorem dX4_restore_11 : decode cX4_restore 11 = .ok (.getfield 40, 3) := by decide +kernel
theorem dX4_restore_14 : decode cX4_restore 14 = .ok (.iload_n 1, 1) := by decide +kernel
theorem dX4_restore_15 : decode cX4_restore 15 = .ok (.baload, 1) := by decide +kernel
theorem dX4_restore_16 : decode cX4_restore 16 = .ok (.ifCond .ne 6, 3) := by decide +kernel
theorem dX4_restore_19 : decode cX4_restore 19 = .ok (.ldc 132, 2) := by decide +kernel
theorem dX4_restore_21 : decode cX4_restore 21 = .ok (.ireturn, 1) := by decide +kernel
theorem dX4_restore_22 : decode cX4_restore 22 = .ok (.aload_n 0, 1) := by decide +kernel
theorem dX4_restore_23 : decode cX4_restore 23 = .ok (.invokevirtual 44, 3) := by decide +kernel
theorem dX4_restore_26 : decode cX4_restore 26 = .ok (.aload_n 0, 1) := by decide +kernel
theorem dX4_restore_27 : decode cX4_restore 27 = .ok (.getfield 10, 3) := by decide +kernel
theorem dX4_restore_30 : decode cX4_restore 30 = .ok (.aload_n 0, 1) := by decide +kernel
theorem dX4_restore_31 : decode cX4_restore 31 = .ok (.getfield 37, 3) := by decide +kernel
theorem dX4_restore_34 : decode cX4_restore 34 = .ok (.iload_n 1, 1) := by decide +kernel
theorem dX4_restore_35 : decode cX4_restore 35 = .ok (.aaload, 1) := by decide +kernel
theorem dX4_restore_36 : decode cX4_restore 36 = .ok (.invokevirtual 162, 3) := by decide +kernel
theorem dX4_restore_39 : decode cX4_restore 39 = .ok (.aload_n 0, 1) := by decide +kernel
theorem dX4_restore_40 : decode cX4_restore 40 = .ok (.aload_n 0, 1) := by decide +kernel
theorem dX4_restore_41 : decode cX4_restore 41 = .ok (.getfield 10, 3) := by decide +kernel
theorem dX4_restore_44 : decode cX4_restore 44 = .ok (.getfield 142, 3) := by decide +kernel
theorem dX4_restore_47 : decode cX4_restore 47 = .ok (.invokevirtual 51, 3) := by decide +kernel
theorem dX4_restore_50 : decode cX4_restore 50 = .ok (.ireturn, 1) := by decide +kernel
theorem dX4_keepPresent_0 : decode cX4_keepPresent 0 = .ok (.aload_n 0, 1) := by decide +kernel
theorem dX4_keepPresent_1 : decode cX4_keepPresent 1 = .ok (.getfield 34, 3) := by decide +kernel
theorem dX4_keepPresent_4 : decode cX4_keepPresent 4 = .ok (.aload_n 0, 1) := by decide +kernel
theorem dX4_keepPresent_5 : decode cX4_keepPresent 5 = .ok (.getfield 10, 3) := by decide +kernel
theorem dX4_keepPresent_8 : decode cX4_keepPresent 8 = .ok (.invokevirtual 162, 3) := by decide +kernel
theorem dX4_keepPresent_11 : decode cX4_keepPresent 11 = .ok (.return_, 1) := by decide +kernel
theorem dX4_recorded_0 : decode cX4_recorded 0 = .ok (.iload_n 1, 1) := by decide +kernel
theorem dX4_recorded_1 : decode cX4_recorded 1 = .ok (.invokestatic 109, 3) := by decide +kernel
theorem dX4_recorded_4 : decode cX4_recorded 4 = .ok (.ifCond .ne 7, 3) := by decide +kernel
theorem dX4_recorded_7 : decode cX4_recorded 7 = .ok (.aload_n 0, 1) := by decide +kernel
theorem dX4_recorded_8 : decode cX4_recorded 8 = .ok (.invokevirtual 201, 3) := by decide +kernel
theorem dX4_recorded_11 : decode cX4_recorded 11 = .ok (.iload_n 1, 1) := by decide +kernel
theorem dX4_recorded_12 : decode cX4_recorded 12 = .ok (.ireturn, 1) := by decide +kernel
theorem dX4_recordKept_0 : decode cX4_recordKept 0 = .ok (.aload_n 0, 1) := by decide +kernel
theorem dX4_recordKept_1 : decode cX4_recordKept 1 = .ok (.getfield 30, 3) := by decide +kernel
theorem dX4_recordKept_4 : decode cX4_recordKept 4 = .ok (.bipush 6, 2) := by decide +kernel
theorem dX4_recordKept_6 : decode cX4_recordKept 6 = .ok (.if_icmp .ne 7, 3) := by decide +kernel
theorem dX4_recordKept_9 : decode cX4_recordKept 9 = .ok (.aload_n 0, 1) := by decide +kernel
theorem dX4_recordKept_10 : decode cX4_recordKept 10 = .ok (.invokevirtual 204, 3) := by decide +kernel
theorem dX4_recordKept_13 : decode cX4_recordKept 13 = .ok (.aload_n 0, 1) := by decide +kernel
theorem dX4_recordKept_14 : decode cX4_recordKept 14 = .ok (.getfield 30, 3) := by decide +kernel
theorem dX4_recordKept_17 : decode cX4_recordKept 17 = .ok (.ifCond .lt 12, 3) := by decide +kernel
theorem dX4_recordKept_20 : decode cX4_recordKept 20 = .ok (.aload_n 0, 1) := by decide +kernel
theorem dX4_recordKept_21 : decode cX4_recordKept 21 = .ok (.getfield 30, 3) := by decide +kernel
theorem dX4_recordKept_24 : decode cX4_recordKept 24 = .ok (.bipush 6, 2) := by decide +kernel
theorem dX4_recordKept_26 : decode cX4_recordKept 26 = .ok (.if_icmp .lt 4, 3) := by decide +kernel
theorem dX4_recordKept_29 : decode cX4_recordKept 29 = .ok (.return_, 1) := by decide +kernel
theorem dX4_recordKept_30 : decode cX4_recordKept 30 = .ok (.aload_n 0, 1) := by decide +kernel
theorem dX4_recordKept_31 : decode cX4_recordKept 31 = .ok (.getfield 26, 3) := by decide +kernel
theorem dX4_recordKept_34 : decode cX4_recordKept 34 = .ok (.aload_n 0, 1) := by decide +kernel
theorem dX4_recordKept_35 : decode cX4_recordKept 35 = .ok (.getfield 30, 3) := by decide +kernel
theorem dX4_recordKept_38 : decode cX4_recordKept 38 = .ok (.aaload, 1) := by decide +kernel
theorem dX4_recordKept_39 : decode cX4_recordKept 39 = .ok (.astore_n 1, 1) := by decide +kernel
theorem dX4_recordKept_40 : decode cX4_recordKept 40 = .ok (.aload_n 0, 1) := by decide +kernel
theorem dX4_recordKept_41 : decode cX4_recordKept 41 = .ok (.getfield 26, 3) := by decide +kernel
theorem dX4_recordKept_44 : decode cX4_recordKept 44 = .ok (.aload_n 0, 1) := by decide +kernel
theorem dX4_recordKept_45 : decode cX4_recordKept 45 = .ok (.getfield 30, 3) := by decide +kernel
theorem dX4_recordKept_48 : decode cX4_recordKept 48 = .ok (.aload_n 0, 1) := by decide +kernel
theorem dX4_recordKept_49 : decode cX4_recordKept 49 = .ok (.getfield 34, 3) := by decide +kernel
theorem dX4_recordKept_52 : decode cX4_recordKept 52 = .ok (.aastore, 1) := by decide +kernel
theorem dX4_recordKept_53 : decode cX4_recordKept 53 = .ok (.aload_n 0, 1) := by decide +kernel
theorem dX4_recordKept_54 : decode cX4_recordKept 54 = .ok (.aload_n 1, 1) := by decide +kernel
theorem dX4_recordKept_55 : decode cX4_recordKept 55 = .ok (.putfield 34, 3) := by decide +kernel
theorem dX4_recordKept_58 : decode cX4_recordKept 58 = .ok (.aload_n 0, 1) := by decide +kernel
theorem dX4_recordKept_59 : decode cX4_recordKept 59 = .ok (.dup, 1) := by decide +kernel
theorem dX4_recordKept_60 : decode cX4_recordKept 60 = .ok (.getfield 30, 3) := by decide +kernel
theorem dX4_recordKept_63 : decode cX4_recordKept 63 = .ok (.iconst 1, 1) := by decide +kernel
theorem dX4_recordKept_64 : decode cX4_recordKept 64 = .ok (.iadd, 1) := by decide +kernel
theorem dX4_recordKept_65 : decode cX4_recordKept 65 = .ok (.putfield 30, 3) := by decide +kernel
theorem dX4_recordKept_68 : decode cX4_recordKept 68 = .ok (.return_, 1) := by decide +kernel
theorem dX4_dropOldest_0 : decode cX4_dropOldest 0 = .ok (.aload_n 0, 1) := by decide +kernel
theorem dX4_dropOldest_1 : decode cX4_dropOldest 1 = .ok (.getfield 26, 3) := by decide +kernel
theorem dX4_dropOldest_4 : decode cX4_dropOldest 4 = .ok (.iconst 0, 1) := by decide +kernel
theorem dX4_dropOldest_5 : decode cX4_dropOldest 5 = .ok (.aaload, 1) := by decide +kernel
theorem dX4_dropOldest_6 : decode cX4_dropOldest 6 = .ok (.astore_n 1, 1) := by decide +kernel
theorem dX4_dropOldest_7 : decode cX4_dropOldest 7 = .ok (.iconst 1, 1) := by decide +kernel
theorem dX4_dropOldest_8 : decode cX4_dropOldest 8 = .ok (.istore_n 2, 1) := by decide +kernel
theorem dX4_dropOldest_9 : decode cX4_dropOldest 9 = .ok (.iload_n 2, 1) := by decide +kernel
theorem dX4_dropOldest_10 : decode cX4_dropOldest 10 = .ok (.bipush 6, 2) := by decide +kernel
theorem dX4_dropOldest_12 : decode cX4_dropOldest 12 = .ok (.if_icmp .ge 23, 3) := by decide +kernel
theorem dX4_dropOldest_15 : decode cX4_dropOldest 15 = .ok (.aload_n 0, 1) := by decide +kernel
theorem dX4_dropOldest_16 : decode cX4_dropOldest 16 = .ok (.getfield 26, 3) := by decide +kernel
theorem dX4_dropOldest_19 : decode cX4_dropOldest 19 = .ok (.iload_n 2, 1) := by decide +kernel
theorem dX4_dropOldest_20 : decode cX4_dropOldest 20 = .ok (.iconst 1, 1) := by decide +kernel
theorem dX4_dropOldest_21 : decode cX4_dropOldest 21 = .ok (.isub, 1) := by decide +kernel
theorem dX4_dropOldest_22 : decode cX4_dropOldest 22 = .ok (.aload_n 0, 1) := by decide +kernel
theorem dX4_dropOldest_23 : decode cX4_dropOldest 23 = .ok (.getfield 26, 3) := by decide +kernel
theorem dX4_dropOldest_26 : decode cX4_dropOldest 26 = .ok (.iload_n 2, 1) := by decide +kernel
theorem dX4_dropOldest_27 : decode cX4_dropOldest 27 = .ok (.aaload, 1) := by decide +kernel
theorem dX4_dropOldest_28 : decode cX4_dropOldest 28 = .ok (.aastore, 1) := by decide +kernel
theorem dX4_dropOldest_29 : decode cX4_dropOldest 29 = .ok (.iinc 2 1, 3) := by decide +kernel
theorem dX4_dropOldest_32 : decode cX4_dropOldest 32 = .ok (.goto (-23), 3) := by decide +kernel
theorem dX4_dropOldest_35 : decode cX4_dropOldest 35 = .ok (.aload_n 0, 1) := by decide +kernel
theorem dX4_dropOldest_36 : decode cX4_dropOldest 36 = .ok (.getfield 26, 3) := by decide +kernel
theorem dX4_dropOldest_39 : decode cX4_dropOldest 39 = .ok (.iconst 5, 1) := by decide +kernel
theorem dX4_dropOldest_40 : decode cX4_dropOldest 40 = .ok (.aload_n 1, 1) := by decide +kernel
theorem dX4_dropOldest_41 : decode cX4_dropOldest 41 = .ok (.aastore, 1) := by decide +kernel
theorem dX4_dropOldest_42 : decode cX4_dropOldest 42 = .ok (.aload_n 0, 1) := by decide +kernel
theorem dX4_dropOldest_43 : decode cX4_dropOldest 43 = .ok (.iconst 5, 1) := by decide +kernel
theorem dX4_dropOldest_44 : decode cX4_dropOldest 44 = .ok (.putfield 30, 3) := by decide +kernel
theorem dX4_dropOldest_47 : decode cX4_dropOldest 47 = .ok (.return_, 1) := by decide +kernel
theorem dX4_isError_0 : decode cX4_isError 0 = .ok (.iload_n 0, 1) := by decide +kernel
theorem dX4_isError_1 : decode cX4_isError 1 = .ok (.ldc 152, 2) := by decide +kernel
theorem dX4_isError_3 : decode cX4_isError 3 = .ok (.if_icmp .gt 13, 3) := by decide +kernel
theorem dX4_isError_6 : decode cX4_isError 6 = .ok (.iload_n 0, 1) := by decide +kernel
theorem dX4_isError_7 : decode cX4_isError 7 = .ok (.ldc 132, 2) := by decide +kernel
theorem dX4_isError_9 : decode cX4_isError 9 = .ok (.if_icmp .lt 7, 3) := by decide +kernel
theorem dX4_isError_12 : decode cX4_isError 12 = .ok (.iconst 1, 1) := by decide +kernel
theorem dX4_isError_13 : decode cX4_isError 13 = .ok (.goto 4, 3) := by decide +kernel
theorem dX4_isError_16 : decode cX4_isError 16 = .ok (.iconst 0, 1) := by decide +kernel
theorem dX4_isError_17 : decode cX4_isError 17 = .ok (.ireturn, 1) := by decide +kernel
theorem dX4_isHose_0 : decode cX4_isHose 0 = .ok (.iload_n 0, 1) := by decide +kernel
theorem dX4_isHose_1 : decode cX4_isHose 1 = .ok (.ifCond .lt 12, 3) := by decide +kernel
theorem dX4_isHose_4 : decode cX4_isHose 4 = .ok (.iload_n 0, 1) := by decide +kernel
theorem dX4_isHose_5 : decode cX4_isHose 5 = .ok (.iconst 4, 1) := by decide +kernel
theorem dX4_isHose_6 : decode cX4_isHose 6 = .ok (.if_icmp .ge 7, 3) := by decide +kernel
theorem dX4_isHose_9 : decode cX4_isHose 9 = .ok (.iconst 1, 1) := by decide +kernel
theorem dX4_isHose_10 : decode cX4_isHose 10 = .ok (.goto 4, 3) := by decide +kernel
theorem dX4_isHose_13 : decode cX4_isHose 13 = .ok (.iconst 0, 1) := by decide +kernel
theorem dX4_isHose_14 : decode cX4_isHose 14 = .ok (.ireturn, 1) := by decide +kernel
theorem dX4_isGrade_0 : decode cX4_isGrade 0 = .ok (.iload_n 0, 1) := by decide +kernel
theorem dX4_isGrade_1 : decode cX4_isGrade 1 = .ok (.ifCond .lt 12, 3) := by decide +kernel
theorem dX4_isGrade_4 : decode cX4_isGrade 4 = .ok (.iload_n 0, 1) := by decide +kernel
theorem dX4_isGrade_5 : decode cX4_isGrade 5 = .ok (.iconst 4, 1) := by decide +kernel
theorem dX4_isGrade_6 : decode cX4_isGrade 6 = .ok (.if_icmp .ge 7, 3) := by decide +kernel
theorem dX4_isGrade_9 : decode cX4_isGrade 9 = .ok (.iconst 1, 1) := by decide +kernel
theorem dX4_isGrade_10 : decode cX4_isGrade 10 = .ok (.goto 4, 3) := by decide +kernel
theorem dX4_isGrade_13 : decode cX4_isGrade 13 = .ok (.iconst 0, 1) := by decide +kernel
theorem dX4_isGrade_14 : decode cX4_isGrade 14 = .ok (.ireturn, 1) := by decide +kernel
theorem dX4_isSlot_0 : decode cX4_isSlot 0 = .ok (.iload_n 0, 1) := by decide +kernel
theorem dX4_isSlot_1 : decode cX4_isSlot 1 = .ok (.ifCond .lt 12, 3) := by decide +kernel
theorem dX4_isSlot_4 : decode cX4_isSlot 4 = .ok (.iload_n 0, 1) := by decide +kernel
theorem dX4_isSlot_5 : decode cX4_isSlot 5 = .ok (.iconst 2, 1) := by decide +kernel
theorem dX4_isSlot_6 : decode cX4_isSlot 6 = .ok (.if_icmp .ge 7, 3) := by decide +kernel
theorem dX4_isSlot_9 : decode cX4_isSlot 9 = .ok (.iconst 1, 1) := by decide +kernel
theorem dX4_isSlot_10 : decode cX4_isSlot 10 = .ok (.goto 4, 3) := by decide +kernel
theorem dX4_isSlot_13 : decode cX4_isSlot 13 = .ok (.iconst 0, 1) := by decide +kernel
theorem dX4_isSlot_14 : decode cX4_isSlot 14 = .ok (.ireturn, 1) := by decide +kernel
theorem dJ9_floorMod_7cf53_0 : decode cJ9_floorMod_7cf53 0 = .ok (.iload_n 0, 1) := by decide +kernel
theorem dJ9_floorMod_7cf53_1 : decode cJ9_floorMod_7cf53 1 = .ok (.iload_n 1, 1) := by decide +kernel
theorem dJ9_floorMod_7cf53_2 : decode cJ9_floorMod_7cf53 2 = .ok (.irem, 1) := by decide +kernel
theorem dJ9_floorMod_7cf53_3 : decode cJ9_floorMod_7cf53 3 = .ok (.istore_n 2, 1) := by decide +kernel
theorem dJ9_floorMod_7cf53_4 : decode cJ9_floorMod_7cf53 4 = .ok (.iload_n 0, 1) := by decide +kernel
theorem dJ9_floorMod_7cf53_5 : decode cJ9_floorMod_7cf53 5 = .ok (.iload_n 1, 1) := by decide +kernel
theorem dJ9_floorMod_7cf53_6 : decode cJ9_floorMod_7cf53 6 = .ok (.ixor, 1) := by decide +kernel
theorem dJ9_floorMod_7cf53_7 : decode cJ9_floorMod_7cf53 7 = .ok (.ifCond .ge 11, 3) := by decide +kernel
theorem dJ9_floorMod_7cf53_10 : decode cJ9_floorMod_7cf53 10 = .ok (.iload_n 2, 1) := by decide +kernel
theorem dJ9_floorMod_7cf53_11 : decode cJ9_floorMod_7cf53 11 = .ok (.ifCond .eq 7, 3) := by decide +kernel
theorem dJ9_floorMod_7cf53_14 : decode cJ9_floorMod_7cf53 14 = .ok (.iload_n 2, 1) := by decide +kernel
theorem dJ9_floorMod_7cf53_15 : decode cJ9_floorMod_7cf53 15 = .ok (.iload_n 1, 1) := by decide +kernel
theorem dJ9_floorMod_7cf53_16 : decode cJ9_floorMod_7cf53 16 = .ok (.iadd, 1) := by decide +kernel
theorem dJ9_floorMod_7cf53_17 : decode cJ9_floorMod_7cf53 17 = .ok (.ireturn, 1) := by decide +kernel
theorem dJ9_floorMod_7cf53_18 : decode cJ9_floorMod_7cf53 18 = .ok (.iload_n 2, 1) := by decide +kernel
theorem dJ9_floorMod_7cf53_19 : decode cJ9_floorMod_7cf53 19 = .ok (.ireturn, 1) := by decide +kernel
theorem dJ9_abs_0f7a4_0 : decode cJ9_abs_0f7a4 0 = .ok (.iload_n 0, 1) := by decide +kernel
theorem dJ9_abs_0f7a4_1 : decode cJ9_abs_0f7a4 1 = .ok (.ifCond .ge 8, 3) := by decide +kernel
theorem dJ9_abs_0f7a4_4 : decode cJ9_abs_0f7a4 4 = .ok (.iload_n 0, 1) := by decide +kernel
theorem dJ9_abs_0f7a4_5 : decode cJ9_abs_0f7a4 5 = .ok (.ineg, 1) := by decide +kernel
theorem dJ9_abs_0f7a4_6 : decode cJ9_abs_0f7a4 6 = .ok (.goto 4, 3) := by decide +kernel
theorem dJ9_abs_0f7a4_9 : decode cJ9_abs_0f7a4 9 = .ok (.iload_n 0, 1) := by decide +kernel
theorem dJ9_abs_0f7a4_10 : decode cJ9_abs_0f7a4 10 = .ok (.ireturn, 1) := by decide +kernel
theorem dJ9_min_7cf53_0 : decode cJ9_min_7cf53 0 = .ok (.iload_n 0, 1) := by decide +kernel
theorem dJ9_min_7cf53_1 : decode cJ9_min_7cf53 1 = .ok (.iload_n 1, 1) := by decide +kernel
theorem dJ9_min_7cf53_2 : decode cJ9_min_7cf53 2 = .ok (.if_icmp .gt 7, 3) := by decide +kernel
theorem dJ9_min_7cf53_5 : decode cJ9_min_7cf53 5 = .ok (.iload_n 0, 1) := by decide +kernel
theorem dJ9_min_7cf53_6 : decode cJ9_min_7cf53 6 = .ok (.goto 4, 3) := by decide +kernel
theorem dJ9_min_7cf53_9 : decode cJ9_min_7cf53 9 = .ok (.iload_n 1, 1) := by decide +kernel
theorem dJ9_min_7cf53_10 : decode cJ9_min_7cf53 10 = .ok (.ireturn, 1) := by decide +kernel
