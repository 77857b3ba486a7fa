theorem d_H_init_0 : decode b_H_init 0 = .ok (.aload_n 0, 1) := by decide +kernel
theorem d_H_init_1 : decode b_H_init 1 = .ok (.invokespecial 1, 3) := by decide +kernel
theorem d_H_init_4 : decode b_H_init 4 = .ok (.aload_n 0, 1) := by decide +kernel
theorem d_H_init_5 : decode b_H_init 5 = .ok (.iconst 2, 1) := by decide +kernel
theorem d_H_init_6 : decode b_H_init 6 = .ok (.newarray .int, 2) := by decide +kernel
theorem d_H_init_8 : decode b_H_init 8 = .ok (.putfield 9, 3) := by decide +kernel
theorem d_H_init_11 : decode b_H_init 11 = .ok (.aload_n 0, 1) := by decide +kernel
theorem d_H_init_12 : decode b_H_init 12 = .ok (.iconst 2, 1) := by decide +kernel
theorem d_H_init_13 : decode b_H_init 13 = .ok (.newarray .int, 2) := by decide +kernel
theorem d_H_init_15 : decode b_H_init 15 = .ok (.putfield 13, 3) := by decide +kernel
theorem d_H_init_18 : decode b_H_init 18 = .ok (.aload_n 0, 1) := by decide +kernel
theorem d_H_init_19 : decode b_H_init 19 = .ok (.new 16, 3) := by decide +kernel
theorem d_H_init_22 : decode b_H_init 22 = .ok (.dup, 1) := by decide +kernel
theorem d_H_init_23 : decode b_H_init 23 = .ok (.invokespecial 18, 3) := by decide +kernel
theorem d_H_init_26 : decode b_H_init 26 = .ok (.putfield 19, 3) := by decide +kernel
theorem d_H_init_29 : decode b_H_init 29 = .ok (.aload_n 0, 1) := by decide +kernel
theorem d_H_init_30 : decode b_H_init 30 = .ok (.aload_n 0, 1) := by decide +kernel
theorem d_H_init_31 : decode b_H_init 31 = .ok (.getfield 19, 3) := by decide +kernel
theorem d_H_init_34 : decode b_H_init 34 = .ok (.getfield 23, 3) := by decide +kernel
theorem d_H_init_37 : decode b_H_init 37 = .ok (.putfield 27, 3) := by decide +kernel
theorem d_H_init_40 : decode b_H_init 40 = .ok (.aload_n 0, 1) := by decide +kernel
theorem d_H_init_41 : decode b_H_init 41 = .ok (.iconst 1, 1) := by decide +kernel
theorem d_H_init_42 : decode b_H_init 42 = .ok (.iconst 1, 1) := by decide +kernel
theorem d_H_init_43 : decode b_H_init 43 = .ok (.invokevirtual 28, 3) := by decide +kernel
theorem d_H_init_46 : decode b_H_init 46 = .ok (.return_, 1) := by decide +kernel
theorem d_H_begin_0 : decode b_H_begin 0 = .ok (.iload_n 1, 1) := by decide +kernel
theorem d_H_begin_1 : decode b_H_begin 1 = .ok (.iconst 1, 1) := by decide +kernel
theorem d_H_begin_2 : decode b_H_begin 2 = .ok (.if_icmp .lt 8, 3) := by decide +kernel
theorem d_H_begin_5 : decode b_H_begin 5 = .ok (.iload_n 1, 1) := by decide +kernel
theorem d_H_begin_6 : decode b_H_begin 6 = .ok (.iconst 4, 1) := by decide +kernel
theorem d_H_begin_7 : decode b_H_begin 7 = .ok (.if_icmp .le 13, 3) := by decide +kernel
theorem d_H_begin_10 : decode b_H_begin 10 = .ok (.new 32, 3) := by decide +kernel
theorem d_H_begin_13 : decode b_H_begin 13 = .ok (.dup, 1) := by decide +kernel
theorem d_H_begin_14 : decode b_H_begin 14 = .ok (.ldc 34, 2) := by decide +kernel
theorem d_H_begin_16 : decode b_H_begin 16 = .ok (.invokespecial 36, 3) := by decide +kernel
theorem d_H_begin_19 : decode b_H_begin 19 = .ok (.athrow, 1) := by decide +kernel
theorem d_H_begin_20 : decode b_H_begin 20 = .ok (.iload_n 2, 1) := by decide +kernel
theorem d_H_begin_21 : decode b_H_begin 21 = .ok (.iconst 1, 1) := by decide +kernel
theorem d_H_begin_22 : decode b_H_begin 22 = .ok (.if_icmp .lt 8, 3) := by decide +kernel
theorem d_H_begin_25 : decode b_H_begin 25 = .ok (.iload_n 2, 1) := by decide +kernel
theorem d_H_begin_26 : decode b_H_begin 26 = .ok (.iconst 2, 1) := by decide +kernel
theorem d_H_begin_27 : decode b_H_begin 27 = .ok (.if_icmp .le 13, 3) := by decide +kernel
theorem d_H_begin_30 : decode b_H_begin 30 = .ok (.new 32, 3) := by decide +kernel
theorem d_H_begin_33 : decode b_H_begin 33 = .ok (.dup, 1) := by decide +kernel
theorem d_H_begin_34 : decode b_H_begin 34 = .ok (.ldc 39, 2) := by decide +kernel
theorem d_H_begin_36 : decode b_H_begin 36 = .ok (.invokespecial 36, 3) := by decide +kernel
theorem d_H_begin_39 : decode b_H_begin 39 = .ok (.athrow, 1) := by decide +kernel
theorem d_H_begin_40 : decode b_H_begin 40 = .ok (.aload_n 0, 1) := by decide +kernel
theorem d_H_begin_41 : decode b_H_begin 41 = .ok (.iload_n 1, 1) := by decide +kernel
theorem d_H_begin_42 : decode b_H_begin 42 = .ok (.iload_n 2, 1) := by decide +kernel
theorem d_H_begin_43 : decode b_H_begin 43 = .ok (.invokevirtual 28, 3) := by decide +kernel
theorem d_H_begin_46 : decode b_H_begin 46 = .ok (.return_, 1) := by decide +kernel
theorem d_H_set_0 : decode b_H_set 0 = .ok (.aload_n 0, 1) := by decide +kernel
theorem d_H_set_1 : decode b_H_set 1 = .ok (.iload_n 1, 1) := by decide +kernel
theorem d_H_set_2 : decode b_H_set 2 = .ok (.invokevirtual 41, 3) := by decide +kernel
theorem d_H_set_5 : decode b_H_set 5 = .ok (.ifCond .ne 13, 3) := by decide +kernel
theorem d_H_set_8 : decode b_H_set 8 = .ok (.new 45, 3) := by decide +kernel
theorem d_H_set_11 : decode b_H_set 11 = .ok (.dup, 1) := by decide +kernel
theorem d_H_set_12 : decode b_H_set 12 = .ok (.ldc 47, 2) := by decide +kernel
theorem d_H_set_14 : decode b_H_set 14 = .ok (.invokespecial 49, 3) := by decide +kernel
theorem d_H_set_17 : decode b_H_set 17 = .ok (.athrow, 1) := by decide +kernel
theorem d_H_set_18 : decode b_H_set 18 = .ok (.aload_n 0, 1) := by decide +kernel
theorem d_H_set_19 : decode b_H_set 19 = .ok (.invokevirtual 50, 3) := by decide +kernel
theorem d_H_set_22 : decode b_H_set 22 = .ok (.istore 4, 2) := by decide +kernel
theorem d_H_set_24 : decode b_H_set 24 = .ok (.iload_n 2, 1) := by decide +kernel
theorem d_H_set_25 : decode b_H_set 25 = .ok (.iload_n 3, 1) := by decide +kernel
theorem d_H_set_26 : decode b_H_set 26 = .ok (.ior, 1) := by decide +kernel
theorem d_H_set_27 : decode b_H_set 27 = .ok (.iload 4, 2) := by decide +kernel
theorem d_H_set_29 : decode b_H_set 29 = .ok (.iconst (-1), 1) := by decide +kernel
theorem d_H_set_30 : decode b_H_set 30 = .ok (.ixor, 1) := by decide +kernel
theorem d_H_set_31 : decode b_H_set 31 = .ok (.iand, 1) := by decide +kernel
theorem d_H_set_32 : decode b_H_set 32 = .ok (.ifCond .eq 13, 3) := by decide +kernel
theorem d_H_set_35 : decode b_H_set 35 = .ok (.new 32, 3) := by decide +kernel
theorem d_H_set_38 : decode b_H_set 38 = .ok (.dup, 1) := by decide +kernel
theorem d_H_set_39 : decode b_H_set 39 = .ok (.ldc 54, 2) := by decide +kernel
theorem d_H_set_41 : decode b_H_set 41 = .ok (.invokespecial 36, 3) := by decide +kernel
theorem d_H_set_44 : decode b_H_set 44 = .ok (.athrow, 1) := by decide +kernel
theorem d_H_set_45 : decode b_H_set 45 = .ok (.iload_n 2, 1) := by decide +kernel
theorem d_H_set_46 : decode b_H_set 46 = .ok (.iload_n 3, 1) := by decide +kernel
theorem d_H_set_47 : decode b_H_set 47 = .ok (.iand, 1) := by decide +kernel
theorem d_H_set_48 : decode b_H_set 48 = .ok (.ifCond .eq 13, 3) := by decide +kernel
theorem d_H_set_51 : decode b_H_set 51 = .ok (.new 32, 3) := by decide +kernel
theorem d_H_set_54 : decode b_H_set 54 = .ok (.dup, 1) := by decide +kernel
theorem d_H_set_55 : decode b_H_set 55 = .ok (.ldc 56, 2) := by decide +kernel
theorem d_H_set_57 : decode b_H_set 57 = .ok (.invokespecial 36, 3) := by decide +kernel
theorem d_H_set_60 : decode b_H_set 60 = .ok (.athrow, 1) := by decide +kernel
theorem d_H_set_61 : decode b_H_set 61 = .ok (.aload_n 0, 1) := by decide +kernel
theorem d_H_set_62 : decode b_H_set 62 = .ok (.getfield 9, 3) := by decide +kernel
theorem d_H_set_65 : decode b_H_set 65 = .ok (.iload_n 1, 1) := by decide +kernel
theorem d_H_set_66 : decode b_H_set 66 = .ok (.iload_n 2, 1) := by decide +kernel
theorem d_H_set_67 : decode b_H_set 67 = .ok (.iastore, 1) := by decide +kernel
theorem d_H_set_68 : decode b_H_set 68 = .ok (.aload_n 0, 1) := by decide +kernel
theorem d_H_set_69 : decode b_H_set 69 = .ok (.getfield 13, 3) := by decide +kernel
theorem d_H_set_72 : decode b_H_set 72 = .ok (.iload_n 1, 1) := by decide +kernel
theorem d_H_set_73 : decode b_H_set 73 = .ok (.iload 4, 2) := by decide +kernel
theorem d_H_set_75 : decode b_H_set 75 = .ok (.iload_n 2, 1) := by decide +kernel
theorem d_H_set_76 : decode b_H_set 76 = .ok (.iload_n 3, 1) := by decide +kernel
theorem d_H_set_77 : decode b_H_set 77 = .ok (.ior, 1) := by decide +kernel
theorem d_H_set_78 : decode b_H_set 78 = .ok (.iconst (-1), 1) := by decide +kernel
theorem d_H_set_79 : decode b_H_set 79 = .ok (.ixor, 1) := by decide +kernel
theorem d_H_set_80 : decode b_H_set 80 = .ok (.iand, 1) := by decide +kernel
theorem d_H_set_81 : decode b_H_set 81 = .ok (.iastore, 1) := by decide +kernel
theorem d_H_set_82 : decode b_H_set 82 = .ok (.aload_n 0, 1) := by decide +kernel
theorem d_H_set_83 : decode b_H_set 83 = .ok (.invokevirtual 58, 3) := by decide +kernel
theorem d_H_set_86 : decode b_H_set 86 = .ok (.return_, 1) := by decide +kernel
theorem d_H_candidates_0 : decode b_H_candidates 0 = .ok (.aload_n 0, 1) := by decide +kernel
theorem d_H_candidates_1 : decode b_H_candidates 1 = .ok (.invokevirtual 61, 3) := by decide +kernel
theorem d_H_candidates_4 : decode b_H_candidates 4 = .ok (.aload_n 0, 1) := by decide +kernel
theorem d_H_candidates_5 : decode b_H_candidates 5 = .ok (.getfield 27, 3) := by decide +kernel
theorem d_H_candidates_8 : decode b_H_candidates 8 = .ok (.getfield 64, 3) := by decide +kernel
theorem d_H_candidates_11 : decode b_H_candidates 11 = .ok (.ireturn, 1) := by decide +kernel
theorem d_H_candidate_0 : decode b_H_candidate 0 = .ok (.aload_n 0, 1) := by decide +kernel
theorem d_H_candidate_1 : decode b_H_candidate 1 = .ok (.invokevirtual 61, 3) := by decide +kernel
theorem d_H_candidate_4 : decode b_H_candidate 4 = .ok (.iload_n 1, 1) := by decide +kernel
theorem d_H_candidate_5 : decode b_H_candidate 5 = .ok (.ifCond .lt 14, 3) := by decide +kernel
theorem d_H_candidate_8 : decode b_H_candidate 8 = .ok (.iload_n 1, 1) := by decide +kernel
theorem d_H_candidate_9 : decode b_H_candidate 9 = .ok (.aload_n 0, 1) := by decide +kernel
theorem d_H_candidate_10 : decode b_H_candidate 10 = .ok (.getfield 27, 3) := by decide +kernel
theorem d_H_candidate_13 : decode b_H_candidate 13 = .ok (.getfield 64, 3) := by decide +kernel
theorem d_H_candidate_16 : decode b_H_candidate 16 = .ok (.if_icmp .lt 13, 3) := by decide +kernel
theorem d_H_candidate_19 : decode b_H_candidate 19 = .ok (.new 45, 3) := by decide +kernel
theorem d_H_candidate_22 : decode b_H_candidate 22 = .ok (.dup, 1) := by decide +kernel
theorem d_H_candidate_23 : decode b_H_candidate 23 = .ok (.ldc 70, 2) := by decide +kernel
theorem d_H_candidate_25 : decode b_H_candidate 25 = .ok (.invokespecial 49, 3) := by decide +kernel
theorem d_H_candidate_28 : decode b_H_candidate 28 = .ok (.athrow, 1) := by decide +kernel
theorem d_H_candidate_29 : decode b_H_candidate 29 = .ok (.iload_n 2, 1) := by decide +kernel
theorem d_H_candidate_30 : decode b_H_candidate 30 = .ok (.tableswitch 96 0 4 #[34, 44, 54, 64, 81], 34) := by decide +kernel
theorem d_H_candidate_64 : decode b_H_candidate 64 = .ok (.aload_n 0, 1) := by decide +kernel
theorem d_H_candidate_65 : decode b_H_candidate 65 = .ok (.getfield 27, 3) := by decide +kernel
theorem d_H_candidate_68 : decode b_H_candidate 68 = .ok (.getfield 72, 3) := by decide +kernel
theorem d_H_candidate_71 : decode b_H_candidate 71 = .ok (.iload_n 1, 1) := by decide +kernel
theorem d_H_candidate_72 : decode b_H_candidate 72 = .ok (.iaload, 1) := by decide +kernel
theorem d_H_candidate_73 : decode b_H_candidate 73 = .ok (.ireturn, 1) := by decide +kernel
theorem d_H_candidate_74 : decode b_H_candidate 74 = .ok (.aload_n 0, 1) := by decide +kernel
theorem d_H_candidate_75 : decode b_H_candidate 75 = .ok (.getfield 27, 3) := by decide +kernel
theorem d_H_candidate_78 : decode b_H_candidate 78 = .ok (.getfield 75, 3) := by decide +kernel
theorem d_H_candidate_81 : decode b_H_candidate 81 = .ok (.iload_n 1, 1) := by decide +kernel
theorem d_H_candidate_82 : decode b_H_candidate 82 = .ok (.iaload, 1) := by decide +kernel
theorem d_H_candidate_83 : decode b_H_candidate 83 = .ok (.ireturn, 1) := by decide +kernel
theorem d_H_candidate_84 : decode b_H_candidate 84 = .ok (.aload_n 0, 1) := by decide +kernel
theorem d_H_candidate_85 : decode b_H_candidate 85 = .ok (.getfield 27, 3) := by decide +kernel
theorem d_H_candidate_88 : decode b_H_candidate 88 = .ok (.getfield 78, 3) := by decide +kernel
theorem d_H_candidate_91 : decode b_H_candidate 91 = .ok (.iload_n 1, 1) := by decide +kernel
theorem d_H_candidate_92 : decode b_H_candidate 92 = .ok (.iaload, 1) := by decide +kernel
theorem d_H_candidate_93 : decode b_H_candidate 93 = .ok (.ireturn, 1) := by decide +kernel
theorem d_H_candidate_94 : decode b_H_candidate 94 = .ok (.aload_n 0, 1) := by decide +kernel
theorem d_H_candidate_95 : decode b_H_candidate 95 = .ok (.getfield 27, 3) := by decide +kernel
theorem d_H_candidate_98 : decode b_H_candidate 98 = .ok (.iload_n 1, 1) := by decide +kernel
theorem d_H_candidate_99 : decode b_H_candidate 99 = .ok (.invokevirtual 81, 3) := by decide +kernel
theorem d_H_candidate_102 : decode b_H_candidate 102 = .ok (.ifCond .eq 7, 3) := by decide +kernel
theorem d_H_candidate_105 : decode b_H_candidate 105 = .ok (.iconst 1, 1) := by decide +kernel
theorem d_H_candidate_106 : decode b_H_candidate 106 = .ok (.goto 4, 3) := by decide +kernel
theorem d_H_candidate_109 : decode b_H_candidate 109 = .ok (.iconst 0, 1) := by decide +kernel
theorem d_H_candidate_110 : decode b_H_candidate 110 = .ok (.ireturn, 1) := by decide +kernel
theorem d_H_candidate_111 : decode b_H_candidate 111 = .ok (.aload_n 0, 1) := by decide +kernel
theorem d_H_candidate_112 : decode b_H_candidate 112 = .ok (.getfield 27, 3) := by decide +kernel
theorem d_H_candidate_115 : decode b_H_candidate 115 = .ok (.getfield 84, 3) := by decide +kernel
theorem d_H_candidate_118 : decode b_H_candidate 118 = .ok (.iload_n 1, 1) := by decide +kernel
theorem d_H_candidate_119 : decode b_H_candidate 119 = .ok (.iaload, 1) := by decide +kernel
theorem d_H_candidate_120 : decode b_H_candidate 120 = .ok (.aload_n 0, 1) := by decide +kernel
theorem d_H_candidate_121 : decode b_H_candidate 121 = .ok (.invokevirtual 50, 3) := by decide +kernel
theorem d_H_candidate_124 : decode b_H_candidate 124 = .ok (.iand, 1) := by decide +kernel
theorem d_H_candidate_125 : decode b_H_candidate 125 = .ok (.ireturn, 1) := by decide +kernel
theorem d_H_candidate_126 : decode b_H_candidate 126 = .ok (.new 32, 3) := by decide +kernel
theorem d_H_candidate_129 : decode b_H_candidate 129 = .ok (.dup, 1) := by decide +kernel
theorem d_H_candidate_130 : decode b_H_candidate 130 = .ok (.ldc 87, 2) := by decide +kernel
theorem d_H_candidate_132 : decode b_H_candidate 132 = .ok (.invokespecial 36, 3) := by decide +kernel
theorem d_H_candidate_135 : decode b_H_candidate 135 = .ok (.athrow, 1) := by decide +kernel
theorem d_H_least_0 : decode b_H_least 0 = .ok (.aload_n 0, 1) := by decide +kernel
theorem d_H_least_1 : decode b_H_least 1 = .ok (.invokevirtual 89, 3) := by decide +kernel
theorem d_H_least_4 : decode b_H_least 4 = .ok (.aload_n 0, 1) := by decide +kernel
theorem d_H_least_5 : decode b_H_least 5 = .ok (.getfield 19, 3) := by decide +kernel
theorem d_H_least_8 : decode b_H_least 8 = .ok (.getfield 92, 3) := by decide +kernel
theorem d_H_least_11 : decode b_H_least 11 = .ok (.ireturn, 1) := by decide +kernel
theorem d_H_parts_0 : decode b_H_parts 0 = .ok (.aload_n 0, 1) := by decide +kernel
theorem d_H_parts_1 : decode b_H_parts 1 = .ok (.invokevirtual 89, 3) := by decide +kernel
theorem d_H_parts_4 : decode b_H_parts 4 = .ok (.aload_n 0, 1) := by decide +kernel
theorem d_H_parts_5 : decode b_H_parts 5 = .ok (.getfield 19, 3) := by decide +kernel
theorem d_H_parts_8 : decode b_H_parts 8 = .ok (.getfield 95, 3) := by decide +kernel
theorem d_H_parts_11 : decode b_H_parts 11 = .ok (.ireturn, 1) := by decide +kernel
theorem d_H_chosen_0 : decode b_H_chosen 0 = .ok (.aload_n 0, 1) := by decide +kernel
theorem d_H_chosen_1 : decode b_H_chosen 1 = .ok (.invokevirtual 89, 3) := by decide +kernel
theorem d_H_chosen_4 : decode b_H_chosen 4 = .ok (.iload_n 1, 1) := by decide +kernel
theorem d_H_chosen_5 : decode b_H_chosen 5 = .ok (.ifCond .lt 14, 3) := by decide +kernel
theorem d_H_chosen_8 : decode b_H_chosen 8 = .ok (.iload_n 1, 1) := by decide +kernel
theorem d_H_chosen_9 : decode b_H_chosen 9 = .ok (.aload_n 0, 1) := by decide +kernel
theorem d_H_chosen_10 : decode b_H_chosen 10 = .ok (.getfield 19, 3) := by decide +kernel
theorem d_H_chosen_13 : decode b_H_chosen 13 = .ok (.getfield 92, 3) := by decide +kernel
theorem d_H_chosen_16 : decode b_H_chosen 16 = .ok (.if_icmp .lt 13, 3) := by decide +kernel
theorem d_H_chosen_19 : decode b_H_chosen 19 = .ok (.new 45, 3) := by decide +kernel
theorem d_H_chosen_22 : decode b_H_chosen 22 = .ok (.dup, 1) := by decide +kernel
theorem d_H_chosen_23 : decode b_H_chosen 23 = .ok (.ldc 98, 2) := by decide +kernel
theorem d_H_chosen_25 : decode b_H_chosen 25 = .ok (.invokespecial 49, 3) := by decide +kernel
theorem d_H_chosen_28 : decode b_H_chosen 28 = .ok (.athrow, 1) := by decide +kernel
theorem d_H_chosen_29 : decode b_H_chosen 29 = .ok (.aload_n 0, 1) := by decide +kernel
theorem d_H_chosen_30 : decode b_H_chosen 30 = .ok (.getfield 19, 3) := by decide +kernel
theorem d_H_chosen_33 : decode b_H_chosen 33 = .ok (.getfield 100, 3) := by decide +kernel
theorem d_H_chosen_36 : decode b_H_chosen 36 = .ok (.iload_n 1, 1) := by decide +kernel
theorem d_H_chosen_37 : decode b_H_chosen 37 = .ok (.iaload, 1) := by decide +kernel
theorem d_H_chosen_38 : decode b_H_chosen 38 = .ok (.ireturn, 1) := by decide +kernel
theorem d_H_value_0 : decode b_H_value 0 = .ok (.aload_n 0, 1) := by decide +kernel
theorem d_H_value_1 : decode b_H_value 1 = .ok (.iload_n 1, 1) := by decide +kernel
theorem d_H_value_2 : decode b_H_value 2 = .ok (.invokevirtual 41, 3) := by decide +kernel
theorem d_H_value_5 : decode b_H_value 5 = .ok (.ifCond .ne 13, 3) := by decide +kernel
theorem d_H_value_8 : decode b_H_value 8 = .ok (.new 45, 3) := by decide +kernel
theorem d_H_value_11 : decode b_H_value 11 = .ok (.dup, 1) := by decide +kernel
theorem d_H_value_12 : decode b_H_value 12 = .ok (.ldc 47, 2) := by decide +kernel
theorem d_H_value_14 : decode b_H_value 14 = .ok (.invokespecial 49, 3) := by decide +kernel
theorem d_H_value_17 : decode b_H_value 17 = .ok (.athrow, 1) := by decide +kernel
theorem d_H_value_18 : decode b_H_value 18 = .ok (.iload_n 2, 1) := by decide +kernel
theorem d_H_value_19 : decode b_H_value 19 = .ok (.ifCond .lt 13, 3) := by decide +kernel
theorem d_H_value_22 : decode b_H_value 22 = .ok (.iload_n 2, 1) := by decide +kernel
theorem d_H_value_23 : decode b_H_value 23 = .ok (.iconst 1, 1) := by decide +kernel
theorem d_H_value_24 : decode b_H_value 24 = .ok (.aload_n 0, 1) := by decide +kernel
theorem d_H_value_25 : decode b_H_value 25 = .ok (.getfield 103, 3) := by decide +kernel
theorem d_H_value_28 : decode b_H_value 28 = .ok (.ishl, 1) := by decide +kernel
theorem d_H_value_29 : decode b_H_value 29 = .ok (.if_icmp .lt 13, 3) := by decide +kernel
theorem d_H_value_32 : decode b_H_value 32 = .ok (.new 32, 3) := by decide +kernel
theorem d_H_value_35 : decode b_H_value 35 = .ok (.dup, 1) := by decide +kernel
theorem d_H_value_36 : decode b_H_value 36 = .ok (.ldc 106, 2) := by decide +kernel
theorem d_H_value_38 : decode b_H_value 38 = .ok (.invokespecial 36, 3) := by decide +kernel
theorem d_H_value_41 : decode b_H_value 41 = .ok (.athrow, 1) := by decide +kernel
theorem d_H_value_42 : decode b_H_value 42 = .ok (.aload_n 0, 1) := by decide +kernel
theorem d_H_value_43 : decode b_H_value 43 = .ok (.invokevirtual 89, 3) := by decide +kernel
theorem d_H_value_46 : decode b_H_value 46 = .ok (.aload_n 0, 1) := by decide +kernel
theorem d_H_value_47 : decode b_H_value 47 = .ok (.getfield 19, 3) := by decide +kernel
theorem d_H_value_50 : decode b_H_value 50 = .ok (.iload_n 1, 1) := by decide +kernel
theorem d_H_value_51 : decode b_H_value 51 = .ok (.iload_n 2, 1) := by decide +kernel
theorem d_H_value_52 : decode b_H_value 52 = .ok (.invokevirtual 108, 3) := by decide +kernel
theorem d_H_value_55 : decode b_H_value 55 = .ok (.ireturn, 1) := by decide +kernel
theorem d_H_thinned_0 : decode b_H_thinned 0 = .ok (.aload_n 0, 1) := by decide +kernel
theorem d_H_thinned_1 : decode b_H_thinned 1 = .ok (.invokevirtual 61, 3) := by decide +kernel
theorem d_H_thinned_4 : decode b_H_thinned 4 = .ok (.aload_n 0, 1) := by decide +kernel
theorem d_H_thinned_5 : decode b_H_thinned 5 = .ok (.getfield 27, 3) := by decide +kernel
theorem d_H_thinned_8 : decode b_H_thinned 8 = .ok (.iload_n 1, 1) := by decide +kernel
theorem d_H_thinned_9 : decode b_H_thinned 9 = .ok (.invokevirtual 112, 3) := by decide +kernel
theorem d_H_thinned_12 : decode b_H_thinned 12 = .ok (.ireturn, 1) := by decide +kernel
theorem d_H_restart_0 : decode b_H_restart 0 = .ok (.aload_n 0, 1) := by decide +kernel
theorem d_H_restart_1 : decode b_H_restart 1 = .ok (.iload_n 1, 1) := by decide +kernel
theorem d_H_restart_2 : decode b_H_restart 2 = .ok (.putfield 103, 3) := by decide +kernel
theorem d_H_restart_5 : decode b_H_restart 5 = .ok (.aload_n 0, 1) := by decide +kernel
theorem d_H_restart_6 : decode b_H_restart 6 = .ok (.iload_n 2, 1) := by decide +kernel
theorem d_H_restart_7 : decode b_H_restart 7 = .ok (.putfield 116, 3) := by decide +kernel
theorem d_H_restart_10 : decode b_H_restart 10 = .ok (.iconst 0, 1) := by decide +kernel
theorem d_H_restart_11 : decode b_H_restart 11 = .ok (.istore_n 3, 1) := by decide +kernel
theorem d_H_restart_12 : decode b_H_restart 12 = .ok (.iload_n 3, 1) := by decide +kernel
theorem d_H_restart_13 : decode b_H_restart 13 = .ok (.iconst 2, 1) := by decide +kernel
theorem d_H_restart_14 : decode b_H_restart 14 = .ok (.if_icmp .ge 26, 3) := by decide +kernel
theorem d_H_restart_17 : decode b_H_restart 17 = .ok (.aload_n 0, 1) := by decide +kernel
theorem d_H_restart_18 : decode b_H_restart 18 = .ok (.getfield 9, 3) := by decide +kernel
theorem d_H_restart_21 : decode b_H_restart 21 = .ok (.iload_n 3, 1) := by decide +kernel
theorem d_H_restart_22 : decode b_H_restart 22 = .ok (.iconst 0, 1) := by decide +kernel
theorem d_H_restart_23 : decode b_H_restart 23 = .ok (.iastore, 1) := by decide +kernel
theorem d_H_restart_24 : decode b_H_restart 24 = .ok (.aload_n 0, 1) := by decide +kernel
theorem d_H_restart_25 : decode b_H_restart 25 = .ok (.getfield 13, 3) := by decide +kernel
theorem d_H_restart_28 : decode b_H_restart 28 = .ok (.iload_n 3, 1) := by decide +kernel
theorem d_H_restart_29 : decode b_H_restart 29 = .ok (.aload_n 0, 1) := by decide +kernel
theorem d_H_restart_30 : decode b_H_restart 30 = .ok (.invokevirtual 50, 3) := by decide +kernel
theorem d_H_restart_33 : decode b_H_restart 33 = .ok (.iastore, 1) := by decide +kernel
theorem d_H_restart_34 : decode b_H_restart 34 = .ok (.iinc 3 1, 3) := by decide +kernel
theorem d_H_restart_37 : decode b_H_restart 37 = .ok (.goto (-25), 3) := by decide +kernel
theorem d_H_restart_40 : decode b_H_restart 40 = .ok (.aload_n 0, 1) := by decide +kernel
theorem d_H_restart_41 : decode b_H_restart 41 = .ok (.invokevirtual 58, 3) := by decide +kernel
theorem d_H_restart_44 : decode b_H_restart 44 = .ok (.return_, 1) := by decide +kernel
theorem d_H_forget_0 : decode b_H_forget 0 = .ok (.aload_n 0, 1) := by decide +kernel
theorem d_H_forget_1 : decode b_H_forget 1 = .ok (.iconst 0, 1) := by decide +kernel
theorem d_H_forget_2 : decode b_H_forget 2 = .ok (.putfield 119, 3) := by decide +kernel
theorem d_H_forget_5 : decode b_H_forget 5 = .ok (.aload_n 0, 1) := by decide +kernel
theorem d_H_forget_6 : decode b_H_forget 6 = .ok (.iconst 0, 1) := by decide +kernel
theorem d_H_forget_7 : decode b_H_forget 7 = .ok (.putfield 123, 3) := by decide +kernel
theorem d_H_forget_10 : decode b_H_forget 10 = .ok (.return_, 1) := by decide +kernel
theorem d_H_gather_0 : decode b_H_gather 0 = .ok (.aload_n 0, 1) := by decide +kernel
theorem d_H_gather_1 : decode b_H_gather 1 = .ok (.getfield 119, 3) := by decide +kernel
theorem d_H_gather_4 : decode b_H_gather 4 = .ok (.ifCond .ne 31, 3) := by decide +kernel
theorem d_H_gather_7 : decode b_H_gather 7 = .ok (.aload_n 0, 1) := by decide +kernel
theorem d_H_gather_8 : decode b_H_gather 8 = .ok (.getfield 27, 3) := by decide +kernel
theorem d_H_gather_11 : decode b_H_gather 11 = .ok (.aload_n 0, 1) := by decide +kernel
theorem d_H_gather_12 : decode b_H_gather 12 = .ok (.getfield 103, 3) := by decide +kernel
theorem d_H_gather_15 : decode b_H_gather 15 = .ok (.aload_n 0, 1) := by decide +kernel
theorem d_H_gather_16 : decode b_H_gather 16 = .ok (.getfield 116, 3) := by decide +kernel
theorem d_H_gather_19 : decode b_H_gather 19 = .ok (.aload_n 0, 1) := by decide +kernel
theorem d_H_gather_20 : decode b_H_gather 20 = .ok (.getfield 9, 3) := by decide +kernel
theorem d_H_gather_23 : decode b_H_gather 23 = .ok (.aload_n 0, 1) := by decide +kernel
theorem d_H_gather_24 : decode b_H_gather 24 = .ok (.getfield 13, 3) := by decide +kernel
theorem d_H_gather_27 : decode b_H_gather 27 = .ok (.invokevirtual 126, 3) := by decide +kernel
theorem d_H_gather_30 : decode b_H_gather 30 = .ok (.aload_n 0, 1) := by decide +kernel
theorem d_H_gather_31 : decode b_H_gather 31 = .ok (.iconst 1, 1) := by decide +kernel
theorem d_H_gather_32 : decode b_H_gather 32 = .ok (.putfield 119, 3) := by decide +kernel
theorem d_H_gather_35 : decode b_H_gather 35 = .ok (.return_, 1) := by decide +kernel
theorem d_H_solve_0 : decode b_H_solve 0 = .ok (.aload_n 0, 1) := by decide +kernel
theorem d_H_solve_1 : decode b_H_solve 1 = .ok (.invokevirtual 61, 3) := by decide +kernel
theorem d_H_solve_4 : decode b_H_solve 4 = .ok (.aload_n 0, 1) := by decide +kernel
theorem d_H_solve_5 : decode b_H_solve 5 = .ok (.getfield 123, 3) := by decide +kernel
theorem d_H_solve_8 : decode b_H_solve 8 = .ok (.ifCond .ne 15, 3) := by decide +kernel
theorem d_H_solve_11 : decode b_H_solve 11 = .ok (.aload_n 0, 1) := by decide +kernel
theorem d_H_solve_12 : decode b_H_solve 12 = .ok (.getfield 19, 3) := by decide +kernel
theorem d_H_solve_15 : decode b_H_solve 15 = .ok (.invokevirtual 130, 3) := by decide +kernel
theorem d_H_solve_18 : decode b_H_solve 18 = .ok (.aload_n 0, 1) := by decide +kernel
theorem d_H_solve_19 : decode b_H_solve 19 = .ok (.iconst 1, 1) := by decide +kernel
theorem d_H_solve_20 : decode b_H_solve 20 = .ok (.putfield 123, 3) := by decide +kernel
theorem d_H_solve_23 : decode b_H_solve 23 = .ok (.return_, 1) := by decide +kernel
theorem d_H_isOutput_0 : decode b_H_isOutput 0 = .ok (.iload_n 1, 1) := by decide +kernel
theorem d_H_isOutput_1 : decode b_H_isOutput 1 = .ok (.ifCond .lt 15, 3) := by decide +kernel
theorem d_H_isOutput_4 : decode b_H_isOutput 4 = .ok (.iload_n 1, 1) := by decide +kernel
theorem d_H_isOutput_5 : decode b_H_isOutput 5 = .ok (.aload_n 0, 1) := by decide +kernel
theorem d_H_isOutput_6 : decode b_H_isOutput 6 = .ok (.getfield 116, 3) := by decide +kernel
theorem d_H_isOutput_9 : decode b_H_isOutput 9 = .ok (.if_icmp .ge 7, 3) := by decide +kernel
theorem d_H_isOutput_12 : decode b_H_isOutput 12 = .ok (.iconst 1, 1) := by decide +kernel
theorem d_H_isOutput_13 : decode b_H_isOutput 13 = .ok (.goto 4, 3) := by decide +kernel
theorem d_H_isOutput_16 : decode b_H_isOutput 16 = .ok (.iconst 0, 1) := by decide +kernel
theorem d_H_isOutput_17 : decode b_H_isOutput 17 = .ok (.ireturn, 1) := by decide +kernel
theorem d_H_allInputs_0 : decode b_H_allInputs 0 = .ok (.iconst 1, 1) := by decide +kernel
theorem d_H_allInputs_1 : decode b_H_allInputs 1 = .ok (.iconst 1, 1) := by decide +kernel
theorem d_H_allInputs_2 : decode b_H_allInputs 2 = .ok (.aload_n 0, 1) := by decide +kernel
theorem d_H_allInputs_3 : decode b_H_allInputs 3 = .ok (.getfield 103, 3) := by decide +kernel
theorem d_H_allInputs_6 : decode b_H_allInputs 6 = .ok (.ishl, 1) := by decide +kernel
theorem d_H_allInputs_7 : decode b_H_allInputs 7 = .ok (.ishl, 1) := by decide +kernel
theorem d_H_allInputs_8 : decode b_H_allInputs 8 = .ok (.iconst 1, 1) := by decide +kernel
theorem d_H_allInputs_9 : decode b_H_allInputs 9 = .ok (.isub, 1) := by decide +kernel
theorem d_H_allInputs_10 : decode b_H_allInputs 10 = .ok (.ireturn, 1) := by decide +kernel
