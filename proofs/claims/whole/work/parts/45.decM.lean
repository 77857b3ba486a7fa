theorem d_M_init_0 : decode b_M_init 0 = .ok (.aload_n 0, 1) := by decide +kernel
theorem d_M_init_1 : decode b_M_init 1 = .ok (.invokespecial 1, 3) := by decide +kernel
theorem d_M_init_4 : decode b_M_init 4 = .ok (.aload_n 0, 1) := by decide +kernel
theorem d_M_init_5 : decode b_M_init 5 = .ok (.iconst 1, 1) := by decide +kernel
theorem d_M_init_6 : decode b_M_init 6 = .ok (.putfield 7, 3) := by decide +kernel
theorem d_M_init_9 : decode b_M_init 9 = .ok (.aload_n 0, 1) := by decide +kernel
theorem d_M_init_10 : decode b_M_init 10 = .ok (.iconst 1, 1) := by decide +kernel
theorem d_M_init_11 : decode b_M_init 11 = .ok (.putfield 13, 3) := by decide +kernel
theorem d_M_init_14 : decode b_M_init 14 = .ok (.aload_n 0, 1) := by decide +kernel
theorem d_M_init_15 : decode b_M_init 15 = .ok (.iconst 2, 1) := by decide +kernel
theorem d_M_init_16 : decode b_M_init 16 = .ok (.newarray .int, 2) := by decide +kernel
theorem d_M_init_18 : decode b_M_init 18 = .ok (.putfield 16, 3) := by decide +kernel
theorem d_M_init_21 : decode b_M_init 21 = .ok (.aload_n 0, 1) := by decide +kernel
theorem d_M_init_22 : decode b_M_init 22 = .ok (.iconst 2, 1) := by decide +kernel
theorem d_M_init_23 : decode b_M_init 23 = .ok (.newarray .int, 2) := by decide +kernel
theorem d_M_init_25 : decode b_M_init 25 = .ok (.putfield 20, 3) := by decide +kernel
theorem d_M_init_28 : decode b_M_init 28 = .ok (.aload_n 0, 1) := by decide +kernel
theorem d_M_init_29 : decode b_M_init 29 = .ok (.bipush 81, 2) := by decide +kernel
theorem d_M_init_31 : decode b_M_init 31 = .ok (.newarray .int, 2) := by decide +kernel
theorem d_M_init_33 : decode b_M_init 33 = .ok (.putfield 23, 3) := by decide +kernel
theorem d_M_init_36 : decode b_M_init 36 = .ok (.aload_n 0, 1) := by decide +kernel
theorem d_M_init_37 : decode b_M_init 37 = .ok (.bipush 81, 2) := by decide +kernel
theorem d_M_init_39 : decode b_M_init 39 = .ok (.newarray .int, 2) := by decide +kernel
theorem d_M_init_41 : decode b_M_init 41 = .ok (.putfield 26, 3) := by decide +kernel
theorem d_M_init_44 : decode b_M_init 44 = .ok (.aload_n 0, 1) := by decide +kernel
theorem d_M_init_45 : decode b_M_init 45 = .ok (.bipush 81, 2) := by decide +kernel
theorem d_M_init_47 : decode b_M_init 47 = .ok (.newarray .int, 2) := by decide +kernel
theorem d_M_init_49 : decode b_M_init 49 = .ok (.putfield 29, 3) := by decide +kernel
theorem d_M_init_52 : decode b_M_init 52 = .ok (.aload_n 0, 1) := by decide +kernel
theorem d_M_init_53 : decode b_M_init 53 = .ok (.bipush 81, 2) := by decide +kernel
theorem d_M_init_55 : decode b_M_init 55 = .ok (.newarray .int, 2) := by decide +kernel
theorem d_M_init_57 : decode b_M_init 57 = .ok (.putfield 32, 3) := by decide +kernel
theorem d_M_init_60 : decode b_M_init 60 = .ok (.aload_n 0, 1) := by decide +kernel
theorem d_M_init_61 : decode b_M_init 61 = .ok (.bipush 81, 2) := by decide +kernel
theorem d_M_init_63 : decode b_M_init 63 = .ok (.newarray .int, 2) := by decide +kernel
theorem d_M_init_65 : decode b_M_init 65 = .ok (.putfield 35, 3) := by decide +kernel
theorem d_M_init_68 : decode b_M_init 68 = .ok (.aload_n 0, 1) := by decide +kernel
theorem d_M_init_69 : decode b_M_init 69 = .ok (.bipush 81, 2) := by decide +kernel
theorem d_M_init_71 : decode b_M_init 71 = .ok (.newarray .int, 2) := by decide +kernel
theorem d_M_init_73 : decode b_M_init 73 = .ok (.putfield 38, 3) := by decide +kernel
theorem d_M_init_76 : decode b_M_init 76 = .ok (.aload_n 0, 1) := by decide +kernel
theorem d_M_init_77 : decode b_M_init 77 = .ok (.ldc 41, 2) := by decide +kernel
theorem d_M_init_79 : decode b_M_init 79 = .ok (.newarray .boolean, 2) := by decide +kernel
theorem d_M_init_81 : decode b_M_init 81 = .ok (.putfield 42, 3) := by decide +kernel
theorem d_M_init_84 : decode b_M_init 84 = .ok (.aload_n 0, 1) := by decide +kernel
theorem d_M_init_85 : decode b_M_init 85 = .ok (.ldc 41, 2) := by decide +kernel
theorem d_M_init_87 : decode b_M_init 87 = .ok (.newarray .int, 2) := by decide +kernel
theorem d_M_init_89 : decode b_M_init 89 = .ok (.putfield 46, 3) := by decide +kernel
theorem d_M_init_92 : decode b_M_init 92 = .ok (.aload_n 0, 1) := by decide +kernel
theorem d_M_init_93 : decode b_M_init 93 = .ok (.ldc 41, 2) := by decide +kernel
theorem d_M_init_95 : decode b_M_init 95 = .ok (.newarray .int, 2) := by decide +kernel
theorem d_M_init_97 : decode b_M_init 97 = .ok (.putfield 49, 3) := by decide +kernel
theorem d_M_init_100 : decode b_M_init 100 = .ok (.aload_n 0, 1) := by decide +kernel
theorem d_M_init_101 : decode b_M_init 101 = .ok (.ldc 41, 2) := by decide +kernel
theorem d_M_init_103 : decode b_M_init 103 = .ok (.newarray .int, 2) := by decide +kernel
theorem d_M_init_105 : decode b_M_init 105 = .ok (.putfield 52, 3) := by decide +kernel
theorem d_M_init_108 : decode b_M_init 108 = .ok (.aload_n 0, 1) := by decide +kernel
theorem d_M_init_109 : decode b_M_init 109 = .ok (.ldc 41, 2) := by decide +kernel
theorem d_M_init_111 : decode b_M_init 111 = .ok (.newarray .long, 2) := by decide +kernel
theorem d_M_init_113 : decode b_M_init 113 = .ok (.putfield 55, 3) := by decide +kernel
theorem d_M_init_116 : decode b_M_init 116 = .ok (.aload_n 0, 1) := by decide +kernel
theorem d_M_init_117 : decode b_M_init 117 = .ok (.ldc 41, 2) := by decide +kernel
theorem d_M_init_119 : decode b_M_init 119 = .ok (.newarray .long, 2) := by decide +kernel
theorem d_M_init_121 : decode b_M_init 121 = .ok (.putfield 59, 3) := by decide +kernel
theorem d_M_init_124 : decode b_M_init 124 = .ok (.aload_n 0, 1) := by decide +kernel
theorem d_M_init_125 : decode b_M_init 125 = .ok (.bipush 40, 2) := by decide +kernel
theorem d_M_init_127 : decode b_M_init 127 = .ok (.newarray .int, 2) := by decide +kernel
theorem d_M_init_129 : decode b_M_init 129 = .ok (.putfield 62, 3) := by decide +kernel
theorem d_M_init_132 : decode b_M_init 132 = .ok (.aload_n 0, 1) := by decide +kernel
theorem d_M_init_133 : decode b_M_init 133 = .ok (.bipush 40, 2) := by decide +kernel
theorem d_M_init_135 : decode b_M_init 135 = .ok (.newarray .int, 2) := by decide +kernel
theorem d_M_init_137 : decode b_M_init 137 = .ok (.putfield 65, 3) := by decide +kernel
theorem d_M_init_140 : decode b_M_init 140 = .ok (.aload_n 0, 1) := by decide +kernel
theorem d_M_init_141 : decode b_M_init 141 = .ok (.bipush 40, 2) := by decide +kernel
theorem d_M_init_143 : decode b_M_init 143 = .ok (.newarray .int, 2) := by decide +kernel
theorem d_M_init_145 : decode b_M_init 145 = .ok (.putfield 68, 3) := by decide +kernel
theorem d_M_init_148 : decode b_M_init 148 = .ok (.aload_n 0, 1) := by decide +kernel
theorem d_M_init_149 : decode b_M_init 149 = .ok (.bipush 40, 2) := by decide +kernel
theorem d_M_init_151 : decode b_M_init 151 = .ok (.newarray .int, 2) := by decide +kernel
theorem d_M_init_153 : decode b_M_init 153 = .ok (.putfield 71, 3) := by decide +kernel
theorem d_M_init_156 : decode b_M_init 156 = .ok (.aload_n 0, 1) := by decide +kernel
theorem d_M_init_157 : decode b_M_init 157 = .ok (.bipush 40, 2) := by decide +kernel
theorem d_M_init_159 : decode b_M_init 159 = .ok (.newarray .int, 2) := by decide +kernel
theorem d_M_init_161 : decode b_M_init 161 = .ok (.putfield 74, 3) := by decide +kernel
theorem d_M_init_164 : decode b_M_init 164 = .ok (.aload_n 0, 1) := by decide +kernel
theorem d_M_init_165 : decode b_M_init 165 = .ok (.bipush 40, 2) := by decide +kernel
theorem d_M_init_167 : decode b_M_init 167 = .ok (.newarray .long, 2) := by decide +kernel
theorem d_M_init_169 : decode b_M_init 169 = .ok (.putfield 77, 3) := by decide +kernel
theorem d_M_init_172 : decode b_M_init 172 = .ok (.aload_n 0, 1) := by decide +kernel
theorem d_M_init_173 : decode b_M_init 173 = .ok (.bipush 40, 2) := by decide +kernel
theorem d_M_init_175 : decode b_M_init 175 = .ok (.newarray .long, 2) := by decide +kernel
theorem d_M_init_177 : decode b_M_init 177 = .ok (.putfield 80, 3) := by decide +kernel
theorem d_M_init_180 : decode b_M_init 180 = .ok (.return_, 1) := by decide +kernel
theorem d_M_thrown_0 : decode b_M_thrown 0 = .ok (.aload_n 0, 1) := by decide +kernel
theorem d_M_thrown_1 : decode b_M_thrown 1 = .ok (.getfield 83, 3) := by decide +kernel
theorem d_M_thrown_4 : decode b_M_thrown 4 = .ok (.ireturn, 1) := by decide +kernel
theorem d_M_refuse_0 : decode b_M_refuse 0 = .ok (.aload_n 0, 1) := by decide +kernel
theorem d_M_refuse_1 : decode b_M_refuse 1 = .ok (.iload_n 1, 1) := by decide +kernel
theorem d_M_refuse_2 : decode b_M_refuse 2 = .ok (.ifCond .eq 7, 3) := by decide +kernel
theorem d_M_refuse_5 : decode b_M_refuse 5 = .ok (.iconst 1, 1) := by decide +kernel
theorem d_M_refuse_6 : decode b_M_refuse 6 = .ok (.goto 12, 3) := by decide +kernel
theorem d_M_refuse_9 : decode b_M_refuse 9 = .ok (.iload_n 2, 1) := by decide +kernel
theorem d_M_refuse_10 : decode b_M_refuse 10 = .ok (.ifCond .eq 7, 3) := by decide +kernel
theorem d_M_refuse_13 : decode b_M_refuse 13 = .ok (.iconst 2, 1) := by decide +kernel
theorem d_M_refuse_14 : decode b_M_refuse 14 = .ok (.goto 4, 3) := by decide +kernel
theorem d_M_refuse_17 : decode b_M_refuse 17 = .ok (.iconst 0, 1) := by decide +kernel
theorem d_M_refuse_18 : decode b_M_refuse 18 = .ok (.putfield 83, 3) := by decide +kernel
theorem d_M_refuse_21 : decode b_M_refuse 21 = .ok (.aload_n 0, 1) := by decide +kernel
theorem d_M_refuse_22 : decode b_M_refuse 22 = .ok (.getfield 83, 3) := by decide +kernel
theorem d_M_refuse_25 : decode b_M_refuse 25 = .ok (.ifCond .le 7, 3) := by decide +kernel
theorem d_M_refuse_28 : decode b_M_refuse 28 = .ok (.iconst 1, 1) := by decide +kernel
theorem d_M_refuse_29 : decode b_M_refuse 29 = .ok (.goto 4, 3) := by decide +kernel
theorem d_M_refuse_32 : decode b_M_refuse 32 = .ok (.iconst 0, 1) := by decide +kernel
theorem d_M_refuse_33 : decode b_M_refuse 33 = .ok (.ireturn, 1) := by decide +kernel
theorem d_M_in_0 : decode b_M_in 0 = .ok (.iload_n 0, 1) := by decide +kernel
theorem d_M_in_1 : decode b_M_in 1 = .ok (.iload_n 1, 1) := by decide +kernel
theorem d_M_in_2 : decode b_M_in 2 = .ok (.if_icmp .lt 12, 3) := by decide +kernel
theorem d_M_in_5 : decode b_M_in 5 = .ok (.iload_n 0, 1) := by decide +kernel
theorem d_M_in_6 : decode b_M_in 6 = .ok (.iload_n 2, 1) := by decide +kernel
theorem d_M_in_7 : decode b_M_in 7 = .ok (.if_icmp .gt 7, 3) := by decide +kernel
theorem d_M_in_10 : decode b_M_in 10 = .ok (.iconst 1, 1) := by decide +kernel
theorem d_M_in_11 : decode b_M_in 11 = .ok (.goto 4, 3) := by decide +kernel
theorem d_M_in_14 : decode b_M_in 14 = .ok (.iconst 0, 1) := by decide +kernel
theorem d_M_in_15 : decode b_M_in 15 = .ok (.ireturn, 1) := by decide +kernel
theorem d_M_begin_0 : decode b_M_begin 0 = .ok (.aload_n 0, 1) := by decide +kernel
theorem d_M_begin_1 : decode b_M_begin 1 = .ok (.iload_n 1, 1) := by decide +kernel
theorem d_M_begin_2 : decode b_M_begin 2 = .ok (.iconst 1, 1) := by decide +kernel
theorem d_M_begin_3 : decode b_M_begin 3 = .ok (.iconst 4, 1) := by decide +kernel
theorem d_M_begin_4 : decode b_M_begin 4 = .ok (.invokestatic 86, 3) := by decide +kernel
theorem d_M_begin_7 : decode b_M_begin 7 = .ok (.ifCond .eq 12, 3) := by decide +kernel
theorem d_M_begin_10 : decode b_M_begin 10 = .ok (.iload_n 2, 1) := by decide +kernel
theorem d_M_begin_11 : decode b_M_begin 11 = .ok (.iconst 1, 1) := by decide +kernel
theorem d_M_begin_12 : decode b_M_begin 12 = .ok (.iconst 2, 1) := by decide +kernel
theorem d_M_begin_13 : decode b_M_begin 13 = .ok (.invokestatic 86, 3) := by decide +kernel
theorem d_M_begin_16 : decode b_M_begin 16 = .ok (.ifCond .ne 7, 3) := by decide +kernel
theorem d_M_begin_19 : decode b_M_begin 19 = .ok (.iconst 1, 1) := by decide +kernel
theorem d_M_begin_20 : decode b_M_begin 20 = .ok (.goto 4, 3) := by decide +kernel
theorem d_M_begin_23 : decode b_M_begin 23 = .ok (.iconst 0, 1) := by decide +kernel
theorem d_M_begin_24 : decode b_M_begin 24 = .ok (.iconst 0, 1) := by decide +kernel
theorem d_M_begin_25 : decode b_M_begin 25 = .ok (.invokevirtual 90, 3) := by decide +kernel
theorem d_M_begin_28 : decode b_M_begin 28 = .ok (.ifCond .ne 45, 3) := by decide +kernel
theorem d_M_begin_31 : decode b_M_begin 31 = .ok (.aload_n 0, 1) := by decide +kernel
theorem d_M_begin_32 : decode b_M_begin 32 = .ok (.iload_n 1, 1) := by decide +kernel
theorem d_M_begin_33 : decode b_M_begin 33 = .ok (.putfield 7, 3) := by decide +kernel
theorem d_M_begin_36 : decode b_M_begin 36 = .ok (.aload_n 0, 1) := by decide +kernel
theorem d_M_begin_37 : decode b_M_begin 37 = .ok (.iload_n 2, 1) := by decide +kernel
theorem d_M_begin_38 : decode b_M_begin 38 = .ok (.putfield 13, 3) := by decide +kernel
theorem d_M_begin_41 : decode b_M_begin 41 = .ok (.iconst 0, 1) := by decide +kernel
theorem d_M_begin_42 : decode b_M_begin 42 = .ok (.istore_n 3, 1) := by decide +kernel
theorem d_M_begin_43 : decode b_M_begin 43 = .ok (.iload_n 3, 1) := by decide +kernel
theorem d_M_begin_44 : decode b_M_begin 44 = .ok (.iconst 2, 1) := by decide +kernel
theorem d_M_begin_45 : decode b_M_begin 45 = .ok (.if_icmp .ge 23, 3) := by decide +kernel
theorem d_M_begin_48 : decode b_M_begin 48 = .ok (.aload_n 0, 1) := by decide +kernel
theorem d_M_begin_49 : decode b_M_begin 49 = .ok (.getfield 16, 3) := by decide +kernel
theorem d_M_begin_52 : decode b_M_begin 52 = .ok (.iload_n 3, 1) := by decide +kernel
theorem d_M_begin_53 : decode b_M_begin 53 = .ok (.iconst 0, 1) := by decide +kernel
theorem d_M_begin_54 : decode b_M_begin 54 = .ok (.iastore, 1) := by decide +kernel
theorem d_M_begin_55 : decode b_M_begin 55 = .ok (.aload_n 0, 1) := by decide +kernel
theorem d_M_begin_56 : decode b_M_begin 56 = .ok (.getfield 20, 3) := by decide +kernel
theorem d_M_begin_59 : decode b_M_begin 59 = .ok (.iload_n 3, 1) := by decide +kernel
theorem d_M_begin_60 : decode b_M_begin 60 = .ok (.iconst 0, 1) := by decide +kernel
theorem d_M_begin_61 : decode b_M_begin 61 = .ok (.iastore, 1) := by decide +kernel
theorem d_M_begin_62 : decode b_M_begin 62 = .ok (.iinc 3 1, 3) := by decide +kernel
theorem d_M_begin_65 : decode b_M_begin 65 = .ok (.goto (-22), 3) := by decide +kernel
theorem d_M_begin_68 : decode b_M_begin 68 = .ok (.aload_n 0, 1) := by decide +kernel
theorem d_M_begin_69 : decode b_M_begin 69 = .ok (.iconst 0, 1) := by decide +kernel
theorem d_M_begin_70 : decode b_M_begin 70 = .ok (.putfield 94, 3) := by decide +kernel
theorem d_M_begin_73 : decode b_M_begin 73 = .ok (.return_, 1) := by decide +kernel
theorem d_M_all_0 : decode b_M_all 0 = .ok (.iconst 1, 1) := by decide +kernel
theorem d_M_all_1 : decode b_M_all 1 = .ok (.iconst 1, 1) := by decide +kernel
theorem d_M_all_2 : decode b_M_all 2 = .ok (.aload_n 0, 1) := by decide +kernel
theorem d_M_all_3 : decode b_M_all 3 = .ok (.getfield 7, 3) := by decide +kernel
theorem d_M_all_6 : decode b_M_all 6 = .ok (.ishl, 1) := by decide +kernel
theorem d_M_all_7 : decode b_M_all 7 = .ok (.ishl, 1) := by decide +kernel
theorem d_M_all_8 : decode b_M_all 8 = .ok (.iconst 1, 1) := by decide +kernel
theorem d_M_all_9 : decode b_M_all 9 = .ok (.isub, 1) := by decide +kernel
theorem d_M_all_10 : decode b_M_all 10 = .ok (.ireturn, 1) := by decide +kernel
theorem d_M_set_0 : decode b_M_set 0 = .ok (.iload_n 1, 1) := by decide +kernel
theorem d_M_set_1 : decode b_M_set 1 = .ok (.iconst 0, 1) := by decide +kernel
theorem d_M_set_2 : decode b_M_set 2 = .ok (.aload_n 0, 1) := by decide +kernel
theorem d_M_set_3 : decode b_M_set 3 = .ok (.getfield 13, 3) := by decide +kernel
theorem d_M_set_6 : decode b_M_set 6 = .ok (.iconst 1, 1) := by decide +kernel
theorem d_M_set_7 : decode b_M_set 7 = .ok (.isub, 1) := by decide +kernel
theorem d_M_set_8 : decode b_M_set 8 = .ok (.invokestatic 86, 3) := by decide +kernel
theorem d_M_set_11 : decode b_M_set 11 = .ok (.istore 4, 2) := by decide +kernel
theorem d_M_set_13 : decode b_M_set 13 = .ok (.iload_n 2, 1) := by decide +kernel
theorem d_M_set_14 : decode b_M_set 14 = .ok (.iconst 0, 1) := by decide +kernel
theorem d_M_set_15 : decode b_M_set 15 = .ok (.aload_n 0, 1) := by decide +kernel
theorem d_M_set_16 : decode b_M_set 16 = .ok (.invokevirtual 98, 3) := by decide +kernel
theorem d_M_set_19 : decode b_M_set 19 = .ok (.invokestatic 86, 3) := by decide +kernel
theorem d_M_set_22 : decode b_M_set 22 = .ok (.ifCond .eq 25, 3) := by decide +kernel
theorem d_M_set_25 : decode b_M_set 25 = .ok (.iload_n 3, 1) := by decide +kernel
theorem d_M_set_26 : decode b_M_set 26 = .ok (.iconst 0, 1) := by decide +kernel
theorem d_M_set_27 : decode b_M_set 27 = .ok (.aload_n 0, 1) := by decide +kernel
theorem d_M_set_28 : decode b_M_set 28 = .ok (.invokevirtual 98, 3) := by decide +kernel
theorem d_M_set_31 : decode b_M_set 31 = .ok (.invokestatic 86, 3) := by decide +kernel
theorem d_M_set_34 : decode b_M_set 34 = .ok (.ifCond .eq 13, 3) := by decide +kernel
theorem d_M_set_37 : decode b_M_set 37 = .ok (.iload_n 2, 1) := by decide +kernel
theorem d_M_set_38 : decode b_M_set 38 = .ok (.iload_n 3, 1) := by decide +kernel
theorem d_M_set_39 : decode b_M_set 39 = .ok (.iand, 1) := by decide +kernel
theorem d_M_set_40 : decode b_M_set 40 = .ok (.ifCond .ne 7, 3) := by decide +kernel
theorem d_M_set_43 : decode b_M_set 43 = .ok (.iconst 1, 1) := by decide +kernel
theorem d_M_set_44 : decode b_M_set 44 = .ok (.goto 4, 3) := by decide +kernel
theorem d_M_set_47 : decode b_M_set 47 = .ok (.iconst 0, 1) := by decide +kernel
theorem d_M_set_48 : decode b_M_set 48 = .ok (.istore 5, 2) := by decide +kernel
theorem d_M_set_50 : decode b_M_set 50 = .ok (.aload_n 0, 1) := by decide +kernel
theorem d_M_set_51 : decode b_M_set 51 = .ok (.iload 4, 2) := by decide +kernel
theorem d_M_set_53 : decode b_M_set 53 = .ok (.ifCond .ne 7, 3) := by decide +kernel
theorem d_M_set_56 : decode b_M_set 56 = .ok (.iconst 1, 1) := by decide +kernel
theorem d_M_set_57 : decode b_M_set 57 = .ok (.goto 4, 3) := by decide +kernel
theorem d_M_set_60 : decode b_M_set 60 = .ok (.iconst 0, 1) := by decide +kernel
theorem d_M_set_61 : decode b_M_set 61 = .ok (.iload 4, 2) := by decide +kernel
theorem d_M_set_63 : decode b_M_set 63 = .ok (.ifCond .eq 12, 3) := by decide +kernel
theorem d_M_set_66 : decode b_M_set 66 = .ok (.iload 5, 2) := by decide +kernel
theorem d_M_set_68 : decode b_M_set 68 = .ok (.ifCond .ne 7, 3) := by decide +kernel
theorem d_M_set_71 : decode b_M_set 71 = .ok (.iconst 1, 1) := by decide +kernel
theorem d_M_set_72 : decode b_M_set 72 = .ok (.goto 4, 3) := by decide +kernel
theorem d_M_set_75 : decode b_M_set 75 = .ok (.iconst 0, 1) := by decide +kernel
theorem d_M_set_76 : decode b_M_set 76 = .ok (.invokevirtual 90, 3) := by decide +kernel
theorem d_M_set_79 : decode b_M_set 79 = .ok (.ifCond .ne 22, 3) := by decide +kernel
theorem d_M_set_82 : decode b_M_set 82 = .ok (.aload_n 0, 1) := by decide +kernel
theorem d_M_set_83 : decode b_M_set 83 = .ok (.getfield 16, 3) := by decide +kernel
theorem d_M_set_86 : decode b_M_set 86 = .ok (.iload_n 1, 1) := by decide +kernel
theorem d_M_set_87 : decode b_M_set 87 = .ok (.iload_n 2, 1) := by decide +kernel
theorem d_M_set_88 : decode b_M_set 88 = .ok (.iastore, 1) := by decide +kernel
theorem d_M_set_89 : decode b_M_set 89 = .ok (.aload_n 0, 1) := by decide +kernel
theorem d_M_set_90 : decode b_M_set 90 = .ok (.getfield 20, 3) := by decide +kernel
theorem d_M_set_93 : decode b_M_set 93 = .ok (.iload_n 1, 1) := by decide +kernel
theorem d_M_set_94 : decode b_M_set 94 = .ok (.iload_n 3, 1) := by decide +kernel
theorem d_M_set_95 : decode b_M_set 95 = .ok (.iastore, 1) := by decide +kernel
theorem d_M_set_96 : decode b_M_set 96 = .ok (.aload_n 0, 1) := by decide +kernel
theorem d_M_set_97 : decode b_M_set 97 = .ok (.iconst 0, 1) := by decide +kernel
theorem d_M_set_98 : decode b_M_set 98 = .ok (.putfield 94, 3) := by decide +kernel
theorem d_M_set_101 : decode b_M_set 101 = .ok (.return_, 1) := by decide +kernel
theorem d_M_digit_0 : decode b_M_digit 0 = .ok (.iload_n 0, 1) := by decide +kernel
theorem d_M_digit_1 : decode b_M_digit 1 = .ok (.istore_n 2, 1) := by decide +kernel
theorem d_M_digit_2 : decode b_M_digit 2 = .ok (.iconst 0, 1) := by decide +kernel
theorem d_M_digit_3 : decode b_M_digit 3 = .ok (.istore_n 3, 1) := by decide +kernel
theorem d_M_digit_4 : decode b_M_digit 4 = .ok (.iload_n 3, 1) := by decide +kernel
theorem d_M_digit_5 : decode b_M_digit 5 = .ok (.iload_n 1, 1) := by decide +kernel
theorem d_M_digit_6 : decode b_M_digit 6 = .ok (.if_icmp .ge 13, 3) := by decide +kernel
theorem d_M_digit_9 : decode b_M_digit 9 = .ok (.iload_n 2, 1) := by decide +kernel
theorem d_M_digit_10 : decode b_M_digit 10 = .ok (.iconst 3, 1) := by decide +kernel
theorem d_M_digit_11 : decode b_M_digit 11 = .ok (.idiv, 1) := by decide +kernel
theorem d_M_digit_12 : decode b_M_digit 12 = .ok (.istore_n 2, 1) := by decide +kernel
theorem d_M_digit_13 : decode b_M_digit 13 = .ok (.iinc 3 1, 3) := by decide +kernel
theorem d_M_digit_16 : decode b_M_digit 16 = .ok (.goto (-12), 3) := by decide +kernel
theorem d_M_digit_19 : decode b_M_digit 19 = .ok (.iload_n 2, 1) := by decide +kernel
theorem d_M_digit_20 : decode b_M_digit 20 = .ok (.iconst 3, 1) := by decide +kernel
theorem d_M_digit_21 : decode b_M_digit 21 = .ok (.irem, 1) := by decide +kernel
theorem d_M_digit_22 : decode b_M_digit 22 = .ok (.ireturn, 1) := by decide +kernel
theorem d_M_productsOf_0 : decode b_M_productsOf 0 = .ok (.aload_n 0, 1) := by decide +kernel
theorem d_M_productsOf_1 : decode b_M_productsOf 1 = .ok (.getfield 7, 3) := by decide +kernel
theorem d_M_productsOf_4 : decode b_M_productsOf 4 = .ok (.iconst 1, 1) := by decide +kernel
theorem d_M_productsOf_5 : decode b_M_productsOf 5 = .ok (.if_icmp .ne 7, 3) := by decide +kernel
theorem d_M_productsOf_8 : decode b_M_productsOf 8 = .ok (.iconst 3, 1) := by decide +kernel
theorem d_M_productsOf_9 : decode b_M_productsOf 9 = .ok (.goto 31, 3) := by decide +kernel
theorem d_M_productsOf_12 : decode b_M_productsOf 12 = .ok (.aload_n 0, 1) := by decide +kernel
theorem d_M_productsOf_13 : decode b_M_productsOf 13 = .ok (.getfield 7, 3) := by decide +kernel
theorem d_M_productsOf_16 : decode b_M_productsOf 16 = .ok (.iconst 2, 1) := by decide +kernel
theorem d_M_productsOf_17 : decode b_M_productsOf 17 = .ok (.if_icmp .ne 8, 3) := by decide +kernel
theorem d_M_productsOf_20 : decode b_M_productsOf 20 = .ok (.bipush 9, 2) := by decide +kernel
theorem d_M_productsOf_22 : decode b_M_productsOf 22 = .ok (.goto 18, 3) := by decide +kernel
theorem d_M_productsOf_25 : decode b_M_productsOf 25 = .ok (.aload_n 0, 1) := by decide +kernel
theorem d_M_productsOf_26 : decode b_M_productsOf 26 = .ok (.getfield 7, 3) := by decide +kernel
theorem d_M_productsOf_29 : decode b_M_productsOf 29 = .ok (.iconst 3, 1) := by decide +kernel
theorem d_M_productsOf_30 : decode b_M_productsOf 30 = .ok (.if_icmp .ne 8, 3) := by decide +kernel
theorem d_M_productsOf_33 : decode b_M_productsOf 33 = .ok (.bipush 27, 2) := by decide +kernel
theorem d_M_productsOf_35 : decode b_M_productsOf 35 = .ok (.goto 5, 3) := by decide +kernel
theorem d_M_productsOf_38 : decode b_M_productsOf 38 = .ok (.bipush 81, 2) := by decide +kernel
theorem d_M_productsOf_40 : decode b_M_productsOf 40 = .ok (.ireturn, 1) := by decide +kernel
theorem d_M_onesOf_0 : decode b_M_onesOf 0 = .ok (.iconst 0, 1) := by decide +kernel
theorem d_M_onesOf_1 : decode b_M_onesOf 1 = .ok (.istore_n 2, 1) := by decide +kernel
theorem d_M_onesOf_2 : decode b_M_onesOf 2 = .ok (.iconst 0, 1) := by decide +kernel
theorem d_M_onesOf_3 : decode b_M_onesOf 3 = .ok (.istore_n 3, 1) := by decide +kernel
theorem d_M_onesOf_4 : decode b_M_onesOf 4 = .ok (.iload_n 3, 1) := by decide +kernel
theorem d_M_onesOf_5 : decode b_M_onesOf 5 = .ok (.iconst 1, 1) := by decide +kernel
theorem d_M_onesOf_6 : decode b_M_onesOf 6 = .ok (.aload_n 0, 1) := by decide +kernel
theorem d_M_onesOf_7 : decode b_M_onesOf 7 = .ok (.getfield 7, 3) := by decide +kernel
theorem d_M_onesOf_10 : decode b_M_onesOf 10 = .ok (.ishl, 1) := by decide +kernel
theorem d_M_onesOf_11 : decode b_M_onesOf 11 = .ok (.if_icmp .ge 99, 3) := by decide +kernel
theorem d_M_onesOf_14 : decode b_M_onesOf 14 = .ok (.iconst 1, 1) := by decide +kernel
theorem d_M_onesOf_15 : decode b_M_onesOf 15 = .ok (.istore 4, 2) := by decide +kernel
theorem d_M_onesOf_17 : decode b_M_onesOf 17 = .ok (.iconst 0, 1) := by decide +kernel
theorem d_M_onesOf_18 : decode b_M_onesOf 18 = .ok (.istore 5, 2) := by decide +kernel
theorem d_M_onesOf_20 : decode b_M_onesOf 20 = .ok (.iload 5, 2) := by decide +kernel
theorem d_M_onesOf_22 : decode b_M_onesOf 22 = .ok (.aload_n 0, 1) := by decide +kernel
theorem d_M_onesOf_23 : decode b_M_onesOf 23 = .ok (.getfield 7, 3) := by decide +kernel
theorem d_M_onesOf_26 : decode b_M_onesOf 26 = .ok (.if_icmp .ge 63, 3) := by decide +kernel
theorem d_M_onesOf_29 : decode b_M_onesOf 29 = .ok (.iload_n 1, 1) := by decide +kernel
theorem d_M_onesOf_30 : decode b_M_onesOf 30 = .ok (.iload 5, 2) := by decide +kernel
theorem d_M_onesOf_32 : decode b_M_onesOf 32 = .ok (.invokestatic 102, 3) := by decide +kernel
theorem d_M_onesOf_35 : decode b_M_onesOf 35 = .ok (.istore 6, 2) := by decide +kernel
theorem d_M_onesOf_37 : decode b_M_onesOf 37 = .ok (.iload 4, 2) := by decide +kernel
theorem d_M_onesOf_39 : decode b_M_onesOf 39 = .ok (.ifCond .eq 41, 3) := by decide +kernel
theorem d_M_onesOf_42 : decode b_M_onesOf 42 = .ok (.iload 6, 2) := by decide +kernel
theorem d_M_onesOf_44 : decode b_M_onesOf 44 = .ok (.ifCond .eq 32, 3) := by decide +kernel
theorem d_M_onesOf_47 : decode b_M_onesOf 47 = .ok (.iload 6, 2) := by decide +kernel
theorem d_M_onesOf_49 : decode b_M_onesOf 49 = .ok (.iconst 1, 1) := by decide +kernel
theorem d_M_onesOf_50 : decode b_M_onesOf 50 = .ok (.if_icmp .ne 7, 3) := by decide +kernel
theorem d_M_onesOf_53 : decode b_M_onesOf 53 = .ok (.iconst 1, 1) := by decide +kernel
theorem d_M_onesOf_54 : decode b_M_onesOf 54 = .ok (.goto 4, 3) := by decide +kernel
theorem d_M_onesOf_57 : decode b_M_onesOf 57 = .ok (.iconst 0, 1) := by decide +kernel
theorem d_M_onesOf_58 : decode b_M_onesOf 58 = .ok (.iload_n 3, 1) := by decide +kernel
theorem d_M_onesOf_59 : decode b_M_onesOf 59 = .ok (.iload 5, 2) := by decide +kernel
theorem d_M_onesOf_61 : decode b_M_onesOf 61 = .ok (.ishr, 1) := by decide +kernel
theorem d_M_onesOf_62 : decode b_M_onesOf 62 = .ok (.iconst 1, 1) := by decide +kernel
theorem d_M_onesOf_63 : decode b_M_onesOf 63 = .ok (.iand, 1) := by decide +kernel
theorem d_M_onesOf_64 : decode b_M_onesOf 64 = .ok (.iconst 1, 1) := by decide +kernel
theorem d_M_onesOf_65 : decode b_M_onesOf 65 = .ok (.if_icmp .ne 7, 3) := by decide +kernel
theorem d_M_onesOf_68 : decode b_M_onesOf 68 = .ok (.iconst 1, 1) := by decide +kernel
theorem d_M_onesOf_69 : decode b_M_onesOf 69 = .ok (.goto 4, 3) := by decide +kernel
theorem d_M_onesOf_72 : decode b_M_onesOf 72 = .ok (.iconst 0, 1) := by decide +kernel
theorem d_M_onesOf_73 : decode b_M_onesOf 73 = .ok (.if_icmp .ne 7, 3) := by decide +kernel
theorem d_M_onesOf_76 : decode b_M_onesOf 76 = .ok (.iconst 1, 1) := by decide +kernel
theorem d_M_onesOf_77 : decode b_M_onesOf 77 = .ok (.goto 4, 3) := by decide +kernel
theorem d_M_onesOf_80 : decode b_M_onesOf 80 = .ok (.iconst 0, 1) := by decide +kernel
theorem d_M_onesOf_81 : decode b_M_onesOf 81 = .ok (.istore 4, 2) := by decide +kernel
theorem d_M_onesOf_83 : decode b_M_onesOf 83 = .ok (.iinc 5 1, 3) := by decide +kernel
theorem d_M_onesOf_86 : decode b_M_onesOf 86 = .ok (.goto (-66), 3) := by decide +kernel
theorem d_M_onesOf_89 : decode b_M_onesOf 89 = .ok (.iload 4, 2) := by decide +kernel
theorem d_M_onesOf_91 : decode b_M_onesOf 91 = .ok (.ifCond .eq 11, 3) := by decide +kernel
theorem d_M_onesOf_94 : decode b_M_onesOf 94 = .ok (.iload_n 2, 1) := by decide +kernel
theorem d_M_onesOf_95 : decode b_M_onesOf 95 = .ok (.iconst 1, 1) := by decide +kernel
theorem d_M_onesOf_96 : decode b_M_onesOf 96 = .ok (.iload_n 3, 1) := by decide +kernel
theorem d_M_onesOf_97 : decode b_M_onesOf 97 = .ok (.ishl, 1) := by decide +kernel
theorem d_M_onesOf_98 : decode b_M_onesOf 98 = .ok (.ior, 1) := by decide +kernel
theorem d_M_onesOf_99 : decode b_M_onesOf 99 = .ok (.goto 4, 3) := by decide +kernel
theorem d_M_onesOf_102 : decode b_M_onesOf 102 = .ok (.iload_n 2, 1) := by decide +kernel
theorem d_M_onesOf_103 : decode b_M_onesOf 103 = .ok (.istore_n 2, 1) := by decide +kernel
theorem d_M_onesOf_104 : decode b_M_onesOf 104 = .ok (.iinc 3 1, 3) := by decide +kernel
theorem d_M_onesOf_107 : decode b_M_onesOf 107 = .ok (.goto (-103), 3) := by decide +kernel
theorem d_M_onesOf_110 : decode b_M_onesOf 110 = .ok (.iload_n 2, 1) := by decide +kernel
theorem d_M_onesOf_111 : decode b_M_onesOf 111 = .ok (.ireturn, 1) := by decide +kernel
theorem d_M_outputsOf_0 : decode b_M_outputsOf 0 = .ok (.aload_n 0, 1) := by decide +kernel
theorem d_M_outputsOf_1 : decode b_M_outputsOf 1 = .ok (.iload_n 1, 1) := by decide +kernel
theorem d_M_outputsOf_2 : decode b_M_outputsOf 2 = .ok (.invokevirtual 106, 3) := by decide +kernel
theorem d_M_outputsOf_5 : decode b_M_outputsOf 5 = .ok (.istore_n 2, 1) := by decide +kernel
theorem d_M_outputsOf_6 : decode b_M_outputsOf 6 = .ok (.iconst 0, 1) := by decide +kernel
theorem d_M_outputsOf_7 : decode b_M_outputsOf 7 = .ok (.istore_n 3, 1) := by decide +kernel
theorem d_M_outputsOf_8 : decode b_M_outputsOf 8 = .ok (.iconst 0, 1) := by decide +kernel
theorem d_M_outputsOf_9 : decode b_M_outputsOf 9 = .ok (.istore 4, 2) := by decide +kernel
theorem d_M_outputsOf_11 : decode b_M_outputsOf 11 = .ok (.iload 4, 2) := by decide +kernel
theorem d_M_outputsOf_13 : decode b_M_outputsOf 13 = .ok (.aload_n 0, 1) := by decide +kernel
theorem d_M_outputsOf_14 : decode b_M_outputsOf 14 = .ok (.getfield 13, 3) := by decide +kernel
theorem d_M_outputsOf_17 : decode b_M_outputsOf 17 = .ok (.if_icmp .ge 42, 3) := by decide +kernel
theorem d_M_outputsOf_20 : decode b_M_outputsOf 20 = .ok (.iload_n 2, 1) := by decide +kernel
theorem d_M_outputsOf_21 : decode b_M_outputsOf 21 = .ok (.aload_n 0, 1) := by decide +kernel
theorem d_M_outputsOf_22 : decode b_M_outputsOf 22 = .ok (.getfield 16, 3) := by decide +kernel
theorem d_M_outputsOf_25 : decode b_M_outputsOf 25 = .ok (.iload 4, 2) := by decide +kernel
theorem d_M_outputsOf_27 : decode b_M_outputsOf 27 = .ok (.iaload, 1) := by decide +kernel
theorem d_M_outputsOf_28 : decode b_M_outputsOf 28 = .ok (.aload_n 0, 1) := by decide +kernel
theorem d_M_outputsOf_29 : decode b_M_outputsOf 29 = .ok (.getfield 20, 3) := by decide +kernel
theorem d_M_outputsOf_32 : decode b_M_outputsOf 32 = .ok (.iload 4, 2) := by decide +kernel
theorem d_M_outputsOf_34 : decode b_M_outputsOf 34 = .ok (.iaload, 1) := by decide +kernel
theorem d_M_outputsOf_35 : decode b_M_outputsOf 35 = .ok (.ior, 1) := by decide +kernel
theorem d_M_outputsOf_36 : decode b_M_outputsOf 36 = .ok (.iconst (-1), 1) := by decide +kernel
theorem d_M_outputsOf_37 : decode b_M_outputsOf 37 = .ok (.ixor, 1) := by decide +kernel
theorem d_M_outputsOf_38 : decode b_M_outputsOf 38 = .ok (.iand, 1) := by decide +kernel
theorem d_M_outputsOf_39 : decode b_M_outputsOf 39 = .ok (.ifCond .ne 12, 3) := by decide +kernel
theorem d_M_outputsOf_42 : decode b_M_outputsOf 42 = .ok (.iload_n 3, 1) := by decide +kernel
theorem d_M_outputsOf_43 : decode b_M_outputsOf 43 = .ok (.iconst 1, 1) := by decide +kernel
theorem d_M_outputsOf_44 : decode b_M_outputsOf 44 = .ok (.iload 4, 2) := by decide +kernel
theorem d_M_outputsOf_46 : decode b_M_outputsOf 46 = .ok (.ishl, 1) := by decide +kernel
theorem d_M_outputsOf_47 : decode b_M_outputsOf 47 = .ok (.ior, 1) := by decide +kernel
theorem d_M_outputsOf_48 : decode b_M_outputsOf 48 = .ok (.goto 4, 3) := by decide +kernel
theorem d_M_outputsOf_51 : decode b_M_outputsOf 51 = .ok (.iload_n 3, 1) := by decide +kernel
theorem d_M_outputsOf_52 : decode b_M_outputsOf 52 = .ok (.istore_n 3, 1) := by decide +kernel
theorem d_M_outputsOf_53 : decode b_M_outputsOf 53 = .ok (.iinc 4 1, 3) := by decide +kernel
theorem d_M_outputsOf_56 : decode b_M_outputsOf 56 = .ok (.goto (-45), 3) := by decide +kernel
theorem d_M_outputsOf_59 : decode b_M_outputsOf 59 = .ok (.iload_n 3, 1) := by decide +kernel
theorem d_M_outputsOf_60 : decode b_M_outputsOf 60 = .ok (.ireturn, 1) := by decide +kernel
theorem d_M_isCandidate_0 : decode b_M_isCandidate 0 = .ok (.aload_n 0, 1) := by decide +kernel
theorem d_M_isCandidate_1 : decode b_M_isCandidate 1 = .ok (.iload_n 1, 1) := by decide +kernel
theorem d_M_isCandidate_2 : decode b_M_isCandidate 2 = .ok (.invokevirtual 110, 3) := by decide +kernel
theorem d_M_isCandidate_5 : decode b_M_isCandidate 5 = .ok (.istore_n 2, 1) := by decide +kernel
theorem d_M_isCandidate_6 : decode b_M_isCandidate 6 = .ok (.iload_n 2, 1) := by decide +kernel
theorem d_M_isCandidate_7 : decode b_M_isCandidate 7 = .ok (.ifCond .eq 7, 3) := by decide +kernel
theorem d_M_isCandidate_10 : decode b_M_isCandidate 10 = .ok (.iconst 1, 1) := by decide +kernel
theorem d_M_isCandidate_11 : decode b_M_isCandidate 11 = .ok (.goto 4, 3) := by decide +kernel
theorem d_M_isCandidate_14 : decode b_M_isCandidate 14 = .ok (.iconst 0, 1) := by decide +kernel
theorem d_M_isCandidate_15 : decode b_M_isCandidate 15 = .ok (.istore_n 3, 1) := by decide +kernel
theorem d_M_isCandidate_16 : decode b_M_isCandidate 16 = .ok (.iconst 1, 1) := by decide +kernel
theorem d_M_isCandidate_17 : decode b_M_isCandidate 17 = .ok (.istore 4, 2) := by decide +kernel
theorem d_M_isCandidate_19 : decode b_M_isCandidate 19 = .ok (.iconst 0, 1) := by decide +kernel
theorem d_M_isCandidate_20 : decode b_M_isCandidate 20 = .ok (.istore 5, 2) := by decide +kernel
theorem d_M_isCandidate_22 : decode b_M_isCandidate 22 = .ok (.iload 5, 2) := by decide +kernel
theorem d_M_isCandidate_24 : decode b_M_isCandidate 24 = .ok (.aload_n 0, 1) := by decide +kernel
theorem d_M_isCandidate_25 : decode b_M_isCandidate 25 = .ok (.getfield 7, 3) := by decide +kernel
theorem d_M_isCandidate_28 : decode b_M_isCandidate 28 = .ok (.if_icmp .ge 53, 3) := by decide +kernel
theorem d_M_isCandidate_31 : decode b_M_isCandidate 31 = .ok (.iload_n 1, 1) := by decide +kernel
theorem d_M_isCandidate_32 : decode b_M_isCandidate 32 = .ok (.iload 5, 2) := by decide +kernel
theorem d_M_isCandidate_34 : decode b_M_isCandidate 34 = .ok (.invokestatic 102, 3) := by decide +kernel
theorem d_M_isCandidate_37 : decode b_M_isCandidate 37 = .ok (.istore 6, 2) := by decide +kernel
theorem d_M_isCandidate_39 : decode b_M_isCandidate 39 = .ok (.iload_n 3, 1) := by decide +kernel
theorem d_M_isCandidate_40 : decode b_M_isCandidate 40 = .ok (.ifCond .eq 27, 3) := by decide +kernel
theorem d_M_isCandidate_43 : decode b_M_isCandidate 43 = .ok (.iload 6, 2) := by decide +kernel
theorem d_M_isCandidate_45 : decode b_M_isCandidate 45 = .ok (.ifCond .eq 18, 3) := by decide +kernel
theorem d_M_isCandidate_48 : decode b_M_isCandidate 48 = .ok (.aload_n 0, 1) := by decide +kernel
theorem d_M_isCandidate_49 : decode b_M_isCandidate 49 = .ok (.iload_n 1, 1) := by decide +kernel
theorem d_M_isCandidate_50 : decode b_M_isCandidate 50 = .ok (.iload 6, 2) := by decide +kernel
theorem d_M_isCandidate_52 : decode b_M_isCandidate 52 = .ok (.iload 4, 2) := by decide +kernel
theorem d_M_isCandidate_54 : decode b_M_isCandidate 54 = .ok (.imul, 1) := by decide +kernel
theorem d_M_isCandidate_55 : decode b_M_isCandidate 55 = .ok (.isub, 1) := by decide +kernel
theorem d_M_isCandidate_56 : decode b_M_isCandidate 56 = .ok (.invokevirtual 110, 3) := by decide +kernel
theorem d_M_isCandidate_59 : decode b_M_isCandidate 59 = .ok (.iload_n 2, 1) := by decide +kernel
theorem d_M_isCandidate_60 : decode b_M_isCandidate 60 = .ok (.if_icmp .eq 7, 3) := by decide +kernel
theorem d_M_isCandidate_63 : decode b_M_isCandidate 63 = .ok (.iconst 1, 1) := by decide +kernel
theorem d_M_isCandidate_64 : decode b_M_isCandidate 64 = .ok (.goto 4, 3) := by decide +kernel
theorem d_M_isCandidate_67 : decode b_M_isCandidate 67 = .ok (.iconst 0, 1) := by decide +kernel
theorem d_M_isCandidate_68 : decode b_M_isCandidate 68 = .ok (.istore_n 3, 1) := by decide +kernel
theorem d_M_isCandidate_69 : decode b_M_isCandidate 69 = .ok (.iconst 3, 1) := by decide +kernel
theorem d_M_isCandidate_70 : decode b_M_isCandidate 70 = .ok (.iload 4, 2) := by decide +kernel
theorem d_M_isCandidate_72 : decode b_M_isCandidate 72 = .ok (.imul, 1) := by decide +kernel
theorem d_M_isCandidate_73 : decode b_M_isCandidate 73 = .ok (.istore 4, 2) := by decide +kernel
theorem d_M_isCandidate_75 : decode b_M_isCandidate 75 = .ok (.iinc 5 1, 3) := by decide +kernel
theorem d_M_isCandidate_78 : decode b_M_isCandidate 78 = .ok (.goto (-56), 3) := by decide +kernel
theorem d_M_isCandidate_81 : decode b_M_isCandidate 81 = .ok (.iload_n 3, 1) := by decide +kernel
theorem d_M_isCandidate_82 : decode b_M_isCandidate 82 = .ok (.ireturn, 1) := by decide +kernel
theorem d_M_partsOf_0 : decode b_M_partsOf 0 = .ok (.iconst 0, 1) := by decide +kernel
theorem d_M_partsOf_1 : decode b_M_partsOf 1 = .ok (.istore_n 2, 1) := by decide +kernel
theorem d_M_partsOf_2 : decode b_M_partsOf 2 = .ok (.iconst 0, 1) := by decide +kernel
theorem d_M_partsOf_3 : decode b_M_partsOf 3 = .ok (.istore_n 3, 1) := by decide +kernel
theorem d_M_partsOf_4 : decode b_M_partsOf 4 = .ok (.iload_n 3, 1) := by decide +kernel
theorem d_M_partsOf_5 : decode b_M_partsOf 5 = .ok (.aload_n 0, 1) := by decide +kernel
theorem d_M_partsOf_6 : decode b_M_partsOf 6 = .ok (.getfield 7, 3) := by decide +kernel
theorem d_M_partsOf_9 : decode b_M_partsOf 9 = .ok (.if_icmp .ge 25, 3) := by decide +kernel
theorem d_M_partsOf_12 : decode b_M_partsOf 12 = .ok (.iload_n 1, 1) := by decide +kernel
theorem d_M_partsOf_13 : decode b_M_partsOf 13 = .ok (.iload_n 3, 1) := by decide +kernel
theorem d_M_partsOf_14 : decode b_M_partsOf 14 = .ok (.invokestatic 102, 3) := by decide +kernel
theorem d_M_partsOf_17 : decode b_M_partsOf 17 = .ok (.ifCond .le 9, 3) := by decide +kernel
theorem d_M_partsOf_20 : decode b_M_partsOf 20 = .ok (.iload_n 2, 1) := by decide +kernel
theorem d_M_partsOf_21 : decode b_M_partsOf 21 = .ok (.iconst 1, 1) := by decide +kernel
theorem d_M_partsOf_22 : decode b_M_partsOf 22 = .ok (.iadd, 1) := by decide +kernel
theorem d_M_partsOf_23 : decode b_M_partsOf 23 = .ok (.goto 4, 3) := by decide +kernel
theorem d_M_partsOf_26 : decode b_M_partsOf 26 = .ok (.iload_n 2, 1) := by decide +kernel
theorem d_M_partsOf_27 : decode b_M_partsOf 27 = .ok (.istore_n 2, 1) := by decide +kernel
theorem d_M_partsOf_28 : decode b_M_partsOf 28 = .ok (.iinc 3 1, 3) := by decide +kernel
theorem d_M_partsOf_31 : decode b_M_partsOf 31 = .ok (.goto (-27), 3) := by decide +kernel
theorem d_M_partsOf_34 : decode b_M_partsOf 34 = .ok (.iload_n 2, 1) := by decide +kernel
theorem d_M_partsOf_35 : decode b_M_partsOf 35 = .ok (.ireturn, 1) := by decide +kernel
theorem d_M_find_0 : decode b_M_find 0 = .ok (.aload_n 0, 1) := by decide +kernel
theorem d_M_find_1 : decode b_M_find 1 = .ok (.getfield 94, 3) := by decide +kernel
theorem d_M_find_4 : decode b_M_find 4 = .ok (.ifCond .eq 4, 3) := by decide +kernel
theorem d_M_find_7 : decode b_M_find 7 = .ok (.return_, 1) := by decide +kernel
theorem d_M_find_8 : decode b_M_find 8 = .ok (.aload_n 0, 1) := by decide +kernel
theorem d_M_find_9 : decode b_M_find 9 = .ok (.iconst 1, 1) := by decide +kernel
theorem d_M_find_10 : decode b_M_find 10 = .ok (.putfield 94, 3) := by decide +kernel
theorem d_M_find_13 : decode b_M_find 13 = .ok (.aload_n 0, 1) := by decide +kernel
theorem d_M_find_14 : decode b_M_find 14 = .ok (.iconst 0, 1) := by decide +kernel
theorem d_M_find_15 : decode b_M_find 15 = .ok (.putfield 113, 3) := by decide +kernel
theorem d_M_find_18 : decode b_M_find 18 = .ok (.iconst 0, 1) := by decide +kernel
theorem d_M_find_19 : decode b_M_find 19 = .ok (.istore_n 1, 1) := by decide +kernel
theorem d_M_find_20 : decode b_M_find 20 = .ok (.iload_n 1, 1) := by decide +kernel
theorem d_M_find_21 : decode b_M_find 21 = .ok (.aload_n 0, 1) := by decide +kernel
theorem d_M_find_22 : decode b_M_find 22 = .ok (.invokevirtual 116, 3) := by decide +kernel
theorem d_M_find_25 : decode b_M_find 25 = .ok (.if_icmp .ge 162, 3) := by decide +kernel
theorem d_M_find_28 : decode b_M_find 28 = .ok (.aload_n 0, 1) := by decide +kernel
theorem d_M_find_29 : decode b_M_find 29 = .ok (.iload_n 1, 1) := by decide +kernel
theorem d_M_find_30 : decode b_M_find 30 = .ok (.invokevirtual 119, 3) := by decide +kernel
theorem d_M_find_33 : decode b_M_find 33 = .ok (.ifCond .eq 148, 3) := by decide +kernel
theorem d_M_find_36 : decode b_M_find 36 = .ok (.aload_n 0, 1) := by decide +kernel
theorem d_M_find_37 : decode b_M_find 37 = .ok (.getfield 23, 3) := by decide +kernel
theorem d_M_find_40 : decode b_M_find 40 = .ok (.aload_n 0, 1) := by decide +kernel
theorem d_M_find_41 : decode b_M_find 41 = .ok (.getfield 113, 3) := by decide +kernel
theorem d_M_find_44 : decode b_M_find 44 = .ok (.iload_n 1, 1) := by decide +kernel
theorem d_M_find_45 : decode b_M_find 45 = .ok (.iastore, 1) := by decide +kernel
theorem d_M_find_46 : decode b_M_find 46 = .ok (.aload_n 0, 1) := by decide +kernel
theorem d_M_find_47 : decode b_M_find 47 = .ok (.getfield 26, 3) := by decide +kernel
theorem d_M_find_50 : decode b_M_find 50 = .ok (.aload_n 0, 1) := by decide +kernel
theorem d_M_find_51 : decode b_M_find 51 = .ok (.getfield 113, 3) := by decide +kernel
theorem d_M_find_54 : decode b_M_find 54 = .ok (.aload_n 0, 1) := by decide +kernel
theorem d_M_find_55 : decode b_M_find 55 = .ok (.iload_n 1, 1) := by decide +kernel
theorem d_M_find_56 : decode b_M_find 56 = .ok (.invokevirtual 110, 3) := by decide +kernel
theorem d_M_find_59 : decode b_M_find 59 = .ok (.iastore, 1) := by decide +kernel
theorem d_M_find_60 : decode b_M_find 60 = .ok (.aload_n 0, 1) := by decide +kernel
theorem d_M_find_61 : decode b_M_find 61 = .ok (.getfield 29, 3) := by decide +kernel
theorem d_M_find_64 : decode b_M_find 64 = .ok (.aload_n 0, 1) := by decide +kernel
theorem d_M_find_65 : decode b_M_find 65 = .ok (.getfield 113, 3) := by decide +kernel
theorem d_M_find_68 : decode b_M_find 68 = .ok (.aload_n 0, 1) := by decide +kernel
theorem d_M_find_69 : decode b_M_find 69 = .ok (.iload_n 1, 1) := by decide +kernel
theorem d_M_find_70 : decode b_M_find 70 = .ok (.invokevirtual 123, 3) := by decide +kernel
theorem d_M_find_73 : decode b_M_find 73 = .ok (.iastore, 1) := by decide +kernel
theorem d_M_find_74 : decode b_M_find 74 = .ok (.aload_n 0, 1) := by decide +kernel
theorem d_M_find_75 : decode b_M_find 75 = .ok (.getfield 32, 3) := by decide +kernel
theorem d_M_find_78 : decode b_M_find 78 = .ok (.aload_n 0, 1) := by decide +kernel
theorem d_M_find_79 : decode b_M_find 79 = .ok (.getfield 113, 3) := by decide +kernel
theorem d_M_find_82 : decode b_M_find 82 = .ok (.aload_n 0, 1) := by decide +kernel
theorem d_M_find_83 : decode b_M_find 83 = .ok (.iload_n 1, 1) := by decide +kernel
theorem d_M_find_84 : decode b_M_find 84 = .ok (.invokevirtual 106, 3) := by decide +kernel
theorem d_M_find_87 : decode b_M_find 87 = .ok (.iastore, 1) := by decide +kernel
theorem d_M_find_88 : decode b_M_find 88 = .ok (.aload_n 0, 1) := by decide +kernel
theorem d_M_find_89 : decode b_M_find 89 = .ok (.getfield 35, 3) := by decide +kernel
theorem d_M_find_92 : decode b_M_find 92 = .ok (.aload_n 0, 1) := by decide +kernel
theorem d_M_find_93 : decode b_M_find 93 = .ok (.getfield 113, 3) := by decide +kernel
theorem d_M_find_96 : decode b_M_find 96 = .ok (.aload_n 0, 1) := by decide +kernel
theorem d_M_find_97 : decode b_M_find 97 = .ok (.getfield 26, 3) := by decide +kernel
theorem d_M_find_100 : decode b_M_find 100 = .ok (.aload_n 0, 1) := by decide +kernel
theorem d_M_find_101 : decode b_M_find 101 = .ok (.getfield 113, 3) := by decide +kernel
theorem d_M_find_104 : decode b_M_find 104 = .ok (.iaload, 1) := by decide +kernel
theorem d_M_find_105 : decode b_M_find 105 = .ok (.iconst 1, 1) := by decide +kernel
theorem d_M_find_106 : decode b_M_find 106 = .ok (.iand, 1) := by decide +kernel
theorem d_M_find_107 : decode b_M_find 107 = .ok (.iconst 1, 1) := by decide +kernel
theorem d_M_find_108 : decode b_M_find 108 = .ok (.if_icmp .ne 22, 3) := by decide +kernel
theorem d_M_find_111 : decode b_M_find 111 = .ok (.aload_n 0, 1) := by decide +kernel
theorem d_M_find_112 : decode b_M_find 112 = .ok (.getfield 32, 3) := by decide +kernel
theorem d_M_find_115 : decode b_M_find 115 = .ok (.aload_n 0, 1) := by decide +kernel
theorem d_M_find_116 : decode b_M_find 116 = .ok (.getfield 113, 3) := by decide +kernel
theorem d_M_find_119 : decode b_M_find 119 = .ok (.iaload, 1) := by decide +kernel
theorem d_M_find_120 : decode b_M_find 120 = .ok (.aload_n 0, 1) := by decide +kernel
theorem d_M_find_121 : decode b_M_find 121 = .ok (.getfield 16, 3) := by decide +kernel
theorem d_M_find_124 : decode b_M_find 124 = .ok (.iconst 0, 1) := by decide +kernel
theorem d_M_find_125 : decode b_M_find 125 = .ok (.iaload, 1) := by decide +kernel
theorem d_M_find_126 : decode b_M_find 126 = .ok (.iand, 1) := by decide +kernel
theorem d_M_find_127 : decode b_M_find 127 = .ok (.goto 4, 3) := by decide +kernel
theorem d_M_find_130 : decode b_M_find 130 = .ok (.iconst 0, 1) := by decide +kernel
theorem d_M_find_131 : decode b_M_find 131 = .ok (.aload_n 0, 1) := by decide +kernel
theorem d_M_find_132 : decode b_M_find 132 = .ok (.getfield 26, 3) := by decide +kernel
theorem d_M_find_135 : decode b_M_find 135 = .ok (.aload_n 0, 1) := by decide +kernel
theorem d_M_find_136 : decode b_M_find 136 = .ok (.getfield 113, 3) := by decide +kernel
theorem d_M_find_139 : decode b_M_find 139 = .ok (.iaload, 1) := by decide +kernel
theorem d_M_find_140 : decode b_M_find 140 = .ok (.iconst 2, 1) := by decide +kernel
theorem d_M_find_141 : decode b_M_find 141 = .ok (.iand, 1) := by decide +kernel
theorem d_M_find_142 : decode b_M_find 142 = .ok (.iconst 2, 1) := by decide +kernel
theorem d_M_find_143 : decode b_M_find 143 = .ok (.if_icmp .ne 22, 3) := by decide +kernel
theorem d_M_find_146 : decode b_M_find 146 = .ok (.aload_n 0, 1) := by decide +kernel
theorem d_M_find_147 : decode b_M_find 147 = .ok (.getfield 32, 3) := by decide +kernel
theorem d_M_find_150 : decode b_M_find 150 = .ok (.aload_n 0, 1) := by decide +kernel
theorem d_M_find_151 : decode b_M_find 151 = .ok (.getfield 113, 3) := by decide +kernel
theorem d_M_find_154 : decode b_M_find 154 = .ok (.iaload, 1) := by decide +kernel
theorem d_M_find_155 : decode b_M_find 155 = .ok (.aload_n 0, 1) := by decide +kernel
theorem d_M_find_156 : decode b_M_find 156 = .ok (.getfield 16, 3) := by decide +kernel
theorem d_M_find_159 : decode b_M_find 159 = .ok (.iconst 1, 1) := by decide +kernel
theorem d_M_find_160 : decode b_M_find 160 = .ok (.iaload, 1) := by decide +kernel
theorem d_M_find_161 : decode b_M_find 161 = .ok (.iand, 1) := by decide +kernel
theorem d_M_find_162 : decode b_M_find 162 = .ok (.goto 4, 3) := by decide +kernel
theorem d_M_find_165 : decode b_M_find 165 = .ok (.iconst 0, 1) := by decide +kernel
theorem d_M_find_166 : decode b_M_find 166 = .ok (.bipush 16, 2) := by decide +kernel
theorem d_M_find_168 : decode b_M_find 168 = .ok (.ishl, 1) := by decide +kernel
theorem d_M_find_169 : decode b_M_find 169 = .ok (.ior, 1) := by decide +kernel
theorem d_M_find_170 : decode b_M_find 170 = .ok (.iastore, 1) := by decide +kernel
theorem d_M_find_171 : decode b_M_find 171 = .ok (.aload_n 0, 1) := by decide +kernel
theorem d_M_find_172 : decode b_M_find 172 = .ok (.dup, 1) := by decide +kernel
theorem d_M_find_173 : decode b_M_find 173 = .ok (.getfield 113, 3) := by decide +kernel
theorem d_M_find_176 : decode b_M_find 176 = .ok (.iconst 1, 1) := by decide +kernel
theorem d_M_find_177 : decode b_M_find 177 = .ok (.iadd, 1) := by decide +kernel
theorem d_M_find_178 : decode b_M_find 178 = .ok (.putfield 113, 3) := by decide +kernel
theorem d_M_find_181 : decode b_M_find 181 = .ok (.iinc 1 1, 3) := by decide +kernel
theorem d_M_find_184 : decode b_M_find 184 = .ok (.goto (-164), 3) := by decide +kernel
theorem d_M_find_187 : decode b_M_find 187 = .ok (.aload_n 0, 1) := by decide +kernel
theorem d_M_find_188 : decode b_M_find 188 = .ok (.invokevirtual 126, 3) := by decide +kernel
theorem d_M_find_191 : decode b_M_find 191 = .ok (.return_, 1) := by decide +kernel
theorem d_M_candidates_0 : decode b_M_candidates 0 = .ok (.aload_n 0, 1) := by decide +kernel
theorem d_M_candidates_1 : decode b_M_candidates 1 = .ok (.iconst 0, 1) := by decide +kernel
theorem d_M_candidates_2 : decode b_M_candidates 2 = .ok (.putfield 83, 3) := by decide +kernel
theorem d_M_candidates_5 : decode b_M_candidates 5 = .ok (.aload_n 0, 1) := by decide +kernel
theorem d_M_candidates_6 : decode b_M_candidates 6 = .ok (.invokevirtual 129, 3) := by decide +kernel
theorem d_M_candidates_9 : decode b_M_candidates 9 = .ok (.aload_n 0, 1) := by decide +kernel
theorem d_M_candidates_10 : decode b_M_candidates 10 = .ok (.getfield 113, 3) := by decide +kernel
theorem d_M_candidates_13 : decode b_M_candidates 13 = .ok (.ireturn, 1) := by decide +kernel
theorem d_M_isNeeded_0 : decode b_M_isNeeded 0 = .ok (.iconst 0, 1) := by decide +kernel
theorem d_M_isNeeded_1 : decode b_M_isNeeded 1 = .ok (.istore_n 2, 1) := by decide +kernel
theorem d_M_isNeeded_2 : decode b_M_isNeeded 2 = .ok (.iconst 0, 1) := by decide +kernel
theorem d_M_isNeeded_3 : decode b_M_isNeeded 3 = .ok (.istore_n 3, 1) := by decide +kernel
theorem d_M_isNeeded_4 : decode b_M_isNeeded 4 = .ok (.iload_n 3, 1) := by decide +kernel
theorem d_M_isNeeded_5 : decode b_M_isNeeded 5 = .ok (.aload_n 0, 1) := by decide +kernel
theorem d_M_isNeeded_6 : decode b_M_isNeeded 6 = .ok (.getfield 113, 3) := by decide +kernel
theorem d_M_isNeeded_9 : decode b_M_isNeeded 9 = .ok (.if_icmp .ge 27, 3) := by decide +kernel
theorem d_M_isNeeded_12 : decode b_M_isNeeded 12 = .ok (.iload_n 3, 1) := by decide +kernel
theorem d_M_isNeeded_13 : decode b_M_isNeeded 13 = .ok (.iload_n 1, 1) := by decide +kernel
theorem d_M_isNeeded_14 : decode b_M_isNeeded 14 = .ok (.if_icmp .ne 7, 3) := by decide +kernel
theorem d_M_isNeeded_17 : decode b_M_isNeeded 17 = .ok (.iload_n 2, 1) := by decide +kernel
theorem d_M_isNeeded_18 : decode b_M_isNeeded 18 = .ok (.goto 11, 3) := by decide +kernel
theorem d_M_isNeeded_21 : decode b_M_isNeeded 21 = .ok (.iload_n 2, 1) := by decide +kernel
theorem d_M_isNeeded_22 : decode b_M_isNeeded 22 = .ok (.aload_n 0, 1) := by decide +kernel
theorem d_M_isNeeded_23 : decode b_M_isNeeded 23 = .ok (.getfield 35, 3) := by decide +kernel
theorem d_M_isNeeded_26 : decode b_M_isNeeded 26 = .ok (.iload_n 3, 1) := by decide +kernel
theorem d_M_isNeeded_27 : decode b_M_isNeeded 27 = .ok (.iaload, 1) := by decide +kernel
theorem d_M_isNeeded_28 : decode b_M_isNeeded 28 = .ok (.ior, 1) := by decide +kernel
theorem d_M_isNeeded_29 : decode b_M_isNeeded 29 = .ok (.istore_n 2, 1) := by decide +kernel
theorem d_M_isNeeded_30 : decode b_M_isNeeded 30 = .ok (.iinc 3 1, 3) := by decide +kernel
theorem d_M_isNeeded_33 : decode b_M_isNeeded 33 = .ok (.goto (-29), 3) := by decide +kernel
theorem d_M_isNeeded_36 : decode b_M_isNeeded 36 = .ok (.aload_n 0, 1) := by decide +kernel
theorem d_M_isNeeded_37 : decode b_M_isNeeded 37 = .ok (.getfield 35, 3) := by decide +kernel
theorem d_M_isNeeded_40 : decode b_M_isNeeded 40 = .ok (.iload_n 1, 1) := by decide +kernel
theorem d_M_isNeeded_41 : decode b_M_isNeeded 41 = .ok (.iaload, 1) := by decide +kernel
theorem d_M_isNeeded_42 : decode b_M_isNeeded 42 = .ok (.iload_n 2, 1) := by decide +kernel
theorem d_M_isNeeded_43 : decode b_M_isNeeded 43 = .ok (.iconst (-1), 1) := by decide +kernel
theorem d_M_isNeeded_44 : decode b_M_isNeeded 44 = .ok (.ixor, 1) := by decide +kernel
theorem d_M_isNeeded_45 : decode b_M_isNeeded 45 = .ok (.iand, 1) := by decide +kernel
theorem d_M_isNeeded_46 : decode b_M_isNeeded 46 = .ok (.ifCond .eq 7, 3) := by decide +kernel
theorem d_M_isNeeded_49 : decode b_M_isNeeded 49 = .ok (.iconst 1, 1) := by decide +kernel
theorem d_M_isNeeded_50 : decode b_M_isNeeded 50 = .ok (.goto 4, 3) := by decide +kernel
theorem d_M_isNeeded_53 : decode b_M_isNeeded 53 = .ok (.iconst 0, 1) := by decide +kernel
theorem d_M_isNeeded_54 : decode b_M_isNeeded 54 = .ok (.ireturn, 1) := by decide +kernel
theorem d_M_candidate_0 : decode b_M_candidate 0 = .ok (.aload_n 0, 1) := by decide +kernel
theorem d_M_candidate_1 : decode b_M_candidate 1 = .ok (.invokevirtual 129, 3) := by decide +kernel
theorem d_M_candidate_4 : decode b_M_candidate 4 = .ok (.iload_n 1, 1) := by decide +kernel
theorem d_M_candidate_5 : decode b_M_candidate 5 = .ok (.iconst 0, 1) := by decide +kernel
theorem d_M_candidate_6 : decode b_M_candidate 6 = .ok (.aload_n 0, 1) := by decide +kernel
theorem d_M_candidate_7 : decode b_M_candidate 7 = .ok (.getfield 113, 3) := by decide +kernel
theorem d_M_candidate_10 : decode b_M_candidate 10 = .ok (.iconst 1, 1) := by decide +kernel
theorem d_M_candidate_11 : decode b_M_candidate 11 = .ok (.isub, 1) := by decide +kernel
theorem d_M_candidate_12 : decode b_M_candidate 12 = .ok (.invokestatic 86, 3) := by decide +kernel
theorem d_M_candidate_15 : decode b_M_candidate 15 = .ok (.istore_n 3, 1) := by decide +kernel
theorem d_M_candidate_16 : decode b_M_candidate 16 = .ok (.aload_n 0, 1) := by decide +kernel
theorem d_M_candidate_17 : decode b_M_candidate 17 = .ok (.iload_n 3, 1) := by decide +kernel
theorem d_M_candidate_18 : decode b_M_candidate 18 = .ok (.ifCond .ne 7, 3) := by decide +kernel
theorem d_M_candidate_21 : decode b_M_candidate 21 = .ok (.iconst 1, 1) := by decide +kernel
theorem d_M_candidate_22 : decode b_M_candidate 22 = .ok (.goto 4, 3) := by decide +kernel
theorem d_M_candidate_25 : decode b_M_candidate 25 = .ok (.iconst 0, 1) := by decide +kernel
theorem d_M_candidate_26 : decode b_M_candidate 26 = .ok (.iload_n 3, 1) := by decide +kernel
theorem d_M_candidate_27 : decode b_M_candidate 27 = .ok (.ifCond .eq 16, 3) := by decide +kernel
theorem d_M_candidate_30 : decode b_M_candidate 30 = .ok (.iload_n 2, 1) := by decide +kernel
theorem d_M_candidate_31 : decode b_M_candidate 31 = .ok (.iconst 0, 1) := by decide +kernel
theorem d_M_candidate_32 : decode b_M_candidate 32 = .ok (.iconst 4, 1) := by decide +kernel
theorem d_M_candidate_33 : decode b_M_candidate 33 = .ok (.invokestatic 86, 3) := by decide +kernel
theorem d_M_candidate_36 : decode b_M_candidate 36 = .ok (.ifCond .ne 7, 3) := by decide +kernel
theorem d_M_candidate_39 : decode b_M_candidate 39 = .ok (.iconst 1, 1) := by decide +kernel
theorem d_M_candidate_40 : decode b_M_candidate 40 = .ok (.goto 4, 3) := by decide +kernel
theorem d_M_candidate_43 : decode b_M_candidate 43 = .ok (.iconst 0, 1) := by decide +kernel
theorem d_M_candidate_44 : decode b_M_candidate 44 = .ok (.invokevirtual 90, 3) := by decide +kernel
theorem d_M_candidate_47 : decode b_M_candidate 47 = .ok (.ifCond .eq 5, 3) := by decide +kernel
theorem d_M_candidate_50 : decode b_M_candidate 50 = .ok (.iconst 0, 1) := by decide +kernel
theorem d_M_candidate_51 : decode b_M_candidate 51 = .ok (.ireturn, 1) := by decide +kernel
theorem d_M_candidate_52 : decode b_M_candidate 52 = .ok (.iload_n 2, 1) := by decide +kernel
theorem d_M_candidate_53 : decode b_M_candidate 53 = .ok (.tableswitch 66 0 3 #[31, 38, 45, 52], 31) := by decide +kernel
theorem d_M_candidate_84 : decode b_M_candidate 84 = .ok (.aload_n 0, 1) := by decide +kernel
theorem d_M_candidate_85 : decode b_M_candidate 85 = .ok (.getfield 23, 3) := by decide +kernel
theorem d_M_candidate_88 : decode b_M_candidate 88 = .ok (.iload_n 1, 1) := by decide +kernel
theorem d_M_candidate_89 : decode b_M_candidate 89 = .ok (.iaload, 1) := by decide +kernel
theorem d_M_candidate_90 : decode b_M_candidate 90 = .ok (.ireturn, 1) := by decide +kernel
theorem d_M_candidate_91 : decode b_M_candidate 91 = .ok (.aload_n 0, 1) := by decide +kernel
theorem d_M_candidate_92 : decode b_M_candidate 92 = .ok (.getfield 26, 3) := by decide +kernel
theorem d_M_candidate_95 : decode b_M_candidate 95 = .ok (.iload_n 1, 1) := by decide +kernel
theorem d_M_candidate_96 : decode b_M_candidate 96 = .ok (.iaload, 1) := by decide +kernel
theorem d_M_candidate_97 : decode b_M_candidate 97 = .ok (.ireturn, 1) := by decide +kernel
theorem d_M_candidate_98 : decode b_M_candidate 98 = .ok (.aload_n 0, 1) := by decide +kernel
theorem d_M_candidate_99 : decode b_M_candidate 99 = .ok (.getfield 29, 3) := by decide +kernel
theorem d_M_candidate_102 : decode b_M_candidate 102 = .ok (.iload_n 1, 1) := by decide +kernel
theorem d_M_candidate_103 : decode b_M_candidate 103 = .ok (.iaload, 1) := by decide +kernel
theorem d_M_candidate_104 : decode b_M_candidate 104 = .ok (.ireturn, 1) := by decide +kernel
theorem d_M_candidate_105 : decode b_M_candidate 105 = .ok (.aload_n 0, 1) := by decide +kernel
theorem d_M_candidate_106 : decode b_M_candidate 106 = .ok (.iload_n 1, 1) := by decide +kernel
theorem d_M_candidate_107 : decode b_M_candidate 107 = .ok (.invokevirtual 132, 3) := by decide +kernel
theorem d_M_candidate_110 : decode b_M_candidate 110 = .ok (.ifCond .eq 7, 3) := by decide +kernel
theorem d_M_candidate_113 : decode b_M_candidate 113 = .ok (.iconst 1, 1) := by decide +kernel
theorem d_M_candidate_114 : decode b_M_candidate 114 = .ok (.goto 4, 3) := by decide +kernel
theorem d_M_candidate_117 : decode b_M_candidate 117 = .ok (.iconst 0, 1) := by decide +kernel
theorem d_M_candidate_118 : decode b_M_candidate 118 = .ok (.ireturn, 1) := by decide +kernel
theorem d_M_candidate_119 : decode b_M_candidate 119 = .ok (.aload_n 0, 1) := by decide +kernel
theorem d_M_candidate_120 : decode b_M_candidate 120 = .ok (.getfield 32, 3) := by decide +kernel
theorem d_M_candidate_123 : decode b_M_candidate 123 = .ok (.iload_n 1, 1) := by decide +kernel
theorem d_M_candidate_124 : decode b_M_candidate 124 = .ok (.iaload, 1) := by decide +kernel
theorem d_M_candidate_125 : decode b_M_candidate 125 = .ok (.ireturn, 1) := by decide +kernel
theorem d_M_placeOf_0 : decode b_M_placeOf 0 = .ok (.iload_n 1, 1) := by decide +kernel
theorem d_M_placeOf_1 : decode b_M_placeOf 1 = .ok (.ldc 135, 2) := by decide +kernel
theorem d_M_placeOf_3 : decode b_M_placeOf 3 = .ok (.imul, 1) := by decide +kernel
theorem d_M_placeOf_4 : decode b_M_placeOf 4 = .ok (.iload_n 1, 1) := by decide +kernel
theorem d_M_placeOf_5 : decode b_M_placeOf 5 = .ok (.bipush 13, 2) := by decide +kernel
theorem d_M_placeOf_7 : decode b_M_placeOf 7 = .ok (.iushr, 1) := by decide +kernel
theorem d_M_placeOf_8 : decode b_M_placeOf 8 = .ok (.ixor, 1) := by decide +kernel
theorem d_M_placeOf_9 : decode b_M_placeOf 9 = .ok (.iload_n 2, 1) := by decide +kernel
theorem d_M_placeOf_10 : decode b_M_placeOf 10 = .ok (.sipush 7919, 3) := by decide +kernel
theorem d_M_placeOf_13 : decode b_M_placeOf 13 = .ok (.imul, 1) := by decide +kernel
theorem d_M_placeOf_14 : decode b_M_placeOf 14 = .ok (.ixor, 1) := by decide +kernel
theorem d_M_placeOf_15 : decode b_M_placeOf 15 = .ok (.ldc 136, 2) := by decide +kernel
theorem d_M_placeOf_17 : decode b_M_placeOf 17 = .ok (.iand, 1) := by decide +kernel
theorem d_M_placeOf_18 : decode b_M_placeOf 18 = .ok (.istore_n 3, 1) := by decide +kernel
theorem d_M_placeOf_19 : decode b_M_placeOf 19 = .ok (.aload_n 0, 1) := by decide +kernel
theorem d_M_placeOf_20 : decode b_M_placeOf 20 = .ok (.getfield 42, 3) := by decide +kernel
theorem d_M_placeOf_23 : decode b_M_placeOf 23 = .ok (.iload_n 3, 1) := by decide +kernel
theorem d_M_placeOf_24 : decode b_M_placeOf 24 = .ok (.baload, 1) := by decide +kernel
theorem d_M_placeOf_25 : decode b_M_placeOf 25 = .ok (.ifCond .eq 33, 3) := by decide +kernel
theorem d_M_placeOf_28 : decode b_M_placeOf 28 = .ok (.aload_n 0, 1) := by decide +kernel
theorem d_M_placeOf_29 : decode b_M_placeOf 29 = .ok (.getfield 46, 3) := by decide +kernel
theorem d_M_placeOf_32 : decode b_M_placeOf 32 = .ok (.iload_n 3, 1) := by decide +kernel
theorem d_M_placeOf_33 : decode b_M_placeOf 33 = .ok (.iaload, 1) := by decide +kernel
theorem d_M_placeOf_34 : decode b_M_placeOf 34 = .ok (.iload_n 1, 1) := by decide +kernel
theorem d_M_placeOf_35 : decode b_M_placeOf 35 = .ok (.if_icmp .ne 13, 3) := by decide +kernel
theorem d_M_placeOf_38 : decode b_M_placeOf 38 = .ok (.aload_n 0, 1) := by decide +kernel
theorem d_M_placeOf_39 : decode b_M_placeOf 39 = .ok (.getfield 49, 3) := by decide +kernel
theorem d_M_placeOf_42 : decode b_M_placeOf 42 = .ok (.iload_n 3, 1) := by decide +kernel
theorem d_M_placeOf_43 : decode b_M_placeOf 43 = .ok (.iaload, 1) := by decide +kernel
theorem d_M_placeOf_44 : decode b_M_placeOf 44 = .ok (.iload_n 2, 1) := by decide +kernel
theorem d_M_placeOf_45 : decode b_M_placeOf 45 = .ok (.if_icmp .eq 13, 3) := by decide +kernel
theorem d_M_placeOf_48 : decode b_M_placeOf 48 = .ok (.iload_n 3, 1) := by decide +kernel
theorem d_M_placeOf_49 : decode b_M_placeOf 49 = .ok (.iconst 1, 1) := by decide +kernel
theorem d_M_placeOf_50 : decode b_M_placeOf 50 = .ok (.iadd, 1) := by decide +kernel
theorem d_M_placeOf_51 : decode b_M_placeOf 51 = .ok (.ldc 136, 2) := by decide +kernel
theorem d_M_placeOf_53 : decode b_M_placeOf 53 = .ok (.iand, 1) := by decide +kernel
theorem d_M_placeOf_54 : decode b_M_placeOf 54 = .ok (.istore_n 3, 1) := by decide +kernel
theorem d_M_placeOf_55 : decode b_M_placeOf 55 = .ok (.goto (-36), 3) := by decide +kernel
theorem d_M_placeOf_58 : decode b_M_placeOf 58 = .ok (.iload_n 3, 1) := by decide +kernel
theorem d_M_placeOf_59 : decode b_M_placeOf 59 = .ok (.ireturn, 1) := by decide +kernel
theorem d_M_pointsOf_0 : decode b_M_pointsOf 0 = .ok (.iconst 0, 1) := by decide +kernel
theorem d_M_pointsOf_1 : decode b_M_pointsOf 1 = .ok (.istore_n 1, 1) := by decide +kernel
theorem d_M_pointsOf_2 : decode b_M_pointsOf 2 = .ok (.iconst 0, 1) := by decide +kernel
theorem d_M_pointsOf_3 : decode b_M_pointsOf 3 = .ok (.istore_n 2, 1) := by decide +kernel
theorem d_M_pointsOf_4 : decode b_M_pointsOf 4 = .ok (.iload_n 2, 1) := by decide +kernel
theorem d_M_pointsOf_5 : decode b_M_pointsOf 5 = .ok (.bipush 32, 2) := by decide +kernel
theorem d_M_pointsOf_7 : decode b_M_pointsOf 7 = .ok (.if_icmp .ge 17, 3) := by decide +kernel
theorem d_M_pointsOf_10 : decode b_M_pointsOf 10 = .ok (.iload_n 1, 1) := by decide +kernel
theorem d_M_pointsOf_11 : decode b_M_pointsOf 11 = .ok (.iload_n 0, 1) := by decide +kernel
theorem d_M_pointsOf_12 : decode b_M_pointsOf 12 = .ok (.iload_n 2, 1) := by decide +kernel
theorem d_M_pointsOf_13 : decode b_M_pointsOf 13 = .ok (.iushr, 1) := by decide +kernel
theorem d_M_pointsOf_14 : decode b_M_pointsOf 14 = .ok (.iconst 1, 1) := by decide +kernel
theorem d_M_pointsOf_15 : decode b_M_pointsOf 15 = .ok (.iand, 1) := by decide +kernel
theorem d_M_pointsOf_16 : decode b_M_pointsOf 16 = .ok (.iadd, 1) := by decide +kernel
theorem d_M_pointsOf_17 : decode b_M_pointsOf 17 = .ok (.istore_n 1, 1) := by decide +kernel
theorem d_M_pointsOf_18 : decode b_M_pointsOf 18 = .ok (.iinc 2 1, 3) := by decide +kernel
theorem d_M_pointsOf_21 : decode b_M_pointsOf 21 = .ok (.goto (-17), 3) := by decide +kernel
theorem d_M_pointsOf_24 : decode b_M_pointsOf 24 = .ok (.iload_n 1, 1) := by decide +kernel
theorem d_M_pointsOf_25 : decode b_M_pointsOf 25 = .ok (.ireturn, 1) := by decide +kernel
theorem d_M_isHopeless_0 : decode b_M_isHopeless 0 = .ok (.iconst 0, 1) := by decide +kernel
theorem d_M_isHopeless_1 : decode b_M_isHopeless 1 = .ok (.istore_n 3, 1) := by decide +kernel
theorem d_M_isHopeless_2 : decode b_M_isHopeless 2 = .ok (.iconst 0, 1) := by decide +kernel
theorem d_M_isHopeless_3 : decode b_M_isHopeless 3 = .ok (.istore 4, 2) := by decide +kernel
theorem d_M_isHopeless_5 : decode b_M_isHopeless 5 = .ok (.iload 4, 2) := by decide +kernel
theorem d_M_isHopeless_7 : decode b_M_isHopeless 7 = .ok (.aload_n 0, 1) := by decide +kernel
theorem d_M_isHopeless_8 : decode b_M_isHopeless 8 = .ok (.getfield 113, 3) := by decide +kernel
theorem d_M_isHopeless_11 : decode b_M_isHopeless 11 = .ok (.if_icmp .ge 36, 3) := by decide +kernel
theorem d_M_isHopeless_14 : decode b_M_isHopeless 14 = .ok (.iload_n 1, 1) := by decide +kernel
theorem d_M_isHopeless_15 : decode b_M_isHopeless 15 = .ok (.aload_n 0, 1) := by decide +kernel
theorem d_M_isHopeless_16 : decode b_M_isHopeless 16 = .ok (.getfield 35, 3) := by decide +kernel
theorem d_M_isHopeless_19 : decode b_M_isHopeless 19 = .ok (.iload 4, 2) := by decide +kernel
theorem d_M_isHopeless_21 : decode b_M_isHopeless 21 = .ok (.iaload, 1) := by decide +kernel
theorem d_M_isHopeless_22 : decode b_M_isHopeless 22 = .ok (.iand, 1) := by decide +kernel
theorem d_M_isHopeless_23 : decode b_M_isHopeless 23 = .ok (.invokestatic 137, 3) := by decide +kernel
theorem d_M_isHopeless_26 : decode b_M_isHopeless 26 = .ok (.istore 5, 2) := by decide +kernel
theorem d_M_isHopeless_28 : decode b_M_isHopeless 28 = .ok (.iload 5, 2) := by decide +kernel
theorem d_M_isHopeless_30 : decode b_M_isHopeless 30 = .ok (.iload_n 3, 1) := by decide +kernel
theorem d_M_isHopeless_31 : decode b_M_isHopeless 31 = .ok (.if_icmp .le 8, 3) := by decide +kernel
theorem d_M_isHopeless_34 : decode b_M_isHopeless 34 = .ok (.iload 5, 2) := by decide +kernel
theorem d_M_isHopeless_36 : decode b_M_isHopeless 36 = .ok (.goto 4, 3) := by decide +kernel
theorem d_M_isHopeless_39 : decode b_M_isHopeless 39 = .ok (.iload_n 3, 1) := by decide +kernel
theorem d_M_isHopeless_40 : decode b_M_isHopeless 40 = .ok (.istore_n 3, 1) := by decide +kernel
theorem d_M_isHopeless_41 : decode b_M_isHopeless 41 = .ok (.iinc 4 1, 3) := by decide +kernel
theorem d_M_isHopeless_44 : decode b_M_isHopeless 44 = .ok (.goto (-39), 3) := by decide +kernel
theorem d_M_isHopeless_47 : decode b_M_isHopeless 47 = .ok (.iload_n 1, 1) := by decide +kernel
theorem d_M_isHopeless_48 : decode b_M_isHopeless 48 = .ok (.invokestatic 137, 3) := by decide +kernel
theorem d_M_isHopeless_51 : decode b_M_isHopeless 51 = .ok (.iload_n 3, 1) := by decide +kernel
theorem d_M_isHopeless_52 : decode b_M_isHopeless 52 = .ok (.iload_n 2, 1) := by decide +kernel
theorem d_M_isHopeless_53 : decode b_M_isHopeless 53 = .ok (.imul, 1) := by decide +kernel
theorem d_M_isHopeless_54 : decode b_M_isHopeless 54 = .ok (.if_icmp .le 7, 3) := by decide +kernel
theorem d_M_isHopeless_57 : decode b_M_isHopeless 57 = .ok (.iconst 1, 1) := by decide +kernel
theorem d_M_isHopeless_58 : decode b_M_isHopeless 58 = .ok (.goto 4, 3) := by decide +kernel
theorem d_M_isHopeless_61 : decode b_M_isHopeless 61 = .ok (.iconst 0, 1) := by decide +kernel
theorem d_M_isHopeless_62 : decode b_M_isHopeless 62 = .ok (.ireturn, 1) := by decide +kernel
theorem d_M_pointOf_0 : decode b_M_pointOf 0 = .ok (.iconst (-1), 1) := by decide +kernel
theorem d_M_pointOf_1 : decode b_M_pointOf 1 = .ok (.istore_n 2, 1) := by decide +kernel
theorem d_M_pointOf_2 : decode b_M_pointOf 2 = .ok (.iconst 0, 1) := by decide +kernel
theorem d_M_pointOf_3 : decode b_M_pointOf 3 = .ok (.istore_n 3, 1) := by decide +kernel
theorem d_M_pointOf_4 : decode b_M_pointOf 4 = .ok (.iconst 0, 1) := by decide +kernel
theorem d_M_pointOf_5 : decode b_M_pointOf 5 = .ok (.istore 4, 2) := by decide +kernel
theorem d_M_pointOf_7 : decode b_M_pointOf 7 = .ok (.iload 4, 2) := by decide +kernel
theorem d_M_pointOf_9 : decode b_M_pointOf 9 = .ok (.bipush 32, 2) := by decide +kernel
theorem d_M_pointOf_11 : decode b_M_pointOf 11 = .ok (.if_icmp .ge 89, 3) := by decide +kernel
theorem d_M_pointOf_14 : decode b_M_pointOf 14 = .ok (.iload_n 1, 1) := by decide +kernel
theorem d_M_pointOf_15 : decode b_M_pointOf 15 = .ok (.iload 4, 2) := by decide +kernel
theorem d_M_pointOf_17 : decode b_M_pointOf 17 = .ok (.iushr, 1) := by decide +kernel
theorem d_M_pointOf_18 : decode b_M_pointOf 18 = .ok (.iconst 1, 1) := by decide +kernel
theorem d_M_pointOf_19 : decode b_M_pointOf 19 = .ok (.iand, 1) := by decide +kernel
theorem d_M_pointOf_20 : decode b_M_pointOf 20 = .ok (.ifCond .ne 6, 3) := by decide +kernel
theorem d_M_pointOf_23 : decode b_M_pointOf 23 = .ok (.goto 71, 3) := by decide +kernel
theorem d_M_pointOf_26 : decode b_M_pointOf 26 = .ok (.iconst 0, 1) := by decide +kernel
theorem d_M_pointOf_27 : decode b_M_pointOf 27 = .ok (.istore 5, 2) := by decide +kernel
theorem d_M_pointOf_29 : decode b_M_pointOf 29 = .ok (.iconst 0, 1) := by decide +kernel
theorem d_M_pointOf_30 : decode b_M_pointOf 30 = .ok (.istore 6, 2) := by decide +kernel
theorem d_M_pointOf_32 : decode b_M_pointOf 32 = .ok (.iload 6, 2) := by decide +kernel
theorem d_M_pointOf_34 : decode b_M_pointOf 34 = .ok (.aload_n 0, 1) := by decide +kernel
theorem d_M_pointOf_35 : decode b_M_pointOf 35 = .ok (.getfield 113, 3) := by decide +kernel
theorem d_M_pointOf_38 : decode b_M_pointOf 38 = .ok (.if_icmp .ge 26, 3) := by decide +kernel
theorem d_M_pointOf_41 : decode b_M_pointOf 41 = .ok (.iload 5, 2) := by decide +kernel
theorem d_M_pointOf_43 : decode b_M_pointOf 43 = .ok (.aload_n 0, 1) := by decide +kernel
theorem d_M_pointOf_44 : decode b_M_pointOf 44 = .ok (.getfield 35, 3) := by decide +kernel
theorem d_M_pointOf_47 : decode b_M_pointOf 47 = .ok (.iload 6, 2) := by decide +kernel
theorem d_M_pointOf_49 : decode b_M_pointOf 49 = .ok (.iaload, 1) := by decide +kernel
theorem d_M_pointOf_50 : decode b_M_pointOf 50 = .ok (.iload 4, 2) := by decide +kernel
theorem d_M_pointOf_52 : decode b_M_pointOf 52 = .ok (.iushr, 1) := by decide +kernel
theorem d_M_pointOf_53 : decode b_M_pointOf 53 = .ok (.iconst 1, 1) := by decide +kernel
theorem d_M_pointOf_54 : decode b_M_pointOf 54 = .ok (.iand, 1) := by decide +kernel
theorem d_M_pointOf_55 : decode b_M_pointOf 55 = .ok (.iadd, 1) := by decide +kernel
theorem d_M_pointOf_56 : decode b_M_pointOf 56 = .ok (.istore 5, 2) := by decide +kernel
theorem d_M_pointOf_58 : decode b_M_pointOf 58 = .ok (.iinc 6 1, 3) := by decide +kernel
theorem d_M_pointOf_61 : decode b_M_pointOf 61 = .ok (.goto (-29), 3) := by decide +kernel
theorem d_M_pointOf_64 : decode b_M_pointOf 64 = .ok (.iload_n 2, 1) := by decide +kernel
theorem d_M_pointOf_65 : decode b_M_pointOf 65 = .ok (.ifCond .lt 9, 3) := by decide +kernel
theorem d_M_pointOf_68 : decode b_M_pointOf 68 = .ok (.iload 5, 2) := by decide +kernel
theorem d_M_pointOf_70 : decode b_M_pointOf 70 = .ok (.iload_n 3, 1) := by decide +kernel
theorem d_M_pointOf_71 : decode b_M_pointOf 71 = .ok (.if_icmp .ge 8, 3) := by decide +kernel
theorem d_M_pointOf_74 : decode b_M_pointOf 74 = .ok (.iload 4, 2) := by decide +kernel
theorem d_M_pointOf_76 : decode b_M_pointOf 76 = .ok (.goto 4, 3) := by decide +kernel
theorem d_M_pointOf_79 : decode b_M_pointOf 79 = .ok (.iload_n 2, 1) := by decide +kernel
theorem d_M_pointOf_80 : decode b_M_pointOf 80 = .ok (.istore_n 2, 1) := by decide +kernel
theorem d_M_pointOf_81 : decode b_M_pointOf 81 = .ok (.iload_n 2, 1) := by decide +kernel
theorem d_M_pointOf_82 : decode b_M_pointOf 82 = .ok (.iload 4, 2) := by decide +kernel
theorem d_M_pointOf_84 : decode b_M_pointOf 84 = .ok (.if_icmp .ne 8, 3) := by decide +kernel
theorem d_M_pointOf_87 : decode b_M_pointOf 87 = .ok (.iload 5, 2) := by decide +kernel
theorem d_M_pointOf_89 : decode b_M_pointOf 89 = .ok (.goto 4, 3) := by decide +kernel
theorem d_M_pointOf_92 : decode b_M_pointOf 92 = .ok (.iload_n 3, 1) := by decide +kernel
theorem d_M_pointOf_93 : decode b_M_pointOf 93 = .ok (.istore_n 3, 1) := by decide +kernel
theorem d_M_pointOf_94 : decode b_M_pointOf 94 = .ok (.iinc 4 1, 3) := by decide +kernel
theorem d_M_pointOf_97 : decode b_M_pointOf 97 = .ok (.goto (-90), 3) := by decide +kernel
theorem d_M_pointOf_100 : decode b_M_pointOf 100 = .ok (.iload_n 2, 1) := by decide +kernel
theorem d_M_pointOf_101 : decode b_M_pointOf 101 = .ok (.ireturn, 1) := by decide +kernel
theorem d_M_wait_0 : decode b_M_wait 0 = .ok (.aload_n 0, 1) := by decide +kernel
theorem d_M_wait_1 : decode b_M_wait 1 = .ok (.getfield 62, 3) := by decide +kernel
theorem d_M_wait_4 : decode b_M_wait 4 = .ok (.aload_n 0, 1) := by decide +kernel
theorem d_M_wait_5 : decode b_M_wait 5 = .ok (.getfield 140, 3) := by decide +kernel
theorem d_M_wait_8 : decode b_M_wait 8 = .ok (.iload_n 1, 1) := by decide +kernel
theorem d_M_wait_9 : decode b_M_wait 9 = .ok (.iastore, 1) := by decide +kernel
theorem d_M_wait_10 : decode b_M_wait 10 = .ok (.aload_n 0, 1) := by decide +kernel
theorem d_M_wait_11 : decode b_M_wait 11 = .ok (.getfield 71, 3) := by decide +kernel
theorem d_M_wait_14 : decode b_M_wait 14 = .ok (.aload_n 0, 1) := by decide +kernel
theorem d_M_wait_15 : decode b_M_wait 15 = .ok (.getfield 140, 3) := by decide +kernel
theorem d_M_wait_18 : decode b_M_wait 18 = .ok (.iload_n 2, 1) := by decide +kernel
theorem d_M_wait_19 : decode b_M_wait 19 = .ok (.iastore, 1) := by decide +kernel
theorem d_M_wait_20 : decode b_M_wait 20 = .ok (.aload_n 0, 1) := by decide +kernel
theorem d_M_wait_21 : decode b_M_wait 21 = .ok (.getfield 65, 3) := by decide +kernel
theorem d_M_wait_24 : decode b_M_wait 24 = .ok (.aload_n 0, 1) := by decide +kernel
theorem d_M_wait_25 : decode b_M_wait 25 = .ok (.getfield 140, 3) := by decide +kernel
theorem d_M_wait_28 : decode b_M_wait 28 = .ok (.aload_n 0, 1) := by decide +kernel
theorem d_M_wait_29 : decode b_M_wait 29 = .ok (.iload_n 1, 1) := by decide +kernel
theorem d_M_wait_30 : decode b_M_wait 30 = .ok (.invokevirtual 143, 3) := by decide +kernel
theorem d_M_wait_33 : decode b_M_wait 33 = .ok (.iastore, 1) := by decide +kernel
theorem d_M_wait_34 : decode b_M_wait 34 = .ok (.aload_n 0, 1) := by decide +kernel
theorem d_M_wait_35 : decode b_M_wait 35 = .ok (.getfield 68, 3) := by decide +kernel
theorem d_M_wait_38 : decode b_M_wait 38 = .ok (.aload_n 0, 1) := by decide +kernel
theorem d_M_wait_39 : decode b_M_wait 39 = .ok (.getfield 140, 3) := by decide +kernel
theorem d_M_wait_42 : decode b_M_wait 42 = .ok (.iconst 0, 1) := by decide +kernel
theorem d_M_wait_43 : decode b_M_wait 43 = .ok (.iastore, 1) := by decide +kernel
theorem d_M_wait_44 : decode b_M_wait 44 = .ok (.aload_n 0, 1) := by decide +kernel
theorem d_M_wait_45 : decode b_M_wait 45 = .ok (.getfield 74, 3) := by decide +kernel
theorem d_M_wait_48 : decode b_M_wait 48 = .ok (.aload_n 0, 1) := by decide +kernel
theorem d_M_wait_49 : decode b_M_wait 49 = .ok (.getfield 140, 3) := by decide +kernel
theorem d_M_wait_52 : decode b_M_wait 52 = .ok (.iconst (-1), 1) := by decide +kernel
theorem d_M_wait_53 : decode b_M_wait 53 = .ok (.iastore, 1) := by decide +kernel
theorem d_M_wait_54 : decode b_M_wait 54 = .ok (.aload_n 0, 1) := by decide +kernel
theorem d_M_wait_55 : decode b_M_wait 55 = .ok (.dup, 1) := by decide +kernel
theorem d_M_wait_56 : decode b_M_wait 56 = .ok (.getfield 140, 3) := by decide +kernel
theorem d_M_wait_59 : decode b_M_wait 59 = .ok (.iconst 1, 1) := by decide +kernel
theorem d_M_wait_60 : decode b_M_wait 60 = .ok (.iadd, 1) := by decide +kernel
theorem d_M_wait_61 : decode b_M_wait 61 = .ok (.putfield 140, 3) := by decide +kernel
theorem d_M_wait_64 : decode b_M_wait 64 = .ok (.return_, 1) := by decide +kernel
theorem d_M_isLess_0 : decode b_M_isLess 0 = .ok (.lload_n 0, 1) := by decide +kernel
theorem d_M_isLess_1 : decode b_M_isLess 1 = .ok (.lload 4, 2) := by decide +kernel
theorem d_M_isLess_3 : decode b_M_isLess 3 = .ok (.lxor, 1) := by decide +kernel
theorem d_M_isLess_4 : decode b_M_isLess 4 = .ok (.lstore 8, 2) := by decide +kernel
theorem d_M_isLess_6 : decode b_M_isLess 6 = .ok (.lload 8, 2) := by decide +kernel
theorem d_M_isLess_8 : decode b_M_isLess 8 = .ok (.lconst 0, 1) := by decide +kernel
theorem d_M_isLess_9 : decode b_M_isLess 9 = .ok (.lcmp, 1) := by decide +kernel
theorem d_M_isLess_10 : decode b_M_isLess 10 = .ok (.ifCond .eq 22, 3) := by decide +kernel
theorem d_M_isLess_13 : decode b_M_isLess 13 = .ok (.lload_n 0, 1) := by decide +kernel
theorem d_M_isLess_14 : decode b_M_isLess 14 = .ok (.lload 8, 2) := by decide +kernel
theorem d_M_isLess_16 : decode b_M_isLess 16 = .ok (.land, 1) := by decide +kernel
theorem d_M_isLess_17 : decode b_M_isLess 17 = .ok (.lload 8, 2) := by decide +kernel
theorem d_M_isLess_19 : decode b_M_isLess 19 = .ok (.lneg, 1) := by decide +kernel
theorem d_M_isLess_20 : decode b_M_isLess 20 = .ok (.land, 1) := by decide +kernel
theorem d_M_isLess_21 : decode b_M_isLess 21 = .ok (.lconst 0, 1) := by decide +kernel
theorem d_M_isLess_22 : decode b_M_isLess 22 = .ok (.lcmp, 1) := by decide +kernel
theorem d_M_isLess_23 : decode b_M_isLess 23 = .ok (.ifCond .eq 7, 3) := by decide +kernel
theorem d_M_isLess_26 : decode b_M_isLess 26 = .ok (.iconst 1, 1) := by decide +kernel
theorem d_M_isLess_27 : decode b_M_isLess 27 = .ok (.goto 4, 3) := by decide +kernel
theorem d_M_isLess_30 : decode b_M_isLess 30 = .ok (.iconst 0, 1) := by decide +kernel
theorem d_M_isLess_31 : decode b_M_isLess 31 = .ok (.ireturn, 1) := by decide +kernel
theorem d_M_isLess_32 : decode b_M_isLess 32 = .ok (.lload_n 2, 1) := by decide +kernel
theorem d_M_isLess_33 : decode b_M_isLess 33 = .ok (.lload 6, 2) := by decide +kernel
theorem d_M_isLess_35 : decode b_M_isLess 35 = .ok (.lxor, 1) := by decide +kernel
theorem d_M_isLess_36 : decode b_M_isLess 36 = .ok (.lstore 8, 2) := by decide +kernel
theorem d_M_isLess_38 : decode b_M_isLess 38 = .ok (.lload_n 2, 1) := by decide +kernel
theorem d_M_isLess_39 : decode b_M_isLess 39 = .ok (.lload 8, 2) := by decide +kernel
theorem d_M_isLess_41 : decode b_M_isLess 41 = .ok (.land, 1) := by decide +kernel
theorem d_M_isLess_42 : decode b_M_isLess 42 = .ok (.lload 8, 2) := by decide +kernel
theorem d_M_isLess_44 : decode b_M_isLess 44 = .ok (.lneg, 1) := by decide +kernel
theorem d_M_isLess_45 : decode b_M_isLess 45 = .ok (.land, 1) := by decide +kernel
theorem d_M_isLess_46 : decode b_M_isLess 46 = .ok (.lconst 0, 1) := by decide +kernel
theorem d_M_isLess_47 : decode b_M_isLess 47 = .ok (.lcmp, 1) := by decide +kernel
theorem d_M_isLess_48 : decode b_M_isLess 48 = .ok (.ifCond .eq 7, 3) := by decide +kernel
theorem d_M_isLess_51 : decode b_M_isLess 51 = .ok (.iconst 1, 1) := by decide +kernel
theorem d_M_isLess_52 : decode b_M_isLess 52 = .ok (.goto 4, 3) := by decide +kernel
theorem d_M_isLess_55 : decode b_M_isLess 55 = .ok (.iconst 0, 1) := by decide +kernel
theorem d_M_isLess_56 : decode b_M_isLess 56 = .ok (.ireturn, 1) := by decide +kernel
theorem d_M_better_0 : decode b_M_better 0 = .ok (.aload_n 0, 1) := by decide +kernel
theorem d_M_better_1 : decode b_M_better 1 = .ok (.getfield 140, 3) := by decide +kernel
theorem d_M_better_4 : decode b_M_better 4 = .ok (.iconst 1, 1) := by decide +kernel
theorem d_M_better_5 : decode b_M_better 5 = .ok (.isub, 1) := by decide +kernel
theorem d_M_better_6 : decode b_M_better 6 = .ok (.istore 7, 2) := by decide +kernel
theorem d_M_better_8 : decode b_M_better 8 = .ok (.iload_n 2, 1) := by decide +kernel
theorem d_M_better_9 : decode b_M_better 9 = .ok (.aload_n 0, 1) := by decide +kernel
theorem d_M_better_10 : decode b_M_better 10 = .ok (.getfield 29, 3) := by decide +kernel
theorem d_M_better_13 : decode b_M_better 13 = .ok (.iload_n 1, 1) := by decide +kernel
theorem d_M_better_14 : decode b_M_better 14 = .ok (.iaload, 1) := by decide +kernel
theorem d_M_better_15 : decode b_M_better 15 = .ok (.iadd, 1) := by decide +kernel
theorem d_M_better_16 : decode b_M_better 16 = .ok (.istore 8, 2) := by decide +kernel
theorem d_M_better_18 : decode b_M_better 18 = .ok (.iload_n 1, 1) := by decide +kernel
theorem d_M_better_19 : decode b_M_better 19 = .ok (.bipush 41, 2) := by decide +kernel
theorem d_M_better_21 : decode b_M_better 21 = .ok (.if_icmp .ge 11, 3) := by decide +kernel
theorem d_M_better_24 : decode b_M_better 24 = .ok (.lload_n 3, 1) := by decide +kernel
theorem d_M_better_25 : decode b_M_better 25 = .ok (.lconst 1, 1) := by decide +kernel
theorem d_M_better_26 : decode b_M_better 26 = .ok (.iload_n 1, 1) := by decide +kernel
theorem d_M_better_27 : decode b_M_better 27 = .ok (.lshl, 1) := by decide +kernel
theorem d_M_better_28 : decode b_M_better 28 = .ok (.lor, 1) := by decide +kernel
theorem d_M_better_29 : decode b_M_better 29 = .ok (.goto 4, 3) := by decide +kernel
theorem d_M_better_32 : decode b_M_better 32 = .ok (.lload_n 3, 1) := by decide +kernel
theorem d_M_better_33 : decode b_M_better 33 = .ok (.lstore 9, 2) := by decide +kernel
theorem d_M_better_35 : decode b_M_better 35 = .ok (.iload_n 1, 1) := by decide +kernel
theorem d_M_better_36 : decode b_M_better 36 = .ok (.bipush 41, 2) := by decide +kernel
theorem d_M_better_38 : decode b_M_better 38 = .ok (.if_icmp .ge 8, 3) := by decide +kernel
theorem d_M_better_41 : decode b_M_better 41 = .ok (.lload 5, 2) := by decide +kernel
theorem d_M_better_43 : decode b_M_better 43 = .ok (.goto 12, 3) := by decide +kernel
theorem d_M_better_46 : decode b_M_better 46 = .ok (.lload 5, 2) := by decide +kernel
theorem d_M_better_48 : decode b_M_better 48 = .ok (.lconst 1, 1) := by decide +kernel
theorem d_M_better_49 : decode b_M_better 49 = .ok (.iload_n 1, 1) := by decide +kernel
theorem d_M_better_50 : decode b_M_better 50 = .ok (.bipush 41, 2) := by decide +kernel
theorem d_M_better_52 : decode b_M_better 52 = .ok (.isub, 1) := by decide +kernel
theorem d_M_better_53 : decode b_M_better 53 = .ok (.lshl, 1) := by decide +kernel
theorem d_M_better_54 : decode b_M_better 54 = .ok (.lor, 1) := by decide +kernel
theorem d_M_better_55 : decode b_M_better 55 = .ok (.lstore 11, 2) := by decide +kernel
theorem d_M_better_57 : decode b_M_better 57 = .ok (.iload_n 2, 1) := by decide +kernel
theorem d_M_better_58 : decode b_M_better 58 = .ok (.ifCond .lt 65, 3) := by decide +kernel
theorem d_M_better_61 : decode b_M_better 61 = .ok (.aload_n 0, 1) := by decide +kernel
theorem d_M_better_62 : decode b_M_better 62 = .ok (.getfield 74, 3) := by decide +kernel
theorem d_M_better_65 : decode b_M_better 65 = .ok (.iload 7, 2) := by decide +kernel
theorem d_M_better_67 : decode b_M_better 67 = .ok (.iaload, 1) := by decide +kernel
theorem d_M_better_68 : decode b_M_better 68 = .ok (.ifCond .lt 51, 3) := by decide +kernel
theorem d_M_better_71 : decode b_M_better 71 = .ok (.iload 8, 2) := by decide +kernel
theorem d_M_better_73 : decode b_M_better 73 = .ok (.aload_n 0, 1) := by decide +kernel
theorem d_M_better_74 : decode b_M_better 74 = .ok (.getfield 74, 3) := by decide +kernel
theorem d_M_better_77 : decode b_M_better 77 = .ok (.iload 7, 2) := by decide +kernel
theorem d_M_better_79 : decode b_M_better 79 = .ok (.iaload, 1) := by decide +kernel
theorem d_M_better_80 : decode b_M_better 80 = .ok (.if_icmp .lt 39, 3) := by decide +kernel
theorem d_M_better_83 : decode b_M_better 83 = .ok (.iload 8, 2) := by decide +kernel
theorem d_M_better_85 : decode b_M_better 85 = .ok (.aload_n 0, 1) := by decide +kernel
theorem d_M_better_86 : decode b_M_better 86 = .ok (.getfield 74, 3) := by decide +kernel
theorem d_M_better_89 : decode b_M_better 89 = .ok (.iload 7, 2) := by decide +kernel
theorem d_M_better_91 : decode b_M_better 91 = .ok (.iaload, 1) := by decide +kernel
theorem d_M_better_92 : decode b_M_better 92 = .ok (.if_icmp .ne 31, 3) := by decide +kernel
theorem d_M_better_95 : decode b_M_better 95 = .ok (.lload 9, 2) := by decide +kernel
theorem d_M_better_97 : decode b_M_better 97 = .ok (.lload 11, 2) := by decide +kernel
theorem d_M_better_99 : decode b_M_better 99 = .ok (.aload_n 0, 1) := by decide +kernel
theorem d_M_better_100 : decode b_M_better 100 = .ok (.getfield 77, 3) := by decide +kernel
theorem d_M_better_103 : decode b_M_better 103 = .ok (.iload 7, 2) := by decide +kernel
theorem d_M_better_105 : decode b_M_better 105 = .ok (.laload, 1) := by decide +kernel
theorem d_M_better_106 : decode b_M_better 106 = .ok (.aload_n 0, 1) := by decide +kernel
theorem d_M_better_107 : decode b_M_better 107 = .ok (.getfield 80, 3) := by decide +kernel
theorem d_M_better_110 : decode b_M_better 110 = .ok (.iload 7, 2) := by decide +kernel
theorem d_M_better_112 : decode b_M_better 112 = .ok (.laload, 1) := by decide +kernel
theorem d_M_better_113 : decode b_M_better 113 = .ok (.invokestatic 146, 3) := by decide +kernel
theorem d_M_better_116 : decode b_M_better 116 = .ok (.ifCond .eq 7, 3) := by decide +kernel
theorem d_M_better_119 : decode b_M_better 119 = .ok (.iconst 1, 1) := by decide +kernel
theorem d_M_better_120 : decode b_M_better 120 = .ok (.goto 4, 3) := by decide +kernel
theorem d_M_better_123 : decode b_M_better 123 = .ok (.iconst 0, 1) := by decide +kernel
theorem d_M_better_124 : decode b_M_better 124 = .ok (.istore 13, 2) := by decide +kernel
theorem d_M_better_126 : decode b_M_better 126 = .ok (.iload 13, 2) := by decide +kernel
theorem d_M_better_128 : decode b_M_better 128 = .ok (.ifCond .eq 30, 3) := by decide +kernel
theorem d_M_better_131 : decode b_M_better 131 = .ok (.aload_n 0, 1) := by decide +kernel
theorem d_M_better_132 : decode b_M_better 132 = .ok (.getfield 74, 3) := by decide +kernel
theorem d_M_better_135 : decode b_M_better 135 = .ok (.iload 7, 2) := by decide +kernel
theorem d_M_better_137 : decode b_M_better 137 = .ok (.iload 8, 2) := by decide +kernel
theorem d_M_better_139 : decode b_M_better 139 = .ok (.iastore, 1) := by decide +kernel
theorem d_M_better_140 : decode b_M_better 140 = .ok (.aload_n 0, 1) := by decide +kernel
theorem d_M_better_141 : decode b_M_better 141 = .ok (.getfield 77, 3) := by decide +kernel
theorem d_M_better_144 : decode b_M_better 144 = .ok (.iload 7, 2) := by decide +kernel
theorem d_M_better_146 : decode b_M_better 146 = .ok (.lload 9, 2) := by decide +kernel
theorem d_M_better_148 : decode b_M_better 148 = .ok (.lastore, 1) := by decide +kernel
theorem d_M_better_149 : decode b_M_better 149 = .ok (.aload_n 0, 1) := by decide +kernel
theorem d_M_better_150 : decode b_M_better 150 = .ok (.getfield 80, 3) := by decide +kernel
theorem d_M_better_153 : decode b_M_better 153 = .ok (.iload 7, 2) := by decide +kernel
theorem d_M_better_155 : decode b_M_better 155 = .ok (.lload 11, 2) := by decide +kernel
theorem d_M_better_157 : decode b_M_better 157 = .ok (.lastore, 1) := by decide +kernel
theorem d_M_better_158 : decode b_M_better 158 = .ok (.return_, 1) := by decide +kernel
theorem d_M_keep_0 : decode b_M_keep 0 = .ok (.aload_n 0, 1) := by decide +kernel
theorem d_M_keep_1 : decode b_M_keep 1 = .ok (.getfield 150, 3) := by decide +kernel
theorem d_M_keep_4 : decode b_M_keep 4 = .ok (.ldc 153, 2) := by decide +kernel
theorem d_M_keep_6 : decode b_M_keep 6 = .ok (.if_icmp .ge 71, 3) := by decide +kernel
theorem d_M_keep_9 : decode b_M_keep 9 = .ok (.aload_n 0, 1) := by decide +kernel
theorem d_M_keep_10 : decode b_M_keep 10 = .ok (.iload_n 1, 1) := by decide +kernel
theorem d_M_keep_11 : decode b_M_keep 11 = .ok (.iload_n 2, 1) := by decide +kernel
theorem d_M_keep_12 : decode b_M_keep 12 = .ok (.invokevirtual 154, 3) := by decide +kernel
theorem d_M_keep_15 : decode b_M_keep 15 = .ok (.istore 8, 2) := by decide +kernel
theorem d_M_keep_17 : decode b_M_keep 17 = .ok (.aload_n 0, 1) := by decide +kernel
theorem d_M_keep_18 : decode b_M_keep 18 = .ok (.getfield 42, 3) := by decide +kernel
theorem d_M_keep_21 : decode b_M_keep 21 = .ok (.iload 8, 2) := by decide +kernel
theorem d_M_keep_23 : decode b_M_keep 23 = .ok (.iconst 1, 1) := by decide +kernel
theorem d_M_keep_24 : decode b_M_keep 24 = .ok (.bastore, 1) := by decide +kernel
theorem d_M_keep_25 : decode b_M_keep 25 = .ok (.aload_n 0, 1) := by decide +kernel
theorem d_M_keep_26 : decode b_M_keep 26 = .ok (.getfield 46, 3) := by decide +kernel
theorem d_M_keep_29 : decode b_M_keep 29 = .ok (.iload 8, 2) := by decide +kernel
theorem d_M_keep_31 : decode b_M_keep 31 = .ok (.iload_n 1, 1) := by decide +kernel
theorem d_M_keep_32 : decode b_M_keep 32 = .ok (.iastore, 1) := by decide +kernel
theorem d_M_keep_33 : decode b_M_keep 33 = .ok (.aload_n 0, 1) := by decide +kernel
theorem d_M_keep_34 : decode b_M_keep 34 = .ok (.getfield 49, 3) := by decide +kernel
theorem d_M_keep_37 : decode b_M_keep 37 = .ok (.iload 8, 2) := by decide +kernel
theorem d_M_keep_39 : decode b_M_keep 39 = .ok (.iload_n 2, 1) := by decide +kernel
theorem d_M_keep_40 : decode b_M_keep 40 = .ok (.iastore, 1) := by decide +kernel
theorem d_M_keep_41 : decode b_M_keep 41 = .ok (.aload_n 0, 1) := by decide +kernel
theorem d_M_keep_42 : decode b_M_keep 42 = .ok (.getfield 52, 3) := by decide +kernel
theorem d_M_keep_45 : decode b_M_keep 45 = .ok (.iload 8, 2) := by decide +kernel
theorem d_M_keep_47 : decode b_M_keep 47 = .ok (.iload_n 3, 1) := by decide +kernel
theorem d_M_keep_48 : decode b_M_keep 48 = .ok (.iastore, 1) := by decide +kernel
theorem d_M_keep_49 : decode b_M_keep 49 = .ok (.aload_n 0, 1) := by decide +kernel
theorem d_M_keep_50 : decode b_M_keep 50 = .ok (.getfield 55, 3) := by decide +kernel
theorem d_M_keep_53 : decode b_M_keep 53 = .ok (.iload 8, 2) := by decide +kernel
theorem d_M_keep_55 : decode b_M_keep 55 = .ok (.lload 4, 2) := by decide +kernel
theorem d_M_keep_57 : decode b_M_keep 57 = .ok (.lastore, 1) := by decide +kernel
theorem d_M_keep_58 : decode b_M_keep 58 = .ok (.aload_n 0, 1) := by decide +kernel
theorem d_M_keep_59 : decode b_M_keep 59 = .ok (.getfield 59, 3) := by decide +kernel
theorem d_M_keep_62 : decode b_M_keep 62 = .ok (.iload 8, 2) := by decide +kernel
theorem d_M_keep_64 : decode b_M_keep 64 = .ok (.lload 6, 2) := by decide +kernel
theorem d_M_keep_66 : decode b_M_keep 66 = .ok (.lastore, 1) := by decide +kernel
theorem d_M_keep_67 : decode b_M_keep 67 = .ok (.aload_n 0, 1) := by decide +kernel
theorem d_M_keep_68 : decode b_M_keep 68 = .ok (.dup, 1) := by decide +kernel
theorem d_M_keep_69 : decode b_M_keep 69 = .ok (.getfield 150, 3) := by decide +kernel
theorem d_M_keep_72 : decode b_M_keep 72 = .ok (.iconst 1, 1) := by decide +kernel
theorem d_M_keep_73 : decode b_M_keep 73 = .ok (.iadd, 1) := by decide +kernel
theorem d_M_keep_74 : decode b_M_keep 74 = .ok (.putfield 150, 3) := by decide +kernel
theorem d_M_keep_77 : decode b_M_keep 77 = .ok (.return_, 1) := by decide +kernel
theorem d_M_work_0 : decode b_M_work 0 = .ok (.aload_n 0, 1) := by decide +kernel
theorem d_M_work_1 : decode b_M_work 1 = .ok (.getfield 140, 3) := by decide +kernel
theorem d_M_work_4 : decode b_M_work 4 = .ok (.iconst 1, 1) := by decide +kernel
theorem d_M_work_5 : decode b_M_work 5 = .ok (.isub, 1) := by decide +kernel
theorem d_M_work_6 : decode b_M_work 6 = .ok (.istore_n 1, 1) := by decide +kernel
theorem d_M_work_7 : decode b_M_work 7 = .ok (.aload_n 0, 1) := by decide +kernel
theorem d_M_work_8 : decode b_M_work 8 = .ok (.getfield 68, 3) := by decide +kernel
theorem d_M_work_11 : decode b_M_work 11 = .ok (.iload_n 1, 1) := by decide +kernel
theorem d_M_work_12 : decode b_M_work 12 = .ok (.iaload, 1) := by decide +kernel
theorem d_M_work_13 : decode b_M_work 13 = .ok (.istore_n 2, 1) := by decide +kernel
theorem d_M_work_14 : decode b_M_work 14 = .ok (.aload_n 0, 1) := by decide +kernel
theorem d_M_work_15 : decode b_M_work 15 = .ok (.getfield 157, 3) := by decide +kernel
theorem d_M_work_18 : decode b_M_work 18 = .ok (.ifCond .eq 27, 3) := by decide +kernel
theorem d_M_work_21 : decode b_M_work 21 = .ok (.aload_n 0, 1) := by decide +kernel
theorem d_M_work_22 : decode b_M_work 22 = .ok (.iconst 0, 1) := by decide +kernel
theorem d_M_work_23 : decode b_M_work 23 = .ok (.putfield 157, 3) := by decide +kernel
theorem d_M_work_26 : decode b_M_work 26 = .ok (.aload_n 0, 1) := by decide +kernel
theorem d_M_work_27 : decode b_M_work 27 = .ok (.iload_n 2, 1) := by decide +kernel
theorem d_M_work_28 : decode b_M_work 28 = .ok (.iconst 1, 1) := by decide +kernel
theorem d_M_work_29 : decode b_M_work 29 = .ok (.isub, 1) := by decide +kernel
theorem d_M_work_30 : decode b_M_work 30 = .ok (.aload_n 0, 1) := by decide +kernel
theorem d_M_work_31 : decode b_M_work 31 = .ok (.getfield 160, 3) := by decide +kernel
theorem d_M_work_34 : decode b_M_work 34 = .ok (.aload_n 0, 1) := by decide +kernel
theorem d_M_work_35 : decode b_M_work 35 = .ok (.getfield 163, 3) := by decide +kernel
theorem d_M_work_38 : decode b_M_work 38 = .ok (.aload_n 0, 1) := by decide +kernel
theorem d_M_work_39 : decode b_M_work 39 = .ok (.getfield 167, 3) := by decide +kernel
theorem d_M_work_42 : decode b_M_work 42 = .ok (.invokevirtual 170, 3) := by decide +kernel
theorem d_M_work_45 : decode b_M_work 45 = .ok (.iload_n 2, 1) := by decide +kernel
theorem d_M_work_46 : decode b_M_work 46 = .ok (.aload_n 0, 1) := by decide +kernel
theorem d_M_work_47 : decode b_M_work 47 = .ok (.getfield 113, 3) := by decide +kernel
theorem d_M_work_50 : decode b_M_work 50 = .ok (.if_icmp .ge 27, 3) := by decide +kernel
theorem d_M_work_53 : decode b_M_work 53 = .ok (.aload_n 0, 1) := by decide +kernel
theorem d_M_work_54 : decode b_M_work 54 = .ok (.getfield 35, 3) := by decide +kernel
theorem d_M_work_57 : decode b_M_work 57 = .ok (.iload_n 2, 1) := by decide +kernel
theorem d_M_work_58 : decode b_M_work 58 = .ok (.iaload, 1) := by decide +kernel
theorem d_M_work_59 : decode b_M_work 59 = .ok (.aload_n 0, 1) := by decide +kernel
theorem d_M_work_60 : decode b_M_work 60 = .ok (.getfield 65, 3) := by decide +kernel
theorem d_M_work_63 : decode b_M_work 63 = .ok (.iload_n 1, 1) := by decide +kernel
theorem d_M_work_64 : decode b_M_work 64 = .ok (.iaload, 1) := by decide +kernel
theorem d_M_work_65 : decode b_M_work 65 = .ok (.iushr, 1) := by decide +kernel
theorem d_M_work_66 : decode b_M_work 66 = .ok (.iconst 1, 1) := by decide +kernel
theorem d_M_work_67 : decode b_M_work 67 = .ok (.iand, 1) := by decide +kernel
theorem d_M_work_68 : decode b_M_work 68 = .ok (.ifCond .ne 9, 3) := by decide +kernel
theorem d_M_work_71 : decode b_M_work 71 = .ok (.iinc 2 1, 3) := by decide +kernel
theorem d_M_work_74 : decode b_M_work 74 = .ok (.goto (-29), 3) := by decide +kernel
theorem d_M_work_77 : decode b_M_work 77 = .ok (.aload_n 0, 1) := by decide +kernel
theorem d_M_work_78 : decode b_M_work 78 = .ok (.getfield 68, 3) := by decide +kernel
theorem d_M_work_81 : decode b_M_work 81 = .ok (.iload_n 1, 1) := by decide +kernel
theorem d_M_work_82 : decode b_M_work 82 = .ok (.iload_n 2, 1) := by decide +kernel
theorem d_M_work_83 : decode b_M_work 83 = .ok (.iconst 1, 1) := by decide +kernel
theorem d_M_work_84 : decode b_M_work 84 = .ok (.iadd, 1) := by decide +kernel
theorem d_M_work_85 : decode b_M_work 85 = .ok (.iastore, 1) := by decide +kernel
theorem d_M_work_86 : decode b_M_work 86 = .ok (.iload_n 2, 1) := by decide +kernel
theorem d_M_work_87 : decode b_M_work 87 = .ok (.aload_n 0, 1) := by decide +kernel
theorem d_M_work_88 : decode b_M_work 88 = .ok (.getfield 113, 3) := by decide +kernel
theorem d_M_work_91 : decode b_M_work 91 = .ok (.if_icmp .ne 77, 3) := by decide +kernel
theorem d_M_work_94 : decode b_M_work 94 = .ok (.aload_n 0, 1) := by decide +kernel
theorem d_M_work_95 : decode b_M_work 95 = .ok (.dup, 1) := by decide +kernel
theorem d_M_work_96 : decode b_M_work 96 = .ok (.getfield 140, 3) := by decide +kernel
theorem d_M_work_99 : decode b_M_work 99 = .ok (.iconst 1, 1) := by decide +kernel
theorem d_M_work_100 : decode b_M_work 100 = .ok (.isub, 1) := by decide +kernel
theorem d_M_work_101 : decode b_M_work 101 = .ok (.putfield 140, 3) := by decide +kernel
theorem d_M_work_104 : decode b_M_work 104 = .ok (.aload_n 0, 1) := by decide +kernel
theorem d_M_work_105 : decode b_M_work 105 = .ok (.iconst 1, 1) := by decide +kernel
theorem d_M_work_106 : decode b_M_work 106 = .ok (.putfield 157, 3) := by decide +kernel
theorem d_M_work_109 : decode b_M_work 109 = .ok (.aload_n 0, 1) := by decide +kernel
theorem d_M_work_110 : decode b_M_work 110 = .ok (.aload_n 0, 1) := by decide +kernel
theorem d_M_work_111 : decode b_M_work 111 = .ok (.getfield 74, 3) := by decide +kernel
theorem d_M_work_114 : decode b_M_work 114 = .ok (.iload_n 1, 1) := by decide +kernel
theorem d_M_work_115 : decode b_M_work 115 = .ok (.iaload, 1) := by decide +kernel
theorem d_M_work_116 : decode b_M_work 116 = .ok (.putfield 160, 3) := by decide +kernel
theorem d_M_work_119 : decode b_M_work 119 = .ok (.aload_n 0, 1) := by decide +kernel
theorem d_M_work_120 : decode b_M_work 120 = .ok (.aload_n 0, 1) := by decide +kernel
theorem d_M_work_121 : decode b_M_work 121 = .ok (.getfield 77, 3) := by decide +kernel
theorem d_M_work_124 : decode b_M_work 124 = .ok (.iload_n 1, 1) := by decide +kernel
theorem d_M_work_125 : decode b_M_work 125 = .ok (.laload, 1) := by decide +kernel
theorem d_M_work_126 : decode b_M_work 126 = .ok (.putfield 163, 3) := by decide +kernel
theorem d_M_work_129 : decode b_M_work 129 = .ok (.aload_n 0, 1) := by decide +kernel
theorem d_M_work_130 : decode b_M_work 130 = .ok (.aload_n 0, 1) := by decide +kernel
theorem d_M_work_131 : decode b_M_work 131 = .ok (.getfield 80, 3) := by decide +kernel
theorem d_M_work_134 : decode b_M_work 134 = .ok (.iload_n 1, 1) := by decide +kernel
theorem d_M_work_135 : decode b_M_work 135 = .ok (.laload, 1) := by decide +kernel
theorem d_M_work_136 : decode b_M_work 136 = .ok (.putfield 167, 3) := by decide +kernel
theorem d_M_work_139 : decode b_M_work 139 = .ok (.aload_n 0, 1) := by decide +kernel
theorem d_M_work_140 : decode b_M_work 140 = .ok (.aload_n 0, 1) := by decide +kernel
theorem d_M_work_141 : decode b_M_work 141 = .ok (.getfield 62, 3) := by decide +kernel
theorem d_M_work_144 : decode b_M_work 144 = .ok (.iload_n 1, 1) := by decide +kernel
theorem d_M_work_145 : decode b_M_work 145 = .ok (.iaload, 1) := by decide +kernel
theorem d_M_work_146 : decode b_M_work 146 = .ok (.aload_n 0, 1) := by decide +kernel
theorem d_M_work_147 : decode b_M_work 147 = .ok (.getfield 71, 3) := by decide +kernel
theorem d_M_work_150 : decode b_M_work 150 = .ok (.iload_n 1, 1) := by decide +kernel
theorem d_M_work_151 : decode b_M_work 151 = .ok (.iaload, 1) := by decide +kernel
theorem d_M_work_152 : decode b_M_work 152 = .ok (.aload_n 0, 1) := by decide +kernel
theorem d_M_work_153 : decode b_M_work 153 = .ok (.getfield 160, 3) := by decide +kernel
theorem d_M_work_156 : decode b_M_work 156 = .ok (.aload_n 0, 1) := by decide +kernel
theorem d_M_work_157 : decode b_M_work 157 = .ok (.getfield 163, 3) := by decide +kernel
theorem d_M_work_160 : decode b_M_work 160 = .ok (.aload_n 0, 1) := by decide +kernel
theorem d_M_work_161 : decode b_M_work 161 = .ok (.getfield 167, 3) := by decide +kernel
theorem d_M_work_164 : decode b_M_work 164 = .ok (.invokevirtual 174, 3) := by decide +kernel
theorem d_M_work_167 : decode b_M_work 167 = .ok (.return_, 1) := by decide +kernel
theorem d_M_work_168 : decode b_M_work 168 = .ok (.aload_n 0, 1) := by decide +kernel
theorem d_M_work_169 : decode b_M_work 169 = .ok (.getfield 62, 3) := by decide +kernel
theorem d_M_work_172 : decode b_M_work 172 = .ok (.iload_n 1, 1) := by decide +kernel
theorem d_M_work_173 : decode b_M_work 173 = .ok (.iaload, 1) := by decide +kernel
theorem d_M_work_174 : decode b_M_work 174 = .ok (.aload_n 0, 1) := by decide +kernel
theorem d_M_work_175 : decode b_M_work 175 = .ok (.getfield 35, 3) := by decide +kernel
theorem d_M_work_178 : decode b_M_work 178 = .ok (.iload_n 2, 1) := by decide +kernel
theorem d_M_work_179 : decode b_M_work 179 = .ok (.iaload, 1) := by decide +kernel
theorem d_M_work_180 : decode b_M_work 180 = .ok (.iconst (-1), 1) := by decide +kernel
theorem d_M_work_181 : decode b_M_work 181 = .ok (.ixor, 1) := by decide +kernel
theorem d_M_work_182 : decode b_M_work 182 = .ok (.iand, 1) := by decide +kernel
theorem d_M_work_183 : decode b_M_work 183 = .ok (.istore_n 3, 1) := by decide +kernel
theorem d_M_work_184 : decode b_M_work 184 = .ok (.aload_n 0, 1) := by decide +kernel
theorem d_M_work_185 : decode b_M_work 185 = .ok (.getfield 71, 3) := by decide +kernel
theorem d_M_work_188 : decode b_M_work 188 = .ok (.iload_n 1, 1) := by decide +kernel
theorem d_M_work_189 : decode b_M_work 189 = .ok (.iaload, 1) := by decide +kernel
theorem d_M_work_190 : decode b_M_work 190 = .ok (.iconst 1, 1) := by decide +kernel
theorem d_M_work_191 : decode b_M_work 191 = .ok (.isub, 1) := by decide +kernel
theorem d_M_work_192 : decode b_M_work 192 = .ok (.istore 4, 2) := by decide +kernel
theorem d_M_work_194 : decode b_M_work 194 = .ok (.aload_n 0, 1) := by decide +kernel
theorem d_M_work_195 : decode b_M_work 195 = .ok (.iload_n 3, 1) := by decide +kernel
theorem d_M_work_196 : decode b_M_work 196 = .ok (.iload 4, 2) := by decide +kernel
theorem d_M_work_198 : decode b_M_work 198 = .ok (.invokevirtual 154, 3) := by decide +kernel
theorem d_M_work_201 : decode b_M_work 201 = .ok (.istore 5, 2) := by decide +kernel
theorem d_M_work_203 : decode b_M_work 203 = .ok (.iload_n 3, 1) := by decide +kernel
theorem d_M_work_204 : decode b_M_work 204 = .ok (.ifCond .ne 14, 3) := by decide +kernel
theorem d_M_work_207 : decode b_M_work 207 = .ok (.aload_n 0, 1) := by decide +kernel
theorem d_M_work_208 : decode b_M_work 208 = .ok (.iload_n 2, 1) := by decide +kernel
theorem d_M_work_209 : decode b_M_work 209 = .ok (.iconst 0, 1) := by decide +kernel
theorem d_M_work_210 : decode b_M_work 210 = .ok (.lconst 0, 1) := by decide +kernel
theorem d_M_work_211 : decode b_M_work 211 = .ok (.lconst 0, 1) := by decide +kernel
theorem d_M_work_212 : decode b_M_work 212 = .ok (.invokevirtual 170, 3) := by decide +kernel
theorem d_M_work_215 : decode b_M_work 215 = .ok (.goto 64, 3) := by decide +kernel
theorem d_M_work_218 : decode b_M_work 218 = .ok (.aload_n 0, 1) := by decide +kernel
theorem d_M_work_219 : decode b_M_work 219 = .ok (.getfield 42, 3) := by decide +kernel
theorem d_M_work_222 : decode b_M_work 222 = .ok (.iload 5, 2) := by decide +kernel
theorem d_M_work_224 : decode b_M_work 224 = .ok (.baload, 1) := by decide +kernel
theorem d_M_work_225 : decode b_M_work 225 = .ok (.ifCond .eq 32, 3) := by decide +kernel
theorem d_M_work_228 : decode b_M_work 228 = .ok (.aload_n 0, 1) := by decide +kernel
theorem d_M_work_229 : decode b_M_work 229 = .ok (.iload_n 2, 1) := by decide +kernel
theorem d_M_work_230 : decode b_M_work 230 = .ok (.aload_n 0, 1) := by decide +kernel
theorem d_M_work_231 : decode b_M_work 231 = .ok (.getfield 52, 3) := by decide +kernel
theorem d_M_work_234 : decode b_M_work 234 = .ok (.iload 5, 2) := by decide +kernel
theorem d_M_work_236 : decode b_M_work 236 = .ok (.iaload, 1) := by decide +kernel
theorem d_M_work_237 : decode b_M_work 237 = .ok (.aload_n 0, 1) := by decide +kernel
theorem d_M_work_238 : decode b_M_work 238 = .ok (.getfield 55, 3) := by decide +kernel
theorem d_M_work_241 : decode b_M_work 241 = .ok (.iload 5, 2) := by decide +kernel
theorem d_M_work_243 : decode b_M_work 243 = .ok (.laload, 1) := by decide +kernel
theorem d_M_work_244 : decode b_M_work 244 = .ok (.aload_n 0, 1) := by decide +kernel
theorem d_M_work_245 : decode b_M_work 245 = .ok (.getfield 59, 3) := by decide +kernel
theorem d_M_work_248 : decode b_M_work 248 = .ok (.iload 5, 2) := by decide +kernel
theorem d_M_work_250 : decode b_M_work 250 = .ok (.laload, 1) := by decide +kernel
theorem d_M_work_251 : decode b_M_work 251 = .ok (.invokevirtual 170, 3) := by decide +kernel
theorem d_M_work_254 : decode b_M_work 254 = .ok (.goto 25, 3) := by decide +kernel
theorem d_M_work_257 : decode b_M_work 257 = .ok (.iload 4, 2) := by decide +kernel
theorem d_M_work_259 : decode b_M_work 259 = .ok (.ifCond .le 20, 3) := by decide +kernel
theorem d_M_work_262 : decode b_M_work 262 = .ok (.aload_n 0, 1) := by decide +kernel
theorem d_M_work_263 : decode b_M_work 263 = .ok (.iload_n 3, 1) := by decide +kernel
theorem d_M_work_264 : decode b_M_work 264 = .ok (.iload 4, 2) := by decide +kernel
theorem d_M_work_266 : decode b_M_work 266 = .ok (.invokevirtual 178, 3) := by decide +kernel
theorem d_M_work_269 : decode b_M_work 269 = .ok (.ifCond .ne 10, 3) := by decide +kernel
theorem d_M_work_272 : decode b_M_work 272 = .ok (.aload_n 0, 1) := by decide +kernel
theorem d_M_work_273 : decode b_M_work 273 = .ok (.iload_n 3, 1) := by decide +kernel
theorem d_M_work_274 : decode b_M_work 274 = .ok (.iload 4, 2) := by decide +kernel
theorem d_M_work_276 : decode b_M_work 276 = .ok (.invokevirtual 182, 3) := by decide +kernel
theorem d_M_work_279 : decode b_M_work 279 = .ok (.return_, 1) := by decide +kernel
theorem d_M_solve_0 : decode b_M_solve 0 = .ok (.iconst 0, 1) := by decide +kernel
theorem d_M_solve_1 : decode b_M_solve 1 = .ok (.istore_n 1, 1) := by decide +kernel
theorem d_M_solve_2 : decode b_M_solve 2 = .ok (.iload_n 1, 1) := by decide +kernel
theorem d_M_solve_3 : decode b_M_solve 3 = .ok (.ldc 41, 2) := by decide +kernel
theorem d_M_solve_5 : decode b_M_solve 5 = .ok (.if_icmp .ge 16, 3) := by decide +kernel
theorem d_M_solve_8 : decode b_M_solve 8 = .ok (.aload_n 0, 1) := by decide +kernel
theorem d_M_solve_9 : decode b_M_solve 9 = .ok (.getfield 42, 3) := by decide +kernel
theorem d_M_solve_12 : decode b_M_solve 12 = .ok (.iload_n 1, 1) := by decide +kernel
theorem d_M_solve_13 : decode b_M_solve 13 = .ok (.iconst 0, 1) := by decide +kernel
theorem d_M_solve_14 : decode b_M_solve 14 = .ok (.bastore, 1) := by decide +kernel
theorem d_M_solve_15 : decode b_M_solve 15 = .ok (.iinc 1 1, 3) := by decide +kernel
theorem d_M_solve_18 : decode b_M_solve 18 = .ok (.goto (-16), 3) := by decide +kernel
theorem d_M_solve_21 : decode b_M_solve 21 = .ok (.aload_n 0, 1) := by decide +kernel
theorem d_M_solve_22 : decode b_M_solve 22 = .ok (.iconst 0, 1) := by decide +kernel
theorem d_M_solve_23 : decode b_M_solve 23 = .ok (.putfield 150, 3) := by decide +kernel
theorem d_M_solve_26 : decode b_M_solve 26 = .ok (.aload_n 0, 1) := by decide +kernel
theorem d_M_solve_27 : decode b_M_solve 27 = .ok (.getfield 16, 3) := by decide +kernel
theorem d_M_solve_30 : decode b_M_solve 30 = .ok (.iconst 0, 1) := by decide +kernel
theorem d_M_solve_31 : decode b_M_solve 31 = .ok (.iaload, 1) := by decide +kernel
theorem d_M_solve_32 : decode b_M_solve 32 = .ok (.aload_n 0, 1) := by decide +kernel
theorem d_M_solve_33 : decode b_M_solve 33 = .ok (.getfield 16, 3) := by decide +kernel
theorem d_M_solve_36 : decode b_M_solve 36 = .ok (.iconst 1, 1) := by decide +kernel
theorem d_M_solve_37 : decode b_M_solve 37 = .ok (.iaload, 1) := by decide +kernel
theorem d_M_solve_38 : decode b_M_solve 38 = .ok (.bipush 16, 2) := by decide +kernel
theorem d_M_solve_40 : decode b_M_solve 40 = .ok (.ishl, 1) := by decide +kernel
theorem d_M_solve_41 : decode b_M_solve 41 = .ok (.ior, 1) := by decide +kernel
theorem d_M_solve_42 : decode b_M_solve 42 = .ok (.istore_n 1, 1) := by decide +kernel
theorem d_M_solve_43 : decode b_M_solve 43 = .ok (.aload_n 0, 1) := by decide +kernel
theorem d_M_solve_44 : decode b_M_solve 44 = .ok (.iconst 1, 1) := by decide +kernel
theorem d_M_solve_45 : decode b_M_solve 45 = .ok (.putfield 157, 3) := by decide +kernel
theorem d_M_solve_48 : decode b_M_solve 48 = .ok (.aload_n 0, 1) := by decide +kernel
theorem d_M_solve_49 : decode b_M_solve 49 = .ok (.iload_n 1, 1) := by decide +kernel
theorem d_M_solve_50 : decode b_M_solve 50 = .ok (.ifCond .ne 7, 3) := by decide +kernel
theorem d_M_solve_53 : decode b_M_solve 53 = .ok (.iconst 0, 1) := by decide +kernel
theorem d_M_solve_54 : decode b_M_solve 54 = .ok (.goto 4, 3) := by decide +kernel
theorem d_M_solve_57 : decode b_M_solve 57 = .ok (.iconst (-1), 1) := by decide +kernel
theorem d_M_solve_58 : decode b_M_solve 58 = .ok (.putfield 160, 3) := by decide +kernel
theorem d_M_solve_61 : decode b_M_solve 61 = .ok (.aload_n 0, 1) := by decide +kernel
theorem d_M_solve_62 : decode b_M_solve 62 = .ok (.lconst 0, 1) := by decide +kernel
theorem d_M_solve_63 : decode b_M_solve 63 = .ok (.putfield 163, 3) := by decide +kernel
theorem d_M_solve_66 : decode b_M_solve 66 = .ok (.aload_n 0, 1) := by decide +kernel
theorem d_M_solve_67 : decode b_M_solve 67 = .ok (.lconst 0, 1) := by decide +kernel
theorem d_M_solve_68 : decode b_M_solve 68 = .ok (.putfield 167, 3) := by decide +kernel
theorem d_M_solve_71 : decode b_M_solve 71 = .ok (.iconst 1, 1) := by decide +kernel
theorem d_M_solve_72 : decode b_M_solve 72 = .ok (.istore_n 2, 1) := by decide +kernel
theorem d_M_solve_73 : decode b_M_solve 73 = .ok (.aload_n 0, 1) := by decide +kernel
theorem d_M_solve_74 : decode b_M_solve 74 = .ok (.getfield 160, 3) := by decide +kernel
theorem d_M_solve_77 : decode b_M_solve 77 = .ok (.ifCond .ge 48, 3) := by decide +kernel
theorem d_M_solve_80 : decode b_M_solve 80 = .ok (.aload_n 0, 1) := by decide +kernel
theorem d_M_solve_81 : decode b_M_solve 81 = .ok (.iconst 0, 1) := by decide +kernel
theorem d_M_solve_82 : decode b_M_solve 82 = .ok (.putfield 157, 3) := by decide +kernel
theorem d_M_solve_85 : decode b_M_solve 85 = .ok (.aload_n 0, 1) := by decide +kernel
theorem d_M_solve_86 : decode b_M_solve 86 = .ok (.iload_n 1, 1) := by decide +kernel
theorem d_M_solve_87 : decode b_M_solve 87 = .ok (.iload_n 2, 1) := by decide +kernel
theorem d_M_solve_88 : decode b_M_solve 88 = .ok (.invokevirtual 178, 3) := by decide +kernel
theorem d_M_solve_91 : decode b_M_solve 91 = .ok (.ifCond .ne 28, 3) := by decide +kernel
theorem d_M_solve_94 : decode b_M_solve 94 = .ok (.aload_n 0, 1) := by decide +kernel
theorem d_M_solve_95 : decode b_M_solve 95 = .ok (.iconst 0, 1) := by decide +kernel
theorem d_M_solve_96 : decode b_M_solve 96 = .ok (.putfield 140, 3) := by decide +kernel
theorem d_M_solve_99 : decode b_M_solve 99 = .ok (.aload_n 0, 1) := by decide +kernel
theorem d_M_solve_100 : decode b_M_solve 100 = .ok (.iload_n 1, 1) := by decide +kernel
theorem d_M_solve_101 : decode b_M_solve 101 = .ok (.iload_n 2, 1) := by decide +kernel
theorem d_M_solve_102 : decode b_M_solve 102 = .ok (.invokevirtual 182, 3) := by decide +kernel
theorem d_M_solve_105 : decode b_M_solve 105 = .ok (.aload_n 0, 1) := by decide +kernel
theorem d_M_solve_106 : decode b_M_solve 106 = .ok (.getfield 140, 3) := by decide +kernel
theorem d_M_solve_109 : decode b_M_solve 109 = .ok (.ifCond .le 10, 3) := by decide +kernel
theorem d_M_solve_112 : decode b_M_solve 112 = .ok (.aload_n 0, 1) := by decide +kernel
theorem d_M_solve_113 : decode b_M_solve 113 = .ok (.invokevirtual 186, 3) := by decide +kernel
theorem d_M_solve_116 : decode b_M_solve 116 = .ok (.goto (-11), 3) := by decide +kernel
theorem d_M_solve_119 : decode b_M_solve 119 = .ok (.iinc 2 1, 3) := by decide +kernel
theorem d_M_solve_122 : decode b_M_solve 122 = .ok (.goto (-49), 3) := by decide +kernel
theorem d_M_solve_125 : decode b_M_solve 125 = .ok (.aload_n 0, 1) := by decide +kernel
theorem d_M_solve_126 : decode b_M_solve 126 = .ok (.iconst 0, 1) := by decide +kernel
theorem d_M_solve_127 : decode b_M_solve 127 = .ok (.putfield 157, 3) := by decide +kernel
theorem d_M_solve_130 : decode b_M_solve 130 = .ok (.aload_n 0, 1) := by decide +kernel
theorem d_M_solve_131 : decode b_M_solve 131 = .ok (.iconst 0, 1) := by decide +kernel
theorem d_M_solve_132 : decode b_M_solve 132 = .ok (.putfield 189, 3) := by decide +kernel
theorem d_M_solve_135 : decode b_M_solve 135 = .ok (.iconst 0, 1) := by decide +kernel
theorem d_M_solve_136 : decode b_M_solve 136 = .ok (.istore_n 2, 1) := by decide +kernel
theorem d_M_solve_137 : decode b_M_solve 137 = .ok (.iload_n 2, 1) := by decide +kernel
theorem d_M_solve_138 : decode b_M_solve 138 = .ok (.aload_n 0, 1) := by decide +kernel
theorem d_M_solve_139 : decode b_M_solve 139 = .ok (.getfield 113, 3) := by decide +kernel
theorem d_M_solve_142 : decode b_M_solve 142 = .ok (.if_icmp .ge 82, 3) := by decide +kernel
theorem d_M_solve_145 : decode b_M_solve 145 = .ok (.iload_n 2, 1) := by decide +kernel
theorem d_M_solve_146 : decode b_M_solve 146 = .ok (.bipush 41, 2) := by decide +kernel
theorem d_M_solve_148 : decode b_M_solve 148 = .ok (.if_icmp .ge 24, 3) := by decide +kernel
theorem d_M_solve_151 : decode b_M_solve 151 = .ok (.aload_n 0, 1) := by decide +kernel
theorem d_M_solve_152 : decode b_M_solve 152 = .ok (.getfield 163, 3) := by decide +kernel
theorem d_M_solve_155 : decode b_M_solve 155 = .ok (.iload_n 2, 1) := by decide +kernel
theorem d_M_solve_156 : decode b_M_solve 156 = .ok (.lshr, 1) := by decide +kernel
theorem d_M_solve_157 : decode b_M_solve 157 = .ok (.lconst 1, 1) := by decide +kernel
theorem d_M_solve_158 : decode b_M_solve 158 = .ok (.land, 1) := by decide +kernel
theorem d_M_solve_159 : decode b_M_solve 159 = .ok (.lconst 1, 1) := by decide +kernel
theorem d_M_solve_160 : decode b_M_solve 160 = .ok (.lcmp, 1) := by decide +kernel
theorem d_M_solve_161 : decode b_M_solve 161 = .ok (.ifCond .ne 7, 3) := by decide +kernel
theorem d_M_solve_164 : decode b_M_solve 164 = .ok (.iconst 1, 1) := by decide +kernel
theorem d_M_solve_165 : decode b_M_solve 165 = .ok (.goto 28, 3) := by decide +kernel
theorem d_M_solve_168 : decode b_M_solve 168 = .ok (.iconst 0, 1) := by decide +kernel
theorem d_M_solve_169 : decode b_M_solve 169 = .ok (.goto 24, 3) := by decide +kernel
theorem d_M_solve_172 : decode b_M_solve 172 = .ok (.aload_n 0, 1) := by decide +kernel
theorem d_M_solve_173 : decode b_M_solve 173 = .ok (.getfield 167, 3) := by decide +kernel
theorem d_M_solve_176 : decode b_M_solve 176 = .ok (.iload_n 2, 1) := by decide +kernel
theorem d_M_solve_177 : decode b_M_solve 177 = .ok (.bipush 41, 2) := by decide +kernel
theorem d_M_solve_179 : decode b_M_solve 179 = .ok (.isub, 1) := by decide +kernel
theorem d_M_solve_180 : decode b_M_solve 180 = .ok (.lshr, 1) := by decide +kernel
theorem d_M_solve_181 : decode b_M_solve 181 = .ok (.lconst 1, 1) := by decide +kernel
theorem d_M_solve_182 : decode b_M_solve 182 = .ok (.land, 1) := by decide +kernel
theorem d_M_solve_183 : decode b_M_solve 183 = .ok (.lconst 1, 1) := by decide +kernel
theorem d_M_solve_184 : decode b_M_solve 184 = .ok (.lcmp, 1) := by decide +kernel
theorem d_M_solve_185 : decode b_M_solve 185 = .ok (.ifCond .ne 7, 3) := by decide +kernel
theorem d_M_solve_188 : decode b_M_solve 188 = .ok (.iconst 1, 1) := by decide +kernel
theorem d_M_solve_189 : decode b_M_solve 189 = .ok (.goto 4, 3) := by decide +kernel
theorem d_M_solve_192 : decode b_M_solve 192 = .ok (.iconst 0, 1) := by decide +kernel
theorem d_M_solve_193 : decode b_M_solve 193 = .ok (.istore_n 3, 1) := by decide +kernel
theorem d_M_solve_194 : decode b_M_solve 194 = .ok (.iload_n 3, 1) := by decide +kernel
theorem d_M_solve_195 : decode b_M_solve 195 = .ok (.ifCond .eq 23, 3) := by decide +kernel
theorem d_M_solve_198 : decode b_M_solve 198 = .ok (.aload_n 0, 1) := by decide +kernel
theorem d_M_solve_199 : decode b_M_solve 199 = .ok (.getfield 38, 3) := by decide +kernel
theorem d_M_solve_202 : decode b_M_solve 202 = .ok (.aload_n 0, 1) := by decide +kernel
theorem d_M_solve_203 : decode b_M_solve 203 = .ok (.getfield 189, 3) := by decide +kernel
theorem d_M_solve_206 : decode b_M_solve 206 = .ok (.iload_n 2, 1) := by decide +kernel
theorem d_M_solve_207 : decode b_M_solve 207 = .ok (.iastore, 1) := by decide +kernel
theorem d_M_solve_208 : decode b_M_solve 208 = .ok (.aload_n 0, 1) := by decide +kernel
theorem d_M_solve_209 : decode b_M_solve 209 = .ok (.dup, 1) := by decide +kernel
theorem d_M_solve_210 : decode b_M_solve 210 = .ok (.getfield 189, 3) := by decide +kernel
theorem d_M_solve_213 : decode b_M_solve 213 = .ok (.iconst 1, 1) := by decide +kernel
theorem d_M_solve_214 : decode b_M_solve 214 = .ok (.iadd, 1) := by decide +kernel
theorem d_M_solve_215 : decode b_M_solve 215 = .ok (.putfield 189, 3) := by decide +kernel
theorem d_M_solve_218 : decode b_M_solve 218 = .ok (.iinc 2 1, 3) := by decide +kernel
theorem d_M_solve_221 : decode b_M_solve 221 = .ok (.goto (-84), 3) := by decide +kernel
theorem d_M_solve_224 : decode b_M_solve 224 = .ok (.return_, 1) := by decide +kernel
theorem d_M_least_0 : decode b_M_least 0 = .ok (.aload_n 0, 1) := by decide +kernel
theorem d_M_least_1 : decode b_M_least 1 = .ok (.iconst 0, 1) := by decide +kernel
theorem d_M_least_2 : decode b_M_least 2 = .ok (.putfield 83, 3) := by decide +kernel
theorem d_M_least_5 : decode b_M_least 5 = .ok (.aload_n 0, 1) := by decide +kernel
theorem d_M_least_6 : decode b_M_least 6 = .ok (.invokevirtual 129, 3) := by decide +kernel
theorem d_M_least_9 : decode b_M_least 9 = .ok (.aload_n 0, 1) := by decide +kernel
theorem d_M_least_10 : decode b_M_least 10 = .ok (.getfield 189, 3) := by decide +kernel
theorem d_M_least_13 : decode b_M_least 13 = .ok (.ireturn, 1) := by decide +kernel
theorem d_M_parts_0 : decode b_M_parts 0 = .ok (.aload_n 0, 1) := by decide +kernel
theorem d_M_parts_1 : decode b_M_parts 1 = .ok (.iconst 0, 1) := by decide +kernel
theorem d_M_parts_2 : decode b_M_parts 2 = .ok (.putfield 83, 3) := by decide +kernel
theorem d_M_parts_5 : decode b_M_parts 5 = .ok (.aload_n 0, 1) := by decide +kernel
theorem d_M_parts_6 : decode b_M_parts 6 = .ok (.invokevirtual 129, 3) := by decide +kernel
theorem d_M_parts_9 : decode b_M_parts 9 = .ok (.iconst 0, 1) := by decide +kernel
theorem d_M_parts_10 : decode b_M_parts 10 = .ok (.istore_n 1, 1) := by decide +kernel
theorem d_M_parts_11 : decode b_M_parts 11 = .ok (.iconst 0, 1) := by decide +kernel
theorem d_M_parts_12 : decode b_M_parts 12 = .ok (.istore_n 2, 1) := by decide +kernel
theorem d_M_parts_13 : decode b_M_parts 13 = .ok (.iload_n 2, 1) := by decide +kernel
theorem d_M_parts_14 : decode b_M_parts 14 = .ok (.aload_n 0, 1) := by decide +kernel
theorem d_M_parts_15 : decode b_M_parts 15 = .ok (.getfield 189, 3) := by decide +kernel
theorem d_M_parts_18 : decode b_M_parts 18 = .ok (.if_icmp .ge 23, 3) := by decide +kernel
theorem d_M_parts_21 : decode b_M_parts 21 = .ok (.iload_n 1, 1) := by decide +kernel
theorem d_M_parts_22 : decode b_M_parts 22 = .ok (.aload_n 0, 1) := by decide +kernel
theorem d_M_parts_23 : decode b_M_parts 23 = .ok (.getfield 29, 3) := by decide +kernel
theorem d_M_parts_26 : decode b_M_parts 26 = .ok (.aload_n 0, 1) := by decide +kernel
theorem d_M_parts_27 : decode b_M_parts 27 = .ok (.getfield 38, 3) := by decide +kernel
theorem d_M_parts_30 : decode b_M_parts 30 = .ok (.iload_n 2, 1) := by decide +kernel
theorem d_M_parts_31 : decode b_M_parts 31 = .ok (.iaload, 1) := by decide +kernel
theorem d_M_parts_32 : decode b_M_parts 32 = .ok (.iaload, 1) := by decide +kernel
theorem d_M_parts_33 : decode b_M_parts 33 = .ok (.iadd, 1) := by decide +kernel
theorem d_M_parts_34 : decode b_M_parts 34 = .ok (.istore_n 1, 1) := by decide +kernel
theorem d_M_parts_35 : decode b_M_parts 35 = .ok (.iinc 2 1, 3) := by decide +kernel
theorem d_M_parts_38 : decode b_M_parts 38 = .ok (.goto (-25), 3) := by decide +kernel
theorem d_M_parts_41 : decode b_M_parts 41 = .ok (.iload_n 1, 1) := by decide +kernel
theorem d_M_parts_42 : decode b_M_parts 42 = .ok (.ireturn, 1) := by decide +kernel
theorem d_M_chosen_0 : decode b_M_chosen 0 = .ok (.aload_n 0, 1) := by decide +kernel
theorem d_M_chosen_1 : decode b_M_chosen 1 = .ok (.invokevirtual 129, 3) := by decide +kernel
theorem d_M_chosen_4 : decode b_M_chosen 4 = .ok (.aload_n 0, 1) := by decide +kernel
theorem d_M_chosen_5 : decode b_M_chosen 5 = .ok (.iload_n 1, 1) := by decide +kernel
theorem d_M_chosen_6 : decode b_M_chosen 6 = .ok (.iconst 0, 1) := by decide +kernel
theorem d_M_chosen_7 : decode b_M_chosen 7 = .ok (.aload_n 0, 1) := by decide +kernel
theorem d_M_chosen_8 : decode b_M_chosen 8 = .ok (.getfield 189, 3) := by decide +kernel
theorem d_M_chosen_11 : decode b_M_chosen 11 = .ok (.iconst 1, 1) := by decide +kernel
theorem d_M_chosen_12 : decode b_M_chosen 12 = .ok (.isub, 1) := by decide +kernel
theorem d_M_chosen_13 : decode b_M_chosen 13 = .ok (.invokestatic 86, 3) := by decide +kernel
theorem d_M_chosen_16 : decode b_M_chosen 16 = .ok (.ifCond .ne 7, 3) := by decide +kernel
theorem d_M_chosen_19 : decode b_M_chosen 19 = .ok (.iconst 1, 1) := by decide +kernel
theorem d_M_chosen_20 : decode b_M_chosen 20 = .ok (.goto 4, 3) := by decide +kernel
theorem d_M_chosen_23 : decode b_M_chosen 23 = .ok (.iconst 0, 1) := by decide +kernel
theorem d_M_chosen_24 : decode b_M_chosen 24 = .ok (.iconst 0, 1) := by decide +kernel
theorem d_M_chosen_25 : decode b_M_chosen 25 = .ok (.invokevirtual 90, 3) := by decide +kernel
theorem d_M_chosen_28 : decode b_M_chosen 28 = .ok (.ifCond .eq 7, 3) := by decide +kernel
theorem d_M_chosen_31 : decode b_M_chosen 31 = .ok (.iconst 0, 1) := by decide +kernel
theorem d_M_chosen_32 : decode b_M_chosen 32 = .ok (.goto 9, 3) := by decide +kernel
theorem d_M_chosen_35 : decode b_M_chosen 35 = .ok (.aload_n 0, 1) := by decide +kernel
theorem d_M_chosen_36 : decode b_M_chosen 36 = .ok (.getfield 38, 3) := by decide +kernel
theorem d_M_chosen_39 : decode b_M_chosen 39 = .ok (.iload_n 1, 1) := by decide +kernel
theorem d_M_chosen_40 : decode b_M_chosen 40 = .ok (.iaload, 1) := by decide +kernel
theorem d_M_chosen_41 : decode b_M_chosen 41 = .ok (.ireturn, 1) := by decide +kernel
theorem d_M_value_0 : decode b_M_value 0 = .ok (.aload_n 0, 1) := by decide +kernel
theorem d_M_value_1 : decode b_M_value 1 = .ok (.invokevirtual 129, 3) := by decide +kernel
theorem d_M_value_4 : decode b_M_value 4 = .ok (.iload_n 1, 1) := by decide +kernel
theorem d_M_value_5 : decode b_M_value 5 = .ok (.iconst 0, 1) := by decide +kernel
theorem d_M_value_6 : decode b_M_value 6 = .ok (.aload_n 0, 1) := by decide +kernel
theorem d_M_value_7 : decode b_M_value 7 = .ok (.getfield 13, 3) := by decide +kernel
theorem d_M_value_10 : decode b_M_value 10 = .ok (.iconst 1, 1) := by decide +kernel
theorem d_M_value_11 : decode b_M_value 11 = .ok (.isub, 1) := by decide +kernel
theorem d_M_value_12 : decode b_M_value 12 = .ok (.invokestatic 86, 3) := by decide +kernel
theorem d_M_value_15 : decode b_M_value 15 = .ok (.istore_n 3, 1) := by decide +kernel
theorem d_M_value_16 : decode b_M_value 16 = .ok (.aload_n 0, 1) := by decide +kernel
theorem d_M_value_17 : decode b_M_value 17 = .ok (.iload_n 3, 1) := by decide +kernel
theorem d_M_value_18 : decode b_M_value 18 = .ok (.ifCond .ne 7, 3) := by decide +kernel
theorem d_M_value_21 : decode b_M_value 21 = .ok (.iconst 1, 1) := by decide +kernel
theorem d_M_value_22 : decode b_M_value 22 = .ok (.goto 4, 3) := by decide +kernel
theorem d_M_value_25 : decode b_M_value 25 = .ok (.iconst 0, 1) := by decide +kernel
theorem d_M_value_26 : decode b_M_value 26 = .ok (.iload_n 3, 1) := by decide +kernel
theorem d_M_value_27 : decode b_M_value 27 = .ok (.ifCond .eq 23, 3) := by decide +kernel
theorem d_M_value_30 : decode b_M_value 30 = .ok (.iload_n 2, 1) := by decide +kernel
theorem d_M_value_31 : decode b_M_value 31 = .ok (.iconst 0, 1) := by decide +kernel
theorem d_M_value_32 : decode b_M_value 32 = .ok (.iconst 1, 1) := by decide +kernel
theorem d_M_value_33 : decode b_M_value 33 = .ok (.aload_n 0, 1) := by decide +kernel
theorem d_M_value_34 : decode b_M_value 34 = .ok (.getfield 7, 3) := by decide +kernel
theorem d_M_value_37 : decode b_M_value 37 = .ok (.ishl, 1) := by decide +kernel
theorem d_M_value_38 : decode b_M_value 38 = .ok (.iconst 1, 1) := by decide +kernel
theorem d_M_value_39 : decode b_M_value 39 = .ok (.isub, 1) := by decide +kernel
theorem d_M_value_40 : decode b_M_value 40 = .ok (.invokestatic 86, 3) := by decide +kernel
theorem d_M_value_43 : decode b_M_value 43 = .ok (.ifCond .ne 7, 3) := by decide +kernel
theorem d_M_value_46 : decode b_M_value 46 = .ok (.iconst 1, 1) := by decide +kernel
theorem d_M_value_47 : decode b_M_value 47 = .ok (.goto 4, 3) := by decide +kernel
theorem d_M_value_50 : decode b_M_value 50 = .ok (.iconst 0, 1) := by decide +kernel
theorem d_M_value_51 : decode b_M_value 51 = .ok (.invokevirtual 90, 3) := by decide +kernel
theorem d_M_value_54 : decode b_M_value 54 = .ok (.ifCond .eq 5, 3) := by decide +kernel
theorem d_M_value_57 : decode b_M_value 57 = .ok (.iconst 0, 1) := by decide +kernel
theorem d_M_value_58 : decode b_M_value 58 = .ok (.ireturn, 1) := by decide +kernel
theorem d_M_value_59 : decode b_M_value 59 = .ok (.iconst 0, 1) := by decide +kernel
theorem d_M_value_60 : decode b_M_value 60 = .ok (.istore 4, 2) := by decide +kernel
theorem d_M_value_62 : decode b_M_value 62 = .ok (.iconst 0, 1) := by decide +kernel
theorem d_M_value_63 : decode b_M_value 63 = .ok (.istore 5, 2) := by decide +kernel
theorem d_M_value_65 : decode b_M_value 65 = .ok (.iload 5, 2) := by decide +kernel
theorem d_M_value_67 : decode b_M_value 67 = .ok (.aload_n 0, 1) := by decide +kernel
theorem d_M_value_68 : decode b_M_value 68 = .ok (.getfield 189, 3) := by decide +kernel
theorem d_M_value_71 : decode b_M_value 71 = .ok (.if_icmp .ge 61, 3) := by decide +kernel
theorem d_M_value_74 : decode b_M_value 74 = .ok (.iload 4, 2) := by decide +kernel
theorem d_M_value_76 : decode b_M_value 76 = .ok (.ifCond .ne 43, 3) := by decide +kernel
theorem d_M_value_79 : decode b_M_value 79 = .ok (.aload_n 0, 1) := by decide +kernel
theorem d_M_value_80 : decode b_M_value 80 = .ok (.getfield 26, 3) := by decide +kernel
theorem d_M_value_83 : decode b_M_value 83 = .ok (.aload_n 0, 1) := by decide +kernel
theorem d_M_value_84 : decode b_M_value 84 = .ok (.getfield 38, 3) := by decide +kernel
theorem d_M_value_87 : decode b_M_value 87 = .ok (.iload 5, 2) := by decide +kernel
theorem d_M_value_89 : decode b_M_value 89 = .ok (.iaload, 1) := by decide +kernel
theorem d_M_value_90 : decode b_M_value 90 = .ok (.iaload, 1) := by decide +kernel
theorem d_M_value_91 : decode b_M_value 91 = .ok (.iload_n 1, 1) := by decide +kernel
theorem d_M_value_92 : decode b_M_value 92 = .ok (.ishr, 1) := by decide +kernel
theorem d_M_value_93 : decode b_M_value 93 = .ok (.iconst 1, 1) := by decide +kernel
theorem d_M_value_94 : decode b_M_value 94 = .ok (.iand, 1) := by decide +kernel
theorem d_M_value_95 : decode b_M_value 95 = .ok (.iconst 1, 1) := by decide +kernel
theorem d_M_value_96 : decode b_M_value 96 = .ok (.if_icmp .ne 27, 3) := by decide +kernel
theorem d_M_value_99 : decode b_M_value 99 = .ok (.aload_n 0, 1) := by decide +kernel
theorem d_M_value_100 : decode b_M_value 100 = .ok (.getfield 32, 3) := by decide +kernel
theorem d_M_value_103 : decode b_M_value 103 = .ok (.aload_n 0, 1) := by decide +kernel
theorem d_M_value_104 : decode b_M_value 104 = .ok (.getfield 38, 3) := by decide +kernel
theorem d_M_value_107 : decode b_M_value 107 = .ok (.iload 5, 2) := by decide +kernel
theorem d_M_value_109 : decode b_M_value 109 = .ok (.iaload, 1) := by decide +kernel
theorem d_M_value_110 : decode b_M_value 110 = .ok (.iaload, 1) := by decide +kernel
theorem d_M_value_111 : decode b_M_value 111 = .ok (.iload_n 2, 1) := by decide +kernel
theorem d_M_value_112 : decode b_M_value 112 = .ok (.ishr, 1) := by decide +kernel
theorem d_M_value_113 : decode b_M_value 113 = .ok (.iconst 1, 1) := by decide +kernel
theorem d_M_value_114 : decode b_M_value 114 = .ok (.iand, 1) := by decide +kernel
theorem d_M_value_115 : decode b_M_value 115 = .ok (.iconst 1, 1) := by decide +kernel
theorem d_M_value_116 : decode b_M_value 116 = .ok (.if_icmp .ne 7, 3) := by decide +kernel
theorem d_M_value_119 : decode b_M_value 119 = .ok (.iconst 1, 1) := by decide +kernel
theorem d_M_value_120 : decode b_M_value 120 = .ok (.goto 4, 3) := by decide +kernel
theorem d_M_value_123 : decode b_M_value 123 = .ok (.iconst 0, 1) := by decide +kernel
theorem d_M_value_124 : decode b_M_value 124 = .ok (.istore 4, 2) := by decide +kernel
theorem d_M_value_126 : decode b_M_value 126 = .ok (.iinc 5 1, 3) := by decide +kernel
theorem d_M_value_129 : decode b_M_value 129 = .ok (.goto (-64), 3) := by decide +kernel
theorem d_M_value_132 : decode b_M_value 132 = .ok (.iload 4, 2) := by decide +kernel
theorem d_M_value_134 : decode b_M_value 134 = .ok (.ireturn, 1) := by decide +kernel
theorem d_M_coveredBy_0 : decode b_M_coveredBy 0 = .ok (.iconst 0, 1) := by decide +kernel
theorem d_M_coveredBy_1 : decode b_M_coveredBy 1 = .ok (.istore 6, 2) := by decide +kernel
theorem d_M_coveredBy_3 : decode b_M_coveredBy 3 = .ok (.iconst 0, 1) := by decide +kernel
theorem d_M_coveredBy_4 : decode b_M_coveredBy 4 = .ok (.istore 7, 2) := by decide +kernel
theorem d_M_coveredBy_6 : decode b_M_coveredBy 6 = .ok (.iload 7, 2) := by decide +kernel
theorem d_M_coveredBy_8 : decode b_M_coveredBy 8 = .ok (.aload_n 0, 1) := by decide +kernel
theorem d_M_coveredBy_9 : decode b_M_coveredBy 9 = .ok (.getfield 113, 3) := by decide +kernel
theorem d_M_coveredBy_12 : decode b_M_coveredBy 12 = .ok (.if_icmp .ge 90, 3) := by decide +kernel
theorem d_M_coveredBy_15 : decode b_M_coveredBy 15 = .ok (.iload 7, 2) := by decide +kernel
theorem d_M_coveredBy_17 : decode b_M_coveredBy 17 = .ok (.bipush 41, 2) := by decide +kernel
theorem d_M_coveredBy_19 : decode b_M_coveredBy 19 = .ok (.if_icmp .ge 22, 3) := by decide +kernel
theorem d_M_coveredBy_22 : decode b_M_coveredBy 22 = .ok (.lload_n 2, 1) := by decide +kernel
theorem d_M_coveredBy_23 : decode b_M_coveredBy 23 = .ok (.iload 7, 2) := by decide +kernel
theorem d_M_coveredBy_25 : decode b_M_coveredBy 25 = .ok (.lshr, 1) := by decide +kernel
theorem d_M_coveredBy_26 : decode b_M_coveredBy 26 = .ok (.lconst 1, 1) := by decide +kernel
theorem d_M_coveredBy_27 : decode b_M_coveredBy 27 = .ok (.land, 1) := by decide +kernel
theorem d_M_coveredBy_28 : decode b_M_coveredBy 28 = .ok (.lconst 1, 1) := by decide +kernel
theorem d_M_coveredBy_29 : decode b_M_coveredBy 29 = .ok (.lcmp, 1) := by decide +kernel
theorem d_M_coveredBy_30 : decode b_M_coveredBy 30 = .ok (.ifCond .ne 7, 3) := by decide +kernel
theorem d_M_coveredBy_33 : decode b_M_coveredBy 33 = .ok (.iconst 1, 1) := by decide +kernel
theorem d_M_coveredBy_34 : decode b_M_coveredBy 34 = .ok (.goto 27, 3) := by decide +kernel
theorem d_M_coveredBy_37 : decode b_M_coveredBy 37 = .ok (.iconst 0, 1) := by decide +kernel
theorem d_M_coveredBy_38 : decode b_M_coveredBy 38 = .ok (.goto 23, 3) := by decide +kernel
theorem d_M_coveredBy_41 : decode b_M_coveredBy 41 = .ok (.lload 4, 2) := by decide +kernel
theorem d_M_coveredBy_43 : decode b_M_coveredBy 43 = .ok (.iload 7, 2) := by decide +kernel
theorem d_M_coveredBy_45 : decode b_M_coveredBy 45 = .ok (.bipush 41, 2) := by decide +kernel
theorem d_M_coveredBy_47 : decode b_M_coveredBy 47 = .ok (.isub, 1) := by decide +kernel
theorem d_M_coveredBy_48 : decode b_M_coveredBy 48 = .ok (.lshr, 1) := by decide +kernel
theorem d_M_coveredBy_49 : decode b_M_coveredBy 49 = .ok (.lconst 1, 1) := by decide +kernel
theorem d_M_coveredBy_50 : decode b_M_coveredBy 50 = .ok (.land, 1) := by decide +kernel
theorem d_M_coveredBy_51 : decode b_M_coveredBy 51 = .ok (.lconst 1, 1) := by decide +kernel
theorem d_M_coveredBy_52 : decode b_M_coveredBy 52 = .ok (.lcmp, 1) := by decide +kernel
theorem d_M_coveredBy_53 : decode b_M_coveredBy 53 = .ok (.ifCond .ne 7, 3) := by decide +kernel
theorem d_M_coveredBy_56 : decode b_M_coveredBy 56 = .ok (.iconst 1, 1) := by decide +kernel
theorem d_M_coveredBy_57 : decode b_M_coveredBy 57 = .ok (.goto 4, 3) := by decide +kernel
theorem d_M_coveredBy_60 : decode b_M_coveredBy 60 = .ok (.iconst 0, 1) := by decide +kernel
theorem d_M_coveredBy_61 : decode b_M_coveredBy 61 = .ok (.istore 8, 2) := by decide +kernel
theorem d_M_coveredBy_63 : decode b_M_coveredBy 63 = .ok (.aload_n 0, 1) := by decide +kernel
theorem d_M_coveredBy_64 : decode b_M_coveredBy 64 = .ok (.getfield 23, 3) := by decide +kernel
theorem d_M_coveredBy_67 : decode b_M_coveredBy 67 = .ok (.iload 7, 2) := by decide +kernel
theorem d_M_coveredBy_69 : decode b_M_coveredBy 69 = .ok (.iaload, 1) := by decide +kernel
theorem d_M_coveredBy_70 : decode b_M_coveredBy 70 = .ok (.iload_n 1, 1) := by decide +kernel
theorem d_M_coveredBy_71 : decode b_M_coveredBy 71 = .ok (.if_icmp .lt 21, 3) := by decide +kernel
theorem d_M_coveredBy_74 : decode b_M_coveredBy 74 = .ok (.iload 8, 2) := by decide +kernel
theorem d_M_coveredBy_76 : decode b_M_coveredBy 76 = .ok (.ifCond .ne 16, 3) := by decide +kernel
theorem d_M_coveredBy_79 : decode b_M_coveredBy 79 = .ok (.iload 6, 2) := by decide +kernel
theorem d_M_coveredBy_81 : decode b_M_coveredBy 81 = .ok (.aload_n 0, 1) := by decide +kernel
theorem d_M_coveredBy_82 : decode b_M_coveredBy 82 = .ok (.getfield 35, 3) := by decide +kernel
theorem d_M_coveredBy_85 : decode b_M_coveredBy 85 = .ok (.iload 7, 2) := by decide +kernel
theorem d_M_coveredBy_87 : decode b_M_coveredBy 87 = .ok (.iaload, 1) := by decide +kernel
theorem d_M_coveredBy_88 : decode b_M_coveredBy 88 = .ok (.ior, 1) := by decide +kernel
theorem d_M_coveredBy_89 : decode b_M_coveredBy 89 = .ok (.goto 5, 3) := by decide +kernel
theorem d_M_coveredBy_92 : decode b_M_coveredBy 92 = .ok (.iload 6, 2) := by decide +kernel
theorem d_M_coveredBy_94 : decode b_M_coveredBy 94 = .ok (.istore 6, 2) := by decide +kernel
theorem d_M_coveredBy_96 : decode b_M_coveredBy 96 = .ok (.iinc 7 1, 3) := by decide +kernel
theorem d_M_coveredBy_99 : decode b_M_coveredBy 99 = .ok (.goto (-93), 3) := by decide +kernel
theorem d_M_coveredBy_102 : decode b_M_coveredBy 102 = .ok (.iload 6, 2) := by decide +kernel
theorem d_M_coveredBy_104 : decode b_M_coveredBy 104 = .ok (.ireturn, 1) := by decide +kernel
theorem d_M_thinned_0 : decode b_M_thinned 0 = .ok (.aload_n 0, 1) := by decide +kernel
theorem d_M_thinned_1 : decode b_M_thinned 1 = .ok (.iconst 0, 1) := by decide +kernel
theorem d_M_thinned_2 : decode b_M_thinned 2 = .ok (.putfield 83, 3) := by decide +kernel
theorem d_M_thinned_5 : decode b_M_thinned 5 = .ok (.aload_n 0, 1) := by decide +kernel
theorem d_M_thinned_6 : decode b_M_thinned 6 = .ok (.invokevirtual 129, 3) := by decide +kernel
theorem d_M_thinned_9 : decode b_M_thinned 9 = .ok (.aload_n 0, 1) := by decide +kernel
theorem d_M_thinned_10 : decode b_M_thinned 10 = .ok (.getfield 16, 3) := by decide +kernel
theorem d_M_thinned_13 : decode b_M_thinned 13 = .ok (.iconst 0, 1) := by decide +kernel
theorem d_M_thinned_14 : decode b_M_thinned 14 = .ok (.iaload, 1) := by decide +kernel
theorem d_M_thinned_15 : decode b_M_thinned 15 = .ok (.aload_n 0, 1) := by decide +kernel
theorem d_M_thinned_16 : decode b_M_thinned 16 = .ok (.getfield 16, 3) := by decide +kernel
theorem d_M_thinned_19 : decode b_M_thinned 19 = .ok (.iconst 1, 1) := by decide +kernel
theorem d_M_thinned_20 : decode b_M_thinned 20 = .ok (.iaload, 1) := by decide +kernel
theorem d_M_thinned_21 : decode b_M_thinned 21 = .ok (.bipush 16, 2) := by decide +kernel
theorem d_M_thinned_23 : decode b_M_thinned 23 = .ok (.ishl, 1) := by decide +kernel
theorem d_M_thinned_24 : decode b_M_thinned 24 = .ok (.ior, 1) := by decide +kernel
theorem d_M_thinned_25 : decode b_M_thinned 25 = .ok (.istore_n 2, 1) := by decide +kernel
theorem d_M_thinned_26 : decode b_M_thinned 26 = .ok (.aload_n 0, 1) := by decide +kernel
theorem d_M_thinned_27 : decode b_M_thinned 27 = .ok (.iload_n 1, 1) := by decide +kernel
theorem d_M_thinned_28 : decode b_M_thinned 28 = .ok (.lconst 0, 1) := by decide +kernel
theorem d_M_thinned_29 : decode b_M_thinned 29 = .ok (.lconst 0, 1) := by decide +kernel
theorem d_M_thinned_30 : decode b_M_thinned 30 = .ok (.invokevirtual 192, 3) := by decide +kernel
theorem d_M_thinned_33 : decode b_M_thinned 33 = .ok (.iload_n 2, 1) := by decide +kernel
theorem d_M_thinned_34 : decode b_M_thinned 34 = .ok (.if_icmp .eq 5, 3) := by decide +kernel
theorem d_M_thinned_37 : decode b_M_thinned 37 = .ok (.iconst (-1), 1) := by decide +kernel
theorem d_M_thinned_38 : decode b_M_thinned 38 = .ok (.ireturn, 1) := by decide +kernel
theorem d_M_thinned_39 : decode b_M_thinned 39 = .ok (.lconst 0, 1) := by decide +kernel
theorem d_M_thinned_40 : decode b_M_thinned 40 = .ok (.lstore_n 3, 1) := by decide +kernel
theorem d_M_thinned_41 : decode b_M_thinned 41 = .ok (.lconst 0, 1) := by decide +kernel
theorem d_M_thinned_42 : decode b_M_thinned 42 = .ok (.lstore 5, 2) := by decide +kernel
theorem d_M_thinned_44 : decode b_M_thinned 44 = .ok (.iconst 0, 1) := by decide +kernel
theorem d_M_thinned_45 : decode b_M_thinned 45 = .ok (.istore 7, 2) := by decide +kernel
theorem d_M_thinned_47 : decode b_M_thinned 47 = .ok (.aload_n 0, 1) := by decide +kernel
theorem d_M_thinned_48 : decode b_M_thinned 48 = .ok (.getfield 113, 3) := by decide +kernel
theorem d_M_thinned_51 : decode b_M_thinned 51 = .ok (.iconst 1, 1) := by decide +kernel
theorem d_M_thinned_52 : decode b_M_thinned 52 = .ok (.isub, 1) := by decide +kernel
theorem d_M_thinned_53 : decode b_M_thinned 53 = .ok (.istore 8, 2) := by decide +kernel
theorem d_M_thinned_55 : decode b_M_thinned 55 = .ok (.iload 8, 2) := by decide +kernel
theorem d_M_thinned_57 : decode b_M_thinned 57 = .ok (.ifCond .lt 125, 3) := by decide +kernel
theorem d_M_thinned_60 : decode b_M_thinned 60 = .ok (.aload_n 0, 1) := by decide +kernel
theorem d_M_thinned_61 : decode b_M_thinned 61 = .ok (.getfield 23, 3) := by decide +kernel
theorem d_M_thinned_64 : decode b_M_thinned 64 = .ok (.iload 8, 2) := by decide +kernel
theorem d_M_thinned_66 : decode b_M_thinned 66 = .ok (.iaload, 1) := by decide +kernel
theorem d_M_thinned_67 : decode b_M_thinned 67 = .ok (.iload_n 1, 1) := by decide +kernel
theorem d_M_thinned_68 : decode b_M_thinned 68 = .ok (.if_icmp .lt 108, 3) := by decide +kernel
theorem d_M_thinned_71 : decode b_M_thinned 71 = .ok (.iload 8, 2) := by decide +kernel
theorem d_M_thinned_73 : decode b_M_thinned 73 = .ok (.bipush 41, 2) := by decide +kernel
theorem d_M_thinned_75 : decode b_M_thinned 75 = .ok (.if_icmp .ge 12, 3) := by decide +kernel
theorem d_M_thinned_78 : decode b_M_thinned 78 = .ok (.lload_n 3, 1) := by decide +kernel
theorem d_M_thinned_79 : decode b_M_thinned 79 = .ok (.lconst 1, 1) := by decide +kernel
theorem d_M_thinned_80 : decode b_M_thinned 80 = .ok (.iload 8, 2) := by decide +kernel
theorem d_M_thinned_82 : decode b_M_thinned 82 = .ok (.lshl, 1) := by decide +kernel
theorem d_M_thinned_83 : decode b_M_thinned 83 = .ok (.lor, 1) := by decide +kernel
theorem d_M_thinned_84 : decode b_M_thinned 84 = .ok (.goto 4, 3) := by decide +kernel
theorem d_M_thinned_87 : decode b_M_thinned 87 = .ok (.lload_n 3, 1) := by decide +kernel
theorem d_M_thinned_88 : decode b_M_thinned 88 = .ok (.lstore 9, 2) := by decide +kernel
theorem d_M_thinned_90 : decode b_M_thinned 90 = .ok (.iload 8, 2) := by decide +kernel
theorem d_M_thinned_92 : decode b_M_thinned 92 = .ok (.bipush 41, 2) := by decide +kernel
theorem d_M_thinned_94 : decode b_M_thinned 94 = .ok (.if_icmp .ge 8, 3) := by decide +kernel
theorem d_M_thinned_97 : decode b_M_thinned 97 = .ok (.lload 5, 2) := by decide +kernel
theorem d_M_thinned_99 : decode b_M_thinned 99 = .ok (.goto 13, 3) := by decide +kernel
theorem d_M_thinned_102 : decode b_M_thinned 102 = .ok (.lload 5, 2) := by decide +kernel
theorem d_M_thinned_104 : decode b_M_thinned 104 = .ok (.lconst 1, 1) := by decide +kernel
theorem d_M_thinned_105 : decode b_M_thinned 105 = .ok (.iload 8, 2) := by decide +kernel
theorem d_M_thinned_107 : decode b_M_thinned 107 = .ok (.bipush 41, 2) := by decide +kernel
theorem d_M_thinned_109 : decode b_M_thinned 109 = .ok (.isub, 1) := by decide +kernel
theorem d_M_thinned_110 : decode b_M_thinned 110 = .ok (.lshl, 1) := by decide +kernel
theorem d_M_thinned_111 : decode b_M_thinned 111 = .ok (.lor, 1) := by decide +kernel
theorem d_M_thinned_112 : decode b_M_thinned 112 = .ok (.lstore 11, 2) := by decide +kernel
theorem d_M_thinned_114 : decode b_M_thinned 114 = .ok (.aload_n 0, 1) := by decide +kernel
theorem d_M_thinned_115 : decode b_M_thinned 115 = .ok (.iload_n 1, 1) := by decide +kernel
theorem d_M_thinned_116 : decode b_M_thinned 116 = .ok (.lload 9, 2) := by decide +kernel
theorem d_M_thinned_118 : decode b_M_thinned 118 = .ok (.lload 11, 2) := by decide +kernel
theorem d_M_thinned_120 : decode b_M_thinned 120 = .ok (.invokevirtual 192, 3) := by decide +kernel
theorem d_M_thinned_123 : decode b_M_thinned 123 = .ok (.iload_n 2, 1) := by decide +kernel
theorem d_M_thinned_124 : decode b_M_thinned 124 = .ok (.if_icmp .ne 7, 3) := by decide +kernel
theorem d_M_thinned_127 : decode b_M_thinned 127 = .ok (.iconst 1, 1) := by decide +kernel
theorem d_M_thinned_128 : decode b_M_thinned 128 = .ok (.goto 4, 3) := by decide +kernel
theorem d_M_thinned_131 : decode b_M_thinned 131 = .ok (.iconst 0, 1) := by decide +kernel
theorem d_M_thinned_132 : decode b_M_thinned 132 = .ok (.istore 13, 2) := by decide +kernel
theorem d_M_thinned_134 : decode b_M_thinned 134 = .ok (.iload 13, 2) := by decide +kernel
theorem d_M_thinned_136 : decode b_M_thinned 136 = .ok (.ifCond .eq 8, 3) := by decide +kernel
theorem d_M_thinned_139 : decode b_M_thinned 139 = .ok (.lload 9, 2) := by decide +kernel
theorem d_M_thinned_141 : decode b_M_thinned 141 = .ok (.goto 4, 3) := by decide +kernel
theorem d_M_thinned_144 : decode b_M_thinned 144 = .ok (.lload_n 3, 1) := by decide +kernel
theorem d_M_thinned_145 : decode b_M_thinned 145 = .ok (.lstore_n 3, 1) := by decide +kernel
theorem d_M_thinned_146 : decode b_M_thinned 146 = .ok (.iload 13, 2) := by decide +kernel
theorem d_M_thinned_148 : decode b_M_thinned 148 = .ok (.ifCond .eq 8, 3) := by decide +kernel
theorem d_M_thinned_151 : decode b_M_thinned 151 = .ok (.lload 11, 2) := by decide +kernel
theorem d_M_thinned_153 : decode b_M_thinned 153 = .ok (.goto 5, 3) := by decide +kernel
theorem d_M_thinned_156 : decode b_M_thinned 156 = .ok (.lload 5, 2) := by decide +kernel
theorem d_M_thinned_158 : decode b_M_thinned 158 = .ok (.lstore 5, 2) := by decide +kernel
theorem d_M_thinned_160 : decode b_M_thinned 160 = .ok (.iload 13, 2) := by decide +kernel
theorem d_M_thinned_162 : decode b_M_thinned 162 = .ok (.ifCond .eq 8, 3) := by decide +kernel
theorem d_M_thinned_165 : decode b_M_thinned 165 = .ok (.iload 7, 2) := by decide +kernel
theorem d_M_thinned_167 : decode b_M_thinned 167 = .ok (.goto 7, 3) := by decide +kernel
theorem d_M_thinned_170 : decode b_M_thinned 170 = .ok (.iload 7, 2) := by decide +kernel
theorem d_M_thinned_172 : decode b_M_thinned 172 = .ok (.iconst 1, 1) := by decide +kernel
theorem d_M_thinned_173 : decode b_M_thinned 173 = .ok (.iadd, 1) := by decide +kernel
theorem d_M_thinned_174 : decode b_M_thinned 174 = .ok (.istore 7, 2) := by decide +kernel
theorem d_M_thinned_176 : decode b_M_thinned 176 = .ok (.iinc 8 (-1), 3) := by decide +kernel
theorem d_M_thinned_179 : decode b_M_thinned 179 = .ok (.goto (-124), 3) := by decide +kernel
theorem d_M_thinned_182 : decode b_M_thinned 182 = .ok (.iload 7, 2) := by decide +kernel
theorem d_M_thinned_184 : decode b_M_thinned 184 = .ok (.ireturn, 1) := by decide +kernel
