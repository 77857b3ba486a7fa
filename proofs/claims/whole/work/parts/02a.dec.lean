theorem d_T_init_0 : decode b_T_init 0 = .ok (.aload_n 0, 1) := by decide +kernel
theorem d_T_init_1 : decode b_T_init 1 = .ok (.invokespecial 3, 3) := by decide +kernel
theorem d_T_init_4 : decode b_T_init 4 = .ok (.aload_n 0, 1) := by decide +kernel
theorem d_T_init_5 : decode b_T_init 5 = .ok (.bipush 81, 2) := by decide +kernel
theorem d_T_init_7 : decode b_T_init 7 = .ok (.newarray .int, 2) := by decide +kernel
theorem d_T_init_9 : decode b_T_init 9 = .ok (.putfield 9, 3) := by decide +kernel
theorem d_T_init_12 : decode b_T_init 12 = .ok (.aload_n 0, 1) := by decide +kernel
theorem d_T_init_13 : decode b_T_init 13 = .ok (.bipush 81, 2) := by decide +kernel
theorem d_T_init_15 : decode b_T_init 15 = .ok (.newarray .int, 2) := by decide +kernel
theorem d_T_init_17 : decode b_T_init 17 = .ok (.putfield 15, 3) := by decide +kernel
theorem d_T_init_20 : decode b_T_init 20 = .ok (.aload_n 0, 1) := by decide +kernel
theorem d_T_init_21 : decode b_T_init 21 = .ok (.bipush 81, 2) := by decide +kernel
theorem d_T_init_23 : decode b_T_init 23 = .ok (.newarray .int, 2) := by decide +kernel
theorem d_T_init_25 : decode b_T_init 25 = .ok (.putfield 18, 3) := by decide +kernel
theorem d_T_init_28 : decode b_T_init 28 = .ok (.aload_n 0, 1) := by decide +kernel
theorem d_T_init_29 : decode b_T_init 29 = .ok (.bipush 81, 2) := by decide +kernel
theorem d_T_init_31 : decode b_T_init 31 = .ok (.newarray .int, 2) := by decide +kernel
theorem d_T_init_33 : decode b_T_init 33 = .ok (.putfield 21, 3) := by decide +kernel
theorem d_T_init_36 : decode b_T_init 36 = .ok (.aload_n 0, 1) := by decide +kernel
theorem d_T_init_37 : decode b_T_init 37 = .ok (.bipush 81, 2) := by decide +kernel
theorem d_T_init_39 : decode b_T_init 39 = .ok (.newarray .long, 2) := by decide +kernel
theorem d_T_init_41 : decode b_T_init 41 = .ok (.putfield 24, 3) := by decide +kernel
theorem d_T_init_44 : decode b_T_init 44 = .ok (.aload_n 0, 1) := by decide +kernel
theorem d_T_init_45 : decode b_T_init 45 = .ok (.new 28, 3) := by decide +kernel
theorem d_T_init_48 : decode b_T_init 48 = .ok (.dup, 1) := by decide +kernel
theorem d_T_init_49 : decode b_T_init 49 = .ok (.invokespecial 30, 3) := by decide +kernel
theorem d_T_init_52 : decode b_T_init 52 = .ok (.putfield 31, 3) := by decide +kernel
theorem d_T_init_55 : decode b_T_init 55 = .ok (.aload_n 0, 1) := by decide +kernel
theorem d_T_init_56 : decode b_T_init 56 = .ok (.bipush 81, 2) := by decide +kernel
theorem d_T_init_58 : decode b_T_init 58 = .ok (.newarray .int, 2) := by decide +kernel
theorem d_T_init_60 : decode b_T_init 60 = .ok (.putfield 35, 3) := by decide +kernel
theorem d_T_init_63 : decode b_T_init 63 = .ok (.return_, 1) := by decide +kernel
theorem d_T_fill_0 : decode b_T_fill 0 = .ok (.iload_n 1, 1) := by decide +kernel
theorem d_T_fill_1 : decode b_T_fill 1 = .ok (.invokestatic 38, 3) := by decide +kernel
theorem d_T_fill_4 : decode b_T_fill 4 = .ok (.istore 5, 2) := by decide +kernel
theorem d_T_fill_6 : decode b_T_fill 6 = .ok (.iconst 0, 1) := by decide +kernel
theorem d_T_fill_7 : decode b_T_fill 7 = .ok (.istore 6, 2) := by decide +kernel
theorem d_T_fill_9 : decode b_T_fill 9 = .ok (.iload 6, 2) := by decide +kernel
theorem d_T_fill_11 : decode b_T_fill 11 = .ok (.iload 5, 2) := by decide +kernel
theorem d_T_fill_13 : decode b_T_fill 13 = .ok (.if_icmp .ge 39, 3) := by decide +kernel
theorem d_T_fill_16 : decode b_T_fill 16 = .ok (.iload 6, 2) := by decide +kernel
theorem d_T_fill_18 : decode b_T_fill 18 = .ok (.bipush 81, 2) := by decide +kernel
theorem d_T_fill_20 : decode b_T_fill 20 = .ok (.if_icmp .ge 32, 3) := by decide +kernel
theorem d_T_fill_23 : decode b_T_fill 23 = .ok (.aload_n 0, 1) := by decide +kernel
theorem d_T_fill_24 : decode b_T_fill 24 = .ok (.getfield 35, 3) := by decide +kernel
theorem d_T_fill_27 : decode b_T_fill 27 = .ok (.iload 6, 2) := by decide +kernel
theorem d_T_fill_29 : decode b_T_fill 29 = .ok (.aload_n 0, 1) := by decide +kernel
theorem d_T_fill_30 : decode b_T_fill 30 = .ok (.getfield 31, 3) := by decide +kernel
theorem d_T_fill_33 : decode b_T_fill 33 = .ok (.getfield 42, 3) := by decide +kernel
theorem d_T_fill_36 : decode b_T_fill 36 = .ok (.iload 6, 2) := by decide +kernel
theorem d_T_fill_38 : decode b_T_fill 38 = .ok (.iaload, 1) := by decide +kernel
theorem d_T_fill_39 : decode b_T_fill 39 = .ok (.iload_n 2, 1) := by decide +kernel
theorem d_T_fill_40 : decode b_T_fill 40 = .ok (.aload 4, 2) := by decide +kernel
theorem d_T_fill_42 : decode b_T_fill 42 = .ok (.invokestatic 43, 3) := by decide +kernel
theorem d_T_fill_45 : decode b_T_fill 45 = .ok (.iastore, 1) := by decide +kernel
theorem d_T_fill_46 : decode b_T_fill 46 = .ok (.iinc 6 1, 3) := by decide +kernel
theorem d_T_fill_49 : decode b_T_fill 49 = .ok (.goto (-40), 3) := by decide +kernel
theorem d_T_fill_52 : decode b_T_fill 52 = .ok (.aload_n 0, 1) := by decide +kernel
theorem d_T_fill_53 : decode b_T_fill 53 = .ok (.aload_n 3, 1) := by decide +kernel
theorem d_T_fill_54 : decode b_T_fill 54 = .ok (.iconst 3, 1) := by decide +kernel
theorem d_T_fill_55 : decode b_T_fill 55 = .ok (.invokestatic 47, 3) := by decide +kernel
theorem d_T_fill_58 : decode b_T_fill 58 = .ok (.putfield 51, 3) := by decide +kernel
theorem d_T_fill_61 : decode b_T_fill 61 = .ok (.aload_n 0, 1) := by decide +kernel
theorem d_T_fill_62 : decode b_T_fill 62 = .ok (.iconst 0, 1) := by decide +kernel
theorem d_T_fill_63 : decode b_T_fill 63 = .ok (.putfield 55, 3) := by decide +kernel
theorem d_T_fill_66 : decode b_T_fill 66 = .ok (.iconst 0, 1) := by decide +kernel
theorem d_T_fill_67 : decode b_T_fill 67 = .ok (.istore 6, 2) := by decide +kernel
theorem d_T_fill_69 : decode b_T_fill 69 = .ok (.iload 6, 2) := by decide +kernel
theorem d_T_fill_71 : decode b_T_fill 71 = .ok (.iload 5, 2) := by decide +kernel
theorem d_T_fill_73 : decode b_T_fill 73 = .ok (.if_icmp .ge 41, 3) := by decide +kernel
theorem d_T_fill_76 : decode b_T_fill 76 = .ok (.iload 6, 2) := by decide +kernel
theorem d_T_fill_78 : decode b_T_fill 78 = .ok (.bipush 81, 2) := by decide +kernel
theorem d_T_fill_80 : decode b_T_fill 80 = .ok (.if_icmp .ge 34, 3) := by decide +kernel
theorem d_T_fill_83 : decode b_T_fill 83 = .ok (.aload_n 0, 1) := by decide +kernel
theorem d_T_fill_84 : decode b_T_fill 84 = .ok (.getfield 55, 3) := by decide +kernel
theorem d_T_fill_87 : decode b_T_fill 87 = .ok (.bipush 81, 2) := by decide +kernel
theorem d_T_fill_89 : decode b_T_fill 89 = .ok (.if_icmp .ge 19, 3) := by decide +kernel
theorem d_T_fill_92 : decode b_T_fill 92 = .ok (.aload_n 0, 1) := by decide +kernel
theorem d_T_fill_93 : decode b_T_fill 93 = .ok (.iload 6, 2) := by decide +kernel
theorem d_T_fill_95 : decode b_T_fill 95 = .ok (.invokevirtual 59, 3) := by decide +kernel
theorem d_T_fill_98 : decode b_T_fill 98 = .ok (.ifCond .eq 10, 3) := by decide +kernel
theorem d_T_fill_101 : decode b_T_fill 101 = .ok (.aload_n 0, 1) := by decide +kernel
theorem d_T_fill_102 : decode b_T_fill 102 = .ok (.iload 6, 2) := by decide +kernel
theorem d_T_fill_104 : decode b_T_fill 104 = .ok (.aload_n 3, 1) := by decide +kernel
theorem d_T_fill_105 : decode b_T_fill 105 = .ok (.invokevirtual 63, 3) := by decide +kernel
theorem d_T_fill_108 : decode b_T_fill 108 = .ok (.iinc 6 1, 3) := by decide +kernel
theorem d_T_fill_111 : decode b_T_fill 111 = .ok (.goto (-42), 3) := by decide +kernel
theorem d_T_fill_114 : decode b_T_fill 114 = .ok (.aload_n 0, 1) := by decide +kernel
theorem d_T_fill_115 : decode b_T_fill 115 = .ok (.invokevirtual 67, 3) := by decide +kernel
theorem d_T_fill_118 : decode b_T_fill 118 = .ok (.return_, 1) := by decide +kernel
theorem d_T_outputsOf_0 : decode b_T_outputsOf 0 = .ok (.iconst 0, 1) := by decide +kernel
theorem d_T_outputsOf_1 : decode b_T_outputsOf 1 = .ok (.istore_n 3, 1) := by decide +kernel
theorem d_T_outputsOf_2 : decode b_T_outputsOf 2 = .ok (.iconst 0, 1) := by decide +kernel
theorem d_T_outputsOf_3 : decode b_T_outputsOf 3 = .ok (.istore 4, 2) := by decide +kernel
theorem d_T_outputsOf_5 : decode b_T_outputsOf 5 = .ok (.iload 4, 2) := by decide +kernel
theorem d_T_outputsOf_7 : decode b_T_outputsOf 7 = .ok (.iload_n 1, 1) := by decide +kernel
theorem d_T_outputsOf_8 : decode b_T_outputsOf 8 = .ok (.if_icmp .ge 32, 3) := by decide +kernel
theorem d_T_outputsOf_11 : decode b_T_outputsOf 11 = .ok (.iload 4, 2) := by decide +kernel
theorem d_T_outputsOf_13 : decode b_T_outputsOf 13 = .ok (.aload_n 2, 1) := by decide +kernel
theorem d_T_outputsOf_14 : decode b_T_outputsOf 14 = .ok (.arraylength, 1) := by decide +kernel
theorem d_T_outputsOf_15 : decode b_T_outputsOf 15 = .ok (.if_icmp .ge 25, 3) := by decide +kernel
theorem d_T_outputsOf_18 : decode b_T_outputsOf 18 = .ok (.iload_n 0, 1) := by decide +kernel
theorem d_T_outputsOf_19 : decode b_T_outputsOf 19 = .ok (.aload_n 2, 1) := by decide +kernel
theorem d_T_outputsOf_20 : decode b_T_outputsOf 20 = .ok (.iload 4, 2) := by decide +kernel
theorem d_T_outputsOf_22 : decode b_T_outputsOf 22 = .ok (.iaload, 1) := by decide +kernel
theorem d_T_outputsOf_23 : decode b_T_outputsOf 23 = .ok (.iand, 1) := by decide +kernel
theorem d_T_outputsOf_24 : decode b_T_outputsOf 24 = .ok (.ifCond .ne 10, 3) := by decide +kernel
theorem d_T_outputsOf_27 : decode b_T_outputsOf 27 = .ok (.iload_n 3, 1) := by decide +kernel
theorem d_T_outputsOf_28 : decode b_T_outputsOf 28 = .ok (.iconst 1, 1) := by decide +kernel
theorem d_T_outputsOf_29 : decode b_T_outputsOf 29 = .ok (.iload 4, 2) := by decide +kernel
theorem d_T_outputsOf_31 : decode b_T_outputsOf 31 = .ok (.ishl, 1) := by decide +kernel
theorem d_T_outputsOf_32 : decode b_T_outputsOf 32 = .ok (.ior, 1) := by decide +kernel
theorem d_T_outputsOf_33 : decode b_T_outputsOf 33 = .ok (.istore_n 3, 1) := by decide +kernel
theorem d_T_outputsOf_34 : decode b_T_outputsOf 34 = .ok (.iinc 4 1, 3) := by decide +kernel
theorem d_T_outputsOf_37 : decode b_T_outputsOf 37 = .ok (.goto (-32), 3) := by decide +kernel
theorem d_T_outputsOf_40 : decode b_T_outputsOf 40 = .ok (.iload_n 3, 1) := by decide +kernel
theorem d_T_outputsOf_41 : decode b_T_outputsOf 41 = .ok (.ireturn, 1) := by decide +kernel
theorem d_T_placesOf_0 : decode b_T_placesOf 0 = .ok (.lconst 0, 1) := by decide +kernel
theorem d_T_placesOf_1 : decode b_T_placesOf 1 = .ok (.lstore_n 2, 1) := by decide +kernel
theorem d_T_placesOf_2 : decode b_T_placesOf 2 = .ok (.iconst 0, 1) := by decide +kernel
theorem d_T_placesOf_3 : decode b_T_placesOf 3 = .ok (.istore 4, 2) := by decide +kernel
theorem d_T_placesOf_5 : decode b_T_placesOf 5 = .ok (.iload 4, 2) := by decide +kernel
theorem d_T_placesOf_7 : decode b_T_placesOf 7 = .ok (.aload_n 0, 1) := by decide +kernel
theorem d_T_placesOf_8 : decode b_T_placesOf 8 = .ok (.arraylength, 1) := by decide +kernel
theorem d_T_placesOf_9 : decode b_T_placesOf 9 = .ok (.if_icmp .ge 32, 3) := by decide +kernel
theorem d_T_placesOf_12 : decode b_T_placesOf 12 = .ok (.iload_n 1, 1) := by decide +kernel
theorem d_T_placesOf_13 : decode b_T_placesOf 13 = .ok (.iload 4, 2) := by decide +kernel
theorem d_T_placesOf_15 : decode b_T_placesOf 15 = .ok (.ishr, 1) := by decide +kernel
theorem d_T_placesOf_16 : decode b_T_placesOf 16 = .ok (.iconst 1, 1) := by decide +kernel
theorem d_T_placesOf_17 : decode b_T_placesOf 17 = .ok (.iand, 1) := by decide +kernel
theorem d_T_placesOf_18 : decode b_T_placesOf 18 = .ok (.ifCond .eq 17, 3) := by decide +kernel
theorem d_T_placesOf_21 : decode b_T_placesOf 21 = .ok (.lload_n 2, 1) := by decide +kernel
theorem d_T_placesOf_22 : decode b_T_placesOf 22 = .ok (.aload_n 0, 1) := by decide +kernel
theorem d_T_placesOf_23 : decode b_T_placesOf 23 = .ok (.iload 4, 2) := by decide +kernel
theorem d_T_placesOf_25 : decode b_T_placesOf 25 = .ok (.iaload, 1) := by decide +kernel
theorem d_T_placesOf_26 : decode b_T_placesOf 26 = .ok (.i2l, 1) := by decide +kernel
theorem d_T_placesOf_27 : decode b_T_placesOf 27 = .ok (.bipush 16, 2) := by decide +kernel
theorem d_T_placesOf_29 : decode b_T_placesOf 29 = .ok (.iload 4, 2) := by decide +kernel
theorem d_T_placesOf_31 : decode b_T_placesOf 31 = .ok (.imul, 1) := by decide +kernel
theorem d_T_placesOf_32 : decode b_T_placesOf 32 = .ok (.lshl, 1) := by decide +kernel
theorem d_T_placesOf_33 : decode b_T_placesOf 33 = .ok (.lor, 1) := by decide +kernel
theorem d_T_placesOf_34 : decode b_T_placesOf 34 = .ok (.lstore_n 2, 1) := by decide +kernel
theorem d_T_placesOf_35 : decode b_T_placesOf 35 = .ok (.iinc 4 1, 3) := by decide +kernel
theorem d_T_placesOf_38 : decode b_T_placesOf 38 = .ok (.goto (-33), 3) := by decide +kernel
theorem d_T_placesOf_41 : decode b_T_placesOf 41 = .ok (.lload_n 2, 1) := by decide +kernel
theorem d_T_placesOf_42 : decode b_T_placesOf 42 = .ok (.lreturn, 1) := by decide +kernel
theorem d_T_isCandidate_0 : decode b_T_isCandidate 0 = .ok (.aload_n 0, 1) := by decide +kernel
theorem d_T_isCandidate_1 : decode b_T_isCandidate 1 = .ok (.getfield 35, 3) := by decide +kernel
theorem d_T_isCandidate_4 : decode b_T_isCandidate 4 = .ok (.iload_n 1, 1) := by decide +kernel
theorem d_T_isCandidate_5 : decode b_T_isCandidate 5 = .ok (.iaload, 1) := by decide +kernel
theorem d_T_isCandidate_6 : decode b_T_isCandidate 6 = .ok (.istore_n 2, 1) := by decide +kernel
theorem d_T_isCandidate_7 : decode b_T_isCandidate 7 = .ok (.iload_n 2, 1) := by decide +kernel
theorem d_T_isCandidate_8 : decode b_T_isCandidate 8 = .ok (.ifCond .ne 5, 3) := by decide +kernel
theorem d_T_isCandidate_11 : decode b_T_isCandidate 11 = .ok (.iconst 0, 1) := by decide +kernel
theorem d_T_isCandidate_12 : decode b_T_isCandidate 12 = .ok (.ireturn, 1) := by decide +kernel
theorem d_T_isCandidate_13 : decode b_T_isCandidate 13 = .ok (.iconst 0, 1) := by decide +kernel
theorem d_T_isCandidate_14 : decode b_T_isCandidate 14 = .ok (.istore_n 3, 1) := by decide +kernel
theorem d_T_isCandidate_15 : decode b_T_isCandidate 15 = .ok (.iload_n 3, 1) := by decide +kernel
theorem d_T_isCandidate_16 : decode b_T_isCandidate 16 = .ok (.iconst 4, 1) := by decide +kernel
theorem d_T_isCandidate_17 : decode b_T_isCandidate 17 = .ok (.if_icmp .ge 40, 3) := by decide +kernel
theorem d_T_isCandidate_20 : decode b_T_isCandidate 20 = .ok (.iload_n 1, 1) := by decide +kernel
theorem d_T_isCandidate_21 : decode b_T_isCandidate 21 = .ok (.iload_n 3, 1) := by decide +kernel
theorem d_T_isCandidate_22 : decode b_T_isCandidate 22 = .ok (.invokestatic 70, 3) := by decide +kernel
theorem d_T_isCandidate_25 : decode b_T_isCandidate 25 = .ok (.istore 4, 2) := by decide +kernel
theorem d_T_isCandidate_27 : decode b_T_isCandidate 27 = .ok (.iload 4, 2) := by decide +kernel
theorem d_T_isCandidate_29 : decode b_T_isCandidate 29 = .ok (.iload_n 1, 1) := by decide +kernel
theorem d_T_isCandidate_30 : decode b_T_isCandidate 30 = .ok (.if_icmp .eq 21, 3) := by decide +kernel
theorem d_T_isCandidate_33 : decode b_T_isCandidate 33 = .ok (.iload 4, 2) := by decide +kernel
theorem d_T_isCandidate_35 : decode b_T_isCandidate 35 = .ok (.ifCond .lt 16, 3) := by decide +kernel
theorem d_T_isCandidate_38 : decode b_T_isCandidate 38 = .ok (.aload_n 0, 1) := by decide +kernel
theorem d_T_isCandidate_39 : decode b_T_isCandidate 39 = .ok (.getfield 35, 3) := by decide +kernel
theorem d_T_isCandidate_42 : decode b_T_isCandidate 42 = .ok (.iload 4, 2) := by decide +kernel
theorem d_T_isCandidate_44 : decode b_T_isCandidate 44 = .ok (.iaload, 1) := by decide +kernel
theorem d_T_isCandidate_45 : decode b_T_isCandidate 45 = .ok (.iload_n 2, 1) := by decide +kernel
theorem d_T_isCandidate_46 : decode b_T_isCandidate 46 = .ok (.if_icmp .ne 5, 3) := by decide +kernel
theorem d_T_isCandidate_49 : decode b_T_isCandidate 49 = .ok (.iconst 0, 1) := by decide +kernel
theorem d_T_isCandidate_50 : decode b_T_isCandidate 50 = .ok (.ireturn, 1) := by decide +kernel
theorem d_T_isCandidate_51 : decode b_T_isCandidate 51 = .ok (.iinc 3 1, 3) := by decide +kernel
theorem d_T_isCandidate_54 : decode b_T_isCandidate 54 = .ok (.goto (-39), 3) := by decide +kernel
theorem d_T_isCandidate_57 : decode b_T_isCandidate 57 = .ok (.iconst 1, 1) := by decide +kernel
theorem d_T_isCandidate_58 : decode b_T_isCandidate 58 = .ok (.ireturn, 1) := by decide +kernel
theorem d_T_append_0 : decode b_T_append 0 = .ok (.aload_n 0, 1) := by decide +kernel
theorem d_T_append_1 : decode b_T_append 1 = .ok (.getfield 31, 3) := by decide +kernel
theorem d_T_append_4 : decode b_T_append 4 = .ok (.getfield 42, 3) := by decide +kernel
theorem d_T_append_7 : decode b_T_append 7 = .ok (.iload_n 1, 1) := by decide +kernel
theorem d_T_append_8 : decode b_T_append 8 = .ok (.iaload, 1) := by decide +kernel
theorem d_T_append_9 : decode b_T_append 9 = .ok (.istore_n 3, 1) := by decide +kernel
theorem d_T_append_10 : decode b_T_append 10 = .ok (.aload_n 0, 1) := by decide +kernel
theorem d_T_append_11 : decode b_T_append 11 = .ok (.getfield 9, 3) := by decide +kernel
theorem d_T_append_14 : decode b_T_append 14 = .ok (.aload_n 0, 1) := by decide +kernel
theorem d_T_append_15 : decode b_T_append 15 = .ok (.getfield 55, 3) := by decide +kernel
theorem d_T_append_18 : decode b_T_append 18 = .ok (.iload_n 1, 1) := by decide +kernel
theorem d_T_append_19 : decode b_T_append 19 = .ok (.iastore, 1) := by decide +kernel
theorem d_T_append_20 : decode b_T_append 20 = .ok (.aload_n 0, 1) := by decide +kernel
theorem d_T_append_21 : decode b_T_append 21 = .ok (.getfield 15, 3) := by decide +kernel
theorem d_T_append_24 : decode b_T_append 24 = .ok (.aload_n 0, 1) := by decide +kernel
theorem d_T_append_25 : decode b_T_append 25 = .ok (.getfield 55, 3) := by decide +kernel
theorem d_T_append_28 : decode b_T_append 28 = .ok (.aload_n 0, 1) := by decide +kernel
theorem d_T_append_29 : decode b_T_append 29 = .ok (.getfield 35, 3) := by decide +kernel
theorem d_T_append_32 : decode b_T_append 32 = .ok (.iload_n 1, 1) := by decide +kernel
theorem d_T_append_33 : decode b_T_append 33 = .ok (.iaload, 1) := by decide +kernel
theorem d_T_append_34 : decode b_T_append 34 = .ok (.iastore, 1) := by decide +kernel
theorem d_T_append_35 : decode b_T_append 35 = .ok (.aload_n 0, 1) := by decide +kernel
theorem d_T_append_36 : decode b_T_append 36 = .ok (.getfield 18, 3) := by decide +kernel
theorem d_T_append_39 : decode b_T_append 39 = .ok (.aload_n 0, 1) := by decide +kernel
theorem d_T_append_40 : decode b_T_append 40 = .ok (.getfield 55, 3) := by decide +kernel
theorem d_T_append_43 : decode b_T_append 43 = .ok (.aload_n 0, 1) := by decide +kernel
theorem d_T_append_44 : decode b_T_append 44 = .ok (.getfield 31, 3) := by decide +kernel
theorem d_T_append_47 : decode b_T_append 47 = .ok (.getfield 74, 3) := by decide +kernel
theorem d_T_append_50 : decode b_T_append 50 = .ok (.iload_n 1, 1) := by decide +kernel
theorem d_T_append_51 : decode b_T_append 51 = .ok (.iaload, 1) := by decide +kernel
theorem d_T_append_52 : decode b_T_append 52 = .ok (.iastore, 1) := by decide +kernel
theorem d_T_append_53 : decode b_T_append 53 = .ok (.aload_n 0, 1) := by decide +kernel
theorem d_T_append_54 : decode b_T_append 54 = .ok (.getfield 21, 3) := by decide +kernel
theorem d_T_append_57 : decode b_T_append 57 = .ok (.aload_n 0, 1) := by decide +kernel
theorem d_T_append_58 : decode b_T_append 58 = .ok (.getfield 55, 3) := by decide +kernel
theorem d_T_append_61 : decode b_T_append 61 = .ok (.iload_n 3, 1) := by decide +kernel
theorem d_T_append_62 : decode b_T_append 62 = .ok (.iastore, 1) := by decide +kernel
theorem d_T_append_63 : decode b_T_append 63 = .ok (.iload_n 3, 1) := by decide +kernel
theorem d_T_append_64 : decode b_T_append 64 = .ok (.i2l, 1) := by decide +kernel
theorem d_T_append_65 : decode b_T_append 65 = .ok (.bipush 16, 2) := by decide +kernel
theorem d_T_append_67 : decode b_T_append 67 = .ok (.lshl, 1) := by decide +kernel
theorem d_T_append_68 : decode b_T_append 68 = .ok (.iload_n 3, 1) := by decide +kernel
theorem d_T_append_69 : decode b_T_append 69 = .ok (.i2l, 1) := by decide +kernel
theorem d_T_append_70 : decode b_T_append 70 = .ok (.lor, 1) := by decide +kernel
theorem d_T_append_71 : decode b_T_append 71 = .ok (.lstore 4, 2) := by decide +kernel
theorem d_T_append_73 : decode b_T_append 73 = .ok (.aload_n 0, 1) := by decide +kernel
theorem d_T_append_74 : decode b_T_append 74 = .ok (.getfield 24, 3) := by decide +kernel
theorem d_T_append_77 : decode b_T_append 77 = .ok (.aload_n 0, 1) := by decide +kernel
theorem d_T_append_78 : decode b_T_append 78 = .ok (.getfield 55, 3) := by decide +kernel
theorem d_T_append_81 : decode b_T_append 81 = .ok (.lload 4, 2) := by decide +kernel
theorem d_T_append_83 : decode b_T_append 83 = .ok (.aload_n 2, 1) := by decide +kernel
theorem d_T_append_84 : decode b_T_append 84 = .ok (.aload_n 0, 1) := by decide +kernel
theorem d_T_append_85 : decode b_T_append 85 = .ok (.getfield 15, 3) := by decide +kernel
theorem d_T_append_88 : decode b_T_append 88 = .ok (.aload_n 0, 1) := by decide +kernel
theorem d_T_append_89 : decode b_T_append 89 = .ok (.getfield 55, 3) := by decide +kernel
theorem d_T_append_92 : decode b_T_append 92 = .ok (.iaload, 1) := by decide +kernel
theorem d_T_append_93 : decode b_T_append 93 = .ok (.invokestatic 47, 3) := by decide +kernel
theorem d_T_append_96 : decode b_T_append 96 = .ok (.land, 1) := by decide +kernel
theorem d_T_append_97 : decode b_T_append 97 = .ok (.lastore, 1) := by decide +kernel
theorem d_T_append_98 : decode b_T_append 98 = .ok (.aload_n 0, 1) := by decide +kernel
theorem d_T_append_99 : decode b_T_append 99 = .ok (.dup, 1) := by decide +kernel
theorem d_T_append_100 : decode b_T_append 100 = .ok (.getfield 55, 3) := by decide +kernel
theorem d_T_append_103 : decode b_T_append 103 = .ok (.iconst 1, 1) := by decide +kernel
theorem d_T_append_104 : decode b_T_append 104 = .ok (.iadd, 1) := by decide +kernel
theorem d_T_append_105 : decode b_T_append 105 = .ok (.putfield 55, 3) := by decide +kernel
theorem d_T_append_108 : decode b_T_append 108 = .ok (.return_, 1) := by decide +kernel
theorem d_T_findLonelyPlaces_0 : decode b_T_findLonelyPlaces 0 = .ok (.lconst 0, 1) := by decide +kernel
theorem d_T_findLonelyPlaces_1 : decode b_T_findLonelyPlaces 1 = .ok (.lstore_n 1, 1) := by decide +kernel
theorem d_T_findLonelyPlaces_2 : decode b_T_findLonelyPlaces 2 = .ok (.lconst 0, 1) := by decide +kernel
theorem d_T_findLonelyPlaces_3 : decode b_T_findLonelyPlaces 3 = .ok (.lstore_n 3, 1) := by decide +kernel
theorem d_T_findLonelyPlaces_4 : decode b_T_findLonelyPlaces 4 = .ok (.iconst 0, 1) := by decide +kernel
theorem d_T_findLonelyPlaces_5 : decode b_T_findLonelyPlaces 5 = .ok (.istore 5, 2) := by decide +kernel
theorem d_T_findLonelyPlaces_7 : decode b_T_findLonelyPlaces 7 = .ok (.iload 5, 2) := by decide +kernel
theorem d_T_findLonelyPlaces_9 : decode b_T_findLonelyPlaces 9 = .ok (.aload_n 0, 1) := by decide +kernel
theorem d_T_findLonelyPlaces_10 : decode b_T_findLonelyPlaces 10 = .ok (.getfield 55, 3) := by decide +kernel
theorem d_T_findLonelyPlaces_13 : decode b_T_findLonelyPlaces 13 = .ok (.if_icmp .ge 31, 3) := by decide +kernel
theorem d_T_findLonelyPlaces_16 : decode b_T_findLonelyPlaces 16 = .ok (.lload_n 3, 1) := by decide +kernel
theorem d_T_findLonelyPlaces_17 : decode b_T_findLonelyPlaces 17 = .ok (.lload_n 1, 1) := by decide +kernel
theorem d_T_findLonelyPlaces_18 : decode b_T_findLonelyPlaces 18 = .ok (.aload_n 0, 1) := by decide +kernel
theorem d_T_findLonelyPlaces_19 : decode b_T_findLonelyPlaces 19 = .ok (.getfield 24, 3) := by decide +kernel
theorem d_T_findLonelyPlaces_22 : decode b_T_findLonelyPlaces 22 = .ok (.iload 5, 2) := by decide +kernel
theorem d_T_findLonelyPlaces_24 : decode b_T_findLonelyPlaces 24 = .ok (.laload, 1) := by decide +kernel
theorem d_T_findLonelyPlaces_25 : decode b_T_findLonelyPlaces 25 = .ok (.land, 1) := by decide +kernel
theorem d_T_findLonelyPlaces_26 : decode b_T_findLonelyPlaces 26 = .ok (.lor, 1) := by decide +kernel
theorem d_T_findLonelyPlaces_27 : decode b_T_findLonelyPlaces 27 = .ok (.lstore_n 3, 1) := by decide +kernel
theorem d_T_findLonelyPlaces_28 : decode b_T_findLonelyPlaces 28 = .ok (.lload_n 1, 1) := by decide +kernel
theorem d_T_findLonelyPlaces_29 : decode b_T_findLonelyPlaces 29 = .ok (.aload_n 0, 1) := by decide +kernel
theorem d_T_findLonelyPlaces_30 : decode b_T_findLonelyPlaces 30 = .ok (.getfield 24, 3) := by decide +kernel
theorem d_T_findLonelyPlaces_33 : decode b_T_findLonelyPlaces 33 = .ok (.iload 5, 2) := by decide +kernel
theorem d_T_findLonelyPlaces_35 : decode b_T_findLonelyPlaces 35 = .ok (.laload, 1) := by decide +kernel
theorem d_T_findLonelyPlaces_36 : decode b_T_findLonelyPlaces 36 = .ok (.lor, 1) := by decide +kernel
theorem d_T_findLonelyPlaces_37 : decode b_T_findLonelyPlaces 37 = .ok (.lstore_n 1, 1) := by decide +kernel
theorem d_T_findLonelyPlaces_38 : decode b_T_findLonelyPlaces 38 = .ok (.iinc 5 1, 3) := by decide +kernel
theorem d_T_findLonelyPlaces_41 : decode b_T_findLonelyPlaces 41 = .ok (.goto (-34), 3) := by decide +kernel
theorem d_T_findLonelyPlaces_44 : decode b_T_findLonelyPlaces 44 = .ok (.aload_n 0, 1) := by decide +kernel
theorem d_T_findLonelyPlaces_45 : decode b_T_findLonelyPlaces 45 = .ok (.lload_n 1, 1) := by decide +kernel
theorem d_T_findLonelyPlaces_46 : decode b_T_findLonelyPlaces 46 = .ok (.lload_n 3, 1) := by decide +kernel
theorem d_T_findLonelyPlaces_47 : decode b_T_findLonelyPlaces 47 = .ok (.ldc2_w 75, 3) := by decide +kernel
theorem d_T_findLonelyPlaces_50 : decode b_T_findLonelyPlaces 50 = .ok (.lxor, 1) := by decide +kernel
theorem d_T_findLonelyPlaces_51 : decode b_T_findLonelyPlaces 51 = .ok (.land, 1) := by decide +kernel
theorem d_T_findLonelyPlaces_52 : decode b_T_findLonelyPlaces 52 = .ok (.putfield 77, 3) := by decide +kernel
theorem d_T_findLonelyPlaces_55 : decode b_T_findLonelyPlaces 55 = .ok (.return_, 1) := by decide +kernel
theorem d_T_isNeeded_0 : decode b_T_isNeeded 0 = .ok (.iload_n 1, 1) := by decide +kernel
theorem d_T_isNeeded_1 : decode b_T_isNeeded 1 = .ok (.ifCond .lt 31, 3) := by decide +kernel
theorem d_T_isNeeded_4 : decode b_T_isNeeded 4 = .ok (.iload_n 1, 1) := by decide +kernel
theorem d_T_isNeeded_5 : decode b_T_isNeeded 5 = .ok (.aload_n 0, 1) := by decide +kernel
theorem d_T_isNeeded_6 : decode b_T_isNeeded 6 = .ok (.getfield 55, 3) := by decide +kernel
theorem d_T_isNeeded_9 : decode b_T_isNeeded 9 = .ok (.if_icmp .ge 23, 3) := by decide +kernel
theorem d_T_isNeeded_12 : decode b_T_isNeeded 12 = .ok (.aload_n 0, 1) := by decide +kernel
theorem d_T_isNeeded_13 : decode b_T_isNeeded 13 = .ok (.getfield 24, 3) := by decide +kernel
theorem d_T_isNeeded_16 : decode b_T_isNeeded 16 = .ok (.iload_n 1, 1) := by decide +kernel
theorem d_T_isNeeded_17 : decode b_T_isNeeded 17 = .ok (.laload, 1) := by decide +kernel
theorem d_T_isNeeded_18 : decode b_T_isNeeded 18 = .ok (.aload_n 0, 1) := by decide +kernel
theorem d_T_isNeeded_19 : decode b_T_isNeeded 19 = .ok (.getfield 77, 3) := by decide +kernel
theorem d_T_isNeeded_22 : decode b_T_isNeeded 22 = .ok (.land, 1) := by decide +kernel
theorem d_T_isNeeded_23 : decode b_T_isNeeded 23 = .ok (.lconst 0, 1) := by decide +kernel
theorem d_T_isNeeded_24 : decode b_T_isNeeded 24 = .ok (.lcmp, 1) := by decide +kernel
theorem d_T_isNeeded_25 : decode b_T_isNeeded 25 = .ok (.ifCond .eq 7, 3) := by decide +kernel
theorem d_T_isNeeded_28 : decode b_T_isNeeded 28 = .ok (.iconst 1, 1) := by decide +kernel
theorem d_T_isNeeded_29 : decode b_T_isNeeded 29 = .ok (.goto 4, 3) := by decide +kernel
theorem d_T_isNeeded_32 : decode b_T_isNeeded 32 = .ok (.iconst 0, 1) := by decide +kernel
theorem d_T_isNeeded_33 : decode b_T_isNeeded 33 = .ok (.ireturn, 1) := by decide +kernel
theorem d_T_isCover_0 : decode b_T_isCover 0 = .ok (.lconst 0, 1) := by decide +kernel
theorem d_T_isCover_1 : decode b_T_isCover 1 = .ok (.lstore_n 3, 1) := by decide +kernel
theorem d_T_isCover_2 : decode b_T_isCover 2 = .ok (.iconst 0, 1) := by decide +kernel
theorem d_T_isCover_3 : decode b_T_isCover 3 = .ok (.istore 5, 2) := by decide +kernel
theorem d_T_isCover_5 : decode b_T_isCover 5 = .ok (.iload 5, 2) := by decide +kernel
theorem d_T_isCover_7 : decode b_T_isCover 7 = .ok (.aload_n 0, 1) := by decide +kernel
theorem d_T_isCover_8 : decode b_T_isCover 8 = .ok (.getfield 55, 3) := by decide +kernel
theorem d_T_isCover_11 : decode b_T_isCover 11 = .ok (.if_icmp .ge 30, 3) := by decide +kernel
theorem d_T_isCover_14 : decode b_T_isCover 14 = .ok (.lload_n 1, 1) := by decide +kernel
theorem d_T_isCover_15 : decode b_T_isCover 15 = .ok (.iload 5, 2) := by decide +kernel
theorem d_T_isCover_17 : decode b_T_isCover 17 = .ok (.lshr, 1) := by decide +kernel
theorem d_T_isCover_18 : decode b_T_isCover 18 = .ok (.lconst 1, 1) := by decide +kernel
theorem d_T_isCover_19 : decode b_T_isCover 19 = .ok (.land, 1) := by decide +kernel
theorem d_T_isCover_20 : decode b_T_isCover 20 = .ok (.lconst 0, 1) := by decide +kernel
theorem d_T_isCover_21 : decode b_T_isCover 21 = .ok (.lcmp, 1) := by decide +kernel
theorem d_T_isCover_22 : decode b_T_isCover 22 = .ok (.ifCond .eq 13, 3) := by decide +kernel
theorem d_T_isCover_25 : decode b_T_isCover 25 = .ok (.lload_n 3, 1) := by decide +kernel
theorem d_T_isCover_26 : decode b_T_isCover 26 = .ok (.aload_n 0, 1) := by decide +kernel
theorem d_T_isCover_27 : decode b_T_isCover 27 = .ok (.getfield 24, 3) := by decide +kernel
theorem d_T_isCover_30 : decode b_T_isCover 30 = .ok (.iload 5, 2) := by decide +kernel
theorem d_T_isCover_32 : decode b_T_isCover 32 = .ok (.laload, 1) := by decide +kernel
theorem d_T_isCover_33 : decode b_T_isCover 33 = .ok (.lor, 1) := by decide +kernel
theorem d_T_isCover_34 : decode b_T_isCover 34 = .ok (.lstore_n 3, 1) := by decide +kernel
theorem d_T_isCover_35 : decode b_T_isCover 35 = .ok (.iinc 5 1, 3) := by decide +kernel
theorem d_T_isCover_38 : decode b_T_isCover 38 = .ok (.goto (-33), 3) := by decide +kernel
theorem d_T_isCover_41 : decode b_T_isCover 41 = .ok (.lload_n 3, 1) := by decide +kernel
theorem d_T_isCover_42 : decode b_T_isCover 42 = .ok (.aload_n 0, 1) := by decide +kernel
theorem d_T_isCover_43 : decode b_T_isCover 43 = .ok (.getfield 51, 3) := by decide +kernel
theorem d_T_isCover_46 : decode b_T_isCover 46 = .ok (.lcmp, 1) := by decide +kernel
theorem d_T_isCover_47 : decode b_T_isCover 47 = .ok (.ifCond .ne 7, 3) := by decide +kernel
theorem d_T_isCover_50 : decode b_T_isCover 50 = .ok (.iconst 1, 1) := by decide +kernel
theorem d_T_isCover_51 : decode b_T_isCover 51 = .ok (.goto 4, 3) := by decide +kernel
theorem d_T_isCover_54 : decode b_T_isCover 54 = .ok (.iconst 0, 1) := by decide +kernel
theorem d_T_isCover_55 : decode b_T_isCover 55 = .ok (.ireturn, 1) := by decide +kernel
theorem d_T_countThinned_0 : decode b_T_countThinned 0 = .ok (.lconst 0, 1) := by decide +kernel
theorem d_T_countThinned_1 : decode b_T_countThinned 1 = .ok (.lstore_n 2, 1) := by decide +kernel
theorem d_T_countThinned_2 : decode b_T_countThinned 2 = .ok (.iconst 0, 1) := by decide +kernel
theorem d_T_countThinned_3 : decode b_T_countThinned 3 = .ok (.istore 4, 2) := by decide +kernel
theorem d_T_countThinned_5 : decode b_T_countThinned 5 = .ok (.iload 4, 2) := by decide +kernel
theorem d_T_countThinned_7 : decode b_T_countThinned 7 = .ok (.aload_n 0, 1) := by decide +kernel
theorem d_T_countThinned_8 : decode b_T_countThinned 8 = .ok (.getfield 55, 3) := by decide +kernel
theorem d_T_countThinned_11 : decode b_T_countThinned 11 = .ok (.if_icmp .ge 27, 3) := by decide +kernel
theorem d_T_countThinned_14 : decode b_T_countThinned 14 = .ok (.aload_n 0, 1) := by decide +kernel
theorem d_T_countThinned_15 : decode b_T_countThinned 15 = .ok (.getfield 9, 3) := by decide +kernel
theorem d_T_countThinned_18 : decode b_T_countThinned 18 = .ok (.iload 4, 2) := by decide +kernel
theorem d_T_countThinned_20 : decode b_T_countThinned 20 = .ok (.iaload, 1) := by decide +kernel
theorem d_T_countThinned_21 : decode b_T_countThinned 21 = .ok (.iload_n 1, 1) := by decide +kernel
theorem d_T_countThinned_22 : decode b_T_countThinned 22 = .ok (.if_icmp .lt 10, 3) := by decide +kernel
theorem d_T_countThinned_25 : decode b_T_countThinned 25 = .ok (.lload_n 2, 1) := by decide +kernel
theorem d_T_countThinned_26 : decode b_T_countThinned 26 = .ok (.lconst 1, 1) := by decide +kernel
theorem d_T_countThinned_27 : decode b_T_countThinned 27 = .ok (.iload 4, 2) := by decide +kernel
theorem d_T_countThinned_29 : decode b_T_countThinned 29 = .ok (.lshl, 1) := by decide +kernel
theorem d_T_countThinned_30 : decode b_T_countThinned 30 = .ok (.lor, 1) := by decide +kernel
theorem d_T_countThinned_31 : decode b_T_countThinned 31 = .ok (.lstore_n 2, 1) := by decide +kernel
theorem d_T_countThinned_32 : decode b_T_countThinned 32 = .ok (.iinc 4 1, 3) := by decide +kernel
theorem d_T_countThinned_35 : decode b_T_countThinned 35 = .ok (.goto (-30), 3) := by decide +kernel
theorem d_T_countThinned_38 : decode b_T_countThinned 38 = .ok (.aload_n 0, 1) := by decide +kernel
theorem d_T_countThinned_39 : decode b_T_countThinned 39 = .ok (.lload_n 2, 1) := by decide +kernel
theorem d_T_countThinned_40 : decode b_T_countThinned 40 = .ok (.invokevirtual 80, 3) := by decide +kernel
theorem d_T_countThinned_43 : decode b_T_countThinned 43 = .ok (.ifCond .ne 5, 3) := by decide +kernel
theorem d_T_countThinned_46 : decode b_T_countThinned 46 = .ok (.iconst (-1), 1) := by decide +kernel
theorem d_T_countThinned_47 : decode b_T_countThinned 47 = .ok (.ireturn, 1) := by decide +kernel
theorem d_T_countThinned_48 : decode b_T_countThinned 48 = .ok (.aload_n 0, 1) := by decide +kernel
theorem d_T_countThinned_49 : decode b_T_countThinned 49 = .ok (.getfield 55, 3) := by decide +kernel
theorem d_T_countThinned_52 : decode b_T_countThinned 52 = .ok (.iconst 1, 1) := by decide +kernel
theorem d_T_countThinned_53 : decode b_T_countThinned 53 = .ok (.isub, 1) := by decide +kernel
theorem d_T_countThinned_54 : decode b_T_countThinned 54 = .ok (.istore 4, 2) := by decide +kernel
theorem d_T_countThinned_56 : decode b_T_countThinned 56 = .ok (.iload 4, 2) := by decide +kernel
theorem d_T_countThinned_58 : decode b_T_countThinned 58 = .ok (.ifCond .lt 40, 3) := by decide +kernel
theorem d_T_countThinned_61 : decode b_T_countThinned 61 = .ok (.lload_n 2, 1) := by decide +kernel
theorem d_T_countThinned_62 : decode b_T_countThinned 62 = .ok (.lconst 1, 1) := by decide +kernel
theorem d_T_countThinned_63 : decode b_T_countThinned 63 = .ok (.iload 4, 2) := by decide +kernel
theorem d_T_countThinned_65 : decode b_T_countThinned 65 = .ok (.lshl, 1) := by decide +kernel
theorem d_T_countThinned_66 : decode b_T_countThinned 66 = .ok (.ldc2_w 75, 3) := by decide +kernel
theorem d_T_countThinned_69 : decode b_T_countThinned 69 = .ok (.lxor, 1) := by decide +kernel
theorem d_T_countThinned_70 : decode b_T_countThinned 70 = .ok (.land, 1) := by decide +kernel
theorem d_T_countThinned_71 : decode b_T_countThinned 71 = .ok (.lstore 5, 2) := by decide +kernel
theorem d_T_countThinned_73 : decode b_T_countThinned 73 = .ok (.lload 5, 2) := by decide +kernel
theorem d_T_countThinned_75 : decode b_T_countThinned 75 = .ok (.lload_n 2, 1) := by decide +kernel
theorem d_T_countThinned_76 : decode b_T_countThinned 76 = .ok (.lcmp, 1) := by decide +kernel
theorem d_T_countThinned_77 : decode b_T_countThinned 77 = .ok (.ifCond .eq 15, 3) := by decide +kernel
theorem d_T_countThinned_80 : decode b_T_countThinned 80 = .ok (.aload_n 0, 1) := by decide +kernel
theorem d_T_countThinned_81 : decode b_T_countThinned 81 = .ok (.lload 5, 2) := by decide +kernel
theorem d_T_countThinned_83 : decode b_T_countThinned 83 = .ok (.invokevirtual 80, 3) := by decide +kernel
theorem d_T_countThinned_86 : decode b_T_countThinned 86 = .ok (.ifCond .eq 6, 3) := by decide +kernel
theorem d_T_countThinned_89 : decode b_T_countThinned 89 = .ok (.lload 5, 2) := by decide +kernel
theorem d_T_countThinned_91 : decode b_T_countThinned 91 = .ok (.lstore_n 2, 1) := by decide +kernel
theorem d_T_countThinned_92 : decode b_T_countThinned 92 = .ok (.iinc 4 (-1), 3) := by decide +kernel
theorem d_T_countThinned_95 : decode b_T_countThinned 95 = .ok (.goto (-39), 3) := by decide +kernel
theorem d_T_countThinned_98 : decode b_T_countThinned 98 = .ok (.lload_n 2, 1) := by decide +kernel
theorem d_T_countThinned_99 : decode b_T_countThinned 99 = .ok (.invokestatic 84, 3) := by decide +kernel
theorem d_T_countThinned_102 : decode b_T_countThinned 102 = .ok (.ireturn, 1) := by decide +kernel
theorem d_P_init_0 : decode b_P_init 0 = .ok (.aload_n 0, 1) := by decide +kernel
theorem d_P_init_1 : decode b_P_init 1 = .ok (.invokespecial 3, 3) := by decide +kernel
theorem d_P_init_4 : decode b_P_init 4 = .ok (.aload_n 0, 1) := by decide +kernel
theorem d_P_init_5 : decode b_P_init 5 = .ok (.bipush 81, 2) := by decide +kernel
theorem d_P_init_7 : decode b_P_init 7 = .ok (.newarray .int, 2) := by decide +kernel
theorem d_P_init_9 : decode b_P_init 9 = .ok (.putfield 9, 3) := by decide +kernel
theorem d_P_init_12 : decode b_P_init 12 = .ok (.aload_n 0, 1) := by decide +kernel
theorem d_P_init_13 : decode b_P_init 13 = .ok (.bipush 81, 2) := by decide +kernel
theorem d_P_init_15 : decode b_P_init 15 = .ok (.newarray .int, 2) := by decide +kernel
theorem d_P_init_17 : decode b_P_init 17 = .ok (.putfield 15, 3) := by decide +kernel
theorem d_P_init_20 : decode b_P_init 20 = .ok (.iconst 0, 1) := by decide +kernel
theorem d_P_init_21 : decode b_P_init 21 = .ok (.istore_n 1, 1) := by decide +kernel
theorem d_P_init_22 : decode b_P_init 22 = .ok (.iload_n 1, 1) := by decide +kernel
theorem d_P_init_23 : decode b_P_init 23 = .ok (.bipush 81, 2) := by decide +kernel
theorem d_P_init_25 : decode b_P_init 25 = .ok (.if_icmp .ge 14, 3) := by decide +kernel
theorem d_P_init_28 : decode b_P_init 28 = .ok (.aload_n 0, 1) := by decide +kernel
theorem d_P_init_29 : decode b_P_init 29 = .ok (.iload_n 1, 1) := by decide +kernel
theorem d_P_init_30 : decode b_P_init 30 = .ok (.invokevirtual 18, 3) := by decide +kernel
theorem d_P_init_33 : decode b_P_init 33 = .ok (.iinc 1 1, 3) := by decide +kernel
theorem d_P_init_36 : decode b_P_init 36 = .ok (.goto (-14), 3) := by decide +kernel
theorem d_P_init_39 : decode b_P_init 39 = .ok (.return_, 1) := by decide +kernel
theorem d_P_describe_0 : decode b_P_describe 0 = .ok (.ldc 22, 2) := by decide +kernel
theorem d_P_describe_2 : decode b_P_describe 2 = .ok (.istore_n 2, 1) := by decide +kernel
theorem d_P_describe_3 : decode b_P_describe 3 = .ok (.iconst 0, 1) := by decide +kernel
theorem d_P_describe_4 : decode b_P_describe 4 = .ok (.istore_n 3, 1) := by decide +kernel
theorem d_P_describe_5 : decode b_P_describe 5 = .ok (.iload_n 1, 1) := by decide +kernel
theorem d_P_describe_6 : decode b_P_describe 6 = .ok (.istore 4, 2) := by decide +kernel
theorem d_P_describe_8 : decode b_P_describe 8 = .ok (.iconst 0, 1) := by decide +kernel
theorem d_P_describe_9 : decode b_P_describe 9 = .ok (.istore 5, 2) := by decide +kernel
theorem d_P_describe_11 : decode b_P_describe 11 = .ok (.iload 5, 2) := by decide +kernel
theorem d_P_describe_13 : decode b_P_describe 13 = .ok (.iconst 4, 1) := by decide +kernel
theorem d_P_describe_14 : decode b_P_describe 14 = .ok (.if_icmp .ge 62, 3) := by decide +kernel
theorem d_P_describe_17 : decode b_P_describe 17 = .ok (.iload 4, 2) := by decide +kernel
theorem d_P_describe_19 : decode b_P_describe 19 = .ok (.iconst 3, 1) := by decide +kernel
theorem d_P_describe_20 : decode b_P_describe 20 = .ok (.irem, 1) := by decide +kernel
theorem d_P_describe_21 : decode b_P_describe 21 = .ok (.istore 6, 2) := by decide +kernel
theorem d_P_describe_23 : decode b_P_describe 23 = .ok (.iload 4, 2) := by decide +kernel
theorem d_P_describe_25 : decode b_P_describe 25 = .ok (.iconst 3, 1) := by decide +kernel
theorem d_P_describe_26 : decode b_P_describe 26 = .ok (.idiv, 1) := by decide +kernel
theorem d_P_describe_27 : decode b_P_describe 27 = .ok (.istore 4, 2) := by decide +kernel
theorem d_P_describe_29 : decode b_P_describe 29 = .ok (.iload 6, 2) := by decide +kernel
theorem d_P_describe_31 : decode b_P_describe 31 = .ok (.iconst 1, 1) := by decide +kernel
theorem d_P_describe_32 : decode b_P_describe 32 = .ok (.if_icmp .ne 18, 3) := by decide +kernel
theorem d_P_describe_35 : decode b_P_describe 35 = .ok (.iload_n 2, 1) := by decide +kernel
theorem d_P_describe_36 : decode b_P_describe 36 = .ok (.getstatic 23, 3) := by decide +kernel
theorem d_P_describe_39 : decode b_P_describe 39 = .ok (.iload 5, 2) := by decide +kernel
theorem d_P_describe_41 : decode b_P_describe 41 = .ok (.iaload, 1) := by decide +kernel
theorem d_P_describe_42 : decode b_P_describe 42 = .ok (.iand, 1) := by decide +kernel
theorem d_P_describe_43 : decode b_P_describe 43 = .ok (.istore_n 2, 1) := by decide +kernel
theorem d_P_describe_44 : decode b_P_describe 44 = .ok (.iinc 3 1, 3) := by decide +kernel
theorem d_P_describe_47 : decode b_P_describe 47 = .ok (.goto 23, 3) := by decide +kernel
theorem d_P_describe_50 : decode b_P_describe 50 = .ok (.iload 6, 2) := by decide +kernel
theorem d_P_describe_52 : decode b_P_describe 52 = .ok (.iconst 2, 1) := by decide +kernel
theorem d_P_describe_53 : decode b_P_describe 53 = .ok (.if_icmp .ne 17, 3) := by decide +kernel
theorem d_P_describe_56 : decode b_P_describe 56 = .ok (.iload_n 2, 1) := by decide +kernel
theorem d_P_describe_57 : decode b_P_describe 57 = .ok (.getstatic 23, 3) := by decide +kernel
theorem d_P_describe_60 : decode b_P_describe 60 = .ok (.iload 5, 2) := by decide +kernel
theorem d_P_describe_62 : decode b_P_describe 62 = .ok (.iaload, 1) := by decide +kernel
theorem d_P_describe_63 : decode b_P_describe 63 = .ok (.iconst (-1), 1) := by decide +kernel
theorem d_P_describe_64 : decode b_P_describe 64 = .ok (.ixor, 1) := by decide +kernel
theorem d_P_describe_65 : decode b_P_describe 65 = .ok (.iand, 1) := by decide +kernel
theorem d_P_describe_66 : decode b_P_describe 66 = .ok (.istore_n 2, 1) := by decide +kernel
theorem d_P_describe_67 : decode b_P_describe 67 = .ok (.iinc 3 1, 3) := by decide +kernel
theorem d_P_describe_70 : decode b_P_describe 70 = .ok (.iinc 5 1, 3) := by decide +kernel
theorem d_P_describe_73 : decode b_P_describe 73 = .ok (.goto (-62), 3) := by decide +kernel
theorem d_P_describe_76 : decode b_P_describe 76 = .ok (.aload_n 0, 1) := by decide +kernel
theorem d_P_describe_77 : decode b_P_describe 77 = .ok (.getfield 9, 3) := by decide +kernel
theorem d_P_describe_80 : decode b_P_describe 80 = .ok (.iload_n 1, 1) := by decide +kernel
theorem d_P_describe_81 : decode b_P_describe 81 = .ok (.iload_n 2, 1) := by decide +kernel
theorem d_P_describe_82 : decode b_P_describe 82 = .ok (.iastore, 1) := by decide +kernel
theorem d_P_describe_83 : decode b_P_describe 83 = .ok (.aload_n 0, 1) := by decide +kernel
theorem d_P_describe_84 : decode b_P_describe 84 = .ok (.getfield 15, 3) := by decide +kernel
theorem d_P_describe_87 : decode b_P_describe 87 = .ok (.iload_n 1, 1) := by decide +kernel
theorem d_P_describe_88 : decode b_P_describe 88 = .ok (.iload_n 3, 1) := by decide +kernel
theorem d_P_describe_89 : decode b_P_describe 89 = .ok (.iastore, 1) := by decide +kernel
theorem d_P_describe_90 : decode b_P_describe 90 = .ok (.return_, 1) := by decide +kernel
theorem d_P_howMany_0 : decode b_P_howMany 0 = .ok (.iload_n 0, 1) := by decide +kernel
theorem d_P_howMany_1 : decode b_P_howMany 1 = .ok (.ifCond .lt 16, 3) := by decide +kernel
theorem d_P_howMany_4 : decode b_P_howMany 4 = .ok (.iload_n 0, 1) := by decide +kernel
theorem d_P_howMany_5 : decode b_P_howMany 5 = .ok (.iconst 4, 1) := by decide +kernel
theorem d_P_howMany_6 : decode b_P_howMany 6 = .ok (.if_icmp .gt 11, 3) := by decide +kernel
theorem d_P_howMany_9 : decode b_P_howMany 9 = .ok (.getstatic 26, 3) := by decide +kernel
theorem d_P_howMany_12 : decode b_P_howMany 12 = .ok (.iload_n 0, 1) := by decide +kernel
theorem d_P_howMany_13 : decode b_P_howMany 13 = .ok (.iaload, 1) := by decide +kernel
theorem d_P_howMany_14 : decode b_P_howMany 14 = .ok (.goto 4, 3) := by decide +kernel
theorem d_P_howMany_17 : decode b_P_howMany 17 = .ok (.iconst 0, 1) := by decide +kernel
theorem d_P_howMany_18 : decode b_P_howMany 18 = .ok (.ireturn, 1) := by decide +kernel
theorem d_P_withoutPart_0 : decode b_P_withoutPart 0 = .ok (.iload_n 0, 1) := by decide +kernel
theorem d_P_withoutPart_1 : decode b_P_withoutPart 1 = .ok (.ifCond .lt 18, 3) := by decide +kernel
theorem d_P_withoutPart_4 : decode b_P_withoutPart 4 = .ok (.iload_n 0, 1) := by decide +kernel
theorem d_P_withoutPart_5 : decode b_P_withoutPart 5 = .ok (.bipush 81, 2) := by decide +kernel
theorem d_P_withoutPart_7 : decode b_P_withoutPart 7 = .ok (.if_icmp .ge 12, 3) := by decide +kernel
theorem d_P_withoutPart_10 : decode b_P_withoutPart 10 = .ok (.iload_n 1, 1) := by decide +kernel
theorem d_P_withoutPart_11 : decode b_P_withoutPart 11 = .ok (.ifCond .lt 8, 3) := by decide +kernel
theorem d_P_withoutPart_14 : decode b_P_withoutPart 14 = .ok (.iload_n 1, 1) := by decide +kernel
theorem d_P_withoutPart_15 : decode b_P_withoutPart 15 = .ok (.iconst 4, 1) := by decide +kernel
theorem d_P_withoutPart_16 : decode b_P_withoutPart 16 = .ok (.if_icmp .lt 5, 3) := by decide +kernel
theorem d_P_withoutPart_19 : decode b_P_withoutPart 19 = .ok (.iload_n 0, 1) := by decide +kernel
theorem d_P_withoutPart_20 : decode b_P_withoutPart 20 = .ok (.ireturn, 1) := by decide +kernel
theorem d_P_withoutPart_21 : decode b_P_withoutPart 21 = .ok (.getstatic 26, 3) := by decide +kernel
theorem d_P_withoutPart_24 : decode b_P_withoutPart 24 = .ok (.iload_n 1, 1) := by decide +kernel
theorem d_P_withoutPart_25 : decode b_P_withoutPart 25 = .ok (.iaload, 1) := by decide +kernel
theorem d_P_withoutPart_26 : decode b_P_withoutPart 26 = .ok (.istore_n 2, 1) := by decide +kernel
theorem d_P_withoutPart_27 : decode b_P_withoutPart 27 = .ok (.iload_n 2, 1) := by decide +kernel
theorem d_P_withoutPart_28 : decode b_P_withoutPart 28 = .ok (.ifCond .ne 7, 3) := by decide +kernel
theorem d_P_withoutPart_31 : decode b_P_withoutPart 31 = .ok (.iconst 0, 1) := by decide +kernel
theorem d_P_withoutPart_32 : decode b_P_withoutPart 32 = .ok (.goto 8, 3) := by decide +kernel
theorem d_P_withoutPart_35 : decode b_P_withoutPart 35 = .ok (.iload_n 0, 1) := by decide +kernel
theorem d_P_withoutPart_36 : decode b_P_withoutPart 36 = .ok (.iload_n 2, 1) := by decide +kernel
theorem d_P_withoutPart_37 : decode b_P_withoutPart 37 = .ok (.idiv, 1) := by decide +kernel
theorem d_P_withoutPart_38 : decode b_P_withoutPart 38 = .ok (.iconst 3, 1) := by decide +kernel
theorem d_P_withoutPart_39 : decode b_P_withoutPart 39 = .ok (.irem, 1) := by decide +kernel
theorem d_P_withoutPart_40 : decode b_P_withoutPart 40 = .ok (.istore_n 3, 1) := by decide +kernel
theorem d_P_withoutPart_41 : decode b_P_withoutPart 41 = .ok (.iload_n 0, 1) := by decide +kernel
theorem d_P_withoutPart_42 : decode b_P_withoutPart 42 = .ok (.iload_n 3, 1) := by decide +kernel
theorem d_P_withoutPart_43 : decode b_P_withoutPart 43 = .ok (.iload_n 2, 1) := by decide +kernel
theorem d_P_withoutPart_44 : decode b_P_withoutPart 44 = .ok (.imul, 1) := by decide +kernel
theorem d_P_withoutPart_45 : decode b_P_withoutPart 45 = .ok (.isub, 1) := by decide +kernel
theorem d_P_withoutPart_46 : decode b_P_withoutPart 46 = .ok (.ireturn, 1) := by decide +kernel
