theorem d_S_init_0 : decode b_S_init 0 = .ok (.aload_n 0, 1) := by decide +kernel
theorem d_S_init_1 : decode b_S_init 1 = .ok (.invokespecial 3, 3) := by decide +kernel
theorem d_S_init_4 : decode b_S_init 4 = .ok (.aload_n 0, 1) := by decide +kernel
theorem d_S_init_5 : decode b_S_init 5 = .ok (.bipush 81, 2) := by decide +kernel
theorem d_S_init_7 : decode b_S_init 7 = .ok (.newarray .int, 2) := by decide +kernel
theorem d_S_init_9 : decode b_S_init 9 = .ok (.putfield 9, 3) := by decide +kernel
theorem d_S_init_12 : decode b_S_init 12 = .ok (.aload_n 0, 1) := by decide +kernel
theorem d_S_init_13 : decode b_S_init 13 = .ok (.new 15, 3) := by decide +kernel
theorem d_S_init_16 : decode b_S_init 16 = .ok (.dup, 1) := by decide +kernel
theorem d_S_init_17 : decode b_S_init 17 = .ok (.invokespecial 17, 3) := by decide +kernel
theorem d_S_init_20 : decode b_S_init 20 = .ok (.putfield 18, 3) := by decide +kernel
theorem d_S_init_23 : decode b_S_init 23 = .ok (.aload_n 0, 1) := by decide +kernel
theorem d_S_init_24 : decode b_S_init 24 = .ok (.bipush 81, 2) := by decide +kernel
theorem d_S_init_26 : decode b_S_init 26 = .ok (.newarray .int, 2) := by decide +kernel
theorem d_S_init_28 : decode b_S_init 28 = .ok (.putfield 22, 3) := by decide +kernel
theorem d_S_init_31 : decode b_S_init 31 = .ok (.aload_n 0, 1) := by decide +kernel
theorem d_S_init_32 : decode b_S_init 32 = .ok (.bipush 32, 2) := by decide +kernel
theorem d_S_init_34 : decode b_S_init 34 = .ok (.newarray .long, 2) := by decide +kernel
theorem d_S_init_36 : decode b_S_init 36 = .ok (.putfield 25, 3) := by decide +kernel
theorem d_S_init_39 : decode b_S_init 39 = .ok (.return_, 1) := by decide +kernel
theorem d_S_findLeast_0 : decode b_S_findLeast 0 = .ok (.iconst 0, 1) := by decide +kernel
theorem d_S_findLeast_1 : decode b_S_findLeast 1 = .ok (.istore_n 1, 1) := by decide +kernel
theorem d_S_findLeast_2 : decode b_S_findLeast 2 = .ok (.iload_n 1, 1) := by decide +kernel
theorem d_S_findLeast_3 : decode b_S_findLeast 3 = .ok (.aload_n 0, 1) := by decide +kernel
theorem d_S_findLeast_4 : decode b_S_findLeast 4 = .ok (.getfield 18, 3) := by decide +kernel
theorem d_S_findLeast_7 : decode b_S_findLeast 7 = .ok (.getfield 29, 3) := by decide +kernel
theorem d_S_findLeast_10 : decode b_S_findLeast 10 = .ok (.if_icmp .ge 28, 3) := by decide +kernel
theorem d_S_findLeast_13 : decode b_S_findLeast 13 = .ok (.aload_n 0, 1) := by decide +kernel
theorem d_S_findLeast_14 : decode b_S_findLeast 14 = .ok (.getfield 22, 3) := by decide +kernel
theorem d_S_findLeast_17 : decode b_S_findLeast 17 = .ok (.iload_n 1, 1) := by decide +kernel
theorem d_S_findLeast_18 : decode b_S_findLeast 18 = .ok (.sipush 1000, 3) := by decide +kernel
theorem d_S_findLeast_21 : decode b_S_findLeast 21 = .ok (.aload_n 0, 1) := by decide +kernel
theorem d_S_findLeast_22 : decode b_S_findLeast 22 = .ok (.getfield 18, 3) := by decide +kernel
theorem d_S_findLeast_25 : decode b_S_findLeast 25 = .ok (.getfield 33, 3) := by decide +kernel
theorem d_S_findLeast_28 : decode b_S_findLeast 28 = .ok (.iload_n 1, 1) := by decide +kernel
theorem d_S_findLeast_29 : decode b_S_findLeast 29 = .ok (.iaload, 1) := by decide +kernel
theorem d_S_findLeast_30 : decode b_S_findLeast 30 = .ok (.iadd, 1) := by decide +kernel
theorem d_S_findLeast_31 : decode b_S_findLeast 31 = .ok (.iastore, 1) := by decide +kernel
theorem d_S_findLeast_32 : decode b_S_findLeast 32 = .ok (.iinc 1 1, 3) := by decide +kernel
theorem d_S_findLeast_35 : decode b_S_findLeast 35 = .ok (.goto (-33), 3) := by decide +kernel
theorem d_S_findLeast_38 : decode b_S_findLeast 38 = .ok (.iconst 0, 1) := by decide +kernel
theorem d_S_findLeast_39 : decode b_S_findLeast 39 = .ok (.istore_n 1, 1) := by decide +kernel
theorem d_S_findLeast_40 : decode b_S_findLeast 40 = .ok (.iload_n 1, 1) := by decide +kernel
theorem d_S_findLeast_41 : decode b_S_findLeast 41 = .ok (.bipush 32, 2) := by decide +kernel
theorem d_S_findLeast_43 : decode b_S_findLeast 43 = .ok (.if_icmp .ge 20, 3) := by decide +kernel
theorem d_S_findLeast_46 : decode b_S_findLeast 46 = .ok (.aload_n 0, 1) := by decide +kernel
theorem d_S_findLeast_47 : decode b_S_findLeast 47 = .ok (.getfield 25, 3) := by decide +kernel
theorem d_S_findLeast_50 : decode b_S_findLeast 50 = .ok (.iload_n 1, 1) := by decide +kernel
theorem d_S_findLeast_51 : decode b_S_findLeast 51 = .ok (.aload_n 0, 1) := by decide +kernel
theorem d_S_findLeast_52 : decode b_S_findLeast 52 = .ok (.iload_n 1, 1) := by decide +kernel
theorem d_S_findLeast_53 : decode b_S_findLeast 53 = .ok (.invokevirtual 36, 3) := by decide +kernel
theorem d_S_findLeast_56 : decode b_S_findLeast 56 = .ok (.lastore, 1) := by decide +kernel
theorem d_S_findLeast_57 : decode b_S_findLeast 57 = .ok (.iinc 1 1, 3) := by decide +kernel
theorem d_S_findLeast_60 : decode b_S_findLeast 60 = .ok (.goto (-20), 3) := by decide +kernel
theorem d_S_findLeast_63 : decode b_S_findLeast 63 = .ok (.aload_n 0, 1) := by decide +kernel
theorem d_S_findLeast_64 : decode b_S_findLeast 64 = .ok (.ldc 40, 2) := by decide +kernel
theorem d_S_findLeast_66 : decode b_S_findLeast 66 = .ok (.putfield 41, 3) := by decide +kernel
theorem d_S_findLeast_69 : decode b_S_findLeast 69 = .ok (.aload_n 0, 1) := by decide +kernel
theorem d_S_findLeast_70 : decode b_S_findLeast 70 = .ok (.lconst 0, 1) := by decide +kernel
theorem d_S_findLeast_71 : decode b_S_findLeast 71 = .ok (.putfield 44, 3) := by decide +kernel
theorem d_S_findLeast_74 : decode b_S_findLeast 74 = .ok (.aload_n 0, 1) := by decide +kernel
theorem d_S_findLeast_75 : decode b_S_findLeast 75 = .ok (.iconst 0, 1) := by decide +kernel
theorem d_S_findLeast_76 : decode b_S_findLeast 76 = .ok (.aload_n 0, 1) := by decide +kernel
theorem d_S_findLeast_77 : decode b_S_findLeast 77 = .ok (.getfield 18, 3) := by decide +kernel
theorem d_S_findLeast_80 : decode b_S_findLeast 80 = .ok (.getfield 48, 3) := by decide +kernel
theorem d_S_findLeast_83 : decode b_S_findLeast 83 = .ok (.lconst 1, 1) := by decide +kernel
theorem d_S_findLeast_84 : decode b_S_findLeast 84 = .ok (.aload_n 0, 1) := by decide +kernel
theorem d_S_findLeast_85 : decode b_S_findLeast 85 = .ok (.getfield 18, 3) := by decide +kernel
theorem d_S_findLeast_88 : decode b_S_findLeast 88 = .ok (.getfield 29, 3) := by decide +kernel
theorem d_S_findLeast_91 : decode b_S_findLeast 91 = .ok (.lshl, 1) := by decide +kernel
theorem d_S_findLeast_92 : decode b_S_findLeast 92 = .ok (.lconst 1, 1) := by decide +kernel
theorem d_S_findLeast_93 : decode b_S_findLeast 93 = .ok (.lsub, 1) := by decide +kernel
theorem d_S_findLeast_94 : decode b_S_findLeast 94 = .ok (.iconst 0, 1) := by decide +kernel
theorem d_S_findLeast_95 : decode b_S_findLeast 95 = .ok (.lconst 0, 1) := by decide +kernel
theorem d_S_findLeast_96 : decode b_S_findLeast 96 = .ok (.invokevirtual 51, 3) := by decide +kernel
theorem d_S_findLeast_99 : decode b_S_findLeast 99 = .ok (.aload_n 0, 1) := by decide +kernel
theorem d_S_findLeast_100 : decode b_S_findLeast 100 = .ok (.invokevirtual 55, 3) := by decide +kernel
theorem d_S_findLeast_103 : decode b_S_findLeast 103 = .ok (.return_, 1) := by decide +kernel
theorem d_S_makesOne_0 : decode b_S_makesOne 0 = .ok (.iconst 0, 1) := by decide +kernel
theorem d_S_makesOne_1 : decode b_S_makesOne 1 = .ok (.istore_n 3, 1) := by decide +kernel
theorem d_S_makesOne_2 : decode b_S_makesOne 2 = .ok (.iload_n 3, 1) := by decide +kernel
theorem d_S_makesOne_3 : decode b_S_makesOne 3 = .ok (.aload_n 0, 1) := by decide +kernel
theorem d_S_makesOne_4 : decode b_S_makesOne 4 = .ok (.getfield 18, 3) := by decide +kernel
theorem d_S_makesOne_7 : decode b_S_makesOne 7 = .ok (.getfield 29, 3) := by decide +kernel
theorem d_S_makesOne_10 : decode b_S_makesOne 10 = .ok (.if_icmp .ge 80, 3) := by decide +kernel
theorem d_S_makesOne_13 : decode b_S_makesOne 13 = .ok (.aload_n 0, 1) := by decide +kernel
theorem d_S_makesOne_14 : decode b_S_makesOne 14 = .ok (.getfield 44, 3) := by decide +kernel
theorem d_S_makesOne_17 : decode b_S_makesOne 17 = .ok (.iload_n 3, 1) := by decide +kernel
theorem d_S_makesOne_18 : decode b_S_makesOne 18 = .ok (.lshr, 1) := by decide +kernel
theorem d_S_makesOne_19 : decode b_S_makesOne 19 = .ok (.lconst 1, 1) := by decide +kernel
theorem d_S_makesOne_20 : decode b_S_makesOne 20 = .ok (.land, 1) := by decide +kernel
theorem d_S_makesOne_21 : decode b_S_makesOne 21 = .ok (.lconst 0, 1) := by decide +kernel
theorem d_S_makesOne_22 : decode b_S_makesOne 22 = .ok (.lcmp, 1) := by decide +kernel
theorem d_S_makesOne_23 : decode b_S_makesOne 23 = .ok (.ifCond .eq 7, 3) := by decide +kernel
theorem d_S_makesOne_26 : decode b_S_makesOne 26 = .ok (.iconst 1, 1) := by decide +kernel
theorem d_S_makesOne_27 : decode b_S_makesOne 27 = .ok (.goto 4, 3) := by decide +kernel
theorem d_S_makesOne_30 : decode b_S_makesOne 30 = .ok (.iconst 0, 1) := by decide +kernel
theorem d_S_makesOne_31 : decode b_S_makesOne 31 = .ok (.istore 4, 2) := by decide +kernel
theorem d_S_makesOne_33 : decode b_S_makesOne 33 = .ok (.aload_n 0, 1) := by decide +kernel
theorem d_S_makesOne_34 : decode b_S_makesOne 34 = .ok (.getfield 18, 3) := by decide +kernel
theorem d_S_makesOne_37 : decode b_S_makesOne 37 = .ok (.getfield 58, 3) := by decide +kernel
theorem d_S_makesOne_40 : decode b_S_makesOne 40 = .ok (.iload_n 3, 1) := by decide +kernel
theorem d_S_makesOne_41 : decode b_S_makesOne 41 = .ok (.iaload, 1) := by decide +kernel
theorem d_S_makesOne_42 : decode b_S_makesOne 42 = .ok (.iload_n 1, 1) := by decide +kernel
theorem d_S_makesOne_43 : decode b_S_makesOne 43 = .ok (.ishr, 1) := by decide +kernel
theorem d_S_makesOne_44 : decode b_S_makesOne 44 = .ok (.iconst 1, 1) := by decide +kernel
theorem d_S_makesOne_45 : decode b_S_makesOne 45 = .ok (.iand, 1) := by decide +kernel
theorem d_S_makesOne_46 : decode b_S_makesOne 46 = .ok (.ifCond .eq 7, 3) := by decide +kernel
theorem d_S_makesOne_49 : decode b_S_makesOne 49 = .ok (.iconst 1, 1) := by decide +kernel
theorem d_S_makesOne_50 : decode b_S_makesOne 50 = .ok (.goto 4, 3) := by decide +kernel
theorem d_S_makesOne_53 : decode b_S_makesOne 53 = .ok (.iconst 0, 1) := by decide +kernel
theorem d_S_makesOne_54 : decode b_S_makesOne 54 = .ok (.istore 5, 2) := by decide +kernel
theorem d_S_makesOne_56 : decode b_S_makesOne 56 = .ok (.iload 4, 2) := by decide +kernel
theorem d_S_makesOne_58 : decode b_S_makesOne 58 = .ok (.ifCond .eq 26, 3) := by decide +kernel
theorem d_S_makesOne_61 : decode b_S_makesOne 61 = .ok (.iload 5, 2) := by decide +kernel
theorem d_S_makesOne_63 : decode b_S_makesOne 63 = .ok (.ifCond .eq 21, 3) := by decide +kernel
theorem d_S_makesOne_66 : decode b_S_makesOne 66 = .ok (.aload_n 0, 1) := by decide +kernel
theorem d_S_makesOne_67 : decode b_S_makesOne 67 = .ok (.getfield 18, 3) := by decide +kernel
theorem d_S_makesOne_70 : decode b_S_makesOne 70 = .ok (.getfield 61, 3) := by decide +kernel
theorem d_S_makesOne_73 : decode b_S_makesOne 73 = .ok (.iload_n 3, 1) := by decide +kernel
theorem d_S_makesOne_74 : decode b_S_makesOne 74 = .ok (.iaload, 1) := by decide +kernel
theorem d_S_makesOne_75 : decode b_S_makesOne 75 = .ok (.iload_n 2, 1) := by decide +kernel
theorem d_S_makesOne_76 : decode b_S_makesOne 76 = .ok (.ishr, 1) := by decide +kernel
theorem d_S_makesOne_77 : decode b_S_makesOne 77 = .ok (.iconst 1, 1) := by decide +kernel
theorem d_S_makesOne_78 : decode b_S_makesOne 78 = .ok (.iand, 1) := by decide +kernel
theorem d_S_makesOne_79 : decode b_S_makesOne 79 = .ok (.ifCond .eq 5, 3) := by decide +kernel
theorem d_S_makesOne_82 : decode b_S_makesOne 82 = .ok (.iconst 1, 1) := by decide +kernel
theorem d_S_makesOne_83 : decode b_S_makesOne 83 = .ok (.ireturn, 1) := by decide +kernel
theorem d_S_makesOne_84 : decode b_S_makesOne 84 = .ok (.iinc 3 1, 3) := by decide +kernel
theorem d_S_makesOne_87 : decode b_S_makesOne 87 = .ok (.goto (-85), 3) := by decide +kernel
theorem d_S_makesOne_90 : decode b_S_makesOne 90 = .ok (.iconst 0, 1) := by decide +kernel
theorem d_S_makesOne_91 : decode b_S_makesOne 91 = .ok (.ireturn, 1) := by decide +kernel
theorem d_S_serversOf_0 : decode b_S_serversOf 0 = .ok (.lconst 0, 1) := by decide +kernel
theorem d_S_serversOf_1 : decode b_S_serversOf 1 = .ok (.lstore_n 2, 1) := by decide +kernel
theorem d_S_serversOf_2 : decode b_S_serversOf 2 = .ok (.iconst 0, 1) := by decide +kernel
theorem d_S_serversOf_3 : decode b_S_serversOf 3 = .ok (.istore 4, 2) := by decide +kernel
theorem d_S_serversOf_5 : decode b_S_serversOf 5 = .ok (.iload 4, 2) := by decide +kernel
theorem d_S_serversOf_7 : decode b_S_serversOf 7 = .ok (.aload_n 0, 1) := by decide +kernel
theorem d_S_serversOf_8 : decode b_S_serversOf 8 = .ok (.getfield 18, 3) := by decide +kernel
theorem d_S_serversOf_11 : decode b_S_serversOf 11 = .ok (.getfield 29, 3) := by decide +kernel
theorem d_S_serversOf_14 : decode b_S_serversOf 14 = .ok (.if_icmp .ge 29, 3) := by decide +kernel
theorem d_S_serversOf_17 : decode b_S_serversOf 17 = .ok (.lload_n 2, 1) := by decide +kernel
theorem d_S_serversOf_18 : decode b_S_serversOf 18 = .ok (.aload_n 0, 1) := by decide +kernel
theorem d_S_serversOf_19 : decode b_S_serversOf 19 = .ok (.getfield 18, 3) := by decide +kernel
theorem d_S_serversOf_22 : decode b_S_serversOf 22 = .ok (.getfield 64, 3) := by decide +kernel
theorem d_S_serversOf_25 : decode b_S_serversOf 25 = .ok (.iload 4, 2) := by decide +kernel
theorem d_S_serversOf_27 : decode b_S_serversOf 27 = .ok (.laload, 1) := by decide +kernel
theorem d_S_serversOf_28 : decode b_S_serversOf 28 = .ok (.iload_n 1, 1) := by decide +kernel
theorem d_S_serversOf_29 : decode b_S_serversOf 29 = .ok (.lshr, 1) := by decide +kernel
theorem d_S_serversOf_30 : decode b_S_serversOf 30 = .ok (.lconst 1, 1) := by decide +kernel
theorem d_S_serversOf_31 : decode b_S_serversOf 31 = .ok (.land, 1) := by decide +kernel
theorem d_S_serversOf_32 : decode b_S_serversOf 32 = .ok (.iload 4, 2) := by decide +kernel
theorem d_S_serversOf_34 : decode b_S_serversOf 34 = .ok (.lshl, 1) := by decide +kernel
theorem d_S_serversOf_35 : decode b_S_serversOf 35 = .ok (.lor, 1) := by decide +kernel
theorem d_S_serversOf_36 : decode b_S_serversOf 36 = .ok (.lstore_n 2, 1) := by decide +kernel
theorem d_S_serversOf_37 : decode b_S_serversOf 37 = .ok (.iinc 4 1, 3) := by decide +kernel
theorem d_S_serversOf_40 : decode b_S_serversOf 40 = .ok (.goto (-35), 3) := by decide +kernel
theorem d_S_serversOf_43 : decode b_S_serversOf 43 = .ok (.lload_n 2, 1) := by decide +kernel
theorem d_S_serversOf_44 : decode b_S_serversOf 44 = .ok (.lreturn, 1) := by decide +kernel
theorem d_S_listBest_0 : decode b_S_listBest 0 = .ok (.aload_n 0, 1) := by decide +kernel
theorem d_S_listBest_1 : decode b_S_listBest 1 = .ok (.iconst 0, 1) := by decide +kernel
theorem d_S_listBest_2 : decode b_S_listBest 2 = .ok (.putfield 67, 3) := by decide +kernel
theorem d_S_listBest_5 : decode b_S_listBest 5 = .ok (.aload_n 0, 1) := by decide +kernel
theorem d_S_listBest_6 : decode b_S_listBest 6 = .ok (.iconst 0, 1) := by decide +kernel
theorem d_S_listBest_7 : decode b_S_listBest 7 = .ok (.putfield 70, 3) := by decide +kernel
theorem d_S_listBest_10 : decode b_S_listBest 10 = .ok (.iconst 0, 1) := by decide +kernel
theorem d_S_listBest_11 : decode b_S_listBest 11 = .ok (.istore_n 1, 1) := by decide +kernel
theorem d_S_listBest_12 : decode b_S_listBest 12 = .ok (.iload_n 1, 1) := by decide +kernel
theorem d_S_listBest_13 : decode b_S_listBest 13 = .ok (.aload_n 0, 1) := by decide +kernel
theorem d_S_listBest_14 : decode b_S_listBest 14 = .ok (.getfield 18, 3) := by decide +kernel
theorem d_S_listBest_17 : decode b_S_listBest 17 = .ok (.getfield 29, 3) := by decide +kernel
theorem d_S_listBest_20 : decode b_S_listBest 20 = .ok (.if_icmp .ge 69, 3) := by decide +kernel
theorem d_S_listBest_23 : decode b_S_listBest 23 = .ok (.aload_n 0, 1) := by decide +kernel
theorem d_S_listBest_24 : decode b_S_listBest 24 = .ok (.getfield 44, 3) := by decide +kernel
theorem d_S_listBest_27 : decode b_S_listBest 27 = .ok (.iload_n 1, 1) := by decide +kernel
theorem d_S_listBest_28 : decode b_S_listBest 28 = .ok (.lshr, 1) := by decide +kernel
theorem d_S_listBest_29 : decode b_S_listBest 29 = .ok (.lconst 1, 1) := by decide +kernel
theorem d_S_listBest_30 : decode b_S_listBest 30 = .ok (.land, 1) := by decide +kernel
theorem d_S_listBest_31 : decode b_S_listBest 31 = .ok (.lconst 0, 1) := by decide +kernel
theorem d_S_listBest_32 : decode b_S_listBest 32 = .ok (.lcmp, 1) := by decide +kernel
theorem d_S_listBest_33 : decode b_S_listBest 33 = .ok (.ifCond .eq 50, 3) := by decide +kernel
theorem d_S_listBest_36 : decode b_S_listBest 36 = .ok (.aload_n 0, 1) := by decide +kernel
theorem d_S_listBest_37 : decode b_S_listBest 37 = .ok (.getfield 67, 3) := by decide +kernel
theorem d_S_listBest_40 : decode b_S_listBest 40 = .ok (.bipush 81, 2) := by decide +kernel
theorem d_S_listBest_42 : decode b_S_listBest 42 = .ok (.if_icmp .ge 41, 3) := by decide +kernel
theorem d_S_listBest_45 : decode b_S_listBest 45 = .ok (.aload_n 0, 1) := by decide +kernel
theorem d_S_listBest_46 : decode b_S_listBest 46 = .ok (.getfield 9, 3) := by decide +kernel
theorem d_S_listBest_49 : decode b_S_listBest 49 = .ok (.aload_n 0, 1) := by decide +kernel
theorem d_S_listBest_50 : decode b_S_listBest 50 = .ok (.getfield 67, 3) := by decide +kernel
theorem d_S_listBest_53 : decode b_S_listBest 53 = .ok (.iload_n 1, 1) := by decide +kernel
theorem d_S_listBest_54 : decode b_S_listBest 54 = .ok (.iastore, 1) := by decide +kernel
theorem d_S_listBest_55 : decode b_S_listBest 55 = .ok (.aload_n 0, 1) := by decide +kernel
theorem d_S_listBest_56 : decode b_S_listBest 56 = .ok (.dup, 1) := by decide +kernel
theorem d_S_listBest_57 : decode b_S_listBest 57 = .ok (.getfield 67, 3) := by decide +kernel
theorem d_S_listBest_60 : decode b_S_listBest 60 = .ok (.iconst 1, 1) := by decide +kernel
theorem d_S_listBest_61 : decode b_S_listBest 61 = .ok (.iadd, 1) := by decide +kernel
theorem d_S_listBest_62 : decode b_S_listBest 62 = .ok (.putfield 67, 3) := by decide +kernel
theorem d_S_listBest_65 : decode b_S_listBest 65 = .ok (.aload_n 0, 1) := by decide +kernel
theorem d_S_listBest_66 : decode b_S_listBest 66 = .ok (.dup, 1) := by decide +kernel
theorem d_S_listBest_67 : decode b_S_listBest 67 = .ok (.getfield 70, 3) := by decide +kernel
theorem d_S_listBest_70 : decode b_S_listBest 70 = .ok (.aload_n 0, 1) := by decide +kernel
theorem d_S_listBest_71 : decode b_S_listBest 71 = .ok (.getfield 18, 3) := by decide +kernel
theorem d_S_listBest_74 : decode b_S_listBest 74 = .ok (.getfield 33, 3) := by decide +kernel
theorem d_S_listBest_77 : decode b_S_listBest 77 = .ok (.iload_n 1, 1) := by decide +kernel
theorem d_S_listBest_78 : decode b_S_listBest 78 = .ok (.iaload, 1) := by decide +kernel
theorem d_S_listBest_79 : decode b_S_listBest 79 = .ok (.iadd, 1) := by decide +kernel
theorem d_S_listBest_80 : decode b_S_listBest 80 = .ok (.putfield 70, 3) := by decide +kernel
theorem d_S_listBest_83 : decode b_S_listBest 83 = .ok (.iinc 1 1, 3) := by decide +kernel
theorem d_S_listBest_86 : decode b_S_listBest 86 = .ok (.goto (-74), 3) := by decide +kernel
theorem d_S_listBest_89 : decode b_S_listBest 89 = .ok (.return_, 1) := by decide +kernel
theorem d_S_extend_0 : decode b_S_extend 0 = .ok (.lload_n 2, 1) := by decide +kernel
theorem d_S_extend_1 : decode b_S_extend 1 = .ok (.lconst 0, 1) := by decide +kernel
theorem d_S_extend_2 : decode b_S_extend 2 = .ok (.lcmp, 1) := by decide +kernel
theorem d_S_extend_3 : decode b_S_extend 3 = .ok (.ifCond .ne 12, 3) := by decide +kernel
theorem d_S_extend_6 : decode b_S_extend 6 = .ok (.aload_n 0, 1) := by decide +kernel
theorem d_S_extend_7 : decode b_S_extend 7 = .ok (.iload 6, 2) := by decide +kernel
theorem d_S_extend_9 : decode b_S_extend 9 = .ok (.lload 7, 2) := by decide +kernel
theorem d_S_extend_11 : decode b_S_extend 11 = .ok (.invokevirtual 73, 3) := by decide +kernel
theorem d_S_extend_14 : decode b_S_extend 14 = .ok (.return_, 1) := by decide +kernel
theorem d_S_extend_15 : decode b_S_extend 15 = .ok (.iload_n 1, 1) := by decide +kernel
theorem d_S_extend_16 : decode b_S_extend 16 = .ok (.bipush 32, 2) := by decide +kernel
theorem d_S_extend_18 : decode b_S_extend 18 = .ok (.if_icmp .lt 4, 3) := by decide +kernel
theorem d_S_extend_21 : decode b_S_extend 21 = .ok (.return_, 1) := by decide +kernel
theorem d_S_extend_22 : decode b_S_extend 22 = .ok (.aload_n 0, 1) := by decide +kernel
theorem d_S_extend_23 : decode b_S_extend 23 = .ok (.lload_n 2, 1) := by decide +kernel
theorem d_S_extend_24 : decode b_S_extend 24 = .ok (.lload 4, 2) := by decide +kernel
theorem d_S_extend_26 : decode b_S_extend 26 = .ok (.invokevirtual 77, 3) := by decide +kernel
theorem d_S_extend_29 : decode b_S_extend 29 = .ok (.lstore 9, 2) := by decide +kernel
theorem d_S_extend_31 : decode b_S_extend 31 = .ok (.aload_n 0, 1) := by decide +kernel
theorem d_S_extend_32 : decode b_S_extend 32 = .ok (.iload 6, 2) := by decide +kernel
theorem d_S_extend_34 : decode b_S_extend 34 = .ok (.aload_n 0, 1) := by decide +kernel
theorem d_S_extend_35 : decode b_S_extend 35 = .ok (.lload_n 2, 1) := by decide +kernel
theorem d_S_extend_36 : decode b_S_extend 36 = .ok (.lload 9, 2) := by decide +kernel
theorem d_S_extend_38 : decode b_S_extend 38 = .ok (.invokevirtual 81, 3) := by decide +kernel
theorem d_S_extend_41 : decode b_S_extend 41 = .ok (.iadd, 1) := by decide +kernel
theorem d_S_extend_42 : decode b_S_extend 42 = .ok (.lload 7, 2) := by decide +kernel
theorem d_S_extend_44 : decode b_S_extend 44 = .ok (.lload 9, 2) := by decide +kernel
theorem d_S_extend_46 : decode b_S_extend 46 = .ok (.lor, 1) := by decide +kernel
theorem d_S_extend_47 : decode b_S_extend 47 = .ok (.invokevirtual 85, 3) := by decide +kernel
theorem d_S_extend_50 : decode b_S_extend 50 = .ok (.ifCond .ne 4, 3) := by decide +kernel
theorem d_S_extend_53 : decode b_S_extend 53 = .ok (.return_, 1) := by decide +kernel
theorem d_S_extend_54 : decode b_S_extend 54 = .ok (.aload_n 0, 1) := by decide +kernel
theorem d_S_extend_55 : decode b_S_extend 55 = .ok (.lload_n 2, 1) := by decide +kernel
theorem d_S_extend_56 : decode b_S_extend 56 = .ok (.lload 9, 2) := by decide +kernel
theorem d_S_extend_58 : decode b_S_extend 58 = .ok (.invokevirtual 89, 3) := by decide +kernel
theorem d_S_extend_61 : decode b_S_extend 61 = .ok (.lstore 11, 2) := by decide +kernel
theorem d_S_extend_63 : decode b_S_extend 63 = .ok (.iconst 0, 1) := by decide +kernel
theorem d_S_extend_64 : decode b_S_extend 64 = .ok (.istore 13, 2) := by decide +kernel
theorem d_S_extend_66 : decode b_S_extend 66 = .ok (.iload 13, 2) := by decide +kernel
theorem d_S_extend_68 : decode b_S_extend 68 = .ok (.aload_n 0, 1) := by decide +kernel
theorem d_S_extend_69 : decode b_S_extend 69 = .ok (.getfield 18, 3) := by decide +kernel
theorem d_S_extend_72 : decode b_S_extend 72 = .ok (.getfield 29, 3) := by decide +kernel
theorem d_S_extend_75 : decode b_S_extend 75 = .ok (.if_icmp .ge 76, 3) := by decide +kernel
theorem d_S_extend_78 : decode b_S_extend 78 = .ok (.lconst 1, 1) := by decide +kernel
theorem d_S_extend_79 : decode b_S_extend 79 = .ok (.iload 13, 2) := by decide +kernel
theorem d_S_extend_81 : decode b_S_extend 81 = .ok (.lshl, 1) := by decide +kernel
theorem d_S_extend_82 : decode b_S_extend 82 = .ok (.lstore 14, 2) := by decide +kernel
theorem d_S_extend_84 : decode b_S_extend 84 = .ok (.lload 11, 2) := by decide +kernel
theorem d_S_extend_86 : decode b_S_extend 86 = .ok (.lload 14, 2) := by decide +kernel
theorem d_S_extend_88 : decode b_S_extend 88 = .ok (.land, 1) := by decide +kernel
theorem d_S_extend_89 : decode b_S_extend 89 = .ok (.lconst 0, 1) := by decide +kernel
theorem d_S_extend_90 : decode b_S_extend 90 = .ok (.lcmp, 1) := by decide +kernel
theorem d_S_extend_91 : decode b_S_extend 91 = .ok (.ifCond .eq 54, 3) := by decide +kernel
theorem d_S_extend_94 : decode b_S_extend 94 = .ok (.lload 9, 2) := by decide +kernel
theorem d_S_extend_96 : decode b_S_extend 96 = .ok (.lload 14, 2) := by decide +kernel
theorem d_S_extend_98 : decode b_S_extend 98 = .ok (.ldc2_w 92, 3) := by decide +kernel
theorem d_S_extend_101 : decode b_S_extend 101 = .ok (.lxor, 1) := by decide +kernel
theorem d_S_extend_102 : decode b_S_extend 102 = .ok (.land, 1) := by decide +kernel
theorem d_S_extend_103 : decode b_S_extend 103 = .ok (.lstore 9, 2) := by decide +kernel
theorem d_S_extend_105 : decode b_S_extend 105 = .ok (.aload_n 0, 1) := by decide +kernel
theorem d_S_extend_106 : decode b_S_extend 106 = .ok (.iload_n 1, 1) := by decide +kernel
theorem d_S_extend_107 : decode b_S_extend 107 = .ok (.iconst 1, 1) := by decide +kernel
theorem d_S_extend_108 : decode b_S_extend 108 = .ok (.iadd, 1) := by decide +kernel
theorem d_S_extend_109 : decode b_S_extend 109 = .ok (.lload_n 2, 1) := by decide +kernel
theorem d_S_extend_110 : decode b_S_extend 110 = .ok (.aload_n 0, 1) := by decide +kernel
theorem d_S_extend_111 : decode b_S_extend 111 = .ok (.getfield 18, 3) := by decide +kernel
theorem d_S_extend_114 : decode b_S_extend 114 = .ok (.getfield 64, 3) := by decide +kernel
theorem d_S_extend_117 : decode b_S_extend 117 = .ok (.iload 13, 2) := by decide +kernel
theorem d_S_extend_119 : decode b_S_extend 119 = .ok (.laload, 1) := by decide +kernel
theorem d_S_extend_120 : decode b_S_extend 120 = .ok (.ldc2_w 92, 3) := by decide +kernel
theorem d_S_extend_123 : decode b_S_extend 123 = .ok (.lxor, 1) := by decide +kernel
theorem d_S_extend_124 : decode b_S_extend 124 = .ok (.land, 1) := by decide +kernel
theorem d_S_extend_125 : decode b_S_extend 125 = .ok (.lload 9, 2) := by decide +kernel
theorem d_S_extend_127 : decode b_S_extend 127 = .ok (.iload 6, 2) := by decide +kernel
theorem d_S_extend_129 : decode b_S_extend 129 = .ok (.aload_n 0, 1) := by decide +kernel
theorem d_S_extend_130 : decode b_S_extend 130 = .ok (.getfield 22, 3) := by decide +kernel
theorem d_S_extend_133 : decode b_S_extend 133 = .ok (.iload 13, 2) := by decide +kernel
theorem d_S_extend_135 : decode b_S_extend 135 = .ok (.iaload, 1) := by decide +kernel
theorem d_S_extend_136 : decode b_S_extend 136 = .ok (.iadd, 1) := by decide +kernel
theorem d_S_extend_137 : decode b_S_extend 137 = .ok (.lload 7, 2) := by decide +kernel
theorem d_S_extend_139 : decode b_S_extend 139 = .ok (.lload 14, 2) := by decide +kernel
theorem d_S_extend_141 : decode b_S_extend 141 = .ok (.lor, 1) := by decide +kernel
theorem d_S_extend_142 : decode b_S_extend 142 = .ok (.invokevirtual 51, 3) := by decide +kernel
theorem d_S_extend_145 : decode b_S_extend 145 = .ok (.iinc 13 1, 3) := by decide +kernel
theorem d_S_extend_148 : decode b_S_extend 148 = .ok (.goto (-82), 3) := by decide +kernel
theorem d_S_extend_151 : decode b_S_extend 151 = .ok (.return_, 1) := by decide +kernel
theorem d_S_keepIfBetter_0 : decode b_S_keepIfBetter 0 = .ok (.aload_n 0, 1) := by decide +kernel
theorem d_S_keepIfBetter_1 : decode b_S_keepIfBetter 1 = .ok (.iload_n 1, 1) := by decide +kernel
theorem d_S_keepIfBetter_2 : decode b_S_keepIfBetter 2 = .ok (.lload_n 2, 1) := by decide +kernel
theorem d_S_keepIfBetter_3 : decode b_S_keepIfBetter 3 = .ok (.invokevirtual 85, 3) := by decide +kernel
theorem d_S_keepIfBetter_6 : decode b_S_keepIfBetter 6 = .ok (.ifCond .eq 13, 3) := by decide +kernel
theorem d_S_keepIfBetter_9 : decode b_S_keepIfBetter 9 = .ok (.aload_n 0, 1) := by decide +kernel
theorem d_S_keepIfBetter_10 : decode b_S_keepIfBetter 10 = .ok (.iload_n 1, 1) := by decide +kernel
theorem d_S_keepIfBetter_11 : decode b_S_keepIfBetter 11 = .ok (.putfield 41, 3) := by decide +kernel
theorem d_S_keepIfBetter_14 : decode b_S_keepIfBetter 14 = .ok (.aload_n 0, 1) := by decide +kernel
theorem d_S_keepIfBetter_15 : decode b_S_keepIfBetter 15 = .ok (.lload_n 2, 1) := by decide +kernel
theorem d_S_keepIfBetter_16 : decode b_S_keepIfBetter 16 = .ok (.putfield 44, 3) := by decide +kernel
theorem d_S_keepIfBetter_19 : decode b_S_keepIfBetter 19 = .ok (.return_, 1) := by decide +kernel
theorem d_S_isBetterThanBest_0 : decode b_S_isBetterThanBest 0 = .ok (.lload_n 2, 1) := by decide +kernel
theorem d_S_isBetterThanBest_1 : decode b_S_isBetterThanBest 1 = .ok (.aload_n 0, 1) := by decide +kernel
theorem d_S_isBetterThanBest_2 : decode b_S_isBetterThanBest 2 = .ok (.getfield 44, 3) := by decide +kernel
theorem d_S_isBetterThanBest_5 : decode b_S_isBetterThanBest 5 = .ok (.lxor, 1) := by decide +kernel
theorem d_S_isBetterThanBest_6 : decode b_S_isBetterThanBest 6 = .ok (.lstore 4, 2) := by decide +kernel
theorem d_S_isBetterThanBest_8 : decode b_S_isBetterThanBest 8 = .ok (.lload 4, 2) := by decide +kernel
theorem d_S_isBetterThanBest_10 : decode b_S_isBetterThanBest 10 = .ok (.lload 4, 2) := by decide +kernel
theorem d_S_isBetterThanBest_12 : decode b_S_isBetterThanBest 12 = .ok (.lneg, 1) := by decide +kernel
theorem d_S_isBetterThanBest_13 : decode b_S_isBetterThanBest 13 = .ok (.land, 1) := by decide +kernel
theorem d_S_isBetterThanBest_14 : decode b_S_isBetterThanBest 14 = .ok (.lstore 6, 2) := by decide +kernel
theorem d_S_isBetterThanBest_16 : decode b_S_isBetterThanBest 16 = .ok (.iload_n 1, 1) := by decide +kernel
theorem d_S_isBetterThanBest_17 : decode b_S_isBetterThanBest 17 = .ok (.aload_n 0, 1) := by decide +kernel
theorem d_S_isBetterThanBest_18 : decode b_S_isBetterThanBest 18 = .ok (.getfield 41, 3) := by decide +kernel
theorem d_S_isBetterThanBest_21 : decode b_S_isBetterThanBest 21 = .ok (.if_icmp .lt 20, 3) := by decide +kernel
theorem d_S_isBetterThanBest_24 : decode b_S_isBetterThanBest 24 = .ok (.iload_n 1, 1) := by decide +kernel
theorem d_S_isBetterThanBest_25 : decode b_S_isBetterThanBest 25 = .ok (.aload_n 0, 1) := by decide +kernel
theorem d_S_isBetterThanBest_26 : decode b_S_isBetterThanBest 26 = .ok (.getfield 41, 3) := by decide +kernel
theorem d_S_isBetterThanBest_29 : decode b_S_isBetterThanBest 29 = .ok (.if_icmp .ne 16, 3) := by decide +kernel
theorem d_S_isBetterThanBest_32 : decode b_S_isBetterThanBest 32 = .ok (.lload_n 2, 1) := by decide +kernel
theorem d_S_isBetterThanBest_33 : decode b_S_isBetterThanBest 33 = .ok (.lload 6, 2) := by decide +kernel
theorem d_S_isBetterThanBest_35 : decode b_S_isBetterThanBest 35 = .ok (.land, 1) := by decide +kernel
theorem d_S_isBetterThanBest_36 : decode b_S_isBetterThanBest 36 = .ok (.lconst 0, 1) := by decide +kernel
theorem d_S_isBetterThanBest_37 : decode b_S_isBetterThanBest 37 = .ok (.lcmp, 1) := by decide +kernel
theorem d_S_isBetterThanBest_38 : decode b_S_isBetterThanBest 38 = .ok (.ifCond .eq 7, 3) := by decide +kernel
theorem d_S_isBetterThanBest_41 : decode b_S_isBetterThanBest 41 = .ok (.iconst 1, 1) := by decide +kernel
theorem d_S_isBetterThanBest_42 : decode b_S_isBetterThanBest 42 = .ok (.goto 4, 3) := by decide +kernel
theorem d_S_isBetterThanBest_45 : decode b_S_isBetterThanBest 45 = .ok (.iconst 0, 1) := by decide +kernel
theorem d_S_isBetterThanBest_46 : decode b_S_isBetterThanBest 46 = .ok (.ireturn, 1) := by decide +kernel
theorem d_S_withoutDominated_0 : decode b_S_withoutDominated 0 = .ok (.lload_n 3, 1) := by decide +kernel
theorem d_S_withoutDominated_1 : decode b_S_withoutDominated 1 = .ok (.lstore 5, 2) := by decide +kernel
theorem d_S_withoutDominated_3 : decode b_S_withoutDominated 3 = .ok (.iconst 0, 1) := by decide +kernel
theorem d_S_withoutDominated_4 : decode b_S_withoutDominated 4 = .ok (.istore 7, 2) := by decide +kernel
theorem d_S_withoutDominated_6 : decode b_S_withoutDominated 6 = .ok (.iload 7, 2) := by decide +kernel
theorem d_S_withoutDominated_8 : decode b_S_withoutDominated 8 = .ok (.aload_n 0, 1) := by decide +kernel
theorem d_S_withoutDominated_9 : decode b_S_withoutDominated 9 = .ok (.getfield 18, 3) := by decide +kernel
theorem d_S_withoutDominated_12 : decode b_S_withoutDominated 12 = .ok (.getfield 29, 3) := by decide +kernel
theorem d_S_withoutDominated_15 : decode b_S_withoutDominated 15 = .ok (.if_icmp .ge 45, 3) := by decide +kernel
theorem d_S_withoutDominated_18 : decode b_S_withoutDominated 18 = .ok (.lload_n 3, 1) := by decide +kernel
theorem d_S_withoutDominated_19 : decode b_S_withoutDominated 19 = .ok (.iload 7, 2) := by decide +kernel
theorem d_S_withoutDominated_21 : decode b_S_withoutDominated 21 = .ok (.lshr, 1) := by decide +kernel
theorem d_S_withoutDominated_22 : decode b_S_withoutDominated 22 = .ok (.lconst 1, 1) := by decide +kernel
theorem d_S_withoutDominated_23 : decode b_S_withoutDominated 23 = .ok (.land, 1) := by decide +kernel
theorem d_S_withoutDominated_24 : decode b_S_withoutDominated 24 = .ok (.lconst 0, 1) := by decide +kernel
theorem d_S_withoutDominated_25 : decode b_S_withoutDominated 25 = .ok (.lcmp, 1) := by decide +kernel
theorem d_S_withoutDominated_26 : decode b_S_withoutDominated 26 = .ok (.ifCond .eq 28, 3) := by decide +kernel
theorem d_S_withoutDominated_29 : decode b_S_withoutDominated 29 = .ok (.aload_n 0, 1) := by decide +kernel
theorem d_S_withoutDominated_30 : decode b_S_withoutDominated 30 = .ok (.iload 7, 2) := by decide +kernel
theorem d_S_withoutDominated_32 : decode b_S_withoutDominated 32 = .ok (.lload_n 1, 1) := by decide +kernel
theorem d_S_withoutDominated_33 : decode b_S_withoutDominated 33 = .ok (.lload 5, 2) := by decide +kernel
theorem d_S_withoutDominated_35 : decode b_S_withoutDominated 35 = .ok (.invokevirtual 94, 3) := by decide +kernel
theorem d_S_withoutDominated_38 : decode b_S_withoutDominated 38 = .ok (.ifCond .eq 16, 3) := by decide +kernel
theorem d_S_withoutDominated_41 : decode b_S_withoutDominated 41 = .ok (.lload 5, 2) := by decide +kernel
theorem d_S_withoutDominated_43 : decode b_S_withoutDominated 43 = .ok (.lconst 1, 1) := by decide +kernel
theorem d_S_withoutDominated_44 : decode b_S_withoutDominated 44 = .ok (.iload 7, 2) := by decide +kernel
theorem d_S_withoutDominated_46 : decode b_S_withoutDominated 46 = .ok (.lshl, 1) := by decide +kernel
theorem d_S_withoutDominated_47 : decode b_S_withoutDominated 47 = .ok (.ldc2_w 92, 3) := by decide +kernel
theorem d_S_withoutDominated_50 : decode b_S_withoutDominated 50 = .ok (.lxor, 1) := by decide +kernel
theorem d_S_withoutDominated_51 : decode b_S_withoutDominated 51 = .ok (.land, 1) := by decide +kernel
theorem d_S_withoutDominated_52 : decode b_S_withoutDominated 52 = .ok (.lstore 5, 2) := by decide +kernel
theorem d_S_withoutDominated_54 : decode b_S_withoutDominated 54 = .ok (.iinc 7 1, 3) := by decide +kernel
theorem d_S_withoutDominated_57 : decode b_S_withoutDominated 57 = .ok (.goto (-51), 3) := by decide +kernel
theorem d_S_withoutDominated_60 : decode b_S_withoutDominated 60 = .ok (.lload 5, 2) := by decide +kernel
theorem d_S_withoutDominated_62 : decode b_S_withoutDominated 62 = .ok (.lreturn, 1) := by decide +kernel
theorem d_S_isDominated_0 : decode b_S_isDominated 0 = .ok (.aload_n 0, 1) := by decide +kernel
theorem d_S_isDominated_1 : decode b_S_isDominated 1 = .ok (.getfield 18, 3) := by decide +kernel
theorem d_S_isDominated_4 : decode b_S_isDominated 4 = .ok (.getfield 64, 3) := by decide +kernel
theorem d_S_isDominated_7 : decode b_S_isDominated 7 = .ok (.iload_n 1, 1) := by decide +kernel
theorem d_S_isDominated_8 : decode b_S_isDominated 8 = .ok (.laload, 1) := by decide +kernel
theorem d_S_isDominated_9 : decode b_S_isDominated 9 = .ok (.lload_n 2, 1) := by decide +kernel
theorem d_S_isDominated_10 : decode b_S_isDominated 10 = .ok (.land, 1) := by decide +kernel
theorem d_S_isDominated_11 : decode b_S_isDominated 11 = .ok (.lstore 6, 2) := by decide +kernel
theorem d_S_isDominated_13 : decode b_S_isDominated 13 = .ok (.lload 6, 2) := by decide +kernel
theorem d_S_isDominated_15 : decode b_S_isDominated 15 = .ok (.lconst 0, 1) := by decide +kernel
theorem d_S_isDominated_16 : decode b_S_isDominated 16 = .ok (.lcmp, 1) := by decide +kernel
theorem d_S_isDominated_17 : decode b_S_isDominated 17 = .ok (.ifCond .ne 5, 3) := by decide +kernel
theorem d_S_isDominated_20 : decode b_S_isDominated 20 = .ok (.iconst 1, 1) := by decide +kernel
theorem d_S_isDominated_21 : decode b_S_isDominated 21 = .ok (.ireturn, 1) := by decide +kernel
theorem d_S_isDominated_22 : decode b_S_isDominated 22 = .ok (.iconst 0, 1) := by decide +kernel
theorem d_S_isDominated_23 : decode b_S_isDominated 23 = .ok (.istore 8, 2) := by decide +kernel
theorem d_S_isDominated_25 : decode b_S_isDominated 25 = .ok (.iload 8, 2) := by decide +kernel
theorem d_S_isDominated_27 : decode b_S_isDominated 27 = .ok (.aload_n 0, 1) := by decide +kernel
theorem d_S_isDominated_28 : decode b_S_isDominated 28 = .ok (.getfield 18, 3) := by decide +kernel
theorem d_S_isDominated_31 : decode b_S_isDominated 31 = .ok (.getfield 29, 3) := by decide +kernel
theorem d_S_isDominated_34 : decode b_S_isDominated 34 = .ok (.if_icmp .ge 95, 3) := by decide +kernel
theorem d_S_isDominated_37 : decode b_S_isDominated 37 = .ok (.lload 4, 2) := by decide +kernel
theorem d_S_isDominated_39 : decode b_S_isDominated 39 = .ok (.iload 8, 2) := by decide +kernel
theorem d_S_isDominated_41 : decode b_S_isDominated 41 = .ok (.lshr, 1) := by decide +kernel
theorem d_S_isDominated_42 : decode b_S_isDominated 42 = .ok (.lconst 1, 1) := by decide +kernel
theorem d_S_isDominated_43 : decode b_S_isDominated 43 = .ok (.land, 1) := by decide +kernel
theorem d_S_isDominated_44 : decode b_S_isDominated 44 = .ok (.lconst 0, 1) := by decide +kernel
theorem d_S_isDominated_45 : decode b_S_isDominated 45 = .ok (.lcmp, 1) := by decide +kernel
theorem d_S_isDominated_46 : decode b_S_isDominated 46 = .ok (.ifCond .eq 29, 3) := by decide +kernel
theorem d_S_isDominated_49 : decode b_S_isDominated 49 = .ok (.lload 6, 2) := by decide +kernel
theorem d_S_isDominated_51 : decode b_S_isDominated 51 = .ok (.aload_n 0, 1) := by decide +kernel
theorem d_S_isDominated_52 : decode b_S_isDominated 52 = .ok (.getfield 18, 3) := by decide +kernel
theorem d_S_isDominated_55 : decode b_S_isDominated 55 = .ok (.getfield 64, 3) := by decide +kernel
theorem d_S_isDominated_58 : decode b_S_isDominated 58 = .ok (.iload 8, 2) := by decide +kernel
theorem d_S_isDominated_60 : decode b_S_isDominated 60 = .ok (.laload, 1) := by decide +kernel
theorem d_S_isDominated_61 : decode b_S_isDominated 61 = .ok (.ldc2_w 92, 3) := by decide +kernel
theorem d_S_isDominated_64 : decode b_S_isDominated 64 = .ok (.lxor, 1) := by decide +kernel
theorem d_S_isDominated_65 : decode b_S_isDominated 65 = .ok (.land, 1) := by decide +kernel
theorem d_S_isDominated_66 : decode b_S_isDominated 66 = .ok (.lconst 0, 1) := by decide +kernel
theorem d_S_isDominated_67 : decode b_S_isDominated 67 = .ok (.lcmp, 1) := by decide +kernel
theorem d_S_isDominated_68 : decode b_S_isDominated 68 = .ok (.ifCond .ne 7, 3) := by decide +kernel
theorem d_S_isDominated_71 : decode b_S_isDominated 71 = .ok (.iconst 1, 1) := by decide +kernel
theorem d_S_isDominated_72 : decode b_S_isDominated 72 = .ok (.goto 4, 3) := by decide +kernel
theorem d_S_isDominated_75 : decode b_S_isDominated 75 = .ok (.iconst 0, 1) := by decide +kernel
theorem d_S_isDominated_76 : decode b_S_isDominated 76 = .ok (.istore 9, 2) := by decide +kernel
theorem d_S_isDominated_78 : decode b_S_isDominated 78 = .ok (.iload 9, 2) := by decide +kernel
theorem d_S_isDominated_80 : decode b_S_isDominated 80 = .ok (.ifCond .eq 43, 3) := by decide +kernel
theorem d_S_isDominated_83 : decode b_S_isDominated 83 = .ok (.aload_n 0, 1) := by decide +kernel
theorem d_S_isDominated_84 : decode b_S_isDominated 84 = .ok (.getfield 22, 3) := by decide +kernel
theorem d_S_isDominated_87 : decode b_S_isDominated 87 = .ok (.iload 8, 2) := by decide +kernel
theorem d_S_isDominated_89 : decode b_S_isDominated 89 = .ok (.iaload, 1) := by decide +kernel
theorem d_S_isDominated_90 : decode b_S_isDominated 90 = .ok (.aload_n 0, 1) := by decide +kernel
theorem d_S_isDominated_91 : decode b_S_isDominated 91 = .ok (.getfield 22, 3) := by decide +kernel
theorem d_S_isDominated_94 : decode b_S_isDominated 94 = .ok (.iload_n 1, 1) := by decide +kernel
theorem d_S_isDominated_95 : decode b_S_isDominated 95 = .ok (.iaload, 1) := by decide +kernel
theorem d_S_isDominated_96 : decode b_S_isDominated 96 = .ok (.if_icmp .lt 25, 3) := by decide +kernel
theorem d_S_isDominated_99 : decode b_S_isDominated 99 = .ok (.aload_n 0, 1) := by decide +kernel
theorem d_S_isDominated_100 : decode b_S_isDominated 100 = .ok (.getfield 22, 3) := by decide +kernel
theorem d_S_isDominated_103 : decode b_S_isDominated 103 = .ok (.iload 8, 2) := by decide +kernel
theorem d_S_isDominated_105 : decode b_S_isDominated 105 = .ok (.iaload, 1) := by decide +kernel
theorem d_S_isDominated_106 : decode b_S_isDominated 106 = .ok (.aload_n 0, 1) := by decide +kernel
theorem d_S_isDominated_107 : decode b_S_isDominated 107 = .ok (.getfield 22, 3) := by decide +kernel
theorem d_S_isDominated_110 : decode b_S_isDominated 110 = .ok (.iload_n 1, 1) := by decide +kernel
theorem d_S_isDominated_111 : decode b_S_isDominated 111 = .ok (.iaload, 1) := by decide +kernel
theorem d_S_isDominated_112 : decode b_S_isDominated 112 = .ok (.if_icmp .ne 11, 3) := by decide +kernel
theorem d_S_isDominated_115 : decode b_S_isDominated 115 = .ok (.iload 8, 2) := by decide +kernel
theorem d_S_isDominated_117 : decode b_S_isDominated 117 = .ok (.iload_n 1, 1) := by decide +kernel
theorem d_S_isDominated_118 : decode b_S_isDominated 118 = .ok (.if_icmp .ge 5, 3) := by decide +kernel
theorem d_S_isDominated_121 : decode b_S_isDominated 121 = .ok (.iconst 1, 1) := by decide +kernel
theorem d_S_isDominated_122 : decode b_S_isDominated 122 = .ok (.ireturn, 1) := by decide +kernel
theorem d_S_isDominated_123 : decode b_S_isDominated 123 = .ok (.iinc 8 1, 3) := by decide +kernel
theorem d_S_isDominated_126 : decode b_S_isDominated 126 = .ok (.goto (-101), 3) := by decide +kernel
theorem d_S_isDominated_129 : decode b_S_isDominated 129 = .ok (.iconst 0, 1) := by decide +kernel
theorem d_S_isDominated_130 : decode b_S_isDominated 130 = .ok (.ireturn, 1) := by decide +kernel
theorem d_S_weightToCome_0 : decode b_S_weightToCome 0 = .ok (.lconst 0, 1) := by decide +kernel
theorem d_S_weightToCome_1 : decode b_S_weightToCome 1 = .ok (.lstore 5, 2) := by decide +kernel
theorem d_S_weightToCome_3 : decode b_S_weightToCome 3 = .ok (.iconst 0, 1) := by decide +kernel
theorem d_S_weightToCome_4 : decode b_S_weightToCome 4 = .ok (.istore 7, 2) := by decide +kernel
theorem d_S_weightToCome_6 : decode b_S_weightToCome 6 = .ok (.iconst 0, 1) := by decide +kernel
theorem d_S_weightToCome_7 : decode b_S_weightToCome 7 = .ok (.istore 8, 2) := by decide +kernel
theorem d_S_weightToCome_9 : decode b_S_weightToCome 9 = .ok (.iload 8, 2) := by decide +kernel
theorem d_S_weightToCome_11 : decode b_S_weightToCome 11 = .ok (.bipush 32, 2) := by decide +kernel
theorem d_S_weightToCome_13 : decode b_S_weightToCome 13 = .ok (.if_icmp .ge 59, 3) := by decide +kernel
theorem d_S_weightToCome_16 : decode b_S_weightToCome 16 = .ok (.aload_n 0, 1) := by decide +kernel
theorem d_S_weightToCome_17 : decode b_S_weightToCome 17 = .ok (.getfield 25, 3) := by decide +kernel
theorem d_S_weightToCome_20 : decode b_S_weightToCome 20 = .ok (.iload 8, 2) := by decide +kernel
theorem d_S_weightToCome_22 : decode b_S_weightToCome 22 = .ok (.laload, 1) := by decide +kernel
theorem d_S_weightToCome_23 : decode b_S_weightToCome 23 = .ok (.lload_n 3, 1) := by decide +kernel
theorem d_S_weightToCome_24 : decode b_S_weightToCome 24 = .ok (.land, 1) := by decide +kernel
theorem d_S_weightToCome_25 : decode b_S_weightToCome 25 = .ok (.lstore 9, 2) := by decide +kernel
theorem d_S_weightToCome_27 : decode b_S_weightToCome 27 = .ok (.lload_n 1, 1) := by decide +kernel
theorem d_S_weightToCome_28 : decode b_S_weightToCome 28 = .ok (.iload 8, 2) := by decide +kernel
theorem d_S_weightToCome_30 : decode b_S_weightToCome 30 = .ok (.lshr, 1) := by decide +kernel
theorem d_S_weightToCome_31 : decode b_S_weightToCome 31 = .ok (.lconst 1, 1) := by decide +kernel
theorem d_S_weightToCome_32 : decode b_S_weightToCome 32 = .ok (.land, 1) := by decide +kernel
theorem d_S_weightToCome_33 : decode b_S_weightToCome 33 = .ok (.lconst 0, 1) := by decide +kernel
theorem d_S_weightToCome_34 : decode b_S_weightToCome 34 = .ok (.lcmp, 1) := by decide +kernel
theorem d_S_weightToCome_35 : decode b_S_weightToCome 35 = .ok (.ifCond .eq 31, 3) := by decide +kernel
theorem d_S_weightToCome_38 : decode b_S_weightToCome 38 = .ok (.lload 9, 2) := by decide +kernel
theorem d_S_weightToCome_40 : decode b_S_weightToCome 40 = .ok (.lload 5, 2) := by decide +kernel
theorem d_S_weightToCome_42 : decode b_S_weightToCome 42 = .ok (.land, 1) := by decide +kernel
theorem d_S_weightToCome_43 : decode b_S_weightToCome 43 = .ok (.lconst 0, 1) := by decide +kernel
theorem d_S_weightToCome_44 : decode b_S_weightToCome 44 = .ok (.lcmp, 1) := by decide +kernel
theorem d_S_weightToCome_45 : decode b_S_weightToCome 45 = .ok (.ifCond .ne 21, 3) := by decide +kernel
theorem d_S_weightToCome_48 : decode b_S_weightToCome 48 = .ok (.lload 5, 2) := by decide +kernel
theorem d_S_weightToCome_50 : decode b_S_weightToCome 50 = .ok (.lload 9, 2) := by decide +kernel
theorem d_S_weightToCome_52 : decode b_S_weightToCome 52 = .ok (.lor, 1) := by decide +kernel
theorem d_S_weightToCome_53 : decode b_S_weightToCome 53 = .ok (.lstore 5, 2) := by decide +kernel
theorem d_S_weightToCome_55 : decode b_S_weightToCome 55 = .ok (.iload 7, 2) := by decide +kernel
theorem d_S_weightToCome_57 : decode b_S_weightToCome 57 = .ok (.aload_n 0, 1) := by decide +kernel
theorem d_S_weightToCome_58 : decode b_S_weightToCome 58 = .ok (.lload 9, 2) := by decide +kernel
theorem d_S_weightToCome_60 : decode b_S_weightToCome 60 = .ok (.invokevirtual 98, 3) := by decide +kernel
theorem d_S_weightToCome_63 : decode b_S_weightToCome 63 = .ok (.iadd, 1) := by decide +kernel
theorem d_S_weightToCome_64 : decode b_S_weightToCome 64 = .ok (.istore 7, 2) := by decide +kernel
theorem d_S_weightToCome_66 : decode b_S_weightToCome 66 = .ok (.iinc 8 1, 3) := by decide +kernel
theorem d_S_weightToCome_69 : decode b_S_weightToCome 69 = .ok (.goto (-60), 3) := by decide +kernel
theorem d_S_weightToCome_72 : decode b_S_weightToCome 72 = .ok (.iload 7, 2) := by decide +kernel
theorem d_S_weightToCome_74 : decode b_S_weightToCome 74 = .ok (.ireturn, 1) := by decide +kernel
theorem d_S_lightestOf_0 : decode b_S_lightestOf 0 = .ok (.ldc 40, 2) := by decide +kernel
theorem d_S_lightestOf_2 : decode b_S_lightestOf 2 = .ok (.istore_n 3, 1) := by decide +kernel
theorem d_S_lightestOf_3 : decode b_S_lightestOf 3 = .ok (.iconst 0, 1) := by decide +kernel
theorem d_S_lightestOf_4 : decode b_S_lightestOf 4 = .ok (.istore 4, 2) := by decide +kernel
theorem d_S_lightestOf_6 : decode b_S_lightestOf 6 = .ok (.iload 4, 2) := by decide +kernel
theorem d_S_lightestOf_8 : decode b_S_lightestOf 8 = .ok (.aload_n 0, 1) := by decide +kernel
theorem d_S_lightestOf_9 : decode b_S_lightestOf 9 = .ok (.getfield 18, 3) := by decide +kernel
theorem d_S_lightestOf_12 : decode b_S_lightestOf 12 = .ok (.getfield 29, 3) := by decide +kernel
theorem d_S_lightestOf_15 : decode b_S_lightestOf 15 = .ok (.if_icmp .ge 32, 3) := by decide +kernel
theorem d_S_lightestOf_18 : decode b_S_lightestOf 18 = .ok (.lload_n 1, 1) := by decide +kernel
theorem d_S_lightestOf_19 : decode b_S_lightestOf 19 = .ok (.iload 4, 2) := by decide +kernel
theorem d_S_lightestOf_21 : decode b_S_lightestOf 21 = .ok (.lshr, 1) := by decide +kernel
theorem d_S_lightestOf_22 : decode b_S_lightestOf 22 = .ok (.lconst 1, 1) := by decide +kernel
theorem d_S_lightestOf_23 : decode b_S_lightestOf 23 = .ok (.land, 1) := by decide +kernel
theorem d_S_lightestOf_24 : decode b_S_lightestOf 24 = .ok (.lconst 0, 1) := by decide +kernel
theorem d_S_lightestOf_25 : decode b_S_lightestOf 25 = .ok (.lcmp, 1) := by decide +kernel
theorem d_S_lightestOf_26 : decode b_S_lightestOf 26 = .ok (.ifCond .eq 15, 3) := by decide +kernel
theorem d_S_lightestOf_29 : decode b_S_lightestOf 29 = .ok (.iload_n 3, 1) := by decide +kernel
theorem d_S_lightestOf_30 : decode b_S_lightestOf 30 = .ok (.aload_n 0, 1) := by decide +kernel
theorem d_S_lightestOf_31 : decode b_S_lightestOf 31 = .ok (.getfield 22, 3) := by decide +kernel
theorem d_S_lightestOf_34 : decode b_S_lightestOf 34 = .ok (.iload 4, 2) := by decide +kernel
theorem d_S_lightestOf_36 : decode b_S_lightestOf 36 = .ok (.iaload, 1) := by decide +kernel
theorem d_S_lightestOf_37 : decode b_S_lightestOf 37 = .ok (.invokestatic 102, 3) := by decide +kernel
theorem d_S_lightestOf_40 : decode b_S_lightestOf 40 = .ok (.istore_n 3, 1) := by decide +kernel
theorem d_S_lightestOf_41 : decode b_S_lightestOf 41 = .ok (.iinc 4 1, 3) := by decide +kernel
theorem d_S_lightestOf_44 : decode b_S_lightestOf 44 = .ok (.goto (-38), 3) := by decide +kernel
theorem d_S_lightestOf_47 : decode b_S_lightestOf 47 = .ok (.iload_n 3, 1) := by decide +kernel
theorem d_S_lightestOf_48 : decode b_S_lightestOf 48 = .ok (.ireturn, 1) := by decide +kernel
theorem d_S_fewestServers_0 : decode b_S_fewestServers 0 = .ok (.lload_n 3, 1) := by decide +kernel
theorem d_S_fewestServers_1 : decode b_S_fewestServers 1 = .ok (.lstore 5, 2) := by decide +kernel
theorem d_S_fewestServers_3 : decode b_S_fewestServers 3 = .ok (.iconst 0, 1) := by decide +kernel
theorem d_S_fewestServers_4 : decode b_S_fewestServers 4 = .ok (.istore 7, 2) := by decide +kernel
theorem d_S_fewestServers_6 : decode b_S_fewestServers 6 = .ok (.iload 7, 2) := by decide +kernel
theorem d_S_fewestServers_8 : decode b_S_fewestServers 8 = .ok (.bipush 32, 2) := by decide +kernel
theorem d_S_fewestServers_10 : decode b_S_fewestServers 10 = .ok (.if_icmp .ge 48, 3) := by decide +kernel
theorem d_S_fewestServers_13 : decode b_S_fewestServers 13 = .ok (.aload_n 0, 1) := by decide +kernel
theorem d_S_fewestServers_14 : decode b_S_fewestServers 14 = .ok (.getfield 25, 3) := by decide +kernel
theorem d_S_fewestServers_17 : decode b_S_fewestServers 17 = .ok (.iload 7, 2) := by decide +kernel
theorem d_S_fewestServers_19 : decode b_S_fewestServers 19 = .ok (.laload, 1) := by decide +kernel
theorem d_S_fewestServers_20 : decode b_S_fewestServers 20 = .ok (.lload_n 3, 1) := by decide +kernel
theorem d_S_fewestServers_21 : decode b_S_fewestServers 21 = .ok (.land, 1) := by decide +kernel
theorem d_S_fewestServers_22 : decode b_S_fewestServers 22 = .ok (.lstore 8, 2) := by decide +kernel
theorem d_S_fewestServers_24 : decode b_S_fewestServers 24 = .ok (.lload_n 1, 1) := by decide +kernel
theorem d_S_fewestServers_25 : decode b_S_fewestServers 25 = .ok (.iload 7, 2) := by decide +kernel
theorem d_S_fewestServers_27 : decode b_S_fewestServers 27 = .ok (.lshr, 1) := by decide +kernel
theorem d_S_fewestServers_28 : decode b_S_fewestServers 28 = .ok (.lconst 1, 1) := by decide +kernel
theorem d_S_fewestServers_29 : decode b_S_fewestServers 29 = .ok (.land, 1) := by decide +kernel
theorem d_S_fewestServers_30 : decode b_S_fewestServers 30 = .ok (.lconst 0, 1) := by decide +kernel
theorem d_S_fewestServers_31 : decode b_S_fewestServers 31 = .ok (.lcmp, 1) := by decide +kernel
theorem d_S_fewestServers_32 : decode b_S_fewestServers 32 = .ok (.ifCond .eq 20, 3) := by decide +kernel
theorem d_S_fewestServers_35 : decode b_S_fewestServers 35 = .ok (.lload 8, 2) := by decide +kernel
theorem d_S_fewestServers_37 : decode b_S_fewestServers 37 = .ok (.invokestatic 108, 3) := by decide +kernel
theorem d_S_fewestServers_40 : decode b_S_fewestServers 40 = .ok (.lload 5, 2) := by decide +kernel
theorem d_S_fewestServers_42 : decode b_S_fewestServers 42 = .ok (.invokestatic 108, 3) := by decide +kernel
theorem d_S_fewestServers_45 : decode b_S_fewestServers 45 = .ok (.if_icmp .ge 7, 3) := by decide +kernel
theorem d_S_fewestServers_48 : decode b_S_fewestServers 48 = .ok (.lload 8, 2) := by decide +kernel
theorem d_S_fewestServers_50 : decode b_S_fewestServers 50 = .ok (.lstore 5, 2) := by decide +kernel
theorem d_S_fewestServers_52 : decode b_S_fewestServers 52 = .ok (.iinc 7 1, 3) := by decide +kernel
theorem d_S_fewestServers_55 : decode b_S_fewestServers 55 = .ok (.goto (-49), 3) := by decide +kernel
theorem d_S_fewestServers_58 : decode b_S_fewestServers 58 = .ok (.lload 5, 2) := by decide +kernel
theorem d_S_fewestServers_60 : decode b_S_fewestServers 60 = .ok (.lreturn, 1) := by decide +kernel
theorem d_J_bitCount_0 : decode b_J_bitCount 0 = .ok (.lload_n 0, 1) := by decide +kernel
theorem d_J_bitCount_1 : decode b_J_bitCount 1 = .ok (.lload_n 0, 1) := by decide +kernel
theorem d_J_bitCount_2 : decode b_J_bitCount 2 = .ok (.iconst 1, 1) := by decide +kernel
theorem d_J_bitCount_3 : decode b_J_bitCount 3 = .ok (.lushr, 1) := by decide +kernel
theorem d_J_bitCount_4 : decode b_J_bitCount 4 = .ok (.ldc2_w 314, 3) := by decide +kernel
theorem d_J_bitCount_7 : decode b_J_bitCount 7 = .ok (.land, 1) := by decide +kernel
theorem d_J_bitCount_8 : decode b_J_bitCount 8 = .ok (.lsub, 1) := by decide +kernel
theorem d_J_bitCount_9 : decode b_J_bitCount 9 = .ok (.lstore_n 0, 1) := by decide +kernel
theorem d_J_bitCount_10 : decode b_J_bitCount 10 = .ok (.lload_n 0, 1) := by decide +kernel
theorem d_J_bitCount_11 : decode b_J_bitCount 11 = .ok (.ldc2_w 316, 3) := by decide +kernel
theorem d_J_bitCount_14 : decode b_J_bitCount 14 = .ok (.land, 1) := by decide +kernel
theorem d_J_bitCount_15 : decode b_J_bitCount 15 = .ok (.lload_n 0, 1) := by decide +kernel
theorem d_J_bitCount_16 : decode b_J_bitCount 16 = .ok (.iconst 2, 1) := by decide +kernel
theorem d_J_bitCount_17 : decode b_J_bitCount 17 = .ok (.lushr, 1) := by decide +kernel
theorem d_J_bitCount_18 : decode b_J_bitCount 18 = .ok (.ldc2_w 316, 3) := by decide +kernel
theorem d_J_bitCount_21 : decode b_J_bitCount 21 = .ok (.land, 1) := by decide +kernel
theorem d_J_bitCount_22 : decode b_J_bitCount 22 = .ok (.ladd, 1) := by decide +kernel
theorem d_J_bitCount_23 : decode b_J_bitCount 23 = .ok (.lstore_n 0, 1) := by decide +kernel
theorem d_J_bitCount_24 : decode b_J_bitCount 24 = .ok (.lload_n 0, 1) := by decide +kernel
theorem d_J_bitCount_25 : decode b_J_bitCount 25 = .ok (.lload_n 0, 1) := by decide +kernel
theorem d_J_bitCount_26 : decode b_J_bitCount 26 = .ok (.iconst 4, 1) := by decide +kernel
theorem d_J_bitCount_27 : decode b_J_bitCount 27 = .ok (.lushr, 1) := by decide +kernel
theorem d_J_bitCount_28 : decode b_J_bitCount 28 = .ok (.ladd, 1) := by decide +kernel
theorem d_J_bitCount_29 : decode b_J_bitCount 29 = .ok (.ldc2_w 318, 3) := by decide +kernel
theorem d_J_bitCount_32 : decode b_J_bitCount 32 = .ok (.land, 1) := by decide +kernel
theorem d_J_bitCount_33 : decode b_J_bitCount 33 = .ok (.lstore_n 0, 1) := by decide +kernel
theorem d_J_bitCount_34 : decode b_J_bitCount 34 = .ok (.lload_n 0, 1) := by decide +kernel
theorem d_J_bitCount_35 : decode b_J_bitCount 35 = .ok (.lload_n 0, 1) := by decide +kernel
theorem d_J_bitCount_36 : decode b_J_bitCount 36 = .ok (.bipush 8, 2) := by decide +kernel
theorem d_J_bitCount_38 : decode b_J_bitCount 38 = .ok (.lushr, 1) := by decide +kernel
theorem d_J_bitCount_39 : decode b_J_bitCount 39 = .ok (.ladd, 1) := by decide +kernel
theorem d_J_bitCount_40 : decode b_J_bitCount 40 = .ok (.lstore_n 0, 1) := by decide +kernel
theorem d_J_bitCount_41 : decode b_J_bitCount 41 = .ok (.lload_n 0, 1) := by decide +kernel
theorem d_J_bitCount_42 : decode b_J_bitCount 42 = .ok (.lload_n 0, 1) := by decide +kernel
theorem d_J_bitCount_43 : decode b_J_bitCount 43 = .ok (.bipush 16, 2) := by decide +kernel
theorem d_J_bitCount_45 : decode b_J_bitCount 45 = .ok (.lushr, 1) := by decide +kernel
theorem d_J_bitCount_46 : decode b_J_bitCount 46 = .ok (.ladd, 1) := by decide +kernel
theorem d_J_bitCount_47 : decode b_J_bitCount 47 = .ok (.lstore_n 0, 1) := by decide +kernel
theorem d_J_bitCount_48 : decode b_J_bitCount 48 = .ok (.lload_n 0, 1) := by decide +kernel
theorem d_J_bitCount_49 : decode b_J_bitCount 49 = .ok (.lload_n 0, 1) := by decide +kernel
theorem d_J_bitCount_50 : decode b_J_bitCount 50 = .ok (.bipush 32, 2) := by decide +kernel
theorem d_J_bitCount_52 : decode b_J_bitCount 52 = .ok (.lushr, 1) := by decide +kernel
theorem d_J_bitCount_53 : decode b_J_bitCount 53 = .ok (.ladd, 1) := by decide +kernel
theorem d_J_bitCount_54 : decode b_J_bitCount 54 = .ok (.lstore_n 0, 1) := by decide +kernel
theorem d_J_bitCount_55 : decode b_J_bitCount 55 = .ok (.lload_n 0, 1) := by decide +kernel
theorem d_J_bitCount_56 : decode b_J_bitCount 56 = .ok (.l2i, 1) := by decide +kernel
theorem d_J_bitCount_57 : decode b_J_bitCount 57 = .ok (.bipush 127, 2) := by decide +kernel
theorem d_J_bitCount_59 : decode b_J_bitCount 59 = .ok (.iand, 1) := by decide +kernel
theorem d_J_bitCount_60 : decode b_J_bitCount 60 = .ok (.ireturn, 1) := by decide +kernel
