theorem d_Model_init_0 : decode b_Model_init 0 = .ok (.aload_n 0, 1) := by decide +kernel
theorem d_Model_init_1 : decode b_Model_init 1 = .ok (.invokespecial 1, 3) := by decide +kernel
theorem d_Model_init_4 : decode b_Model_init 4 = .ok (.aload_n 0, 1) := by decide +kernel
theorem d_Model_init_5 : decode b_Model_init 5 = .ok (.bipush 6, 2) := by decide +kernel
theorem d_Model_init_7 : decode b_Model_init 7 = .ok (.newarray .int, 2) := by decide +kernel
theorem d_Model_init_9 : decode b_Model_init 9 = .ok (.putfield 7, 3) := by decide +kernel
theorem d_Model_init_12 : decode b_Model_init 12 = .ok (.aload_n 0, 1) := by decide +kernel
theorem d_Model_init_13 : decode b_Model_init 13 = .ok (.bipush 9, 2) := by decide +kernel
theorem d_Model_init_15 : decode b_Model_init 15 = .ok (.newarray .int, 2) := by decide +kernel
theorem d_Model_init_17 : decode b_Model_init 17 = .ok (.putfield 13, 3) := by decide +kernel
theorem d_Model_init_20 : decode b_Model_init 20 = .ok (.aload_n 0, 1) := by decide +kernel
theorem d_Model_init_21 : decode b_Model_init 21 = .ok (.bipush 6, 2) := by decide +kernel
theorem d_Model_init_23 : decode b_Model_init 23 = .ok (.newarray .int, 2) := by decide +kernel
theorem d_Model_init_25 : decode b_Model_init 25 = .ok (.putfield 16, 3) := by decide +kernel
theorem d_Model_init_28 : decode b_Model_init 28 = .ok (.aload_n 0, 1) := by decide +kernel
theorem d_Model_init_29 : decode b_Model_init 29 = .ok (.bipush 6, 2) := by decide +kernel
theorem d_Model_init_31 : decode b_Model_init 31 = .ok (.newarray .int, 2) := by decide +kernel
theorem d_Model_init_33 : decode b_Model_init 33 = .ok (.putfield 19, 3) := by decide +kernel
theorem d_Model_init_36 : decode b_Model_init 36 = .ok (.aload_n 0, 1) := by decide +kernel
theorem d_Model_init_37 : decode b_Model_init 37 = .ok (.bipush 6, 2) := by decide +kernel
theorem d_Model_init_39 : decode b_Model_init 39 = .ok (.newarray .int, 2) := by decide +kernel
theorem d_Model_init_41 : decode b_Model_init 41 = .ok (.putfield 22, 3) := by decide +kernel
theorem d_Model_init_44 : decode b_Model_init 44 = .ok (.aload_n 0, 1) := by decide +kernel
theorem d_Model_init_45 : decode b_Model_init 45 = .ok (.bipush 70, 2) := by decide +kernel
theorem d_Model_init_47 : decode b_Model_init 47 = .ok (.newarray .int, 2) := by decide +kernel
theorem d_Model_init_49 : decode b_Model_init 49 = .ok (.putfield 25, 3) := by decide +kernel
theorem d_Model_init_52 : decode b_Model_init 52 = .ok (.aload_n 0, 1) := by decide +kernel
theorem d_Model_init_53 : decode b_Model_init 53 = .ok (.bipush 70, 2) := by decide +kernel
theorem d_Model_init_55 : decode b_Model_init 55 = .ok (.newarray .int, 2) := by decide +kernel
theorem d_Model_init_57 : decode b_Model_init 57 = .ok (.putfield 28, 3) := by decide +kernel
theorem d_Model_init_60 : decode b_Model_init 60 = .ok (.aload_n 0, 1) := by decide +kernel
theorem d_Model_init_61 : decode b_Model_init 61 = .ok (.bipush 70, 2) := by decide +kernel
theorem d_Model_init_63 : decode b_Model_init 63 = .ok (.newarray .long, 2) := by decide +kernel
theorem d_Model_init_65 : decode b_Model_init 65 = .ok (.putfield 31, 3) := by decide +kernel
theorem d_Model_init_68 : decode b_Model_init 68 = .ok (.aload_n 0, 1) := by decide +kernel
theorem d_Model_init_69 : decode b_Model_init 69 = .ok (.bipush 70, 2) := by decide +kernel
theorem d_Model_init_71 : decode b_Model_init 71 = .ok (.newarray .long, 2) := by decide +kernel
theorem d_Model_init_73 : decode b_Model_init 73 = .ok (.putfield 35, 3) := by decide +kernel
theorem d_Model_init_76 : decode b_Model_init 76 = .ok (.aload_n 0, 1) := by decide +kernel
theorem d_Model_init_77 : decode b_Model_init 77 = .ok (.bipush 60, 2) := by decide +kernel
theorem d_Model_init_79 : decode b_Model_init 79 = .ok (.newarray .int, 2) := by decide +kernel
theorem d_Model_init_81 : decode b_Model_init 81 = .ok (.putfield 38, 3) := by decide +kernel
theorem d_Model_init_84 : decode b_Model_init 84 = .ok (.aload_n 0, 1) := by decide +kernel
theorem d_Model_init_85 : decode b_Model_init 85 = .ok (.bipush 70, 2) := by decide +kernel
theorem d_Model_init_87 : decode b_Model_init 87 = .ok (.newarray .int, 2) := by decide +kernel
theorem d_Model_init_89 : decode b_Model_init 89 = .ok (.putfield 41, 3) := by decide +kernel
theorem d_Model_init_92 : decode b_Model_init 92 = .ok (.aload_n 0, 1) := by decide +kernel
theorem d_Model_init_93 : decode b_Model_init 93 = .ok (.iconst 4, 1) := by decide +kernel
theorem d_Model_init_94 : decode b_Model_init 94 = .ok (.newarray .int, 2) := by decide +kernel
theorem d_Model_init_96 : decode b_Model_init 96 = .ok (.putfield 44, 3) := by decide +kernel
theorem d_Model_init_99 : decode b_Model_init 99 = .ok (.aload_n 0, 1) := by decide +kernel
theorem d_Model_init_100 : decode b_Model_init 100 = .ok (.iconst 4, 1) := by decide +kernel
theorem d_Model_init_101 : decode b_Model_init 101 = .ok (.newarray .int, 2) := by decide +kernel
theorem d_Model_init_103 : decode b_Model_init 103 = .ok (.putfield 47, 3) := by decide +kernel
theorem d_Model_init_106 : decode b_Model_init 106 = .ok (.aload_n 0, 1) := by decide +kernel
theorem d_Model_init_107 : decode b_Model_init 107 = .ok (.bipush 120, 2) := by decide +kernel
theorem d_Model_init_109 : decode b_Model_init 109 = .ok (.newarray .int, 2) := by decide +kernel
theorem d_Model_init_111 : decode b_Model_init 111 = .ok (.putfield 50, 3) := by decide +kernel
theorem d_Model_init_114 : decode b_Model_init 114 = .ok (.aload_n 0, 1) := by decide +kernel
theorem d_Model_init_115 : decode b_Model_init 115 = .ok (.iconst 2, 1) := by decide +kernel
theorem d_Model_init_116 : decode b_Model_init 116 = .ok (.newarray .boolean, 2) := by decide +kernel
theorem d_Model_init_118 : decode b_Model_init 118 = .ok (.putfield 53, 3) := by decide +kernel
theorem d_Model_init_121 : decode b_Model_init 121 = .ok (.aload_n 0, 1) := by decide +kernel
theorem d_Model_init_122 : decode b_Model_init 122 = .ok (.bipush 7, 2) := by decide +kernel
theorem d_Model_init_124 : decode b_Model_init 124 = .ok (.iconst 3, 1) := by decide +kernel
theorem d_Model_init_125 : decode b_Model_init 125 = .ok (.iconst 3, 1) := by decide +kernel
theorem d_Model_init_126 : decode b_Model_init 126 = .ok (.iconst 2, 1) := by decide +kernel
theorem d_Model_init_127 : decode b_Model_init 127 = .ok (.invokevirtual 57, 3) := by decide +kernel
theorem d_Model_init_130 : decode b_Model_init 130 = .ok (.return_, 1) := by decide +kernel
theorem d_Model_begin_0 : decode b_Model_begin 0 = .ok (.aload_n 0, 1) := by decide +kernel
theorem d_Model_begin_1 : decode b_Model_begin 1 = .ok (.iload_n 1, 1) := by decide +kernel
theorem d_Model_begin_2 : decode b_Model_begin 2 = .ok (.putfield 61, 3) := by decide +kernel
theorem d_Model_begin_5 : decode b_Model_begin 5 = .ok (.aload_n 0, 1) := by decide +kernel
theorem d_Model_begin_6 : decode b_Model_begin 6 = .ok (.iload_n 2, 1) := by decide +kernel
theorem d_Model_begin_7 : decode b_Model_begin 7 = .ok (.putfield 65, 3) := by decide +kernel
theorem d_Model_begin_10 : decode b_Model_begin 10 = .ok (.aload_n 0, 1) := by decide +kernel
theorem d_Model_begin_11 : decode b_Model_begin 11 = .ok (.iload_n 3, 1) := by decide +kernel
theorem d_Model_begin_12 : decode b_Model_begin 12 = .ok (.putfield 68, 3) := by decide +kernel
theorem d_Model_begin_15 : decode b_Model_begin 15 = .ok (.aload_n 0, 1) := by decide +kernel
theorem d_Model_begin_16 : decode b_Model_begin 16 = .ok (.iload 4, 2) := by decide +kernel
theorem d_Model_begin_18 : decode b_Model_begin 18 = .ok (.putfield 71, 3) := by decide +kernel
theorem d_Model_begin_21 : decode b_Model_begin 21 = .ok (.aload_n 0, 1) := by decide +kernel
theorem d_Model_begin_22 : decode b_Model_begin 22 = .ok (.iconst 0, 1) := by decide +kernel
theorem d_Model_begin_23 : decode b_Model_begin 23 = .ok (.putfield 74, 3) := by decide +kernel
theorem d_Model_begin_26 : decode b_Model_begin 26 = .ok (.aload_n 0, 1) := by decide +kernel
theorem d_Model_begin_27 : decode b_Model_begin 27 = .ok (.iconst 0, 1) := by decide +kernel
theorem d_Model_begin_28 : decode b_Model_begin 28 = .ok (.putfield 77, 3) := by decide +kernel
theorem d_Model_begin_31 : decode b_Model_begin 31 = .ok (.aload_n 0, 1) := by decide +kernel
theorem d_Model_begin_32 : decode b_Model_begin 32 = .ok (.iconst 0, 1) := by decide +kernel
theorem d_Model_begin_33 : decode b_Model_begin 33 = .ok (.putfield 80, 3) := by decide +kernel
theorem d_Model_begin_36 : decode b_Model_begin 36 = .ok (.aload_n 0, 1) := by decide +kernel
theorem d_Model_begin_37 : decode b_Model_begin 37 = .ok (.invokevirtual 83, 3) := by decide +kernel
theorem d_Model_begin_40 : decode b_Model_begin 40 = .ok (.return_, 1) := by decide +kernel
theorem d_Model_findAll_0 : decode b_Model_findAll 0 = .ok (.aload_n 0, 1) := by decide +kernel
theorem d_Model_findAll_1 : decode b_Model_findAll 1 = .ok (.iconst 0, 1) := by decide +kernel
theorem d_Model_findAll_2 : decode b_Model_findAll 2 = .ok (.putfield 86, 3) := by decide +kernel
theorem d_Model_findAll_5 : decode b_Model_findAll 5 = .ok (.aload_n 0, 1) := by decide +kernel
theorem d_Model_findAll_6 : decode b_Model_findAll 6 = .ok (.iconst 0, 1) := by decide +kernel
theorem d_Model_findAll_7 : decode b_Model_findAll 7 = .ok (.putfield 89, 3) := by decide +kernel
theorem d_Model_findAll_10 : decode b_Model_findAll 10 = .ok (.iconst 0, 1) := by decide +kernel
theorem d_Model_findAll_11 : decode b_Model_findAll 11 = .ok (.istore_n 1, 1) := by decide +kernel
theorem d_Model_findAll_12 : decode b_Model_findAll 12 = .ok (.iload_n 1, 1) := by decide +kernel
theorem d_Model_findAll_13 : decode b_Model_findAll 13 = .ok (.iconst 1, 1) := by decide +kernel
theorem d_Model_findAll_14 : decode b_Model_findAll 14 = .ok (.aload_n 0, 1) := by decide +kernel
theorem d_Model_findAll_15 : decode b_Model_findAll 15 = .ok (.getfield 61, 3) := by decide +kernel
theorem d_Model_findAll_18 : decode b_Model_findAll 18 = .ok (.ishl, 1) := by decide +kernel
theorem d_Model_findAll_19 : decode b_Model_findAll 19 = .ok (.if_icmp .ge 73, 3) := by decide +kernel
theorem d_Model_findAll_22 : decode b_Model_findAll 22 = .ok (.iload_n 1, 1) := by decide +kernel
theorem d_Model_findAll_23 : decode b_Model_findAll 23 = .ok (.i2l, 1) := by decide +kernel
theorem d_Model_findAll_24 : decode b_Model_findAll 24 = .ok (.invokestatic 92, 3) := by decide +kernel
theorem d_Model_findAll_27 : decode b_Model_findAll 27 = .ok (.aload_n 0, 1) := by decide +kernel
theorem d_Model_findAll_28 : decode b_Model_findAll 28 = .ok (.getfield 68, 3) := by decide +kernel
theorem d_Model_findAll_31 : decode b_Model_findAll 31 = .ok (.if_icmp .ne 23, 3) := by decide +kernel
theorem d_Model_findAll_34 : decode b_Model_findAll 34 = .ok (.aload_n 0, 1) := by decide +kernel
theorem d_Model_findAll_35 : decode b_Model_findAll 35 = .ok (.getfield 25, 3) := by decide +kernel
theorem d_Model_findAll_38 : decode b_Model_findAll 38 = .ok (.aload_n 0, 1) := by decide +kernel
theorem d_Model_findAll_39 : decode b_Model_findAll 39 = .ok (.getfield 86, 3) := by decide +kernel
theorem d_Model_findAll_42 : decode b_Model_findAll 42 = .ok (.iload_n 1, 1) := by decide +kernel
theorem d_Model_findAll_43 : decode b_Model_findAll 43 = .ok (.iastore, 1) := by decide +kernel
theorem d_Model_findAll_44 : decode b_Model_findAll 44 = .ok (.aload_n 0, 1) := by decide +kernel
theorem d_Model_findAll_45 : decode b_Model_findAll 45 = .ok (.dup, 1) := by decide +kernel
theorem d_Model_findAll_46 : decode b_Model_findAll 46 = .ok (.getfield 86, 3) := by decide +kernel
theorem d_Model_findAll_49 : decode b_Model_findAll 49 = .ok (.iconst 1, 1) := by decide +kernel
theorem d_Model_findAll_50 : decode b_Model_findAll 50 = .ok (.iadd, 1) := by decide +kernel
theorem d_Model_findAll_51 : decode b_Model_findAll 51 = .ok (.putfield 86, 3) := by decide +kernel
theorem d_Model_findAll_54 : decode b_Model_findAll 54 = .ok (.iload_n 1, 1) := by decide +kernel
theorem d_Model_findAll_55 : decode b_Model_findAll 55 = .ok (.i2l, 1) := by decide +kernel
theorem d_Model_findAll_56 : decode b_Model_findAll 56 = .ok (.invokestatic 92, 3) := by decide +kernel
theorem d_Model_findAll_59 : decode b_Model_findAll 59 = .ok (.aload_n 0, 1) := by decide +kernel
theorem d_Model_findAll_60 : decode b_Model_findAll 60 = .ok (.getfield 65, 3) := by decide +kernel
theorem d_Model_findAll_63 : decode b_Model_findAll 63 = .ok (.if_icmp .ne 23, 3) := by decide +kernel
theorem d_Model_findAll_66 : decode b_Model_findAll 66 = .ok (.aload_n 0, 1) := by decide +kernel
theorem d_Model_findAll_67 : decode b_Model_findAll 67 = .ok (.getfield 28, 3) := by decide +kernel
theorem d_Model_findAll_70 : decode b_Model_findAll 70 = .ok (.aload_n 0, 1) := by decide +kernel
theorem d_Model_findAll_71 : decode b_Model_findAll 71 = .ok (.getfield 89, 3) := by decide +kernel
theorem d_Model_findAll_74 : decode b_Model_findAll 74 = .ok (.iload_n 1, 1) := by decide +kernel
theorem d_Model_findAll_75 : decode b_Model_findAll 75 = .ok (.iastore, 1) := by decide +kernel
theorem d_Model_findAll_76 : decode b_Model_findAll 76 = .ok (.aload_n 0, 1) := by decide +kernel
theorem d_Model_findAll_77 : decode b_Model_findAll 77 = .ok (.dup, 1) := by decide +kernel
theorem d_Model_findAll_78 : decode b_Model_findAll 78 = .ok (.getfield 89, 3) := by decide +kernel
theorem d_Model_findAll_81 : decode b_Model_findAll 81 = .ok (.iconst 1, 1) := by decide +kernel
theorem d_Model_findAll_82 : decode b_Model_findAll 82 = .ok (.iadd, 1) := by decide +kernel
theorem d_Model_findAll_83 : decode b_Model_findAll 83 = .ok (.putfield 89, 3) := by decide +kernel
theorem d_Model_findAll_86 : decode b_Model_findAll 86 = .ok (.iinc 1 1, 3) := by decide +kernel
theorem d_Model_findAll_89 : decode b_Model_findAll 89 = .ok (.goto (-77), 3) := by decide +kernel
theorem d_Model_findAll_92 : decode b_Model_findAll 92 = .ok (.iconst 0, 1) := by decide +kernel
theorem d_Model_findAll_93 : decode b_Model_findAll 93 = .ok (.istore_n 1, 1) := by decide +kernel
theorem d_Model_findAll_94 : decode b_Model_findAll 94 = .ok (.iload_n 1, 1) := by decide +kernel
theorem d_Model_findAll_95 : decode b_Model_findAll 95 = .ok (.aload_n 0, 1) := by decide +kernel
theorem d_Model_findAll_96 : decode b_Model_findAll 96 = .ok (.getfield 89, 3) := by decide +kernel
theorem d_Model_findAll_99 : decode b_Model_findAll 99 = .ok (.if_icmp .ge 41, 3) := by decide +kernel
theorem d_Model_findAll_102 : decode b_Model_findAll 102 = .ok (.aload_n 0, 1) := by decide +kernel
theorem d_Model_findAll_103 : decode b_Model_findAll 103 = .ok (.getfield 31, 3) := by decide +kernel
theorem d_Model_findAll_106 : decode b_Model_findAll 106 = .ok (.iload_n 1, 1) := by decide +kernel
theorem d_Model_findAll_107 : decode b_Model_findAll 107 = .ok (.aload_n 0, 1) := by decide +kernel
theorem d_Model_findAll_108 : decode b_Model_findAll 108 = .ok (.aload_n 0, 1) := by decide +kernel
theorem d_Model_findAll_109 : decode b_Model_findAll 109 = .ok (.getfield 28, 3) := by decide +kernel
theorem d_Model_findAll_112 : decode b_Model_findAll 112 = .ok (.iload_n 1, 1) := by decide +kernel
theorem d_Model_findAll_113 : decode b_Model_findAll 113 = .ok (.iaload, 1) := by decide +kernel
theorem d_Model_findAll_114 : decode b_Model_findAll 114 = .ok (.invokevirtual 96, 3) := by decide +kernel
theorem d_Model_findAll_117 : decode b_Model_findAll 117 = .ok (.lastore, 1) := by decide +kernel
theorem d_Model_findAll_118 : decode b_Model_findAll 118 = .ok (.aload_n 0, 1) := by decide +kernel
theorem d_Model_findAll_119 : decode b_Model_findAll 119 = .ok (.getfield 35, 3) := by decide +kernel
theorem d_Model_findAll_122 : decode b_Model_findAll 122 = .ok (.iload_n 1, 1) := by decide +kernel
theorem d_Model_findAll_123 : decode b_Model_findAll 123 = .ok (.aload_n 0, 1) := by decide +kernel
theorem d_Model_findAll_124 : decode b_Model_findAll 124 = .ok (.aload_n 0, 1) := by decide +kernel
theorem d_Model_findAll_125 : decode b_Model_findAll 125 = .ok (.getfield 28, 3) := by decide +kernel
theorem d_Model_findAll_128 : decode b_Model_findAll 128 = .ok (.iload_n 1, 1) := by decide +kernel
theorem d_Model_findAll_129 : decode b_Model_findAll 129 = .ok (.iaload, 1) := by decide +kernel
theorem d_Model_findAll_130 : decode b_Model_findAll 130 = .ok (.invokevirtual 100, 3) := by decide +kernel
theorem d_Model_findAll_133 : decode b_Model_findAll 133 = .ok (.lastore, 1) := by decide +kernel
theorem d_Model_findAll_134 : decode b_Model_findAll 134 = .ok (.iinc 1 1, 3) := by decide +kernel
theorem d_Model_findAll_137 : decode b_Model_findAll 137 = .ok (.goto (-43), 3) := by decide +kernel
theorem d_Model_findAll_140 : decode b_Model_findAll 140 = .ok (.return_, 1) := by decide +kernel
theorem d_Model_ones_0 : decode b_Model_ones 0 = .ok (.iconst 0, 1) := by decide +kernel
theorem d_Model_ones_1 : decode b_Model_ones 1 = .ok (.istore_n 2, 1) := by decide +kernel
theorem d_Model_ones_2 : decode b_Model_ones 2 = .ok (.lload_n 0, 1) := by decide +kernel
theorem d_Model_ones_3 : decode b_Model_ones 3 = .ok (.lstore_n 3, 1) := by decide +kernel
theorem d_Model_ones_4 : decode b_Model_ones 4 = .ok (.lload_n 3, 1) := by decide +kernel
theorem d_Model_ones_5 : decode b_Model_ones 5 = .ok (.lconst 0, 1) := by decide +kernel
theorem d_Model_ones_6 : decode b_Model_ones 6 = .ok (.lcmp, 1) := by decide +kernel
theorem d_Model_ones_7 : decode b_Model_ones 7 = .ok (.ifCond .eq 15, 3) := by decide +kernel
theorem d_Model_ones_10 : decode b_Model_ones 10 = .ok (.iinc 2 1, 3) := by decide +kernel
theorem d_Model_ones_13 : decode b_Model_ones 13 = .ok (.lload_n 3, 1) := by decide +kernel
theorem d_Model_ones_14 : decode b_Model_ones 14 = .ok (.lload_n 3, 1) := by decide +kernel
theorem d_Model_ones_15 : decode b_Model_ones 15 = .ok (.lconst 1, 1) := by decide +kernel
theorem d_Model_ones_16 : decode b_Model_ones 16 = .ok (.lsub, 1) := by decide +kernel
theorem d_Model_ones_17 : decode b_Model_ones 17 = .ok (.land, 1) := by decide +kernel
theorem d_Model_ones_18 : decode b_Model_ones 18 = .ok (.lstore_n 3, 1) := by decide +kernel
theorem d_Model_ones_19 : decode b_Model_ones 19 = .ok (.goto (-15), 3) := by decide +kernel
theorem d_Model_ones_22 : decode b_Model_ones 22 = .ok (.iload_n 2, 1) := by decide +kernel
theorem d_Model_ones_23 : decode b_Model_ones 23 = .ok (.ireturn, 1) := by decide +kernel
theorem d_Model_lowOf_0 : decode b_Model_lowOf 0 = .ok (.lconst 0, 1) := by decide +kernel
theorem d_Model_lowOf_1 : decode b_Model_lowOf 1 = .ok (.lstore_n 2, 1) := by decide +kernel
theorem d_Model_lowOf_2 : decode b_Model_lowOf 2 = .ok (.iconst 0, 1) := by decide +kernel
theorem d_Model_lowOf_3 : decode b_Model_lowOf 3 = .ok (.istore 4, 2) := by decide +kernel
theorem d_Model_lowOf_5 : decode b_Model_lowOf 5 = .ok (.iload 4, 2) := by decide +kernel
theorem d_Model_lowOf_7 : decode b_Model_lowOf 7 = .ok (.aload_n 0, 1) := by decide +kernel
theorem d_Model_lowOf_8 : decode b_Model_lowOf 8 = .ok (.getfield 86, 3) := by decide +kernel
theorem d_Model_lowOf_11 : decode b_Model_lowOf 11 = .ok (.if_icmp .ge 42, 3) := by decide +kernel
theorem d_Model_lowOf_14 : decode b_Model_lowOf 14 = .ok (.iload 4, 2) := by decide +kernel
theorem d_Model_lowOf_16 : decode b_Model_lowOf 16 = .ok (.bipush 64, 2) := by decide +kernel
theorem d_Model_lowOf_18 : decode b_Model_lowOf 18 = .ok (.if_icmp .ge 35, 3) := by decide +kernel
theorem d_Model_lowOf_21 : decode b_Model_lowOf 21 = .ok (.lload_n 2, 1) := by decide +kernel
theorem d_Model_lowOf_22 : decode b_Model_lowOf 22 = .ok (.aload_n 0, 1) := by decide +kernel
theorem d_Model_lowOf_23 : decode b_Model_lowOf 23 = .ok (.iload_n 1, 1) := by decide +kernel
theorem d_Model_lowOf_24 : decode b_Model_lowOf 24 = .ok (.aload_n 0, 1) := by decide +kernel
theorem d_Model_lowOf_25 : decode b_Model_lowOf 25 = .ok (.getfield 25, 3) := by decide +kernel
theorem d_Model_lowOf_28 : decode b_Model_lowOf 28 = .ok (.iload 4, 2) := by decide +kernel
theorem d_Model_lowOf_30 : decode b_Model_lowOf 30 = .ok (.iaload, 1) := by decide +kernel
theorem d_Model_lowOf_31 : decode b_Model_lowOf 31 = .ok (.invokevirtual 103, 3) := by decide +kernel
theorem d_Model_lowOf_34 : decode b_Model_lowOf 34 = .ok (.ifCond .eq 10, 3) := by decide +kernel
theorem d_Model_lowOf_37 : decode b_Model_lowOf 37 = .ok (.lconst 1, 1) := by decide +kernel
theorem d_Model_lowOf_38 : decode b_Model_lowOf 38 = .ok (.iload 4, 2) := by decide +kernel
theorem d_Model_lowOf_40 : decode b_Model_lowOf 40 = .ok (.lshl, 1) := by decide +kernel
theorem d_Model_lowOf_41 : decode b_Model_lowOf 41 = .ok (.goto 4, 3) := by decide +kernel
theorem d_Model_lowOf_44 : decode b_Model_lowOf 44 = .ok (.lconst 0, 1) := by decide +kernel
theorem d_Model_lowOf_45 : decode b_Model_lowOf 45 = .ok (.lor, 1) := by decide +kernel
theorem d_Model_lowOf_46 : decode b_Model_lowOf 46 = .ok (.lstore_n 2, 1) := by decide +kernel
theorem d_Model_lowOf_47 : decode b_Model_lowOf 47 = .ok (.iinc 4 1, 3) := by decide +kernel
theorem d_Model_lowOf_50 : decode b_Model_lowOf 50 = .ok (.goto (-45), 3) := by decide +kernel
theorem d_Model_lowOf_53 : decode b_Model_lowOf 53 = .ok (.lload_n 2, 1) := by decide +kernel
theorem d_Model_lowOf_54 : decode b_Model_lowOf 54 = .ok (.lreturn, 1) := by decide +kernel
theorem d_Model_wins_0 : decode b_Model_wins 0 = .ok (.iload_n 1, 1) := by decide +kernel
theorem d_Model_wins_1 : decode b_Model_wins 1 = .ok (.iload_n 2, 1) := by decide +kernel
theorem d_Model_wins_2 : decode b_Model_wins 2 = .ok (.iand, 1) := by decide +kernel
theorem d_Model_wins_3 : decode b_Model_wins 3 = .ok (.i2l, 1) := by decide +kernel
theorem d_Model_wins_4 : decode b_Model_wins 4 = .ok (.invokestatic 92, 3) := by decide +kernel
theorem d_Model_wins_7 : decode b_Model_wins 7 = .ok (.aload_n 0, 1) := by decide +kernel
theorem d_Model_wins_8 : decode b_Model_wins 8 = .ok (.getfield 71, 3) := by decide +kernel
theorem d_Model_wins_11 : decode b_Model_wins 11 = .ok (.if_icmp .lt 7, 3) := by decide +kernel
theorem d_Model_wins_14 : decode b_Model_wins 14 = .ok (.iconst 1, 1) := by decide +kernel
theorem d_Model_wins_15 : decode b_Model_wins 15 = .ok (.goto 4, 3) := by decide +kernel
theorem d_Model_wins_18 : decode b_Model_wins 18 = .ok (.iconst 0, 1) := by decide +kernel
theorem d_Model_wins_19 : decode b_Model_wins 19 = .ok (.ireturn, 1) := by decide +kernel
theorem d_Model_highOf_0 : decode b_Model_highOf 0 = .ok (.lconst 0, 1) := by decide +kernel
theorem d_Model_highOf_1 : decode b_Model_highOf 1 = .ok (.lstore_n 2, 1) := by decide +kernel
theorem d_Model_highOf_2 : decode b_Model_highOf 2 = .ok (.bipush 64, 2) := by decide +kernel
theorem d_Model_highOf_4 : decode b_Model_highOf 4 = .ok (.istore 4, 2) := by decide +kernel
theorem d_Model_highOf_6 : decode b_Model_highOf 6 = .ok (.iload 4, 2) := by decide +kernel
theorem d_Model_highOf_8 : decode b_Model_highOf 8 = .ok (.aload_n 0, 1) := by decide +kernel
theorem d_Model_highOf_9 : decode b_Model_highOf 9 = .ok (.getfield 86, 3) := by decide +kernel
theorem d_Model_highOf_12 : decode b_Model_highOf 12 = .ok (.if_icmp .ge 38, 3) := by decide +kernel
theorem d_Model_highOf_15 : decode b_Model_highOf 15 = .ok (.lload_n 2, 1) := by decide +kernel
theorem d_Model_highOf_16 : decode b_Model_highOf 16 = .ok (.aload_n 0, 1) := by decide +kernel
theorem d_Model_highOf_17 : decode b_Model_highOf 17 = .ok (.iload_n 1, 1) := by decide +kernel
theorem d_Model_highOf_18 : decode b_Model_highOf 18 = .ok (.aload_n 0, 1) := by decide +kernel
theorem d_Model_highOf_19 : decode b_Model_highOf 19 = .ok (.getfield 25, 3) := by decide +kernel
theorem d_Model_highOf_22 : decode b_Model_highOf 22 = .ok (.iload 4, 2) := by decide +kernel
theorem d_Model_highOf_24 : decode b_Model_highOf 24 = .ok (.iaload, 1) := by decide +kernel
theorem d_Model_highOf_25 : decode b_Model_highOf 25 = .ok (.invokevirtual 103, 3) := by decide +kernel
theorem d_Model_highOf_28 : decode b_Model_highOf 28 = .ok (.ifCond .eq 13, 3) := by decide +kernel
theorem d_Model_highOf_31 : decode b_Model_highOf 31 = .ok (.lconst 1, 1) := by decide +kernel
theorem d_Model_highOf_32 : decode b_Model_highOf 32 = .ok (.iload 4, 2) := by decide +kernel
theorem d_Model_highOf_34 : decode b_Model_highOf 34 = .ok (.bipush 64, 2) := by decide +kernel
theorem d_Model_highOf_36 : decode b_Model_highOf 36 = .ok (.isub, 1) := by decide +kernel
theorem d_Model_highOf_37 : decode b_Model_highOf 37 = .ok (.lshl, 1) := by decide +kernel
theorem d_Model_highOf_38 : decode b_Model_highOf 38 = .ok (.goto 4, 3) := by decide +kernel
theorem d_Model_highOf_41 : decode b_Model_highOf 41 = .ok (.lconst 0, 1) := by decide +kernel
theorem d_Model_highOf_42 : decode b_Model_highOf 42 = .ok (.lor, 1) := by decide +kernel
theorem d_Model_highOf_43 : decode b_Model_highOf 43 = .ok (.lstore_n 2, 1) := by decide +kernel
theorem d_Model_highOf_44 : decode b_Model_highOf 44 = .ok (.iinc 4 1, 3) := by decide +kernel
theorem d_Model_highOf_47 : decode b_Model_highOf 47 = .ok (.goto (-41), 3) := by decide +kernel
theorem d_Model_highOf_50 : decode b_Model_highOf 50 = .ok (.lload_n 2, 1) := by decide +kernel
theorem d_Model_highOf_51 : decode b_Model_highOf 51 = .ok (.lreturn, 1) := by decide +kernel
theorem d_Model_game_0 : decode b_Model_game 0 = .ok (.iload_n 1, 1) := by decide +kernel
theorem d_Model_game_1 : decode b_Model_game 1 = .ok (.i2l, 1) := by decide +kernel
theorem d_Model_game_2 : decode b_Model_game 2 = .ok (.ldc2_w 107, 3) := by decide +kernel
theorem d_Model_game_5 : decode b_Model_game 5 = .ok (.ldc2_w 109, 3) := by decide +kernel
theorem d_Model_game_8 : decode b_Model_game 8 = .ok (.invokestatic 111, 3) := by decide +kernel
theorem d_Model_game_11 : decode b_Model_game 11 = .ok (.ifCond .eq 59, 3) := by decide +kernel
theorem d_Model_game_14 : decode b_Model_game 14 = .ok (.iload_n 2, 1) := by decide +kernel
theorem d_Model_game_15 : decode b_Model_game 15 = .ok (.i2l, 1) := by decide +kernel
theorem d_Model_game_16 : decode b_Model_game 16 = .ok (.ldc2_w 115, 3) := by decide +kernel
theorem d_Model_game_19 : decode b_Model_game 19 = .ok (.iload_n 1, 1) := by decide +kernel
theorem d_Model_game_20 : decode b_Model_game 20 = .ok (.iconst 1, 1) := by decide +kernel
theorem d_Model_game_21 : decode b_Model_game 21 = .ok (.isub, 1) := by decide +kernel
theorem d_Model_game_22 : decode b_Model_game 22 = .ok (.i2l, 1) := by decide +kernel
theorem d_Model_game_23 : decode b_Model_game 23 = .ok (.invokestatic 111, 3) := by decide +kernel
theorem d_Model_game_26 : decode b_Model_game 26 = .ok (.ifCond .eq 44, 3) := by decide +kernel
theorem d_Model_game_29 : decode b_Model_game 29 = .ok (.iload_n 3, 1) := by decide +kernel
theorem d_Model_game_30 : decode b_Model_game 30 = .ok (.i2l, 1) := by decide +kernel
theorem d_Model_game_31 : decode b_Model_game 31 = .ok (.ldc2_w 115, 3) := by decide +kernel
theorem d_Model_game_34 : decode b_Model_game 34 = .ok (.iload_n 1, 1) := by decide +kernel
theorem d_Model_game_35 : decode b_Model_game 35 = .ok (.iconst 1, 1) := by decide +kernel
theorem d_Model_game_36 : decode b_Model_game 36 = .ok (.isub, 1) := by decide +kernel
theorem d_Model_game_37 : decode b_Model_game 37 = .ok (.i2l, 1) := by decide +kernel
theorem d_Model_game_38 : decode b_Model_game 38 = .ok (.invokestatic 111, 3) := by decide +kernel
theorem d_Model_game_41 : decode b_Model_game 41 = .ok (.ifCond .eq 29, 3) := by decide +kernel
theorem d_Model_game_44 : decode b_Model_game 44 = .ok (.iload 4, 2) := by decide +kernel
theorem d_Model_game_46 : decode b_Model_game 46 = .ok (.i2l, 1) := by decide +kernel
theorem d_Model_game_47 : decode b_Model_game 47 = .ok (.lconst 1, 1) := by decide +kernel
theorem d_Model_game_48 : decode b_Model_game 48 = .ok (.iload_n 2, 1) := by decide +kernel
theorem d_Model_game_49 : decode b_Model_game 49 = .ok (.iload_n 3, 1) := by decide +kernel
theorem d_Model_game_50 : decode b_Model_game 50 = .ok (.if_icmp .ge 8, 3) := by decide +kernel
theorem d_Model_game_53 : decode b_Model_game 53 = .ok (.iload_n 2, 1) := by decide +kernel
theorem d_Model_game_54 : decode b_Model_game 54 = .ok (.i2l, 1) := by decide +kernel
theorem d_Model_game_55 : decode b_Model_game 55 = .ok (.goto 5, 3) := by decide +kernel
theorem d_Model_game_58 : decode b_Model_game 58 = .ok (.iload_n 3, 1) := by decide +kernel
theorem d_Model_game_59 : decode b_Model_game 59 = .ok (.i2l, 1) := by decide +kernel
theorem d_Model_game_60 : decode b_Model_game 60 = .ok (.invokestatic 111, 3) := by decide +kernel
theorem d_Model_game_63 : decode b_Model_game 63 = .ok (.ifCond .eq 7, 3) := by decide +kernel
theorem d_Model_game_66 : decode b_Model_game 66 = .ok (.iconst 1, 1) := by decide +kernel
theorem d_Model_game_67 : decode b_Model_game 67 = .ok (.goto 4, 3) := by decide +kernel
theorem d_Model_game_70 : decode b_Model_game 70 = .ok (.iconst 0, 1) := by decide +kernel
theorem d_Model_game_71 : decode b_Model_game 71 = .ok (.istore 5, 2) := by decide +kernel
theorem d_Model_game_73 : decode b_Model_game 73 = .ok (.iload 5, 2) := by decide +kernel
theorem d_Model_game_75 : decode b_Model_game 75 = .ok (.ifCond .ne 6, 3) := by decide +kernel
theorem d_Model_game_78 : decode b_Model_game 78 = .ok (.bipush (-2), 2) := by decide +kernel
theorem d_Model_game_80 : decode b_Model_game 80 = .ok (.ireturn, 1) := by decide +kernel
theorem d_Model_game_81 : decode b_Model_game 81 = .ok (.aload_n 0, 1) := by decide +kernel
theorem d_Model_game_82 : decode b_Model_game 82 = .ok (.iload_n 1, 1) := by decide +kernel
theorem d_Model_game_83 : decode b_Model_game 83 = .ok (.iload_n 2, 1) := by decide +kernel
theorem d_Model_game_84 : decode b_Model_game 84 = .ok (.iload_n 3, 1) := by decide +kernel
theorem d_Model_game_85 : decode b_Model_game 85 = .ok (.iload 4, 2) := by decide +kernel
theorem d_Model_game_87 : decode b_Model_game 87 = .ok (.invokevirtual 57, 3) := by decide +kernel
theorem d_Model_game_90 : decode b_Model_game 90 = .ok (.aload_n 0, 1) := by decide +kernel
theorem d_Model_game_91 : decode b_Model_game 91 = .ok (.getfield 86, 3) := by decide +kernel
theorem d_Model_game_94 : decode b_Model_game 94 = .ok (.ireturn, 1) := by decide +kernel
theorem d_Model_in_0 : decode b_Model_in 0 = .ok (.lload_n 0, 1) := by decide +kernel
theorem d_Model_in_1 : decode b_Model_in 1 = .ok (.lload_n 2, 1) := by decide +kernel
theorem d_Model_in_2 : decode b_Model_in 2 = .ok (.lcmp, 1) := by decide +kernel
theorem d_Model_in_3 : decode b_Model_in 3 = .ok (.ifCond .lt 14, 3) := by decide +kernel
theorem d_Model_in_6 : decode b_Model_in 6 = .ok (.lload_n 0, 1) := by decide +kernel
theorem d_Model_in_7 : decode b_Model_in 7 = .ok (.lload 4, 2) := by decide +kernel
theorem d_Model_in_9 : decode b_Model_in 9 = .ok (.lcmp, 1) := by decide +kernel
theorem d_Model_in_10 : decode b_Model_in 10 = .ok (.ifCond .gt 7, 3) := by decide +kernel
theorem d_Model_in_13 : decode b_Model_in 13 = .ok (.iconst 1, 1) := by decide +kernel
theorem d_Model_in_14 : decode b_Model_in 14 = .ok (.goto 4, 3) := by decide +kernel
theorem d_Model_in_17 : decode b_Model_in 17 = .ok (.iconst 0, 1) := by decide +kernel
theorem d_Model_in_18 : decode b_Model_in 18 = .ok (.ireturn, 1) := by decide +kernel
theorem d_Model_say_0 : decode b_Model_say 0 = .ok (.iload_n 1, 1) := by decide +kernel
theorem d_Model_say_1 : decode b_Model_say 1 = .ok (.i2l, 1) := by decide +kernel
theorem d_Model_say_2 : decode b_Model_say 2 = .ok (.ldc2_w 117, 3) := by decide +kernel
theorem d_Model_say_5 : decode b_Model_say 5 = .ok (.ldc2_w 119, 3) := by decide +kernel
theorem d_Model_say_8 : decode b_Model_say 8 = .ok (.invokestatic 111, 3) := by decide +kernel
theorem d_Model_say_11 : decode b_Model_say 11 = .ok (.ifCond .ne 6, 3) := by decide +kernel
theorem d_Model_say_14 : decode b_Model_say 14 = .ok (.bipush (-2), 2) := by decide +kernel
theorem d_Model_say_16 : decode b_Model_say 16 = .ok (.ireturn, 1) := by decide +kernel
theorem d_Model_say_17 : decode b_Model_say 17 = .ok (.aload_n 0, 1) := by decide +kernel
theorem d_Model_say_18 : decode b_Model_say 18 = .ok (.getfield 121, 3) := by decide +kernel
theorem d_Model_say_21 : decode b_Model_say 21 = .ok (.bipush 60, 2) := by decide +kernel
theorem d_Model_say_23 : decode b_Model_say 23 = .ok (.if_icmp .ne 6, 3) := by decide +kernel
theorem d_Model_say_26 : decode b_Model_say 26 = .ok (.bipush (-4), 2) := by decide +kernel
theorem d_Model_say_28 : decode b_Model_say 28 = .ok (.ireturn, 1) := by decide +kernel
theorem d_Model_say_29 : decode b_Model_say 29 = .ok (.aload_n 0, 1) := by decide +kernel
theorem d_Model_say_30 : decode b_Model_say 30 = .ok (.getfield 38, 3) := by decide +kernel
theorem d_Model_say_33 : decode b_Model_say 33 = .ok (.aload_n 0, 1) := by decide +kernel
theorem d_Model_say_34 : decode b_Model_say 34 = .ok (.getfield 121, 3) := by decide +kernel
theorem d_Model_say_37 : decode b_Model_say 37 = .ok (.iload_n 1, 1) := by decide +kernel
theorem d_Model_say_38 : decode b_Model_say 38 = .ok (.iastore, 1) := by decide +kernel
theorem d_Model_say_39 : decode b_Model_say 39 = .ok (.aload_n 0, 1) := by decide +kernel
theorem d_Model_say_40 : decode b_Model_say 40 = .ok (.dup, 1) := by decide +kernel
theorem d_Model_say_41 : decode b_Model_say 41 = .ok (.getfield 121, 3) := by decide +kernel
theorem d_Model_say_44 : decode b_Model_say 44 = .ok (.iconst 1, 1) := by decide +kernel
theorem d_Model_say_45 : decode b_Model_say 45 = .ok (.iadd, 1) := by decide +kernel
theorem d_Model_say_46 : decode b_Model_say 46 = .ok (.putfield 121, 3) := by decide +kernel
theorem d_Model_say_49 : decode b_Model_say 49 = .ok (.aload_n 0, 1) := by decide +kernel
theorem d_Model_say_50 : decode b_Model_say 50 = .ok (.getfield 121, 3) := by decide +kernel
theorem d_Model_say_53 : decode b_Model_say 53 = .ok (.ireturn, 1) := by decide +kernel
theorem d_Model_wipe_0 : decode b_Model_wipe 0 = .ok (.aload_n 0, 1) := by decide +kernel
theorem d_Model_wipe_1 : decode b_Model_wipe 1 = .ok (.getfield 121, 3) := by decide +kernel
theorem d_Model_wipe_4 : decode b_Model_wipe 4 = .ok (.istore_n 1, 1) := by decide +kernel
theorem d_Model_wipe_5 : decode b_Model_wipe 5 = .ok (.aload_n 0, 1) := by decide +kernel
theorem d_Model_wipe_6 : decode b_Model_wipe 6 = .ok (.iconst 0, 1) := by decide +kernel
theorem d_Model_wipe_7 : decode b_Model_wipe 7 = .ok (.putfield 121, 3) := by decide +kernel
theorem d_Model_wipe_10 : decode b_Model_wipe 10 = .ok (.iload_n 1, 1) := by decide +kernel
theorem d_Model_wipe_11 : decode b_Model_wipe 11 = .ok (.ireturn, 1) := by decide +kernel
theorem d_Model_fault_0 : decode b_Model_fault 0 = .ok (.iconst 0, 1) := by decide +kernel
theorem d_Model_fault_1 : decode b_Model_fault 1 = .ok (.istore_n 1, 1) := by decide +kernel
theorem d_Model_fault_2 : decode b_Model_fault 2 = .ok (.bipush 48, 2) := by decide +kernel
theorem d_Model_fault_4 : decode b_Model_fault 4 = .ok (.istore_n 2, 1) := by decide +kernel
theorem d_Model_fault_5 : decode b_Model_fault 5 = .ok (.iconst 0, 1) := by decide +kernel
theorem d_Model_fault_6 : decode b_Model_fault 6 = .ok (.istore_n 3, 1) := by decide +kernel
theorem d_Model_fault_7 : decode b_Model_fault 7 = .ok (.iconst 0, 1) := by decide +kernel
theorem d_Model_fault_8 : decode b_Model_fault 8 = .ok (.istore 4, 2) := by decide +kernel
theorem d_Model_fault_10 : decode b_Model_fault 10 = .ok (.iload 4, 2) := by decide +kernel
theorem d_Model_fault_12 : decode b_Model_fault 12 = .ok (.aload_n 0, 1) := by decide +kernel
theorem d_Model_fault_13 : decode b_Model_fault 13 = .ok (.getfield 121, 3) := by decide +kernel
theorem d_Model_fault_16 : decode b_Model_fault 16 = .ok (.if_icmp .ge 90, 3) := by decide +kernel
theorem d_Model_fault_19 : decode b_Model_fault 19 = .ok (.aload_n 0, 1) := by decide +kernel
theorem d_Model_fault_20 : decode b_Model_fault 20 = .ok (.getfield 38, 3) := by decide +kernel
theorem d_Model_fault_23 : decode b_Model_fault 23 = .ok (.iload 4, 2) := by decide +kernel
theorem d_Model_fault_25 : decode b_Model_fault 25 = .ok (.iaload, 1) := by decide +kernel
theorem d_Model_fault_26 : decode b_Model_fault 26 = .ok (.istore 5, 2) := by decide +kernel
theorem d_Model_fault_28 : decode b_Model_fault 28 = .ok (.iload 5, 2) := by decide +kernel
theorem d_Model_fault_30 : decode b_Model_fault 30 = .ok (.i2l, 1) := by decide +kernel
theorem d_Model_fault_31 : decode b_Model_fault 31 = .ok (.iload_n 2, 1) := by decide +kernel
theorem d_Model_fault_32 : decode b_Model_fault 32 = .ok (.iconst 1, 1) := by decide +kernel
theorem d_Model_fault_33 : decode b_Model_fault 33 = .ok (.iadd, 1) := by decide +kernel
theorem d_Model_fault_34 : decode b_Model_fault 34 = .ok (.i2l, 1) := by decide +kernel
theorem d_Model_fault_35 : decode b_Model_fault 35 = .ok (.bipush 48, 2) := by decide +kernel
theorem d_Model_fault_37 : decode b_Model_fault 37 = .ok (.aload_n 0, 1) := by decide +kernel
theorem d_Model_fault_38 : decode b_Model_fault 38 = .ok (.getfield 61, 3) := by decide +kernel
theorem d_Model_fault_41 : decode b_Model_fault 41 = .ok (.iadd, 1) := by decide +kernel
theorem d_Model_fault_42 : decode b_Model_fault 42 = .ok (.i2l, 1) := by decide +kernel
theorem d_Model_fault_43 : decode b_Model_fault 43 = .ok (.invokestatic 111, 3) := by decide +kernel
theorem d_Model_fault_46 : decode b_Model_fault 46 = .ok (.ifCond .eq 20, 3) := by decide +kernel
theorem d_Model_fault_49 : decode b_Model_fault 49 = .ok (.iload_n 1, 1) := by decide +kernel
theorem d_Model_fault_50 : decode b_Model_fault 50 = .ok (.aload_n 0, 1) := by decide +kernel
theorem d_Model_fault_51 : decode b_Model_fault 51 = .ok (.getfield 65, 3) := by decide +kernel
theorem d_Model_fault_54 : decode b_Model_fault 54 = .ok (.if_icmp .ge 12, 3) := by decide +kernel
theorem d_Model_fault_57 : decode b_Model_fault 57 = .ok (.iinc 1 1, 3) := by decide +kernel
theorem d_Model_fault_60 : decode b_Model_fault 60 = .ok (.iload 5, 2) := by decide +kernel
theorem d_Model_fault_62 : decode b_Model_fault 62 = .ok (.istore_n 2, 1) := by decide +kernel
theorem d_Model_fault_63 : decode b_Model_fault 63 = .ok (.goto 37, 3) := by decide +kernel
theorem d_Model_fault_66 : decode b_Model_fault 66 = .ok (.iload 5, 2) := by decide +kernel
theorem d_Model_fault_68 : decode b_Model_fault 68 = .ok (.bipush 59, 2) := by decide +kernel
theorem d_Model_fault_70 : decode b_Model_fault 70 = .ok (.if_icmp .ne 27, 3) := by decide +kernel
theorem d_Model_fault_73 : decode b_Model_fault 73 = .ok (.iload_n 1, 1) := by decide +kernel
theorem d_Model_fault_74 : decode b_Model_fault 74 = .ok (.aload_n 0, 1) := by decide +kernel
theorem d_Model_fault_75 : decode b_Model_fault 75 = .ok (.getfield 65, 3) := by decide +kernel
theorem d_Model_fault_78 : decode b_Model_fault 78 = .ok (.if_icmp .ne 19, 3) := by decide +kernel
theorem d_Model_fault_81 : decode b_Model_fault 81 = .ok (.iload_n 3, 1) := by decide +kernel
theorem d_Model_fault_82 : decode b_Model_fault 82 = .ok (.iconst 5, 1) := by decide +kernel
theorem d_Model_fault_83 : decode b_Model_fault 83 = .ok (.if_icmp .ge 14, 3) := by decide +kernel
theorem d_Model_fault_86 : decode b_Model_fault 86 = .ok (.iinc 3 1, 3) := by decide +kernel
theorem d_Model_fault_89 : decode b_Model_fault 89 = .ok (.iconst 0, 1) := by decide +kernel
theorem d_Model_fault_90 : decode b_Model_fault 90 = .ok (.istore_n 1, 1) := by decide +kernel
theorem d_Model_fault_91 : decode b_Model_fault 91 = .ok (.bipush 48, 2) := by decide +kernel
theorem d_Model_fault_93 : decode b_Model_fault 93 = .ok (.istore_n 2, 1) := by decide +kernel
theorem d_Model_fault_94 : decode b_Model_fault 94 = .ok (.goto 6, 3) := by decide +kernel
theorem d_Model_fault_97 : decode b_Model_fault 97 = .ok (.iload 4, 2) := by decide +kernel
theorem d_Model_fault_99 : decode b_Model_fault 99 = .ok (.ireturn, 1) := by decide +kernel
theorem d_Model_fault_100 : decode b_Model_fault 100 = .ok (.iinc 4 1, 3) := by decide +kernel
theorem d_Model_fault_103 : decode b_Model_fault 103 = .ok (.goto (-93), 3) := by decide +kernel
theorem d_Model_fault_106 : decode b_Model_fault 106 = .ok (.aload_n 0, 1) := by decide +kernel
theorem d_Model_fault_107 : decode b_Model_fault 107 = .ok (.getfield 121, 3) := by decide +kernel
theorem d_Model_fault_110 : decode b_Model_fault 110 = .ok (.ifCond .eq 11, 3) := by decide +kernel
theorem d_Model_fault_113 : decode b_Model_fault 113 = .ok (.iload_n 1, 1) := by decide +kernel
theorem d_Model_fault_114 : decode b_Model_fault 114 = .ok (.aload_n 0, 1) := by decide +kernel
theorem d_Model_fault_115 : decode b_Model_fault 115 = .ok (.getfield 65, 3) := by decide +kernel
theorem d_Model_fault_118 : decode b_Model_fault 118 = .ok (.if_icmp .ne 8, 3) := by decide +kernel
theorem d_Model_fault_121 : decode b_Model_fault 121 = .ok (.bipush (-6), 2) := by decide +kernel
theorem d_Model_fault_123 : decode b_Model_fault 123 = .ok (.goto 7, 3) := by decide +kernel
theorem d_Model_fault_126 : decode b_Model_fault 126 = .ok (.aload_n 0, 1) := by decide +kernel
theorem d_Model_fault_127 : decode b_Model_fault 127 = .ok (.getfield 121, 3) := by decide +kernel
theorem d_Model_fault_130 : decode b_Model_fault 130 = .ok (.ireturn, 1) := by decide +kernel
theorem d_Model_tickets_0 : decode b_Model_tickets 0 = .ok (.aload_n 0, 1) := by decide +kernel
theorem d_Model_tickets_1 : decode b_Model_tickets 1 = .ok (.invokevirtual 124, 3) := by decide +kernel
theorem d_Model_tickets_4 : decode b_Model_tickets 4 = .ok (.ifCond .lt 6, 3) := by decide +kernel
theorem d_Model_tickets_7 : decode b_Model_tickets 7 = .ok (.bipush (-5), 2) := by decide +kernel
theorem d_Model_tickets_9 : decode b_Model_tickets 9 = .ok (.ireturn, 1) := by decide +kernel
theorem d_Model_tickets_10 : decode b_Model_tickets 10 = .ok (.aload_n 0, 1) := by decide +kernel
theorem d_Model_tickets_11 : decode b_Model_tickets 11 = .ok (.aload_n 0, 1) := by decide +kernel
theorem d_Model_tickets_12 : decode b_Model_tickets 12 = .ok (.getfield 121, 3) := by decide +kernel
theorem d_Model_tickets_15 : decode b_Model_tickets 15 = .ok (.ifCond .ne 7, 3) := by decide +kernel
theorem d_Model_tickets_18 : decode b_Model_tickets 18 = .ok (.iconst 0, 1) := by decide +kernel
theorem d_Model_tickets_19 : decode b_Model_tickets 19 = .ok (.goto 4, 3) := by decide +kernel
theorem d_Model_tickets_22 : decode b_Model_tickets 22 = .ok (.iconst 1, 1) := by decide +kernel
theorem d_Model_tickets_23 : decode b_Model_tickets 23 = .ok (.putfield 74, 3) := by decide +kernel
theorem d_Model_tickets_26 : decode b_Model_tickets 26 = .ok (.iconst 0, 1) := by decide +kernel
theorem d_Model_tickets_27 : decode b_Model_tickets 27 = .ok (.istore_n 1, 1) := by decide +kernel
theorem d_Model_tickets_28 : decode b_Model_tickets 28 = .ok (.iload_n 1, 1) := by decide +kernel
theorem d_Model_tickets_29 : decode b_Model_tickets 29 = .ok (.bipush 6, 2) := by decide +kernel
theorem d_Model_tickets_31 : decode b_Model_tickets 31 = .ok (.if_icmp .ge 16, 3) := by decide +kernel
theorem d_Model_tickets_34 : decode b_Model_tickets 34 = .ok (.aload_n 0, 1) := by decide +kernel
theorem d_Model_tickets_35 : decode b_Model_tickets 35 = .ok (.getfield 7, 3) := by decide +kernel
theorem d_Model_tickets_38 : decode b_Model_tickets 38 = .ok (.iload_n 1, 1) := by decide +kernel
theorem d_Model_tickets_39 : decode b_Model_tickets 39 = .ok (.iconst 0, 1) := by decide +kernel
theorem d_Model_tickets_40 : decode b_Model_tickets 40 = .ok (.iastore, 1) := by decide +kernel
theorem d_Model_tickets_41 : decode b_Model_tickets 41 = .ok (.iinc 1 1, 3) := by decide +kernel
theorem d_Model_tickets_44 : decode b_Model_tickets 44 = .ok (.goto (-16), 3) := by decide +kernel
theorem d_Model_tickets_47 : decode b_Model_tickets 47 = .ok (.iconst 0, 1) := by decide +kernel
theorem d_Model_tickets_48 : decode b_Model_tickets 48 = .ok (.istore_n 1, 1) := by decide +kernel
theorem d_Model_tickets_49 : decode b_Model_tickets 49 = .ok (.iload_n 1, 1) := by decide +kernel
theorem d_Model_tickets_50 : decode b_Model_tickets 50 = .ok (.aload_n 0, 1) := by decide +kernel
theorem d_Model_tickets_51 : decode b_Model_tickets 51 = .ok (.getfield 121, 3) := by decide +kernel
theorem d_Model_tickets_54 : decode b_Model_tickets 54 = .ok (.if_icmp .ge 58, 3) := by decide +kernel
theorem d_Model_tickets_57 : decode b_Model_tickets 57 = .ok (.aload_n 0, 1) := by decide +kernel
theorem d_Model_tickets_58 : decode b_Model_tickets 58 = .ok (.getfield 38, 3) := by decide +kernel
theorem d_Model_tickets_61 : decode b_Model_tickets 61 = .ok (.iload_n 1, 1) := by decide +kernel
theorem d_Model_tickets_62 : decode b_Model_tickets 62 = .ok (.iaload, 1) := by decide +kernel
theorem d_Model_tickets_63 : decode b_Model_tickets 63 = .ok (.bipush 59, 2) := by decide +kernel
theorem d_Model_tickets_65 : decode b_Model_tickets 65 = .ok (.if_icmp .ne 16, 3) := by decide +kernel
theorem d_Model_tickets_68 : decode b_Model_tickets 68 = .ok (.aload_n 0, 1) := by decide +kernel
theorem d_Model_tickets_69 : decode b_Model_tickets 69 = .ok (.dup, 1) := by decide +kernel
theorem d_Model_tickets_70 : decode b_Model_tickets 70 = .ok (.getfield 74, 3) := by decide +kernel
theorem d_Model_tickets_73 : decode b_Model_tickets 73 = .ok (.iconst 1, 1) := by decide +kernel
theorem d_Model_tickets_74 : decode b_Model_tickets 74 = .ok (.iadd, 1) := by decide +kernel
theorem d_Model_tickets_75 : decode b_Model_tickets 75 = .ok (.putfield 74, 3) := by decide +kernel
theorem d_Model_tickets_78 : decode b_Model_tickets 78 = .ok (.goto 28, 3) := by decide +kernel
theorem d_Model_tickets_81 : decode b_Model_tickets 81 = .ok (.aload_n 0, 1) := by decide +kernel
theorem d_Model_tickets_82 : decode b_Model_tickets 82 = .ok (.getfield 7, 3) := by decide +kernel
theorem d_Model_tickets_85 : decode b_Model_tickets 85 = .ok (.aload_n 0, 1) := by decide +kernel
theorem d_Model_tickets_86 : decode b_Model_tickets 86 = .ok (.getfield 74, 3) := by decide +kernel
theorem d_Model_tickets_89 : decode b_Model_tickets 89 = .ok (.iconst 1, 1) := by decide +kernel
theorem d_Model_tickets_90 : decode b_Model_tickets 90 = .ok (.isub, 1) := by decide +kernel
theorem d_Model_tickets_91 : decode b_Model_tickets 91 = .ok (.dup2, 1) := by decide +kernel
theorem d_Model_tickets_92 : decode b_Model_tickets 92 = .ok (.iaload, 1) := by decide +kernel
theorem d_Model_tickets_93 : decode b_Model_tickets 93 = .ok (.iconst 1, 1) := by decide +kernel
theorem d_Model_tickets_94 : decode b_Model_tickets 94 = .ok (.aload_n 0, 1) := by decide +kernel
theorem d_Model_tickets_95 : decode b_Model_tickets 95 = .ok (.getfield 38, 3) := by decide +kernel
theorem d_Model_tickets_98 : decode b_Model_tickets 98 = .ok (.iload_n 1, 1) := by decide +kernel
theorem d_Model_tickets_99 : decode b_Model_tickets 99 = .ok (.iaload, 1) := by decide +kernel
theorem d_Model_tickets_100 : decode b_Model_tickets 100 = .ok (.bipush 49, 2) := by decide +kernel
theorem d_Model_tickets_102 : decode b_Model_tickets 102 = .ok (.isub, 1) := by decide +kernel
theorem d_Model_tickets_103 : decode b_Model_tickets 103 = .ok (.ishl, 1) := by decide +kernel
theorem d_Model_tickets_104 : decode b_Model_tickets 104 = .ok (.ior, 1) := by decide +kernel
theorem d_Model_tickets_105 : decode b_Model_tickets 105 = .ok (.iastore, 1) := by decide +kernel
theorem d_Model_tickets_106 : decode b_Model_tickets 106 = .ok (.iinc 1 1, 3) := by decide +kernel
theorem d_Model_tickets_109 : decode b_Model_tickets 109 = .ok (.goto (-60), 3) := by decide +kernel
theorem d_Model_tickets_112 : decode b_Model_tickets 112 = .ok (.aload_n 0, 1) := by decide +kernel
theorem d_Model_tickets_113 : decode b_Model_tickets 113 = .ok (.iconst 0, 1) := by decide +kernel
theorem d_Model_tickets_114 : decode b_Model_tickets 114 = .ok (.putfield 121, 3) := by decide +kernel
theorem d_Model_tickets_117 : decode b_Model_tickets 117 = .ok (.aload_n 0, 1) := by decide +kernel
theorem d_Model_tickets_118 : decode b_Model_tickets 118 = .ok (.iconst 0, 1) := by decide +kernel
theorem d_Model_tickets_119 : decode b_Model_tickets 119 = .ok (.putfield 80, 3) := by decide +kernel
theorem d_Model_tickets_122 : decode b_Model_tickets 122 = .ok (.aload_n 0, 1) := by decide +kernel
theorem d_Model_tickets_123 : decode b_Model_tickets 123 = .ok (.getfield 74, 3) := by decide +kernel
theorem d_Model_tickets_126 : decode b_Model_tickets 126 = .ok (.ireturn, 1) := by decide +kernel
theorem d_Model_ticket_0 : decode b_Model_ticket 0 = .ok (.aload_n 0, 1) := by decide +kernel
theorem d_Model_ticket_1 : decode b_Model_ticket 1 = .ok (.iload_n 1, 1) := by decide +kernel
theorem d_Model_ticket_2 : decode b_Model_ticket 2 = .ok (.invokevirtual 128, 3) := by decide +kernel
theorem d_Model_ticket_5 : decode b_Model_ticket 5 = .ok (.ifCond .eq 12, 3) := by decide +kernel
theorem d_Model_ticket_8 : decode b_Model_ticket 8 = .ok (.aload_n 0, 1) := by decide +kernel
theorem d_Model_ticket_9 : decode b_Model_ticket 9 = .ok (.getfield 7, 3) := by decide +kernel
theorem d_Model_ticket_12 : decode b_Model_ticket 12 = .ok (.iload_n 1, 1) := by decide +kernel
theorem d_Model_ticket_13 : decode b_Model_ticket 13 = .ok (.iaload, 1) := by decide +kernel
theorem d_Model_ticket_14 : decode b_Model_ticket 14 = .ok (.goto 4, 3) := by decide +kernel
theorem d_Model_ticket_17 : decode b_Model_ticket 17 = .ok (.iconst (-1), 1) := by decide +kernel
theorem d_Model_ticket_18 : decode b_Model_ticket 18 = .ok (.ireturn, 1) := by decide +kernel
theorem d_Model_isTicket_0 : decode b_Model_isTicket 0 = .ok (.iload_n 1, 1) := by decide +kernel
theorem d_Model_isTicket_1 : decode b_Model_isTicket 1 = .ok (.i2l, 1) := by decide +kernel
theorem d_Model_isTicket_2 : decode b_Model_isTicket 2 = .ok (.lconst 0, 1) := by decide +kernel
theorem d_Model_isTicket_3 : decode b_Model_isTicket 3 = .ok (.aload_n 0, 1) := by decide +kernel
theorem d_Model_isTicket_4 : decode b_Model_isTicket 4 = .ok (.getfield 74, 3) := by decide +kernel
theorem d_Model_isTicket_7 : decode b_Model_isTicket 7 = .ok (.iconst 1, 1) := by decide +kernel
theorem d_Model_isTicket_8 : decode b_Model_isTicket 8 = .ok (.isub, 1) := by decide +kernel
theorem d_Model_isTicket_9 : decode b_Model_isTicket 9 = .ok (.i2l, 1) := by decide +kernel
theorem d_Model_isTicket_10 : decode b_Model_isTicket 10 = .ok (.invokestatic 111, 3) := by decide +kernel
theorem d_Model_isTicket_13 : decode b_Model_isTicket 13 = .ok (.ireturn, 1) := by decide +kernel
theorem d_Model_fond_0 : decode b_Model_fond 0 = .ok (.iload_n 1, 1) := by decide +kernel
theorem d_Model_fond_1 : decode b_Model_fond 1 = .ok (.i2l, 1) := by decide +kernel
theorem d_Model_fond_2 : decode b_Model_fond 2 = .ok (.lconst 0, 1) := by decide +kernel
theorem d_Model_fond_3 : decode b_Model_fond 3 = .ok (.iconst 1, 1) := by decide +kernel
theorem d_Model_fond_4 : decode b_Model_fond 4 = .ok (.aload_n 0, 1) := by decide +kernel
theorem d_Model_fond_5 : decode b_Model_fond 5 = .ok (.getfield 61, 3) := by decide +kernel
theorem d_Model_fond_8 : decode b_Model_fond 8 = .ok (.ishl, 1) := by decide +kernel
theorem d_Model_fond_9 : decode b_Model_fond 9 = .ok (.iconst 1, 1) := by decide +kernel
theorem d_Model_fond_10 : decode b_Model_fond 10 = .ok (.isub, 1) := by decide +kernel
theorem d_Model_fond_11 : decode b_Model_fond 11 = .ok (.i2l, 1) := by decide +kernel
theorem d_Model_fond_12 : decode b_Model_fond 12 = .ok (.invokestatic 111, 3) := by decide +kernel
theorem d_Model_fond_15 : decode b_Model_fond 15 = .ok (.ifCond .eq 15, 3) := by decide +kernel
theorem d_Model_fond_18 : decode b_Model_fond 18 = .ok (.iload_n 1, 1) := by decide +kernel
theorem d_Model_fond_19 : decode b_Model_fond 19 = .ok (.i2l, 1) := by decide +kernel
theorem d_Model_fond_20 : decode b_Model_fond 20 = .ok (.invokestatic 92, 3) := by decide +kernel
theorem d_Model_fond_23 : decode b_Model_fond 23 = .ok (.aload_n 0, 1) := by decide +kernel
theorem d_Model_fond_24 : decode b_Model_fond 24 = .ok (.getfield 65, 3) := by decide +kernel
theorem d_Model_fond_27 : decode b_Model_fond 27 = .ok (.if_icmp .le 6, 3) := by decide +kernel
theorem d_Model_fond_30 : decode b_Model_fond 30 = .ok (.bipush (-2), 2) := by decide +kernel
theorem d_Model_fond_32 : decode b_Model_fond 32 = .ok (.ireturn, 1) := by decide +kernel
theorem d_Model_fond_33 : decode b_Model_fond 33 = .ok (.aload_n 0, 1) := by decide +kernel
theorem d_Model_fond_34 : decode b_Model_fond 34 = .ok (.getfield 77, 3) := by decide +kernel
theorem d_Model_fond_37 : decode b_Model_fond 37 = .ok (.istore_n 2, 1) := by decide +kernel
theorem d_Model_fond_38 : decode b_Model_fond 38 = .ok (.aload_n 0, 1) := by decide +kernel
theorem d_Model_fond_39 : decode b_Model_fond 39 = .ok (.iload_n 1, 1) := by decide +kernel
theorem d_Model_fond_40 : decode b_Model_fond 40 = .ok (.putfield 77, 3) := by decide +kernel
theorem d_Model_fond_43 : decode b_Model_fond 43 = .ok (.iload_n 2, 1) := by decide +kernel
theorem d_Model_fond_44 : decode b_Model_fond 44 = .ok (.ireturn, 1) := by decide +kernel
theorem d_Model_right_0 : decode b_Model_right 0 = .ok (.aload_n 0, 1) := by decide +kernel
theorem d_Model_right_1 : decode b_Model_right 1 = .ok (.iload_n 1, 1) := by decide +kernel
theorem d_Model_right_2 : decode b_Model_right 2 = .ok (.invokevirtual 128, 3) := by decide +kernel
theorem d_Model_right_5 : decode b_Model_right 5 = .ok (.ifCond .ne 5, 3) := by decide +kernel
theorem d_Model_right_8 : decode b_Model_right 8 = .ok (.iconst (-1), 1) := by decide +kernel
theorem d_Model_right_9 : decode b_Model_right 9 = .ok (.ireturn, 1) := by decide +kernel
theorem d_Model_right_10 : decode b_Model_right 10 = .ok (.aload_n 0, 1) := by decide +kernel
theorem d_Model_right_11 : decode b_Model_right 11 = .ok (.iload_n 2, 1) := by decide +kernel
theorem d_Model_right_12 : decode b_Model_right 12 = .ok (.invokevirtual 132, 3) := by decide +kernel
theorem d_Model_right_15 : decode b_Model_right 15 = .ok (.ifCond .eq 18, 3) := by decide +kernel
theorem d_Model_right_18 : decode b_Model_right 18 = .ok (.aload_n 0, 1) := by decide +kernel
theorem d_Model_right_19 : decode b_Model_right 19 = .ok (.getfield 7, 3) := by decide +kernel
theorem d_Model_right_22 : decode b_Model_right 22 = .ok (.iload_n 1, 1) := by decide +kernel
theorem d_Model_right_23 : decode b_Model_right 23 = .ok (.iaload, 1) := by decide +kernel
theorem d_Model_right_24 : decode b_Model_right 24 = .ok (.iload_n 2, 1) := by decide +kernel
theorem d_Model_right_25 : decode b_Model_right 25 = .ok (.iand, 1) := by decide +kernel
theorem d_Model_right_26 : decode b_Model_right 26 = .ok (.i2l, 1) := by decide +kernel
theorem d_Model_right_27 : decode b_Model_right 27 = .ok (.invokestatic 92, 3) := by decide +kernel
theorem d_Model_right_30 : decode b_Model_right 30 = .ok (.goto 5, 3) := by decide +kernel
theorem d_Model_right_33 : decode b_Model_right 33 = .ok (.bipush (-2), 2) := by decide +kernel
theorem d_Model_right_35 : decode b_Model_right 35 = .ok (.ireturn, 1) := by decide +kernel
theorem d_Model_isDraw_0 : decode b_Model_isDraw 0 = .ok (.iload_n 1, 1) := by decide +kernel
theorem d_Model_isDraw_1 : decode b_Model_isDraw 1 = .ok (.i2l, 1) := by decide +kernel
theorem d_Model_isDraw_2 : decode b_Model_isDraw 2 = .ok (.lconst 0, 1) := by decide +kernel
theorem d_Model_isDraw_3 : decode b_Model_isDraw 3 = .ok (.iconst 1, 1) := by decide +kernel
theorem d_Model_isDraw_4 : decode b_Model_isDraw 4 = .ok (.aload_n 0, 1) := by decide +kernel
theorem d_Model_isDraw_5 : decode b_Model_isDraw 5 = .ok (.getfield 61, 3) := by decide +kernel
theorem d_Model_isDraw_8 : decode b_Model_isDraw 8 = .ok (.ishl, 1) := by decide +kernel
theorem d_Model_isDraw_9 : decode b_Model_isDraw 9 = .ok (.iconst 1, 1) := by decide +kernel
theorem d_Model_isDraw_10 : decode b_Model_isDraw 10 = .ok (.isub, 1) := by decide +kernel
theorem d_Model_isDraw_11 : decode b_Model_isDraw 11 = .ok (.i2l, 1) := by decide +kernel
theorem d_Model_isDraw_12 : decode b_Model_isDraw 12 = .ok (.invokestatic 111, 3) := by decide +kernel
theorem d_Model_isDraw_15 : decode b_Model_isDraw 15 = .ok (.ifCond .eq 19, 3) := by decide +kernel
theorem d_Model_isDraw_18 : decode b_Model_isDraw 18 = .ok (.iload_n 1, 1) := by decide +kernel
theorem d_Model_isDraw_19 : decode b_Model_isDraw 19 = .ok (.i2l, 1) := by decide +kernel
theorem d_Model_isDraw_20 : decode b_Model_isDraw 20 = .ok (.invokestatic 92, 3) := by decide +kernel
theorem d_Model_isDraw_23 : decode b_Model_isDraw 23 = .ok (.aload_n 0, 1) := by decide +kernel
theorem d_Model_isDraw_24 : decode b_Model_isDraw 24 = .ok (.getfield 68, 3) := by decide +kernel
theorem d_Model_isDraw_27 : decode b_Model_isDraw 27 = .ok (.if_icmp .ne 7, 3) := by decide +kernel
theorem d_Model_isDraw_30 : decode b_Model_isDraw 30 = .ok (.iconst 1, 1) := by decide +kernel
theorem d_Model_isDraw_31 : decode b_Model_isDraw 31 = .ok (.goto 4, 3) := by decide +kernel
theorem d_Model_isDraw_34 : decode b_Model_isDraw 34 = .ok (.iconst 0, 1) := by decide +kernel
theorem d_Model_isDraw_35 : decode b_Model_isDraw 35 = .ok (.ireturn, 1) := by decide +kernel
theorem d_Model_won_0 : decode b_Model_won 0 = .ok (.iload_n 1, 1) := by decide +kernel
theorem d_Model_won_1 : decode b_Model_won 1 = .ok (.i2l, 1) := by decide +kernel
theorem d_Model_won_2 : decode b_Model_won 2 = .ok (.lconst 0, 1) := by decide +kernel
theorem d_Model_won_3 : decode b_Model_won 3 = .ok (.ldc2_w 115, 3) := by decide +kernel
theorem d_Model_won_6 : decode b_Model_won 6 = .ok (.invokestatic 111, 3) := by decide +kernel
theorem d_Model_won_9 : decode b_Model_won 9 = .ok (.ifCond .ne 6, 3) := by decide +kernel
theorem d_Model_won_12 : decode b_Model_won 12 = .ok (.bipush (-2), 2) := by decide +kernel
theorem d_Model_won_14 : decode b_Model_won 14 = .ok (.ireturn, 1) := by decide +kernel
theorem d_Model_won_15 : decode b_Model_won 15 = .ok (.aload_n 0, 1) := by decide +kernel
theorem d_Model_won_16 : decode b_Model_won 16 = .ok (.bipush (-6), 2) := by decide +kernel
theorem d_Model_won_18 : decode b_Model_won 18 = .ok (.invokevirtual 142, 3) := by decide +kernel
theorem d_Model_won_21 : decode b_Model_won 21 = .ok (.iload_n 1, 1) := by decide +kernel
theorem d_Model_won_22 : decode b_Model_won 22 = .ok (.ifCond .ne 10, 3) := by decide +kernel
theorem d_Model_won_25 : decode b_Model_won 25 = .ok (.aload_n 0, 1) := by decide +kernel
theorem d_Model_won_26 : decode b_Model_won 26 = .ok (.invokevirtual 146, 3) := by decide +kernel
theorem d_Model_won_29 : decode b_Model_won 29 = .ok (.goto 19, 3) := by decide +kernel
theorem d_Model_won_32 : decode b_Model_won 32 = .ok (.iload_n 1, 1) := by decide +kernel
theorem d_Model_won_33 : decode b_Model_won 33 = .ok (.iconst 1, 1) := by decide +kernel
theorem d_Model_won_34 : decode b_Model_won 34 = .ok (.if_icmp .ne 10, 3) := by decide +kernel
theorem d_Model_won_37 : decode b_Model_won 37 = .ok (.aload_n 0, 1) := by decide +kernel
theorem d_Model_won_38 : decode b_Model_won 38 = .ok (.getfield 86, 3) := by decide +kernel
theorem d_Model_won_41 : decode b_Model_won 41 = .ok (.goto 7, 3) := by decide +kernel
theorem d_Model_won_44 : decode b_Model_won 44 = .ok (.aload_n 0, 1) := by decide +kernel
theorem d_Model_won_45 : decode b_Model_won 45 = .ok (.invokevirtual 149, 3) := by decide +kernel
theorem d_Model_won_48 : decode b_Model_won 48 = .ok (.ireturn, 1) := by decide +kernel
theorem d_Model_flagsBut_0 : decode b_Model_flagsBut 0 = .ok (.aload_n 0, 1) := by decide +kernel
theorem d_Model_flagsBut_1 : decode b_Model_flagsBut 1 = .ok (.lconst 0, 1) := by decide +kernel
theorem d_Model_flagsBut_2 : decode b_Model_flagsBut 2 = .ok (.putfield 135, 3) := by decide +kernel
theorem d_Model_flagsBut_5 : decode b_Model_flagsBut 5 = .ok (.aload_n 0, 1) := by decide +kernel
theorem d_Model_flagsBut_6 : decode b_Model_flagsBut 6 = .ok (.lconst 0, 1) := by decide +kernel
theorem d_Model_flagsBut_7 : decode b_Model_flagsBut 7 = .ok (.putfield 139, 3) := by decide +kernel
theorem d_Model_flagsBut_10 : decode b_Model_flagsBut 10 = .ok (.iconst 0, 1) := by decide +kernel
theorem d_Model_flagsBut_11 : decode b_Model_flagsBut 11 = .ok (.istore_n 2, 1) := by decide +kernel
theorem d_Model_flagsBut_12 : decode b_Model_flagsBut 12 = .ok (.iload_n 2, 1) := by decide +kernel
theorem d_Model_flagsBut_13 : decode b_Model_flagsBut 13 = .ok (.aload_n 0, 1) := by decide +kernel
theorem d_Model_flagsBut_14 : decode b_Model_flagsBut 14 = .ok (.getfield 74, 3) := by decide +kernel
theorem d_Model_flagsBut_17 : decode b_Model_flagsBut 17 = .ok (.if_icmp .ge 52, 3) := by decide +kernel
theorem d_Model_flagsBut_20 : decode b_Model_flagsBut 20 = .ok (.iload_n 2, 1) := by decide +kernel
theorem d_Model_flagsBut_21 : decode b_Model_flagsBut 21 = .ok (.iload_n 1, 1) := by decide +kernel
theorem d_Model_flagsBut_22 : decode b_Model_flagsBut 22 = .ok (.if_icmp .eq 41, 3) := by decide +kernel
theorem d_Model_flagsBut_25 : decode b_Model_flagsBut 25 = .ok (.aload_n 0, 1) := by decide +kernel
theorem d_Model_flagsBut_26 : decode b_Model_flagsBut 26 = .ok (.dup, 1) := by decide +kernel
theorem d_Model_flagsBut_27 : decode b_Model_flagsBut 27 = .ok (.getfield 135, 3) := by decide +kernel
theorem d_Model_flagsBut_30 : decode b_Model_flagsBut 30 = .ok (.aload_n 0, 1) := by decide +kernel
theorem d_Model_flagsBut_31 : decode b_Model_flagsBut 31 = .ok (.aload_n 0, 1) := by decide +kernel
theorem d_Model_flagsBut_32 : decode b_Model_flagsBut 32 = .ok (.getfield 7, 3) := by decide +kernel
theorem d_Model_flagsBut_35 : decode b_Model_flagsBut 35 = .ok (.iload_n 2, 1) := by decide +kernel
theorem d_Model_flagsBut_36 : decode b_Model_flagsBut 36 = .ok (.iaload, 1) := by decide +kernel
theorem d_Model_flagsBut_37 : decode b_Model_flagsBut 37 = .ok (.invokevirtual 96, 3) := by decide +kernel
theorem d_Model_flagsBut_40 : decode b_Model_flagsBut 40 = .ok (.lor, 1) := by decide +kernel
theorem d_Model_flagsBut_41 : decode b_Model_flagsBut 41 = .ok (.putfield 135, 3) := by decide +kernel
theorem d_Model_flagsBut_44 : decode b_Model_flagsBut 44 = .ok (.aload_n 0, 1) := by decide +kernel
theorem d_Model_flagsBut_45 : decode b_Model_flagsBut 45 = .ok (.dup, 1) := by decide +kernel
theorem d_Model_flagsBut_46 : decode b_Model_flagsBut 46 = .ok (.getfield 139, 3) := by decide +kernel
theorem d_Model_flagsBut_49 : decode b_Model_flagsBut 49 = .ok (.aload_n 0, 1) := by decide +kernel
theorem d_Model_flagsBut_50 : decode b_Model_flagsBut 50 = .ok (.aload_n 0, 1) := by decide +kernel
theorem d_Model_flagsBut_51 : decode b_Model_flagsBut 51 = .ok (.getfield 7, 3) := by decide +kernel
theorem d_Model_flagsBut_54 : decode b_Model_flagsBut 54 = .ok (.iload_n 2, 1) := by decide +kernel
theorem d_Model_flagsBut_55 : decode b_Model_flagsBut 55 = .ok (.iaload, 1) := by decide +kernel
theorem d_Model_flagsBut_56 : decode b_Model_flagsBut 56 = .ok (.invokevirtual 100, 3) := by decide +kernel
theorem d_Model_flagsBut_59 : decode b_Model_flagsBut 59 = .ok (.lor, 1) := by decide +kernel
theorem d_Model_flagsBut_60 : decode b_Model_flagsBut 60 = .ok (.putfield 139, 3) := by decide +kernel
theorem d_Model_flagsBut_63 : decode b_Model_flagsBut 63 = .ok (.iinc 2 1, 3) := by decide +kernel
theorem d_Model_flagsBut_66 : decode b_Model_flagsBut 66 = .ok (.goto (-54), 3) := by decide +kernel
theorem d_Model_flagsBut_69 : decode b_Model_flagsBut 69 = .ok (.return_, 1) := by decide +kernel
theorem d_Model_flagged_0 : decode b_Model_flagged 0 = .ok (.aload_n 0, 1) := by decide +kernel
theorem d_Model_flagged_1 : decode b_Model_flagged 1 = .ok (.getfield 135, 3) := by decide +kernel
theorem d_Model_flagged_4 : decode b_Model_flagged 4 = .ok (.invokestatic 92, 3) := by decide +kernel
theorem d_Model_flagged_7 : decode b_Model_flagged 7 = .ok (.aload_n 0, 1) := by decide +kernel
theorem d_Model_flagged_8 : decode b_Model_flagged 8 = .ok (.getfield 139, 3) := by decide +kernel
theorem d_Model_flagged_11 : decode b_Model_flagged 11 = .ok (.invokestatic 92, 3) := by decide +kernel
theorem d_Model_flagged_14 : decode b_Model_flagged 14 = .ok (.iadd, 1) := by decide +kernel
theorem d_Model_flagged_15 : decode b_Model_flagged 15 = .ok (.ireturn, 1) := by decide +kernel
theorem d_Model_leastMissed_0 : decode b_Model_leastMissed 0 = .ok (.iconst 0, 1) := by decide +kernel
theorem d_Model_leastMissed_1 : decode b_Model_leastMissed 1 = .ok (.istore_n 1, 1) := by decide +kernel
theorem d_Model_leastMissed_2 : decode b_Model_leastMissed 2 = .ok (.iload_n 1, 1) := by decide +kernel
theorem d_Model_leastMissed_3 : decode b_Model_leastMissed 3 = .ok (.aload_n 0, 1) := by decide +kernel
theorem d_Model_leastMissed_4 : decode b_Model_leastMissed 4 = .ok (.getfield 86, 3) := by decide +kernel
theorem d_Model_leastMissed_7 : decode b_Model_leastMissed 7 = .ok (.if_icmp .ge 51, 3) := by decide +kernel
theorem d_Model_leastMissed_10 : decode b_Model_leastMissed 10 = .ok (.iload_n 1, 1) := by decide +kernel
theorem d_Model_leastMissed_11 : decode b_Model_leastMissed 11 = .ok (.bipush 64, 2) := by decide +kernel
theorem d_Model_leastMissed_13 : decode b_Model_leastMissed 13 = .ok (.if_icmp .ge 14, 3) := by decide +kernel
theorem d_Model_leastMissed_16 : decode b_Model_leastMissed 16 = .ok (.aload_n 0, 1) := by decide +kernel
theorem d_Model_leastMissed_17 : decode b_Model_leastMissed 17 = .ok (.getfield 135, 3) := by decide +kernel
theorem d_Model_leastMissed_20 : decode b_Model_leastMissed 20 = .ok (.iload_n 1, 1) := by decide +kernel
theorem d_Model_leastMissed_21 : decode b_Model_leastMissed 21 = .ok (.lshr, 1) := by decide +kernel
theorem d_Model_leastMissed_22 : decode b_Model_leastMissed 22 = .ok (.lconst 1, 1) := by decide +kernel
theorem d_Model_leastMissed_23 : decode b_Model_leastMissed 23 = .ok (.land, 1) := by decide +kernel
theorem d_Model_leastMissed_24 : decode b_Model_leastMissed 24 = .ok (.goto 14, 3) := by decide +kernel
theorem d_Model_leastMissed_27 : decode b_Model_leastMissed 27 = .ok (.aload_n 0, 1) := by decide +kernel
theorem d_Model_leastMissed_28 : decode b_Model_leastMissed 28 = .ok (.getfield 139, 3) := by decide +kernel
theorem d_Model_leastMissed_31 : decode b_Model_leastMissed 31 = .ok (.iload_n 1, 1) := by decide +kernel
theorem d_Model_leastMissed_32 : decode b_Model_leastMissed 32 = .ok (.bipush 64, 2) := by decide +kernel
theorem d_Model_leastMissed_34 : decode b_Model_leastMissed 34 = .ok (.isub, 1) := by decide +kernel
theorem d_Model_leastMissed_35 : decode b_Model_leastMissed 35 = .ok (.lshr, 1) := by decide +kernel
theorem d_Model_leastMissed_36 : decode b_Model_leastMissed 36 = .ok (.lconst 1, 1) := by decide +kernel
theorem d_Model_leastMissed_37 : decode b_Model_leastMissed 37 = .ok (.land, 1) := by decide +kernel
theorem d_Model_leastMissed_38 : decode b_Model_leastMissed 38 = .ok (.lstore_n 2, 1) := by decide +kernel
theorem d_Model_leastMissed_39 : decode b_Model_leastMissed 39 = .ok (.lload_n 2, 1) := by decide +kernel
theorem d_Model_leastMissed_40 : decode b_Model_leastMissed 40 = .ok (.lconst 0, 1) := by decide +kernel
theorem d_Model_leastMissed_41 : decode b_Model_leastMissed 41 = .ok (.lcmp, 1) := by decide +kernel
theorem d_Model_leastMissed_42 : decode b_Model_leastMissed 42 = .ok (.ifCond .ne 10, 3) := by decide +kernel
theorem d_Model_leastMissed_45 : decode b_Model_leastMissed 45 = .ok (.aload_n 0, 1) := by decide +kernel
theorem d_Model_leastMissed_46 : decode b_Model_leastMissed 46 = .ok (.getfield 25, 3) := by decide +kernel
theorem d_Model_leastMissed_49 : decode b_Model_leastMissed 49 = .ok (.iload_n 1, 1) := by decide +kernel
theorem d_Model_leastMissed_50 : decode b_Model_leastMissed 50 = .ok (.iaload, 1) := by decide +kernel
theorem d_Model_leastMissed_51 : decode b_Model_leastMissed 51 = .ok (.ireturn, 1) := by decide +kernel
theorem d_Model_leastMissed_52 : decode b_Model_leastMissed 52 = .ok (.iinc 1 1, 3) := by decide +kernel
theorem d_Model_leastMissed_55 : decode b_Model_leastMissed 55 = .ok (.goto (-53), 3) := by decide +kernel
theorem d_Model_leastMissed_58 : decode b_Model_leastMissed 58 = .ok (.bipush (-6), 2) := by decide +kernel
theorem d_Model_leastMissed_60 : decode b_Model_leastMissed 60 = .ok (.ireturn, 1) := by decide +kernel
theorem d_Model_odds_0 : decode b_Model_odds 0 = .ok (.iload_n 1, 1) := by decide +kernel
theorem d_Model_odds_1 : decode b_Model_odds 1 = .ok (.i2l, 1) := by decide +kernel
theorem d_Model_odds_2 : decode b_Model_odds 2 = .ok (.lconst 0, 1) := by decide +kernel
theorem d_Model_odds_3 : decode b_Model_odds 3 = .ok (.lconst 1, 1) := by decide +kernel
theorem d_Model_odds_4 : decode b_Model_odds 4 = .ok (.invokestatic 111, 3) := by decide +kernel
theorem d_Model_odds_7 : decode b_Model_odds 7 = .ok (.ifCond .ne 7, 3) := by decide +kernel
theorem d_Model_odds_10 : decode b_Model_odds 10 = .ok (.ldc2_w 152, 3) := by decide +kernel
theorem d_Model_odds_13 : decode b_Model_odds 13 = .ok (.lreturn, 1) := by decide +kernel
theorem d_Model_odds_14 : decode b_Model_odds 14 = .ok (.aload_n 0, 1) := by decide +kernel
theorem d_Model_odds_15 : decode b_Model_odds 15 = .ok (.bipush (-6), 2) := by decide +kernel
theorem d_Model_odds_17 : decode b_Model_odds 17 = .ok (.invokevirtual 142, 3) := by decide +kernel
theorem d_Model_odds_20 : decode b_Model_odds 20 = .ok (.aload_n 0, 1) := by decide +kernel
theorem d_Model_odds_21 : decode b_Model_odds 21 = .ok (.invokevirtual 146, 3) := by decide +kernel
theorem d_Model_odds_24 : decode b_Model_odds 24 = .ok (.i2l, 1) := by decide +kernel
theorem d_Model_odds_25 : decode b_Model_odds 25 = .ok (.aload_n 0, 1) := by decide +kernel
theorem d_Model_odds_26 : decode b_Model_odds 26 = .ok (.getfield 86, 3) := by decide +kernel
theorem d_Model_odds_29 : decode b_Model_odds 29 = .ok (.i2l, 1) := by decide +kernel
theorem d_Model_odds_30 : decode b_Model_odds 30 = .ok (.iload_n 1, 1) := by decide +kernel
theorem d_Model_odds_31 : decode b_Model_odds 31 = .ok (.invokestatic 154, 3) := by decide +kernel
theorem d_Model_odds_34 : decode b_Model_odds 34 = .ok (.lreturn, 1) := by decide +kernel
theorem d_Model_lowest_0 : decode b_Model_lowest 0 = .ok (.lload_n 2, 1) := by decide +kernel
theorem d_Model_lowest_1 : decode b_Model_lowest 1 = .ok (.lstore 5, 2) := by decide +kernel
theorem d_Model_lowest_3 : decode b_Model_lowest 3 = .ok (.lload_n 0, 1) := by decide +kernel
theorem d_Model_lowest_4 : decode b_Model_lowest 4 = .ok (.lstore 7, 2) := by decide +kernel
theorem d_Model_lowest_6 : decode b_Model_lowest 6 = .ok (.lload 7, 2) := by decide +kernel
theorem d_Model_lowest_8 : decode b_Model_lowest 8 = .ok (.lconst 0, 1) := by decide +kernel
theorem d_Model_lowest_9 : decode b_Model_lowest 9 = .ok (.lcmp, 1) := by decide +kernel
theorem d_Model_lowest_10 : decode b_Model_lowest 10 = .ok (.ifCond .eq 21, 3) := by decide +kernel
theorem d_Model_lowest_13 : decode b_Model_lowest 13 = .ok (.lload 5, 2) := by decide +kernel
theorem d_Model_lowest_15 : decode b_Model_lowest 15 = .ok (.lload 7, 2) := by decide +kernel
theorem d_Model_lowest_17 : decode b_Model_lowest 17 = .ok (.lrem, 1) := by decide +kernel
theorem d_Model_lowest_18 : decode b_Model_lowest 18 = .ok (.lstore 9, 2) := by decide +kernel
theorem d_Model_lowest_20 : decode b_Model_lowest 20 = .ok (.lload 7, 2) := by decide +kernel
theorem d_Model_lowest_22 : decode b_Model_lowest 22 = .ok (.lstore 5, 2) := by decide +kernel
theorem d_Model_lowest_24 : decode b_Model_lowest 24 = .ok (.lload 9, 2) := by decide +kernel
theorem d_Model_lowest_26 : decode b_Model_lowest 26 = .ok (.lstore 7, 2) := by decide +kernel
theorem d_Model_lowest_28 : decode b_Model_lowest 28 = .ok (.goto (-22), 3) := by decide +kernel
theorem d_Model_lowest_31 : decode b_Model_lowest 31 = .ok (.iload 4, 2) := by decide +kernel
theorem d_Model_lowest_33 : decode b_Model_lowest 33 = .ok (.ifCond .ne 10, 3) := by decide +kernel
theorem d_Model_lowest_36 : decode b_Model_lowest 36 = .ok (.lload_n 0, 1) := by decide +kernel
theorem d_Model_lowest_37 : decode b_Model_lowest 37 = .ok (.lload 5, 2) := by decide +kernel
theorem d_Model_lowest_39 : decode b_Model_lowest 39 = .ok (.ldiv, 1) := by decide +kernel
theorem d_Model_lowest_40 : decode b_Model_lowest 40 = .ok (.goto 7, 3) := by decide +kernel
theorem d_Model_lowest_43 : decode b_Model_lowest 43 = .ok (.lload_n 2, 1) := by decide +kernel
theorem d_Model_lowest_44 : decode b_Model_lowest 44 = .ok (.lload 5, 2) := by decide +kernel
theorem d_Model_lowest_46 : decode b_Model_lowest 46 = .ok (.ldiv, 1) := by decide +kernel
theorem d_Model_lowest_47 : decode b_Model_lowest 47 = .ok (.lreturn, 1) := by decide +kernel
theorem d_Model_useless_0 : decode b_Model_useless 0 = .ok (.aload_n 0, 1) := by decide +kernel
theorem d_Model_useless_1 : decode b_Model_useless 1 = .ok (.bipush (-6), 2) := by decide +kernel
theorem d_Model_useless_3 : decode b_Model_useless 3 = .ok (.invokevirtual 142, 3) := by decide +kernel
theorem d_Model_useless_6 : decode b_Model_useless 6 = .ok (.aload_n 0, 1) := by decide +kernel
theorem d_Model_useless_7 : decode b_Model_useless 7 = .ok (.invokevirtual 146, 3) := by decide +kernel
theorem d_Model_useless_10 : decode b_Model_useless 10 = .ok (.istore_n 1, 1) := by decide +kernel
theorem d_Model_useless_11 : decode b_Model_useless 11 = .ok (.iconst 0, 1) := by decide +kernel
theorem d_Model_useless_12 : decode b_Model_useless 12 = .ok (.istore_n 2, 1) := by decide +kernel
theorem d_Model_useless_13 : decode b_Model_useless 13 = .ok (.iconst 0, 1) := by decide +kernel
theorem d_Model_useless_14 : decode b_Model_useless 14 = .ok (.istore_n 3, 1) := by decide +kernel
theorem d_Model_useless_15 : decode b_Model_useless 15 = .ok (.iload_n 3, 1) := by decide +kernel
theorem d_Model_useless_16 : decode b_Model_useless 16 = .ok (.aload_n 0, 1) := by decide +kernel
theorem d_Model_useless_17 : decode b_Model_useless 17 = .ok (.getfield 74, 3) := by decide +kernel
theorem d_Model_useless_20 : decode b_Model_useless 20 = .ok (.if_icmp .ge 32, 3) := by decide +kernel
theorem d_Model_useless_23 : decode b_Model_useless 23 = .ok (.aload_n 0, 1) := by decide +kernel
theorem d_Model_useless_24 : decode b_Model_useless 24 = .ok (.iload_n 3, 1) := by decide +kernel
theorem d_Model_useless_25 : decode b_Model_useless 25 = .ok (.invokevirtual 142, 3) := by decide +kernel
theorem d_Model_useless_28 : decode b_Model_useless 28 = .ok (.iload_n 2, 1) := by decide +kernel
theorem d_Model_useless_29 : decode b_Model_useless 29 = .ok (.aload_n 0, 1) := by decide +kernel
theorem d_Model_useless_30 : decode b_Model_useless 30 = .ok (.invokevirtual 146, 3) := by decide +kernel
theorem d_Model_useless_33 : decode b_Model_useless 33 = .ok (.iload_n 1, 1) := by decide +kernel
theorem d_Model_useless_34 : decode b_Model_useless 34 = .ok (.if_icmp .ne 9, 3) := by decide +kernel
theorem d_Model_useless_37 : decode b_Model_useless 37 = .ok (.iconst 1, 1) := by decide +kernel
theorem d_Model_useless_38 : decode b_Model_useless 38 = .ok (.iload_n 3, 1) := by decide +kernel
theorem d_Model_useless_39 : decode b_Model_useless 39 = .ok (.ishl, 1) := by decide +kernel
theorem d_Model_useless_40 : decode b_Model_useless 40 = .ok (.goto 4, 3) := by decide +kernel
theorem d_Model_useless_43 : decode b_Model_useless 43 = .ok (.iconst 0, 1) := by decide +kernel
theorem d_Model_useless_44 : decode b_Model_useless 44 = .ok (.ior, 1) := by decide +kernel
theorem d_Model_useless_45 : decode b_Model_useless 45 = .ok (.istore_n 2, 1) := by decide +kernel
theorem d_Model_useless_46 : decode b_Model_useless 46 = .ok (.iinc 3 1, 3) := by decide +kernel
theorem d_Model_useless_49 : decode b_Model_useless 49 = .ok (.goto (-34), 3) := by decide +kernel
theorem d_Model_useless_52 : decode b_Model_useless 52 = .ok (.iload_n 2, 1) := by decide +kernel
theorem d_Model_useless_53 : decode b_Model_useless 53 = .ok (.ireturn, 1) := by decide +kernel
theorem d_Model_often_0 : decode b_Model_often 0 = .ok (.iload_n 1, 1) := by decide +kernel
theorem d_Model_often_1 : decode b_Model_often 1 = .ok (.i2l, 1) := by decide +kernel
theorem d_Model_often_2 : decode b_Model_often 2 = .ok (.lconst 1, 1) := by decide +kernel
theorem d_Model_often_3 : decode b_Model_often 3 = .ok (.aload_n 0, 1) := by decide +kernel
theorem d_Model_often_4 : decode b_Model_often 4 = .ok (.getfield 61, 3) := by decide +kernel
theorem d_Model_often_7 : decode b_Model_often 7 = .ok (.i2l, 1) := by decide +kernel
theorem d_Model_often_8 : decode b_Model_often 8 = .ok (.invokestatic 111, 3) := by decide +kernel
theorem d_Model_often_11 : decode b_Model_often 11 = .ok (.ifCond .ne 5, 3) := by decide +kernel
theorem d_Model_often_14 : decode b_Model_often 14 = .ok (.iconst (-1), 1) := by decide +kernel
theorem d_Model_often_15 : decode b_Model_often 15 = .ok (.ireturn, 1) := by decide +kernel
theorem d_Model_often_16 : decode b_Model_often 16 = .ok (.iconst 0, 1) := by decide +kernel
theorem d_Model_often_17 : decode b_Model_often 17 = .ok (.istore_n 2, 1) := by decide +kernel
theorem d_Model_often_18 : decode b_Model_often 18 = .ok (.iconst 0, 1) := by decide +kernel
theorem d_Model_often_19 : decode b_Model_often 19 = .ok (.istore_n 3, 1) := by decide +kernel
theorem d_Model_often_20 : decode b_Model_often 20 = .ok (.iload_n 3, 1) := by decide +kernel
theorem d_Model_often_21 : decode b_Model_often 21 = .ok (.aload_n 0, 1) := by decide +kernel
theorem d_Model_often_22 : decode b_Model_often 22 = .ok (.getfield 74, 3) := by decide +kernel
theorem d_Model_often_25 : decode b_Model_often 25 = .ok (.if_icmp .ge 24, 3) := by decide +kernel
theorem d_Model_often_28 : decode b_Model_often 28 = .ok (.iload_n 2, 1) := by decide +kernel
theorem d_Model_often_29 : decode b_Model_often 29 = .ok (.aload_n 0, 1) := by decide +kernel
theorem d_Model_often_30 : decode b_Model_often 30 = .ok (.getfield 7, 3) := by decide +kernel
theorem d_Model_often_33 : decode b_Model_often 33 = .ok (.iload_n 3, 1) := by decide +kernel
theorem d_Model_often_34 : decode b_Model_often 34 = .ok (.iaload, 1) := by decide +kernel
theorem d_Model_often_35 : decode b_Model_often 35 = .ok (.iload_n 1, 1) := by decide +kernel
theorem d_Model_often_36 : decode b_Model_often 36 = .ok (.iconst 1, 1) := by decide +kernel
theorem d_Model_often_37 : decode b_Model_often 37 = .ok (.isub, 1) := by decide +kernel
theorem d_Model_often_38 : decode b_Model_often 38 = .ok (.ishr, 1) := by decide +kernel
theorem d_Model_often_39 : decode b_Model_often 39 = .ok (.iconst 1, 1) := by decide +kernel
theorem d_Model_often_40 : decode b_Model_often 40 = .ok (.iand, 1) := by decide +kernel
theorem d_Model_often_41 : decode b_Model_often 41 = .ok (.iadd, 1) := by decide +kernel
theorem d_Model_often_42 : decode b_Model_often 42 = .ok (.istore_n 2, 1) := by decide +kernel
theorem d_Model_often_43 : decode b_Model_often 43 = .ok (.iinc 3 1, 3) := by decide +kernel
theorem d_Model_often_46 : decode b_Model_often 46 = .ok (.goto (-26), 3) := by decide +kernel
theorem d_Model_often_49 : decode b_Model_often 49 = .ok (.iload_n 2, 1) := by decide +kernel
theorem d_Model_often_50 : decode b_Model_often 50 = .ok (.ireturn, 1) := by decide +kernel
theorem d_Model_prize_0 : decode b_Model_prize 0 = .ok (.iload_n 1, 1) := by decide +kernel
theorem d_Model_prize_1 : decode b_Model_prize 1 = .ok (.i2l, 1) := by decide +kernel
theorem d_Model_prize_2 : decode b_Model_prize 2 = .ok (.lconst 0, 1) := by decide +kernel
theorem d_Model_prize_3 : decode b_Model_prize 3 = .ok (.ldc2_w 109, 3) := by decide +kernel
theorem d_Model_prize_6 : decode b_Model_prize 6 = .ok (.invokestatic 111, 3) := by decide +kernel
theorem d_Model_prize_9 : decode b_Model_prize 9 = .ok (.ifCond .eq 15, 3) := by decide +kernel
theorem d_Model_prize_12 : decode b_Model_prize 12 = .ok (.iload_n 2, 1) := by decide +kernel
theorem d_Model_prize_13 : decode b_Model_prize 13 = .ok (.i2l, 1) := by decide +kernel
theorem d_Model_prize_14 : decode b_Model_prize 14 = .ok (.lconst 0, 1) := by decide +kernel
theorem d_Model_prize_15 : decode b_Model_prize 15 = .ok (.ldc2_w 158, 3) := by decide +kernel
theorem d_Model_prize_18 : decode b_Model_prize 18 = .ok (.invokestatic 111, 3) := by decide +kernel
theorem d_Model_prize_21 : decode b_Model_prize 21 = .ok (.ifCond .ne 6, 3) := by decide +kernel
theorem d_Model_prize_24 : decode b_Model_prize 24 = .ok (.bipush (-2), 2) := by decide +kernel
theorem d_Model_prize_26 : decode b_Model_prize 26 = .ok (.ireturn, 1) := by decide +kernel
theorem d_Model_prize_27 : decode b_Model_prize 27 = .ok (.aload_n 0, 1) := by decide +kernel
theorem d_Model_prize_28 : decode b_Model_prize 28 = .ok (.getfield 13, 3) := by decide +kernel
theorem d_Model_prize_31 : decode b_Model_prize 31 = .ok (.iload_n 1, 1) := by decide +kernel
theorem d_Model_prize_32 : decode b_Model_prize 32 = .ok (.iaload, 1) := by decide +kernel
theorem d_Model_prize_33 : decode b_Model_prize 33 = .ok (.istore_n 3, 1) := by decide +kernel
theorem d_Model_prize_34 : decode b_Model_prize 34 = .ok (.aload_n 0, 1) := by decide +kernel
theorem d_Model_prize_35 : decode b_Model_prize 35 = .ok (.getfield 13, 3) := by decide +kernel
theorem d_Model_prize_38 : decode b_Model_prize 38 = .ok (.iload_n 1, 1) := by decide +kernel
theorem d_Model_prize_39 : decode b_Model_prize 39 = .ok (.iload_n 2, 1) := by decide +kernel
theorem d_Model_prize_40 : decode b_Model_prize 40 = .ok (.iastore, 1) := by decide +kernel
theorem d_Model_prize_41 : decode b_Model_prize 41 = .ok (.iload_n 3, 1) := by decide +kernel
theorem d_Model_prize_42 : decode b_Model_prize 42 = .ok (.ireturn, 1) := by decide +kernel
theorem d_Model_mean_0 : decode b_Model_mean 0 = .ok (.iload_n 1, 1) := by decide +kernel
theorem d_Model_mean_1 : decode b_Model_mean 1 = .ok (.i2l, 1) := by decide +kernel
theorem d_Model_mean_2 : decode b_Model_mean 2 = .ok (.lconst 0, 1) := by decide +kernel
theorem d_Model_mean_3 : decode b_Model_mean 3 = .ok (.lconst 1, 1) := by decide +kernel
theorem d_Model_mean_4 : decode b_Model_mean 4 = .ok (.invokestatic 111, 3) := by decide +kernel
theorem d_Model_mean_7 : decode b_Model_mean 7 = .ok (.ifCond .ne 7, 3) := by decide +kernel
theorem d_Model_mean_10 : decode b_Model_mean 10 = .ok (.ldc2_w 152, 3) := by decide +kernel
theorem d_Model_mean_13 : decode b_Model_mean 13 = .ok (.lreturn, 1) := by decide +kernel
theorem d_Model_mean_14 : decode b_Model_mean 14 = .ok (.lconst 0, 1) := by decide +kernel
theorem d_Model_mean_15 : decode b_Model_mean 15 = .ok (.lstore_n 2, 1) := by decide +kernel
theorem d_Model_mean_16 : decode b_Model_mean 16 = .ok (.iconst 0, 1) := by decide +kernel
theorem d_Model_mean_17 : decode b_Model_mean 17 = .ok (.istore 4, 2) := by decide +kernel
theorem d_Model_mean_19 : decode b_Model_mean 19 = .ok (.iload 4, 2) := by decide +kernel
theorem d_Model_mean_21 : decode b_Model_mean 21 = .ok (.aload_n 0, 1) := by decide +kernel
theorem d_Model_mean_22 : decode b_Model_mean 22 = .ok (.getfield 86, 3) := by decide +kernel
theorem d_Model_mean_25 : decode b_Model_mean 25 = .ok (.if_icmp .ge 24, 3) := by decide +kernel
theorem d_Model_mean_28 : decode b_Model_mean 28 = .ok (.lload_n 2, 1) := by decide +kernel
theorem d_Model_mean_29 : decode b_Model_mean 29 = .ok (.aload_n 0, 1) := by decide +kernel
theorem d_Model_mean_30 : decode b_Model_mean 30 = .ok (.aload_n 0, 1) := by decide +kernel
theorem d_Model_mean_31 : decode b_Model_mean 31 = .ok (.getfield 25, 3) := by decide +kernel
theorem d_Model_mean_34 : decode b_Model_mean 34 = .ok (.iload 4, 2) := by decide +kernel
theorem d_Model_mean_36 : decode b_Model_mean 36 = .ok (.iaload, 1) := by decide +kernel
theorem d_Model_mean_37 : decode b_Model_mean 37 = .ok (.invokevirtual 160, 3) := by decide +kernel
theorem d_Model_mean_40 : decode b_Model_mean 40 = .ok (.i2l, 1) := by decide +kernel
theorem d_Model_mean_41 : decode b_Model_mean 41 = .ok (.ladd, 1) := by decide +kernel
theorem d_Model_mean_42 : decode b_Model_mean 42 = .ok (.lstore_n 2, 1) := by decide +kernel
theorem d_Model_mean_43 : decode b_Model_mean 43 = .ok (.iinc 4 1, 3) := by decide +kernel
theorem d_Model_mean_46 : decode b_Model_mean 46 = .ok (.goto (-27), 3) := by decide +kernel
theorem d_Model_mean_49 : decode b_Model_mean 49 = .ok (.lload_n 2, 1) := by decide +kernel
theorem d_Model_mean_50 : decode b_Model_mean 50 = .ok (.aload_n 0, 1) := by decide +kernel
theorem d_Model_mean_51 : decode b_Model_mean 51 = .ok (.getfield 86, 3) := by decide +kernel
theorem d_Model_mean_54 : decode b_Model_mean 54 = .ok (.i2l, 1) := by decide +kernel
theorem d_Model_mean_55 : decode b_Model_mean 55 = .ok (.iload_n 1, 1) := by decide +kernel
theorem d_Model_mean_56 : decode b_Model_mean 56 = .ok (.invokestatic 154, 3) := by decide +kernel
theorem d_Model_mean_59 : decode b_Model_mean 59 = .ok (.lreturn, 1) := by decide +kernel
theorem d_Model_penceBy_0 : decode b_Model_penceBy 0 = .ok (.iconst 0, 1) := by decide +kernel
theorem d_Model_penceBy_1 : decode b_Model_penceBy 1 = .ok (.istore_n 2, 1) := by decide +kernel
theorem d_Model_penceBy_2 : decode b_Model_penceBy 2 = .ok (.iconst 0, 1) := by decide +kernel
theorem d_Model_penceBy_3 : decode b_Model_penceBy 3 = .ok (.istore_n 3, 1) := by decide +kernel
theorem d_Model_penceBy_4 : decode b_Model_penceBy 4 = .ok (.iload_n 3, 1) := by decide +kernel
theorem d_Model_penceBy_5 : decode b_Model_penceBy 5 = .ok (.aload_n 0, 1) := by decide +kernel
theorem d_Model_penceBy_6 : decode b_Model_penceBy 6 = .ok (.getfield 74, 3) := by decide +kernel
theorem d_Model_penceBy_9 : decode b_Model_penceBy 9 = .ok (.if_icmp .ge 29, 3) := by decide +kernel
theorem d_Model_penceBy_12 : decode b_Model_penceBy 12 = .ok (.iload_n 2, 1) := by decide +kernel
theorem d_Model_penceBy_13 : decode b_Model_penceBy 13 = .ok (.aload_n 0, 1) := by decide +kernel
theorem d_Model_penceBy_14 : decode b_Model_penceBy 14 = .ok (.getfield 13, 3) := by decide +kernel
theorem d_Model_penceBy_17 : decode b_Model_penceBy 17 = .ok (.aload_n 0, 1) := by decide +kernel
theorem d_Model_penceBy_18 : decode b_Model_penceBy 18 = .ok (.getfield 7, 3) := by decide +kernel
theorem d_Model_penceBy_21 : decode b_Model_penceBy 21 = .ok (.iload_n 3, 1) := by decide +kernel
theorem d_Model_penceBy_22 : decode b_Model_penceBy 22 = .ok (.iaload, 1) := by decide +kernel
theorem d_Model_penceBy_23 : decode b_Model_penceBy 23 = .ok (.iload_n 1, 1) := by decide +kernel
theorem d_Model_penceBy_24 : decode b_Model_penceBy 24 = .ok (.iand, 1) := by decide +kernel
theorem d_Model_penceBy_25 : decode b_Model_penceBy 25 = .ok (.i2l, 1) := by decide +kernel
theorem d_Model_penceBy_26 : decode b_Model_penceBy 26 = .ok (.invokestatic 92, 3) := by decide +kernel
theorem d_Model_penceBy_29 : decode b_Model_penceBy 29 = .ok (.iaload, 1) := by decide +kernel
theorem d_Model_penceBy_30 : decode b_Model_penceBy 30 = .ok (.iadd, 1) := by decide +kernel
theorem d_Model_penceBy_31 : decode b_Model_penceBy 31 = .ok (.istore_n 2, 1) := by decide +kernel
theorem d_Model_penceBy_32 : decode b_Model_penceBy 32 = .ok (.iinc 3 1, 3) := by decide +kernel
theorem d_Model_penceBy_35 : decode b_Model_penceBy 35 = .ok (.goto (-31), 3) := by decide +kernel
theorem d_Model_penceBy_38 : decode b_Model_penceBy 38 = .ok (.iload_n 2, 1) := by decide +kernel
theorem d_Model_penceBy_39 : decode b_Model_penceBy 39 = .ok (.ireturn, 1) := by decide +kernel
theorem d_Model_most_0 : decode b_Model_most 0 = .ok (.iload_n 1, 1) := by decide +kernel
theorem d_Model_most_1 : decode b_Model_most 1 = .ok (.i2l, 1) := by decide +kernel
theorem d_Model_most_2 : decode b_Model_most 2 = .ok (.lconst 1, 1) := by decide +kernel
theorem d_Model_most_3 : decode b_Model_most 3 = .ok (.ldc2_w 107, 3) := by decide +kernel
theorem d_Model_most_6 : decode b_Model_most 6 = .ok (.invokestatic 111, 3) := by decide +kernel
theorem d_Model_most_9 : decode b_Model_most 9 = .ok (.ifCond .ne 6, 3) := by decide +kernel
theorem d_Model_most_12 : decode b_Model_most 12 = .ok (.bipush (-2), 2) := by decide +kernel
theorem d_Model_most_14 : decode b_Model_most 14 = .ok (.ireturn, 1) := by decide +kernel
theorem d_Model_most_15 : decode b_Model_most 15 = .ok (.aload_n 0, 1) := by decide +kernel
theorem d_Model_most_16 : decode b_Model_most 16 = .ok (.invokevirtual 176, 3) := by decide +kernel
theorem d_Model_most_19 : decode b_Model_most 19 = .ok (.aload_n 0, 1) := by decide +kernel
theorem d_Model_most_20 : decode b_Model_most 20 = .ok (.getfield 164, 3) := by decide +kernel
theorem d_Model_most_23 : decode b_Model_most 23 = .ok (.iload_n 1, 1) := by decide +kernel
theorem d_Model_most_24 : decode b_Model_most 24 = .ok (.if_icmp .ge 6, 3) := by decide +kernel
theorem d_Model_most_27 : decode b_Model_most 27 = .ok (.bipush (-6), 2) := by decide +kernel
theorem d_Model_most_29 : decode b_Model_most 29 = .ok (.ireturn, 1) := by decide +kernel
theorem d_Model_most_30 : decode b_Model_most 30 = .ok (.aload_n 0, 1) := by decide +kernel
theorem d_Model_most_31 : decode b_Model_most 31 = .ok (.iload_n 1, 1) := by decide +kernel
theorem d_Model_most_32 : decode b_Model_most 32 = .ok (.invokevirtual 179, 3) := by decide +kernel
theorem d_Model_most_35 : decode b_Model_most 35 = .ok (.istore_n 3, 1) := by decide +kernel
theorem d_Model_most_36 : decode b_Model_most 36 = .ok (.iload_n 2, 1) := by decide +kernel
theorem d_Model_most_37 : decode b_Model_most 37 = .ok (.iconst (-1), 1) := by decide +kernel
theorem d_Model_most_38 : decode b_Model_most 38 = .ok (.if_icmp .ne 7, 3) := by decide +kernel
theorem d_Model_most_41 : decode b_Model_most 41 = .ok (.iload_n 3, 1) := by decide +kernel
theorem d_Model_most_42 : decode b_Model_most 42 = .ok (.goto 27, 3) := by decide +kernel
theorem d_Model_most_45 : decode b_Model_most 45 = .ok (.iload_n 2, 1) := by decide +kernel
theorem d_Model_most_46 : decode b_Model_most 46 = .ok (.i2l, 1) := by decide +kernel
theorem d_Model_most_47 : decode b_Model_most 47 = .ok (.lconst 0, 1) := by decide +kernel
theorem d_Model_most_48 : decode b_Model_most 48 = .ok (.iload_n 1, 1) := by decide +kernel
theorem d_Model_most_49 : decode b_Model_most 49 = .ok (.iconst 1, 1) := by decide +kernel
theorem d_Model_most_50 : decode b_Model_most 50 = .ok (.isub, 1) := by decide +kernel
theorem d_Model_most_51 : decode b_Model_most 51 = .ok (.i2l, 1) := by decide +kernel
theorem d_Model_most_52 : decode b_Model_most 52 = .ok (.invokestatic 111, 3) := by decide +kernel
theorem d_Model_most_55 : decode b_Model_most 55 = .ok (.ifCond .eq 12, 3) := by decide +kernel
theorem d_Model_most_58 : decode b_Model_most 58 = .ok (.aload_n 0, 1) := by decide +kernel
theorem d_Model_most_59 : decode b_Model_most 59 = .ok (.getfield 47, 3) := by decide +kernel
theorem d_Model_most_62 : decode b_Model_most 62 = .ok (.iload_n 2, 1) := by decide +kernel
theorem d_Model_most_63 : decode b_Model_most 63 = .ok (.iaload, 1) := by decide +kernel
theorem d_Model_most_64 : decode b_Model_most 64 = .ok (.goto 5, 3) := by decide +kernel
theorem d_Model_most_67 : decode b_Model_most 67 = .ok (.bipush (-6), 2) := by decide +kernel
theorem d_Model_most_69 : decode b_Model_most 69 = .ok (.ireturn, 1) := by decide +kernel
theorem d_Model_findCould_0 : decode b_Model_findCould 0 = .ok (.aload_n 0, 1) := by decide +kernel
theorem d_Model_findCould_1 : decode b_Model_findCould 1 = .ok (.iconst 0, 1) := by decide +kernel
theorem d_Model_findCould_2 : decode b_Model_findCould 2 = .ok (.putfield 164, 3) := by decide +kernel
theorem d_Model_findCould_5 : decode b_Model_findCould 5 = .ok (.iconst 0, 1) := by decide +kernel
theorem d_Model_findCould_6 : decode b_Model_findCould 6 = .ok (.istore_n 1, 1) := by decide +kernel
theorem d_Model_findCould_7 : decode b_Model_findCould 7 = .ok (.iload_n 1, 1) := by decide +kernel
theorem d_Model_findCould_8 : decode b_Model_findCould 8 = .ok (.aload_n 0, 1) := by decide +kernel
theorem d_Model_findCould_9 : decode b_Model_findCould 9 = .ok (.getfield 89, 3) := by decide +kernel
theorem d_Model_findCould_12 : decode b_Model_findCould 12 = .ok (.if_icmp .ge 47, 3) := by decide +kernel
theorem d_Model_findCould_15 : decode b_Model_findCould 15 = .ok (.aload_n 0, 1) := by decide +kernel
theorem d_Model_findCould_16 : decode b_Model_findCould 16 = .ok (.getfield 28, 3) := by decide +kernel
theorem d_Model_findCould_19 : decode b_Model_findCould 19 = .ok (.iload_n 1, 1) := by decide +kernel
theorem d_Model_findCould_20 : decode b_Model_findCould 20 = .ok (.iaload, 1) := by decide +kernel
theorem d_Model_findCould_21 : decode b_Model_findCould 21 = .ok (.aload_n 0, 1) := by decide +kernel
theorem d_Model_findCould_22 : decode b_Model_findCould 22 = .ok (.getfield 77, 3) := by decide +kernel
theorem d_Model_findCould_25 : decode b_Model_findCould 25 = .ok (.iand, 1) := by decide +kernel
theorem d_Model_findCould_26 : decode b_Model_findCould 26 = .ok (.aload_n 0, 1) := by decide +kernel
theorem d_Model_findCould_27 : decode b_Model_findCould 27 = .ok (.getfield 77, 3) := by decide +kernel
theorem d_Model_findCould_30 : decode b_Model_findCould 30 = .ok (.if_icmp .ne 23, 3) := by decide +kernel
theorem d_Model_findCould_33 : decode b_Model_findCould 33 = .ok (.aload_n 0, 1) := by decide +kernel
theorem d_Model_findCould_34 : decode b_Model_findCould 34 = .ok (.getfield 41, 3) := by decide +kernel
theorem d_Model_findCould_37 : decode b_Model_findCould 37 = .ok (.aload_n 0, 1) := by decide +kernel
theorem d_Model_findCould_38 : decode b_Model_findCould 38 = .ok (.getfield 164, 3) := by decide +kernel
theorem d_Model_findCould_41 : decode b_Model_findCould 41 = .ok (.iload_n 1, 1) := by decide +kernel
theorem d_Model_findCould_42 : decode b_Model_findCould 42 = .ok (.iastore, 1) := by decide +kernel
theorem d_Model_findCould_43 : decode b_Model_findCould 43 = .ok (.aload_n 0, 1) := by decide +kernel
theorem d_Model_findCould_44 : decode b_Model_findCould 44 = .ok (.dup, 1) := by decide +kernel
theorem d_Model_findCould_45 : decode b_Model_findCould 45 = .ok (.getfield 164, 3) := by decide +kernel
theorem d_Model_findCould_48 : decode b_Model_findCould 48 = .ok (.iconst 1, 1) := by decide +kernel
theorem d_Model_findCould_49 : decode b_Model_findCould 49 = .ok (.iadd, 1) := by decide +kernel
theorem d_Model_findCould_50 : decode b_Model_findCould 50 = .ok (.putfield 164, 3) := by decide +kernel
theorem d_Model_findCould_53 : decode b_Model_findCould 53 = .ok (.iinc 1 1, 3) := by decide +kernel
theorem d_Model_findCould_56 : decode b_Model_findCould 56 = .ok (.goto (-49), 3) := by decide +kernel
theorem d_Model_findCould_59 : decode b_Model_findCould 59 = .ok (.return_, 1) := by decide +kernel
theorem d_Model_findMost_0 : decode b_Model_findMost 0 = .ok (.iconst (-1), 1) := by decide +kernel
theorem d_Model_findMost_1 : decode b_Model_findMost 1 = .ok (.istore_n 2, 1) := by decide +kernel
theorem d_Model_findMost_2 : decode b_Model_findMost 2 = .ok (.aload_n 0, 1) := by decide +kernel
theorem d_Model_findMost_3 : decode b_Model_findMost 3 = .ok (.iload_n 1, 1) := by decide +kernel
theorem d_Model_findMost_4 : decode b_Model_findMost 4 = .ok (.invokevirtual 167, 3) := by decide +kernel
theorem d_Model_findMost_7 : decode b_Model_findMost 7 = .ok (.iconst 1, 1) := by decide +kernel
theorem d_Model_findMost_8 : decode b_Model_findMost 8 = .ok (.istore_n 3, 1) := by decide +kernel
theorem d_Model_findMost_9 : decode b_Model_findMost 9 = .ok (.iload_n 3, 1) := by decide +kernel
theorem d_Model_findMost_10 : decode b_Model_findMost 10 = .ok (.ifCond .eq 83, 3) := by decide +kernel
theorem d_Model_findMost_13 : decode b_Model_findMost 13 = .ok (.aload_n 0, 1) := by decide +kernel
theorem d_Model_findMost_14 : decode b_Model_findMost 14 = .ok (.iload_n 1, 1) := by decide +kernel
theorem d_Model_findMost_15 : decode b_Model_findMost 15 = .ok (.invokevirtual 170, 3) := by decide +kernel
theorem d_Model_findMost_18 : decode b_Model_findMost 18 = .ok (.istore 4, 2) := by decide +kernel
theorem d_Model_findMost_20 : decode b_Model_findMost 20 = .ok (.iload 4, 2) := by decide +kernel
theorem d_Model_findMost_22 : decode b_Model_findMost 22 = .ok (.iload_n 2, 1) := by decide +kernel
theorem d_Model_findMost_23 : decode b_Model_findMost 23 = .ok (.if_icmp .le 45, 3) := by decide +kernel
theorem d_Model_findMost_26 : decode b_Model_findMost 26 = .ok (.iload 4, 2) := by decide +kernel
theorem d_Model_findMost_28 : decode b_Model_findMost 28 = .ok (.istore_n 2, 1) := by decide +kernel
theorem d_Model_findMost_29 : decode b_Model_findMost 29 = .ok (.iconst 0, 1) := by decide +kernel
theorem d_Model_findMost_30 : decode b_Model_findMost 30 = .ok (.istore 5, 2) := by decide +kernel
theorem d_Model_findMost_32 : decode b_Model_findMost 32 = .ok (.iload 5, 2) := by decide +kernel
theorem d_Model_findMost_34 : decode b_Model_findMost 34 = .ok (.iload_n 1, 1) := by decide +kernel
theorem d_Model_findMost_35 : decode b_Model_findMost 35 = .ok (.if_icmp .ge 33, 3) := by decide +kernel
theorem d_Model_findMost_38 : decode b_Model_findMost 38 = .ok (.aload_n 0, 1) := by decide +kernel
theorem d_Model_findMost_39 : decode b_Model_findMost 39 = .ok (.getfield 47, 3) := by decide +kernel
theorem d_Model_findMost_42 : decode b_Model_findMost 42 = .ok (.iload 5, 2) := by decide +kernel
theorem d_Model_findMost_44 : decode b_Model_findMost 44 = .ok (.aload_n 0, 1) := by decide +kernel
theorem d_Model_findMost_45 : decode b_Model_findMost 45 = .ok (.getfield 28, 3) := by decide +kernel
theorem d_Model_findMost_48 : decode b_Model_findMost 48 = .ok (.aload_n 0, 1) := by decide +kernel
theorem d_Model_findMost_49 : decode b_Model_findMost 49 = .ok (.getfield 41, 3) := by decide +kernel
theorem d_Model_findMost_52 : decode b_Model_findMost 52 = .ok (.aload_n 0, 1) := by decide +kernel
theorem d_Model_findMost_53 : decode b_Model_findMost 53 = .ok (.getfield 44, 3) := by decide +kernel
theorem d_Model_findMost_56 : decode b_Model_findMost 56 = .ok (.iload 5, 2) := by decide +kernel
theorem d_Model_findMost_58 : decode b_Model_findMost 58 = .ok (.iaload, 1) := by decide +kernel
theorem d_Model_findMost_59 : decode b_Model_findMost 59 = .ok (.iaload, 1) := by decide +kernel
theorem d_Model_findMost_60 : decode b_Model_findMost 60 = .ok (.iaload, 1) := by decide +kernel
theorem d_Model_findMost_61 : decode b_Model_findMost 61 = .ok (.iastore, 1) := by decide +kernel
theorem d_Model_findMost_62 : decode b_Model_findMost 62 = .ok (.iinc 5 1, 3) := by decide +kernel
theorem d_Model_findMost_65 : decode b_Model_findMost 65 = .ok (.goto (-33), 3) := by decide +kernel
theorem d_Model_findMost_68 : decode b_Model_findMost 68 = .ok (.iload_n 2, 1) := by decide +kernel
theorem d_Model_findMost_69 : decode b_Model_findMost 69 = .ok (.aload_n 0, 1) := by decide +kernel
theorem d_Model_findMost_70 : decode b_Model_findMost 70 = .ok (.getfield 86, 3) := by decide +kernel
theorem d_Model_findMost_73 : decode b_Model_findMost 73 = .ok (.if_icmp .ge 15, 3) := by decide +kernel
theorem d_Model_findMost_76 : decode b_Model_findMost 76 = .ok (.aload_n 0, 1) := by decide +kernel
theorem d_Model_findMost_77 : decode b_Model_findMost 77 = .ok (.iload_n 1, 1) := by decide +kernel
theorem d_Model_findMost_78 : decode b_Model_findMost 78 = .ok (.invokevirtual 173, 3) := by decide +kernel
theorem d_Model_findMost_81 : decode b_Model_findMost 81 = .ok (.ifCond .eq 7, 3) := by decide +kernel
theorem d_Model_findMost_84 : decode b_Model_findMost 84 = .ok (.iconst 1, 1) := by decide +kernel
theorem d_Model_findMost_85 : decode b_Model_findMost 85 = .ok (.goto 4, 3) := by decide +kernel
theorem d_Model_findMost_88 : decode b_Model_findMost 88 = .ok (.iconst 0, 1) := by decide +kernel
theorem d_Model_findMost_89 : decode b_Model_findMost 89 = .ok (.istore_n 3, 1) := by decide +kernel
theorem d_Model_findMost_90 : decode b_Model_findMost 90 = .ok (.goto (-81), 3) := by decide +kernel
theorem d_Model_findMost_93 : decode b_Model_findMost 93 = .ok (.iload_n 2, 1) := by decide +kernel
theorem d_Model_findMost_94 : decode b_Model_findMost 94 = .ok (.ireturn, 1) := by decide +kernel
theorem d_Model_layRow_0 : decode b_Model_layRow 0 = .ok (.iconst 0, 1) := by decide +kernel
theorem d_Model_layRow_1 : decode b_Model_layRow 1 = .ok (.istore_n 2, 1) := by decide +kernel
theorem d_Model_layRow_2 : decode b_Model_layRow 2 = .ok (.iload_n 2, 1) := by decide +kernel
theorem d_Model_layRow_3 : decode b_Model_layRow 3 = .ok (.iload_n 1, 1) := by decide +kernel
theorem d_Model_layRow_4 : decode b_Model_layRow 4 = .ok (.if_icmp .ge 16, 3) := by decide +kernel
theorem d_Model_layRow_7 : decode b_Model_layRow 7 = .ok (.aload_n 0, 1) := by decide +kernel
theorem d_Model_layRow_8 : decode b_Model_layRow 8 = .ok (.getfield 44, 3) := by decide +kernel
theorem d_Model_layRow_11 : decode b_Model_layRow 11 = .ok (.iload_n 2, 1) := by decide +kernel
theorem d_Model_layRow_12 : decode b_Model_layRow 12 = .ok (.iload_n 2, 1) := by decide +kernel
theorem d_Model_layRow_13 : decode b_Model_layRow 13 = .ok (.iastore, 1) := by decide +kernel
theorem d_Model_layRow_14 : decode b_Model_layRow 14 = .ok (.iinc 2 1, 3) := by decide +kernel
theorem d_Model_layRow_17 : decode b_Model_layRow 17 = .ok (.goto (-15), 3) := by decide +kernel
theorem d_Model_layRow_20 : decode b_Model_layRow 20 = .ok (.return_, 1) := by decide +kernel
theorem d_Model_wonByRow_0 : decode b_Model_wonByRow 0 = .ok (.aload_n 0, 1) := by decide +kernel
theorem d_Model_wonByRow_1 : decode b_Model_wonByRow 1 = .ok (.lconst 0, 1) := by decide +kernel
theorem d_Model_wonByRow_2 : decode b_Model_wonByRow 2 = .ok (.putfield 135, 3) := by decide +kernel
theorem d_Model_wonByRow_5 : decode b_Model_wonByRow 5 = .ok (.aload_n 0, 1) := by decide +kernel
theorem d_Model_wonByRow_6 : decode b_Model_wonByRow 6 = .ok (.lconst 0, 1) := by decide +kernel
theorem d_Model_wonByRow_7 : decode b_Model_wonByRow 7 = .ok (.putfield 139, 3) := by decide +kernel
theorem d_Model_wonByRow_10 : decode b_Model_wonByRow 10 = .ok (.iconst 0, 1) := by decide +kernel
theorem d_Model_wonByRow_11 : decode b_Model_wonByRow 11 = .ok (.istore_n 2, 1) := by decide +kernel
theorem d_Model_wonByRow_12 : decode b_Model_wonByRow 12 = .ok (.iload_n 2, 1) := by decide +kernel
theorem d_Model_wonByRow_13 : decode b_Model_wonByRow 13 = .ok (.iload_n 1, 1) := by decide +kernel
theorem d_Model_wonByRow_14 : decode b_Model_wonByRow 14 = .ok (.if_icmp .ge 59, 3) := by decide +kernel
theorem d_Model_wonByRow_17 : decode b_Model_wonByRow 17 = .ok (.aload_n 0, 1) := by decide +kernel
theorem d_Model_wonByRow_18 : decode b_Model_wonByRow 18 = .ok (.dup, 1) := by decide +kernel
theorem d_Model_wonByRow_19 : decode b_Model_wonByRow 19 = .ok (.getfield 135, 3) := by decide +kernel
theorem d_Model_wonByRow_22 : decode b_Model_wonByRow 22 = .ok (.aload_n 0, 1) := by decide +kernel
theorem d_Model_wonByRow_23 : decode b_Model_wonByRow 23 = .ok (.getfield 31, 3) := by decide +kernel
theorem d_Model_wonByRow_26 : decode b_Model_wonByRow 26 = .ok (.aload_n 0, 1) := by decide +kernel
theorem d_Model_wonByRow_27 : decode b_Model_wonByRow 27 = .ok (.getfield 41, 3) := by decide +kernel
theorem d_Model_wonByRow_30 : decode b_Model_wonByRow 30 = .ok (.aload_n 0, 1) := by decide +kernel
theorem d_Model_wonByRow_31 : decode b_Model_wonByRow 31 = .ok (.getfield 44, 3) := by decide +kernel
theorem d_Model_wonByRow_34 : decode b_Model_wonByRow 34 = .ok (.iload_n 2, 1) := by decide +kernel
theorem d_Model_wonByRow_35 : decode b_Model_wonByRow 35 = .ok (.iaload, 1) := by decide +kernel
theorem d_Model_wonByRow_36 : decode b_Model_wonByRow 36 = .ok (.iaload, 1) := by decide +kernel
theorem d_Model_wonByRow_37 : decode b_Model_wonByRow 37 = .ok (.laload, 1) := by decide +kernel
theorem d_Model_wonByRow_38 : decode b_Model_wonByRow 38 = .ok (.lor, 1) := by decide +kernel
theorem d_Model_wonByRow_39 : decode b_Model_wonByRow 39 = .ok (.putfield 135, 3) := by decide +kernel
theorem d_Model_wonByRow_42 : decode b_Model_wonByRow 42 = .ok (.aload_n 0, 1) := by decide +kernel
theorem d_Model_wonByRow_43 : decode b_Model_wonByRow 43 = .ok (.dup, 1) := by decide +kernel
theorem d_Model_wonByRow_44 : decode b_Model_wonByRow 44 = .ok (.getfield 139, 3) := by decide +kernel
theorem d_Model_wonByRow_47 : decode b_Model_wonByRow 47 = .ok (.aload_n 0, 1) := by decide +kernel
theorem d_Model_wonByRow_48 : decode b_Model_wonByRow 48 = .ok (.getfield 35, 3) := by decide +kernel
theorem d_Model_wonByRow_51 : decode b_Model_wonByRow 51 = .ok (.aload_n 0, 1) := by decide +kernel
theorem d_Model_wonByRow_52 : decode b_Model_wonByRow 52 = .ok (.getfield 41, 3) := by decide +kernel
theorem d_Model_wonByRow_55 : decode b_Model_wonByRow 55 = .ok (.aload_n 0, 1) := by decide +kernel
theorem d_Model_wonByRow_56 : decode b_Model_wonByRow 56 = .ok (.getfield 44, 3) := by decide +kernel
theorem d_Model_wonByRow_59 : decode b_Model_wonByRow 59 = .ok (.iload_n 2, 1) := by decide +kernel
theorem d_Model_wonByRow_60 : decode b_Model_wonByRow 60 = .ok (.iaload, 1) := by decide +kernel
theorem d_Model_wonByRow_61 : decode b_Model_wonByRow 61 = .ok (.iaload, 1) := by decide +kernel
theorem d_Model_wonByRow_62 : decode b_Model_wonByRow 62 = .ok (.laload, 1) := by decide +kernel
theorem d_Model_wonByRow_63 : decode b_Model_wonByRow 63 = .ok (.lor, 1) := by decide +kernel
theorem d_Model_wonByRow_64 : decode b_Model_wonByRow 64 = .ok (.putfield 139, 3) := by decide +kernel
theorem d_Model_wonByRow_67 : decode b_Model_wonByRow 67 = .ok (.iinc 2 1, 3) := by decide +kernel
theorem d_Model_wonByRow_70 : decode b_Model_wonByRow 70 = .ok (.goto (-58), 3) := by decide +kernel
theorem d_Model_wonByRow_73 : decode b_Model_wonByRow 73 = .ok (.aload_n 0, 1) := by decide +kernel
theorem d_Model_wonByRow_74 : decode b_Model_wonByRow 74 = .ok (.invokevirtual 146, 3) := by decide +kernel
theorem d_Model_wonByRow_77 : decode b_Model_wonByRow 77 = .ok (.ireturn, 1) := by decide +kernel
theorem d_Model_nextRow_0 : decode b_Model_nextRow 0 = .ok (.iload_n 1, 1) := by decide +kernel
theorem d_Model_nextRow_1 : decode b_Model_nextRow 1 = .ok (.iconst 1, 1) := by decide +kernel
theorem d_Model_nextRow_2 : decode b_Model_nextRow 2 = .ok (.isub, 1) := by decide +kernel
theorem d_Model_nextRow_3 : decode b_Model_nextRow 3 = .ok (.istore_n 2, 1) := by decide +kernel
theorem d_Model_nextRow_4 : decode b_Model_nextRow 4 = .ok (.iload_n 2, 1) := by decide +kernel
theorem d_Model_nextRow_5 : decode b_Model_nextRow 5 = .ok (.ifCond .lt 26, 3) := by decide +kernel
theorem d_Model_nextRow_8 : decode b_Model_nextRow 8 = .ok (.aload_n 0, 1) := by decide +kernel
theorem d_Model_nextRow_9 : decode b_Model_nextRow 9 = .ok (.getfield 44, 3) := by decide +kernel
theorem d_Model_nextRow_12 : decode b_Model_nextRow 12 = .ok (.iload_n 2, 1) := by decide +kernel
theorem d_Model_nextRow_13 : decode b_Model_nextRow 13 = .ok (.iaload, 1) := by decide +kernel
theorem d_Model_nextRow_14 : decode b_Model_nextRow 14 = .ok (.aload_n 0, 1) := by decide +kernel
theorem d_Model_nextRow_15 : decode b_Model_nextRow 15 = .ok (.getfield 164, 3) := by decide +kernel
theorem d_Model_nextRow_18 : decode b_Model_nextRow 18 = .ok (.iload_n 1, 1) := by decide +kernel
theorem d_Model_nextRow_19 : decode b_Model_nextRow 19 = .ok (.isub, 1) := by decide +kernel
theorem d_Model_nextRow_20 : decode b_Model_nextRow 20 = .ok (.iload_n 2, 1) := by decide +kernel
theorem d_Model_nextRow_21 : decode b_Model_nextRow 21 = .ok (.iadd, 1) := by decide +kernel
theorem d_Model_nextRow_22 : decode b_Model_nextRow 22 = .ok (.if_icmp .ne 9, 3) := by decide +kernel
theorem d_Model_nextRow_25 : decode b_Model_nextRow 25 = .ok (.iinc 2 (-1), 3) := by decide +kernel
theorem d_Model_nextRow_28 : decode b_Model_nextRow 28 = .ok (.goto (-24), 3) := by decide +kernel
theorem d_Model_nextRow_31 : decode b_Model_nextRow 31 = .ok (.iload_n 2, 1) := by decide +kernel
theorem d_Model_nextRow_32 : decode b_Model_nextRow 32 = .ok (.ifCond .ge 5, 3) := by decide +kernel
theorem d_Model_nextRow_35 : decode b_Model_nextRow 35 = .ok (.iconst 0, 1) := by decide +kernel
theorem d_Model_nextRow_36 : decode b_Model_nextRow 36 = .ok (.ireturn, 1) := by decide +kernel
theorem d_Model_nextRow_37 : decode b_Model_nextRow 37 = .ok (.aload_n 0, 1) := by decide +kernel
theorem d_Model_nextRow_38 : decode b_Model_nextRow 38 = .ok (.getfield 44, 3) := by decide +kernel
theorem d_Model_nextRow_41 : decode b_Model_nextRow 41 = .ok (.iload_n 2, 1) := by decide +kernel
theorem d_Model_nextRow_42 : decode b_Model_nextRow 42 = .ok (.dup2, 1) := by decide +kernel
theorem d_Model_nextRow_43 : decode b_Model_nextRow 43 = .ok (.iaload, 1) := by decide +kernel
theorem d_Model_nextRow_44 : decode b_Model_nextRow 44 = .ok (.iconst 1, 1) := by decide +kernel
theorem d_Model_nextRow_45 : decode b_Model_nextRow 45 = .ok (.iadd, 1) := by decide +kernel
theorem d_Model_nextRow_46 : decode b_Model_nextRow 46 = .ok (.iastore, 1) := by decide +kernel
theorem d_Model_nextRow_47 : decode b_Model_nextRow 47 = .ok (.iload_n 2, 1) := by decide +kernel
theorem d_Model_nextRow_48 : decode b_Model_nextRow 48 = .ok (.iconst 1, 1) := by decide +kernel
theorem d_Model_nextRow_49 : decode b_Model_nextRow 49 = .ok (.iadd, 1) := by decide +kernel
theorem d_Model_nextRow_50 : decode b_Model_nextRow 50 = .ok (.istore_n 3, 1) := by decide +kernel
theorem d_Model_nextRow_51 : decode b_Model_nextRow 51 = .ok (.iload_n 3, 1) := by decide +kernel
theorem d_Model_nextRow_52 : decode b_Model_nextRow 52 = .ok (.iload_n 1, 1) := by decide +kernel
theorem d_Model_nextRow_53 : decode b_Model_nextRow 53 = .ok (.if_icmp .ge 25, 3) := by decide +kernel
theorem d_Model_nextRow_56 : decode b_Model_nextRow 56 = .ok (.aload_n 0, 1) := by decide +kernel
theorem d_Model_nextRow_57 : decode b_Model_nextRow 57 = .ok (.getfield 44, 3) := by decide +kernel
theorem d_Model_nextRow_60 : decode b_Model_nextRow 60 = .ok (.iload_n 3, 1) := by decide +kernel
theorem d_Model_nextRow_61 : decode b_Model_nextRow 61 = .ok (.aload_n 0, 1) := by decide +kernel
theorem d_Model_nextRow_62 : decode b_Model_nextRow 62 = .ok (.getfield 44, 3) := by decide +kernel
theorem d_Model_nextRow_65 : decode b_Model_nextRow 65 = .ok (.iload_n 3, 1) := by decide +kernel
theorem d_Model_nextRow_66 : decode b_Model_nextRow 66 = .ok (.iconst 1, 1) := by decide +kernel
theorem d_Model_nextRow_67 : decode b_Model_nextRow 67 = .ok (.isub, 1) := by decide +kernel
theorem d_Model_nextRow_68 : decode b_Model_nextRow 68 = .ok (.iaload, 1) := by decide +kernel
theorem d_Model_nextRow_69 : decode b_Model_nextRow 69 = .ok (.iconst 1, 1) := by decide +kernel
theorem d_Model_nextRow_70 : decode b_Model_nextRow 70 = .ok (.iadd, 1) := by decide +kernel
theorem d_Model_nextRow_71 : decode b_Model_nextRow 71 = .ok (.iastore, 1) := by decide +kernel
theorem d_Model_nextRow_72 : decode b_Model_nextRow 72 = .ok (.iinc 3 1, 3) := by decide +kernel
theorem d_Model_nextRow_75 : decode b_Model_nextRow 75 = .ok (.goto (-24), 3) := by decide +kernel
theorem d_Model_nextRow_78 : decode b_Model_nextRow 78 = .ok (.iconst 1, 1) := by decide +kernel
theorem d_Model_nextRow_79 : decode b_Model_nextRow 79 = .ok (.ireturn, 1) := by decide +kernel
theorem d_Model_sure_0 : decode b_Model_sure 0 = .ok (.aload_n 0, 1) := by decide +kernel
theorem d_Model_sure_1 : decode b_Model_sure 1 = .ok (.invokevirtual 176, 3) := by decide +kernel
theorem d_Model_sure_4 : decode b_Model_sure 4 = .ok (.iconst 1, 1) := by decide +kernel
theorem d_Model_sure_5 : decode b_Model_sure 5 = .ok (.istore_n 2, 1) := by decide +kernel
theorem d_Model_sure_6 : decode b_Model_sure 6 = .ok (.iload_n 2, 1) := by decide +kernel
theorem d_Model_sure_7 : decode b_Model_sure 7 = .ok (.iconst 5, 1) := by decide +kernel
theorem d_Model_sure_8 : decode b_Model_sure 8 = .ok (.if_icmp .ge 63, 3) := by decide +kernel
theorem d_Model_sure_11 : decode b_Model_sure 11 = .ok (.iload_n 2, 1) := by decide +kernel
theorem d_Model_sure_12 : decode b_Model_sure 12 = .ok (.aload_n 0, 1) := by decide +kernel
theorem d_Model_sure_13 : decode b_Model_sure 13 = .ok (.getfield 164, 3) := by decide +kernel
theorem d_Model_sure_16 : decode b_Model_sure 16 = .ok (.if_icmp .gt 55, 3) := by decide +kernel
theorem d_Model_sure_19 : decode b_Model_sure 19 = .ok (.aload_n 0, 1) := by decide +kernel
theorem d_Model_sure_20 : decode b_Model_sure 20 = .ok (.iload_n 2, 1) := by decide +kernel
theorem d_Model_sure_21 : decode b_Model_sure 21 = .ok (.invokevirtual 179, 3) := by decide +kernel
theorem d_Model_sure_24 : decode b_Model_sure 24 = .ok (.aload_n 0, 1) := by decide +kernel
theorem d_Model_sure_25 : decode b_Model_sure 25 = .ok (.getfield 86, 3) := by decide +kernel
theorem d_Model_sure_28 : decode b_Model_sure 28 = .ok (.if_icmp .ne 37, 3) := by decide +kernel
theorem d_Model_sure_31 : decode b_Model_sure 31 = .ok (.iload_n 1, 1) := by decide +kernel
theorem d_Model_sure_32 : decode b_Model_sure 32 = .ok (.iconst (-1), 1) := by decide +kernel
theorem d_Model_sure_33 : decode b_Model_sure 33 = .ok (.if_icmp .ne 7, 3) := by decide +kernel
theorem d_Model_sure_36 : decode b_Model_sure 36 = .ok (.iload_n 2, 1) := by decide +kernel
theorem d_Model_sure_37 : decode b_Model_sure 37 = .ok (.goto 27, 3) := by decide +kernel
theorem d_Model_sure_40 : decode b_Model_sure 40 = .ok (.iload_n 1, 1) := by decide +kernel
theorem d_Model_sure_41 : decode b_Model_sure 41 = .ok (.i2l, 1) := by decide +kernel
theorem d_Model_sure_42 : decode b_Model_sure 42 = .ok (.lconst 0, 1) := by decide +kernel
theorem d_Model_sure_43 : decode b_Model_sure 43 = .ok (.iload_n 2, 1) := by decide +kernel
theorem d_Model_sure_44 : decode b_Model_sure 44 = .ok (.iconst 1, 1) := by decide +kernel
theorem d_Model_sure_45 : decode b_Model_sure 45 = .ok (.isub, 1) := by decide +kernel
theorem d_Model_sure_46 : decode b_Model_sure 46 = .ok (.i2l, 1) := by decide +kernel
theorem d_Model_sure_47 : decode b_Model_sure 47 = .ok (.invokestatic 111, 3) := by decide +kernel
theorem d_Model_sure_50 : decode b_Model_sure 50 = .ok (.ifCond .eq 12, 3) := by decide +kernel
theorem d_Model_sure_53 : decode b_Model_sure 53 = .ok (.aload_n 0, 1) := by decide +kernel
theorem d_Model_sure_54 : decode b_Model_sure 54 = .ok (.getfield 47, 3) := by decide +kernel
theorem d_Model_sure_57 : decode b_Model_sure 57 = .ok (.iload_n 1, 1) := by decide +kernel
theorem d_Model_sure_58 : decode b_Model_sure 58 = .ok (.iaload, 1) := by decide +kernel
theorem d_Model_sure_59 : decode b_Model_sure 59 = .ok (.goto 5, 3) := by decide +kernel
theorem d_Model_sure_62 : decode b_Model_sure 62 = .ok (.bipush (-6), 2) := by decide +kernel
theorem d_Model_sure_64 : decode b_Model_sure 64 = .ok (.ireturn, 1) := by decide +kernel
theorem d_Model_sure_65 : decode b_Model_sure 65 = .ok (.iinc 2 1, 3) := by decide +kernel
theorem d_Model_sure_68 : decode b_Model_sure 68 = .ok (.goto (-62), 3) := by decide +kernel
theorem d_Model_sure_71 : decode b_Model_sure 71 = .ok (.bipush (-6), 2) := by decide +kernel
theorem d_Model_sure_73 : decode b_Model_sure 73 = .ok (.ireturn, 1) := by decide +kernel
theorem d_Model_bound_0 : decode b_Model_bound 0 = .ok (.aload_n 0, 1) := by decide +kernel
theorem d_Model_bound_1 : decode b_Model_bound 1 = .ok (.getfield 31, 3) := by decide +kernel
theorem d_Model_bound_4 : decode b_Model_bound 4 = .ok (.iconst 0, 1) := by decide +kernel
theorem d_Model_bound_5 : decode b_Model_bound 5 = .ok (.laload, 1) := by decide +kernel
theorem d_Model_bound_6 : decode b_Model_bound 6 = .ok (.invokestatic 92, 3) := by decide +kernel
theorem d_Model_bound_9 : decode b_Model_bound 9 = .ok (.aload_n 0, 1) := by decide +kernel
theorem d_Model_bound_10 : decode b_Model_bound 10 = .ok (.getfield 35, 3) := by decide +kernel
theorem d_Model_bound_13 : decode b_Model_bound 13 = .ok (.iconst 0, 1) := by decide +kernel
theorem d_Model_bound_14 : decode b_Model_bound 14 = .ok (.laload, 1) := by decide +kernel
theorem d_Model_bound_15 : decode b_Model_bound 15 = .ok (.invokestatic 92, 3) := by decide +kernel
theorem d_Model_bound_18 : decode b_Model_bound 18 = .ok (.iadd, 1) := by decide +kernel
theorem d_Model_bound_19 : decode b_Model_bound 19 = .ok (.istore_n 1, 1) := by decide +kernel
theorem d_Model_bound_20 : decode b_Model_bound 20 = .ok (.aload_n 0, 1) := by decide +kernel
theorem d_Model_bound_21 : decode b_Model_bound 21 = .ok (.getfield 86, 3) := by decide +kernel
theorem d_Model_bound_24 : decode b_Model_bound 24 = .ok (.iload_n 1, 1) := by decide +kernel
theorem d_Model_bound_25 : decode b_Model_bound 25 = .ok (.iadd, 1) := by decide +kernel
theorem d_Model_bound_26 : decode b_Model_bound 26 = .ok (.iconst 1, 1) := by decide +kernel
theorem d_Model_bound_27 : decode b_Model_bound 27 = .ok (.isub, 1) := by decide +kernel
theorem d_Model_bound_28 : decode b_Model_bound 28 = .ok (.iload_n 1, 1) := by decide +kernel
theorem d_Model_bound_29 : decode b_Model_bound 29 = .ok (.idiv, 1) := by decide +kernel
theorem d_Model_bound_30 : decode b_Model_bound 30 = .ok (.ireturn, 1) := by decide +kernel
theorem d_Model_more_0 : decode b_Model_more 0 = .ok (.iload_n 1, 1) := by decide +kernel
theorem d_Model_more_1 : decode b_Model_more 1 = .ok (.i2l, 1) := by decide +kernel
theorem d_Model_more_2 : decode b_Model_more 2 = .ok (.lconst 0, 1) := by decide +kernel
theorem d_Model_more_3 : decode b_Model_more 3 = .ok (.lconst 1, 1) := by decide +kernel
theorem d_Model_more_4 : decode b_Model_more 4 = .ok (.invokestatic 111, 3) := by decide +kernel
theorem d_Model_more_7 : decode b_Model_more 7 = .ok (.ifCond .ne 6, 3) := by decide +kernel
theorem d_Model_more_10 : decode b_Model_more 10 = .ok (.bipush (-2), 2) := by decide +kernel
theorem d_Model_more_12 : decode b_Model_more 12 = .ok (.ireturn, 1) := by decide +kernel
theorem d_Model_more_13 : decode b_Model_more 13 = .ok (.aload_n 0, 1) := by decide +kernel
theorem d_Model_more_14 : decode b_Model_more 14 = .ok (.invokevirtual 176, 3) := by decide +kernel
theorem d_Model_more_17 : decode b_Model_more 17 = .ok (.aload_n 0, 1) := by decide +kernel
theorem d_Model_more_18 : decode b_Model_more 18 = .ok (.bipush (-6), 2) := by decide +kernel
theorem d_Model_more_20 : decode b_Model_more 20 = .ok (.invokevirtual 142, 3) := by decide +kernel
theorem d_Model_more_23 : decode b_Model_more 23 = .ok (.bipush (-6), 2) := by decide +kernel
theorem d_Model_more_25 : decode b_Model_more 25 = .ok (.istore_n 2, 1) := by decide +kernel
theorem d_Model_more_26 : decode b_Model_more 26 = .ok (.iconst (-1), 1) := by decide +kernel
theorem d_Model_more_27 : decode b_Model_more 27 = .ok (.istore_n 3, 1) := by decide +kernel
theorem d_Model_more_28 : decode b_Model_more 28 = .ok (.iconst 0, 1) := by decide +kernel
theorem d_Model_more_29 : decode b_Model_more 29 = .ok (.istore 4, 2) := by decide +kernel
theorem d_Model_more_31 : decode b_Model_more 31 = .ok (.iload 4, 2) := by decide +kernel
theorem d_Model_more_33 : decode b_Model_more 33 = .ok (.aload_n 0, 1) := by decide +kernel
theorem d_Model_more_34 : decode b_Model_more 34 = .ok (.getfield 164, 3) := by decide +kernel
theorem d_Model_more_37 : decode b_Model_more 37 = .ok (.if_icmp .ge 66, 3) := by decide +kernel
theorem d_Model_more_40 : decode b_Model_more 40 = .ok (.aload_n 0, 1) := by decide +kernel
theorem d_Model_more_41 : decode b_Model_more 41 = .ok (.aload_n 0, 1) := by decide +kernel
theorem d_Model_more_42 : decode b_Model_more 42 = .ok (.getfield 41, 3) := by decide +kernel
theorem d_Model_more_45 : decode b_Model_more 45 = .ok (.iload 4, 2) := by decide +kernel
theorem d_Model_more_47 : decode b_Model_more 47 = .ok (.iaload, 1) := by decide +kernel
theorem d_Model_more_48 : decode b_Model_more 48 = .ok (.aload_n 0, 1) := by decide +kernel
theorem d_Model_more_49 : decode b_Model_more 49 = .ok (.getfield 135, 3) := by decide +kernel
theorem d_Model_more_52 : decode b_Model_more 52 = .ok (.aload_n 0, 1) := by decide +kernel
theorem d_Model_more_53 : decode b_Model_more 53 = .ok (.getfield 139, 3) := by decide +kernel
theorem d_Model_more_56 : decode b_Model_more 56 = .ok (.invokevirtual 182, 3) := by decide +kernel
theorem d_Model_more_59 : decode b_Model_more 59 = .ok (.istore 5, 2) := by decide +kernel
theorem d_Model_more_61 : decode b_Model_more 61 = .ok (.iload 5, 2) := by decide +kernel
theorem d_Model_more_63 : decode b_Model_more 63 = .ok (.iload_n 3, 1) := by decide +kernel
theorem d_Model_more_64 : decode b_Model_more 64 = .ok (.if_icmp .le 18, 3) := by decide +kernel
theorem d_Model_more_67 : decode b_Model_more 67 = .ok (.aload_n 0, 1) := by decide +kernel
theorem d_Model_more_68 : decode b_Model_more 68 = .ok (.getfield 28, 3) := by decide +kernel
theorem d_Model_more_71 : decode b_Model_more 71 = .ok (.aload_n 0, 1) := by decide +kernel
theorem d_Model_more_72 : decode b_Model_more 72 = .ok (.getfield 41, 3) := by decide +kernel
theorem d_Model_more_75 : decode b_Model_more 75 = .ok (.iload 4, 2) := by decide +kernel
theorem d_Model_more_77 : decode b_Model_more 77 = .ok (.iaload, 1) := by decide +kernel
theorem d_Model_more_78 : decode b_Model_more 78 = .ok (.iaload, 1) := by decide +kernel
theorem d_Model_more_79 : decode b_Model_more 79 = .ok (.goto 4, 3) := by decide +kernel
theorem d_Model_more_82 : decode b_Model_more 82 = .ok (.iload_n 2, 1) := by decide +kernel
theorem d_Model_more_83 : decode b_Model_more 83 = .ok (.istore_n 2, 1) := by decide +kernel
theorem d_Model_more_84 : decode b_Model_more 84 = .ok (.iload 5, 2) := by decide +kernel
theorem d_Model_more_86 : decode b_Model_more 86 = .ok (.iload_n 3, 1) := by decide +kernel
theorem d_Model_more_87 : decode b_Model_more 87 = .ok (.if_icmp .le 8, 3) := by decide +kernel
theorem d_Model_more_90 : decode b_Model_more 90 = .ok (.iload 5, 2) := by decide +kernel
theorem d_Model_more_92 : decode b_Model_more 92 = .ok (.goto 4, 3) := by decide +kernel
theorem d_Model_more_95 : decode b_Model_more 95 = .ok (.iload_n 3, 1) := by decide +kernel
theorem d_Model_more_96 : decode b_Model_more 96 = .ok (.istore_n 3, 1) := by decide +kernel
theorem d_Model_more_97 : decode b_Model_more 97 = .ok (.iinc 4 1, 3) := by decide +kernel
theorem d_Model_more_100 : decode b_Model_more 100 = .ok (.goto (-69), 3) := by decide +kernel
theorem d_Model_more_103 : decode b_Model_more 103 = .ok (.iload_n 1, 1) := by decide +kernel
theorem d_Model_more_104 : decode b_Model_more 104 = .ok (.ifCond .ne 7, 3) := by decide +kernel
theorem d_Model_more_107 : decode b_Model_more 107 = .ok (.iload_n 2, 1) := by decide +kernel
theorem d_Model_more_108 : decode b_Model_more 108 = .ok (.goto 4, 3) := by decide +kernel
theorem d_Model_more_111 : decode b_Model_more 111 = .ok (.iload_n 3, 1) := by decide +kernel
theorem d_Model_more_112 : decode b_Model_more 112 = .ok (.ireturn, 1) := by decide +kernel
theorem d_Model_wonWith_0 : decode b_Model_wonWith 0 = .ok (.lload_n 2, 1) := by decide +kernel
theorem d_Model_wonWith_1 : decode b_Model_wonWith 1 = .ok (.aload_n 0, 1) := by decide +kernel
theorem d_Model_wonWith_2 : decode b_Model_wonWith 2 = .ok (.getfield 31, 3) := by decide +kernel
theorem d_Model_wonWith_5 : decode b_Model_wonWith 5 = .ok (.iload_n 1, 1) := by decide +kernel
theorem d_Model_wonWith_6 : decode b_Model_wonWith 6 = .ok (.laload, 1) := by decide +kernel
theorem d_Model_wonWith_7 : decode b_Model_wonWith 7 = .ok (.lor, 1) := by decide +kernel
theorem d_Model_wonWith_8 : decode b_Model_wonWith 8 = .ok (.invokestatic 92, 3) := by decide +kernel
theorem d_Model_wonWith_11 : decode b_Model_wonWith 11 = .ok (.lload 4, 2) := by decide +kernel
theorem d_Model_wonWith_13 : decode b_Model_wonWith 13 = .ok (.aload_n 0, 1) := by decide +kernel
theorem d_Model_wonWith_14 : decode b_Model_wonWith 14 = .ok (.getfield 35, 3) := by decide +kernel
theorem d_Model_wonWith_17 : decode b_Model_wonWith 17 = .ok (.iload_n 1, 1) := by decide +kernel
theorem d_Model_wonWith_18 : decode b_Model_wonWith 18 = .ok (.laload, 1) := by decide +kernel
theorem d_Model_wonWith_19 : decode b_Model_wonWith 19 = .ok (.lor, 1) := by decide +kernel
theorem d_Model_wonWith_20 : decode b_Model_wonWith 20 = .ok (.invokestatic 92, 3) := by decide +kernel
theorem d_Model_wonWith_23 : decode b_Model_wonWith 23 = .ok (.iadd, 1) := by decide +kernel
theorem d_Model_wonWith_24 : decode b_Model_wonWith 24 = .ok (.ireturn, 1) := by decide +kernel
theorem d_Model_changed_0 : decode b_Model_changed 0 = .ok (.iload_n 1, 1) := by decide +kernel
theorem d_Model_changed_1 : decode b_Model_changed 1 = .ok (.i2l, 1) := by decide +kernel
theorem d_Model_changed_2 : decode b_Model_changed 2 = .ok (.lconst 0, 1) := by decide +kernel
theorem d_Model_changed_3 : decode b_Model_changed 3 = .ok (.ldc2_w 115, 3) := by decide +kernel
theorem d_Model_changed_6 : decode b_Model_changed 6 = .ok (.invokestatic 111, 3) := by decide +kernel
theorem d_Model_changed_9 : decode b_Model_changed 9 = .ok (.ifCond .ne 6, 3) := by decide +kernel
theorem d_Model_changed_12 : decode b_Model_changed 12 = .ok (.bipush (-2), 2) := by decide +kernel
theorem d_Model_changed_14 : decode b_Model_changed 14 = .ok (.ireturn, 1) := by decide +kernel
theorem d_Model_changed_15 : decode b_Model_changed 15 = .ok (.aload_n 0, 1) := by decide +kernel
theorem d_Model_changed_16 : decode b_Model_changed 16 = .ok (.getfield 74, 3) := by decide +kernel
theorem d_Model_changed_19 : decode b_Model_changed 19 = .ok (.ifCond .ne 6, 3) := by decide +kernel
theorem d_Model_changed_22 : decode b_Model_changed 22 = .ok (.bipush (-3), 2) := by decide +kernel
theorem d_Model_changed_24 : decode b_Model_changed 24 = .ok (.ireturn, 1) := by decide +kernel
theorem d_Model_changed_25 : decode b_Model_changed 25 = .ok (.aload_n 0, 1) := by decide +kernel
theorem d_Model_changed_26 : decode b_Model_changed 26 = .ok (.invokevirtual 176, 3) := by decide +kernel
theorem d_Model_changed_29 : decode b_Model_changed 29 = .ok (.bipush (-6), 2) := by decide +kernel
theorem d_Model_changed_31 : decode b_Model_changed 31 = .ok (.istore_n 2, 1) := by decide +kernel
theorem d_Model_changed_32 : decode b_Model_changed 32 = .ok (.bipush (-6), 2) := by decide +kernel
theorem d_Model_changed_34 : decode b_Model_changed 34 = .ok (.istore_n 3, 1) := by decide +kernel
theorem d_Model_changed_35 : decode b_Model_changed 35 = .ok (.iconst (-1), 1) := by decide +kernel
theorem d_Model_changed_36 : decode b_Model_changed 36 = .ok (.istore 4, 2) := by decide +kernel
theorem d_Model_changed_38 : decode b_Model_changed 38 = .ok (.iconst 0, 1) := by decide +kernel
theorem d_Model_changed_39 : decode b_Model_changed 39 = .ok (.istore 5, 2) := by decide +kernel
theorem d_Model_changed_41 : decode b_Model_changed 41 = .ok (.iload 5, 2) := by decide +kernel
theorem d_Model_changed_43 : decode b_Model_changed 43 = .ok (.aload_n 0, 1) := by decide +kernel
theorem d_Model_changed_44 : decode b_Model_changed 44 = .ok (.getfield 74, 3) := by decide +kernel
theorem d_Model_changed_47 : decode b_Model_changed 47 = .ok (.if_icmp .ge 81, 3) := by decide +kernel
theorem d_Model_changed_50 : decode b_Model_changed 50 = .ok (.aload_n 0, 1) := by decide +kernel
theorem d_Model_changed_51 : decode b_Model_changed 51 = .ok (.iload 5, 2) := by decide +kernel
theorem d_Model_changed_53 : decode b_Model_changed 53 = .ok (.invokevirtual 142, 3) := by decide +kernel
theorem d_Model_changed_56 : decode b_Model_changed 56 = .ok (.iconst 0, 1) := by decide +kernel
theorem d_Model_changed_57 : decode b_Model_changed 57 = .ok (.istore 6, 2) := by decide +kernel
theorem d_Model_changed_59 : decode b_Model_changed 59 = .ok (.iload 6, 2) := by decide +kernel
theorem d_Model_changed_61 : decode b_Model_changed 61 = .ok (.aload_n 0, 1) := by decide +kernel
theorem d_Model_changed_62 : decode b_Model_changed 62 = .ok (.getfield 164, 3) := by decide +kernel
theorem d_Model_changed_65 : decode b_Model_changed 65 = .ok (.if_icmp .ge 57, 3) := by decide +kernel
theorem d_Model_changed_68 : decode b_Model_changed 68 = .ok (.aload_n 0, 1) := by decide +kernel
theorem d_Model_changed_69 : decode b_Model_changed 69 = .ok (.aload_n 0, 1) := by decide +kernel
theorem d_Model_changed_70 : decode b_Model_changed 70 = .ok (.getfield 41, 3) := by decide +kernel
theorem d_Model_changed_73 : decode b_Model_changed 73 = .ok (.iload 6, 2) := by decide +kernel
theorem d_Model_changed_75 : decode b_Model_changed 75 = .ok (.iaload, 1) := by decide +kernel
theorem d_Model_changed_76 : decode b_Model_changed 76 = .ok (.aload_n 0, 1) := by decide +kernel
theorem d_Model_changed_77 : decode b_Model_changed 77 = .ok (.getfield 135, 3) := by decide +kernel
theorem d_Model_changed_80 : decode b_Model_changed 80 = .ok (.aload_n 0, 1) := by decide +kernel
theorem d_Model_changed_81 : decode b_Model_changed 81 = .ok (.getfield 139, 3) := by decide +kernel
theorem d_Model_changed_84 : decode b_Model_changed 84 = .ok (.invokevirtual 182, 3) := by decide +kernel
theorem d_Model_changed_87 : decode b_Model_changed 87 = .ok (.istore 7, 2) := by decide +kernel
theorem d_Model_changed_89 : decode b_Model_changed 89 = .ok (.iload 7, 2) := by decide +kernel
theorem d_Model_changed_91 : decode b_Model_changed 91 = .ok (.iload 4, 2) := by decide +kernel
theorem d_Model_changed_93 : decode b_Model_changed 93 = .ok (.if_icmp .le 23, 3) := by decide +kernel
theorem d_Model_changed_96 : decode b_Model_changed 96 = .ok (.iload 5, 2) := by decide +kernel
theorem d_Model_changed_98 : decode b_Model_changed 98 = .ok (.istore_n 2, 1) := by decide +kernel
theorem d_Model_changed_99 : decode b_Model_changed 99 = .ok (.aload_n 0, 1) := by decide +kernel
theorem d_Model_changed_100 : decode b_Model_changed 100 = .ok (.getfield 28, 3) := by decide +kernel
theorem d_Model_changed_103 : decode b_Model_changed 103 = .ok (.aload_n 0, 1) := by decide +kernel
theorem d_Model_changed_104 : decode b_Model_changed 104 = .ok (.getfield 41, 3) := by decide +kernel
theorem d_Model_changed_107 : decode b_Model_changed 107 = .ok (.iload 6, 2) := by decide +kernel
theorem d_Model_changed_109 : decode b_Model_changed 109 = .ok (.iaload, 1) := by decide +kernel
theorem d_Model_changed_110 : decode b_Model_changed 110 = .ok (.iaload, 1) := by decide +kernel
theorem d_Model_changed_111 : decode b_Model_changed 111 = .ok (.istore_n 3, 1) := by decide +kernel
theorem d_Model_changed_112 : decode b_Model_changed 112 = .ok (.iload 7, 2) := by decide +kernel
theorem d_Model_changed_114 : decode b_Model_changed 114 = .ok (.istore 4, 2) := by decide +kernel
theorem d_Model_changed_116 : decode b_Model_changed 116 = .ok (.iinc 6 1, 3) := by decide +kernel
theorem d_Model_changed_119 : decode b_Model_changed 119 = .ok (.goto (-60), 3) := by decide +kernel
theorem d_Model_changed_122 : decode b_Model_changed 122 = .ok (.iinc 5 1, 3) := by decide +kernel
theorem d_Model_changed_125 : decode b_Model_changed 125 = .ok (.goto (-84), 3) := by decide +kernel
theorem d_Model_changed_128 : decode b_Model_changed 128 = .ok (.iload_n 1, 1) := by decide +kernel
theorem d_Model_changed_129 : decode b_Model_changed 129 = .ok (.ifCond .ne 7, 3) := by decide +kernel
theorem d_Model_changed_132 : decode b_Model_changed 132 = .ok (.iload_n 2, 1) := by decide +kernel
theorem d_Model_changed_133 : decode b_Model_changed 133 = .ok (.goto 14, 3) := by decide +kernel
theorem d_Model_changed_136 : decode b_Model_changed 136 = .ok (.iload_n 1, 1) := by decide +kernel
theorem d_Model_changed_137 : decode b_Model_changed 137 = .ok (.iconst 1, 1) := by decide +kernel
theorem d_Model_changed_138 : decode b_Model_changed 138 = .ok (.if_icmp .ne 7, 3) := by decide +kernel
theorem d_Model_changed_141 : decode b_Model_changed 141 = .ok (.iload_n 3, 1) := by decide +kernel
theorem d_Model_changed_142 : decode b_Model_changed 142 = .ok (.goto 5, 3) := by decide +kernel
theorem d_Model_changed_145 : decode b_Model_changed 145 = .ok (.iload 4, 2) := by decide +kernel
theorem d_Model_changed_147 : decode b_Model_changed 147 = .ok (.ireturn, 1) := by decide +kernel
theorem d_Model_seen_0 : decode b_Model_seen 0 = .ok (.aload_n 0, 1) := by decide +kernel
theorem d_Model_seen_1 : decode b_Model_seen 1 = .ok (.iload_n 1, 1) := by decide +kernel
theorem d_Model_seen_2 : decode b_Model_seen 2 = .ok (.invokevirtual 128, 3) := by decide +kernel
theorem d_Model_seen_5 : decode b_Model_seen 5 = .ok (.ifCond .ne 5, 3) := by decide +kernel
theorem d_Model_seen_8 : decode b_Model_seen 8 = .ok (.iconst (-1), 1) := by decide +kernel
theorem d_Model_seen_9 : decode b_Model_seen 9 = .ok (.ireturn, 1) := by decide +kernel
theorem d_Model_seen_10 : decode b_Model_seen 10 = .ok (.iload_n 2, 1) := by decide +kernel
theorem d_Model_seen_11 : decode b_Model_seen 11 = .ok (.i2l, 1) := by decide +kernel
theorem d_Model_seen_12 : decode b_Model_seen 12 = .ok (.lconst 0, 1) := by decide +kernel
theorem d_Model_seen_13 : decode b_Model_seen 13 = .ok (.ldc2_w 109, 3) := by decide +kernel
theorem d_Model_seen_16 : decode b_Model_seen 16 = .ok (.invokestatic 111, 3) := by decide +kernel
theorem d_Model_seen_19 : decode b_Model_seen 19 = .ok (.ifCond .eq 15, 3) := by decide +kernel
theorem d_Model_seen_22 : decode b_Model_seen 22 = .ok (.iload_n 3, 1) := by decide +kernel
theorem d_Model_seen_23 : decode b_Model_seen 23 = .ok (.i2l, 1) := by decide +kernel
theorem d_Model_seen_24 : decode b_Model_seen 24 = .ok (.lconst 0, 1) := by decide +kernel
theorem d_Model_seen_25 : decode b_Model_seen 25 = .ok (.ldc2_w 115, 3) := by decide +kernel
theorem d_Model_seen_28 : decode b_Model_seen 28 = .ok (.invokestatic 111, 3) := by decide +kernel
theorem d_Model_seen_31 : decode b_Model_seen 31 = .ok (.ifCond .ne 6, 3) := by decide +kernel
theorem d_Model_seen_34 : decode b_Model_seen 34 = .ok (.bipush (-2), 2) := by decide +kernel
theorem d_Model_seen_36 : decode b_Model_seen 36 = .ok (.ireturn, 1) := by decide +kernel
theorem d_Model_seen_37 : decode b_Model_seen 37 = .ok (.aload_n 0, 1) := by decide +kernel
theorem d_Model_seen_38 : decode b_Model_seen 38 = .ok (.getfield 80, 3) := by decide +kernel
theorem d_Model_seen_41 : decode b_Model_seen 41 = .ok (.bipush 6, 2) := by decide +kernel
theorem d_Model_seen_43 : decode b_Model_seen 43 = .ok (.if_icmp .ne 6, 3) := by decide +kernel
theorem d_Model_seen_46 : decode b_Model_seen 46 = .ok (.bipush (-4), 2) := by decide +kernel
theorem d_Model_seen_48 : decode b_Model_seen 48 = .ok (.ireturn, 1) := by decide +kernel
theorem d_Model_seen_49 : decode b_Model_seen 49 = .ok (.aload_n 0, 1) := by decide +kernel
theorem d_Model_seen_50 : decode b_Model_seen 50 = .ok (.getfield 16, 3) := by decide +kernel
theorem d_Model_seen_53 : decode b_Model_seen 53 = .ok (.aload_n 0, 1) := by decide +kernel
theorem d_Model_seen_54 : decode b_Model_seen 54 = .ok (.getfield 80, 3) := by decide +kernel
theorem d_Model_seen_57 : decode b_Model_seen 57 = .ok (.iload_n 1, 1) := by decide +kernel
theorem d_Model_seen_58 : decode b_Model_seen 58 = .ok (.iastore, 1) := by decide +kernel
theorem d_Model_seen_59 : decode b_Model_seen 59 = .ok (.aload_n 0, 1) := by decide +kernel
theorem d_Model_seen_60 : decode b_Model_seen 60 = .ok (.getfield 19, 3) := by decide +kernel
theorem d_Model_seen_63 : decode b_Model_seen 63 = .ok (.aload_n 0, 1) := by decide +kernel
theorem d_Model_seen_64 : decode b_Model_seen 64 = .ok (.getfield 80, 3) := by decide +kernel
theorem d_Model_seen_67 : decode b_Model_seen 67 = .ok (.iload_n 2, 1) := by decide +kernel
theorem d_Model_seen_68 : decode b_Model_seen 68 = .ok (.iastore, 1) := by decide +kernel
theorem d_Model_seen_69 : decode b_Model_seen 69 = .ok (.aload_n 0, 1) := by decide +kernel
theorem d_Model_seen_70 : decode b_Model_seen 70 = .ok (.getfield 22, 3) := by decide +kernel
theorem d_Model_seen_73 : decode b_Model_seen 73 = .ok (.aload_n 0, 1) := by decide +kernel
theorem d_Model_seen_74 : decode b_Model_seen 74 = .ok (.getfield 80, 3) := by decide +kernel
theorem d_Model_seen_77 : decode b_Model_seen 77 = .ok (.iload_n 3, 1) := by decide +kernel
theorem d_Model_seen_78 : decode b_Model_seen 78 = .ok (.iastore, 1) := by decide +kernel
theorem d_Model_seen_79 : decode b_Model_seen 79 = .ok (.aload_n 0, 1) := by decide +kernel
theorem d_Model_seen_80 : decode b_Model_seen 80 = .ok (.dup, 1) := by decide +kernel
theorem d_Model_seen_81 : decode b_Model_seen 81 = .ok (.getfield 80, 3) := by decide +kernel
theorem d_Model_seen_84 : decode b_Model_seen 84 = .ok (.iconst 1, 1) := by decide +kernel
theorem d_Model_seen_85 : decode b_Model_seen 85 = .ok (.iadd, 1) := by decide +kernel
theorem d_Model_seen_86 : decode b_Model_seen 86 = .ok (.putfield 80, 3) := by decide +kernel
theorem d_Model_seen_89 : decode b_Model_seen 89 = .ok (.aload_n 0, 1) := by decide +kernel
theorem d_Model_seen_90 : decode b_Model_seen 90 = .ok (.getfield 80, 3) := by decide +kernel
theorem d_Model_seen_93 : decode b_Model_seen 93 = .ok (.ireturn, 1) := by decide +kernel
theorem d_Model_forget_0 : decode b_Model_forget 0 = .ok (.aload_n 0, 1) := by decide +kernel
theorem d_Model_forget_1 : decode b_Model_forget 1 = .ok (.getfield 80, 3) := by decide +kernel
theorem d_Model_forget_4 : decode b_Model_forget 4 = .ok (.istore_n 1, 1) := by decide +kernel
theorem d_Model_forget_5 : decode b_Model_forget 5 = .ok (.aload_n 0, 1) := by decide +kernel
theorem d_Model_forget_6 : decode b_Model_forget 6 = .ok (.iconst 0, 1) := by decide +kernel
theorem d_Model_forget_7 : decode b_Model_forget 7 = .ok (.putfield 80, 3) := by decide +kernel
theorem d_Model_forget_10 : decode b_Model_forget 10 = .ok (.iload_n 1, 1) := by decide +kernel
theorem d_Model_forget_11 : decode b_Model_forget 11 = .ok (.ireturn, 1) := by decide +kernel
theorem d_Model_fits_0 : decode b_Model_fits 0 = .ok (.iconst 0, 1) := by decide +kernel
theorem d_Model_fits_1 : decode b_Model_fits 1 = .ok (.istore_n 2, 1) := by decide +kernel
theorem d_Model_fits_2 : decode b_Model_fits 2 = .ok (.iconst 0, 1) := by decide +kernel
theorem d_Model_fits_3 : decode b_Model_fits 3 = .ok (.istore_n 3, 1) := by decide +kernel
theorem d_Model_fits_4 : decode b_Model_fits 4 = .ok (.iload_n 3, 1) := by decide +kernel
theorem d_Model_fits_5 : decode b_Model_fits 5 = .ok (.aload_n 0, 1) := by decide +kernel
theorem d_Model_fits_6 : decode b_Model_fits 6 = .ok (.getfield 86, 3) := by decide +kernel
theorem d_Model_fits_9 : decode b_Model_fits 9 = .ok (.if_icmp .ge 37, 3) := by decide +kernel
theorem d_Model_fits_12 : decode b_Model_fits 12 = .ok (.aload_n 0, 1) := by decide +kernel
theorem d_Model_fits_13 : decode b_Model_fits 13 = .ok (.aload_n 0, 1) := by decide +kernel
theorem d_Model_fits_14 : decode b_Model_fits 14 = .ok (.getfield 25, 3) := by decide +kernel
theorem d_Model_fits_17 : decode b_Model_fits 17 = .ok (.iload_n 3, 1) := by decide +kernel
theorem d_Model_fits_18 : decode b_Model_fits 18 = .ok (.iaload, 1) := by decide +kernel
theorem d_Model_fits_19 : decode b_Model_fits 19 = .ok (.invokevirtual 186, 3) := by decide +kernel
theorem d_Model_fits_22 : decode b_Model_fits 22 = .ok (.ifCond .eq 18, 3) := by decide +kernel
theorem d_Model_fits_25 : decode b_Model_fits 25 = .ok (.iload_n 2, 1) := by decide +kernel
theorem d_Model_fits_26 : decode b_Model_fits 26 = .ok (.iload_n 1, 1) := by decide +kernel
theorem d_Model_fits_27 : decode b_Model_fits 27 = .ok (.if_icmp .ne 10, 3) := by decide +kernel
theorem d_Model_fits_30 : decode b_Model_fits 30 = .ok (.aload_n 0, 1) := by decide +kernel
theorem d_Model_fits_31 : decode b_Model_fits 31 = .ok (.getfield 25, 3) := by decide +kernel
theorem d_Model_fits_34 : decode b_Model_fits 34 = .ok (.iload_n 3, 1) := by decide +kernel
theorem d_Model_fits_35 : decode b_Model_fits 35 = .ok (.iaload, 1) := by decide +kernel
theorem d_Model_fits_36 : decode b_Model_fits 36 = .ok (.ireturn, 1) := by decide +kernel
theorem d_Model_fits_37 : decode b_Model_fits 37 = .ok (.iinc 2 1, 3) := by decide +kernel
theorem d_Model_fits_40 : decode b_Model_fits 40 = .ok (.iinc 3 1, 3) := by decide +kernel
theorem d_Model_fits_43 : decode b_Model_fits 43 = .ok (.goto (-39), 3) := by decide +kernel
theorem d_Model_fits_46 : decode b_Model_fits 46 = .ok (.iload_n 1, 1) := by decide +kernel
theorem d_Model_fits_47 : decode b_Model_fits 47 = .ok (.iconst (-1), 1) := by decide +kernel
theorem d_Model_fits_48 : decode b_Model_fits 48 = .ok (.if_icmp .ne 7, 3) := by decide +kernel
theorem d_Model_fits_51 : decode b_Model_fits 51 = .ok (.iload_n 2, 1) := by decide +kernel
theorem d_Model_fits_52 : decode b_Model_fits 52 = .ok (.goto 5, 3) := by decide +kernel
theorem d_Model_fits_55 : decode b_Model_fits 55 = .ok (.bipush (-6), 2) := by decide +kernel
theorem d_Model_fits_57 : decode b_Model_fits 57 = .ok (.ireturn, 1) := by decide +kernel
theorem d_Model_holds_0 : decode b_Model_holds 0 = .ok (.iconst 1, 1) := by decide +kernel
theorem d_Model_holds_1 : decode b_Model_holds 1 = .ok (.istore_n 2, 1) := by decide +kernel
theorem d_Model_holds_2 : decode b_Model_holds 2 = .ok (.iconst 0, 1) := by decide +kernel
theorem d_Model_holds_3 : decode b_Model_holds 3 = .ok (.istore_n 3, 1) := by decide +kernel
theorem d_Model_holds_4 : decode b_Model_holds 4 = .ok (.iload_n 3, 1) := by decide +kernel
theorem d_Model_holds_5 : decode b_Model_holds 5 = .ok (.aload_n 0, 1) := by decide +kernel
theorem d_Model_holds_6 : decode b_Model_holds 6 = .ok (.getfield 80, 3) := by decide +kernel
theorem d_Model_holds_9 : decode b_Model_holds 9 = .ok (.if_icmp .ge 92, 3) := by decide +kernel
theorem d_Model_holds_12 : decode b_Model_holds 12 = .ok (.aload_n 0, 1) := by decide +kernel
theorem d_Model_holds_13 : decode b_Model_holds 13 = .ok (.getfield 7, 3) := by decide +kernel
theorem d_Model_holds_16 : decode b_Model_holds 16 = .ok (.aload_n 0, 1) := by decide +kernel
theorem d_Model_holds_17 : decode b_Model_holds 17 = .ok (.getfield 16, 3) := by decide +kernel
theorem d_Model_holds_20 : decode b_Model_holds 20 = .ok (.iload_n 3, 1) := by decide +kernel
theorem d_Model_holds_21 : decode b_Model_holds 21 = .ok (.iaload, 1) := by decide +kernel
theorem d_Model_holds_22 : decode b_Model_holds 22 = .ok (.iaload, 1) := by decide +kernel
theorem d_Model_holds_23 : decode b_Model_holds 23 = .ok (.iload_n 1, 1) := by decide +kernel
theorem d_Model_holds_24 : decode b_Model_holds 24 = .ok (.iand, 1) := by decide +kernel
theorem d_Model_holds_25 : decode b_Model_holds 25 = .ok (.i2l, 1) := by decide +kernel
theorem d_Model_holds_26 : decode b_Model_holds 26 = .ok (.invokestatic 92, 3) := by decide +kernel
theorem d_Model_holds_29 : decode b_Model_holds 29 = .ok (.istore 4, 2) := by decide +kernel
theorem d_Model_holds_31 : decode b_Model_holds 31 = .ok (.aload_n 0, 1) := by decide +kernel
theorem d_Model_holds_32 : decode b_Model_holds 32 = .ok (.getfield 19, 3) := by decide +kernel
theorem d_Model_holds_35 : decode b_Model_holds 35 = .ok (.iload_n 3, 1) := by decide +kernel
theorem d_Model_holds_36 : decode b_Model_holds 36 = .ok (.iaload, 1) := by decide +kernel
theorem d_Model_holds_37 : decode b_Model_holds 37 = .ok (.istore 5, 2) := by decide +kernel
theorem d_Model_holds_39 : decode b_Model_holds 39 = .ok (.iload_n 2, 1) := by decide +kernel
theorem d_Model_holds_40 : decode b_Model_holds 40 = .ok (.ifCond .eq 53, 3) := by decide +kernel
theorem d_Model_holds_43 : decode b_Model_holds 43 = .ok (.aload_n 0, 1) := by decide +kernel
theorem d_Model_holds_44 : decode b_Model_holds 44 = .ok (.getfield 22, 3) := by decide +kernel
theorem d_Model_holds_47 : decode b_Model_holds 47 = .ok (.iload_n 3, 1) := by decide +kernel
theorem d_Model_holds_48 : decode b_Model_holds 48 = .ok (.iaload, 1) := by decide +kernel
theorem d_Model_holds_49 : decode b_Model_holds 49 = .ok (.ifCond .ne 13, 3) := by decide +kernel
theorem d_Model_holds_52 : decode b_Model_holds 52 = .ok (.iload 4, 2) := by decide +kernel
theorem d_Model_holds_54 : decode b_Model_holds 54 = .ok (.iload 5, 2) := by decide +kernel
theorem d_Model_holds_56 : decode b_Model_holds 56 = .ok (.if_icmp .ne 37, 3) := by decide +kernel
theorem d_Model_holds_59 : decode b_Model_holds 59 = .ok (.goto 30, 3) := by decide +kernel
theorem d_Model_holds_62 : decode b_Model_holds 62 = .ok (.aload_n 0, 1) := by decide +kernel
theorem d_Model_holds_63 : decode b_Model_holds 63 = .ok (.getfield 22, 3) := by decide +kernel
theorem d_Model_holds_66 : decode b_Model_holds 66 = .ok (.iload_n 3, 1) := by decide +kernel
theorem d_Model_holds_67 : decode b_Model_holds 67 = .ok (.iaload, 1) := by decide +kernel
theorem d_Model_holds_68 : decode b_Model_holds 68 = .ok (.iconst 1, 1) := by decide +kernel
theorem d_Model_holds_69 : decode b_Model_holds 69 = .ok (.if_icmp .ne 13, 3) := by decide +kernel
theorem d_Model_holds_72 : decode b_Model_holds 72 = .ok (.iload 4, 2) := by decide +kernel
theorem d_Model_holds_74 : decode b_Model_holds 74 = .ok (.iload 5, 2) := by decide +kernel
theorem d_Model_holds_76 : decode b_Model_holds 76 = .ok (.if_icmp .lt 17, 3) := by decide +kernel
theorem d_Model_holds_79 : decode b_Model_holds 79 = .ok (.goto 10, 3) := by decide +kernel
theorem d_Model_holds_82 : decode b_Model_holds 82 = .ok (.iload 4, 2) := by decide +kernel
theorem d_Model_holds_84 : decode b_Model_holds 84 = .ok (.iload 5, 2) := by decide +kernel
theorem d_Model_holds_86 : decode b_Model_holds 86 = .ok (.if_icmp .ge 7, 3) := by decide +kernel
theorem d_Model_holds_89 : decode b_Model_holds 89 = .ok (.iconst 1, 1) := by decide +kernel
theorem d_Model_holds_90 : decode b_Model_holds 90 = .ok (.goto 4, 3) := by decide +kernel
theorem d_Model_holds_93 : decode b_Model_holds 93 = .ok (.iconst 0, 1) := by decide +kernel
theorem d_Model_holds_94 : decode b_Model_holds 94 = .ok (.istore_n 2, 1) := by decide +kernel
theorem d_Model_holds_95 : decode b_Model_holds 95 = .ok (.iinc 3 1, 3) := by decide +kernel
theorem d_Model_holds_98 : decode b_Model_holds 98 = .ok (.goto (-94), 3) := by decide +kernel
theorem d_Model_holds_101 : decode b_Model_holds 101 = .ok (.iload_n 2, 1) := by decide +kernel
theorem d_Model_holds_102 : decode b_Model_holds 102 = .ok (.ireturn, 1) := by decide +kernel
theorem d_Model_surely_0 : decode b_Model_surely 0 = .ok (.iload_n 1, 1) := by decide +kernel
theorem d_Model_surely_1 : decode b_Model_surely 1 = .ok (.i2l, 1) := by decide +kernel
theorem d_Model_surely_2 : decode b_Model_surely 2 = .ok (.lconst 0, 1) := by decide +kernel
theorem d_Model_surely_3 : decode b_Model_surely 3 = .ok (.lconst 1, 1) := by decide +kernel
theorem d_Model_surely_4 : decode b_Model_surely 4 = .ok (.invokestatic 111, 3) := by decide +kernel
theorem d_Model_surely_7 : decode b_Model_surely 7 = .ok (.ifCond .ne 6, 3) := by decide +kernel
theorem d_Model_surely_10 : decode b_Model_surely 10 = .ok (.bipush (-2), 2) := by decide +kernel
theorem d_Model_surely_12 : decode b_Model_surely 12 = .ok (.ireturn, 1) := by decide +kernel
theorem d_Model_surely_13 : decode b_Model_surely 13 = .ok (.iconst 0, 1) := by decide +kernel
theorem d_Model_surely_14 : decode b_Model_surely 14 = .ok (.istore_n 2, 1) := by decide +kernel
theorem d_Model_surely_15 : decode b_Model_surely 15 = .ok (.iconst 1, 1) := by decide +kernel
theorem d_Model_surely_16 : decode b_Model_surely 16 = .ok (.aload_n 0, 1) := by decide +kernel
theorem d_Model_surely_17 : decode b_Model_surely 17 = .ok (.getfield 61, 3) := by decide +kernel
theorem d_Model_surely_20 : decode b_Model_surely 20 = .ok (.ishl, 1) := by decide +kernel
theorem d_Model_surely_21 : decode b_Model_surely 21 = .ok (.iconst 1, 1) := by decide +kernel
theorem d_Model_surely_22 : decode b_Model_surely 22 = .ok (.isub, 1) := by decide +kernel
theorem d_Model_surely_23 : decode b_Model_surely 23 = .ok (.istore_n 3, 1) := by decide +kernel
theorem d_Model_surely_24 : decode b_Model_surely 24 = .ok (.iload_n 3, 1) := by decide +kernel
theorem d_Model_surely_25 : decode b_Model_surely 25 = .ok (.istore 4, 2) := by decide +kernel
theorem d_Model_surely_27 : decode b_Model_surely 27 = .ok (.iconst 0, 1) := by decide +kernel
theorem d_Model_surely_28 : decode b_Model_surely 28 = .ok (.istore 5, 2) := by decide +kernel
theorem d_Model_surely_30 : decode b_Model_surely 30 = .ok (.iconst 0, 1) := by decide +kernel
theorem d_Model_surely_31 : decode b_Model_surely 31 = .ok (.istore 6, 2) := by decide +kernel
theorem d_Model_surely_33 : decode b_Model_surely 33 = .ok (.iload 6, 2) := by decide +kernel
theorem d_Model_surely_35 : decode b_Model_surely 35 = .ok (.aload_n 0, 1) := by decide +kernel
theorem d_Model_surely_36 : decode b_Model_surely 36 = .ok (.getfield 86, 3) := by decide +kernel
theorem d_Model_surely_39 : decode b_Model_surely 39 = .ok (.if_icmp .ge 50, 3) := by decide +kernel
theorem d_Model_surely_42 : decode b_Model_surely 42 = .ok (.aload_n 0, 1) := by decide +kernel
theorem d_Model_surely_43 : decode b_Model_surely 43 = .ok (.aload_n 0, 1) := by decide +kernel
theorem d_Model_surely_44 : decode b_Model_surely 44 = .ok (.getfield 25, 3) := by decide +kernel
theorem d_Model_surely_47 : decode b_Model_surely 47 = .ok (.iload 6, 2) := by decide +kernel
theorem d_Model_surely_49 : decode b_Model_surely 49 = .ok (.iaload, 1) := by decide +kernel
theorem d_Model_surely_50 : decode b_Model_surely 50 = .ok (.invokevirtual 186, 3) := by decide +kernel
theorem d_Model_surely_53 : decode b_Model_surely 53 = .ok (.ifCond .eq 30, 3) := by decide +kernel
theorem d_Model_surely_56 : decode b_Model_surely 56 = .ok (.iinc 2 1, 3) := by decide +kernel
theorem d_Model_surely_59 : decode b_Model_surely 59 = .ok (.iload 4, 2) := by decide +kernel
theorem d_Model_surely_61 : decode b_Model_surely 61 = .ok (.aload_n 0, 1) := by decide +kernel
theorem d_Model_surely_62 : decode b_Model_surely 62 = .ok (.getfield 25, 3) := by decide +kernel
theorem d_Model_surely_65 : decode b_Model_surely 65 = .ok (.iload 6, 2) := by decide +kernel
theorem d_Model_surely_67 : decode b_Model_surely 67 = .ok (.iaload, 1) := by decide +kernel
theorem d_Model_surely_68 : decode b_Model_surely 68 = .ok (.iand, 1) := by decide +kernel
theorem d_Model_surely_69 : decode b_Model_surely 69 = .ok (.istore 4, 2) := by decide +kernel
theorem d_Model_surely_71 : decode b_Model_surely 71 = .ok (.iload 5, 2) := by decide +kernel
theorem d_Model_surely_73 : decode b_Model_surely 73 = .ok (.aload_n 0, 1) := by decide +kernel
theorem d_Model_surely_74 : decode b_Model_surely 74 = .ok (.getfield 25, 3) := by decide +kernel
theorem d_Model_surely_77 : decode b_Model_surely 77 = .ok (.iload 6, 2) := by decide +kernel
theorem d_Model_surely_79 : decode b_Model_surely 79 = .ok (.iaload, 1) := by decide +kernel
theorem d_Model_surely_80 : decode b_Model_surely 80 = .ok (.ior, 1) := by decide +kernel
theorem d_Model_surely_81 : decode b_Model_surely 81 = .ok (.istore 5, 2) := by decide +kernel
theorem d_Model_surely_83 : decode b_Model_surely 83 = .ok (.iinc 6 1, 3) := by decide +kernel
theorem d_Model_surely_86 : decode b_Model_surely 86 = .ok (.goto (-53), 3) := by decide +kernel
theorem d_Model_surely_89 : decode b_Model_surely 89 = .ok (.iload_n 2, 1) := by decide +kernel
theorem d_Model_surely_90 : decode b_Model_surely 90 = .ok (.ifCond .ne 8, 3) := by decide +kernel
theorem d_Model_surely_93 : decode b_Model_surely 93 = .ok (.bipush (-5), 2) := by decide +kernel
theorem d_Model_surely_95 : decode b_Model_surely 95 = .ok (.goto 18, 3) := by decide +kernel
theorem d_Model_surely_98 : decode b_Model_surely 98 = .ok (.iload_n 1, 1) := by decide +kernel
theorem d_Model_surely_99 : decode b_Model_surely 99 = .ok (.ifCond .ne 8, 3) := by decide +kernel
theorem d_Model_surely_102 : decode b_Model_surely 102 = .ok (.iload 4, 2) := by decide +kernel
theorem d_Model_surely_104 : decode b_Model_surely 104 = .ok (.goto 9, 3) := by decide +kernel
theorem d_Model_surely_107 : decode b_Model_surely 107 = .ok (.iload_n 3, 1) := by decide +kernel
theorem d_Model_surely_108 : decode b_Model_surely 108 = .ok (.iload 5, 2) := by decide +kernel
theorem d_Model_surely_110 : decode b_Model_surely 110 = .ok (.iconst (-1), 1) := by decide +kernel
theorem d_Model_surely_111 : decode b_Model_surely 111 = .ok (.ixor, 1) := by decide +kernel
theorem d_Model_surely_112 : decode b_Model_surely 112 = .ok (.iand, 1) := by decide +kernel
theorem d_Model_surely_113 : decode b_Model_surely 113 = .ok (.ireturn, 1) := by decide +kernel
theorem d_Model_alone_0 : decode b_Model_alone 0 = .ok (.iconst 1, 1) := by decide +kernel
theorem d_Model_alone_1 : decode b_Model_alone 1 = .ok (.aload_n 0, 1) := by decide +kernel
theorem d_Model_alone_2 : decode b_Model_alone 2 = .ok (.getfield 74, 3) := by decide +kernel
theorem d_Model_alone_5 : decode b_Model_alone 5 = .ok (.ishl, 1) := by decide +kernel
theorem d_Model_alone_6 : decode b_Model_alone 6 = .ok (.iconst 1, 1) := by decide +kernel
theorem d_Model_alone_7 : decode b_Model_alone 7 = .ok (.isub, 1) := by decide +kernel
theorem d_Model_alone_8 : decode b_Model_alone 8 = .ok (.istore_n 3, 1) := by decide +kernel
theorem d_Model_alone_9 : decode b_Model_alone 9 = .ok (.iload_n 1, 1) := by decide +kernel
theorem d_Model_alone_10 : decode b_Model_alone 10 = .ok (.i2l, 1) := by decide +kernel
theorem d_Model_alone_11 : decode b_Model_alone 11 = .ok (.lconst 0, 1) := by decide +kernel
theorem d_Model_alone_12 : decode b_Model_alone 12 = .ok (.iload_n 3, 1) := by decide +kernel
theorem d_Model_alone_13 : decode b_Model_alone 13 = .ok (.i2l, 1) := by decide +kernel
theorem d_Model_alone_14 : decode b_Model_alone 14 = .ok (.invokestatic 111, 3) := by decide +kernel
theorem d_Model_alone_17 : decode b_Model_alone 17 = .ok (.ifCond .eq 14, 3) := by decide +kernel
theorem d_Model_alone_20 : decode b_Model_alone 20 = .ok (.iload_n 2, 1) := by decide +kernel
theorem d_Model_alone_21 : decode b_Model_alone 21 = .ok (.i2l, 1) := by decide +kernel
theorem d_Model_alone_22 : decode b_Model_alone 22 = .ok (.lconst 0, 1) := by decide +kernel
theorem d_Model_alone_23 : decode b_Model_alone 23 = .ok (.iload_n 3, 1) := by decide +kernel
theorem d_Model_alone_24 : decode b_Model_alone 24 = .ok (.i2l, 1) := by decide +kernel
theorem d_Model_alone_25 : decode b_Model_alone 25 = .ok (.invokestatic 111, 3) := by decide +kernel
theorem d_Model_alone_28 : decode b_Model_alone 28 = .ok (.ifCond .ne 6, 3) := by decide +kernel
theorem d_Model_alone_31 : decode b_Model_alone 31 = .ok (.bipush (-2), 2) := by decide +kernel
theorem d_Model_alone_33 : decode b_Model_alone 33 = .ok (.ireturn, 1) := by decide +kernel
theorem d_Model_alone_34 : decode b_Model_alone 34 = .ok (.iconst 0, 1) := by decide +kernel
theorem d_Model_alone_35 : decode b_Model_alone 35 = .ok (.istore 4, 2) := by decide +kernel
theorem d_Model_alone_37 : decode b_Model_alone 37 = .ok (.iconst 0, 1) := by decide +kernel
theorem d_Model_alone_38 : decode b_Model_alone 38 = .ok (.istore 5, 2) := by decide +kernel
theorem d_Model_alone_40 : decode b_Model_alone 40 = .ok (.iload 5, 2) := by decide +kernel
theorem d_Model_alone_42 : decode b_Model_alone 42 = .ok (.aload_n 0, 1) := by decide +kernel
theorem d_Model_alone_43 : decode b_Model_alone 43 = .ok (.getfield 86, 3) := by decide +kernel
theorem d_Model_alone_46 : decode b_Model_alone 46 = .ok (.if_icmp .ge 49, 3) := by decide +kernel
theorem d_Model_alone_49 : decode b_Model_alone 49 = .ok (.iload 4, 2) := by decide +kernel
theorem d_Model_alone_51 : decode b_Model_alone 51 = .ok (.aload_n 0, 1) := by decide +kernel
theorem d_Model_alone_52 : decode b_Model_alone 52 = .ok (.iload_n 1, 1) := by decide +kernel
theorem d_Model_alone_53 : decode b_Model_alone 53 = .ok (.aload_n 0, 1) := by decide +kernel
theorem d_Model_alone_54 : decode b_Model_alone 54 = .ok (.getfield 25, 3) := by decide +kernel
theorem d_Model_alone_57 : decode b_Model_alone 57 = .ok (.iload 5, 2) := by decide +kernel
theorem d_Model_alone_59 : decode b_Model_alone 59 = .ok (.iaload, 1) := by decide +kernel
theorem d_Model_alone_60 : decode b_Model_alone 60 = .ok (.invokevirtual 189, 3) := by decide +kernel
theorem d_Model_alone_63 : decode b_Model_alone 63 = .ok (.ifCond .eq 22, 3) := by decide +kernel
theorem d_Model_alone_66 : decode b_Model_alone 66 = .ok (.aload_n 0, 1) := by decide +kernel
theorem d_Model_alone_67 : decode b_Model_alone 67 = .ok (.iload_n 2, 1) := by decide +kernel
theorem d_Model_alone_68 : decode b_Model_alone 68 = .ok (.aload_n 0, 1) := by decide +kernel
theorem d_Model_alone_69 : decode b_Model_alone 69 = .ok (.getfield 25, 3) := by decide +kernel
theorem d_Model_alone_72 : decode b_Model_alone 72 = .ok (.iload 5, 2) := by decide +kernel
theorem d_Model_alone_74 : decode b_Model_alone 74 = .ok (.iaload, 1) := by decide +kernel
theorem d_Model_alone_75 : decode b_Model_alone 75 = .ok (.invokevirtual 189, 3) := by decide +kernel
theorem d_Model_alone_78 : decode b_Model_alone 78 = .ok (.ifCond .ne 7, 3) := by decide +kernel
theorem d_Model_alone_81 : decode b_Model_alone 81 = .ok (.iconst 1, 1) := by decide +kernel
theorem d_Model_alone_82 : decode b_Model_alone 82 = .ok (.goto 4, 3) := by decide +kernel
theorem d_Model_alone_85 : decode b_Model_alone 85 = .ok (.iconst 0, 1) := by decide +kernel
theorem d_Model_alone_86 : decode b_Model_alone 86 = .ok (.iadd, 1) := by decide +kernel
theorem d_Model_alone_87 : decode b_Model_alone 87 = .ok (.istore 4, 2) := by decide +kernel
theorem d_Model_alone_89 : decode b_Model_alone 89 = .ok (.iinc 5 1, 3) := by decide +kernel
theorem d_Model_alone_92 : decode b_Model_alone 92 = .ok (.goto (-52), 3) := by decide +kernel
theorem d_Model_alone_95 : decode b_Model_alone 95 = .ok (.iload 4, 2) := by decide +kernel
theorem d_Model_alone_97 : decode b_Model_alone 97 = .ok (.ireturn, 1) := by decide +kernel
theorem d_Model_anyWins_0 : decode b_Model_anyWins 0 = .ok (.iconst 0, 1) := by decide +kernel
theorem d_Model_anyWins_1 : decode b_Model_anyWins 1 = .ok (.istore_n 3, 1) := by decide +kernel
theorem d_Model_anyWins_2 : decode b_Model_anyWins 2 = .ok (.iconst 0, 1) := by decide +kernel
theorem d_Model_anyWins_3 : decode b_Model_anyWins 3 = .ok (.istore 4, 2) := by decide +kernel
theorem d_Model_anyWins_5 : decode b_Model_anyWins 5 = .ok (.iload 4, 2) := by decide +kernel
theorem d_Model_anyWins_7 : decode b_Model_anyWins 7 = .ok (.aload_n 0, 1) := by decide +kernel
theorem d_Model_anyWins_8 : decode b_Model_anyWins 8 = .ok (.getfield 74, 3) := by decide +kernel
theorem d_Model_anyWins_11 : decode b_Model_anyWins 11 = .ok (.if_icmp .ge 44, 3) := by decide +kernel
theorem d_Model_anyWins_14 : decode b_Model_anyWins 14 = .ok (.iload_n 3, 1) := by decide +kernel
theorem d_Model_anyWins_15 : decode b_Model_anyWins 15 = .ok (.ifCond .ne 28, 3) := by decide +kernel
theorem d_Model_anyWins_18 : decode b_Model_anyWins 18 = .ok (.iload_n 1, 1) := by decide +kernel
theorem d_Model_anyWins_19 : decode b_Model_anyWins 19 = .ok (.iload 4, 2) := by decide +kernel
theorem d_Model_anyWins_21 : decode b_Model_anyWins 21 = .ok (.ishr, 1) := by decide +kernel
theorem d_Model_anyWins_22 : decode b_Model_anyWins 22 = .ok (.iconst 1, 1) := by decide +kernel
theorem d_Model_anyWins_23 : decode b_Model_anyWins 23 = .ok (.iand, 1) := by decide +kernel
theorem d_Model_anyWins_24 : decode b_Model_anyWins 24 = .ok (.iconst 1, 1) := by decide +kernel
theorem d_Model_anyWins_25 : decode b_Model_anyWins 25 = .ok (.if_icmp .ne 22, 3) := by decide +kernel
theorem d_Model_anyWins_28 : decode b_Model_anyWins 28 = .ok (.aload_n 0, 1) := by decide +kernel
theorem d_Model_anyWins_29 : decode b_Model_anyWins 29 = .ok (.aload_n 0, 1) := by decide +kernel
theorem d_Model_anyWins_30 : decode b_Model_anyWins 30 = .ok (.getfield 7, 3) := by decide +kernel
theorem d_Model_anyWins_33 : decode b_Model_anyWins 33 = .ok (.iload 4, 2) := by decide +kernel
theorem d_Model_anyWins_35 : decode b_Model_anyWins 35 = .ok (.iaload, 1) := by decide +kernel
theorem d_Model_anyWins_36 : decode b_Model_anyWins 36 = .ok (.iload_n 2, 1) := by decide +kernel
theorem d_Model_anyWins_37 : decode b_Model_anyWins 37 = .ok (.invokevirtual 103, 3) := by decide +kernel
theorem d_Model_anyWins_40 : decode b_Model_anyWins 40 = .ok (.ifCond .eq 7, 3) := by decide +kernel
theorem d_Model_anyWins_43 : decode b_Model_anyWins 43 = .ok (.iconst 1, 1) := by decide +kernel
theorem d_Model_anyWins_44 : decode b_Model_anyWins 44 = .ok (.goto 4, 3) := by decide +kernel
theorem d_Model_anyWins_47 : decode b_Model_anyWins 47 = .ok (.iconst 0, 1) := by decide +kernel
theorem d_Model_anyWins_48 : decode b_Model_anyWins 48 = .ok (.istore_n 3, 1) := by decide +kernel
theorem d_Model_anyWins_49 : decode b_Model_anyWins 49 = .ok (.iinc 4 1, 3) := by decide +kernel
theorem d_Model_anyWins_52 : decode b_Model_anyWins 52 = .ok (.goto (-47), 3) := by decide +kernel
theorem d_Model_anyWins_55 : decode b_Model_anyWins 55 = .ok (.iload_n 3, 1) := by decide +kernel
theorem d_Model_anyWins_56 : decode b_Model_anyWins 56 = .ok (.ireturn, 1) := by decide +kernel
theorem d_Model_year_0 : decode b_Model_year 0 = .ok (.iload_n 1, 1) := by decide +kernel
theorem d_Model_year_1 : decode b_Model_year 1 = .ok (.i2l, 1) := by decide +kernel
theorem d_Model_year_2 : decode b_Model_year 2 = .ok (.lconst 0, 1) := by decide +kernel
theorem d_Model_year_3 : decode b_Model_year 3 = .ok (.ldc2_w 192, 3) := by decide +kernel
theorem d_Model_year_6 : decode b_Model_year 6 = .ok (.invokestatic 111, 3) := by decide +kernel
theorem d_Model_year_9 : decode b_Model_year 9 = .ok (.ifCond .eq 25, 3) := by decide +kernel
theorem d_Model_year_12 : decode b_Model_year 12 = .ok (.iload_n 2, 1) := by decide +kernel
theorem d_Model_year_13 : decode b_Model_year 13 = .ok (.i2l, 1) := by decide +kernel
theorem d_Model_year_14 : decode b_Model_year 14 = .ok (.lconst 1, 1) := by decide +kernel
theorem d_Model_year_15 : decode b_Model_year 15 = .ok (.ldc2_w 194, 3) := by decide +kernel
theorem d_Model_year_18 : decode b_Model_year 18 = .ok (.invokestatic 111, 3) := by decide +kernel
theorem d_Model_year_21 : decode b_Model_year 21 = .ok (.ifCond .eq 13, 3) := by decide +kernel
theorem d_Model_year_24 : decode b_Model_year 24 = .ok (.iload_n 3, 1) := by decide +kernel
theorem d_Model_year_25 : decode b_Model_year 25 = .ok (.i2l, 1) := by decide +kernel
theorem d_Model_year_26 : decode b_Model_year 26 = .ok (.lconst 0, 1) := by decide +kernel
theorem d_Model_year_27 : decode b_Model_year 27 = .ok (.lconst 1, 1) := by decide +kernel
theorem d_Model_year_28 : decode b_Model_year 28 = .ok (.invokestatic 111, 3) := by decide +kernel
theorem d_Model_year_31 : decode b_Model_year 31 = .ok (.ifCond .ne 6, 3) := by decide +kernel
theorem d_Model_year_34 : decode b_Model_year 34 = .ok (.bipush (-2), 2) := by decide +kernel
theorem d_Model_year_36 : decode b_Model_year 36 = .ok (.ireturn, 1) := by decide +kernel
theorem d_Model_year_37 : decode b_Model_year 37 = .ok (.iload_n 1, 1) := by decide +kernel
theorem d_Model_year_38 : decode b_Model_year 38 = .ok (.istore 4, 2) := by decide +kernel
theorem d_Model_year_40 : decode b_Model_year 40 = .ok (.iconst 0, 1) := by decide +kernel
theorem d_Model_year_41 : decode b_Model_year 41 = .ok (.istore 5, 2) := by decide +kernel
theorem d_Model_year_43 : decode b_Model_year 43 = .ok (.iconst 0, 1) := by decide +kernel
theorem d_Model_year_44 : decode b_Model_year 44 = .ok (.istore 6, 2) := by decide +kernel
theorem d_Model_year_46 : decode b_Model_year 46 = .ok (.iconst 0, 1) := by decide +kernel
theorem d_Model_year_47 : decode b_Model_year 47 = .ok (.istore 7, 2) := by decide +kernel
theorem d_Model_year_49 : decode b_Model_year 49 = .ok (.iload 7, 2) := by decide +kernel
theorem d_Model_year_51 : decode b_Model_year 51 = .ok (.iload_n 2, 1) := by decide +kernel
theorem d_Model_year_52 : decode b_Model_year 52 = .ok (.if_icmp .ge 73, 3) := by decide +kernel
theorem d_Model_year_55 : decode b_Model_year 55 = .ok (.ldc2_w 196, 3) := by decide +kernel
theorem d_Model_year_58 : decode b_Model_year 58 = .ok (.iload 4, 2) := by decide +kernel
theorem d_Model_year_60 : decode b_Model_year 60 = .ok (.i2l, 1) := by decide +kernel
theorem d_Model_year_61 : decode b_Model_year 61 = .ok (.lmul, 1) := by decide +kernel
theorem d_Model_year_62 : decode b_Model_year 62 = .ok (.ldc2_w 198, 3) := by decide +kernel
theorem d_Model_year_65 : decode b_Model_year 65 = .ok (.ladd, 1) := by decide +kernel
theorem d_Model_year_66 : decode b_Model_year 66 = .ok (.ldc2_w 200, 3) := by decide +kernel
theorem d_Model_year_69 : decode b_Model_year 69 = .ok (.lrem, 1) := by decide +kernel
theorem d_Model_year_70 : decode b_Model_year 70 = .ok (.l2i, 1) := by decide +kernel
theorem d_Model_year_71 : decode b_Model_year 71 = .ok (.istore 4, 2) := by decide +kernel
theorem d_Model_year_73 : decode b_Model_year 73 = .ok (.aload_n 0, 1) := by decide +kernel
theorem d_Model_year_74 : decode b_Model_year 74 = .ok (.getfield 25, 3) := by decide +kernel
theorem d_Model_year_77 : decode b_Model_year 77 = .ok (.iload 4, 2) := by decide +kernel
theorem d_Model_year_79 : decode b_Model_year 79 = .ok (.aload_n 0, 1) := by decide +kernel
theorem d_Model_year_80 : decode b_Model_year 80 = .ok (.getfield 86, 3) := by decide +kernel
theorem d_Model_year_83 : decode b_Model_year 83 = .ok (.irem, 1) := by decide +kernel
theorem d_Model_year_84 : decode b_Model_year 84 = .ok (.iaload, 1) := by decide +kernel
theorem d_Model_year_85 : decode b_Model_year 85 = .ok (.istore 8, 2) := by decide +kernel
theorem d_Model_year_87 : decode b_Model_year 87 = .ok (.iload 5, 2) := by decide +kernel
theorem d_Model_year_89 : decode b_Model_year 89 = .ok (.aload_n 0, 1) := by decide +kernel
theorem d_Model_year_90 : decode b_Model_year 90 = .ok (.bipush 63, 2) := by decide +kernel
theorem d_Model_year_92 : decode b_Model_year 92 = .ok (.iload 8, 2) := by decide +kernel
theorem d_Model_year_94 : decode b_Model_year 94 = .ok (.invokevirtual 189, 3) := by decide +kernel
theorem d_Model_year_97 : decode b_Model_year 97 = .ok (.ifCond .eq 7, 3) := by decide +kernel
theorem d_Model_year_100 : decode b_Model_year 100 = .ok (.iconst 1, 1) := by decide +kernel
theorem d_Model_year_101 : decode b_Model_year 101 = .ok (.goto 4, 3) := by decide +kernel
theorem d_Model_year_104 : decode b_Model_year 104 = .ok (.iconst 0, 1) := by decide +kernel
theorem d_Model_year_105 : decode b_Model_year 105 = .ok (.iadd, 1) := by decide +kernel
theorem d_Model_year_106 : decode b_Model_year 106 = .ok (.istore 5, 2) := by decide +kernel
theorem d_Model_year_108 : decode b_Model_year 108 = .ok (.iload 6, 2) := by decide +kernel
theorem d_Model_year_110 : decode b_Model_year 110 = .ok (.aload_n 0, 1) := by decide +kernel
theorem d_Model_year_111 : decode b_Model_year 111 = .ok (.iload 8, 2) := by decide +kernel
theorem d_Model_year_113 : decode b_Model_year 113 = .ok (.invokevirtual 160, 3) := by decide +kernel
theorem d_Model_year_116 : decode b_Model_year 116 = .ok (.iadd, 1) := by decide +kernel
theorem d_Model_year_117 : decode b_Model_year 117 = .ok (.istore 6, 2) := by decide +kernel
theorem d_Model_year_119 : decode b_Model_year 119 = .ok (.iinc 7 1, 3) := by decide +kernel
theorem d_Model_year_122 : decode b_Model_year 122 = .ok (.goto (-73), 3) := by decide +kernel
theorem d_Model_year_125 : decode b_Model_year 125 = .ok (.iload_n 3, 1) := by decide +kernel
theorem d_Model_year_126 : decode b_Model_year 126 = .ok (.ifCond .ne 8, 3) := by decide +kernel
theorem d_Model_year_129 : decode b_Model_year 129 = .ok (.iload 5, 2) := by decide +kernel
theorem d_Model_year_131 : decode b_Model_year 131 = .ok (.goto 5, 3) := by decide +kernel
theorem d_Model_year_134 : decode b_Model_year 134 = .ok (.iload 6, 2) := by decide +kernel
theorem d_Model_year_136 : decode b_Model_year 136 = .ok (.ireturn, 1) := by decide +kernel
theorem d_Model_image_0 : decode b_Model_image 0 = .ok (.iload_n 1, 1) := by decide +kernel
theorem d_Model_image_1 : decode b_Model_image 1 = .ok (.i2l, 1) := by decide +kernel
theorem d_Model_image_2 : decode b_Model_image 2 = .ok (.lconst 0, 1) := by decide +kernel
theorem d_Model_image_3 : decode b_Model_image 3 = .ok (.lconst 1, 1) := by decide +kernel
theorem d_Model_image_4 : decode b_Model_image 4 = .ok (.invokestatic 111, 3) := by decide +kernel
theorem d_Model_image_7 : decode b_Model_image 7 = .ok (.ifCond .ne 6, 3) := by decide +kernel
theorem d_Model_image_10 : decode b_Model_image 10 = .ok (.bipush (-2), 2) := by decide +kernel
theorem d_Model_image_12 : decode b_Model_image 12 = .ok (.ireturn, 1) := by decide +kernel
theorem d_Model_image_13 : decode b_Model_image 13 = .ok (.aload_n 0, 1) := by decide +kernel
theorem d_Model_image_14 : decode b_Model_image 14 = .ok (.bipush 60, 2) := by decide +kernel
theorem d_Model_image_16 : decode b_Model_image 16 = .ok (.iload_n 1, 1) := by decide +kernel
theorem d_Model_image_17 : decode b_Model_image 17 = .ok (.imul, 1) := by decide +kernel
theorem d_Model_image_18 : decode b_Model_image 18 = .ok (.putfield 206, 3) := by decide +kernel
theorem d_Model_image_21 : decode b_Model_image 21 = .ok (.aload_n 0, 1) := by decide +kernel
theorem d_Model_image_22 : decode b_Model_image 22 = .ok (.iconst 1, 1) := by decide +kernel
theorem d_Model_image_23 : decode b_Model_image 23 = .ok (.putfield 202, 3) := by decide +kernel
theorem d_Model_image_26 : decode b_Model_image 26 = .ok (.aload_n 0, 1) := by decide +kernel
theorem d_Model_image_27 : decode b_Model_image 27 = .ok (.invokevirtual 212, 3) := by decide +kernel
theorem d_Model_image_30 : decode b_Model_image 30 = .ok (.aload_n 0, 1) := by decide +kernel
theorem d_Model_image_31 : decode b_Model_image 31 = .ok (.getfield 53, 3) := by decide +kernel
theorem d_Model_image_34 : decode b_Model_image 34 = .ok (.iload_n 1, 1) := by decide +kernel
theorem d_Model_image_35 : decode b_Model_image 35 = .ok (.iconst 1, 1) := by decide +kernel
theorem d_Model_image_36 : decode b_Model_image 36 = .ok (.bastore, 1) := by decide +kernel
theorem d_Model_image_37 : decode b_Model_image 37 = .ok (.iconst 1, 1) := by decide +kernel
theorem d_Model_image_38 : decode b_Model_image 38 = .ok (.ireturn, 1) := by decide +kernel
theorem d_Model_passAll_0 : decode b_Model_passAll 0 = .ok (.aload_n 0, 1) := by decide +kernel
theorem d_Model_passAll_1 : decode b_Model_passAll 1 = .ok (.aload_n 0, 1) := by decide +kernel
theorem d_Model_passAll_2 : decode b_Model_passAll 2 = .ok (.aload_n 0, 1) := by decide +kernel
theorem d_Model_passAll_3 : decode b_Model_passAll 3 = .ok (.getfield 61, 3) := by decide +kernel
theorem d_Model_passAll_6 : decode b_Model_passAll 6 = .ok (.invokevirtual 209, 3) := by decide +kernel
theorem d_Model_passAll_9 : decode b_Model_passAll 9 = .ok (.putfield 61, 3) := by decide +kernel
theorem d_Model_passAll_12 : decode b_Model_passAll 12 = .ok (.aload_n 0, 1) := by decide +kernel
theorem d_Model_passAll_13 : decode b_Model_passAll 13 = .ok (.aload_n 0, 1) := by decide +kernel
theorem d_Model_passAll_14 : decode b_Model_passAll 14 = .ok (.aload_n 0, 1) := by decide +kernel
theorem d_Model_passAll_15 : decode b_Model_passAll 15 = .ok (.getfield 65, 3) := by decide +kernel
theorem d_Model_passAll_18 : decode b_Model_passAll 18 = .ok (.invokevirtual 209, 3) := by decide +kernel
theorem d_Model_passAll_21 : decode b_Model_passAll 21 = .ok (.putfield 65, 3) := by decide +kernel
theorem d_Model_passAll_24 : decode b_Model_passAll 24 = .ok (.aload_n 0, 1) := by decide +kernel
theorem d_Model_passAll_25 : decode b_Model_passAll 25 = .ok (.aload_n 0, 1) := by decide +kernel
theorem d_Model_passAll_26 : decode b_Model_passAll 26 = .ok (.aload_n 0, 1) := by decide +kernel
theorem d_Model_passAll_27 : decode b_Model_passAll 27 = .ok (.getfield 68, 3) := by decide +kernel
theorem d_Model_passAll_30 : decode b_Model_passAll 30 = .ok (.invokevirtual 209, 3) := by decide +kernel
theorem d_Model_passAll_33 : decode b_Model_passAll 33 = .ok (.putfield 68, 3) := by decide +kernel
theorem d_Model_passAll_36 : decode b_Model_passAll 36 = .ok (.aload_n 0, 1) := by decide +kernel
theorem d_Model_passAll_37 : decode b_Model_passAll 37 = .ok (.aload_n 0, 1) := by decide +kernel
theorem d_Model_passAll_38 : decode b_Model_passAll 38 = .ok (.aload_n 0, 1) := by decide +kernel
theorem d_Model_passAll_39 : decode b_Model_passAll 39 = .ok (.getfield 71, 3) := by decide +kernel
theorem d_Model_passAll_42 : decode b_Model_passAll 42 = .ok (.invokevirtual 209, 3) := by decide +kernel
theorem d_Model_passAll_45 : decode b_Model_passAll 45 = .ok (.putfield 71, 3) := by decide +kernel
theorem d_Model_passAll_48 : decode b_Model_passAll 48 = .ok (.aload_n 0, 1) := by decide +kernel
theorem d_Model_passAll_49 : decode b_Model_passAll 49 = .ok (.aload_n 0, 1) := by decide +kernel
theorem d_Model_passAll_50 : decode b_Model_passAll 50 = .ok (.aload_n 0, 1) := by decide +kernel
theorem d_Model_passAll_51 : decode b_Model_passAll 51 = .ok (.getfield 74, 3) := by decide +kernel
theorem d_Model_passAll_54 : decode b_Model_passAll 54 = .ok (.invokevirtual 209, 3) := by decide +kernel
theorem d_Model_passAll_57 : decode b_Model_passAll 57 = .ok (.putfield 74, 3) := by decide +kernel
theorem d_Model_passAll_60 : decode b_Model_passAll 60 = .ok (.aload_n 0, 1) := by decide +kernel
theorem d_Model_passAll_61 : decode b_Model_passAll 61 = .ok (.aload_n 0, 1) := by decide +kernel
theorem d_Model_passAll_62 : decode b_Model_passAll 62 = .ok (.aload_n 0, 1) := by decide +kernel
theorem d_Model_passAll_63 : decode b_Model_passAll 63 = .ok (.getfield 77, 3) := by decide +kernel
theorem d_Model_passAll_66 : decode b_Model_passAll 66 = .ok (.invokevirtual 209, 3) := by decide +kernel
theorem d_Model_passAll_69 : decode b_Model_passAll 69 = .ok (.putfield 77, 3) := by decide +kernel
theorem d_Model_passAll_72 : decode b_Model_passAll 72 = .ok (.aload_n 0, 1) := by decide +kernel
theorem d_Model_passAll_73 : decode b_Model_passAll 73 = .ok (.aload_n 0, 1) := by decide +kernel
theorem d_Model_passAll_74 : decode b_Model_passAll 74 = .ok (.aload_n 0, 1) := by decide +kernel
theorem d_Model_passAll_75 : decode b_Model_passAll 75 = .ok (.getfield 80, 3) := by decide +kernel
theorem d_Model_passAll_78 : decode b_Model_passAll 78 = .ok (.invokevirtual 209, 3) := by decide +kernel
theorem d_Model_passAll_81 : decode b_Model_passAll 81 = .ok (.putfield 80, 3) := by decide +kernel
theorem d_Model_passAll_84 : decode b_Model_passAll 84 = .ok (.iconst 0, 1) := by decide +kernel
theorem d_Model_passAll_85 : decode b_Model_passAll 85 = .ok (.istore_n 1, 1) := by decide +kernel
theorem d_Model_passAll_86 : decode b_Model_passAll 86 = .ok (.iload_n 1, 1) := by decide +kernel
theorem d_Model_passAll_87 : decode b_Model_passAll 87 = .ok (.bipush 6, 2) := by decide +kernel
theorem d_Model_passAll_89 : decode b_Model_passAll 89 = .ok (.if_icmp .ge 73, 3) := by decide +kernel
theorem d_Model_passAll_92 : decode b_Model_passAll 92 = .ok (.aload_n 0, 1) := by decide +kernel
theorem d_Model_passAll_93 : decode b_Model_passAll 93 = .ok (.getfield 7, 3) := by decide +kernel
theorem d_Model_passAll_96 : decode b_Model_passAll 96 = .ok (.iload_n 1, 1) := by decide +kernel
theorem d_Model_passAll_97 : decode b_Model_passAll 97 = .ok (.aload_n 0, 1) := by decide +kernel
theorem d_Model_passAll_98 : decode b_Model_passAll 98 = .ok (.aload_n 0, 1) := by decide +kernel
theorem d_Model_passAll_99 : decode b_Model_passAll 99 = .ok (.getfield 7, 3) := by decide +kernel
theorem d_Model_passAll_102 : decode b_Model_passAll 102 = .ok (.iload_n 1, 1) := by decide +kernel
theorem d_Model_passAll_103 : decode b_Model_passAll 103 = .ok (.iaload, 1) := by decide +kernel
theorem d_Model_passAll_104 : decode b_Model_passAll 104 = .ok (.invokevirtual 209, 3) := by decide +kernel
theorem d_Model_passAll_107 : decode b_Model_passAll 107 = .ok (.iastore, 1) := by decide +kernel
theorem d_Model_passAll_108 : decode b_Model_passAll 108 = .ok (.aload_n 0, 1) := by decide +kernel
theorem d_Model_passAll_109 : decode b_Model_passAll 109 = .ok (.getfield 16, 3) := by decide +kernel
theorem d_Model_passAll_112 : decode b_Model_passAll 112 = .ok (.iload_n 1, 1) := by decide +kernel
theorem d_Model_passAll_113 : decode b_Model_passAll 113 = .ok (.aload_n 0, 1) := by decide +kernel
theorem d_Model_passAll_114 : decode b_Model_passAll 114 = .ok (.aload_n 0, 1) := by decide +kernel
theorem d_Model_passAll_115 : decode b_Model_passAll 115 = .ok (.getfield 16, 3) := by decide +kernel
theorem d_Model_passAll_118 : decode b_Model_passAll 118 = .ok (.iload_n 1, 1) := by decide +kernel
theorem d_Model_passAll_119 : decode b_Model_passAll 119 = .ok (.iaload, 1) := by decide +kernel
theorem d_Model_passAll_120 : decode b_Model_passAll 120 = .ok (.invokevirtual 209, 3) := by decide +kernel
theorem d_Model_passAll_123 : decode b_Model_passAll 123 = .ok (.iastore, 1) := by decide +kernel
theorem d_Model_passAll_124 : decode b_Model_passAll 124 = .ok (.aload_n 0, 1) := by decide +kernel
theorem d_Model_passAll_125 : decode b_Model_passAll 125 = .ok (.getfield 19, 3) := by decide +kernel
theorem d_Model_passAll_128 : decode b_Model_passAll 128 = .ok (.iload_n 1, 1) := by decide +kernel
theorem d_Model_passAll_129 : decode b_Model_passAll 129 = .ok (.aload_n 0, 1) := by decide +kernel
theorem d_Model_passAll_130 : decode b_Model_passAll 130 = .ok (.aload_n 0, 1) := by decide +kernel
theorem d_Model_passAll_131 : decode b_Model_passAll 131 = .ok (.getfield 19, 3) := by decide +kernel
theorem d_Model_passAll_134 : decode b_Model_passAll 134 = .ok (.iload_n 1, 1) := by decide +kernel
theorem d_Model_passAll_135 : decode b_Model_passAll 135 = .ok (.iaload, 1) := by decide +kernel
theorem d_Model_passAll_136 : decode b_Model_passAll 136 = .ok (.invokevirtual 209, 3) := by decide +kernel
theorem d_Model_passAll_139 : decode b_Model_passAll 139 = .ok (.iastore, 1) := by decide +kernel
theorem d_Model_passAll_140 : decode b_Model_passAll 140 = .ok (.aload_n 0, 1) := by decide +kernel
theorem d_Model_passAll_141 : decode b_Model_passAll 141 = .ok (.getfield 22, 3) := by decide +kernel
theorem d_Model_passAll_144 : decode b_Model_passAll 144 = .ok (.iload_n 1, 1) := by decide +kernel
theorem d_Model_passAll_145 : decode b_Model_passAll 145 = .ok (.aload_n 0, 1) := by decide +kernel
theorem d_Model_passAll_146 : decode b_Model_passAll 146 = .ok (.aload_n 0, 1) := by decide +kernel
theorem d_Model_passAll_147 : decode b_Model_passAll 147 = .ok (.getfield 22, 3) := by decide +kernel
theorem d_Model_passAll_150 : decode b_Model_passAll 150 = .ok (.iload_n 1, 1) := by decide +kernel
theorem d_Model_passAll_151 : decode b_Model_passAll 151 = .ok (.iaload, 1) := by decide +kernel
theorem d_Model_passAll_152 : decode b_Model_passAll 152 = .ok (.invokevirtual 209, 3) := by decide +kernel
theorem d_Model_passAll_155 : decode b_Model_passAll 155 = .ok (.iastore, 1) := by decide +kernel
theorem d_Model_passAll_156 : decode b_Model_passAll 156 = .ok (.iinc 1 1, 3) := by decide +kernel
theorem d_Model_passAll_159 : decode b_Model_passAll 159 = .ok (.goto (-73), 3) := by decide +kernel
theorem d_Model_passAll_162 : decode b_Model_passAll 162 = .ok (.iconst 0, 1) := by decide +kernel
theorem d_Model_passAll_163 : decode b_Model_passAll 163 = .ok (.istore_n 1, 1) := by decide +kernel
theorem d_Model_passAll_164 : decode b_Model_passAll 164 = .ok (.iload_n 1, 1) := by decide +kernel
theorem d_Model_passAll_165 : decode b_Model_passAll 165 = .ok (.bipush 9, 2) := by decide +kernel
theorem d_Model_passAll_167 : decode b_Model_passAll 167 = .ok (.if_icmp .ge 25, 3) := by decide +kernel
theorem d_Model_passAll_170 : decode b_Model_passAll 170 = .ok (.aload_n 0, 1) := by decide +kernel
theorem d_Model_passAll_171 : decode b_Model_passAll 171 = .ok (.getfield 13, 3) := by decide +kernel
theorem d_Model_passAll_174 : decode b_Model_passAll 174 = .ok (.iload_n 1, 1) := by decide +kernel
theorem d_Model_passAll_175 : decode b_Model_passAll 175 = .ok (.aload_n 0, 1) := by decide +kernel
theorem d_Model_passAll_176 : decode b_Model_passAll 176 = .ok (.aload_n 0, 1) := by decide +kernel
theorem d_Model_passAll_177 : decode b_Model_passAll 177 = .ok (.getfield 13, 3) := by decide +kernel
theorem d_Model_passAll_180 : decode b_Model_passAll 180 = .ok (.iload_n 1, 1) := by decide +kernel
theorem d_Model_passAll_181 : decode b_Model_passAll 181 = .ok (.iaload, 1) := by decide +kernel
theorem d_Model_passAll_182 : decode b_Model_passAll 182 = .ok (.invokevirtual 209, 3) := by decide +kernel
theorem d_Model_passAll_185 : decode b_Model_passAll 185 = .ok (.iastore, 1) := by decide +kernel
theorem d_Model_passAll_186 : decode b_Model_passAll 186 = .ok (.iinc 1 1, 3) := by decide +kernel
theorem d_Model_passAll_189 : decode b_Model_passAll 189 = .ok (.goto (-25), 3) := by decide +kernel
theorem d_Model_passAll_192 : decode b_Model_passAll 192 = .ok (.aload_n 0, 1) := by decide +kernel
theorem d_Model_passAll_193 : decode b_Model_passAll 193 = .ok (.invokevirtual 83, 3) := by decide +kernel
theorem d_Model_passAll_196 : decode b_Model_passAll 196 = .ok (.return_, 1) := by decide +kernel
theorem d_Model_pass_0 : decode b_Model_pass 0 = .ok (.aload_n 0, 1) := by decide +kernel
theorem d_Model_pass_1 : decode b_Model_pass 1 = .ok (.getfield 202, 3) := by decide +kernel
theorem d_Model_pass_4 : decode b_Model_pass 4 = .ok (.ifCond .eq 7, 3) := by decide +kernel
theorem d_Model_pass_7 : decode b_Model_pass 7 = .ok (.iload_n 1, 1) := by decide +kernel
theorem d_Model_pass_8 : decode b_Model_pass 8 = .ok (.goto 12, 3) := by decide +kernel
theorem d_Model_pass_11 : decode b_Model_pass 11 = .ok (.aload_n 0, 1) := by decide +kernel
theorem d_Model_pass_12 : decode b_Model_pass 12 = .ok (.getfield 50, 3) := by decide +kernel
theorem d_Model_pass_15 : decode b_Model_pass 15 = .ok (.aload_n 0, 1) := by decide +kernel
theorem d_Model_pass_16 : decode b_Model_pass 16 = .ok (.getfield 206, 3) := by decide +kernel
theorem d_Model_pass_19 : decode b_Model_pass 19 = .ok (.iaload, 1) := by decide +kernel
theorem d_Model_pass_20 : decode b_Model_pass 20 = .ok (.istore_n 2, 1) := by decide +kernel
theorem d_Model_pass_21 : decode b_Model_pass 21 = .ok (.aload_n 0, 1) := by decide +kernel
theorem d_Model_pass_22 : decode b_Model_pass 22 = .ok (.getfield 50, 3) := by decide +kernel
theorem d_Model_pass_25 : decode b_Model_pass 25 = .ok (.aload_n 0, 1) := by decide +kernel
theorem d_Model_pass_26 : decode b_Model_pass 26 = .ok (.getfield 206, 3) := by decide +kernel
theorem d_Model_pass_29 : decode b_Model_pass 29 = .ok (.iload_n 2, 1) := by decide +kernel
theorem d_Model_pass_30 : decode b_Model_pass 30 = .ok (.iastore, 1) := by decide +kernel
theorem d_Model_pass_31 : decode b_Model_pass 31 = .ok (.aload_n 0, 1) := by decide +kernel
theorem d_Model_pass_32 : decode b_Model_pass 32 = .ok (.dup, 1) := by decide +kernel
theorem d_Model_pass_33 : decode b_Model_pass 33 = .ok (.getfield 206, 3) := by decide +kernel
theorem d_Model_pass_36 : decode b_Model_pass 36 = .ok (.iconst 1, 1) := by decide +kernel
theorem d_Model_pass_37 : decode b_Model_pass 37 = .ok (.iadd, 1) := by decide +kernel
theorem d_Model_pass_38 : decode b_Model_pass 38 = .ok (.putfield 206, 3) := by decide +kernel
theorem d_Model_pass_41 : decode b_Model_pass 41 = .ok (.iload_n 2, 1) := by decide +kernel
theorem d_Model_pass_42 : decode b_Model_pass 42 = .ok (.ireturn, 1) := by decide +kernel
theorem d_Model_restore_0 : decode b_Model_restore 0 = .ok (.iload_n 1, 1) := by decide +kernel
theorem d_Model_restore_1 : decode b_Model_restore 1 = .ok (.i2l, 1) := by decide +kernel
theorem d_Model_restore_2 : decode b_Model_restore 2 = .ok (.lconst 0, 1) := by decide +kernel
theorem d_Model_restore_3 : decode b_Model_restore 3 = .ok (.lconst 1, 1) := by decide +kernel
theorem d_Model_restore_4 : decode b_Model_restore 4 = .ok (.invokestatic 111, 3) := by decide +kernel
theorem d_Model_restore_7 : decode b_Model_restore 7 = .ok (.ifCond .ne 6, 3) := by decide +kernel
theorem d_Model_restore_10 : decode b_Model_restore 10 = .ok (.bipush (-2), 2) := by decide +kernel
theorem d_Model_restore_12 : decode b_Model_restore 12 = .ok (.ireturn, 1) := by decide +kernel
theorem d_Model_restore_13 : decode b_Model_restore 13 = .ok (.aload_n 0, 1) := by decide +kernel
theorem d_Model_restore_14 : decode b_Model_restore 14 = .ok (.getfield 53, 3) := by decide +kernel
theorem d_Model_restore_17 : decode b_Model_restore 17 = .ok (.iload_n 1, 1) := by decide +kernel
theorem d_Model_restore_18 : decode b_Model_restore 18 = .ok (.baload, 1) := by decide +kernel
theorem d_Model_restore_19 : decode b_Model_restore 19 = .ok (.ifCond .ne 6, 3) := by decide +kernel
theorem d_Model_restore_22 : decode b_Model_restore 22 = .ok (.bipush (-3), 2) := by decide +kernel
theorem d_Model_restore_24 : decode b_Model_restore 24 = .ok (.ireturn, 1) := by decide +kernel
theorem d_Model_restore_25 : decode b_Model_restore 25 = .ok (.aload_n 0, 1) := by decide +kernel
theorem d_Model_restore_26 : decode b_Model_restore 26 = .ok (.bipush 60, 2) := by decide +kernel
theorem d_Model_restore_28 : decode b_Model_restore 28 = .ok (.iload_n 1, 1) := by decide +kernel
theorem d_Model_restore_29 : decode b_Model_restore 29 = .ok (.imul, 1) := by decide +kernel
theorem d_Model_restore_30 : decode b_Model_restore 30 = .ok (.putfield 206, 3) := by decide +kernel
theorem d_Model_restore_33 : decode b_Model_restore 33 = .ok (.aload_n 0, 1) := by decide +kernel
theorem d_Model_restore_34 : decode b_Model_restore 34 = .ok (.iconst 0, 1) := by decide +kernel
theorem d_Model_restore_35 : decode b_Model_restore 35 = .ok (.putfield 202, 3) := by decide +kernel
theorem d_Model_restore_38 : decode b_Model_restore 38 = .ok (.aload_n 0, 1) := by decide +kernel
theorem d_Model_restore_39 : decode b_Model_restore 39 = .ok (.invokevirtual 212, 3) := by decide +kernel
theorem d_Model_restore_42 : decode b_Model_restore 42 = .ok (.iconst 1, 1) := by decide +kernel
theorem d_Model_restore_43 : decode b_Model_restore 43 = .ok (.ireturn, 1) := by decide +kernel
theorem d_Model_told_0 : decode b_Model_told 0 = .ok (.iload_n 1, 1) := by decide +kernel
theorem d_Model_told_1 : decode b_Model_told 1 = .ok (.i2l, 1) := by decide +kernel
theorem d_Model_told_2 : decode b_Model_told 2 = .ok (.ldc2_w 215, 3) := by decide +kernel
theorem d_Model_told_5 : decode b_Model_told 5 = .ok (.ldc2_w 217, 3) := by decide +kernel
theorem d_Model_told_8 : decode b_Model_told 8 = .ok (.invokestatic 111, 3) := by decide +kernel
theorem d_Model_told_11 : decode b_Model_told 11 = .ok (.ifCond .eq 13, 3) := by decide +kernel
theorem d_Model_told_14 : decode b_Model_told 14 = .ok (.aload_n 0, 1) := by decide +kernel
theorem d_Model_told_15 : decode b_Model_told 15 = .ok (.getfield 13, 3) := by decide +kernel
theorem d_Model_told_18 : decode b_Model_told 18 = .ok (.iload_n 1, 1) := by decide +kernel
theorem d_Model_told_19 : decode b_Model_told 19 = .ok (.bipush 10, 2) := by decide +kernel
theorem d_Model_told_21 : decode b_Model_told 21 = .ok (.isub, 1) := by decide +kernel
theorem d_Model_told_22 : decode b_Model_told 22 = .ok (.iaload, 1) := by decide +kernel
theorem d_Model_told_23 : decode b_Model_told 23 = .ok (.ireturn, 1) := by decide +kernel
theorem d_Model_told_24 : decode b_Model_told 24 = .ok (.iload_n 1, 1) := by decide +kernel
theorem d_Model_told_25 : decode b_Model_told 25 = .ok (.tableswitch 87 0 7 #[47, 52, 57, 62, 67, 72, 77, 82], 47) := by decide +kernel
theorem d_Model_told_72 : decode b_Model_told 72 = .ok (.aload_n 0, 1) := by decide +kernel
theorem d_Model_told_73 : decode b_Model_told 73 = .ok (.getfield 121, 3) := by decide +kernel
theorem d_Model_told_76 : decode b_Model_told 76 = .ok (.ireturn, 1) := by decide +kernel
theorem d_Model_told_77 : decode b_Model_told 77 = .ok (.aload_n 0, 1) := by decide +kernel
theorem d_Model_told_78 : decode b_Model_told 78 = .ok (.getfield 61, 3) := by decide +kernel
theorem d_Model_told_81 : decode b_Model_told 81 = .ok (.ireturn, 1) := by decide +kernel
theorem d_Model_told_82 : decode b_Model_told 82 = .ok (.aload_n 0, 1) := by decide +kernel
theorem d_Model_told_83 : decode b_Model_told 83 = .ok (.getfield 65, 3) := by decide +kernel
theorem d_Model_told_86 : decode b_Model_told 86 = .ok (.ireturn, 1) := by decide +kernel
theorem d_Model_told_87 : decode b_Model_told 87 = .ok (.aload_n 0, 1) := by decide +kernel
theorem d_Model_told_88 : decode b_Model_told 88 = .ok (.getfield 68, 3) := by decide +kernel
theorem d_Model_told_91 : decode b_Model_told 91 = .ok (.ireturn, 1) := by decide +kernel
theorem d_Model_told_92 : decode b_Model_told 92 = .ok (.aload_n 0, 1) := by decide +kernel
theorem d_Model_told_93 : decode b_Model_told 93 = .ok (.getfield 71, 3) := by decide +kernel
theorem d_Model_told_96 : decode b_Model_told 96 = .ok (.ireturn, 1) := by decide +kernel
theorem d_Model_told_97 : decode b_Model_told 97 = .ok (.aload_n 0, 1) := by decide +kernel
theorem d_Model_told_98 : decode b_Model_told 98 = .ok (.getfield 74, 3) := by decide +kernel
theorem d_Model_told_101 : decode b_Model_told 101 = .ok (.ireturn, 1) := by decide +kernel
theorem d_Model_told_102 : decode b_Model_told 102 = .ok (.aload_n 0, 1) := by decide +kernel
theorem d_Model_told_103 : decode b_Model_told 103 = .ok (.getfield 77, 3) := by decide +kernel
theorem d_Model_told_106 : decode b_Model_told 106 = .ok (.ireturn, 1) := by decide +kernel
theorem d_Model_told_107 : decode b_Model_told 107 = .ok (.aload_n 0, 1) := by decide +kernel
theorem d_Model_told_108 : decode b_Model_told 108 = .ok (.getfield 80, 3) := by decide +kernel
theorem d_Model_told_111 : decode b_Model_told 111 = .ok (.ireturn, 1) := by decide +kernel
theorem d_Model_told_112 : decode b_Model_told 112 = .ok (.bipush (-2), 2) := by decide +kernel
theorem d_Model_told_114 : decode b_Model_told 114 = .ok (.ireturn, 1) := by decide +kernel
